/-! ===== the reference: careless, each, hold ===== -/
theorem gTurns_sd {L : yL} {A : yN} {p : yP} (hp : p.2.2.1 = false) (s : Nat) (w : Nat → Nat) (day gone : Nat) (x : yA) : ∀ g, (gTurns L A p s w day gone g x).1 = x.1
  | 0 => rfl
  | g + 1 => by
    have ih := gTurns_sd (L := L) (A := A) hp s w day gone x g
    have key : ∀ (o : Option (List Nat)) (mk : Bool) (z : yA), (gWay A.1.2.1 (L.2.1 g 3) A.2 w mk g o z).1 = z.1 := by
      intro o mk z
      cases o <;> rfl
    show (gTurn L A p s w day gone g (gTurns L A p s w day gone g x)).1 = _
    unfold gTurn
    split
    · rw [if_neg (fun q => by have := q.1; rw [hp] at this; cases this), key]; exact ih
    · exact ih
theorem dDays_sd {L : yL} {A : yN} {p : yP} (hp : p.2.2.1 = false) (R : Nat × (Nat → Nat)) (rule : Nat) (x : yS) : ∀ d, (dDays L A p R rule d x).2.2.1 = x.2.2.1
  | 0 => rfl
  | d + 1 => (gTurns_sd hp _ _ _ _ _ _).trans (dDays_sd hp R rule x d)
/-- the cost by a rule -/
noncomputable def dCo (D : yD) (p : yP) (R : Nat × (Nat → Nat)) (rule d : Nat) (sd : Int32) : Nat := (dDays D.1 D.2.1 p R rule d (x0 D sd)).2.2.2.1.1
abbrev pCa (p : yP) (g : Nat) : yP := (p.1, p.2.1, p.2.2.1, some g, p.2.2.2.2)
abbrev pAb (p : yP) (g : Nat) : yP := (some g, p.2)
section MEA
variable {E : zE} {b : Nat} {G : zG} {t : zT} {h : zH} {D : yD} {p : yP} {R : Nat × (Nat → Nat)}
theorem mSd.ca (hD : sdOk D p) (hm : mSd h D p) (g : Nat) (hg : g < 14) : mSd (zsI h 157 35 (nI g)) D (pCa p g) ∧ sdOk D (pCa p g) := by
  have hpo := hD.1.2.2
  refine ⟨?_, ⟨⟨hD.1.1, hD.1.2.1, hpo.1, hpo.2.1, hpo.2.2.1, fun x e => by cases e; exact hg, hpo.2.2.2.2⟩, hD.2⟩⟩
  refine hm.pl hD (fun i k hn => ?_) rfl rfl rfl rfl rfl ?_ ?_
  · unfold sp at hn
    rw [zI_sI, if_neg (by omega)]
  · rw [zI_sI, if_neg (by omega)]; exact hm.2.2.2.2.1
  · obtain ⟨p1, p2, p3, p4, p5, p6, p7⟩ := hm.2.1
    refine ⟨?_, ?_, fun q => ?_, ?_, zI_self _ _ _ _, ?_, ?_⟩ <;> rw [zI_sI, if_neg (by omega)] <;> first | assumption | exact p3 q
theorem mSd.ab (hD : sdOk D p) (hm : mSd h D p) (g : Nat) (hg : g < 14) : mSd (zsI h 157 36 (nI g)) D (pAb p g) ∧ sdOk D (pAb p g) := by
  have hpo := hD.1.2.2
  refine ⟨?_, ⟨⟨hD.1.1, hD.1.2.1, fun x e => by cases e; exact hg, hpo.2⟩, hD.2⟩⟩
  refine hm.pl hD (fun i k hn => ?_) rfl rfl rfl rfl rfl ?_ ?_
  · unfold sp at hn
    rw [zI_sI, if_neg (by omega)]
  · rw [zI_sI, if_neg (by omega)]; exact hm.2.2.2.2.1
  · obtain ⟨p1, p2, p3, p4, p5, p6, p7⟩ := hm.2.1
    refine ⟨zI_self _ _ _ _, ?_, fun q => ?_, ?_, ?_, ?_, ?_⟩ <;> rw [zI_sI, if_neg (by omega)] <;> first | assumption | exact p3 q
theorem mRo.si (hro : mRo h R) (k : Nat) (v : Int32) (hk : ¬ k = 20) : mRo (zsI h 157 k v) R := ⟨by rw [zI_sI, if_neg (by omega)]; exact hro.1, fun j hj => by rw [zI_sI, if_neg (by omega)]; exact hro.2 j hj⟩
theorem c_careless1 {l : Launch} (hT : zTM t) (hD : sdOk D p) (hm : mSd h D p) (h0 : p.2.2.2.2.1 = none) (h1 : p.2.2.2.1 = none) (h2 : p.2.2.1 = false) (hRo : roOk R) (hro : mRo h R) (hR0 : 0 < R.1) (g d : Nat) (hg : g < D.1.1.2.1) (hd1 : 1 ≤ d) (hd : d ≤ 366) (htd : D.2.2.2 + d < 2 ^ 20) : zMet E b l yX11_careless cX11_careless 7 (some .long) 7 0 0 [.ref (b + 157), .int (nI g), .int (nI d)] t h (qJ (fun v t' h' => v = lN (dCo D (pAs (pCa p g) g) R 1 d (zI h 157 41)) - lN (dCo D (pAs p g) R 1 d (zI h 157 41)) ∧ mCall h t D p 0 t' h')) := by
  have hm0 := hm.th hD 0
  have hro0 := mRo.ag4 (zAg4.th h 0) hro
  have t3 := hm0.1.2.1
  have hng := hD.1.2.1.2.2.1
  have hR30 := hRo.1
  have e1 : zI (zsI h 157 0 0) 157 41 = zI h 157 41 := by rw [zI_sI, if_neg (by omega)]
  have o2 : (1 ≤ nI d ∧ nI d ≤ 366) := daysOk.mpr ⟨d, hd1, hd, rfl⟩
  refine zMet.of (ls := [some (.ref (b + 157)), some (.int (nI g)), some (.int (nI d)), none, none, none, none]) (by decide) (zle rfl) 4 rfl ?_
  intro G hlG C hR hE hin
  refine zz_aload_0 C dX11_careless_0 <| zz_iconst_0 C dX11_careless_1 <| zy_putI C fX11_104 pX11_0 (tM_K hT) dX11_careless_2 <| zz_aload_0 C dX11_careless_5 <| zz_aload_0 C dX11_careless_6 <| zz_iload_1 C dX11_careless_7 <| zpc 8 rfl <| ?_
  refine zf_callVI C hR [_] (c_isGoing hT _) lX11_200 rfl (tM_K hT) (by decide) rfl ⟨zle rfl, zle rfl, zle rfl, zle rfl⟩ (zle rfl) dX11_careless_8 ?_
  refine zz_if_ne C 18 dX11_careless_11 (by decide) (fun c11 => ?_) (fun c11 => ?_)
  · refine zz_iconst_0 C dX11_careless_18 <| zz_iconst_1 C dX11_careless_19 <| zpc 20 rfl <| ?_
    refine zf_callVI C hR [_, _] (c_bad0 hT _ (by decide) (by first | exact zI_self _ _ _ _ | assumption)) lX11_181 rfl (tM_K hT) (by decide) rfl ⟨zle rfl, zle rfl, zle rfl, zle rfl⟩ (zle rfl) dX11_careless_20 ?_
    refine zz_if_ne C 66 dX11_careless_23 (by decide) (fun c23 => ?_) (fun c23 => ?_)
    · exact absurd rfl c23
    · refine zz_aload_0 C dX11_careless_26 <| zz_iload_2 C dX11_careless_27 <| zpc 28 rfl <| ?_
      refine zf_callSI C hR [_] (c_areDays _) lX11_299 rfl ⟨zle rfl, zle rfl, zle rfl, zle rfl⟩ (zle rfl) dX11_careless_28 ?_
      refine zz_if_ne C 38 dX11_careless_31 (by decide) (fun c31 => ?_) (fun c31 => ?_)
      · refine zz_iconst_0 C dX11_careless_38 <| zz_iconst_2 C dX11_careless_39 <| zpc 40 rfl <| ?_
        refine zf_callVI C hR [_, _] (c_bad0 hT _ (by decide) (by first | exact zI_self _ _ _ _ | assumption)) lX11_181 rfl (tM_K hT) (by decide) rfl ⟨zle rfl, zle rfl, zle rfl, zle rfl⟩ (zle rfl) dX11_careless_40 ?_
        refine zz_if_ne C 66 dX11_careless_43 (by decide) (fun c43 => ?_) (fun c43 => ?_)
        · exact absurd rfl c43
        · refine zz_aload_0 C dX11_careless_46 <| zz_aload_0 C dX11_careless_47 <| zz_getI C fX11_191 (tM_K hT) dX11_careless_48 <| zpc 51 rfl <| ?_
          rw [hro0.1]
          refine zz_if_ne C 58 dX11_careless_51 (by decide) (fun c51 => ?_) (fun c51 => ?_)
          · refine zz_iconst_0 C dX11_careless_58 <| zz_iconst_3 C dX11_careless_59 <| zpc 60 rfl <| ?_
            refine zf_callVI C hR [_, _] (c_bad0 hT _ (by decide) (by first | exact zI_self _ _ _ _ | assumption)) lX11_181 rfl (tM_K hT) (by decide) rfl ⟨zle rfl, zle rfl, zle rfl, zle rfl⟩ (zle rfl) dX11_careless_60 ?_
            refine zz_if_eq C 68 dX11_careless_63 (by decide) (fun c63 => ?_) (fun c63 => ?_)
            · refine zz_aload_0 C dX11_careless_68 <| zz_iload_1 C dX11_careless_69 <| zz_iconst_1 C dX11_careless_70 <| zz_iload_2 C dX11_careless_71 <| zpc 72 rfl <| ?_
              refine zy_callVJ C hR [_, _, _] (c_othersCost hT hD hm0 h0 hRo hro0 g 1 d (by omega) (by omega) (fun _ => hR0) hd htd) lX11_352 rfl (tM_K hT) (by decide) rfl ⟨zle rfl, zle rfl, zle rfl, zle rfl⟩ (zle rfl) dX11_careless_72 ?_
              intro v t' h' hv; rw [e1] at hv; obtain ⟨rfl, a1, rfl, v2, v3⟩ := hv; obtain ⟨hmc, hDc⟩ := (a1.sd hD hm0).ca hD g (by omega); have hroc := (hro0.ag3 a1).si 35 (nI g) (by decide); have ec : zI (zsI h' 157 35 (nI g)) 157 41 = zI h 157 41 := (by rw [zI_sI, if_neg (by omega), v3, dDays_sd (p := pAs p g) h2]; rfl); have hca : zI h' 157 35 = -1 := (by rw [(a1.sd hD hm0).2.1.2.2.2.2.1, h1]; rfl)
              refine zz_lstore_3 C (zle rfl) rfl dX11_careless_75 <| zz_aload_0 C dX11_careless_76 <| zz_iload_1 C dX11_careless_77 <| zy_putI C fX11_70 pX11_35 (tM_K hT) dX11_careless_78 <| zz_aload_0 C dX11_careless_81 <| zz_iload_1 C dX11_careless_82 <| zz_iconst_1 C dX11_careless_83 <| zz_iload_2 C dX11_careless_84 <| zpc 85 rfl <| ?_
              refine zy_callVJ C hR [_, _, _] (c_othersCost hT hDc hmc h0 hRo hroc g 1 d (by omega) (by omega) (fun _ => hR0) hd htd) lX11_352 rfl (tM_K hT) (by decide) rfl ⟨zle rfl, zle rfl, zle rfl, zle rfl⟩ (zle rfl) dX11_careless_85 ?_
              intro v t'' h'' hv; rw [ec] at hv; obtain ⟨rfl, a2, rfl, w2, w3⟩ := hv
              refine zz_lstore_5 C (zle rfl) rfl dX11_careless_88 <| zz_aload_0 C dX11_careless_90 <| zz_iconst_m1 C dX11_careless_91 <| zy_putI C fX11_70 pX11_35 (tM_K hT) dX11_careless_92 <| zz_lload_5 C dX11_careless_95 <| zz_lload_3 C dX11_careless_97 <| zz_lsub C dX11_careless_98 <| zpc 99 rfl <| ?_
              refine zy_lreturn C hE (zle rfl) (zle rfl) dX11_careless_99 ?_
              have a3 := a1.tr (a2.put hca)
              exact ⟨rfl, rfl, (zAg4.th h 0).tr (.of3 a3), a3.th (zI_self _ _ _ _), a3.sd hD hm0⟩
            · exact absurd rfl c63
          · exact absurd c51 (nI_ne0 hR0 (by omega))
      · rw [zb_eq0] at c31; exact absurd o2 c31
  · rw [zb_eq0, t3, idxOk hng] at c11; exact absurd ⟨g, hg, rfl⟩ c11
theorem c_each1 {l : Launch} (hT : zTM t) (hD : sdOk D p) (hm : mSd h D p) (h0 : p.2.2.2.2.1 = none) (h1 : p.1 = none) (h2 : p.2.2.1 = false) (hRo : roOk R) (hro : mRo h R) (g d : Nat) (hg : g < D.1.1.2.1) (hd1 : 1 ≤ d) (hd : d ≤ 366) (htd : D.2.2.2 + d < 2 ^ 20) : zMet E b l yX11_each cX11_each 7 (some .long) 7 0 0 [.ref (b + 157), .int (nI g), .int (nI d)] t h (qJ (fun v t' h' => v = lN (dCo D (pAs p g) R 0 d (zI h 157 41)) - lN (dCo D (pAs (pAb p g) g) R 0 d (zI h 157 41)) ∧ mCall h t D p 0 t' h')) := by
  have hm0 := hm.th hD 0
  have hro0 := mRo.ag4 (zAg4.th h 0) hro
  have t3 := hm0.1.2.1
  have hng := hD.1.2.1.2.2.1
  have e1 : zI (zsI h 157 0 0) 157 41 = zI h 157 41 := by rw [zI_sI, if_neg (by omega)]
  have o2 : (1 ≤ nI d ∧ nI d ≤ 366) := daysOk.mpr ⟨d, hd1, hd, rfl⟩
  refine zMet.of (ls := [some (.ref (b + 157)), some (.int (nI g)), some (.int (nI d)), none, none, none, none]) (by decide) (zle rfl) 4 rfl ?_
  intro G hlG C hR hE hin
  refine zz_aload_0 C dX11_each_0 <| zz_iconst_0 C dX11_each_1 <| zy_putI C fX11_104 pX11_0 (tM_K hT) dX11_each_2 <| zz_aload_0 C dX11_each_5 <| zz_aload_0 C dX11_each_6 <| zz_iload_1 C dX11_each_7 <| zpc 8 rfl <| ?_
  refine zf_callVI C hR [_] (c_isGoing hT _) lX11_200 rfl (tM_K hT) (by decide) rfl ⟨zle rfl, zle rfl, zle rfl, zle rfl⟩ (zle rfl) dX11_each_8 ?_
  refine zz_if_ne C 18 dX11_each_11 (by decide) (fun c11 => ?_) (fun c11 => ?_)
  · refine zz_iconst_0 C dX11_each_18 <| zz_iconst_1 C dX11_each_19 <| zpc 20 rfl <| ?_
    refine zf_callVI C hR [_, _] (c_bad0 hT _ (by decide) (by first | exact zI_self _ _ _ _ | assumption)) lX11_181 rfl (tM_K hT) (by decide) rfl ⟨zle rfl, zle rfl, zle rfl, zle rfl⟩ (zle rfl) dX11_each_20 ?_
    refine zz_if_ne C 46 dX11_each_23 (by decide) (fun c23 => ?_) (fun c23 => ?_)
    · exact absurd rfl c23
    · refine zz_aload_0 C dX11_each_26 <| zz_iload_2 C dX11_each_27 <| zpc 28 rfl <| ?_
      refine zf_callSI C hR [_] (c_areDays _) lX11_299 rfl ⟨zle rfl, zle rfl, zle rfl, zle rfl⟩ (zle rfl) dX11_each_28 ?_
      refine zz_if_ne C 38 dX11_each_31 (by decide) (fun c31 => ?_) (fun c31 => ?_)
      · refine zz_iconst_0 C dX11_each_38 <| zz_iconst_2 C dX11_each_39 <| zpc 40 rfl <| ?_
        refine zf_callVI C hR [_, _] (c_bad0 hT _ (by decide) (by first | exact zI_self _ _ _ _ | assumption)) lX11_181 rfl (tM_K hT) (by decide) rfl ⟨zle rfl, zle rfl, zle rfl, zle rfl⟩ (zle rfl) dX11_each_40 ?_
        refine zz_if_eq C 48 dX11_each_43 (by decide) (fun c43 => ?_) (fun c43 => ?_)
        · refine zz_aload_0 C dX11_each_48 <| zz_iload_1 C dX11_each_49 <| zz_iconst_0 C dX11_each_50 <| zz_iload_2 C dX11_each_51 <| zpc 52 rfl <| ?_
          refine zy_callVJ C hR [_, _, _] (c_othersCost hT hD hm0 h0 hRo hro0 g 0 d (by omega) (by omega) (fun q => by cases q) hd htd) lX11_352 rfl (tM_K hT) (by decide) rfl ⟨zle rfl, zle rfl, zle rfl, zle rfl⟩ (zle rfl) dX11_each_52 ?_
          intro v t' h' hv; rw [e1] at hv; obtain ⟨rfl, a1, rfl, v2, v3⟩ := hv; obtain ⟨hmc, hDc⟩ := (a1.sd hD hm0).ab hD g (by omega); have hroc := (hro0.ag3 a1).si 36 (nI g) (by decide); have ec : zI (zsI h' 157 36 (nI g)) 157 41 = zI h 157 41 := (by rw [zI_sI, if_neg (by omega), v3, dDays_sd (p := pAs p g) h2]; rfl); have hca : zI h' 157 36 = -1 := (by rw [(a1.sd hD hm0).2.1.1, h1]; rfl)
          refine zz_lstore_3 C (zle rfl) rfl dX11_each_55 <| zz_aload_0 C dX11_each_56 <| zz_iload_1 C dX11_each_57 <| zy_putI C fX11_73 pX11_36 (tM_K hT) dX11_each_58 <| zz_aload_0 C dX11_each_61 <| zz_iload_1 C dX11_each_62 <| zz_iconst_0 C dX11_each_63 <| zz_iload_2 C dX11_each_64 <| zpc 65 rfl <| ?_
          refine zy_callVJ C hR [_, _, _] (c_othersCost hT hDc hmc h0 hRo hroc g 0 d (by omega) (by omega) (fun q => by cases q) hd htd) lX11_352 rfl (tM_K hT) (by decide) rfl ⟨zle rfl, zle rfl, zle rfl, zle rfl⟩ (zle rfl) dX11_each_65 ?_
          intro v t'' h'' hv; rw [ec] at hv; obtain ⟨rfl, a2, rfl, w2, w3⟩ := hv
          refine zz_lstore_5 C (zle rfl) rfl dX11_each_68 <| zz_aload_0 C dX11_each_70 <| zz_iconst_m1 C dX11_each_71 <| zy_putI C fX11_73 pX11_36 (tM_K hT) dX11_each_72 <| zz_lload_3 C dX11_each_75 <| zz_lload_5 C dX11_each_76 <| zz_lsub C dX11_each_78 <| zpc 79 rfl <| ?_
          refine zy_lreturn C hE (zle rfl) (zle rfl) dX11_each_79 ?_
          have a3 := a1.tr (a2.put hca)
          exact ⟨rfl, rfl, (zAg4.th h 0).tr (.of3 a3), a3.th (zI_self _ _ _ _), a3.sd hD hm0⟩
        · exact absurd rfl c43
      · rw [zb_eq0] at c31; exact absurd o2 c31
  · rw [zb_eq0, t3, idxOk hng] at c11; exact absurd ⟨g, hg, rfl⟩ c11
end MEA
