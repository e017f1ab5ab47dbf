/-! ===== the reference: the least of some; a road that might be ===== -/
def sc5 (i k : Nat) : Prop := sc4 i k ∨ (174 + 1 ≤ i ∧ i ≤ 174 + 11)
def zAg5 (h h' : zH) : Prop := (∀ i k, ¬ sc5 i k → zI h' i k = zI h i k) ∧ ∀ i k, ¬ sl3 i k → zL h' i k = zL h i k
theorem zAg5.rf (h : zH) : zAg5 h h := ⟨fun _ _ _ => rfl, fun _ _ _ => rfl⟩
theorem zAg5.tr {h h1 h2 : zH} (a : zAg5 h h1) (c : zAg5 h1 h2) : zAg5 h h2 := ⟨fun i k q => (c.1 i k q).trans (a.1 i k q), fun i k q => (c.2 i k q).trans (a.2 i k q)⟩
theorem zAg5.of4 {h h' : zH} (a : zAg4 h h') : zAg5 h h' := ⟨fun i k q => a.1 i k (fun z => q (Or.inl z)), a.2⟩
theorem zAg5.of3 {h h' : zH} (a : zAg3 h h') : zAg5 h h' := .of4 (.of3 a)
theorem mRo.ag5 {h h' : zH} {R : Nat × (Nat → Nat)} (a : zAg5 h h') (hm : mRo h R) : mRo h' R := by
  refine ⟨?_, fun k hk => ?_⟩
  · rw [a.1 _ _ (by unfold sc5 sc4 sc3 sc2 sc1; omega)]; exact hm.1
  · rw [a.1 _ _ (by unfold sc5 sc4 sc3 sc2 sc1; omega)]; exact hm.2 k hk
/-- the roads that might be, as the reference keeps them -/
def mMo (h : zH) (Mo : Nat × (Nat → Nat → Nat)) : Prop := zI h 160 2 = nI Mo.1 ∧ ∀ k, k < Mo.1 → ∀ q, q < 5 → zI h (191 + 1 + k) q = nI (Mo.2 k q)
theorem mMo.ag5 {h h' : zH} {Mo : Nat × (Nat → Nat → Nat)} (hM : Mo.1 ≤ 4) (a : zAg5 h h') (hm : mMo h Mo) : mMo h' Mo := by
  refine ⟨?_, fun k hk q hq => ?_⟩
  · rw [a.1 _ _ (by unfold sc5 sc4 sc3 sc2 sc1; omega)]; exact hm.1
  · rw [a.1 _ _ (by unfold sc5 sc4 sc3 sc2 sc1; omega)]; exact hm.2 k hk q hq
/-- what a call of the reference leaves -/
def mCl (h : zH) (t : zT) (D' : yD) (e : Int32) (t' : zT) (h' : zH) : Prop := t' = t ∧ zAg5 h h' ∧ zI h' 157 0 = e ∧ mSd h' D' yP0
theorem mCall.cl {h h' : zH} {t t' : zT} {D' : yD} {e : Int32} (x : mCall h t D' yP0 e t' h') : mCl h t D' e t' h' := ⟨x.1, .of4 x.2.1, x.2.2⟩
section MKE
variable {E : zE} {b : Nat} {G : zG} {t : zT} {h : zH} {D : yD} {R : Nat × (Nat → Nat)} {Mo : Nat × (Nat → Nat → Nat)}
/-- between two costs -/
def mCy (h hc : zH) (D : yD) (R : Nat × (Nat → Nat)) : Prop := zAg5 h hc ∧ zI hc 157 0 = 0 ∧ mSd hc D yP0 ∧ mRo hc R ∧ zI hc 157 41 = zI h 157 41
theorem mCy.i (hD : sdOk D yP0) (hm : mSd h D yP0) (hro : mRo h R) : mCy h (zsI h 157 0 0) D R := ⟨.of4 (zAg4.th h 0), zI_self _ _ _ _, hm.th hD 0, mRo.ag4 (zAg4.th h 0) hro, by rw [zI_sI, if_neg (by omega)]⟩
theorem mCy.co {hc h' : zH} {D' : yD} {d : Nat} {v : Int64} {t' : zT} (hD : sdOk D yP0) (x : mCy h hc D R) (y : mCoPost hc t D' yP0 R 0 d (zI hc 157 41) v t' h') : t' = t ∧ mCy h h' D R ∧ v = lN (dCo D' yP0 R 0 d (zI h 157 41)) := by
  obtain ⟨x1, x2, x3, x4, x5⟩ := x
  obtain ⟨y1, y2, y3, y4, y5⟩ := y
  rw [x5] at y3 y5
  refine ⟨y1, ⟨x1.tr (.of3 y2), y2.th x2, y2.sd hD x3, x4.ag3 y2, ?_⟩, y3⟩
  rw [y5, dDays_sd rfl]; rfl
theorem mCy.cl {hc : zH} (x : mCy h hc D R) : mCl h t D 0 t hc := ⟨rfl, x.1, x.2.1, x.2.2.1⟩
theorem c_keep1 {l : Launch} (hT : zTM t) (hD : sdOk D yP0) (hm : mSd h D yP0) (hRo : roOk R) (hro : mRo h R) (d : Nat) (hd1 : 1 ≤ d) (hd : d ≤ 366) (htd : D.2.2.2 + d < 2 ^ 20) (h0 : D.2.1.1.2.1 = 0) : zMet E b l yX11_keep cX11_keep 8 (some .int) 8 0 0 [.ref (b + 157), .int (nI d)] t h (qI (fun v t' h' => v = (kMin D R d (zI h 157 41) 20).1 ∧ mCl h t D 0 t' h')) := by
  have o2 : (1 ≤ nI d ∧ nI d ≤ 366) := daysOk.mpr ⟨d, hd1, hd, rfl⟩
  have hn := hD.1.1.2.2.1
  refine zMet.of (ls := [some (.ref (b + 157)), some (.int (nI d)), none, none, none, none, none, none]) (by decide) (zle rfl) 6 rfl ?_
  intro G hlG C hR hE hin
  have lp : ∀ k, k ≤ 20 → ∀ (hc : zH) (v : Int32) (w : Int64) (y6 y7 : Option Value), mCy h hc D R → v = (kMin D R d (zI h 157 41) k).1 → w = (kMin D R d (zI h 157 41) k).2 → zAW E b G 8 0 0 39 [some (.ref (b + 157)), some (.int (nI d)), some (.int v), some (.long w), none, some (.int (nI ((1 + k)))), y6, y7] [] t hc := by
    refine zLoop (20) fun k hk ih hc v w y6 y7 k1 ev ew => ?_
    refine zz_iload_5 C dX11_keep_39 <| zz_bipush C 20 dX11_keep_41 (by decide) <| zpc 43 rfl <| ?_
    refine zz_icmp_gt C 77 dX11_keep_43 (by decide) (fun c43 => ?_) (fun c43 => ?_)
    · rw [show (20 : Int32) = nI 20 from rfl, nI_ltI (by omega) (by omega)] at c43
      refine zz_iload_2 C dX11_keep_77 <| zpc 78 rfl <| ?_
      refine zy_ireturn C hE (zle rfl) (zle rfl) dX11_keep_78 ?_
      have e9 : k = 20 := by omega
      subst e9
      exact ⟨ev, k1.cl⟩
    · rw [show (20 : Int32) = nI 20 from rfl, nI_ltI (by omega) (by omega)] at c43
      refine zz_aload_0 C dX11_keep_46 <| zz_iload_5 C dX11_keep_47 <| zz_iload_1 C dX11_keep_49 <| zpc 50 rfl <| ?_
      refine zy_callVJ C hR [_, _] (c_tollCost hT hD k1.2.2.1 h0 hRo k1.2.2.2.1 (1 + k) d (by omega) hd htd) lX11_348 rfl (tM_K hT) (by decide) rfl ⟨zle rfl, zle rfl, zle rfl, zle rfl⟩ (zle rfl) dX11_keep_50 ?_
      intro w2 t2 h2 hv; obtain ⟨rfl, k2, ew2⟩ := k1.co hD hv
      refine zz_lstore_6 C (zle rfl) rfl dX11_keep_53 <| zz_lload_6 C dX11_keep_55 <| zz_lload_3 C dX11_keep_57 <| zz_lcmp C dX11_keep_58 <| zpc 59 rfl <| ?_
      refine zz_if_lt C 65 dX11_keep_59 (by decide) (fun c59 => ?_) (fun c59 => ?_)
      · rw [lg_cmp_lt, ew2, ew] at c59
        refine zz_iload_5 C dX11_keep_65 <| zz_istore_2 C (zle rfl) rfl dX11_keep_67 <| zz_lload_6 C dX11_keep_68 <| zz_lstore_3 C (zle rfl) rfl dX11_keep_70 <| zz_iinc_5 C _ (zle rfl) rfl dX11_keep_71 nI_s <| zz_goto C 39 dX11_keep_74 (by decide) <| zpc 39 rfl <| ?_
        first
        | (have hp := zMin_p c59; exact ih (by omega) _ _ _ _ _ k2 (congrArg Prod.fst hp).symm (ew2.trans (congrArg Prod.snd hp).symm))
        | (have hp := zMin_n c59; exact ih (by omega) _ _ _ _ _ k2 (ev.trans (congrArg Prod.fst hp).symm) (ew.trans (congrArg Prod.snd hp).symm))
      · rw [lg_cmp_lt, ew2, ew] at c59
        refine zz_goto C 71 dX11_keep_62 (by decide) <| zz_iinc_5 C _ (zle rfl) rfl dX11_keep_71 nI_s <| zz_goto C 39 dX11_keep_74 (by decide) <| zpc 39 rfl <| ?_
        first
        | (have hp := zMin_p c59; exact ih (by omega) _ _ _ _ _ k2 (congrArg Prod.fst hp).symm (ew2.trans (congrArg Prod.snd hp).symm))
        | (have hp := zMin_n c59; exact ih (by omega) _ _ _ _ _ k2 (ev.trans (congrArg Prod.fst hp).symm) (ew.trans (congrArg Prod.snd hp).symm))
  refine zz_aload_0 C dX11_keep_0 <| zz_iconst_0 C dX11_keep_1 <| zy_putI C fX11_104 pX11_0 (tM_K hT) dX11_keep_2 <| zz_aload_0 C dX11_keep_5 <| zz_iload_1 C dX11_keep_6 <| zpc 7 rfl <| ?_
  refine zf_callSI C hR [_] (c_areDays _) lX11_299 rfl ⟨zle rfl, zle rfl, zle rfl, zle rfl⟩ (zle rfl) dX11_keep_7 ?_
  refine zz_if_ne C 17 dX11_keep_10 (by decide) (fun c10 => ?_) (fun c10 => ?_)
  · refine zz_iconst_0 C dX11_keep_17 <| zz_iconst_1 C dX11_keep_18 <| zpc 19 rfl <| ?_
    refine zf_callVI C hR [_, _] (c_bad0 hT _ (by decide) (by first | exact zI_self _ _ _ _ | assumption)) lX11_181 rfl (tM_K hT) (by decide) rfl ⟨zle rfl, zle rfl, zle rfl, zle rfl⟩ (zle rfl) dX11_keep_19 ?_
    refine zz_if_eq C 27 dX11_keep_22 (by decide) (fun c22 => ?_) (fun c22 => ?_)
    · refine zz_iconst_0 C dX11_keep_27 <| zz_istore_2 C (zle rfl) rfl dX11_keep_28 <| zz_aload_0 C dX11_keep_29 <| zz_iconst_0 C dX11_keep_30 <| zz_iload_1 C dX11_keep_31 <| zpc 32 rfl <| ?_
      refine zy_callVJ C hR [_, _] (c_tollCost hT hD (mCy.i (R := R) hD hm hro).2.2.1 h0 hRo (mCy.i (R := R) hD hm hro).2.2.2.1 0 d (by omega) hd htd) lX11_348 rfl (tM_K hT) (by decide) rfl ⟨zle rfl, zle rfl, zle rfl, zle rfl⟩ (zle rfl) dX11_keep_32 ?_
      intro w t2 h2 hv; obtain ⟨rfl, k2, ew⟩ := (mCy.i hD hm hro).co hD hv
      refine zz_lstore_3 C (zle rfl) rfl dX11_keep_35 <| zz_iconst_1 C dX11_keep_36 <| zz_istore_5 C (zle rfl) rfl dX11_keep_37 <| zpc 39 rfl <| ?_
      exact lp 0 (by omega) _ _ _ _ _ k2 rfl ew
    · exact absurd rfl c22
  · rw [zb_eq0] at c10; exact absurd o2 c10
theorem c_beside1 {l : Launch} (hT : zTM t) (hD : sdOk D yP0) (hm : mSd h D yP0) (hRo : roOk R) (hro : mRo h R) (d : Nat) (hd1 : 1 ≤ d) (hd : d ≤ 366) (htd : D.2.2.2 + d < 2 ^ 20) : zMet E b l yX11_beside cX11_beside 8 (some .int) 7 0 0 [.ref (b + 157), .int (nI d)] t h (qI (fun v t' h' => v = (bMin D R d (zI h 157 41) D.2.1.1.1).1 ∧ mCl h t D 0 t' h')) := by
  have o2 : (1 ≤ nI d ∧ nI d ≤ 366) := daysOk.mpr ⟨d, hd1, hd, rfl⟩
  have hn := hD.1.1.2.2.1
  refine zMet.of (ls := [some (.ref (b + 157)), some (.int (nI d)), none, none, none, none, none, none]) (by decide) (zle rfl) 6 rfl ?_
  intro G hlG C hR hE hin
  have lp : ∀ k, k ≤ D.2.1.1.1 → ∀ (hc : zH) (v : Int32) (w : Int64) (y6 y7 : Option Value), mCy h hc D R → v = (bMin D R d (zI h 157 41) k).1 → w = (bMin D R d (zI h 157 41) k).2 → zAW E b G 8 0 0 38 [some (.ref (b + 157)), some (.int (nI d)), some (.int v), some (.long w), none, some (.int (nI ((k)))), y6, y7] [] t hc := by
    refine zLoop (D.2.1.1.1) fun k hk ih hc v w y6 y7 k1 ev ew => ?_
    refine zz_iload_5 C dX11_beside_38 <| zz_aload_0 C dX11_beside_40 <| zz_getR C fX11_20 (tM_K hT) (tM_R_told hT) dX11_beside_41 <| zz_iconst_1 C dX11_beside_44 <| zc_iaload C 1 (tM_K_told hT) (zlit _ (by decide)) (by decide) dX11_beside_45 <| zpc 46 rfl <| ?_
    rw [k1.2.2.1.2.2.1]
    refine zz_icmp_ge C 80 dX11_beside_46 (by decide) (fun c46 => ?_) (fun c46 => ?_)
    · rw [nI_leI (by omega) (by omega)] at c46
      refine zz_iload_2 C dX11_beside_80 <| zpc 81 rfl <| ?_
      refine zy_ireturn C hE (zle rfl) (zle rfl) dX11_beside_81 ?_
      have e9 : k = D.2.1.1.1 := by omega
      subst e9
      exact ⟨ev, k1.cl⟩
    · rw [nI_leI (by omega) (by omega)] at c46
      refine zz_aload_0 C dX11_beside_49 <| zz_iload_5 C dX11_beside_50 <| zz_iload_1 C dX11_beside_52 <| zpc 53 rfl <| ?_
      refine zy_callVJ C hR [_, _] (c_menCost hT hD k1.2.2.1 hRo k1.2.2.2.1 k d (by omega) hd htd) lX11_362 rfl (tM_K hT) (by decide) rfl ⟨zle rfl, zle rfl, zle rfl, zle rfl⟩ (zle rfl) dX11_beside_53 ?_
      intro w2 t2 h2 hv; obtain ⟨rfl, k2, ew2⟩ := k1.co hD hv
      refine zz_lstore_6 C (zle rfl) rfl dX11_beside_56 <| zz_lload_6 C dX11_beside_58 <| zz_lload_3 C dX11_beside_60 <| zz_lcmp C dX11_beside_61 <| zpc 62 rfl <| ?_
      refine zz_if_lt C 68 dX11_beside_62 (by decide) (fun c62 => ?_) (fun c62 => ?_)
      · rw [lg_cmp_lt, ew2, ew] at c62
        refine zz_iload_5 C dX11_beside_68 <| zz_istore_2 C (zle rfl) rfl dX11_beside_70 <| zz_lload_6 C dX11_beside_71 <| zz_lstore_3 C (zle rfl) rfl dX11_beside_73 <| zz_iinc_5 C _ (zle rfl) rfl dX11_beside_74 nI_s <| zz_goto C 38 dX11_beside_77 (by decide) <| zpc 38 rfl <| ?_
        first
        | (have hp := zMin_p c62; exact ih (by omega) _ _ _ _ _ k2 (congrArg Prod.fst hp).symm (ew2.trans (congrArg Prod.snd hp).symm))
        | (have hp := zMin_n c62; exact ih (by omega) _ _ _ _ _ k2 (ev.trans (congrArg Prod.fst hp).symm) (ew.trans (congrArg Prod.snd hp).symm))
      · rw [lg_cmp_lt, ew2, ew] at c62
        refine zz_goto C 74 dX11_beside_65 (by decide) <| zz_iinc_5 C _ (zle rfl) rfl dX11_beside_74 nI_s <| zz_goto C 38 dX11_beside_77 (by decide) <| zpc 38 rfl <| ?_
        first
        | (have hp := zMin_p c62; exact ih (by omega) _ _ _ _ _ k2 (congrArg Prod.fst hp).symm (ew2.trans (congrArg Prod.snd hp).symm))
        | (have hp := zMin_n c62; exact ih (by omega) _ _ _ _ _ k2 (ev.trans (congrArg Prod.fst hp).symm) (ew.trans (congrArg Prod.snd hp).symm))
  refine zz_aload_0 C dX11_beside_0 <| zz_iconst_0 C dX11_beside_1 <| zy_putI C fX11_104 pX11_0 (tM_K hT) dX11_beside_2 <| zz_aload_0 C dX11_beside_5 <| zz_iload_1 C dX11_beside_6 <| zpc 7 rfl <| ?_
  refine zf_callSI C hR [_] (c_areDays _) lX11_299 rfl ⟨zle rfl, zle rfl, zle rfl, zle rfl⟩ (zle rfl) dX11_beside_7 ?_
  refine zz_if_ne C 17 dX11_beside_10 (by decide) (fun c10 => ?_) (fun c10 => ?_)
  · refine zz_iconst_0 C dX11_beside_17 <| zz_iconst_1 C dX11_beside_18 <| zpc 19 rfl <| ?_
    refine zf_callVI C hR [_, _] (c_bad0 hT _ (by decide) (by first | exact zI_self _ _ _ _ | assumption)) lX11_181 rfl (tM_K hT) (by decide) rfl ⟨zle rfl, zle rfl, zle rfl, zle rfl⟩ (zle rfl) dX11_beside_19 ?_
    refine zz_if_eq C 27 dX11_beside_22 (by decide) (fun c22 => ?_) (fun c22 => ?_)
    · refine zz_iconst_m1 C dX11_beside_27 <| zz_istore_2 C (zle rfl) rfl dX11_beside_28 <| zz_aload_0 C dX11_beside_29 <| zz_iload_1 C dX11_beside_30 <| zpc 31 rfl <| ?_
      refine zy_callVJ C hR [_] (c_openCost hT hD (mCy.i (R := R) hD hm hro).2.2.1 hRo (mCy.i (R := R) hD hm hro).2.2.2.1 d hd htd) lX11_344 rfl (tM_K hT) (by decide) rfl ⟨zle rfl, zle rfl, zle rfl, zle rfl⟩ (zle rfl) dX11_beside_31 ?_
      intro w t2 h2 hv; obtain ⟨rfl, k2, ew⟩ := (mCy.i hD hm hro).co hD hv
      refine zz_lstore_3 C (zle rfl) rfl dX11_beside_34 <| zz_iconst_0 C dX11_beside_35 <| zz_istore_5 C (zle rfl) rfl dX11_beside_36 <| zpc 38 rfl <| ?_
      exact lp 0 (by omega) _ _ _ _ _ k2 rfl ew
    · exact absurd rfl c22
  · rw [zb_eq0] at c10; exact absurd o2 c10
theorem c_other1 {l : Launch} (hT : zTM t) (hD : sdOk D yP0) (hm : mSd h D yP0) (hRo : roOk R) (hro : mRo h R) (d : Nat) (hd1 : 1 ≤ d) (hd : d ≤ 366) (htd : D.2.2.2 + d < 2 ^ 20) : zMet E b l yX11_other cX11_other 8 (some .int) 7 0 0 [.ref (b + 157), .int (nI d)] t h (qI (fun v t' h' => v = (oMin D R d (zI h 157 41) 8).1 ∧ mCl h t D 0 t' h')) := by
  have o2 : (1 ≤ nI d ∧ nI d ≤ 366) := daysOk.mpr ⟨d, hd1, hd, rfl⟩
  have hv3 : ∀ k, k ≤ 8 → ¬ (oMin D R d (zI h 157 41) k).1 = -1 := by
    intro k
    induction k with
    | zero => intro _ z; cases z
    | succ k ih =>
      intro hk
      by_cases q : lN (dCo (dLw D (4 + k)) yP0 R 0 d (zI h 157 41)) < (oMin D R d (zI h 157 41) k).2
      · have hp := zMin_p q
        rw [show (oMin D R d (zI h 157 41) (k + 1)).1 = nI (4 + k) from congrArg Prod.fst hp]
        intro z
        have := congrArg Int32.toInt z
        rw [nI_toInt (by omega)] at this
        have e9 : (-1 : Int32).toInt = -1 := rfl
        omega
      · have hp := zMin_n q
        rw [show (oMin D R d (zI h 157 41) (k + 1)).1 = (oMin D R d (zI h 157 41) k).1 from congrArg Prod.fst hp]
        exact ih (by omega)
  refine zMet.of (ls := [some (.ref (b + 157)), some (.int (nI d)), none, none, none, none, none, none]) (by decide) (zle rfl) 6 rfl ?_
  intro G hlG C hR hE hin
  have lp : ∀ k, k ≤ 8 → ∀ (hc : zH) (v : Int32) (w : Int64) (y6 y7 : Option Value), mCy h hc D R → v = (oMin D R d (zI h 157 41) k).1 → w = (oMin D R d (zI h 157 41) k).2 → zAW E b G 8 0 0 34 [some (.ref (b + 157)), some (.int (nI d)), some (.int v), some (.long w), none, some (.int (nI ((4 + k)))), y6, y7] [] t hc := by
    refine zLoop 8 fun k hk ih hc v w y6 y7 k1 ev ew => ?_
    have hne : ¬ v = -1 := by rw [ev]; exact hv3 k hk
    refine zz_iload_5 C dX11_other_34 <| zz_bipush C 12 dX11_other_36 (by decide) <| zpc 38 rfl <| ?_
    refine zz_icmp_ge C 77 dX11_other_38 (by decide) (fun c38 => ?_) (fun c38 => ?_)
    · rw [show (12 : Int32) = nI 12 from rfl, nI_leI (by omega) (by omega)] at c38
      refine zz_iload_2 C dX11_other_77 <| zpc 78 rfl <| ?_
      refine zy_ireturn C hE (zle rfl) (zle rfl) dX11_other_78 ?_
      have e9 : k = 8 := by omega
      subst e9
      exact ⟨ev, k1.cl⟩
    · rw [show (12 : Int32) = nI 12 from rfl, nI_leI (by omega) (by omega)] at c38
      refine zz_aload_0 C dX11_other_41 <| zz_iload_5 C dX11_other_42 <| zz_iload_1 C dX11_other_44 <| zpc 45 rfl <| ?_
      refine zy_callVJ C hR [_, _] (c_lawCost hT hD k1.2.2.1 hRo k1.2.2.2.1 (4 + k) d (by omega) (by omega) hd htd) lX11_365 rfl (tM_K hT) (by decide) rfl ⟨zle rfl, zle rfl, zle rfl, zle rfl⟩ (zle rfl) dX11_other_45 ?_
      intro w2 t2 h2 hv; obtain ⟨rfl, k2, ew2⟩ := k1.co hD hv
      refine zz_lstore_6 C (zle rfl) rfl dX11_other_48 <| zz_iload_2 C dX11_other_50 <| zz_iconst_m1 C dX11_other_51 <| zpc 52 rfl <| ?_
      refine zz_icmp_eq C 65 dX11_other_52 (by decide) (fun c52 => ?_) (fun c52 => ?_)
      · exact absurd c52 hne
      · refine zz_lload_6 C dX11_other_55 <| zz_lload_3 C dX11_other_57 <| zz_lcmp C dX11_other_58 <| zpc 59 rfl <| ?_
        refine zz_if_lt C 65 dX11_other_59 (by decide) (fun c59 => ?_) (fun c59 => ?_)
        · rw [lg_cmp_lt, ew2, ew] at c59
          refine zz_iload_5 C dX11_other_65 <| zz_istore_2 C (zle rfl) rfl dX11_other_67 <| zz_lload_6 C dX11_other_68 <| zz_lstore_3 C (zle rfl) rfl dX11_other_70 <| zz_iinc_5 C _ (zle rfl) rfl dX11_other_71 nI_s <| zz_goto C 34 dX11_other_74 (by decide) <| zpc 34 rfl <| ?_
          first
          | (have hp := zMin_p c59; exact ih (by omega) _ _ _ _ _ k2 (congrArg Prod.fst hp).symm (ew2.trans (congrArg Prod.snd hp).symm))
          | (have hp := zMin_n c59; exact ih (by omega) _ _ _ _ _ k2 (ev.trans (congrArg Prod.fst hp).symm) (ew.trans (congrArg Prod.snd hp).symm))
        · rw [lg_cmp_lt, ew2, ew] at c59
          refine zz_goto C 71 dX11_other_62 (by decide) <| zz_iinc_5 C _ (zle rfl) rfl dX11_other_71 nI_s <| zz_goto C 34 dX11_other_74 (by decide) <| zpc 34 rfl <| ?_
          first
          | (have hp := zMin_p c59; exact ih (by omega) _ _ _ _ _ k2 (congrArg Prod.fst hp).symm (ew2.trans (congrArg Prod.snd hp).symm))
          | (have hp := zMin_n c59; exact ih (by omega) _ _ _ _ _ k2 (ev.trans (congrArg Prod.fst hp).symm) (ew.trans (congrArg Prod.snd hp).symm))
  have lp3 : ∀ (hc : zH) (y6 y7 : Option Value), mCy h hc D R → zAW E b G 8 0 0 34 [some (.ref (b + 157)), some (.int (nI d)), some (.int ((-1))), some (.long 0), none, some (.int (nI 3)), y6, y7] [] t hc := by
    intro hc y6 y7 k1
    refine zz_iload_5 C dX11_other_34 <| zz_bipush C 12 dX11_other_36 (by decide) <| zpc 38 rfl <| ?_
    refine zz_icmp_ge C 77 dX11_other_38 (by decide) (fun c38 => ?_) (fun c38 => ?_)
    · exact absurd c38 (by decide)
    · refine zz_aload_0 C dX11_other_41 <| zz_iload_5 C dX11_other_42 <| zz_iload_1 C dX11_other_44 <| zpc 45 rfl <| ?_
      refine zy_callVJ C hR [_, _] (c_lawCost hT hD k1.2.2.1 hRo k1.2.2.2.1 3 d (by omega) (by omega) hd htd) lX11_365 rfl (tM_K hT) (by decide) rfl ⟨zle rfl, zle rfl, zle rfl, zle rfl⟩ (zle rfl) dX11_other_45 ?_
      intro w2 t2 h2 hv; obtain ⟨rfl, k2, ew2⟩ := k1.co hD hv
      refine zz_lstore_6 C (zle rfl) rfl dX11_other_48 <| zz_iload_2 C dX11_other_50 <| zz_iconst_m1 C dX11_other_51 <| zpc 52 rfl <| ?_
      refine zz_icmp_eq C 65 dX11_other_52 (by decide) (fun c52 => ?_) (fun c52 => ?_)
      · refine zz_iload_5 C dX11_other_65 <| zz_istore_2 C (zle rfl) rfl dX11_other_67 <| zz_lload_6 C dX11_other_68 <| zz_lstore_3 C (zle rfl) rfl dX11_other_70 <| zz_iinc_5 C _ (zle rfl) rfl dX11_other_71 nI_s <| zz_goto C 34 dX11_other_74 (by decide) <| zpc 34 rfl <| ?_
        exact lp 0 (by omega) _ _ _ _ _ k2 rfl ew2
      · exact absurd rfl c52
  refine zz_aload_0 C dX11_other_0 <| zz_iconst_0 C dX11_other_1 <| zy_putI C fX11_104 pX11_0 (tM_K hT) dX11_other_2 <| zz_aload_0 C dX11_other_5 <| zz_iload_1 C dX11_other_6 <| zpc 7 rfl <| ?_
  refine zf_callSI C hR [_] (c_areDays _) lX11_299 rfl ⟨zle rfl, zle rfl, zle rfl, zle rfl⟩ (zle rfl) dX11_other_7 ?_
  refine zz_if_ne C 17 dX11_other_10 (by decide) (fun c10 => ?_) (fun c10 => ?_)
  · refine zz_iconst_0 C dX11_other_17 <| zz_iconst_1 C dX11_other_18 <| zpc 19 rfl <| ?_
    refine zf_callVI C hR [_, _] (c_bad0 hT _ (by decide) (by first | exact zI_self _ _ _ _ | assumption)) lX11_181 rfl (tM_K hT) (by decide) rfl ⟨zle rfl, zle rfl, zle rfl, zle rfl⟩ (zle rfl) dX11_other_19 ?_
    refine zz_if_eq C 27 dX11_other_22 (by decide) (fun c22 => ?_) (fun c22 => ?_)
    · refine zz_iconst_m1 C dX11_other_27 <| zz_istore_2 C (zle rfl) rfl dX11_other_28 <| zz_lconst_0 C dX11_other_29 <| zz_lstore_3 C (zle rfl) rfl dX11_other_30 <| zz_iconst_3 C dX11_other_31 <| zz_istore_5 C (zle rfl) rfl dX11_other_32 <| zpc 34 rfl <| ?_
      exact lp3 _ _ _ (mCy.i hD hm hro)
    · exact absurd rfl c22
  · rw [zb_eq0] at c10; exact absurd o2 c10
theorem c_who1 {l : Launch} (hT : zTM t) (hD : sdOk D yP0) (hm : mSd h D yP0) (hRo : roOk R) (hro : mRo h R) (d : Nat) (hd1 : 1 ≤ d) (hd : d ≤ 366) (htd : D.2.2.2 + d < 2 ^ 20) : zMet E b l yX11_who cX11_who 9 (some .int) 8 0 0 [.ref (b + 157), .int (nI d)] t h (qI (fun v t' h' => v = (gMin D R d (zI h 157 41) D.1.1.2.1).1 ∧ mCl h t D 0 t' h')) := by
  have o2 : (1 ≤ nI d ∧ nI d ≤ 366) := daysOk.mpr ⟨d, hd1, hd, rfl⟩
  have hng := hD.1.2.1.2.2.1
  refine zMet.of (ls := [some (.ref (b + 157)), some (.int (nI d)), none, none, none, none, none, none, none]) (by decide) (zle rfl) 7 rfl ?_
  intro G hlG C hR hE hin
  have lp : ∀ g, g ≤ D.1.1.2.1 → ∀ (hc : zH) (v : Int32) (w : Int64) (y6 y7 y8 : Option Value), mCy h hc D R → v = (gMin D R d (zI h 157 41) g).1 → w = (gMin D R d (zI h 157 41) g).2 → zAW E b G 9 0 0 38 [some (.ref (b + 157)), some (.int (nI d)), some (.int v), some (.long w), none, some (.int (nI g)), y6, y7, y8] [] t hc := by
    refine zLoop D.1.1.2.1 fun g hg ih hc v w y6 y7 y8 k1 ev ew => ?_
    have li : g < D.1.1.2.1 → ∀ y, y ≤ D.1.2.1 g 5 → ∀ (hc : zH) (v : Int32) (w : Int64) (y7 y8 : Option Value), mCy h hc D R → v = (hMin D R d (zI h 157 41) g (gMin D R d (zI h 157 41) g) y).1 → w = (hMin D R d (zI h 157 41) g (gMin D R d (zI h 157 41) g) y).2 → zAW E b G 9 0 0 52 [some (.ref (b + 157)), some (.int (nI d)), some (.int v), some (.long w), none, some (.int (nI g)), some (.int (nI ((1 + y)))), y7, y8] [] t hc := by
      intro hgl
      have hgg := hD.1.2.1.2.2.2.2.1 g hgl
      refine zLoop (D.1.2.1 g 5) fun y hy ihy hc v w y7 y8 k1 ev ew => ?_
      have g5 := k1.2.2.1.1.2.2.2.1 g hgl 5 (by omega)
      refine zz_iload_6 C dX11_who_52 <| zz_aload_0 C dX11_who_54 <| zz_getR C fX11_46 (tM_K hT) (tM_R_going hT) dX11_who_55 <| zz_iload_5 C dX11_who_58 <| zc_row C _ (tM_K_going hT) (tM_row_going hT) (znI (by omega)) (by omega) dX11_who_60 <| fun r60 => ?_
      refine zz_iconst_5 C dX11_who_61 <| zc_iaload C 5 (tM_KR_going hT _ r60) (zlit _ (by decide)) (by decide) dX11_who_62 <| zpc 63 rfl <| ?_
      rw [g5]
      refine zz_icmp_gt C 105 dX11_who_63 (by decide) (fun c63 => ?_) (fun c63 => ?_)
      · rw [nI_ltI (by omega) (by omega)] at c63
        refine zz_iinc_5 C _ (zle rfl) rfl dX11_who_105 nI_s <| zz_goto C 38 dX11_who_108 (by decide) <| zpc 38 rfl <| ?_
        have e9 : y = D.1.2.1 g 5 := by omega
        subst e9
        exact ih hgl _ _ _ _ _ _ k1 ev ew
      · rw [nI_ltI (by omega) (by omega)] at c63
        refine zz_aload_0 C dX11_who_66 <| zz_iload_5 C dX11_who_67 <| zz_iload_6 C dX11_who_69 <| zz_iload_1 C dX11_who_71 <| zpc 72 rfl <| ?_
        refine zy_callVJ C hR [_, _, _] (c_heldCost hT hD k1.2.2.1 rfl hRo k1.2.2.2.1 g (1 + y) d (by omega) (by omega) hd htd) lX11_356 rfl (tM_K hT) (by decide) rfl ⟨zle rfl, zle rfl, zle rfl, zle rfl⟩ (zle rfl) dX11_who_72 ?_
        intro w2 t2 h2 hv; rw [k1.2.2.2.2] at hv; obtain ⟨rfl, z1, z2, z3, ew2, z5⟩ := hv; have k2 : mCy h h2 D R := ⟨k1.1.tr (.of4 z1), z2.trans k1.2.1, z3, k1.2.2.2.1.ag4 z1, (by rw [z5, dDays_sd rfl]; rfl)⟩; replace ew2 : w2 = lN (dCo D (pHe yP0 g (1 + y)) R 0 d (zI h 157 41)) := ew2
        refine zz_lstore_7 C (zle rfl) rfl dX11_who_75 <| zz_lload_7 C dX11_who_77 <| zz_lload_3 C dX11_who_79 <| zz_lcmp C dX11_who_80 <| zpc 81 rfl <| ?_
        refine zz_if_lt C 87 dX11_who_81 (by decide) (fun c81 => ?_) (fun c81 => ?_)
        · rw [lg_cmp_lt, ew2, ew] at c81
          refine zz_bipush C 10 dX11_who_87 (by decide) <| zz_iload_5 C dX11_who_89 <| zz_imul C dX11_who_91 <| zz_iload_6 C dX11_who_92 <| zz_iadd C dX11_who_94 <| zpc 95 rfl <| ?_
          rw [show (10 : Int32) = nI 10 from rfl, pk_mul, nI_add]
          refine zz_istore_2 C (zle rfl) rfl dX11_who_95 <| zz_lload_7 C dX11_who_96 <| zz_lstore_3 C (zle rfl) rfl dX11_who_98 <| zz_iinc_6 C _ (zle rfl) rfl dX11_who_99 nI_s <| zz_goto C 52 dX11_who_102 (by decide) <| zpc 52 rfl <| ?_
          first
          | (have hp := zMin_p c81; exact ihy (by omega) _ _ _ _ _ k2 (congrArg Prod.fst hp).symm (ew2.trans (congrArg Prod.snd hp).symm))
          | (have hp := zMin_n c81; exact ihy (by omega) _ _ _ _ _ k2 (ev.trans (congrArg Prod.fst hp).symm) (ew.trans (congrArg Prod.snd hp).symm))
        · rw [lg_cmp_lt, ew2, ew] at c81
          refine zz_goto C 99 dX11_who_84 (by decide) <| zz_iinc_6 C _ (zle rfl) rfl dX11_who_99 nI_s <| zz_goto C 52 dX11_who_102 (by decide) <| zpc 52 rfl <| ?_
          first
          | (have hp := zMin_p c81; exact ihy (by omega) _ _ _ _ _ k2 (congrArg Prod.fst hp).symm (ew2.trans (congrArg Prod.snd hp).symm))
          | (have hp := zMin_n c81; exact ihy (by omega) _ _ _ _ _ k2 (ev.trans (congrArg Prod.fst hp).symm) (ew.trans (congrArg Prod.snd hp).symm))
    refine zz_iload_5 C dX11_who_38 <| zz_aload_0 C dX11_who_40 <| zz_getR C fX11_20 (tM_K hT) (tM_R_told hT) dX11_who_41 <| zz_iconst_3 C dX11_who_44 <| zc_iaload C 3 (tM_K_told hT) (zlit _ (by decide)) (by decide) dX11_who_45 <| zpc 46 rfl <| ?_
    rw [k1.2.2.1.1.2.1]
    refine zz_icmp_ge C 111 dX11_who_46 (by decide) (fun c46 => ?_) (fun c46 => ?_)
    · rw [nI_leI (by omega) (by omega)] at c46
      refine zz_iload_2 C dX11_who_111 <| zpc 112 rfl <| ?_
      refine zy_ireturn C hE (zle rfl) (zle rfl) dX11_who_112 ?_
      have e9 : g = D.1.1.2.1 := by omega
      subst e9
      exact ⟨ev, k1.cl⟩
    · rw [nI_leI (by omega) (by omega)] at c46
      refine zz_iconst_1 C dX11_who_49 <| zz_istore_6 C (zle rfl) rfl dX11_who_50 <| zpc 52 rfl <| ?_
      exact li (by omega) 0 (by omega) _ _ _ _ _ k1 ev ew
  refine zz_aload_0 C dX11_who_0 <| zz_iconst_0 C dX11_who_1 <| zy_putI C fX11_104 pX11_0 (tM_K hT) dX11_who_2 <| zz_aload_0 C dX11_who_5 <| zz_iload_1 C dX11_who_6 <| zpc 7 rfl <| ?_
  refine zf_callSI C hR [_] (c_areDays _) lX11_299 rfl ⟨zle rfl, zle rfl, zle rfl, zle rfl⟩ (zle rfl) dX11_who_7 ?_
  refine zz_if_ne C 17 dX11_who_10 (by decide) (fun c10 => ?_) (fun c10 => ?_)
  · refine zz_iconst_0 C dX11_who_17 <| zz_iconst_1 C dX11_who_18 <| zpc 19 rfl <| ?_
    refine zf_callVI C hR [_, _] (c_bad0 hT _ (by decide) (by first | exact zI_self _ _ _ _ | assumption)) lX11_181 rfl (tM_K hT) (by decide) rfl ⟨zle rfl, zle rfl, zle rfl, zle rfl⟩ (zle rfl) dX11_who_19 ?_
    refine zz_if_eq C 27 dX11_who_22 (by decide) (fun c22 => ?_) (fun c22 => ?_)
    · refine zz_iconst_m1 C dX11_who_27 <| zz_istore_2 C (zle rfl) rfl dX11_who_28 <| zz_aload_0 C dX11_who_29 <| zz_iload_1 C dX11_who_30 <| zpc 31 rfl <| ?_
      refine zy_callVJ C hR [_] (c_openCost hT hD (mCy.i (R := R) hD hm hro).2.2.1 hRo (mCy.i (R := R) hD hm hro).2.2.2.1 d hd htd) lX11_344 rfl (tM_K hT) (by decide) rfl ⟨zle rfl, zle rfl, zle rfl, zle rfl⟩ (zle rfl) dX11_who_31 ?_
      intro w t2 h2 hv; obtain ⟨rfl, k2, ew⟩ := (mCy.i hD hm hro).co hD hv
      refine zz_lstore_3 C (zle rfl) rfl dX11_who_34 <| zz_iconst_0 C dX11_who_35 <| zz_istore_5 C (zle rfl) rfl dX11_who_36 <| zpc 38 rfl <| ?_
      exact lp 0 (by omega) _ _ _ _ _ _ k2 rfl ew
    · exact absurd rfl c22
  · rw [zb_eq0] at c10; exact absurd o2 c10
theorem c_keep0 {l : Launch} (hT : zTM t) (hD : sdOk D yP0) (hm : mSd h D yP0) (d : Int32) (hno : ¬ ∃ k, 1 ≤ k ∧ k ≤ 366 ∧ d = nI k) : zMet E b l yX11_keep cX11_keep 8 (some .int) 8 0 0 [.ref (b + 157), .int d] t h (qI (fun v t' h' => v = 0 ∧ mCl h t D 1 t' h')) := by
  refine zMet.of (ls := [some (.ref (b + 157)), some (.int d), none, none, none, none, none, none]) (by decide) (zle rfl) 6 rfl ?_
  intro G hlG C hR hE hin
  refine zz_aload_0 C dX11_keep_0 <| zz_iconst_0 C dX11_keep_1 <| zy_putI C fX11_104 pX11_0 (tM_K hT) dX11_keep_2 <| zz_aload_0 C dX11_keep_5 <| zz_iload_1 C dX11_keep_6 <| zpc 7 rfl <| ?_
  refine zf_callSI C hR [_] (c_areDays _) lX11_299 rfl ⟨zle rfl, zle rfl, zle rfl, zle rfl⟩ (zle rfl) dX11_keep_7 ?_
  refine zz_if_ne C 17 dX11_keep_10 (by decide) (fun c10 => ?_) (fun c10 => ?_)
  · rw [zb_ne0] at c10; exact absurd (daysOk.mp c10) hno
  · refine zz_iconst_1 C dX11_keep_13 <| zz_goto C 18 dX11_keep_14 (by decide) <| zz_iconst_1 C dX11_keep_18 <| zpc 19 rfl <| ?_
    refine zf_callVI C hR [_, _] (c_bad1 hT _ (by decide) (by first | exact zI_self _ _ _ _ | assumption)) lX11_181 rfl (tM_K hT) (by decide) rfl ⟨zle rfl, zle rfl, zle rfl, zle rfl⟩ (zle rfl) dX11_keep_19 ?_
    refine zz_if_eq C 27 dX11_keep_22 (by decide) (fun c22 => ?_) (fun c22 => ?_)
    · exact absurd c22 (by decide)
    · refine zz_iconst_0 C dX11_keep_25 <| zpc 26 rfl <| ?_
      refine zy_ireturn C hE (zle rfl) (zle rfl) dX11_keep_26 ?_
      exact ⟨rfl, rfl, .of4 ((zAg4.th h 0).tr (zAg4.th _ 1)), zI_self _ _ _ _, (hm.th hD 0).th hD 1⟩
theorem c_who0 {l : Launch} (hT : zTM t) (hD : sdOk D yP0) (hm : mSd h D yP0) (d : Int32) (hno : ¬ ∃ k, 1 ≤ k ∧ k ≤ 366 ∧ d = nI k) : zMet E b l yX11_who cX11_who 9 (some .int) 8 0 0 [.ref (b + 157), .int d] t h (qI (fun v t' h' => v = 0 ∧ mCl h t D 1 t' h')) := by
  refine zMet.of (ls := [some (.ref (b + 157)), some (.int d), none, none, none, none, none, none, none]) (by decide) (zle rfl) 7 rfl ?_
  intro G hlG C hR hE hin
  refine zz_aload_0 C dX11_who_0 <| zz_iconst_0 C dX11_who_1 <| zy_putI C fX11_104 pX11_0 (tM_K hT) dX11_who_2 <| zz_aload_0 C dX11_who_5 <| zz_iload_1 C dX11_who_6 <| zpc 7 rfl <| ?_
  refine zf_callSI C hR [_] (c_areDays _) lX11_299 rfl ⟨zle rfl, zle rfl, zle rfl, zle rfl⟩ (zle rfl) dX11_who_7 ?_
  refine zz_if_ne C 17 dX11_who_10 (by decide) (fun c10 => ?_) (fun c10 => ?_)
  · rw [zb_ne0] at c10; exact absurd (daysOk.mp c10) hno
  · refine zz_iconst_1 C dX11_who_13 <| zz_goto C 18 dX11_who_14 (by decide) <| zz_iconst_1 C dX11_who_18 <| zpc 19 rfl <| ?_
    refine zf_callVI C hR [_, _] (c_bad1 hT _ (by decide) (by first | exact zI_self _ _ _ _ | assumption)) lX11_181 rfl (tM_K hT) (by decide) rfl ⟨zle rfl, zle rfl, zle rfl, zle rfl⟩ (zle rfl) dX11_who_19 ?_
    refine zz_if_eq C 27 dX11_who_22 (by decide) (fun c22 => ?_) (fun c22 => ?_)
    · exact absurd c22 (by decide)
    · refine zz_iconst_0 C dX11_who_25 <| zpc 26 rfl <| ?_
      refine zy_ireturn C hE (zle rfl) (zle rfl) dX11_who_26 ?_
      exact ⟨rfl, rfl, .of4 ((zAg4.th h 0).tr (zAg4.th _ 1)), zI_self _ _ _ _, (hm.th hD 0).th hD 1⟩
theorem c_which0 {l : Launch} (hT : zTM t) (hD : sdOk D yP0) (hm : mSd h D yP0) (d : Int32) (hno : ¬ ∃ k, 1 ≤ k ∧ k ≤ 366 ∧ d = nI k) : zMet E b l yX11_which cX11_which 8 (some .int) 7 0 0 [.ref (b + 157), .int d] t h (qI (fun v t' h' => v = 0 ∧ mCl h t D 1 t' h')) := by
  refine zMet.of (ls := [some (.ref (b + 157)), some (.int d), none, none, none, none, none, none]) (by decide) (zle rfl) 6 rfl ?_
  intro G hlG C hR hE hin
  refine zz_aload_0 C dX11_which_0 <| zz_iconst_0 C dX11_which_1 <| zy_putI C fX11_104 pX11_0 (tM_K hT) dX11_which_2 <| zz_aload_0 C dX11_which_5 <| zz_iload_1 C dX11_which_6 <| zpc 7 rfl <| ?_
  refine zf_callSI C hR [_] (c_areDays _) lX11_299 rfl ⟨zle rfl, zle rfl, zle rfl, zle rfl⟩ (zle rfl) dX11_which_7 ?_
  refine zz_if_ne C 17 dX11_which_10 (by decide) (fun c10 => ?_) (fun c10 => ?_)
  · rw [zb_ne0] at c10; exact absurd (daysOk.mp c10) hno
  · refine zz_iconst_1 C dX11_which_13 <| zz_goto C 18 dX11_which_14 (by decide) <| zz_iconst_1 C dX11_which_18 <| zpc 19 rfl <| ?_
    refine zf_callVI C hR [_, _] (c_bad1 hT _ (by decide) (by first | exact zI_self _ _ _ _ | assumption)) lX11_181 rfl (tM_K hT) (by decide) rfl ⟨zle rfl, zle rfl, zle rfl, zle rfl⟩ (zle rfl) dX11_which_19 ?_
    refine zz_if_eq C 27 dX11_which_22 (by decide) (fun c22 => ?_) (fun c22 => ?_)
    · exact absurd c22 (by decide)
    · refine zz_iconst_0 C dX11_which_25 <| zpc 26 rfl <| ?_
      refine zy_ireturn C hE (zle rfl) (zle rfl) dX11_which_26 ?_
      exact ⟨rfl, rfl, .of4 ((zAg4.th h 0).tr (zAg4.th _ 1)), zI_self _ _ _ _, (hm.th hD 0).th hD 1⟩
theorem c_beside0 {l : Launch} (hT : zTM t) (hD : sdOk D yP0) (hm : mSd h D yP0) (d : Int32) (hno : ¬ ∃ k, 1 ≤ k ∧ k ≤ 366 ∧ d = nI k) : zMet E b l yX11_beside cX11_beside 8 (some .int) 7 0 0 [.ref (b + 157), .int d] t h (qI (fun v t' h' => v = 0 ∧ mCl h t D 1 t' h')) := by
  refine zMet.of (ls := [some (.ref (b + 157)), some (.int d), none, none, none, none, none, none]) (by decide) (zle rfl) 6 rfl ?_
  intro G hlG C hR hE hin
  refine zz_aload_0 C dX11_beside_0 <| zz_iconst_0 C dX11_beside_1 <| zy_putI C fX11_104 pX11_0 (tM_K hT) dX11_beside_2 <| zz_aload_0 C dX11_beside_5 <| zz_iload_1 C dX11_beside_6 <| zpc 7 rfl <| ?_
  refine zf_callSI C hR [_] (c_areDays _) lX11_299 rfl ⟨zle rfl, zle rfl, zle rfl, zle rfl⟩ (zle rfl) dX11_beside_7 ?_
  refine zz_if_ne C 17 dX11_beside_10 (by decide) (fun c10 => ?_) (fun c10 => ?_)
  · rw [zb_ne0] at c10; exact absurd (daysOk.mp c10) hno
  · refine zz_iconst_1 C dX11_beside_13 <| zz_goto C 18 dX11_beside_14 (by decide) <| zz_iconst_1 C dX11_beside_18 <| zpc 19 rfl <| ?_
    refine zf_callVI C hR [_, _] (c_bad1 hT _ (by decide) (by first | exact zI_self _ _ _ _ | assumption)) lX11_181 rfl (tM_K hT) (by decide) rfl ⟨zle rfl, zle rfl, zle rfl, zle rfl⟩ (zle rfl) dX11_beside_19 ?_
    refine zz_if_eq C 27 dX11_beside_22 (by decide) (fun c22 => ?_) (fun c22 => ?_)
    · exact absurd c22 (by decide)
    · refine zz_iconst_0 C dX11_beside_25 <| zpc 26 rfl <| ?_
      refine zy_ireturn C hE (zle rfl) (zle rfl) dX11_beside_26 ?_
      exact ⟨rfl, rfl, .of4 ((zAg4.th h 0).tr (zAg4.th _ 1)), zI_self _ _ _ _, (hm.th hD 0).th hD 1⟩
theorem c_other0 {l : Launch} (hT : zTM t) (hD : sdOk D yP0) (hm : mSd h D yP0) (d : Int32) (hno : ¬ ∃ k, 1 ≤ k ∧ k ≤ 366 ∧ d = nI k) : zMet E b l yX11_other cX11_other 8 (some .int) 7 0 0 [.ref (b + 157), .int d] t h (qI (fun v t' h' => v = 0 ∧ mCl h t D 1 t' h')) := by
  refine zMet.of (ls := [some (.ref (b + 157)), some (.int d), none, none, none, none, none, none]) (by decide) (zle rfl) 6 rfl ?_
  intro G hlG C hR hE hin
  refine zz_aload_0 C dX11_other_0 <| zz_iconst_0 C dX11_other_1 <| zy_putI C fX11_104 pX11_0 (tM_K hT) dX11_other_2 <| zz_aload_0 C dX11_other_5 <| zz_iload_1 C dX11_other_6 <| zpc 7 rfl <| ?_
  refine zf_callSI C hR [_] (c_areDays _) lX11_299 rfl ⟨zle rfl, zle rfl, zle rfl, zle rfl⟩ (zle rfl) dX11_other_7 ?_
  refine zz_if_ne C 17 dX11_other_10 (by decide) (fun c10 => ?_) (fun c10 => ?_)
  · rw [zb_ne0] at c10; exact absurd (daysOk.mp c10) hno
  · refine zz_iconst_1 C dX11_other_13 <| zz_goto C 18 dX11_other_14 (by decide) <| zz_iconst_1 C dX11_other_18 <| zpc 19 rfl <| ?_
    refine zf_callVI C hR [_, _] (c_bad1 hT _ (by decide) (by first | exact zI_self _ _ _ _ | assumption)) lX11_181 rfl (tM_K hT) (by decide) rfl ⟨zle rfl, zle rfl, zle rfl, zle rfl⟩ (zle rfl) dX11_other_19 ?_
    refine zz_if_eq C 27 dX11_other_22 (by decide) (fun c22 => ?_) (fun c22 => ?_)
    · exact absurd c22 (by decide)
    · refine zz_iconst_0 C dX11_other_25 <| zpc 26 rfl <| ?_
      refine zy_ireturn C hE (zle rfl) (zle rfl) dX11_other_26 ?_
      exact ⟨rfl, rfl, .of4 ((zAg4.th h 0).tr (zAg4.th _ 1)), zI_self _ _ _ _, (hm.th hD 0).th hD 1⟩
end MKE
