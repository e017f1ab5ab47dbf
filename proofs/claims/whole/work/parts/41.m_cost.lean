/-! ===== the reference: costs of what would be otherwise ===== -/
theorem zAg3.put {h h2 : zH} {k : Nat} {v v0 : Int32} (hv : zI h 157 k = v0) (a : zAg3 (zsI h 157 k v) h2) : zAg3 h (zsI h2 157 k v0) := ⟨fun i j hn => by
  rw [zI_sI]
  by_cases q : i = 157 ∧ j = k
  · rw [if_pos q, q.1, q.2]; exact hv.symm
  · rw [if_neg q, a.1 i j hn, zI_sI, if_neg q], fun i j hn => a.2 i j hn⟩
/-- the cells of a plan -/
def sp (k : Nat) : Prop := k = 35 ∨ k = 36 ∨ k = 37 ∨ k = 38 ∨ k = 39 ∨ k = 40 ∨ k = 42 ∨ k = 52
theorem mSd.pl {h h' : zH} {D D' : yD} {p p' : yP} (hD : sdOk D p) (q : ∀ i k, ¬ (i = 157 ∧ sp k) → zI h' i k = zI h i k) (hm : mSd h D p) (e1 : D'.1 = D.1) (e2 : D'.2.1.1.1 = D.2.1.1.1) (e3 : D'.2.1.1.2.2 = D.2.1.1.2.2) (e4 : D'.2.1.2 = D.2.1.2) (e5 : D'.2.2 = D.2.2) (ht : zI h' 157 39 = nI D'.2.1.1.2.1) (hp : mPl h' p') : mSd h' D' p' := by
  obtain ⟨⟨l1, l2, l3, l4, l5⟩, -, t1, t5, -, rd, td⟩ := hm
  have hn := hD.1.1.2.2.1
  have hg := hD.1.2.1.2.2.1
  have q : ∀ i k, ¬ (i = 157 ∧ sp k) → ∀ v, zI h i k = v → zI h' i k = v := fun i k hn v e => (q i k hn).trans e
  unfold mSd
  rw [e1, e2, e3, e4, e5]
  refine ⟨⟨q _ _ ?_ _ l1, q _ _ ?_ _ l2, q _ _ ?_ _ l3, fun g hg i hi => q _ _ ?_ _ (l4 g hg i hi), fun k hk => q _ _ ?_ _ (l5 k hk)⟩, hp, q _ _ ?_ _ t1, q _ _ ?_ _ t5, ht, fun k hk => ⟨fun i hi => q _ _ ?_ _ ((rd k hk).1 i hi), q _ _ ?_ _ (rd k hk).2.1, q _ _ ?_ _ (rd k hk).2.2⟩, q _ _ ?_ _ td⟩ <;> (unfold sp; omega)
section MCO
variable {E : zE} {b : Nat} {G : zG} {t : zT} {h : zH} {D : yD} {p : yP} {R : Nat × (Nat → Nat)}
/-- what a cost leaves -/
def mCoPost (h : zH) (t : zT) (D : yD) (p : yP) (R : Nat × (Nat → Nat)) (rule d : Nat) (sd : Int32) (v : Int64) (t' : zT) (h' : zH) : Prop := t' = t ∧ zAg3 h h' ∧ v = lN (dDays D.1 D.2.1 p R rule d (x0 D sd)).2.2.2.1.1 ∧ zL h' 157 44 = lN (dDays D.1 D.2.1 p R rule d (x0 D sd)).2.2.2.1.2.2 ∧ zI h' 157 41 = (dDays D.1 D.2.1 p R rule d (x0 D sd)).2.2.1
theorem c_openCost {l : Launch} (hT : zTM t) (hD : sdOk D p) (hm : mSd h D p) (hRo : roOk R) (hro : mRo h R) (d : Nat) (hd : d ≤ 366) (htd : D.2.2.2 + d < 2 ^ 20) : zMet E b l yX11_openCost cX11_openCost 2 (some .long) 6 0 0 [.ref (b + 157), .int (nI d)] t h (qJ (mCoPost h t D p R 0 d (zI h 157 41))) := by
  refine zMet.of (ls := [some (.ref (b + 157)), some (.int (nI d))]) (by decide) (zle rfl) 0 rfl ?_
  intro G hlG C hR hE hin
  refine zz_aload_0 C dX11_openCost_0 <| zpc 1 rfl <| ?_
  refine zy_callVV C hR [] (c_lays hT hD hm) lX11_255 rfl (tM_K hT) (by decide) rfl ⟨zle rfl, zle rfl, zle rfl, zle rfl⟩ (zle rfl) dX11_openCost_1 ?_
  intro t' h' hv; obtain ⟨rfl, a1, hw⟩ := hv
  refine zz_aload_0 C dX11_openCost_4 <| zz_iconst_0 C dX11_openCost_5 <| zz_iload_1 C dX11_openCost_6 <| zpc 7 rfl <| ?_
  refine zy_callVV C hR [_, _] (c_goes hT (hD.w _) hw hRo (hro.ag3 a1) 0 d (by omega) (fun q => by cases q) (by omega) htd) lX11_305 rfl (tM_K hT) (by decide) rfl ⟨zle rfl, zle rfl, zle rfl, zle rfl⟩ (zle rfl) dX11_openCost_7 ?_
  intro t' h' hv; obtain ⟨rfl, a2, hw2⟩ := hv
  refine zz_aload_0 C dX11_openCost_10 <| zz_getL C fX11_239 (tM_K hT) dX11_openCost_11 <| zpc 14 rfl <| ?_
  rw [hw2.2.2.2.2.1]
  refine zy_lreturn C hE (zle rfl) (zle rfl) dX11_openCost_14 ?_
  exact ⟨rfl, a1.tr (.of2 a2), rfl, hw2.2.2.2.2.2.1, hw2.2.2.2.2.2.2.2.2⟩
/-- with another toll -/
abbrev dTl (D : yD) (tl : Nat) : yD := (D.1, ((D.2.1.1.1, tl, D.2.1.1.2.2), D.2.1.2), D.2.2)
theorem c_tollCost {l : Launch} (hT : zTM t) (hD : sdOk D p) (hm : mSd h D p) (h0 : D.2.1.1.2.1 = 0) (hRo : roOk R) (hro : mRo h R) (tl d : Nat) (htl : tl ≤ 20) (hd : d ≤ 366) (htd : D.2.2.2 + d < 2 ^ 20) : zMet E b l yX11_tollCost cX11_tollCost 5 (some .long) 7 0 0 [.ref (b + 157), .int (nI tl), .int (nI d)] t h (qJ (mCoPost h t (dTl D tl) p R 0 d (zI h 157 41))) := by
  have hD1 : sdOk (dTl D tl) p := ⟨⟨⟨hD.1.1.1, hD.1.1.2.1, hD.1.1.2.2.1, htl, hD.1.1.2.2.2.2⟩, hD.1.2⟩, hD.2⟩
  have hm1 : mSd (zsI h 157 39 (nI tl)) (dTl D tl) p := by
    refine hm.pl hD (fun i k hn => ?_) rfl rfl rfl rfl rfl (zI_self _ _ _ _) ?_
    · unfold sp at hn
      rw [zI_sI, if_neg (by omega)]
    · obtain ⟨p1, p2, p3, p4, p5, p6, p7⟩ := hm.2.1
      refine ⟨?_, ?_, fun q => ?_, ?_, ?_, ?_, ?_⟩ <;> rw [zI_sI, if_neg (by omega)] <;> first | assumption | exact p3 q
  have hro1 : mRo (zsI h 157 39 (nI tl)) R := ⟨by rw [zI_sI, if_neg (by omega)]; exact hro.1, fun k hk => by rw [zI_sI, if_neg (by omega)]; exact hro.2 k hk⟩
  have e1 : zI (zsI h 157 39 (nI tl)) 157 41 = zI h 157 41 := by rw [zI_sI, if_neg (by omega)]
  have ht0 : zI h 157 39 = 0 := by rw [hm.2.2.2.2.1, h0]; rfl
  refine zMet.of (ls := [some (.ref (b + 157)), some (.int (nI tl)), some (.int (nI d)), none, none]) (by decide) (zle rfl) 2 rfl ?_
  intro G hlG C hR hE hin
  refine zz_aload_0 C dX11_tollCost_0 <| zz_iload_1 C dX11_tollCost_1 <| zy_putI C fX11_214 pX11_39 (tM_K hT) dX11_tollCost_2 <| zz_aload_0 C dX11_tollCost_5 <| zz_iload_2 C dX11_tollCost_6 <| zpc 7 rfl <| ?_
  refine zy_callVJ C hR [_] (c_openCost hT hD1 hm1 hRo hro1 d hd htd) lX11_344 rfl (tM_K hT) (by decide) rfl ⟨zle rfl, zle rfl, zle rfl, zle rfl⟩ (zle rfl) dX11_tollCost_7 ?_
  intro v t' h' hv; rw [e1] at hv; obtain ⟨rfl, a1, rfl, v2, v3⟩ := hv
  refine zz_lstore_3 C (zle rfl) rfl dX11_tollCost_10 <| zz_aload_0 C dX11_tollCost_11 <| zz_iconst_0 C dX11_tollCost_12 <| zy_putI C fX11_214 pX11_39 (tM_K hT) dX11_tollCost_13 <| zz_lload_3 C dX11_tollCost_16 <| zpc 17 rfl <| ?_
  refine zy_lreturn C hE (zle rfl) (zle rfl) dX11_tollCost_17 ?_
  refine ⟨rfl, a1.put ht0, rfl, v2, ?_⟩
  rw [zI_sI, if_neg (by omega)]; exact v3
/-- without a going's own cost -/
abbrev pAs (p : yP) (g : Nat) : yP := (p.1, p.2.1, p.2.2.1, p.2.2.2.1, some g, p.2.2.2.2.2)
theorem c_othersCost {l : Launch} (hT : zTM t) (hD : sdOk D p) (hm : mSd h D p) (h0 : p.2.2.2.2.1 = none) (hRo : roOk R) (hro : mRo h R) (g rule d : Nat) (hg : g < 14) (h3 : rule ≤ 3) (hr1 : rule = 1 → 0 < R.1) (hd : d ≤ 366) (htd : D.2.2.2 + d < 2 ^ 20) : zMet E b l yX11_othersCost cX11_othersCost 4 (some .long) 6 0 0 [.ref (b + 157), .int (nI g), .int (nI rule), .int (nI d)] t h (qJ (mCoPost h t D (pAs p g) R rule d (zI h 157 41))) := by
  have hpo := hD.1.2.2
  have hD1 : sdOk D (pAs p g) := ⟨⟨hD.1.1, hD.1.2.1, hpo.1, hpo.2.1, hpo.2.2.1, hpo.2.2.2.1, fun x e => by cases e; exact hg⟩, hD.2⟩
  have hm1 : mSd (zsI h 157 52 (nI g)) D (pAs p g) := by
    refine hm.pl hD (fun i k hn => ?_) rfl rfl rfl rfl rfl ?_ ?_
    · unfold sp at hn
      rw [zI_sI, if_neg (by omega)]
    · rw [zI_sI, if_neg (by omega)]; exact hm.2.2.2.2.1
    · obtain ⟨p1, p2, p3, p4, p5, p6, p7⟩ := hm.2.1
      refine ⟨?_, ?_, fun q => ?_, ?_, ?_, zI_self _ _ _ _, ?_⟩ <;> rw [zI_sI, if_neg (by omega)] <;> first | assumption | exact p3 q
  have hro1 : mRo (zsI h 157 52 (nI g)) R := ⟨by rw [zI_sI, if_neg (by omega)]; exact hro.1, fun k hk => by rw [zI_sI, if_neg (by omega)]; exact hro.2 k hk⟩
  have e1 : zI (zsI h 157 52 (nI g)) 157 41 = zI h 157 41 := by rw [zI_sI, if_neg (by omega)]
  have ha0 : zI h 157 52 = -1 := by rw [hm.2.1.2.2.2.2.2.1, h0]; rfl
  refine zMet.of (ls := [some (.ref (b + 157)), some (.int (nI g)), some (.int (nI rule)), some (.int (nI d))]) (by decide) (zle rfl) 0 rfl ?_
  intro G hlG C hR hE hin
  refine zz_aload_0 C dX11_othersCost_0 <| zz_iload_1 C dX11_othersCost_1 <| zy_putI C fX11_88 pX11_52 (tM_K hT) dX11_othersCost_2 <| zz_aload_0 C dX11_othersCost_5 <| zpc 6 rfl <| ?_
  refine zy_callVV C hR [] (c_lays hT hD1 hm1) lX11_255 rfl (tM_K hT) (by decide) rfl ⟨zle rfl, zle rfl, zle rfl, zle rfl⟩ (zle rfl) dX11_othersCost_6 ?_
  intro t' h' hv; rw [e1] at hv; obtain ⟨rfl, a1, hw⟩ := hv
  refine zz_aload_0 C dX11_othersCost_9 <| zz_iload_2 C dX11_othersCost_10 <| zz_iload_3 C dX11_othersCost_11 <| zpc 12 rfl <| ?_
  refine zy_callVV C hR [_, _] (c_goes hT (hD1.w _) hw hRo (hro1.ag3 a1) rule d h3 hr1 (by omega) htd) lX11_305 rfl (tM_K hT) (by decide) rfl ⟨zle rfl, zle rfl, zle rfl, zle rfl⟩ (zle rfl) dX11_othersCost_12 ?_
  intro t' h' hv; obtain ⟨rfl, a2, hw2⟩ := hv
  refine zz_aload_0 C dX11_othersCost_15 <| zz_iconst_m1 C dX11_othersCost_16 <| zy_putI C fX11_88 pX11_52 (tM_K hT) dX11_othersCost_17 <| zz_aload_0 C dX11_othersCost_20 <| zz_getL C fX11_239 (tM_K hT) dX11_othersCost_21 <| zpc 24 rfl <| ?_
  rw [show ∀ (g : zH) (v : Int32), zL (zsI g 157 52 v) 157 43 = zL g 157 43 from fun _ _ => rfl, hw2.2.2.2.2.1]
  refine zy_lreturn C hE (zle rfl) (zle rfl) dX11_othersCost_24 ?_
  refine ⟨rfl, (a1.tr (.of2 a2)).put ha0, rfl, hw2.2.2.2.2.2.1, ?_⟩
  rw [zI_sI, if_neg (by omega)]; exact hw2.2.2.2.2.2.2.2.2
/-- with a going held back -/
abbrev pHe (p : yP) (g y : Nat) : yP := (p.1, (some g, y), p.2.2)
theorem c_heldCost {l : Launch} (hT : zTM t) (hD : sdOk D p) (hm : mSd h D p) (h0 : p.2.1.1 = none) (hRo : roOk R) (hro : mRo h R) (g y d : Nat) (hg : g < 14) (hy : y ≤ 6) (hd : d ≤ 366) (htd : D.2.2.2 + d < 2 ^ 20) : zMet E b l yX11_heldCost cX11_heldCost 6 (some .long) 7 0 0 [.ref (b + 157), .int (nI g), .int (nI y), .int (nI d)] t h (qJ (fun v t' h' => t' = t ∧ zAg4 h h' ∧ zI h' 157 0 = zI h 157 0 ∧ mSd h' D p ∧ v = lN (dDays D.1 D.2.1 (pHe p g y) R 0 d (x0 D (zI h 157 41))).2.2.2.1.1 ∧ zI h' 157 41 = (dDays D.1 D.2.1 (pHe p g y) R 0 d (x0 D (zI h 157 41))).2.2.1)) := by
  have hpo := hD.1.2.2
  have hD1 : sdOk D (pHe p g y) := ⟨⟨hD.1.1, hD.1.2.1, hpo.1, fun x e => by cases e; exact hg, hy, hpo.2.2.2⟩, hD.2⟩
  have rd : ∀ i k, ¬ (i = 157 ∧ (k = 37 ∨ k = 38)) → zI (zsI (zsI h 157 37 (nI g)) 157 38 (nI y)) i k = zI h i k := fun i k hn => by
    rw [zI_sI, if_neg (by omega), zI_sI, if_neg (by omega)]
  have hm1 : mSd (zsI (zsI h 157 37 (nI g)) 157 38 (nI y)) D (pHe p g y) := by
    refine hm.pl hD (fun i k hn => ?_) rfl rfl rfl rfl rfl ?_ ?_
    · unfold sp at hn
      exact rd i k (by omega)
    · rw [rd _ _ (by omega)]; exact hm.2.2.2.2.1
    · obtain ⟨p1, p2, p3, p4, p5, p6, p7⟩ := hm.2.1
      refine ⟨?_, ?_, fun q => zI_self _ _ _ _, ?_, ?_, ?_, ?_⟩
      · rw [rd _ _ (by omega)]; exact p1
      · rw [zI_sI, if_neg (by omega), zI_self]; rfl
      · rw [rd _ _ (by omega)]; exact p4
      · rw [rd _ _ (by omega)]; exact p5
      · rw [rd _ _ (by omega)]; exact p6
      · rw [rd _ _ (by omega)]; exact p7
  have hro1 : mRo (zsI (zsI h 157 37 (nI g)) 157 38 (nI y)) R := ⟨by rw [rd _ _ (by omega)]; exact hro.1, fun k hk => by rw [rd _ _ (by omega)]; exact hro.2 k hk⟩
  have e1 : zI (zsI (zsI h 157 37 (nI g)) 157 38 (nI y)) 157 41 = zI h 157 41 := rd _ _ (by omega)
  have ha0 : zI h 157 37 = -1 := by rw [hm.2.1.2.1, h0]; rfl
  refine zMet.of (ls := [some (.ref (b + 157)), some (.int (nI g)), some (.int (nI y)), some (.int (nI d)), none, none]) (by decide) (zle rfl) 2 rfl ?_
  intro G hlG C hR hE hin
  refine zz_aload_0 C dX11_heldCost_0 <| zz_iload_1 C dX11_heldCost_1 <| zy_putI C fX11_76 pX11_37 (tM_K hT) dX11_heldCost_2 <| zz_aload_0 C dX11_heldCost_5 <| zz_iload_2 C dX11_heldCost_6 <| zy_putI C fX11_261 pX11_38 (tM_K hT) dX11_heldCost_7 <| zz_aload_0 C dX11_heldCost_10 <| zz_iload_3 C dX11_heldCost_11 <| zpc 12 rfl <| ?_
  refine zy_callVJ C hR [_] (c_openCost hT hD1 hm1 hRo hro1 d hd htd) lX11_344 rfl (tM_K hT) (by decide) rfl ⟨zle rfl, zle rfl, zle rfl, zle rfl⟩ (zle rfl) dX11_heldCost_12 ?_
  intro v t' h' hv; rw [e1] at hv; obtain ⟨rfl, a1, rfl, v2, v3⟩ := hv
  refine zz_lstore_4 C (zle rfl) rfl dX11_heldCost_15 <| zz_aload_0 C dX11_heldCost_17 <| zz_iconst_m1 C dX11_heldCost_18 <| zy_putI C fX11_76 pX11_37 (tM_K hT) dX11_heldCost_19 <| zz_lload_4 C dX11_heldCost_22 <| zpc 24 rfl <| ?_
  refine zy_lreturn C hE (zle rfl) (zle rfl) dX11_heldCost_24 ?_
  have ag : zAg4 h (zsI h' 157 37 (-1)) := ⟨fun i k hn => by
      rw [zI_sI]
      by_cases z : i = 157 ∧ k = 37
      · rw [if_pos z, z.1, z.2]; exact ha0.symm
      · rw [if_neg z, a1.1 i k (fun y => hn (Or.inl y)), rd i k (fun y => by unfold sc4 at hn; omega)], fun i k hn => a1.2 i k hn⟩
  have f1 : ∀ k, ¬ sc3 157 k → ¬ (k = 37 ∨ k = 38) → zI (zsI h' 157 37 (-1)) 157 k = zI h 157 k := fun k n1 n2 => by
    rw [zI_sI, if_neg (by omega), a1.1 _ _ n1, rd _ _ (by omega)]
  refine ⟨rfl, ag, f1 _ (by unfold sc3 sc2 sc1; omega) (by omega), hm.ex hD ag.1 (fun z => absurd h0 z) rfl rfl (fun k hk => ?_) ?_, rfl, ?_⟩
  · obtain ⟨q1, q2⟩ := (hm.2.2.2.2.2.1 k hk).2
    rw [zI_sI, if_neg (by omega), zI_sI, if_neg (by omega), a1.1 _ _ (by unfold sc3 sc2 sc1; omega), a1.1 _ _ (by unfold sc3 sc2 sc1; omega), rd _ _ (by omega), rd _ _ (by omega)]
    exact ⟨q1, q2⟩
  · rw [f1 _ (by unfold sc3 sc2 sc1; omega) (by omega)]; exact hm.2.2.2.2.2.2
  · rw [zI_sI, if_neg (by omega)]; exact v3
end MCO
