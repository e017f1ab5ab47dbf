/-! ===== the reference: a road that might be ===== -/
section MMR
variable {E : zE} {b : Nat} {G : zG} {t : zT} {h : zH} {D : yD} {R : Nat × (Nat → Nat)} {Mo : Nat × (Nat → Nat → Nat)}
theorem zAg5.sI {h h' : zH} (a : zAg5 h h') {i k : Nat} {v : Int32} (hs : sc5 i k) : zAg5 h (zsI h' i k v) := ⟨fun j q hn => by
  rw [zI_sI, if_neg (fun z => hn (by rw [z.1, z.2]; exact hs))]
  exact a.1 j q hn, a.2⟩
/-- but for the row behind the last road, and scratch -/
def zAgN (n : Nat) (h h' : zH) : Prop := (∀ i k, ¬ (sc3 i k ∨ i = 174 + 1 + n) → zI h' i k = zI h i k) ∧ ∀ i k, ¬ sl3 i k → zL h' i k = zL h i k
theorem zAgN.ag5 {n : Nat} {h h' : zH} (hn : n ≤ 10) (a : zAgN n h h') : zAg5 h h' := ⟨fun i k q => a.1 i k (fun z => q (by unfold sc5 sc4; rcases z with z | z; exact Or.inl (Or.inl z); omega)), a.2⟩
theorem zAgN.sd {n : Nat} {h h' : zH} (hn : n = D.2.1.1.1) (hn10 : n ≤ 10) (a : zAgN n h h') (hD : sdOk D yP0) (hm : mSd h D yP0) : mSd h' D yP0 := by
  obtain ⟨⟨l1, l2, l3, l4, l5⟩, ⟨p1, p2, p3, p4, p5, p6, p7⟩, t1, t5, tl, rd, td⟩ := hm
  have hg := hD.1.2.1.2.2.1
  have q : ∀ i k, ¬ (sc3 i k ∨ i = 174 + 1 + n) → ∀ v, zI h i k = v → zI h' i k = v := fun i k hn v e => (a.1 i k hn).trans e
  refine ⟨⟨q _ _ ?_ _ l1, q _ _ ?_ _ l2, q _ _ ?_ _ l3, fun g hg i hi => q _ _ ?_ _ (l4 g hg i hi), fun k hk => q _ _ ?_ _ (l5 k hk)⟩, ⟨q _ _ ?_ _ p1, q _ _ ?_ _ p2, fun z => q _ _ ?_ _ (p3 z), q _ _ ?_ _ p4, q _ _ ?_ _ p5, q _ _ ?_ _ p6, q _ _ ?_ _ p7⟩, q _ _ ?_ _ t1, q _ _ ?_ _ t5, q _ _ ?_ _ tl, fun k hk => ⟨fun i hi => q _ _ ?_ _ ((rd k hk).1 i hi), q _ _ ?_ _ (rd k hk).2.1, q _ _ ?_ _ (rd k hk).2.2⟩, q _ _ ?_ _ td⟩ <;> (unfold sc3 sc2 sc1; omega)
theorem mWk.nw {h1 hc : zH} {sd : Int32} {k : Nat} (hD : sdOk D yP0) (hn : D.2.1.1.1 ≤ 10) (hm : mWk h1 D.1 D.2.1 yP0 (x0 D sd)) (e1 : ∀ i j, ¬ i = 174 + 1 + D.2.1.1.1 → zI hc i j = zI h1 i j) (e2 : ∀ i j, zL hc i j = zL h1 i j) (e3 : ∀ q, q < 5 → zI hc (174 + 1 + D.2.1.1.1) q = nI (Mo.2 k q)) : mWk (zsI (zsI (zsI hc 233 D.2.1.1.1 0) 234 D.2.1.1.1 (nI D.2.1.1.2.2)) 157 30 (nI (D.2.1.1.1 + 1))) D.1 (dNw D Mo k).2.1 yP0 (x0 (dNw D Mo k) sd) := by
  obtain ⟨⟨⟨g1, g2, g3, g4⟩, ⟨l1, l2, l3, l4, l5⟩, ⟨p1, p2, p3, p4, p5, p6, p7⟩, ⟨t1, t2, t3, t4⟩⟩, h2, h3, h4, h5, h6, h7, h8, h9⟩ := hm
  have hg := hD.1.2.1.2.2.1
  have rd : ∀ i j, ¬ (i = 174 + 1 + D.2.1.1.1 ∨ (i = 233 ∧ j = D.2.1.1.1) ∨ (i = 234 ∧ j = D.2.1.1.1) ∨ (i = 157 ∧ j = 30)) → ∀ v, zI h1 i j = v → zI (zsI (zsI (zsI hc 233 D.2.1.1.1 0) 234 D.2.1.1.1 (nI D.2.1.1.2.2)) 157 30 (nI (D.2.1.1.1 + 1))) i j = v := fun i j q v e => by
    rw [zI_sI, if_neg (by omega), zI_sI, if_neg (by omega), zI_sI, if_neg (by omega), e1 i j (by omega)]; exact e
  refine ⟨⟨⟨rd _ _ ?_ _ g1, zI_self _ _ _ _, rd _ _ ?_ _ g3, fun j hj => ⟨fun i hi => ?_, ?_⟩⟩, ⟨rd _ _ ?_ _ l1, rd _ _ ?_ _ l2, rd _ _ ?_ _ l3, fun g hg i hi => rd _ _ ?_ _ (l4 g hg i hi), fun j hj => rd _ _ ?_ _ (l5 j hj)⟩, ⟨rd _ _ ?_ _ p1, rd _ _ ?_ _ p2, fun z => rd _ _ ?_ _ (p3 z), rd _ _ ?_ _ p4, rd _ _ ?_ _ p5, rd _ _ ?_ _ p6, rd _ _ ?_ _ p7⟩, ⟨rd _ _ ?_ _ t1, rd _ _ ?_ _ t2, t3, t4⟩⟩, fun j hj => ?_, rd _ _ ?_ _ h3, rd _ _ ?_ _ h4, (e2 _ _).trans h5, (e2 _ _).trans h6, rd _ _ ?_ _ h7, rd _ _ ?_ _ h8, rd _ _ ?_ _ h9⟩
  case refine_3 =>
    have hj : j < D.2.1.1.1 + 1 := hj
    show _ = nI (if j = D.2.1.1.1 then Mo.2 k i else D.2.1.2 j i)
    by_cases q : j = D.2.1.1.1
    · rw [if_pos q, q, zI_sI, if_neg (by omega), zI_sI, if_neg (by omega), zI_sI, if_neg (by omega)]; exact e3 i hi
    · rw [if_neg q]; exact rd _ _ (by omega) _ ((g4 j (show j < D.2.1.1.1 by omega)).1 i hi)
  case refine_4 =>
    have hj : j < D.2.1.1.1 + 1 := hj
    show _ = nI (nUp D.2.2.1.1 D.2.1.1.1 0 j)
    unfold nUp
    by_cases q : j = D.2.1.1.1
    · rw [if_pos q, q, zI_sI, if_neg (by omega), zI_sI, if_neg (by omega), zI_self]; rfl
    · rw [if_neg q]; exact rd _ _ (by omega) _ (g4 j (show j < D.2.1.1.1 by omega)).2
  case refine_19 =>
    have hj : j < D.2.1.1.1 + 1 := hj
    show _ = nI (nUp D.2.2.1.2 D.2.1.1.1 D.2.1.1.2.2 j)
    unfold nUp
    by_cases q : j = D.2.1.1.1
    · rw [if_pos q, q, zI_sI, if_neg (by omega), zI_self]
    · rw [if_neg q]; exact rd _ _ (by omega) _ (h2 j (show j < D.2.1.1.1 by omega))
  all_goals omega
theorem c_moreCost {l : Launch} (hT : zTM t) (hD : sdOk D yP0) (hm : mSd h D yP0) (hn : D.2.1.1.1 ≤ 10) (hMo : moOk D.1.1.1 Mo) (hmo : mMo h Mo) (hRo : roOk R) (hro : mRo h R) (k d : Nat) (hk : k < Mo.1) (hd : d ≤ 366) (htd : D.2.2.2 + d < 2 ^ 20) : zMet E b l yX11_moreCost cX11_moreCost 4 (some .long) 6 0 0 [.ref (b + 157), .int (nI k), .int (nI d)] t h (qJ (fun v t' h' => t' = t ∧ zAgN D.2.1.1.1 h h' ∧ v = lN (dCo (dNw D Mo k) yP0 R 0 d (zI h 157 41)) ∧ zI h' 157 41 = zI h 157 41)) := by
  have hM4 := hMo.1
  refine zMet.of (ls := [some (.ref (b + 157)), some (.int (nI k)), some (.int (nI d)), none]) (by decide) (zle rfl) 1 rfl ?_
  intro G hlG C hR hE hin
  have lp : ∀ h1 : zH, zAg3 h h1 → mWk h1 D.1 D.2.1 yP0 (x0 D (zI h 157 41)) → ∀ q, q ≤ 5 → ∀ hc : zH, (∀ i j, ¬ i = 174 + 1 + D.2.1.1.1 → zI hc i j = zI h1 i j) → (∀ i j, zL hc i j = zL h1 i j) → (∀ j, j < q → zI hc (174 + 1 + D.2.1.1.1) j = nI (Mo.2 k j)) → zAW E b G 4 0 0 6 [some (.ref (b + 157)), some (.int (nI k)), some (.int (nI d)), some (.int (nI q))] [] t hc := by
    intro h1 a1 hw
    refine zLoop 5 fun q hq ih hc e1 e2 e3 => ?_
    have r1 : zI hc 157 30 = nI D.2.1.1.1 := (e1 _ _ (by omega)).trans hw.1.1.2.1
    have r2 : ∀ v, zI (zsI hc 233 D.2.1.1.1 v) 157 30 = nI D.2.1.1.1 := fun v => by rw [zI_sI, if_neg (by omega)]; exact r1
    have r3 : ∀ v, zI (zsI hc 233 D.2.1.1.1 v) 160 5 = nI D.2.1.1.2.2 := fun v => by rw [zI_sI, if_neg (by omega), e1 _ _ (by omega)]; exact (a1.sd hD hm).2.2.2.1
    have r4 : ∀ v u, zI (zsI (zsI hc 233 D.2.1.1.1 v) 234 D.2.1.1.1 u) 157 30 = nI D.2.1.1.1 := fun v u => by rw [zI_sI, if_neg (by omega)]; exact r2 v
    have m1 : q < 5 → zI hc (191 + 1 + k) q = nI (Mo.2 k q) := fun z => by rw [e1 _ _ (by omega), a1.1 _ _ (by unfold sc3 sc2 sc1; omega)]; exact hmo.2 k hk q z
    have ac : zAgN D.2.1.1.1 h (zsI (zsI (zsI hc 233 D.2.1.1.1 0) 234 D.2.1.1.1 (nI D.2.1.1.2.2)) 157 30 (nI (D.2.1.1.1 + 1))) := ⟨fun i j z => by
      rw [zI_sI, if_neg (fun y => z (Or.inl (by unfold sc3; omega))), zI_sI, if_neg (fun y => z (Or.inl (by unfold sc3 sc2; omega))), zI_sI, if_neg (fun y => z (Or.inl (by unfold sc3 sc2; omega))), e1 i j (fun y => z (Or.inr y)), a1.1 i j (fun y => z (Or.inl y))], fun i j z => (e2 i j).trans (a1.2 i j z)⟩
    refine zz_iload_3 C dX11_moreCost_6 <| zz_iconst_5 C dX11_moreCost_7 <| zpc 8 rfl <| ?_
    refine zz_icmp_ge C 36 dX11_moreCost_8 (by decide) (fun c8 => ?_) (fun c8 => ?_)
    · rw [show (5 : Int32) = nI 5 from rfl, nI_leI (by omega) (by omega)] at c8
      refine zz_aload_0 C dX11_moreCost_36 <| zz_getR C fX11_61 (tM_K hT) (tM_R_w hT) dX11_moreCost_37 <| zz_aload_0 C dX11_moreCost_40 <| zz_getI C fX11_204 (tM_K hT) dX11_moreCost_41 <| zpc 44 rfl <| ?_
      rw [r1]
      refine zz_iconst_0 C dX11_moreCost_44 <| zc_iastore C _ (tM_K_w hT) (znI (by omega)) (by omega) dX11_moreCost_45 <| zz_aload_0 C dX11_moreCost_46 <| zz_getR C fX11_64 (tM_K hT) (tM_R_r hT) dX11_moreCost_47 <| zz_aload_0 C dX11_moreCost_50 <| zz_getI C fX11_204 (tM_K hT) dX11_moreCost_51 <| zpc 54 rfl <| ?_
      rw [r2]
      refine zz_aload_0 C dX11_moreCost_54 <| zz_getR C fX11_20 (tM_K hT) (tM_R_told hT) dX11_moreCost_55 <| zz_iconst_5 C dX11_moreCost_58 <| zc_iaload C 5 (tM_K_told hT) (zlit _ (by decide)) (by decide) dX11_moreCost_59 <| zpc 60 rfl <| ?_
      rw [r3]
      refine zc_iastore C _ (tM_K_r hT) (znI (by omega)) (by omega) dX11_moreCost_60 <| zz_aload_0 C dX11_moreCost_61 <| zz_dup C dX11_moreCost_62 rfl <| zz_getI C fX11_204 (tM_K hT) dX11_moreCost_63 <| zpc 66 rfl <| ?_
      rw [r4]
      refine zz_iconst_1 C dX11_moreCost_66 <| zz_iadd C dX11_moreCost_67 <| zpc 68 rfl <| ?_
      rw [show (1 : Int32) = nI 1 from rfl, nI_add]
      refine zy_putI C fX11_204 pX11_30 (tM_K hT) dX11_moreCost_68 <| zz_aload_0 C dX11_moreCost_71 <| zz_iconst_0 C dX11_moreCost_72 <| zz_iload_2 C dX11_moreCost_73 <| zpc 74 rfl <| ?_
      refine zy_callVV C hR [_, _] (c_goes hT ((dNw_ok hD hn hMo hk).w _) (hw.nw (k := k) (Mo := Mo) hD hn e1 e2 (fun j hj => e3 j (by omega))) hRo (hro.ag5 (ac.ag5 hn)) 0 d (by omega) (fun q => by cases q) (by omega) htd) lX11_305 rfl (tM_K hT) (by decide) rfl ⟨zle rfl, zle rfl, zle rfl, zle rfl⟩ (zle rfl) dX11_moreCost_74 ?_
      intro t' h' hv; obtain ⟨rfl, a2, hw2⟩ := hv
      refine zz_aload_0 C dX11_moreCost_77 <| zz_getL C fX11_239 (tM_K hT) dX11_moreCost_78 <| zpc 81 rfl <| ?_
      rw [hw2.2.2.2.2.1]
      refine zy_lreturn C hE (zle rfl) (zle rfl) dX11_moreCost_81 ?_
      refine ⟨rfl, ⟨fun i j z => (a2.1 i j (fun y => z (Or.inl (Or.inl y)))).trans (ac.1 i j z), fun i j z => ((zAg3.of2 a2).2 i j z).trans (ac.2 i j z)⟩, rfl, ?_⟩
      rw [hw2.2.2.2.2.2.2.2.2, dDays_sd rfl]; rfl
    · rw [show (5 : Int32) = nI 5 from rfl, nI_leI (by omega) (by omega)] at c8
      refine zz_aload_0 C dX11_moreCost_11 <| zz_getR C fX11_34 (tM_K hT) (tM_R_road hT) dX11_moreCost_12 <| zz_aload_0 C dX11_moreCost_15 <| zz_getI C fX11_204 (tM_K hT) dX11_moreCost_16 <| zpc 19 rfl <| ?_
      rw [r1]
      refine zc_row C _ (tM_K_road hT) (tM_row_road hT) (znI (by omega)) (by omega) dX11_moreCost_19 <| fun r19 => ?_
      refine zz_iload_3 C dX11_moreCost_20 <| zz_aload_0 C dX11_moreCost_21 <| zz_getR C fX11_40 (tM_K hT) (tM_R_more hT) dX11_moreCost_22 <| zz_iload_1 C dX11_moreCost_25 <| zc_row C _ (tM_K_more hT) (tM_row_more hT) (znI (by omega)) (by omega) dX11_moreCost_26 <| fun r26 => ?_
      refine zz_iload_3 C dX11_moreCost_27 <| zc_iaload C _ (tM_KR_more hT _ r26) (znI (by omega)) (by omega) dX11_moreCost_28 <| zpc 29 rfl <| ?_
      rw [m1 (by omega)]
      refine zc_iastore C _ (tM_KR_road hT _ r19) (znI (by omega)) (by omega) dX11_moreCost_29 <| zz_iinc_3 C _ (zle rfl) rfl dX11_moreCost_30 nI_s <| zz_goto C 6 dX11_moreCost_33 (by decide) <| zpc 6 rfl <| ?_
      refine ih (by omega) _ (fun i j z => ?_) e2 (fun j hj => ?_)
      · rw [zI_sI, if_neg (by omega)]; exact e1 i j z
      · rw [zI_sI]
        by_cases z : j = q
        · rw [if_pos ⟨rfl, z⟩, z]
        · rw [if_neg (by omega)]; exact e3 j (by omega)
  refine zz_aload_0 C dX11_moreCost_0 <| zpc 1 rfl <| ?_
  refine zy_callVV C hR [] (c_lays hT hD hm) lX11_255 rfl (tM_K hT) (by decide) rfl ⟨zle rfl, zle rfl, zle rfl, zle rfl⟩ (zle rfl) dX11_moreCost_1 ?_
  intro t' h' hv; obtain ⟨rfl, a1, hw⟩ := hv
  refine zz_iconst_0 C dX11_moreCost_4 <| zz_istore_3 C (zle rfl) rfl dX11_moreCost_5 <| zpc 6 rfl <| ?_
  exact lp h' a1 hw 0 (by omega) _ (fun _ _ _ => rfl) (fun _ _ => rfl) (fun j hj => absurd hj (by omega))
theorem mCy.nw {hc h' : zH} {t' : zT} {v : Int64} {k d : Nat} (hD : sdOk D yP0) (hn : D.2.1.1.1 ≤ 10) (x : mCy h hc D R) (y : t' = t ∧ zAgN D.2.1.1.1 hc h' ∧ v = lN (dCo (dNw D Mo k) yP0 R 0 d (zI hc 157 41)) ∧ zI h' 157 41 = zI hc 157 41) : t' = t ∧ mCy h h' D R ∧ v = lN (dCo (dNw D Mo k) yP0 R 0 d (zI h 157 41)) := by
  obtain ⟨x1, x2, x3, x4, x5⟩ := x
  obtain ⟨y1, y2, y3, y4⟩ := y
  rw [x5] at y3 y4
  exact ⟨y1, ⟨x1.tr (y2.ag5 hn), (y2.1 _ _ (by unfold sc3 sc2 sc1; omega)).trans x2, y2.sd rfl hn hD x3, x4.ag5 (y2.ag5 hn), y4⟩, y3⟩
theorem c_more1 {l : Launch} (hT : zTM t) (hD : sdOk D yP0) (hm : mSd h D yP0) (hn : D.2.1.1.1 ≤ 10) (hMo : moOk D.1.1.1 Mo) (hmo : mMo h Mo) (hRo : roOk R) (hro : mRo h R) (k d : Nat) (hk : k < Mo.1) (hd1 : 1 ≤ d) (hd : d ≤ 366) (htd : D.2.2.2 + d < 2 ^ 20) : zMet E b l yX11_more cX11_more 5 (some .long) 7 0 0 [.ref (b + 157), .int (nI k), .int (nI d)] t h (qJ (fun v t' h' => v = lN (dCo D yP0 R 0 d (zI h 157 41)) - lN (dCo (dNw D Mo k) yP0 R 0 d (zI h 157 41)) ∧ mCl h t D 0 t' h')) := by
  have o2 : (1 ≤ nI d ∧ nI d ≤ 366) := daysOk.mpr ⟨d, hd1, hd, rfl⟩
  have hM4 := hMo.1
  have t2 : zI (zsI h 157 0 0) 160 2 = nI Mo.1 := by rw [zI_sI, if_neg (by omega)]; exact hmo.1
  have k0 := mCy.i hD hm hro
  refine zMet.of (ls := [some (.ref (b + 157)), some (.int (nI k)), some (.int (nI d)), none, none]) (by decide) (zle rfl) 2 rfl ?_
  intro G hlG C hR hE hin
  refine zz_aload_0 C dX11_more_0 <| zz_iconst_0 C dX11_more_1 <| zy_putI C fX11_104 pX11_0 (tM_K hT) dX11_more_2 <| zz_aload_0 C dX11_more_5 <| zz_iload_1 C dX11_more_6 <| zz_iconst_0 C dX11_more_7 <| zz_aload_0 C dX11_more_8 <| zz_getR C fX11_20 (tM_K hT) (tM_R_told hT) dX11_more_9 <| zz_iconst_2 C dX11_more_12 <| zc_iaload C 2 (tM_K_told hT) (zlit _ (by decide)) (by decide) dX11_more_13 <| zz_iconst_1 C dX11_more_14 <| zz_isub C dX11_more_15 <| zpc 16 rfl <| ?_
  refine zf_callSI C hR [_, _, _] (c_in _ _ _) lX11_138 rfl ⟨zle rfl, zle rfl, zle rfl, zle rfl⟩ (zle rfl) dX11_more_16 ?_
  refine zz_if_eq C 29 dX11_more_19 (by decide) (fun c19 => ?_) (fun c19 => ?_)
  · rw [zb_eq0, t2, idxOk (by omega)] at c19; exact absurd ⟨k, hk, rfl⟩ c19
  · refine zz_iload_2 C dX11_more_22 <| zpc 23 rfl <| ?_
    refine zf_callSI C hR [_] (c_areDays _) lX11_299 rfl ⟨zle rfl, zle rfl, zle rfl, zle rfl⟩ (zle rfl) dX11_more_23 ?_
    refine zz_if_ne C 33 dX11_more_26 (by decide) (fun c26 => ?_) (fun c26 => ?_)
    · refine zz_iconst_0 C dX11_more_33 <| zz_iconst_1 C dX11_more_34 <| zpc 35 rfl <| ?_
      refine zf_callVI C hR [_, _] (c_bad0 hT _ (by decide) (by first | exact zI_self _ _ _ _ | assumption)) lX11_181 rfl (tM_K hT) (by decide) rfl ⟨zle rfl, zle rfl, zle rfl, zle rfl⟩ (zle rfl) dX11_more_35 ?_
      refine zz_if_eq C 43 dX11_more_38 (by decide) (fun c38 => ?_) (fun c38 => ?_)
      · refine zz_aload_0 C dX11_more_43 <| zz_iload_2 C dX11_more_44 <| zpc 45 rfl <| ?_
        refine zy_callVJ C hR [_] (c_openCost hT hD k0.2.2.1 hRo k0.2.2.2.1 d hd htd) lX11_344 rfl (tM_K hT) (by decide) rfl ⟨zle rfl, zle rfl, zle rfl, zle rfl⟩ (zle rfl) dX11_more_45 ?_
        intro w t2 h2 hv; obtain ⟨rfl, k2, rfl⟩ := k0.co hD hv
        refine zz_lstore_3 C (zle rfl) rfl dX11_more_48 <| zz_lload_3 C dX11_more_49 <| zz_aload_0 C dX11_more_50 <| zz_iload_1 C dX11_more_51 <| zz_iload_2 C dX11_more_52 <| zpc 53 rfl <| ?_
        refine zy_callVJ C hR [_, _] (c_moreCost hT hD k2.2.2.1 hn hMo (hmo.ag5 hM4 k2.1) hRo k2.2.2.2.1 k d hk hd htd) lX11_359 rfl (tM_K hT) (by decide) rfl ⟨zle rfl, zle rfl, zle rfl, zle rfl⟩ (zle rfl) dX11_more_53 ?_
        intro w t2 h3 hv; obtain ⟨rfl, k3, rfl⟩ := k2.nw hD hn hv
        refine zz_lsub C dX11_more_56 <| zpc 57 rfl <| ?_
        refine zy_lreturn C hE (zle rfl) (zle rfl) dX11_more_57 ?_
        exact ⟨rfl, k3.cl⟩
      · exact absurd rfl c38
    · rw [zb_eq0] at c26; exact absurd o2 c26
theorem c_more0 {l : Launch} (hT : zTM t) (hD : sdOk D yP0) (hm : mSd h D yP0) (hM4 : Mo.1 ≤ 4) (hmo : mMo h Mo) (x d : Int32) (hno : ¬ ((∃ k, k < Mo.1 ∧ x = nI k) ∧ ∃ k, 1 ≤ k ∧ k ≤ 366 ∧ d = nI k)) : zMet E b l yX11_more cX11_more 5 (some .long) 7 0 0 [.ref (b + 157), .int x, .int d] t h (qJ (fun v t' h' => v = 0 ∧ mCl h t D 1 t' h')) := by
  have t2 : zI (zsI h 157 0 0) 160 2 = nI Mo.1 := by rw [zI_sI, if_neg (by omega)]; exact hmo.1
  refine zMet.of (ls := [some (.ref (b + 157)), some (.int x), some (.int d), none, none]) (by decide) (zle rfl) 2 rfl ?_
  intro G hlG C hR hE hin
  refine zz_aload_0 C dX11_more_0 <| zz_iconst_0 C dX11_more_1 <| zy_putI C fX11_104 pX11_0 (tM_K hT) dX11_more_2 <| zz_aload_0 C dX11_more_5 <| zz_iload_1 C dX11_more_6 <| zz_iconst_0 C dX11_more_7 <| zz_aload_0 C dX11_more_8 <| zz_getR C fX11_20 (tM_K hT) (tM_R_told hT) dX11_more_9 <| zz_iconst_2 C dX11_more_12 <| zc_iaload C 2 (tM_K_told hT) (zlit _ (by decide)) (by decide) dX11_more_13 <| zz_iconst_1 C dX11_more_14 <| zz_isub C dX11_more_15 <| zpc 16 rfl <| ?_
  refine zf_callSI C hR [_, _, _] (c_in _ _ _) lX11_138 rfl ⟨zle rfl, zle rfl, zle rfl, zle rfl⟩ (zle rfl) dX11_more_16 ?_
  refine zz_if_eq C 29 dX11_more_19 (by decide) (fun c19 => ?_) (fun c19 => ?_)
  · refine zz_iconst_1 C dX11_more_29 <| zz_goto C 34 dX11_more_30 (by decide) <| zz_iconst_1 C dX11_more_34 <| zpc 35 rfl <| ?_
    refine zf_callVI C hR [_, _] (c_bad1 hT _ (by decide) (by first | exact zI_self _ _ _ _ | assumption)) lX11_181 rfl (tM_K hT) (by decide) rfl ⟨zle rfl, zle rfl, zle rfl, zle rfl⟩ (zle rfl) dX11_more_35 ?_
    refine zz_if_eq C 43 dX11_more_38 (by decide) (fun c38 => ?_) (fun c38 => ?_)
    · exact absurd c38 (by decide)
    · refine zz_lconst_0 C dX11_more_41 <| zpc 42 rfl <| ?_
      refine zy_lreturn C hE (zle rfl) (zle rfl) dX11_more_42 ?_
      exact ⟨rfl, rfl, .of4 ((zAg4.th h 0).tr (zAg4.th _ 1)), zI_self _ _ _ _, (hm.th hD 0).th hD 1⟩
  · refine zz_iload_2 C dX11_more_22 <| zpc 23 rfl <| ?_
    refine zf_callSI C hR [_] (c_areDays _) lX11_299 rfl ⟨zle rfl, zle rfl, zle rfl, zle rfl⟩ (zle rfl) dX11_more_23 ?_
    refine zz_if_ne C 33 dX11_more_26 (by decide) (fun c26 => ?_) (fun c26 => ?_)
    · rw [zb_ne0] at c19 c26; rw [t2, idxOk (by omega)] at c19; exact absurd ⟨c19, daysOk.mp c26⟩ hno
    · refine zz_iconst_1 C dX11_more_29 <| zz_goto C 34 dX11_more_30 (by decide) <| zz_iconst_1 C dX11_more_34 <| zpc 35 rfl <| ?_
      refine zf_callVI C hR [_, _] (c_bad1 hT _ (by decide) (by first | exact zI_self _ _ _ _ | assumption)) lX11_181 rfl (tM_K hT) (by decide) rfl ⟨zle rfl, zle rfl, zle rfl, zle rfl⟩ (zle rfl) dX11_more_35 ?_
      refine zz_if_eq C 43 dX11_more_38 (by decide) (fun c38 => ?_) (fun c38 => ?_)
      · exact absurd c38 (by decide)
      · refine zz_lconst_0 C dX11_more_41 <| zpc 42 rfl <| ?_
        refine zy_lreturn C hE (zle rfl) (zle rfl) dX11_more_42 ?_
        exact ⟨rfl, rfl, .of4 ((zAg4.th h 0).tr (zAg4.th _ 1)), zI_self _ _ _ _, (hm.th hD 0).th hD 1⟩
theorem c_which1 {l : Launch} (hT : zTM t) (hD : sdOk D yP0) (hm : mSd h D yP0) (hn : D.2.1.1.1 ≤ 10) (hMo : moOk D.1.1.1 Mo) (hmo : mMo h Mo) (hRo : roOk R) (hro : mRo h R) (d : Nat) (hd1 : 1 ≤ d) (hd : d ≤ 366) (htd : D.2.2.2 + d < 2 ^ 20) : zMet E b l yX11_which cX11_which 8 (some .int) 7 0 0 [.ref (b + 157), .int (nI d)] t h (qI (fun v t' h' => v = (wMin D Mo R d (zI h 157 41) Mo.1).1 ∧ mCl h t D 0 t' h')) := by
  have o2 : (1 ≤ nI d ∧ nI d ≤ 366) := daysOk.mpr ⟨d, hd1, hd, rfl⟩
  have hM4 := hMo.1
  refine zMet.of (ls := [some (.ref (b + 157)), some (.int (nI d)), none, none, none, none, none, none]) (by decide) (zle rfl) 6 rfl ?_
  intro G hlG C hR hE hin
  have lp : ∀ k, k ≤ Mo.1 → ∀ (hc : zH) (v : Int32) (w : Int64) (y6 y7 : Option Value), mCy h hc D R → v = (wMin D Mo R d (zI h 157 41) k).1 → w = (wMin D Mo R d (zI h 157 41) k).2 → zAW E b G 8 0 0 34 [some (.ref (b + 157)), some (.int (nI d)), some (.int v), some (.long w), none, some (.int (nI k)), y6, y7] [] t hc := by
    refine zLoop Mo.1 fun k hk ih hc v w y6 y7 k1 ev ew => ?_
    have hmoc := hmo.ag5 hM4 k1.1
    refine zz_iload_5 C dX11_which_34 <| zz_aload_0 C dX11_which_36 <| zz_getR C fX11_20 (tM_K hT) (tM_R_told hT) dX11_which_37 <| zz_iconst_2 C dX11_which_40 <| zc_iaload C 2 (tM_K_told hT) (zlit _ (by decide)) (by decide) dX11_which_41 <| zpc 42 rfl <| ?_
    rw [hmoc.1]
    refine zz_icmp_ge C 81 dX11_which_42 (by decide) (fun c42 => ?_) (fun c42 => ?_)
    · rw [nI_leI (by omega) (by omega)] at c42
      refine zz_iload_2 C dX11_which_81 <| zpc 82 rfl <| ?_
      refine zy_ireturn C hE (zle rfl) (zle rfl) dX11_which_82 ?_
      have e9 : k = Mo.1 := by omega
      subst e9
      exact ⟨ev, k1.cl⟩
    · rw [nI_leI (by omega) (by omega)] at c42
      refine zz_aload_0 C dX11_which_45 <| zz_iload_5 C dX11_which_46 <| zz_iload_1 C dX11_which_48 <| zpc 49 rfl <| ?_
      refine zy_callVJ C hR [_, _] (c_moreCost hT hD k1.2.2.1 hn hMo hmoc hRo k1.2.2.2.1 k d (by omega) hd htd) lX11_359 rfl (tM_K hT) (by decide) rfl ⟨zle rfl, zle rfl, zle rfl, zle rfl⟩ (zle rfl) dX11_which_49 ?_
      intro w2 t2 h2 hv; obtain ⟨rfl, k2, ew2⟩ := k1.nw hD hn hv
      refine zz_lstore_6 C (zle rfl) rfl dX11_which_52 <| zz_iload_2 C dX11_which_54 <| zz_iconst_m1 C dX11_which_55 <| zpc 56 rfl <| ?_
      refine zz_icmp_eq C 69 dX11_which_56 (by decide) (fun c56 => ?_) (fun c56 => ?_)
      · rw [ev] at c56
        refine zz_iload_5 C dX11_which_69 <| zz_istore_2 C (zle rfl) rfl dX11_which_71 <| zz_lload_6 C dX11_which_72 <| zz_lstore_3 C (zle rfl) rfl dX11_which_74 <| zz_iinc_5 C _ (zle rfl) rfl dX11_which_75 nI_s <| zz_goto C 34 dX11_which_78 (by decide) <| zpc 34 rfl <| ?_
        first
        | (have hp := zMinW_p (Or.inl c56); exact ih (by omega) _ _ _ _ _ k2 (congrArg Prod.fst hp).symm (ew2.trans (congrArg Prod.snd hp).symm))
        | (have hp := zMinW_p (Or.inr c63); exact ih (by omega) _ _ _ _ _ k2 (congrArg Prod.fst hp).symm (ew2.trans (congrArg Prod.snd hp).symm))
        | (have hp := zMinW_n (fun z => z.elim c56 c63); exact ih (by omega) _ _ _ _ _ k2 (ev.trans (congrArg Prod.fst hp).symm) (ew.trans (congrArg Prod.snd hp).symm))
      · rw [ev] at c56
        refine zz_lload_6 C dX11_which_59 <| zz_lload_3 C dX11_which_61 <| zz_lcmp C dX11_which_62 <| zpc 63 rfl <| ?_
        refine zz_if_lt C 69 dX11_which_63 (by decide) (fun c63 => ?_) (fun c63 => ?_)
        · rw [lg_cmp_lt, ew2, ew] at c63
          refine zz_iload_5 C dX11_which_69 <| zz_istore_2 C (zle rfl) rfl dX11_which_71 <| zz_lload_6 C dX11_which_72 <| zz_lstore_3 C (zle rfl) rfl dX11_which_74 <| zz_iinc_5 C _ (zle rfl) rfl dX11_which_75 nI_s <| zz_goto C 34 dX11_which_78 (by decide) <| zpc 34 rfl <| ?_
          first
          | (have hp := zMinW_p (Or.inl c56); exact ih (by omega) _ _ _ _ _ k2 (congrArg Prod.fst hp).symm (ew2.trans (congrArg Prod.snd hp).symm))
          | (have hp := zMinW_p (Or.inr c63); exact ih (by omega) _ _ _ _ _ k2 (congrArg Prod.fst hp).symm (ew2.trans (congrArg Prod.snd hp).symm))
          | (have hp := zMinW_n (fun z => z.elim c56 c63); exact ih (by omega) _ _ _ _ _ k2 (ev.trans (congrArg Prod.fst hp).symm) (ew.trans (congrArg Prod.snd hp).symm))
        · rw [lg_cmp_lt, ew2, ew] at c63
          refine zz_goto C 75 dX11_which_66 (by decide) <| zz_iinc_5 C _ (zle rfl) rfl dX11_which_75 nI_s <| zz_goto C 34 dX11_which_78 (by decide) <| zpc 34 rfl <| ?_
          first
          | (have hp := zMinW_p (Or.inl c56); exact ih (by omega) _ _ _ _ _ k2 (congrArg Prod.fst hp).symm (ew2.trans (congrArg Prod.snd hp).symm))
          | (have hp := zMinW_p (Or.inr c63); exact ih (by omega) _ _ _ _ _ k2 (congrArg Prod.fst hp).symm (ew2.trans (congrArg Prod.snd hp).symm))
          | (have hp := zMinW_n (fun z => z.elim c56 c63); exact ih (by omega) _ _ _ _ _ k2 (ev.trans (congrArg Prod.fst hp).symm) (ew.trans (congrArg Prod.snd hp).symm))
  refine zz_aload_0 C dX11_which_0 <| zz_iconst_0 C dX11_which_1 <| zy_putI C fX11_104 pX11_0 (tM_K hT) dX11_which_2 <| zz_aload_0 C dX11_which_5 <| zz_iload_1 C dX11_which_6 <| zpc 7 rfl <| ?_
  refine zf_callSI C hR [_] (c_areDays _) lX11_299 rfl ⟨zle rfl, zle rfl, zle rfl, zle rfl⟩ (zle rfl) dX11_which_7 ?_
  refine zz_if_ne C 17 dX11_which_10 (by decide) (fun c10 => ?_) (fun c10 => ?_)
  · refine zz_iconst_0 C dX11_which_17 <| zz_iconst_1 C dX11_which_18 <| zpc 19 rfl <| ?_
    refine zf_callVI C hR [_, _] (c_bad0 hT _ (by decide) (by first | exact zI_self _ _ _ _ | assumption)) lX11_181 rfl (tM_K hT) (by decide) rfl ⟨zle rfl, zle rfl, zle rfl, zle rfl⟩ (zle rfl) dX11_which_19 ?_
    refine zz_if_eq C 27 dX11_which_22 (by decide) (fun c22 => ?_) (fun c22 => ?_)
    · refine zz_iconst_m1 C dX11_which_27 <| zz_istore_2 C (zle rfl) rfl dX11_which_28 <| zz_lconst_0 C dX11_which_29 <| zz_lstore_3 C (zle rfl) rfl dX11_which_30 <| zz_iconst_0 C dX11_which_31 <| zz_istore_5 C (zle rfl) rfl dX11_which_32 <| zpc 34 rfl <| ?_
      exact lp 0 (by omega) _ _ _ _ _ (mCy.i hD hm hro) rfl rfl
    · exact absurd rfl c22
  · rw [zb_eq0] at c10; exact absurd o2 c10
end MMR
