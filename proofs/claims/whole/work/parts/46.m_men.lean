/-! ===== the reference: a road mended by men ===== -/
abbrev dMe (D : yD) (k : Nat) : yD := (D.1, D.2.1, (nUp D.2.2.1.1 k 0, nUp D.2.2.1.2 k D.2.1.1.2.2), D.2.2.2)
theorem dMe_ok {D : yD} {p : yP} (hD : sdOk D p) (k : Nat) : sdOk (dMe D k) p := by
  obtain ⟨⟨⟨n1, n2, n3, n4, n5⟩, hL, hp⟩, hN3, hN11, hrN, htd⟩ := hD
  refine ⟨⟨⟨n1, n2, n3, n4, fun j hj => ?_⟩, hL, hp⟩, hN3, hN11, fun j hj => ?_, htd⟩
  · obtain ⟨a1, a2, a3, a4, a5, a6, a7, a8⟩ := n5 j hj
    refine ⟨a1, a2, a3, a4, a5, a6, a7, ?_⟩
    show nUp D.2.2.1.1 k 0 j ≤ 99
    unfold nUp
    split <;> omega
  · have := hrN j hj
    show nUp D.2.2.1.2 k D.2.1.1.2.2 j ≤ D.2.1.1.2.2
    unfold nUp
    split <;> omega
section MME
variable {E : zE} {b : Nat} {G : zG} {t : zT} {h : zH} {D : yD} {p : yP} {R : Nat × (Nat → Nat)}
theorem mWk.me {k : Nat} {sd : Int32} (hD : sdOk D p) (hm : mWk h D.1 D.2.1 p (x0 D sd)) : mWk (zsI (zsI h 233 k 0) 234 k (nI D.2.1.1.2.2)) D.1 D.2.1 p (x0 (dMe D k) sd) := by
  obtain ⟨⟨⟨g1, g2, g3, g4⟩, ⟨l1, l2, l3, l4, l5⟩, ⟨p1, p2, p3, p4, p5, p6, p7⟩, ⟨t1, t2, t3, t4⟩⟩, h2, h3, h4, h5, h6, h7, h8, h9⟩ := hm
  have hn := hD.1.1.2.2.1
  have hg := hD.1.2.1.2.2.1
  have rd : ∀ i j, ¬ (i = 233 ∨ i = 234) → ∀ v, zI h i j = v → zI (zsI (zsI h 233 k 0) 234 k (nI D.2.1.1.2.2)) i j = v := fun i j q v e => by
    rw [p_end1, if_neg (by omega), if_neg (by omega)]; exact e
  refine ⟨⟨⟨rd _ _ ?_ _ g1, rd _ _ ?_ _ g2, rd _ _ ?_ _ g3, fun j hj => ⟨fun i hi => rd _ _ ?_ _ ((g4 j hj).1 i hi), ?_⟩⟩, ⟨rd _ _ ?_ _ l1, rd _ _ ?_ _ l2, rd _ _ ?_ _ l3, fun g hg i hi => rd _ _ ?_ _ (l4 g hg i hi), fun j hj => rd _ _ ?_ _ (l5 j hj)⟩, ⟨rd _ _ ?_ _ p1, rd _ _ ?_ _ p2, fun z => rd _ _ ?_ _ (p3 z), rd _ _ ?_ _ p4, rd _ _ ?_ _ p5, rd _ _ ?_ _ p6, rd _ _ ?_ _ p7⟩, ⟨rd _ _ ?_ _ t1, rd _ _ ?_ _ t2, t3, t4⟩⟩, fun j hj => ?_, rd _ _ ?_ _ h3, rd _ _ ?_ _ h4, h5, h6, rd _ _ ?_ _ h7, rd _ _ ?_ _ h8, rd _ _ ?_ _ h9⟩
  case refine_5 =>
    rw [p_end1]
    show _ = nI (nUp D.2.2.1.1 k 0 j)
    unfold nUp
    by_cases q : j = k
    · rw [if_pos ⟨rfl, q⟩, if_pos q]; rfl
    · rw [if_neg (by omega), if_neg (by omega), if_neg q]; exact (g4 j hj).2
  case refine_20 =>
    rw [p_end1]
    show _ = nI (nUp D.2.2.1.2 k D.2.1.1.2.2 j)
    unfold nUp
    by_cases q : j = k
    · rw [if_neg (by omega), if_pos ⟨rfl, q⟩, if_pos q]
    · rw [if_neg (by omega), if_neg (by omega), if_neg q]; exact h2 j hj
  all_goals omega
theorem c_menCost {l : Launch} (hT : zTM t) (hD : sdOk D p) (hm : mSd h D p) (hRo : roOk R) (hro : mRo h R) (k d : Nat) (hk : k < D.2.1.1.1) (hd : d ≤ 366) (htd : D.2.2.2 + d < 2 ^ 20) : zMet E b l yX11_menCost cX11_menCost 3 (some .long) 6 0 0 [.ref (b + 157), .int (nI k), .int (nI d)] t h (qJ (mCoPost h t (dMe D k) p R 0 d (zI h 157 41))) := by
  have hn := hD.1.1.2.2.1
  refine zMet.of (ls := [some (.ref (b + 157)), some (.int (nI k)), some (.int (nI d))]) (by decide) (zle rfl) 0 rfl ?_
  intro G hlG C hR hE hin
  refine zz_aload_0 C dX11_menCost_0 <| zpc 1 rfl <| ?_
  refine zy_callVV C hR [] (c_lays hT hD hm) lX11_255 rfl (tM_K hT) (by decide) rfl ⟨zle rfl, zle rfl, zle rfl, zle rfl⟩ (zle rfl) dX11_menCost_1 ?_
  intro t' h' hv; obtain ⟨rfl, a1, hw⟩ := hv; have t5 : zI (zsI h' 233 k 0) 160 5 = nI D.2.1.1.2.2 := (by rw [zI_sI, if_neg (by omega)]; exact (a1.sd hD hm).2.2.2.1)
  refine zz_aload_0 C dX11_menCost_4 <| zz_getR C fX11_61 (tM_K hT) (tM_R_w hT) dX11_menCost_5 <| zz_iload_1 C dX11_menCost_8 <| zz_iconst_0 C dX11_menCost_9 <| zc_iastore C _ (tM_K_w hT) (znI (by omega)) (by omega) dX11_menCost_10 <| zz_aload_0 C dX11_menCost_11 <| zz_getR C fX11_64 (tM_K hT) (tM_R_r hT) dX11_menCost_12 <| zz_iload_1 C dX11_menCost_15 <| zz_aload_0 C dX11_menCost_16 <| zz_getR C fX11_20 (tM_K hT) (tM_R_told hT) dX11_menCost_17 <| zz_iconst_5 C dX11_menCost_20 <| zc_iaload C 5 (tM_K_told hT) (zlit _ (by decide)) (by decide) dX11_menCost_21 <| zpc 22 rfl <| ?_
  rw [t5]
  refine zc_iastore C _ (tM_K_r hT) (znI (by omega)) (by omega) dX11_menCost_22 <| zz_aload_0 C dX11_menCost_23 <| zz_iconst_0 C dX11_menCost_24 <| zz_iload_2 C dX11_menCost_25 <| zpc 26 rfl <| ?_
  refine zy_callVV C hR [_, _] (c_goes hT ((dMe_ok hD k).w _) (hw.me (k := k) hD) hRo (hro.ag3 ((a1.sI (by unfold sc3 sc2; omega)).sI (by unfold sc3 sc2; omega))) 0 d (by omega) (fun q => by cases q) (by omega) htd) lX11_305 rfl (tM_K hT) (by decide) rfl ⟨zle rfl, zle rfl, zle rfl, zle rfl⟩ (zle rfl) dX11_menCost_26 ?_
  intro t' h' hv; obtain ⟨rfl, a2, hw2⟩ := hv
  refine zz_aload_0 C dX11_menCost_29 <| zz_getL C fX11_239 (tM_K hT) dX11_menCost_30 <| zpc 33 rfl <| ?_
  rw [hw2.2.2.2.2.1]
  refine zy_lreturn C hE (zle rfl) (zle rfl) dX11_menCost_33 ?_
  exact ⟨rfl, ((a1.sI (by unfold sc3 sc2; omega)).sI (by unfold sc3 sc2; omega)).tr (.of2 a2), rfl, hw2.2.2.2.2.2.1, hw2.2.2.2.2.2.2.2.2⟩
end MME
