/-! ===== the reference: best, gap ===== -/
section MLY9
variable {E : zE} {b : Nat} {G : zG} {t : zT} {h : zH} {D : yD} {p : yP} {R : Nat × (Nat → Nat)} {n : Nat}
theorem c_lays9 {l : Launch} (hT : zTM t) (hD : sdOk D p) (hm : mSd h D p) : zMet E b l yX11_lays cX11_lays 2 none 1 0 0 [.ref (b + 157)] t h (qV (fun t' h' => t' = t ∧ zAg3 h h' ∧ mWk h' D.1 D.2.1 p (x0 D (zI h 157 41)) ∧ zL h' 157 58 = zL h 157 58)) := by
  have hm2 := hm
  obtain ⟨hld, hpl, t1, t5, tl, rd, td⟩ := hm
  have hn := hD.1.1.2.2.1
  have hng := hD.1.2.1.2.2.1
  have htd := hD.2.2.2.2
  refine zMet.of (ls := [some (.ref (b + 157)), none]) (by decide) (zle rfl) 1 rfl ?_
  intro G hlG C hR hE hin
  have s101 : ∀ (hc : zH) (x1 : Option Value), (∀ i k, ¬ (i = 233 ∨ i = 234) → zI hc i k = zI (mLay h D.2.1.1.1 D.2.1.1.2.2 D.2.2.2) i k) → (∀ i k, zL hc i k = zL (mLay h D.2.1.1.1 D.2.1.1.2.2 D.2.2.2) i k) → (∀ k, k < D.2.1.1.1 → zI hc 233 k = zI (mLay h D.2.1.1.1 D.2.1.1.2.2 D.2.2.2) 226 k ∧ zI hc 234 k = zI (mLay h D.2.1.1.1 D.2.1.1.2.2 D.2.2.2) 227 k) → zAW E b G 2 0 0 101 [some (.ref (b + 157)), x1] [] t hc := by
    intro hc x1 e1 e2 e3
    have al := zAg3.lay h D.2.1.1.1 D.2.1.1.2.2 D.2.2.2
    have ac : zAg3 (mLay h D.2.1.1.1 D.2.1.1.2.2 D.2.2.2) hc := ⟨fun i k hn => e1 i k (fun z => hn (by unfold sc3 sc2; omega)), fun i k _ => e2 i k⟩
    have aa := al.tr ac
    obtain ⟨hld', hpl', t1', t5', tl', rd', td'⟩ := aa.sd hD hm2
    obtain ⟨-, -, -, -, -, rd2, -⟩ := al.sd hD hm2
    have fM : ∀ k v, zI (mLay h D.2.1.1.1 D.2.1.1.2.2 D.2.2.2) 157 k = v → zI hc 157 k = v := fun k v q => (e1 _ _ (by omega)).trans q
    refine zy_return C hE (zle rfl) (zle rfl) dX11_lays_101 ?_
    refine ⟨rfl, aa, ⟨⟨⟨hld'.1, fM _ _ (by rw [zI_mLay]; simp), tl', fun k hk => ⟨(rd' k hk).1, ?_⟩⟩, hld', hpl', ⟨fM _ _ (by rw [zI_mLay]; simp; rfl), fM _ _ (by rw [zI_mLay]; simp; rfl), Nat.zero_le _, htd⟩⟩, fun k hk => ?_, fM _ _ (by rw [zI_mLay]; simp), fM _ _ (by rw [zI_mLay]; simp; rfl), ?_, ?_, fM _ _ (by rw [zI_mLay]; simp; rfl), fM _ _ (by rw [zI_mLay]; simp; rfl), fM _ _ (by rw [zI_mLay]; simp; rfl)⟩, ?_⟩
    · rw [(e3 k hk).1]; exact (rd2 k hk).2.1
    · rw [(e3 k hk).2]; exact (rd2 k hk).2.2
    · rw [e2, zL_mLay]; simp; rfl
    · rw [e2, zL_mLay]; simp; rfl
    · rw [e2, zL_mLay]; simp
  refine zz_aload_0 C dX11_lays_0 <| zz_aload_0 C dX11_lays_1 <| zz_getR C fX11_20 (tM_K hT) (tM_R_told hT) dX11_lays_2 <| zz_iconst_1 C dX11_lays_5 <| zc_iaload C 1 (tM_K_told hT) (zlit _ (by decide)) (by decide) dX11_lays_6 <| zpc 7 rfl <| ?_
  rw [t1]
  refine zy_putI C fX11_204 pX11_30 (tM_K hT) dX11_lays_7 <| zz_aload_0 C dX11_lays_10 <| zz_aload_0 C dX11_lays_11 <| zz_getR C fX11_20 (tM_K hT) (tM_R_told hT) dX11_lays_12 <| zz_iconst_5 C dX11_lays_15 <| zc_iaload C 5 (tM_K_told hT) (zlit _ (by decide)) (by decide) dX11_lays_16 <| zpc 17 rfl <| ?_
  first | rw [t5] | rw [zI_sI, if_neg (by omega), t5]
  refine zy_putI C fX11_227 pX11_31 (tM_K hT) dX11_lays_17 <| zz_aload_0 C dX11_lays_20 <| zz_aload_0 C dX11_lays_21 <| zz_getI C fX11_188 (tM_K hT) dX11_lays_22 <| zpc 25 rfl <| ?_
  rw [zI_sI, if_neg (by omega), zI_sI, if_neg (by omega), td]
  refine zy_putI C fX11_230 pX11_32 (tM_K hT) dX11_lays_25 <| zz_aload_0 C dX11_lays_28 <| zz_aload_0 C dX11_lays_29 <| zz_getI C fX11_188 (tM_K hT) dX11_lays_30 <| zpc 33 rfl <| ?_
  rw [zI_sI, if_neg (by omega), zI_sI, if_neg (by omega), zI_sI, if_neg (by omega), td]
  refine zy_putI C fX11_233 pX11_33 (tM_K hT) dX11_lays_33 <| zz_aload_0 C dX11_lays_36 <| zz_iconst_0 C dX11_lays_37 <| zy_putI C fX11_236 pX11_34 (tM_K hT) dX11_lays_38 <| zz_aload_0 C dX11_lays_41 <| zz_lconst_0 C dX11_lays_42 <| zy_putL C fX11_239 pX11_43 (tM_K hT) dX11_lays_43 <| zz_aload_0 C dX11_lays_46 <| zz_lconst_0 C dX11_lays_47 <| zy_putL C fX11_243 pX11_44 (tM_K hT) dX11_lays_48 <| zz_aload_0 C dX11_lays_51 <| zz_iconst_0 C dX11_lays_52 <| zy_putI C fX11_246 pX11_45 (tM_K hT) dX11_lays_53 <| zz_aload_0 C dX11_lays_56 <| ?_
  refine zz_iconst_0 C dX11_lays_57 <| zy_putI C fX11_249 pX11_46 (tM_K hT) dX11_lays_58 <| zz_iconst_0 C dX11_lays_61 <| zz_istore_1 C (zle rfl) rfl dX11_lays_62 <| zpc 63 rfl <| ?_
  refine l_lays (h := mLay h D.2.1.1.1 D.2.1.1.2.2 D.2.2.2) (n := D.2.1.1.1) hT hn C (by rw [zI_mLay]; simp) ?_ D.2.1.1.1 0 _ (by omega) (fun _ _ _ => rfl) (fun _ _ => rfl) (fun j hj => absurd hj (by omega))
  intro hc x1 e1 e2 e3
  exact s101 hc x1 e1 e2 e3
theorem c_openCost9 {l : Launch} (hT : zTM t) (hD : sdOk D p) (hm : mSd h D p) (hRo : roOk R) (hro : mRo h R) (d : Nat) (hd : d ≤ 366) (htd : D.2.2.2 + d < 2 ^ 20) : zMet E b l yX11_openCost cX11_openCost 2 (some .long) 6 0 0 [.ref (b + 157), .int (nI d)] t h (qJ (fun v t' h' => mCoPost h t D p R 0 d (zI h 157 41) v t' h' ∧ zL h' 157 58 = zL h 157 58)) := by
  refine zMet.of (ls := [some (.ref (b + 157)), some (.int (nI d))]) (by decide) (zle rfl) 0 rfl ?_
  intro G hlG C hR hE hin
  refine zz_aload_0 C dX11_openCost_0 <| zpc 1 rfl <| ?_
  refine zy_callVV C hR [] (c_lays9 hT hD hm) lX11_255 rfl (tM_K hT) (by decide) rfl ⟨zle rfl, zle rfl, zle rfl, zle rfl⟩ (zle rfl) dX11_openCost_1 ?_
  intro t' h' hv; obtain ⟨rfl, a1, hw, eb⟩ := hv
  refine zz_aload_0 C dX11_openCost_4 <| zz_iconst_0 C dX11_openCost_5 <| zz_iload_1 C dX11_openCost_6 <| zpc 7 rfl <| ?_
  refine zy_callVV C hR [_, _] (c_goes hT (hD.w _) hw hRo (hro.ag3 a1) 0 d (by omega) (fun q => by cases q) (by omega) htd) lX11_305 rfl (tM_K hT) (by decide) rfl ⟨zle rfl, zle rfl, zle rfl, zle rfl⟩ (zle rfl) dX11_openCost_7 ?_
  intro t' h' hv; obtain ⟨rfl, a2, hw2⟩ := hv
  refine zz_aload_0 C dX11_openCost_10 <| zz_getL C fX11_239 (tM_K hT) dX11_openCost_11 <| zpc 14 rfl <| ?_
  rw [hw2.2.2.2.2.1]
  refine zy_lreturn C hE (zle rfl) (zle rfl) dX11_openCost_14 ?_
  exact ⟨⟨rfl, a1.tr (.of2 a2), rfl, hw2.2.2.2.2.2.1, hw2.2.2.2.2.2.2.2.2⟩, (a2.2 _ _ (by omega)).trans eb⟩
end MLY9
section MBE
variable {E : zE} {b : Nat} {G : zG} {t : zT} {h : zH} {l : Launch} {D : yD} {R : Nat × (Nat → Nat)}
theorem c_findBest (hT : zTM t) (hD : sdOk D yP0) (h0 : D.2.1.1.2.1 = 0) (hn : D.2.1.1.1 ≤ 10) (hm : mSd h D yP0) (d : Nat) (hd1 : 1 ≤ d) (hd : d ≤ 3) (htd : D.2.2.2 + d < 2 ^ 20) : zMet E b l yX11_findBest cX11_findBest 2 none 8 0 0 [.ref (b + 157), .int (nI d)] t h (qV (fun t' h' => t' = t ∧ zAg3 h h' ∧ mBs h' (tBest D d))) := by
  have hng := hD.1.2.1.2.2.1
  have hqo : qOk D.1 D.2.1 (D.2.2.1, D.2.2.2) := hD.w 0
  refine zMet.of (ls := [some (.ref (b + 157)), some (.int (nI d))]) (by decide) (zle rfl) 0 rfl ?_
  intro G hlG C hR hE hin
  have fin : ∀ h1, zAg3 h h1 → mWk h1 D.1 D.2.1 yP0 (x0 D (zI h 157 41)) → mQs (zsI (zsL h1 157 58 (lN 1000000000000)) 157 59 (-1)) D.1 D.2.1 (D.2.2.1, D.2.2.2) 0 0 ∧ mBs (zsI (zsL h1 157 58 (lN 1000000000000)) 157 59 (-1)) (1000000000000, -1) ∧ zAg3 h (zsI (zsL h1 157 58 (lN 1000000000000)) 157 59 (-1)) := by
    intro h1 a1 hw
    have mq : mQs h1 D.1 D.2.1 (D.2.2.1, D.2.2.2) 0 0 := ⟨_, 0, 0, ((0, 0, none), fun _ => 0), 0, hw⟩
    refine ⟨mq.eq (by omega) hng (fun i k z => ?_) (fun i k z => ?_), ⟨?_, zI_self _ _ _ _⟩, (a1.sL (by unfold sl3; omega)).sI (by unfold sc3; omega)⟩
    · rw [zI_sI, if_neg (by omega)]; rfl
    · show zL (zsL h1 157 58 (lN 1000000000000)) i k = _
      rw [zL_sL, if_neg z]
    · show zL (zsL h1 157 58 (lN 1000000000000)) 157 58 = _
      rw [zL_sL, if_pos ⟨rfl, rfl⟩]
  obtain rfl | rfl | rfl : d = 1 ∨ d = 2 ∨ d = 3 := by omega
  ·
    refine zz_aload_0 C dX11_findBest_0 <| zpc 1 rfl <| ?_
    refine zy_callVV C hR [] (c_lays hT hD hm) lX11_255 rfl (tM_K hT) (by decide) rfl ⟨zle rfl, zle rfl, zle rfl, zle rfl⟩ (zle rfl) dX11_findBest_1 ?_
    intro t' h1 hv; obtain ⟨rfl, a1, hw⟩ := hv; obtain ⟨f1, f2, f3⟩ := fin h1 a1 hw
    refine zz_aload_0 C dX11_findBest_4 <| zz_ldc2 C dX11_findBest_5 kX11_339 <| zy_putL C fX11_330 pX11_58 (tM_K hT) dX11_findBest_8 <| zz_aload_0 C dX11_findBest_11 <| zz_iconst_m1 C dX11_findBest_12 <| zy_putI C fX11_333 pX11_59 (tM_K hT) dX11_findBest_13 <| zz_aload_0 C dX11_findBest_16 <| zz_iload_1 C dX11_findBest_17 <| zz_iconst_m1 C dX11_findBest_18 <| zpc 19 rfl <| ?_
    refine zy_callVV C hR [_, _] (c_tries1 hT hqo h0 hn hng (show D.2.2.2 + 1 < 2 ^ 20 by omega) f1 (-1) f2 (by show 1000000000000 < 2 ^ 62; omega) (by omega)) lX11_336 rfl (tM_K hT) (by decide) rfl ⟨zle rfl, zle rfl, zle rfl, zle rfl⟩ (zle rfl) dX11_findBest_19 ?_
    intro t2 h2 hv; obtain ⟨rfl, g1, g2, g3⟩ := hv
    refine zy_return C hE (zle rfl) (zle rfl) dX11_findBest_22 ?_
    exact ⟨rfl, f3.tr (g1.ag3 (by omega)), g3⟩
  ·
    refine zz_aload_0 C dX11_findBest_0 <| zpc 1 rfl <| ?_
    refine zy_callVV C hR [] (c_lays hT hD hm) lX11_255 rfl (tM_K hT) (by decide) rfl ⟨zle rfl, zle rfl, zle rfl, zle rfl⟩ (zle rfl) dX11_findBest_1 ?_
    intro t' h1 hv; obtain ⟨rfl, a1, hw⟩ := hv; obtain ⟨f1, f2, f3⟩ := fin h1 a1 hw
    refine zz_aload_0 C dX11_findBest_4 <| zz_ldc2 C dX11_findBest_5 kX11_339 <| zy_putL C fX11_330 pX11_58 (tM_K hT) dX11_findBest_8 <| zz_aload_0 C dX11_findBest_11 <| zz_iconst_m1 C dX11_findBest_12 <| zy_putI C fX11_333 pX11_59 (tM_K hT) dX11_findBest_13 <| zz_aload_0 C dX11_findBest_16 <| zz_iload_1 C dX11_findBest_17 <| zz_iconst_m1 C dX11_findBest_18 <| zpc 19 rfl <| ?_
    refine zy_callVV C hR [_, _] (c_tries2 hT hqo h0 hn hng (show D.2.2.2 + 2 < 2 ^ 20 by omega) f1 (-1) f2 (by show 1000000000000 < 2 ^ 62; omega) (by omega)) lX11_336 rfl (tM_K hT) (by decide) rfl ⟨zle rfl, zle rfl, zle rfl, zle rfl⟩ (zle rfl) dX11_findBest_19 ?_
    intro t2 h2 hv; obtain ⟨rfl, g1, g2, g3⟩ := hv
    refine zy_return C hE (zle rfl) (zle rfl) dX11_findBest_22 ?_
    exact ⟨rfl, f3.tr (g1.ag3 (by omega)), g3⟩
  ·
    refine zz_aload_0 C dX11_findBest_0 <| zpc 1 rfl <| ?_
    refine zy_callVV C hR [] (c_lays hT hD hm) lX11_255 rfl (tM_K hT) (by decide) rfl ⟨zle rfl, zle rfl, zle rfl, zle rfl⟩ (zle rfl) dX11_findBest_1 ?_
    intro t' h1 hv; obtain ⟨rfl, a1, hw⟩ := hv; obtain ⟨f1, f2, f3⟩ := fin h1 a1 hw
    refine zz_aload_0 C dX11_findBest_4 <| zz_ldc2 C dX11_findBest_5 kX11_339 <| zy_putL C fX11_330 pX11_58 (tM_K hT) dX11_findBest_8 <| zz_aload_0 C dX11_findBest_11 <| zz_iconst_m1 C dX11_findBest_12 <| zy_putI C fX11_333 pX11_59 (tM_K hT) dX11_findBest_13 <| zz_aload_0 C dX11_findBest_16 <| zz_iload_1 C dX11_findBest_17 <| zz_iconst_m1 C dX11_findBest_18 <| zpc 19 rfl <| ?_
    refine zy_callVV C hR [_, _] (c_tries3 hT hqo h0 hn hng (show D.2.2.2 + 3 < 2 ^ 20 by omega) f1 (-1) f2 (by show 1000000000000 < 2 ^ 62; omega) (by omega)) lX11_336 rfl (tM_K hT) (by decide) rfl ⟨zle rfl, zle rfl, zle rfl, zle rfl⟩ (zle rfl) dX11_findBest_19 ?_
    intro t2 h2 hv; obtain ⟨rfl, g1, g2, g3⟩ := hv
    refine zy_return C hE (zle rfl) (zle rfl) dX11_findBest_22 ?_
    exact ⟨rfl, f3.tr (g1.ag3 (by omega)), g3⟩
theorem c_best1 (hT : zTM t) (hD : sdOk D yP0) (h0 : D.2.1.1.2.1 = 0) (hn : D.2.1.1.1 ≤ 10) (hm : mSd h D yP0) (d q : Nat) (hd1 : 1 ≤ d) (hd : d ≤ 3) (hq : q ≤ 1) (hr : D.2.1.1.1 ≤ 6) (htd : D.2.2.2 + d < 2 ^ 20) : zMet E b l yX11_best cX11_best 3 (some .int) 9 0 0 [.ref (b + 157), .int (nI d), .int (nI q)] t h (qI (fun v t' h' => v = (if q = 0 then nI (tBest D d).1 else (tBest D d).2) ∧ mCl h t D 0 t' h')) := by
  have hm0 := hm.th hD 0
  have o1 : (1 ≤ nI d ∧ nI d ≤ 3) := (frTo 3 3 rfl (by omega)).mpr ⟨d, hd1, hd, rfl⟩
  have o2 : (0 ≤ nI q ∧ nI q ≤ 1) := (upTo 1 1 rfl (by omega)).mpr ⟨q, hq, rfl⟩
  refine zMet.of (ls := [some (.ref (b + 157)), some (.int (nI d)), some (.int (nI q))]) (by decide) (zle rfl) 0 rfl ?_
  intro G hlG C hR hE hin
  refine zz_aload_0 C dX11_best_0 <| zz_iconst_0 C dX11_best_1 <| zy_putI C fX11_104 pX11_0 (tM_K hT) dX11_best_2 <| zz_aload_0 C dX11_best_5 <| zz_iload_1 C dX11_best_6 <| zz_iconst_1 C dX11_best_7 <| zz_iconst_3 C dX11_best_8 <| zpc 9 rfl <| ?_
  refine zf_callSI C hR [_, _, _] (c_in _ _ _) lX11_138 rfl ⟨zle rfl, zle rfl, zle rfl, zle rfl⟩ (zle rfl) dX11_best_9 ?_
  refine zz_if_eq C 24 dX11_best_12 (by decide) (fun c12 => ?_) (fun c12 => ?_)
  · rw [zb_eq0] at c12; exact absurd o1 c12
  · refine zz_iload_2 C dX11_best_15 <| zz_iconst_0 C dX11_best_16 <| zz_iconst_1 C dX11_best_17 <| zpc 18 rfl <| ?_
    refine zf_callSI C hR [_, _, _] (c_in _ _ _) lX11_138 rfl ⟨zle rfl, zle rfl, zle rfl, zle rfl⟩ (zle rfl) dX11_best_18 ?_
    refine zz_if_ne C 28 dX11_best_21 (by decide) (fun c21 => ?_) (fun c21 => ?_)
    · refine zz_iconst_0 C dX11_best_28 <| zz_iconst_1 C dX11_best_29 <| zpc 30 rfl <| ?_
      refine zf_callVI C hR [_, _] (c_bad0 hT _ (by decide) (by first | exact zI_self _ _ _ _ | assumption)) lX11_181 rfl (tM_K hT) (by decide) rfl ⟨zle rfl, zle rfl, zle rfl, zle rfl⟩ (zle rfl) dX11_best_30 ?_
      refine zz_if_eq C 38 dX11_best_33 (by decide) (fun c33 => ?_) (fun c33 => ?_)
      · refine zz_aload_0 C dX11_best_38 <| zz_getR C fX11_20 (tM_K hT) (tM_R_told hT) dX11_best_39 <| zz_iconst_1 C dX11_best_42 <| zc_iaload C 1 (tM_K_told hT) (zlit _ (by decide)) (by decide) dX11_best_43 <| zpc 44 rfl <| ?_
        rw [hm0.2.2.1]
        refine zz_bipush C 6 dX11_best_44 (by decide) <| zpc 46 rfl <| ?_
        refine zz_icmp_le C 52 dX11_best_46 (by decide) (fun c46 => ?_) (fun c46 => ?_)
        · refine zz_aload_0 C dX11_best_52 <| zz_iload_1 C dX11_best_53 <| zpc 54 rfl <| ?_
          refine zy_callVV C hR [_] (c_findBest hT hD h0 hn hm0 d hd1 hd htd) lX11_341 rfl (tM_K hT) (by decide) rfl ⟨zle rfl, zle rfl, zle rfl, zle rfl⟩ (zle rfl) dX11_best_54 ?_
          intro t2 h2 hv; obtain ⟨rfl, a1, bs⟩ := hv
          refine zz_iload_2 C dX11_best_57 <| zpc 58 rfl <| ?_
          refine zz_if_ne C 69 dX11_best_58 (by decide) (fun c58 => ?_) (fun c58 => ?_)
          · rw [show (0 : Int32) = nI 0 from rfl, nI_eq (by omega) (by omega)] at c58
            refine zz_aload_0 C dX11_best_69 <| zz_getI C fX11_333 (tM_K hT) dX11_best_70 <| zpc 73 rfl <| ?_
            first | rw [lN_i] | rw [bs.2]
            refine zy_ireturn C hE (zle rfl) (zle rfl) dX11_best_73 ?_
            first
            | (rw [if_pos c58]; exact ⟨rfl, rfl, .tr (.of4 (zAg4.th h 0)) (.of3 a1), a1.th (zI_self _ _ _ _), a1.sd hD hm0⟩)
            | (rw [if_neg c58]; exact ⟨rfl, rfl, .tr (.of4 (zAg4.th h 0)) (.of3 a1), a1.th (zI_self _ _ _ _), a1.sd hD hm0⟩)
          · rw [show (0 : Int32) = nI 0 from rfl, nI_eq (by omega) (by omega)] at c58
            refine zz_aload_0 C dX11_best_61 <| zz_getL C fX11_330 (tM_K hT) dX11_best_62 <| zpc 65 rfl <| ?_
            rw [bs.1]
            refine zz_l2i C dX11_best_65 <| zz_goto C 73 dX11_best_66 (by decide) <| zpc 73 rfl <| ?_
            first | rw [lN_i] | rw [bs.2]
            refine zy_ireturn C hE (zle rfl) (zle rfl) dX11_best_73 ?_
            first
            | (rw [if_pos c58]; exact ⟨rfl, rfl, .tr (.of4 (zAg4.th h 0)) (.of3 a1), a1.th (zI_self _ _ _ _), a1.sd hD hm0⟩)
            | (rw [if_neg c58]; exact ⟨rfl, rfl, .tr (.of4 (zAg4.th h 0)) (.of3 a1), a1.th (zI_self _ _ _ _), a1.sd hD hm0⟩)
        · rw [show (6 : Int32) = nI 6 from rfl, nI_leI (by omega) (by omega)] at c46; omega
      · exact absurd rfl c33
    · rw [zb_eq0] at c21; exact absurd o2 c21
theorem c_best2 (hT : zTM t) (hD : sdOk D yP0) (hm : mSd h D yP0) (d q : Nat) (hd1 : 1 ≤ d) (hd : d ≤ 3) (hq : q ≤ 1) (hr : 6 < D.2.1.1.1) (hn : D.2.1.1.1 ≤ 10) : zMet E b l yX11_best cX11_best 3 (some .int) 9 0 0 [.ref (b + 157), .int (nI d), .int (nI q)] t h (qIf (-2) t (zsI h 157 0 0)) := by
  have hm0 := hm.th hD 0
  have o1 : (1 ≤ nI d ∧ nI d ≤ 3) := (frTo 3 3 rfl (by omega)).mpr ⟨d, hd1, hd, rfl⟩
  have o2 : (0 ≤ nI q ∧ nI q ≤ 1) := (upTo 1 1 rfl (by omega)).mpr ⟨q, hq, rfl⟩
  refine zMet.of (ls := [some (.ref (b + 157)), some (.int (nI d)), some (.int (nI q))]) (by decide) (zle rfl) 0 rfl ?_
  intro G hlG C hR hE hin
  refine zz_aload_0 C dX11_best_0 <| zz_iconst_0 C dX11_best_1 <| zy_putI C fX11_104 pX11_0 (tM_K hT) dX11_best_2 <| zz_aload_0 C dX11_best_5 <| zz_iload_1 C dX11_best_6 <| zz_iconst_1 C dX11_best_7 <| zz_iconst_3 C dX11_best_8 <| zpc 9 rfl <| ?_
  refine zf_callSI C hR [_, _, _] (c_in _ _ _) lX11_138 rfl ⟨zle rfl, zle rfl, zle rfl, zle rfl⟩ (zle rfl) dX11_best_9 ?_
  refine zz_if_eq C 24 dX11_best_12 (by decide) (fun c12 => ?_) (fun c12 => ?_)
  · rw [zb_eq0] at c12; exact absurd o1 c12
  · refine zz_iload_2 C dX11_best_15 <| zz_iconst_0 C dX11_best_16 <| zz_iconst_1 C dX11_best_17 <| zpc 18 rfl <| ?_
    refine zf_callSI C hR [_, _, _] (c_in _ _ _) lX11_138 rfl ⟨zle rfl, zle rfl, zle rfl, zle rfl⟩ (zle rfl) dX11_best_18 ?_
    refine zz_if_ne C 28 dX11_best_21 (by decide) (fun c21 => ?_) (fun c21 => ?_)
    · refine zz_iconst_0 C dX11_best_28 <| zz_iconst_1 C dX11_best_29 <| zpc 30 rfl <| ?_
      refine zf_callVI C hR [_, _] (c_bad0 hT _ (by decide) (by first | exact zI_self _ _ _ _ | assumption)) lX11_181 rfl (tM_K hT) (by decide) rfl ⟨zle rfl, zle rfl, zle rfl, zle rfl⟩ (zle rfl) dX11_best_30 ?_
      refine zz_if_eq C 38 dX11_best_33 (by decide) (fun c33 => ?_) (fun c33 => ?_)
      · refine zz_aload_0 C dX11_best_38 <| zz_getR C fX11_20 (tM_K hT) (tM_R_told hT) dX11_best_39 <| zz_iconst_1 C dX11_best_42 <| zc_iaload C 1 (tM_K_told hT) (zlit _ (by decide)) (by decide) dX11_best_43 <| zpc 44 rfl <| ?_
        rw [hm0.2.2.1]
        refine zz_bipush C 6 dX11_best_44 (by decide) <| zpc 46 rfl <| ?_
        refine zz_icmp_le C 52 dX11_best_46 (by decide) (fun c46 => ?_) (fun c46 => ?_)
        · rw [show (6 : Int32) = nI 6 from rfl, nI_leI (by omega) (by omega)] at c46; omega
        · refine zz_bipush C (-2) dX11_best_49 (by decide) <| zpc 51 rfl <| ?_
          exact zf_ireturn C hE (zle rfl) (zle rfl) dX11_best_51 rfl rfl rfl
      · exact absurd rfl c33
    · rw [zb_eq0] at c21; exact absurd o2 c21
theorem c_best0 (hT : zTM t) (x z : Int32) (hno : ¬ ((∃ k, 1 ≤ k ∧ k ≤ 3 ∧ x = nI k) ∧ ∃ k, k ≤ 1 ∧ z = nI k)) : zMet E b l yX11_best cX11_best 3 (some .int) 9 0 0 [.ref (b + 157), .int x, .int z] t h (qIf 0 t (zsI (zsI h 157 0 0) 157 0 1)) := by
  refine zMet.of (ls := [some (.ref (b + 157)), some (.int x), some (.int z)]) (by decide) (zle rfl) 0 rfl ?_
  intro G hlG C hR hE hin
  refine zz_aload_0 C dX11_best_0 <| zz_iconst_0 C dX11_best_1 <| zy_putI C fX11_104 pX11_0 (tM_K hT) dX11_best_2 <| zz_aload_0 C dX11_best_5 <| zz_iload_1 C dX11_best_6 <| zz_iconst_1 C dX11_best_7 <| zz_iconst_3 C dX11_best_8 <| zpc 9 rfl <| ?_
  refine zf_callSI C hR [_, _, _] (c_in _ _ _) lX11_138 rfl ⟨zle rfl, zle rfl, zle rfl, zle rfl⟩ (zle rfl) dX11_best_9 ?_
  refine zz_if_eq C 24 dX11_best_12 (by decide) (fun c12 => ?_) (fun c12 => ?_)
  · refine zz_iconst_1 C dX11_best_24 <| zz_goto C 29 dX11_best_25 (by decide) <| zz_iconst_1 C dX11_best_29 <| zpc 30 rfl <| ?_
    refine zf_callVI C hR [_, _] (c_bad1 hT _ (by decide) (by first | exact zI_self _ _ _ _ | assumption)) lX11_181 rfl (tM_K hT) (by decide) rfl ⟨zle rfl, zle rfl, zle rfl, zle rfl⟩ (zle rfl) dX11_best_30 ?_
    refine zz_if_eq C 38 dX11_best_33 (by decide) (fun c33 => ?_) (fun c33 => ?_)
    · exact absurd c33 (by decide)
    · refine zz_iconst_0 C dX11_best_36 <| zpc 37 rfl <| ?_
      exact zf_ireturn C hE (zle rfl) (zle rfl) dX11_best_37 rfl rfl rfl
  · refine zz_iload_2 C dX11_best_15 <| zz_iconst_0 C dX11_best_16 <| zz_iconst_1 C dX11_best_17 <| zpc 18 rfl <| ?_
    refine zf_callSI C hR [_, _, _] (c_in _ _ _) lX11_138 rfl ⟨zle rfl, zle rfl, zle rfl, zle rfl⟩ (zle rfl) dX11_best_18 ?_
    refine zz_if_ne C 28 dX11_best_21 (by decide) (fun c21 => ?_) (fun c21 => ?_)
    · rw [zb_ne0] at c12 c21; exact absurd ⟨(frTo 3 3 rfl (by omega)).mp c12, (upTo 1 1 rfl (by omega)).mp c21⟩ hno
    · refine zz_iconst_1 C dX11_best_24 <| zz_goto C 29 dX11_best_25 (by decide) <| zz_iconst_1 C dX11_best_29 <| zpc 30 rfl <| ?_
      refine zf_callVI C hR [_, _] (c_bad1 hT _ (by decide) (by first | exact zI_self _ _ _ _ | assumption)) lX11_181 rfl (tM_K hT) (by decide) rfl ⟨zle rfl, zle rfl, zle rfl, zle rfl⟩ (zle rfl) dX11_best_30 ?_
      refine zz_if_eq C 38 dX11_best_33 (by decide) (fun c33 => ?_) (fun c33 => ?_)
      · exact absurd c33 (by decide)
      · refine zz_iconst_0 C dX11_best_36 <| zpc 37 rfl <| ?_
        exact zf_ireturn C hE (zle rfl) (zle rfl) dX11_best_37 rfl rfl rfl
theorem c_gap1 (hT : zTM t) (hD : sdOk D yP0) (h0 : D.2.1.1.2.1 = 0) (hn : D.2.1.1.1 ≤ 10) (hm : mSd h D yP0) (hRo : roOk R) (hro : mRo h R) (d : Nat) (hd1 : 1 ≤ d) (hd : d ≤ 3) (hr : D.2.1.1.1 ≤ 6) (htd : D.2.2.2 + d < 2 ^ 20) : zMet E b l yX11_gap cX11_gap 2 (some .int) 9 0 0 [.ref (b + 157), .int (nI d)] t h (qI (fun v t' h' => (∃ sd, v = (lN (dCo D yP0 R 0 d sd) - lN (tBest D d).1).toInt32) ∧ mCl h t D 0 t' h')) := by
  have hm0 := hm.th hD 0
  have hro0 := mRo.ag4 (zAg4.th h 0) hro
  have o1 : (1 ≤ nI d ∧ nI d ≤ 3) := (frTo 3 3 rfl (by omega)).mpr ⟨d, hd1, hd, rfl⟩
  refine zMet.of (ls := [some (.ref (b + 157)), some (.int (nI d))]) (by decide) (zle rfl) 0 rfl ?_
  intro G hlG C hR hE hin
  refine zz_aload_0 C dX11_gap_0 <| zz_iconst_0 C dX11_gap_1 <| zy_putI C fX11_104 pX11_0 (tM_K hT) dX11_gap_2 <| zz_aload_0 C dX11_gap_5 <| zz_iload_1 C dX11_gap_6 <| zz_iconst_1 C dX11_gap_7 <| zz_iconst_3 C dX11_gap_8 <| zpc 9 rfl <| ?_
  refine zf_callSI C hR [_, _, _] (c_in _ _ _) lX11_138 rfl ⟨zle rfl, zle rfl, zle rfl, zle rfl⟩ (zle rfl) dX11_gap_9 ?_
  refine zz_if_ne C 19 dX11_gap_12 (by decide) (fun c12 => ?_) (fun c12 => ?_)
  · refine zz_iconst_0 C dX11_gap_19 <| zz_iconst_1 C dX11_gap_20 <| zpc 21 rfl <| ?_
    refine zf_callVI C hR [_, _] (c_bad0 hT _ (by decide) (by first | exact zI_self _ _ _ _ | assumption)) lX11_181 rfl (tM_K hT) (by decide) rfl ⟨zle rfl, zle rfl, zle rfl, zle rfl⟩ (zle rfl) dX11_gap_21 ?_
    refine zz_if_eq C 29 dX11_gap_24 (by decide) (fun c24 => ?_) (fun c24 => ?_)
    · refine zz_aload_0 C dX11_gap_29 <| zz_getR C fX11_20 (tM_K hT) (tM_R_told hT) dX11_gap_30 <| zz_iconst_1 C dX11_gap_33 <| zc_iaload C 1 (tM_K_told hT) (zlit _ (by decide)) (by decide) dX11_gap_34 <| zpc 35 rfl <| ?_
      rw [hm0.2.2.1]
      refine zz_bipush C 6 dX11_gap_35 (by decide) <| zpc 37 rfl <| ?_
      refine zz_icmp_le C 43 dX11_gap_37 (by decide) (fun c37 => ?_) (fun c37 => ?_)
      · refine zz_aload_0 C dX11_gap_43 <| zz_iload_1 C dX11_gap_44 <| zpc 45 rfl <| ?_
        refine zy_callVV C hR [_] (c_findBest hT hD h0 hn hm0 d hd1 hd htd) lX11_341 rfl (tM_K hT) (by decide) rfl ⟨zle rfl, zle rfl, zle rfl, zle rfl⟩ (zle rfl) dX11_gap_45 ?_
        intro t2 h2 hv; obtain ⟨rfl, a1, bs⟩ := hv
        refine zz_aload_0 C dX11_gap_48 <| zz_iload_1 C dX11_gap_49 <| zpc 50 rfl <| ?_
        refine zy_callVJ C hR [_] (c_openCost9 hT hD (a1.sd hD hm0) hRo (hro0.ag3 a1) d (by omega) htd) lX11_344 rfl (tM_K hT) (by decide) rfl ⟨zle rfl, zle rfl, zle rfl, zle rfl⟩ (zle rfl) dX11_gap_50 ?_
        intro v t3 h3 hv; obtain ⟨⟨rfl, a2, rfl, -, -⟩, eb⟩ := hv
        refine zz_aload_0 C dX11_gap_53 <| zz_getL C fX11_330 (tM_K hT) dX11_gap_54 <| zpc 57 rfl <| ?_
        rw [eb, bs.1]
        refine zz_lsub C dX11_gap_57 <| zz_l2i C dX11_gap_58 <| zpc 59 rfl <| ?_
        refine zy_ireturn C hE (zle rfl) (zle rfl) dX11_gap_59 ?_
        have a3 := a1.tr a2
        exact ⟨⟨_, rfl⟩, rfl, .tr (.of4 (zAg4.th h 0)) (.of3 a3), a3.th (zI_self _ _ _ _), a3.sd hD hm0⟩
      · rw [show (6 : Int32) = nI 6 from rfl, nI_leI (by omega) (by omega)] at c37; omega
    · exact absurd rfl c24
  · rw [zb_eq0] at c12; exact absurd o1 c12
theorem c_gap2 (hT : zTM t) (hD : sdOk D yP0) (hm : mSd h D yP0) (d : Nat) (hd1 : 1 ≤ d) (hd : d ≤ 3) (hr : 6 < D.2.1.1.1) (hn : D.2.1.1.1 ≤ 10) : zMet E b l yX11_gap cX11_gap 2 (some .int) 9 0 0 [.ref (b + 157), .int (nI d)] t h (qIf (-2) t (zsI h 157 0 0)) := by
  have hm0 := hm.th hD 0
  have o1 : (1 ≤ nI d ∧ nI d ≤ 3) := (frTo 3 3 rfl (by omega)).mpr ⟨d, hd1, hd, rfl⟩
  refine zMet.of (ls := [some (.ref (b + 157)), some (.int (nI d))]) (by decide) (zle rfl) 0 rfl ?_
  intro G hlG C hR hE hin
  refine zz_aload_0 C dX11_gap_0 <| zz_iconst_0 C dX11_gap_1 <| zy_putI C fX11_104 pX11_0 (tM_K hT) dX11_gap_2 <| zz_aload_0 C dX11_gap_5 <| zz_iload_1 C dX11_gap_6 <| zz_iconst_1 C dX11_gap_7 <| zz_iconst_3 C dX11_gap_8 <| zpc 9 rfl <| ?_
  refine zf_callSI C hR [_, _, _] (c_in _ _ _) lX11_138 rfl ⟨zle rfl, zle rfl, zle rfl, zle rfl⟩ (zle rfl) dX11_gap_9 ?_
  refine zz_if_ne C 19 dX11_gap_12 (by decide) (fun c12 => ?_) (fun c12 => ?_)
  · refine zz_iconst_0 C dX11_gap_19 <| zz_iconst_1 C dX11_gap_20 <| zpc 21 rfl <| ?_
    refine zf_callVI C hR [_, _] (c_bad0 hT _ (by decide) (by first | exact zI_self _ _ _ _ | assumption)) lX11_181 rfl (tM_K hT) (by decide) rfl ⟨zle rfl, zle rfl, zle rfl, zle rfl⟩ (zle rfl) dX11_gap_21 ?_
    refine zz_if_eq C 29 dX11_gap_24 (by decide) (fun c24 => ?_) (fun c24 => ?_)
    · refine zz_aload_0 C dX11_gap_29 <| zz_getR C fX11_20 (tM_K hT) (tM_R_told hT) dX11_gap_30 <| zz_iconst_1 C dX11_gap_33 <| zc_iaload C 1 (tM_K_told hT) (zlit _ (by decide)) (by decide) dX11_gap_34 <| zpc 35 rfl <| ?_
      rw [hm0.2.2.1]
      refine zz_bipush C 6 dX11_gap_35 (by decide) <| zpc 37 rfl <| ?_
      refine zz_icmp_le C 43 dX11_gap_37 (by decide) (fun c37 => ?_) (fun c37 => ?_)
      · rw [show (6 : Int32) = nI 6 from rfl, nI_leI (by omega) (by omega)] at c37; omega
      · refine zz_bipush C (-2) dX11_gap_40 (by decide) <| zpc 42 rfl <| ?_
        exact zf_ireturn C hE (zle rfl) (zle rfl) dX11_gap_42 rfl rfl rfl
    · exact absurd rfl c24
  · rw [zb_eq0] at c12; exact absurd o1 c12
theorem c_gap0 (hT : zTM t) (x : Int32) (hno : ¬ ∃ k, 1 ≤ k ∧ k ≤ 3 ∧ x = nI k) : zMet E b l yX11_gap cX11_gap 2 (some .int) 9 0 0 [.ref (b + 157), .int x] t h (qIf 0 t (zsI (zsI h 157 0 0) 157 0 1)) := by
  refine zMet.of (ls := [some (.ref (b + 157)), some (.int x)]) (by decide) (zle rfl) 0 rfl ?_
  intro G hlG C hR hE hin
  refine zz_aload_0 C dX11_gap_0 <| zz_iconst_0 C dX11_gap_1 <| zy_putI C fX11_104 pX11_0 (tM_K hT) dX11_gap_2 <| zz_aload_0 C dX11_gap_5 <| zz_iload_1 C dX11_gap_6 <| zz_iconst_1 C dX11_gap_7 <| zz_iconst_3 C dX11_gap_8 <| zpc 9 rfl <| ?_
  refine zf_callSI C hR [_, _, _] (c_in _ _ _) lX11_138 rfl ⟨zle rfl, zle rfl, zle rfl, zle rfl⟩ (zle rfl) dX11_gap_9 ?_
  refine zz_if_ne C 19 dX11_gap_12 (by decide) (fun c12 => ?_) (fun c12 => ?_)
  · rw [zb_ne0] at c12; exact absurd ((frTo 3 3 rfl (by omega)).mp c12) hno
  · refine zz_iconst_1 C dX11_gap_15 <| zz_goto C 20 dX11_gap_16 (by decide) <| zz_iconst_1 C dX11_gap_20 <| zpc 21 rfl <| ?_
    refine zf_callVI C hR [_, _] (c_bad1 hT _ (by decide) (by first | exact zI_self _ _ _ _ | assumption)) lX11_181 rfl (tM_K hT) (by decide) rfl ⟨zle rfl, zle rfl, zle rfl, zle rfl⟩ (zle rfl) dX11_gap_21 ?_
    refine zz_if_eq C 29 dX11_gap_24 (by decide) (fun c24 => ?_) (fun c24 => ?_)
    · exact absurd c24 (by decide)
    · refine zz_iconst_0 C dX11_gap_27 <| zpc 28 rfl <| ?_
      exact zf_ireturn C hE (zle rfl) (zle rfl) dX11_gap_28 rfl rfl rfl
end MBE
