/-! ===== the class: best, gap ===== -/
section CR
variable {E : zE} {b : Nat} {G : zG} {t : zT} {h : zH} {l : Launch} {a c e : Nat} {D : yD} {Mo : Nat × (Nat → Nat → Nat)} {R : Nat × (Nat → Nat)}
noncomputable def tBest (D : yD) (d : Nat) : Nat × Int32 := tB D.1 D.2.1 d (D.2.2.1, D.2.2.2) 0 (-1) (1000000000000, -1)
theorem tBest_eq (hD : sdOk D yP0) (h0 : D.2.1.1.2.1 = 0) {d : Nat} (hd : d ≤ 3) : tB D.1 D.2.1 d (D.2.2.1, D.2.2.2) 0 (-1) (1099511627776, 0) = tBest D d := tB_init h0 d _ (hD.w 0) 0 _ _ _ (by show 0 + 154000 * d < 1099511627776; omega) (by show 0 + 154000 * d < 1000000000000; omega)
theorem c5_seek (hX : zTX t a c e) (hO : dOk D Mo R) (hm : cSn h a D Mo R) (d : Nat) (hd1 : 1 ≤ d) (hd : d ≤ 3) : zMet E b l yX5_seek cX5_seek 5 none 11 0 0 [.ref (b + 123), .ref (b + 73), .ref (b + a), .ref (b + 68), .int (nI d)] t h (qV (fun t' h' => cTq t a t' ∧ cAg 73 144 h h' ∧ cBs h' (tBest D d))) := by
  have ha := tX_a2 hX
  have hn := hO.2.2.1
  have hng := hO.1.1.2.1.2.2.1
  have htd := hO.1.2.2.2.2
  have hqo : qOk D.1 D.2.1 (D.2.2.1, D.2.2.2) := hO.1.w 0
  rw [← tBest_eq hO.1 hO.2.1 hd]
  refine zMet.of (ls := [some (.ref (b + 123)), some (.ref (b + 73)), some (.ref (b + a)), some (.ref (b + 68)), some (.int (nI d))]) (by decide) (zle rfl) 0 rfl ?_
  intro G hlG C hR hE hin
  have fin : ∀ h2, cTk (zsI (zsL (zsI h 123 3 (nI d)) 123 0 (lN 1099511627776)) 123 1 0) 125 68 h2 → cQs h2 a D R (0 + d) 0 (D.2.2.1, D.2.2.2) ∧ cBs h2 (1099511627776, 0) ∧ cAg 73 144 h h2 := by
    intro h2 tk
    have ag : cAg 73 144 h h2 := ((((cAg.rf h).sI (by omega) (by omega)).sL (by omega) (by omega)).sI (by omega) (by omega)).tr (tk.1.wd (by omega) (by omega))
    have hm2 := hm.ag ag (by omega) ha hO
    have hs1 : cSt (zsI (zsL (zsI h 123 3 (nI d)) 123 0 (lN 1099511627776)) 123 1 0) 68 D.2.1.1.1 D.2.1.1.2.2 D.2.2.2 D.2.2.1.1 D.2.2.1.2 R := hm.2.2.2.ag (((((cAg.rf h).sI (lo := 73) (hi := 144) (by omega) (by omega)).sL (by omega) (by omega)).sI (by omega) (by omega))) (by omega)
    refine ⟨⟨⟨hm2.1, hm2.2.1, hm2.2.2.1.2.1⟩, ?_, tk.st (by omega) hO.2.2.2.1.1 hs1⟩, ⟨?_, ?_⟩, ag⟩
    · rw [tk.1.1 _ _ (by omega), zI_sI, if_neg (by omega), Nat.zero_add]
      exact zI_self h 123 3 (nI d)
    · rw [tk.1.2 _ _ (by omega)]
      show zL (zsL (zsI h 123 3 (nI d)) 123 0 (lN 1099511627776)) 123 0 = _
      rw [zL_sL, if_pos ⟨rfl, rfl⟩]
    · rw [tk.1.1 _ _ (by omega)]
      exact zI_self _ _ _ _
  obtain rfl | rfl | rfl : d = 1 ∨ d = 2 ∨ d = 3 := by omega
  ·
    refine zz_aload_0 C dX5_seek_0 <| zz_iload_4 C dX5_seek_1 <| zz_iconst_3 C dX5_seek_3 <| zz_mmin C hR (zle rfl) mX5_18 (zle rfl) (zle rfl) (zle rfl) dX5_seek_4 <| zpc 7 rfl <| ?_
    rw [show (if (3 : Int32) < nI 1 then (3 : Int32) else nI 1) = nI 1 from rfl]
    refine zy_putI C fX5_24 pX5_3 (tX_K_search hX) dX5_seek_7 <| zz_aload_0 C dX5_seek_10 <| zz_ldc2 C dX5_seek_11 kX5_28 <| zy_putL C fX5_30 pX5_0 (tX_K_search hX) dX5_seek_14 <| zz_aload_0 C dX5_seek_17 <| zz_iconst_0 C dX5_seek_18 <| zy_putI C fX5_34 pX5_1 (tX_K_search hX) dX5_seek_19 <| zz_aload_0 C dX5_seek_22 <| zz_getR C fX5_11 (tX_K_search hX) (tX_R_levels hX) dX5_seek_23 <| zz_iconst_0 C dX5_seek_26 <| zc_aaloadS C 0 (tX_K_levels hX) (tX_row_levels hX _ (by decide)) (zlit _ (by decide)) (by decide) dX5_seek_27 <| zz_aload_3 C dX5_seek_28 <| zpc 29 rfl <| ?_
    refine zy_callVV C hR [_] (c6_take (j := 125) (tX_Slevels hX 0 (by omega)) (tX_S68 hX) (by omega)) lX5_37 rfl (tS_K (tX_Slevels hX _ (by decide))) (by decide) rfl ⟨zle rfl, zle rfl, zle rfl, zle rfl⟩ (zle rfl) dX5_seek_29 ?_
    intro t2 h2 hv; obtain ⟨rfl, tk⟩ := hv; obtain ⟨f1, f2, f3⟩ := fin h2 tk
    refine zz_aload_0 C dX5_seek_32 <| zz_aload_1 C dX5_seek_33 <| zz_aload_2 C dX5_seek_34 <| zz_iconst_0 C dX5_seek_35 <| zz_lconst_0 C dX5_seek_36 <| zz_iconst_0 C dX5_seek_37 <| zpc 38 rfl <| ?_
    refine zy_callVV C hR [_, _, _, _, _] (c5_try1 hX hO 0 0 (by omega) hqo (show D.2.2.2 + 1 < 2 ^ 30 by omega) f1 0 (fun z => absurd z (by omega)) f2 (by show 1099511627776 < 2 ^ 62; omega) (by show 0 < 1099511627776; omega)) lX5_41 rfl (tX_K_search hX) (by decide) rfl ⟨zle rfl, zle rfl, zle rfl, zle rfl⟩ (zle rfl) dX5_seek_38 ?_
    intro t3 h3 hv; obtain ⟨g1, g2, g3⟩ := hv
    refine zy_return C hE (zle rfl) (zle rfl) dX5_seek_41 ?_
    exact ⟨g1, f3.tr ⟨fun i j z => g2.1 i j (by omega), fun i j z => g2.2 i j (by omega)⟩, g3⟩
  ·
    refine zz_aload_0 C dX5_seek_0 <| zz_iload_4 C dX5_seek_1 <| zz_iconst_3 C dX5_seek_3 <| zz_mmin C hR (zle rfl) mX5_18 (zle rfl) (zle rfl) (zle rfl) dX5_seek_4 <| zpc 7 rfl <| ?_
    rw [show (if (3 : Int32) < nI 2 then (3 : Int32) else nI 2) = nI 2 from rfl]
    refine zy_putI C fX5_24 pX5_3 (tX_K_search hX) dX5_seek_7 <| zz_aload_0 C dX5_seek_10 <| zz_ldc2 C dX5_seek_11 kX5_28 <| zy_putL C fX5_30 pX5_0 (tX_K_search hX) dX5_seek_14 <| zz_aload_0 C dX5_seek_17 <| zz_iconst_0 C dX5_seek_18 <| zy_putI C fX5_34 pX5_1 (tX_K_search hX) dX5_seek_19 <| zz_aload_0 C dX5_seek_22 <| zz_getR C fX5_11 (tX_K_search hX) (tX_R_levels hX) dX5_seek_23 <| zz_iconst_0 C dX5_seek_26 <| zc_aaloadS C 0 (tX_K_levels hX) (tX_row_levels hX _ (by decide)) (zlit _ (by decide)) (by decide) dX5_seek_27 <| zz_aload_3 C dX5_seek_28 <| zpc 29 rfl <| ?_
    refine zy_callVV C hR [_] (c6_take (j := 125) (tX_Slevels hX 0 (by omega)) (tX_S68 hX) (by omega)) lX5_37 rfl (tS_K (tX_Slevels hX _ (by decide))) (by decide) rfl ⟨zle rfl, zle rfl, zle rfl, zle rfl⟩ (zle rfl) dX5_seek_29 ?_
    intro t2 h2 hv; obtain ⟨rfl, tk⟩ := hv; obtain ⟨f1, f2, f3⟩ := fin h2 tk
    refine zz_aload_0 C dX5_seek_32 <| zz_aload_1 C dX5_seek_33 <| zz_aload_2 C dX5_seek_34 <| zz_iconst_0 C dX5_seek_35 <| zz_lconst_0 C dX5_seek_36 <| zz_iconst_0 C dX5_seek_37 <| zpc 38 rfl <| ?_
    refine zy_callVV C hR [_, _, _, _, _] (c5_try2 hX hO 0 0 (by omega) hqo (show D.2.2.2 + 2 < 2 ^ 30 by omega) f1 0 (fun z => absurd z (by omega)) f2 (by show 1099511627776 < 2 ^ 62; omega) (by show 0 < 1099511627776; omega)) lX5_41 rfl (tX_K_search hX) (by decide) rfl ⟨zle rfl, zle rfl, zle rfl, zle rfl⟩ (zle rfl) dX5_seek_38 ?_
    intro t3 h3 hv; obtain ⟨g1, g2, g3⟩ := hv
    refine zy_return C hE (zle rfl) (zle rfl) dX5_seek_41 ?_
    exact ⟨g1, f3.tr ⟨fun i j z => g2.1 i j (by omega), fun i j z => g2.2 i j (by omega)⟩, g3⟩
  ·
    refine zz_aload_0 C dX5_seek_0 <| zz_iload_4 C dX5_seek_1 <| zz_iconst_3 C dX5_seek_3 <| zz_mmin C hR (zle rfl) mX5_18 (zle rfl) (zle rfl) (zle rfl) dX5_seek_4 <| zpc 7 rfl <| ?_
    rw [show (if (3 : Int32) < nI 3 then (3 : Int32) else nI 3) = nI 3 from rfl]
    refine zy_putI C fX5_24 pX5_3 (tX_K_search hX) dX5_seek_7 <| zz_aload_0 C dX5_seek_10 <| zz_ldc2 C dX5_seek_11 kX5_28 <| zy_putL C fX5_30 pX5_0 (tX_K_search hX) dX5_seek_14 <| zz_aload_0 C dX5_seek_17 <| zz_iconst_0 C dX5_seek_18 <| zy_putI C fX5_34 pX5_1 (tX_K_search hX) dX5_seek_19 <| zz_aload_0 C dX5_seek_22 <| zz_getR C fX5_11 (tX_K_search hX) (tX_R_levels hX) dX5_seek_23 <| zz_iconst_0 C dX5_seek_26 <| zc_aaloadS C 0 (tX_K_levels hX) (tX_row_levels hX _ (by decide)) (zlit _ (by decide)) (by decide) dX5_seek_27 <| zz_aload_3 C dX5_seek_28 <| zpc 29 rfl <| ?_
    refine zy_callVV C hR [_] (c6_take (j := 125) (tX_Slevels hX 0 (by omega)) (tX_S68 hX) (by omega)) lX5_37 rfl (tS_K (tX_Slevels hX _ (by decide))) (by decide) rfl ⟨zle rfl, zle rfl, zle rfl, zle rfl⟩ (zle rfl) dX5_seek_29 ?_
    intro t2 h2 hv; obtain ⟨rfl, tk⟩ := hv; obtain ⟨f1, f2, f3⟩ := fin h2 tk
    refine zz_aload_0 C dX5_seek_32 <| zz_aload_1 C dX5_seek_33 <| zz_aload_2 C dX5_seek_34 <| zz_iconst_0 C dX5_seek_35 <| zz_lconst_0 C dX5_seek_36 <| zz_iconst_0 C dX5_seek_37 <| zpc 38 rfl <| ?_
    refine zy_callVV C hR [_, _, _, _, _] (c5_try3 hX hO 0 0 (by omega) hqo (show D.2.2.2 + 3 < 2 ^ 30 by omega) f1 0 (fun z => absurd z (by omega)) f2 (by show 1099511627776 < 2 ^ 62; omega) (by show 0 < 1099511627776; omega)) lX5_41 rfl (tX_K_search hX) (by decide) rfl ⟨zle rfl, zle rfl, zle rfl, zle rfl⟩ (zle rfl) dX5_seek_38 ?_
    intro t3 h3 hv; obtain ⟨g1, g2, g3⟩ := hv
    refine zy_return C hE (zle rfl) (zle rfl) dX5_seek_41 ?_
    exact ⟨g1, f3.tr ⟨fun i j z => g2.1 i j (by omega), fun i j z => g2.2 i j (by omega)⟩, g3⟩
theorem c10_best1 (hX : zTX t a c e) (hO : dOk D Mo R) (hm : cSn h a D Mo R) (d q : Nat) (hd1 : 1 ≤ d) (hd : d ≤ 3) (hq : q ≤ 1) (hr : D.2.1.1.1 ≤ 6) : zMet E b l yX10_best cX10_best 3 (some .int) 12 0 0 [.ref (b + 0), .int (nI d), .int (nI q)] t h (qI (fun v t' h' => v = (if q = 0 then nI (tBest D d).1 else (tBest D d).2) ∧ cAsk t a h t' h')) := by
  refine zMet.of (ls := [some (.ref (b + 0)), some (.int (nI d)), some (.int (nI q))]) (by decide) (zle rfl) 0 rfl ?_
  intro G hlG C hR hE hin
  refine zz_iload_1 C dX10_best_0 <| zz_iconst_1 C dX10_best_1 <| zpc 2 rfl <| ?_
  refine zz_icmp_lt C 14 dX10_best_2 (by decide) (fun c2 => ?_) (fun c2 => ?_)
  · exact absurd c2 (nI_nlt (a := d) (b := 1) hd1 (by omega))
  · refine zz_iload_1 C dX10_best_5 <| zz_iconst_3 C dX10_best_6 <| zpc 7 rfl <| ?_
    refine zz_icmp_gt C 14 dX10_best_7 (by decide) (fun c7 => ?_) (fun c7 => ?_)
    · exact absurd c7 (nI_nlt (a := 3) (b := d) hd (by omega))
    · refine zz_iconst_1 C dX10_best_10 <| zz_goto C 15 dX10_best_11 (by decide) <| zpc 15 rfl <| ?_
      refine zf_callSV C hR [_] (c10_demand1 _ (by decide)) lX10_76 rfl ⟨zle rfl, zle rfl, zle rfl, zle rfl⟩ (zle rfl) dX10_best_15 ?_
      refine zz_iload_2 C dX10_best_18 <| zpc 19 rfl <| ?_
      refine zz_if_eq C 27 dX10_best_19 (by decide) (fun c19 => ?_) (fun c19 => ?_)
      · rw [show (0 : Int32) = nI 0 from rfl, nI_eq (by omega) (by omega)] at c19
        refine zz_iconst_1 C dX10_best_27 <| zz_goto C 32 dX10_best_28 (by decide) <| zpc 32 rfl <| ?_
        refine zf_callSV C hR [_] (c10_demand1 _ (by decide)) lX10_76 rfl ⟨zle rfl, zle rfl, zle rfl, zle rfl⟩ (zle rfl) dX10_best_32 ?_
        refine zz_aload_0 C dX10_best_35 <| zz_getR C fX10_19 (tX_K_X hX) (tX_R_land hX) dX10_best_36 <| zz_getI C fX10_89 (tL_K (tX_La hX)) dX10_best_39 <| zpc 42 rfl <| ?_
        rw [hm.1.1.2.1]
        refine zz_bipush C 6 dX10_best_42 (by decide) <| zpc 44 rfl <| ?_
        refine zz_icmp_le C 50 dX10_best_44 (by decide) (fun c44 => ?_) (fun c44 => ?_)
        · refine zz_aload_0 C dX10_best_50 <| zz_getR C fX10_48 (tX_K_X hX) (tX_R_search hX) dX10_best_51 <| zz_aload_0 C dX10_best_54 <| zz_getR C fX10_41 (tX_K_X hX) (tX_R_walk hX) dX10_best_55 <| zz_aload_0 C dX10_best_58 <| zz_getR C fX10_19 (tX_K_X hX) (tX_R_land hX) dX10_best_59 <| zz_aload_0 C dX10_best_62 <| zz_getR C fX10_26 (tX_K_X hX) (tX_R_now hX) dX10_best_63 <| zz_iload_1 C dX10_best_66 <| zpc 67 rfl <| ?_
          refine zy_callVV C hR [_, _, _, _] (c5_seek hX hO hm d hd1 hd) lX10_261 rfl (tX_K_search hX) (by decide) rfl ⟨zle rfl, zle rfl, zle rfl, zle rfl⟩ (zle rfl) dX10_best_67 ?_
          intro t2 h2 hv; obtain ⟨g1, g2, g3⟩ := hv; obtain ⟨e2, hX⟩ := g1.X hX
          refine zz_iload_2 C dX10_best_70 <| zpc 71 rfl <| ?_
          refine zz_if_ne C 85 dX10_best_71 (by decide) (fun c71 => ?_) (fun c71 => ?_)
          · rw [show (0 : Int32) = nI 0 from rfl, nI_eq (by omega) (by omega)] at c71
            refine zz_aload_0 C dX10_best_85 <| zz_getR C fX10_48 (tX_K_X hX) (tX_R_search hX) dX10_best_86 <| zz_getI C fX10_268 (tX_K_search hX) dX10_best_89 <| zpc 92 rfl <| ?_
            first | rw [lN_i] | rw [g3.2]
            refine zy_ireturn C hE (zle rfl) (zle rfl) dX10_best_92 ?_
            first
            | (rw [if_pos c71]; exact ⟨rfl, g1, g2⟩)
            | (rw [if_neg c71]; exact ⟨rfl, g1, g2⟩)
          · rw [show (0 : Int32) = nI 0 from rfl, nI_eq (by omega) (by omega)] at c71
            refine zz_aload_0 C dX10_best_74 <| zz_getR C fX10_48 (tX_K_X hX) (tX_R_search hX) dX10_best_75 <| zz_getL C fX10_265 (tX_K_search hX) dX10_best_78 <| zpc 81 rfl <| ?_
            rw [g3.1]
            refine zz_l2i C dX10_best_81 <| zz_goto C 92 dX10_best_82 (by decide) <| zpc 92 rfl <| ?_
            first | rw [lN_i] | rw [g3.2]
            refine zy_ireturn C hE (zle rfl) (zle rfl) dX10_best_92 ?_
            first
            | (rw [if_pos c71]; exact ⟨rfl, g1, g2⟩)
            | (rw [if_neg c71]; exact ⟨rfl, g1, g2⟩)
        · rw [show (6 : Int32) = nI 6 from rfl, nI_leI (by omega) (by omega)] at c44; omega
      · rw [show (0 : Int32) = nI 0 from rfl, nI_eq (by omega) (by omega)] at c19
        refine zz_iload_2 C dX10_best_22 <| zz_iconst_1 C dX10_best_23 <| zpc 24 rfl <| ?_
        refine zz_icmp_ne C 31 dX10_best_24 (by decide) (fun c24 => ?_) (fun c24 => ?_)
        · exfalso; rw [show (1 : Int32) = nI 1 from rfl, nI_eq (by omega) (by omega)] at c24; omega
        · refine zz_iconst_1 C dX10_best_27 <| zz_goto C 32 dX10_best_28 (by decide) <| zpc 32 rfl <| ?_
          refine zf_callSV C hR [_] (c10_demand1 _ (by decide)) lX10_76 rfl ⟨zle rfl, zle rfl, zle rfl, zle rfl⟩ (zle rfl) dX10_best_32 ?_
          refine zz_aload_0 C dX10_best_35 <| zz_getR C fX10_19 (tX_K_X hX) (tX_R_land hX) dX10_best_36 <| zz_getI C fX10_89 (tL_K (tX_La hX)) dX10_best_39 <| zpc 42 rfl <| ?_
          rw [hm.1.1.2.1]
          refine zz_bipush C 6 dX10_best_42 (by decide) <| zpc 44 rfl <| ?_
          refine zz_icmp_le C 50 dX10_best_44 (by decide) (fun c44 => ?_) (fun c44 => ?_)
          · refine zz_aload_0 C dX10_best_50 <| zz_getR C fX10_48 (tX_K_X hX) (tX_R_search hX) dX10_best_51 <| zz_aload_0 C dX10_best_54 <| zz_getR C fX10_41 (tX_K_X hX) (tX_R_walk hX) dX10_best_55 <| zz_aload_0 C dX10_best_58 <| zz_getR C fX10_19 (tX_K_X hX) (tX_R_land hX) dX10_best_59 <| zz_aload_0 C dX10_best_62 <| zz_getR C fX10_26 (tX_K_X hX) (tX_R_now hX) dX10_best_63 <| zz_iload_1 C dX10_best_66 <| zpc 67 rfl <| ?_
            refine zy_callVV C hR [_, _, _, _] (c5_seek hX hO hm d hd1 hd) lX10_261 rfl (tX_K_search hX) (by decide) rfl ⟨zle rfl, zle rfl, zle rfl, zle rfl⟩ (zle rfl) dX10_best_67 ?_
            intro t2 h2 hv; obtain ⟨g1, g2, g3⟩ := hv; obtain ⟨e2, hX⟩ := g1.X hX
            refine zz_iload_2 C dX10_best_70 <| zpc 71 rfl <| ?_
            refine zz_if_ne C 85 dX10_best_71 (by decide) (fun c71 => ?_) (fun c71 => ?_)
            · rw [show (0 : Int32) = nI 0 from rfl, nI_eq (by omega) (by omega)] at c71
              refine zz_aload_0 C dX10_best_85 <| zz_getR C fX10_48 (tX_K_X hX) (tX_R_search hX) dX10_best_86 <| zz_getI C fX10_268 (tX_K_search hX) dX10_best_89 <| zpc 92 rfl <| ?_
              first | rw [lN_i] | rw [g3.2]
              refine zy_ireturn C hE (zle rfl) (zle rfl) dX10_best_92 ?_
              first
              | (rw [if_pos c71]; exact ⟨rfl, g1, g2⟩)
              | (rw [if_neg c71]; exact ⟨rfl, g1, g2⟩)
            · rw [show (0 : Int32) = nI 0 from rfl, nI_eq (by omega) (by omega)] at c71
              refine zz_aload_0 C dX10_best_74 <| zz_getR C fX10_48 (tX_K_X hX) (tX_R_search hX) dX10_best_75 <| zz_getL C fX10_265 (tX_K_search hX) dX10_best_78 <| zpc 81 rfl <| ?_
              rw [g3.1]
              refine zz_l2i C dX10_best_81 <| zz_goto C 92 dX10_best_82 (by decide) <| zpc 92 rfl <| ?_
              first | rw [lN_i] | rw [g3.2]
              refine zy_ireturn C hE (zle rfl) (zle rfl) dX10_best_92 ?_
              first
              | (rw [if_pos c71]; exact ⟨rfl, g1, g2⟩)
              | (rw [if_neg c71]; exact ⟨rfl, g1, g2⟩)
          · rw [show (6 : Int32) = nI 6 from rfl, nI_leI (by omega) (by omega)] at c44; omega
theorem c10_best2 (hX : zTX t a c e) (hO : dOk D Mo R) (hm : cSn h a D Mo R) (d q : Nat) (hd1 : 1 ≤ d) (hd : d ≤ 3) (hq : q ≤ 1) (hr : 6 < D.2.1.1.1) : zMet E b l yX10_best cX10_best 3 (some .int) 12 0 0 [.ref (b + 0), .int (nI d), .int (nI q)] t h (qIf (-2) t h) := by
  have hn := hO.2.2.1
  refine zMet.of (ls := [some (.ref (b + 0)), some (.int (nI d)), some (.int (nI q))]) (by decide) (zle rfl) 0 rfl ?_
  intro G hlG C hR hE hin
  refine zz_iload_1 C dX10_best_0 <| zz_iconst_1 C dX10_best_1 <| zpc 2 rfl <| ?_
  refine zz_icmp_lt C 14 dX10_best_2 (by decide) (fun c2 => ?_) (fun c2 => ?_)
  · exact absurd c2 (nI_nlt (a := d) (b := 1) hd1 (by omega))
  · refine zz_iload_1 C dX10_best_5 <| zz_iconst_3 C dX10_best_6 <| zpc 7 rfl <| ?_
    refine zz_icmp_gt C 14 dX10_best_7 (by decide) (fun c7 => ?_) (fun c7 => ?_)
    · exact absurd c7 (nI_nlt (a := 3) (b := d) hd (by omega))
    · refine zz_iconst_1 C dX10_best_10 <| zz_goto C 15 dX10_best_11 (by decide) <| zpc 15 rfl <| ?_
      refine zf_callSV C hR [_] (c10_demand1 _ (by decide)) lX10_76 rfl ⟨zle rfl, zle rfl, zle rfl, zle rfl⟩ (zle rfl) dX10_best_15 ?_
      refine zz_iload_2 C dX10_best_18 <| zpc 19 rfl <| ?_
      refine zz_if_eq C 27 dX10_best_19 (by decide) (fun c19 => ?_) (fun c19 => ?_)
      · rw [show (0 : Int32) = nI 0 from rfl, nI_eq (by omega) (by omega)] at c19
        refine zz_iconst_1 C dX10_best_27 <| zz_goto C 32 dX10_best_28 (by decide) <| zpc 32 rfl <| ?_
        refine zf_callSV C hR [_] (c10_demand1 _ (by decide)) lX10_76 rfl ⟨zle rfl, zle rfl, zle rfl, zle rfl⟩ (zle rfl) dX10_best_32 ?_
        refine zz_aload_0 C dX10_best_35 <| zz_getR C fX10_19 (tX_K_X hX) (tX_R_land hX) dX10_best_36 <| zz_getI C fX10_89 (tL_K (tX_La hX)) dX10_best_39 <| zpc 42 rfl <| ?_
        rw [hm.1.1.2.1]
        refine zz_bipush C 6 dX10_best_42 (by decide) <| zpc 44 rfl <| ?_
        refine zz_icmp_le C 50 dX10_best_44 (by decide) (fun c44 => ?_) (fun c44 => ?_)
        · rw [show (6 : Int32) = nI 6 from rfl, nI_leI (by omega) (by omega)] at c44; omega
        · refine zz_bipush C (-2) dX10_best_47 (by decide) <| zpc 49 rfl <| ?_
          exact zf_ireturn C hE (zle rfl) (zle rfl) dX10_best_49 rfl rfl rfl
      · rw [show (0 : Int32) = nI 0 from rfl, nI_eq (by omega) (by omega)] at c19
        refine zz_iload_2 C dX10_best_22 <| zz_iconst_1 C dX10_best_23 <| zpc 24 rfl <| ?_
        refine zz_icmp_ne C 31 dX10_best_24 (by decide) (fun c24 => ?_) (fun c24 => ?_)
        · exfalso; rw [show (1 : Int32) = nI 1 from rfl, nI_eq (by omega) (by omega)] at c24; omega
        · refine zz_iconst_1 C dX10_best_27 <| zz_goto C 32 dX10_best_28 (by decide) <| zpc 32 rfl <| ?_
          refine zf_callSV C hR [_] (c10_demand1 _ (by decide)) lX10_76 rfl ⟨zle rfl, zle rfl, zle rfl, zle rfl⟩ (zle rfl) dX10_best_32 ?_
          refine zz_aload_0 C dX10_best_35 <| zz_getR C fX10_19 (tX_K_X hX) (tX_R_land hX) dX10_best_36 <| zz_getI C fX10_89 (tL_K (tX_La hX)) dX10_best_39 <| zpc 42 rfl <| ?_
          rw [hm.1.1.2.1]
          refine zz_bipush C 6 dX10_best_42 (by decide) <| zpc 44 rfl <| ?_
          refine zz_icmp_le C 50 dX10_best_44 (by decide) (fun c44 => ?_) (fun c44 => ?_)
          · rw [show (6 : Int32) = nI 6 from rfl, nI_leI (by omega) (by omega)] at c44; omega
          · refine zz_bipush C (-2) dX10_best_47 (by decide) <| zpc 49 rfl <| ?_
            exact zf_ireturn C hE (zle rfl) (zle rfl) dX10_best_49 rfl rfl rfl
theorem c10_best0 (hX : zTX t a c e) (hlt : l.stackTraces = false) (hf : t.1.2 = false) (x z : Int32) (hno : ¬ ((∃ k, 1 ≤ k ∧ k ≤ 3 ∧ x = nI k) ∧ ∃ k, k ≤ 1 ∧ z = nI k)) : zMetX E b l yX10_best cX10_best 3 (some .int) 12 1 6 [.ref (b + 0), .int x, .int z] t h xA := by
  refine zMetX.of (ls := [some (.ref (b + 0)), some (.int x), some (.int z)]) hlt (by decide) (zle rfl) 0 rfl ?_
  intro G hlG C hR hE
  rw [← hlG] at hlt
  refine zz_iload_1 C dX10_best_0 <| zz_iconst_1 C dX10_best_1 <| zpc 2 rfl <| ?_
  refine zz_icmp_lt C 14 dX10_best_2 (by decide) (fun c2 => ?_) (fun c2 => ?_)
  · refine zz_iconst_0 C dX10_best_14 <| zpc 15 rfl <| ?_
    exact zx_callS C hR hE [_] (c10_demand0 hlt hf) lX10_76 rfl ⟨zle rfl, zle rfl, zle rfl, zle rfl⟩ (zle rfl) (zle rfl) (zle rfl) dX10_best_15
  · refine zz_iload_1 C dX10_best_5 <| zz_iconst_3 C dX10_best_6 <| zpc 7 rfl <| ?_
    refine zz_icmp_gt C 14 dX10_best_7 (by decide) (fun c7 => ?_) (fun c7 => ?_)
    · refine zz_iconst_0 C dX10_best_14 <| zpc 15 rfl <| ?_
      exact zx_callS C hR hE [_] (c10_demand0 hlt hf) lX10_76 rfl ⟨zle rfl, zle rfl, zle rfl, zle rfl⟩ (zle rfl) (zle rfl) (zle rfl) dX10_best_15
    · refine zz_iconst_1 C dX10_best_10 <| zz_goto C 15 dX10_best_11 (by decide) <| zpc 15 rfl <| ?_
      refine zf_callSV C hR [_] (c10_demand1 _ (by decide)) lX10_76 rfl ⟨zle rfl, zle rfl, zle rfl, zle rfl⟩ (zle rfl) dX10_best_15 ?_
      refine zz_iload_2 C dX10_best_18 <| zpc 19 rfl <| ?_
      refine zz_if_eq C 27 dX10_best_19 (by decide) (fun c19 => ?_) (fun c19 => ?_)
      · refine zz_iconst_1 C dX10_best_27 <| zz_goto C 32 dX10_best_28 (by decide) <| zpc 32 rfl <| ?_
        have hz : z = 0 ∨ z = 1 := by first | exact Or.inl c19 | exact Or.inr c24
        rcases hz with ez | ez
        · exact absurd ⟨(frTo 3 3 rfl (by omega)).mp ⟨Int32.not_lt.mp c2, Int32.not_lt.mp c7⟩, ⟨0, by omega, ez⟩⟩ hno
        · exact absurd ⟨(frTo 3 3 rfl (by omega)).mp ⟨Int32.not_lt.mp c2, Int32.not_lt.mp c7⟩, ⟨1, by omega, ez⟩⟩ hno
      · refine zz_iload_2 C dX10_best_22 <| zz_iconst_1 C dX10_best_23 <| zpc 24 rfl <| ?_
        refine zz_icmp_ne C 31 dX10_best_24 (by decide) (fun c24 => ?_) (fun c24 => ?_)
        · refine zz_iconst_0 C dX10_best_31 <| zpc 32 rfl <| ?_
          exact zx_callS C hR hE [_] (c10_demand0 hlt hf) lX10_76 rfl ⟨zle rfl, zle rfl, zle rfl, zle rfl⟩ (zle rfl) (zle rfl) (zle rfl) dX10_best_32
        · refine zz_iconst_1 C dX10_best_27 <| zz_goto C 32 dX10_best_28 (by decide) <| zpc 32 rfl <| ?_
          have hz : z = 0 ∨ z = 1 := by first | exact Or.inl c19 | exact Or.inr c24
          rcases hz with ez | ez
          · exact absurd ⟨(frTo 3 3 rfl (by omega)).mp ⟨Int32.not_lt.mp c2, Int32.not_lt.mp c7⟩, ⟨0, by omega, ez⟩⟩ hno
          · exact absurd ⟨(frTo 3 3 rfl (by omega)).mp ⟨Int32.not_lt.mp c2, Int32.not_lt.mp c7⟩, ⟨1, by omega, ez⟩⟩ hno
theorem c10_gap1 (hX : zTX t a c e) (hO : dOk D Mo R) (hm : cSn h a D Mo R) (sd : Int32) (d : Nat) (hd1 : 1 ≤ d) (hd : d ≤ 3) (hr : D.2.1.1.1 ≤ 6) : zMet E b l yX10_gap cX10_gap 4 (some .int) 12 0 0 [.ref (b + 0), .int (nI d)] t h (qI (fun v t' h' => v = (lN (dCo D yP0 R 0 d sd) - lN (tBest D d).1).toInt32 ∧ cAsk t a h t' h')) := by
  refine zMet.of (ls := [some (.ref (b + 0)), some (.int (nI d)), none, none]) (by decide) (zle rfl) 2 rfl ?_
  intro G hlG C hR hE hin
  refine zz_iload_1 C dX10_gap_0 <| zz_iconst_1 C dX10_gap_1 <| zpc 2 rfl <| ?_
  refine zz_icmp_lt C 14 dX10_gap_2 (by decide) (fun c2 => ?_) (fun c2 => ?_)
  · exact absurd c2 (nI_nlt (a := d) (b := 1) hd1 (by omega))
  · refine zz_iload_1 C dX10_gap_5 <| zz_iconst_3 C dX10_gap_6 <| zpc 7 rfl <| ?_
    refine zz_icmp_gt C 14 dX10_gap_7 (by decide) (fun c7 => ?_) (fun c7 => ?_)
    · exact absurd c7 (nI_nlt (a := 3) (b := d) hd (by omega))
    · refine zz_iconst_1 C dX10_gap_10 <| zz_goto C 15 dX10_gap_11 (by decide) <| zpc 15 rfl <| ?_
      refine zf_callSV C hR [_] (c10_demand1 _ (by decide)) lX10_76 rfl ⟨zle rfl, zle rfl, zle rfl, zle rfl⟩ (zle rfl) dX10_gap_15 ?_
      refine zz_aload_0 C dX10_gap_18 <| zz_getR C fX10_19 (tX_K_X hX) (tX_R_land hX) dX10_gap_19 <| zz_getI C fX10_89 (tL_K (tX_La hX)) dX10_gap_22 <| zpc 25 rfl <| ?_
      rw [hm.1.1.2.1]
      refine zz_bipush C 6 dX10_gap_25 (by decide) <| zpc 27 rfl <| ?_
      refine zz_icmp_le C 33 dX10_gap_27 (by decide) (fun c27 => ?_) (fun c27 => ?_)
      · refine zz_aload_0 C dX10_gap_33 <| zz_iload_1 C dX10_gap_34 <| zpc 35 rfl <| ?_
        refine zy_callVJ C hR [_] (c10_openCost hX hO hm sd d (by omega)) lX10_271 rfl (tX_K_X hX) (by decide) rfl ⟨zle rfl, zle rfl, zle rfl, zle rfl⟩ (zle rfl) dX10_gap_35 ?_
        intro v t' h' hv; obtain ⟨k1, rfl⟩ := hv; have hm := k1.sn hX hO hm; have hX := k1.X hX
        refine zz_lstore_2 C (zle rfl) rfl dX10_gap_38 <| zz_aload_0 C dX10_gap_39 <| zz_getR C fX10_48 (tX_K_X hX) (tX_R_search hX) dX10_gap_40 <| zz_aload_0 C dX10_gap_43 <| zz_getR C fX10_41 (tX_K_X hX) (tX_R_walk hX) dX10_gap_44 <| zz_aload_0 C dX10_gap_47 <| zz_getR C fX10_19 (tX_K_X hX) (tX_R_land hX) dX10_gap_48 <| zz_aload_0 C dX10_gap_51 <| zz_getR C fX10_26 (tX_K_X hX) (tX_R_now hX) dX10_gap_52 <| zz_iload_1 C dX10_gap_55 <| zpc 56 rfl <| ?_
        refine zy_callVV C hR [_, _, _, _] (c5_seek hX hO hm d hd1 hd) lX10_261 rfl (tX_K_search hX) (by decide) rfl ⟨zle rfl, zle rfl, zle rfl, zle rfl⟩ (zle rfl) dX10_gap_56 ?_
        intro t2 h2 hv; obtain ⟨g1, g2, g3⟩ := hv; obtain ⟨e2, hX⟩ := g1.X hX
        refine zz_lload_2 C dX10_gap_59 <| zz_aload_0 C dX10_gap_60 <| zz_getR C fX10_48 (tX_K_X hX) (tX_R_search hX) dX10_gap_61 <| zz_getL C fX10_265 (tX_K_search hX) dX10_gap_64 <| zpc 67 rfl <| ?_
        rw [g3.1]
        refine zz_lsub C dX10_gap_67 <| zz_l2i C dX10_gap_68 <| zpc 69 rfl <| ?_
        refine zy_ireturn C hE (zle rfl) (zle rfl) dX10_gap_69 ?_
        exact ⟨rfl, cTq.tr (Or.inr k1.1) g1, (k1.2.wd (by omega) (by omega)).tr g2⟩
      · rw [show (6 : Int32) = nI 6 from rfl, nI_leI (by omega) (by omega)] at c27; omega
theorem c10_gap2 (hX : zTX t a c e) (hO : dOk D Mo R) (hm : cSn h a D Mo R) (d : Nat) (hd1 : 1 ≤ d) (hd : d ≤ 3) (hr : 6 < D.2.1.1.1) : zMet E b l yX10_gap cX10_gap 4 (some .int) 12 0 0 [.ref (b + 0), .int (nI d)] t h (qIf (-2) t h) := by
  have hn := hO.2.2.1
  refine zMet.of (ls := [some (.ref (b + 0)), some (.int (nI d)), none, none]) (by decide) (zle rfl) 2 rfl ?_
  intro G hlG C hR hE hin
  refine zz_iload_1 C dX10_gap_0 <| zz_iconst_1 C dX10_gap_1 <| zpc 2 rfl <| ?_
  refine zz_icmp_lt C 14 dX10_gap_2 (by decide) (fun c2 => ?_) (fun c2 => ?_)
  · exact absurd c2 (nI_nlt (a := d) (b := 1) hd1 (by omega))
  · refine zz_iload_1 C dX10_gap_5 <| zz_iconst_3 C dX10_gap_6 <| zpc 7 rfl <| ?_
    refine zz_icmp_gt C 14 dX10_gap_7 (by decide) (fun c7 => ?_) (fun c7 => ?_)
    · exact absurd c7 (nI_nlt (a := 3) (b := d) hd (by omega))
    · refine zz_iconst_1 C dX10_gap_10 <| zz_goto C 15 dX10_gap_11 (by decide) <| zpc 15 rfl <| ?_
      refine zf_callSV C hR [_] (c10_demand1 _ (by decide)) lX10_76 rfl ⟨zle rfl, zle rfl, zle rfl, zle rfl⟩ (zle rfl) dX10_gap_15 ?_
      refine zz_aload_0 C dX10_gap_18 <| zz_getR C fX10_19 (tX_K_X hX) (tX_R_land hX) dX10_gap_19 <| zz_getI C fX10_89 (tL_K (tX_La hX)) dX10_gap_22 <| zpc 25 rfl <| ?_
      rw [hm.1.1.2.1]
      refine zz_bipush C 6 dX10_gap_25 (by decide) <| zpc 27 rfl <| ?_
      refine zz_icmp_le C 33 dX10_gap_27 (by decide) (fun c27 => ?_) (fun c27 => ?_)
      · rw [show (6 : Int32) = nI 6 from rfl, nI_leI (by omega) (by omega)] at c27; omega
      · refine zz_bipush C (-2) dX10_gap_30 (by decide) <| zpc 32 rfl <| ?_
        exact zf_ireturn C hE (zle rfl) (zle rfl) dX10_gap_32 rfl rfl rfl
theorem c10_gap0 (hX : zTX t a c e) (hlt : l.stackTraces = false) (hf : t.1.2 = false) (x : Int32) (hno : ¬ ∃ k, 1 ≤ k ∧ k ≤ 3 ∧ x = nI k) : zMetX E b l yX10_gap cX10_gap 4 (some .int) 12 1 6 [.ref (b + 0), .int x] t h xA := by
  refine zMetX.of (ls := [some (.ref (b + 0)), some (.int x), none, none]) hlt (by decide) (zle rfl) 2 rfl ?_
  intro G hlG C hR hE
  rw [← hlG] at hlt
  refine zz_iload_1 C dX10_gap_0 <| zz_iconst_1 C dX10_gap_1 <| zpc 2 rfl <| ?_
  refine zz_icmp_lt C 14 dX10_gap_2 (by decide) (fun c2 => ?_) (fun c2 => ?_)
  · refine zz_iconst_0 C dX10_gap_14 <| zpc 15 rfl <| ?_
    exact zx_callS C hR hE [_] (c10_demand0 hlt hf) lX10_76 rfl ⟨zle rfl, zle rfl, zle rfl, zle rfl⟩ (zle rfl) (zle rfl) (zle rfl) dX10_gap_15
  · refine zz_iload_1 C dX10_gap_5 <| zz_iconst_3 C dX10_gap_6 <| zpc 7 rfl <| ?_
    refine zz_icmp_gt C 14 dX10_gap_7 (by decide) (fun c7 => ?_) (fun c7 => ?_)
    · refine zz_iconst_0 C dX10_gap_14 <| zpc 15 rfl <| ?_
      exact zx_callS C hR hE [_] (c10_demand0 hlt hf) lX10_76 rfl ⟨zle rfl, zle rfl, zle rfl, zle rfl⟩ (zle rfl) (zle rfl) (zle rfl) dX10_gap_15
    · refine zz_iconst_1 C dX10_gap_10 <| zz_goto C 15 dX10_gap_11 (by decide) <| zpc 15 rfl <| ?_
      exact absurd ((frTo 3 3 rfl (by omega)).mp ⟨Int32.not_lt.mp c2, Int32.not_lt.mp c7⟩) hno
end CR
