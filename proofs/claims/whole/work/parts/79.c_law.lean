/-! ===== the class: another law, a road that might be ===== -/
abbrev dNw (D : yD) (Mo : Nat × (Nat → Nat → Nat)) (k : Nat) : yD := (D.1, ((D.2.1.1.1 + 1, D.2.1.1.2.1, D.2.1.1.2.2), fun j q => if j = D.2.1.1.1 then Mo.2 k q else D.2.1.2 j q), (nUp D.2.2.1.1 D.2.1.1.1 0, nUp D.2.2.1.2 D.2.1.1.1 D.2.1.1.2.2), D.2.2.2)
theorem dNw_ok {D : yD} {Mo : Nat × (Nat → Nat → Nat)} {p : yP} (hD : sdOk D p) (hn : D.2.1.1.1 ≤ 10) (hM : moOk D.1.1.1 Mo) {k : Nat} (hk : k < Mo.1) : sdOk (dNw D Mo k) p := by
  obtain ⟨⟨⟨n1, n2, n3, n4, n5⟩, hL, hp⟩, hN3, hN11, hrN, htd⟩ := hD
  obtain ⟨m1, m2, m3, m4, m5, m6, m7, m8⟩ := hM.2 k hk
  refine ⟨⟨⟨n1, n2, ?_, n4, fun j hj => ?_⟩, hL, hp⟩, hN3, hN11, fun j hj => ?_, htd⟩
  · show D.2.1.1.1 + 1 ≤ 11; omega
  · have hj : j < D.2.1.1.1 + 1 := hj
    show (if j = D.2.1.1.1 then Mo.2 k 0 else D.2.1.2 j 0) < D.1.1.1 ∧ (if j = D.2.1.1.1 then Mo.2 k 1 else D.2.1.2 j 1) < D.1.1.1 ∧ (if j = D.2.1.1.1 then Mo.2 k 0 else D.2.1.2 j 0) ≠ (if j = D.2.1.1.1 then Mo.2 k 1 else D.2.1.2 j 1) ∧ 1 ≤ (if j = D.2.1.1.1 then Mo.2 k 2 else D.2.1.2 j 2) ∧ (if j = D.2.1.1.1 then Mo.2 k 2 else D.2.1.2 j 2) ≤ 99 ∧ (if j = D.2.1.1.1 then Mo.2 k 3 else D.2.1.2 j 3) ≤ 9 ∧ (if j = D.2.1.1.1 then Mo.2 k 4 else D.2.1.2 j 4) ≤ 30 ∧ nUp D.2.2.1.1 D.2.1.1.1 0 j ≤ 99
    unfold nUp
    by_cases q : j = D.2.1.1.1
    · simp only [if_pos q]
      exact ⟨m1, m2, m3, m4, m5, m6, m8, Nat.zero_le _⟩
    · simp only [if_neg q]
      exact n5 j (by omega)
  · have hj : j < D.2.1.1.1 + 1 := hj
    show nUp D.2.2.1.2 D.2.1.1.1 D.2.1.1.2.2 j ≤ D.2.1.1.2.2
    unfold nUp
    by_cases q : j = D.2.1.1.1
    · rw [if_pos q]; exact Nat.le_refl _
    · rw [if_neg q]; exact hrN j (by omega)
section CE
variable {E : zE} {b : Nat} {G : zG} {t : zT} {h : zH} {l : Launch} {a c e : Nat} {D : yD} {Mo : Nat × (Nat → Nat → Nat)} {R : Nat × (Nat → Nat)}
theorem c10_lawCost (hX : zTX t a c e) (hO : dOk D Mo R) (hm : cSn h a D Mo R) (sd : Int32) (n d : Nat) (h3 : 3 ≤ n) (h11 : n ≤ 11) (hd : d ≤ 366) : zMet E b l yX10_lawCost cX10_lawCost 4 (some .long) 8 0 0 [.ref (b + 0), .int (nI n), .int (nI d)] t h (qJ (fun v t' h' => cCo t a h t' h' ∧ v = lN (dCo (dLw D n) yP0 R 0 d sd))) := by
  have ha := tX_a2 hX
  have htd := hO.1.2.2.2.2
  have hng := hO.1.1.2.1.2.2.1
  have hn := hO.2.2.1
  have hR3 := hO.2.2.2.1.1
  have hrb := hO.1.2.2.2.1
  have hN11 := hO.1.2.2.1
  refine zMet.of (ls := [some (.ref (b + 0)), some (.int (nI n)), some (.int (nI d)), none]) (by decide) (zle rfl) 1 rfl ?_
  intro G hlG C hR hE hin
  have lp : zTX (zsR t 73 6 (some a)) a c a → ∀ h1 : zH, cAg 73 90 h h1 → cWk h1 a D.2.1.1.1 none D.1 (dLw D n).2.1 yP0 (x0 D sd) D.2.1.1.2.2 R → ∀ k, k ≤ D.2.1.1.1 → ∀ hc : zH, (∀ i j, ¬ (i = 88 ∨ i = 89) → zI hc i j = zI h1 i j) → (∀ i j, zL hc i j = zL h1 i j) → (∀ j, j < k → zI hc 88 j = nI ((dLw D n).2.2.1.1 j) ∧ zI hc 89 j = nI ((dLw D n).2.2.1.2 j)) → (∀ j, k ≤ j → zI hc 88 j = zI h1 88 j ∧ zI hc 89 j = zI h1 89 j) → zAW E b G 4 0 0 28 [some (.ref (b + 0)), some (.int (nI n)), some (.int (nI d)), some (.int (nI k))] [] (zsR t 73 6 (some a)) hc := by
    intro hX h1 ag hw
    refine zLoop D.2.1.1.1 fun k hk ih hc e1 e2 e3 e4 => ?_
    have agc : cAg 73 90 h hc := ag.tr ⟨fun i j hi => e1 i j (by omega), fun i j _ => e2 i j⟩
    have hmc := hm.ag agc (by omega) ha hO
    refine zz_iload_3 C dX10_lawCost_28 <| zz_aload_0 C dX10_lawCost_29 <| zz_getR C fX10_19 (tX_K_X hX) (tX_R_land hX) dX10_lawCost_30 <| zz_getI C fX10_89 (tL_K (tX_La hX)) dX10_lawCost_33 <| zpc 36 rfl <| ?_
    rw [hmc.1.1.2.1]
    refine zz_icmp_ge C 73 dX10_lawCost_36 (by decide) (fun c36 => ?_) (fun c36 => ?_)
    · rw [nI_leI (by omega) (by omega)] at c36
      have hw2 : cWk hc a D.2.1.1.1 none D.1 (dLw D n).2.1 yP0 (x0 (dLw D n) sd) D.2.1.1.2.2 R := cWk.st (x' := x0 (dLw D n) sd) hw (by omega) hng hR3 e1 e2 rfl rfl (fun j (hj : j < D.2.1.1.1) => e3 j (by omega)) (fun j (h1 : D.2.1.1.1 ≤ j) _ => e4 j (by omega))
      refine zz_aload_0 C dX10_lawCost_73 <| zz_getR C fX10_41 (tX_K_X hX) (tX_R_walk hX) dX10_lawCost_74 <| zz_iconst_0 C dX10_lawCost_77 <| zz_iload_2 C dX10_lawCost_78 <| zpc 79 rfl <| ?_
      refine zy_callVJ C hR [_, _] (c8_goOn hX (by omega) ((dLw_ok hO.1 h3 h11).w sd) pX0 (Nat.zero_le _) hw2 hO.2.2.2.1 0 ⟨by omega, fun z => absurd z (by omega), fun z => absurd z (by omega)⟩ d (by omega) (show D.2.2.2 + d < 2 ^ 30 by omega)) lX10_198 rfl (tX_K_walk hX) (by decide) rfl ⟨zle rfl, zle rfl, zle rfl, zle rfl⟩ (zle rfl) dX10_lawCost_79 ?_
      intro v t' h3 hv; obtain ⟨rfl, ag2, hw3, rfl⟩ := hv
      refine zy_lreturn C hE (zle rfl) (zle rfl) dX10_lawCost_82 ?_
      refine ⟨⟨rfl, agc.tr ag2⟩, ?_⟩
      rw [show (dDays (dLw D n).1 (dLw D n).2.1 yP0 R 0 d (x0 (dLw D n) sd)).2.2.2.1.2.1 = 0 from dDays_cm rfl _ _ _ _, Nat.add_zero]
      rfl
    · rw [nI_leI (by omega) (by omega)] at c36
      refine zz_aload_0 C dX10_lawCost_39 <| zz_getR C fX10_41 (tX_K_X hX) (tX_R_walk hX) dX10_lawCost_40 <| zz_getR C fX10_172 (tX_K_walk hX) (tX_R_state hX) dX10_lawCost_43 <| zz_getR C fX10_120 (tS_K (tX_S87 hX)) (tS_R_rested (tX_S87 hX)) dX10_lawCost_46 <| zz_iload_3 C dX10_lawCost_49 <| zpc 50 rfl <| ?_
      have rk : zI hc 89 k = nI (D.2.2.1.2 k) := (e4 k (Nat.le_refl k)).2.trans (hw.1.2.2.2.1.2.1 k (show k < D.2.1.1.1 by omega)).2
      have rk2 := hrb k (by omega)
      refine zc_iaload C _ (tS_K_rested (tX_S87 hX)) (znI (by omega)) (by omega) dX10_lawCost_50 <| zz_iload_1 C dX10_lawCost_51 <| zpc 52 rfl <| ?_
      rw [rk]
      refine zz_icmp_lt C 67 dX10_lawCost_52 (by decide) (fun c52 => ?_) (fun c52 => ?_)
      · rw [nI_ltI (by omega) (by omega)] at c52
        refine zz_iinc_3 C _ (zle rfl) rfl dX10_lawCost_67 nI_s <| zz_goto C 28 dX10_lawCost_70 (by decide) <| zpc 28 rfl <| ?_
        first
        | (refine ih (by omega) hc e1 e2 (fun j hj => ?_) (fun j hj => e4 j (by omega))
           by_cases q : j = k
           · subst q
             show _ = nI (if n ≤ D.2.2.1.2 j then 0 else D.2.2.1.1 j) ∧ _ = nI (if n ≤ D.2.2.1.2 j then n else D.2.2.1.2 j)
             rw [if_neg (by omega), if_neg (by omega)]
             exact ⟨(e4 j (Nat.le_refl j)).1.trans (hw.1.2.2.2.1.2.1 j (show j < D.2.1.1.1 by omega)).1, rk⟩
           · exact e3 j (by omega))
        | (refine ih (by omega) _ (fun i j hi => ?_) e2 (fun j hj => ?_) (fun j hj => ?_)
           · show zI (zsI (zsI hc 88 k 0) 89 k (nI n)) i j = _
             rw [zI_sI, if_neg (by omega), zI_sI, if_neg (by omega)]; exact e1 i j hi
           · by_cases q : j = k
             · subst q
               show _ = nI (if n ≤ D.2.2.1.2 j then 0 else D.2.2.1.1 j) ∧ _ = nI (if n ≤ D.2.2.1.2 j then n else D.2.2.1.2 j)
               rw [if_pos (by omega), if_pos (by omega)]
               show zI (zsI (zsI hc 88 j 0) 89 j (nI n)) 88 j = _ ∧ zI (zsI (zsI hc 88 j 0) 89 j (nI n)) 89 j = _
               rw [zI_self, zI_sI, if_neg (by omega), zI_self]
               exact ⟨rfl, rfl⟩
             · show zI (zsI (zsI hc 88 k 0) 89 k (nI n)) 88 j = _ ∧ zI (zsI (zsI hc 88 k 0) 89 k (nI n)) 89 j = _
               rw [zI_sI, if_neg (by omega), zI_sI, if_neg (by omega), zI_sI, if_neg (by omega), zI_sI, if_neg (by omega)]
               exact e3 j (by omega)
           · show zI (zsI (zsI hc 88 k 0) 89 k (nI n)) 88 j = _ ∧ zI (zsI (zsI hc 88 k 0) 89 k (nI n)) 89 j = _
             rw [zI_sI, if_neg (by omega), zI_sI, if_neg (by omega), zI_sI, if_neg (by omega), zI_sI, if_neg (by omega)]
             exact e4 j (by omega))
      · rw [nI_ltI (by omega) (by omega)] at c52
        refine zz_aload_0 C dX10_lawCost_55 <| zz_getR C fX10_41 (tX_K_X hX) (tX_R_walk hX) dX10_lawCost_56 <| zz_getR C fX10_172 (tX_K_walk hX) (tX_R_state hX) dX10_lawCost_59 <| zz_iload_3 C dX10_lawCost_62 <| zz_iload_1 C dX10_lawCost_63 <| zpc 64 rfl <| ?_
        refine zf_callVV C hR [_, _] (c6_makeWhole (tX_S87 hX) k (by omega) _) lX10_313 rfl (tS_K (tX_S87 hX)) (by decide) rfl ⟨zle rfl, zle rfl, zle rfl, zle rfl⟩ (zle rfl) dX10_lawCost_64 ?_
        refine zz_iinc_3 C _ (zle rfl) rfl dX10_lawCost_67 nI_s <| zz_goto C 28 dX10_lawCost_70 (by decide) <| zpc 28 rfl <| ?_
        first
        | (refine ih (by omega) hc e1 e2 (fun j hj => ?_) (fun j hj => e4 j (by omega))
           by_cases q : j = k
           · subst q
             show _ = nI (if n ≤ D.2.2.1.2 j then 0 else D.2.2.1.1 j) ∧ _ = nI (if n ≤ D.2.2.1.2 j then n else D.2.2.1.2 j)
             rw [if_neg (by omega), if_neg (by omega)]
             exact ⟨(e4 j (Nat.le_refl j)).1.trans (hw.1.2.2.2.1.2.1 j (show j < D.2.1.1.1 by omega)).1, rk⟩
           · exact e3 j (by omega))
        | (refine ih (by omega) _ (fun i j hi => ?_) e2 (fun j hj => ?_) (fun j hj => ?_)
           · show zI (zsI (zsI hc 88 k 0) 89 k (nI n)) i j = _
             rw [zI_sI, if_neg (by omega), zI_sI, if_neg (by omega)]; exact e1 i j hi
           · by_cases q : j = k
             · subst q
               show _ = nI (if n ≤ D.2.2.1.2 j then 0 else D.2.2.1.1 j) ∧ _ = nI (if n ≤ D.2.2.1.2 j then n else D.2.2.1.2 j)
               rw [if_pos (by omega), if_pos (by omega)]
               show zI (zsI (zsI hc 88 j 0) 89 j (nI n)) 88 j = _ ∧ zI (zsI (zsI hc 88 j 0) 89 j (nI n)) 89 j = _
               rw [zI_self, zI_sI, if_neg (by omega), zI_self]
               exact ⟨rfl, rfl⟩
             · show zI (zsI (zsI hc 88 k 0) 89 k (nI n)) 88 j = _ ∧ zI (zsI (zsI hc 88 k 0) 89 k (nI n)) 89 j = _
               rw [zI_sI, if_neg (by omega), zI_sI, if_neg (by omega), zI_sI, if_neg (by omega), zI_sI, if_neg (by omega)]
               exact e3 j (by omega)
           · show zI (zsI (zsI hc 88 k 0) 89 k (nI n)) 88 j = _ ∧ zI (zsI (zsI hc 88 k 0) 89 k (nI n)) 89 j = _
             rw [zI_sI, if_neg (by omega), zI_sI, if_neg (by omega), zI_sI, if_neg (by omega), zI_sI, if_neg (by omega)]
             exact e4 j (by omega))
  refine zz_aload_0 C dX10_lawCost_0 <| zz_getR C fX10_41 (tX_K_X hX) (tX_R_walk hX) dX10_lawCost_1 <| zz_aload_0 C dX10_lawCost_4 <| zz_getR C fX10_19 (tX_K_X hX) (tX_R_land hX) dX10_lawCost_5 <| zz_aload_0 C dX10_lawCost_8 <| zz_getR C fX10_26 (tX_K_X hX) (tX_R_now hX) dX10_lawCost_9 <| zpc 12 rfl <| ?_
  refine zy_callVV C hR [_, _] (c8_beg hX hO hm sd) lX10_155 rfl (tX_K_walk hX) (by decide) rfl ⟨zle rfl, zle rfl, zle rfl, zle rfl⟩ (zle rfl) dX10_lawCost_12 ?_
  intro t' h' hv; obtain ⟨rfl, hX, ag, hw, hsn⟩ := hv
  refine zz_aload_0 C dX10_lawCost_15 <| zz_getR C fX10_41 (tX_K_X hX) (tX_R_walk hX) dX10_lawCost_16 <| zz_getR C fX10_234 (tX_K_walk hX) (tX_R_plan hX) dX10_lawCost_19 <| zz_iload_1 C dX10_lawCost_22 <| zy_putI C fX10_323 pX2_6 (tX_K_plan hX) dX10_lawCost_23 <| zz_iconst_0 C dX10_lawCost_26 <| zz_istore_3 C (zle rfl) rfl dX10_lawCost_27 <| zpc 28 rfl <| ?_
  refine lp hX (zsI h' 82 6 (nI n)) (ag.sI (by omega) (by omega)) ?_ 0 (by omega) _ (fun _ _ _ => rfl) (fun _ _ => rfl) (fun j hj => absurd hj (by omega)) (fun _ _ => ⟨rfl, rfl⟩)
  refine (hw.pl (by omega) hng (fun i k hi => by rw [zI_sI, if_neg (by omega)]) (fun _ _ => rfl) rfl rfl ?_ (fun z => by cases z) rfl rfl rfl)
  obtain ⟨⟨p0, p1, p2, p3⟩, p4, p5, p6, p7, p8⟩ := hw.1.2.2.1
  refine ⟨⟨?_, ?_, ?_, ?_⟩, ?_, ?_, zI_self _ _ _ _, ?_, ?_⟩ <;> rw [zI_sI, if_neg (by omega)] <;> assumption
theorem c10_law1 (hX : zTX t a c e) (hO : dOk D Mo R) (hm : cSn h a D Mo R) (sd : Int32) (n d : Nat) (h3 : 3 ≤ n) (h11 : n ≤ 11) (hd1 : 1 ≤ d) (hd : d ≤ 366) : zMet E b l yX10_law cX10_law 3 (some .long) 9 0 0 [.ref (b + 0), .int (nI n), .int (nI d)] t h (qJ (fun v t' h' => v = lN (dCo (dLw D n) yP0 R 0 d sd) ∧ cAsk t a h t' h')) := by
  refine zMet.of (ls := [some (.ref (b + 0)), some (.int (nI n)), some (.int (nI d))]) (by decide) (zle rfl) 0 rfl ?_
  intro G hlG C hR hE hin
  refine zz_iload_1 C dX10_law_0 <| zz_iconst_3 C dX10_law_1 <| zpc 2 rfl <| ?_
  refine zz_icmp_lt C 15 dX10_law_2 (by decide) (fun c2 => ?_) (fun c2 => ?_)
  · exact absurd c2 (nI_nlt (a := n) (b := 3) h3 (by omega))
  · refine zz_iload_1 C dX10_law_5 <| zz_bipush C 11 dX10_law_6 (by decide) <| zpc 8 rfl <| ?_
    refine zz_icmp_gt C 15 dX10_law_8 (by decide) (fun c8 => ?_) (fun c8 => ?_)
    · exact absurd c8 (nI_nlt (a := 11) (b := n) h11 (by omega))
    · refine zz_iconst_1 C dX10_law_11 <| zz_goto C 16 dX10_law_12 (by decide) <| zpc 16 rfl <| ?_
      refine zf_callSV C hR [_] (c10_demand1 _ (by decide)) lX10_76 rfl ⟨zle rfl, zle rfl, zle rfl, zle rfl⟩ (zle rfl) dX10_law_16 ?_
      refine zz_iload_2 C dX10_law_19 <| zpc 20 rfl <| ?_
      refine zf_callSV C hR [_] (c10_days1 d hd1 hd) lX10_192 rfl ⟨zle rfl, zle rfl, zle rfl, zle rfl⟩ (zle rfl) dX10_law_20 ?_
      refine zz_aload_0 C dX10_law_23 <| zz_iload_1 C dX10_law_24 <| zz_iload_2 C dX10_law_25 <| zpc 26 rfl <| ?_
      refine zy_callVJ C hR [_, _] (c10_lawCost hX hO hm sd n d h3 h11 hd) lX10_320 rfl (tX_K_X hX) (by decide) rfl ⟨zle rfl, zle rfl, zle rfl, zle rfl⟩ (zle rfl) dX10_law_26 ?_
      intro v t' h' hv; obtain ⟨k1, rfl⟩ := hv
      refine zy_lreturn C hE (zle rfl) (zle rfl) dX10_law_29 ?_
      exact ⟨rfl, k1.ask⟩
theorem cWk.nw {h : zH} {sd : Int32} {k : Nat} (hO : dOk D Mo R) (ha : a = 2 ∨ a = 36) (hsn : cSn h a D Mo R) (hk : k < Mo.1) (hm : cWk h a D.2.1.1.1 none D.1 D.2.1 yP0 (x0 D sd) D.2.1.1.2.2 R) : cWk (zsI (zsI (zsI h 82 5 (nI k)) 88 D.2.1.1.1 0) 89 D.2.1.1.1 (nI D.2.1.1.2.2)) a D.2.1.1.1 (some k) D.1 (dNw D Mo k).2.1 yP0 (x0 (dNw D Mo k) sd) D.2.1.1.2.2 R := by
  obtain ⟨⟨h1, h2, ⟨⟨p0, p1, p2, p3⟩, p4, p5, p6, p7, p8⟩, ⟨⟨s1, s2⟩, s3, s4, s5⟩, h5⟩, ⟨h6, h7, h8⟩⟩ := hm
  have hng := hO.1.1.2.1.2.2.1
  have hn := hO.2.2.1
  have hR3 := hO.2.2.2.1.1
  have hM4 := hO.2.2.2.2.1
  have q : ∀ i j, ¬ (i = 82 ∧ j = 5) → ¬ (i = 88 ∧ j = D.2.1.1.1) → ¬ (i = 89 ∧ j = D.2.1.1.1) → zI (zsI (zsI (zsI h 82 5 (nI k)) 88 D.2.1.1.1 0) 89 D.2.1.1.1 (nI D.2.1.1.2.2)) i j = zI h i j := fun i j z1 z2 z3 => by
    rw [zI_sI, if_neg z3, zI_sI, if_neg z2, zI_sI, if_neg z1]
  have ag : cAg 82 89 h (zsI (zsI (zsI h 82 5 (nI k)) 88 D.2.1.1.1 0) 89 D.2.1.1.1 (nI D.2.1.1.2.2)) := (((cAg.rf _).sI (by omega) (by omega)).sI (by omega) (by omega)).sI (by omega) (by omega)
  have rd : ∀ {i j : Nat} {v : Int32}, zI h i j = v → ¬ (i = 82 ∧ j = 5) → ¬ (i = 88 ∧ j = D.2.1.1.1) → ¬ (i = 89 ∧ j = D.2.1.1.1) → zI (zsI (zsI (zsI h 82 5 (nI k)) 88 D.2.1.1.1 0) 89 D.2.1.1.1 (nI D.2.1.1.2.2)) i j = v := fun e z1 z2 z3 => (q _ _ z1 z2 z3).trans e
  refine ⟨⟨h1.ag ag (by omega) hng, ⟨⟨hn, rfl, fun x z => by cases z; omega⟩, fun j hj i hi => ?_⟩, ⟨⟨rd p0 (by omega) (by omega) (by omega), rd p1 (by omega) (by omega) (by omega), rd p2 (by omega) (by omega) (by omega), rd p3 (by omega) (by omega) (by omega)⟩, rd p4 (by omega) (by omega) (by omega), ?_, rd p6 (by omega) (by omega) (by omega), rd p7 (by omega) (by omega) (by omega), rd p8 (by omega) (by omega) (by omega)⟩, ⟨⟨rd s1 (by omega) (by omega) (by omega), rd s2 (by omega) (by omega) (by omega)⟩, fun j hj => ?_, fun j h1 h2 => ?_, fun j hj => rd (s5 j hj) (by omega) (by omega) (by omega)⟩, rd h5 (by omega) (by omega) (by omega)⟩, h6, ⟨rd h7.1 (by omega) (by omega) (by omega), rd h7.2.1 (by omega) (by omega) (by omega), rd h7.2.2 (by omega) (by omega) (by omega)⟩, fun z => by cases z⟩
  · have hj : j < D.2.1.1.1 + 1 := hj
    show zI _ (if j < D.2.1.1.1 then _ else _) i = nI (if j = D.2.1.1.1 then Mo.2 k i else D.2.1.2 j i)
    by_cases z : j = D.2.1.1.1
    · rw [if_pos z, if_neg (by omega)]
      refine rd ?_ ?_ ?_ ?_
      · exact hsn.2.2.1.2.2 k hk i hi
      all_goals omega
    · rw [if_neg z, if_pos (by omega)]
      refine rd ?_ ?_ ?_ ?_
      · exact h2.2 j (by omega) i hi
      all_goals omega
  · rw [zI_sI, if_neg (by omega), zI_sI, if_neg (by omega), zI_self]; rfl
  · have hj : j < D.2.1.1.1 + 1 := hj
    show _ = nI (nUp D.2.2.1.1 D.2.1.1.1 0 j) ∧ _ = nI (nUp D.2.2.1.2 D.2.1.1.1 D.2.1.1.2.2 j)
    unfold nUp
    by_cases z : j = D.2.1.1.1
    · rw [if_pos z, if_pos z, z]
      exact ⟨(by rw [zI_sI, if_neg (by omega), zI_self]; rfl), zI_self _ _ _ _⟩
    · rw [if_neg z, if_neg z]
      exact ⟨rd (s3 j (show j < D.2.1.1.1 by omega)).1 (by omega) (by omega) (by omega), rd (s3 j (show j < D.2.1.1.1 by omega)).2 (by omega) (by omega) (by omega)⟩
  · have h1 : D.2.1.1.1 + 1 ≤ j := h1
    exact ⟨rd (s4 j (show D.2.1.1.1 ≤ j by omega) h2).1 (by omega) (by omega) (by omega), rd (s4 j (show D.2.1.1.1 ≤ j by omega) h2).2 (by omega) (by omega) (by omega)⟩
theorem c10_newCost (hX : zTX t a c e) (hO : dOk D Mo R) (hm : cSn h a D Mo R) (sd : Int32) (k d : Nat) (hk : k < Mo.1) (hd : d ≤ 366) : zMet E b l yX10_newCost cX10_newCost 3 (some .long) 8 0 0 [.ref (b + 0), .int (nI k), .int (nI d)] t h (qJ (fun v t' h' => cCo t a h t' h' ∧ v = lN (dCo (dNw D Mo k) yP0 R 0 d sd))) := by
  have ha := tX_a2 hX
  have htd := hO.1.2.2.2.2
  have hng := hO.1.1.2.1.2.2.1
  have hn := hO.2.2.1
  have hR3 := hO.2.2.2.1.1
  have hM4 := hO.2.2.2.2.1
  refine zMet.of (ls := [some (.ref (b + 0)), some (.int (nI k)), some (.int (nI d))]) (by decide) (zle rfl) 0 rfl ?_
  intro G hlG C hR hE hin
  refine zz_aload_0 C dX10_newCost_0 <| zz_getR C fX10_41 (tX_K_X hX) (tX_R_walk hX) dX10_newCost_1 <| zz_aload_0 C dX10_newCost_4 <| zz_getR C fX10_19 (tX_K_X hX) (tX_R_land hX) dX10_newCost_5 <| zz_aload_0 C dX10_newCost_8 <| zz_getR C fX10_26 (tX_K_X hX) (tX_R_now hX) dX10_newCost_9 <| zpc 12 rfl <| ?_
  refine zy_callVV C hR [_, _] (c8_beg hX hO hm sd) lX10_155 rfl (tX_K_walk hX) (by decide) rfl ⟨zle rfl, zle rfl, zle rfl, zle rfl⟩ (zle rfl) dX10_newCost_12 ?_
  intro t' h2 hv; obtain ⟨rfl, hX, ag, hw, hsn⟩ := hv; have hr5 : zI (zsI h2 82 5 (nI k)) a 5 = nI D.2.1.1.2.2 := (by rw [zI_sI, if_neg (by omega)]; exact hsn.2.2.1.2.1); have hr1 : zI (zsI h2 82 5 (nI k)) a 1 = nI D.2.1.1.1 := (by rw [zI_sI, if_neg (by omega)]; exact hsn.1.1.2.1); have hw2 := hw.nw hO ha hsn hk
  refine zz_aload_0 C dX10_newCost_15 <| zz_getR C fX10_41 (tX_K_X hX) (tX_R_walk hX) dX10_newCost_16 <| zz_getR C fX10_234 (tX_K_walk hX) (tX_R_plan hX) dX10_newCost_19 <| zz_iload_1 C dX10_newCost_22 <| zy_putI C fX10_310 pX2_5 (tX_K_plan hX) dX10_newCost_23 <| zz_aload_0 C dX10_newCost_26 <| zz_getR C fX10_41 (tX_K_X hX) (tX_R_walk hX) dX10_newCost_27 <| zz_getR C fX10_172 (tX_K_walk hX) (tX_R_state hX) dX10_newCost_30 <| zz_aload_0 C dX10_newCost_33 <| zz_getR C fX10_19 (tX_K_X hX) (tX_R_land hX) dX10_newCost_34 <| zz_getI C fX10_89 (tL_K (tX_La hX)) dX10_newCost_37 <| zz_aload_0 C dX10_newCost_40 <| zz_getR C fX10_19 (tX_K_X hX) (tX_R_land hX) dX10_newCost_41 <| zpc 44 rfl <| ?_
  rw [hr1]
  refine zz_getI C fX10_63 (tL_K (tX_La hX)) dX10_newCost_44 <| zpc 47 rfl <| ?_
  rw [hr5]
  refine zf_callVV C hR [_, _] (c6_makeWhole (tX_S87 hX) D.2.1.1.1 (by omega) _) lX10_313 rfl (tS_K (tX_S87 hX)) (by decide) rfl ⟨zle rfl, zle rfl, zle rfl, zle rfl⟩ (zle rfl) dX10_newCost_47 ?_
  refine zz_aload_0 C dX10_newCost_50 <| zz_getR C fX10_41 (tX_K_X hX) (tX_R_walk hX) dX10_newCost_51 <| zz_iconst_0 C dX10_newCost_54 <| zz_iload_2 C dX10_newCost_55 <| zpc 56 rfl <| ?_
  refine zy_callVJ C hR [_, _] (c8_goOn hX (by omega) ((dNw_ok hO.1 hn hO.2.2.2.2 hk).w sd) pX0 (Nat.zero_le _) hw2 hO.2.2.2.1 0 ⟨by omega, fun z => absurd z (by omega), fun z => absurd z (by omega)⟩ d (by omega) (show D.2.2.2 + d < 2 ^ 30 by omega)) lX10_198 rfl (tX_K_walk hX) (by decide) rfl ⟨zle rfl, zle rfl, zle rfl, zle rfl⟩ (zle rfl) dX10_newCost_56 ?_
  intro v t' h3 hv; obtain ⟨rfl, ag2, hw3, rfl⟩ := hv
  refine zy_lreturn C hE (zle rfl) (zle rfl) dX10_newCost_59 ?_
  refine ⟨⟨rfl, ag.tr (((((cAg.rf _).sI (by omega) (by omega)).sI (by omega) (by omega)).sI (by omega) (by omega)).tr ag2)⟩, ?_⟩
  rw [show (dDays (dNw D Mo k).1 (dNw D Mo k).2.1 yP0 R 0 d (x0 (dNw D Mo k) sd)).2.2.2.1.2.1 = 0 from dDays_cm rfl _ _ _ _, Nat.add_zero]
  rfl
theorem c10_more1 (hX : zTX t a c e) (hO : dOk D Mo R) (hm : cSn h a D Mo R) (sd : Int32) (k d : Nat) (hk : k < Mo.1) (hd1 : 1 ≤ d) (hd : d ≤ 366) : zMet E b l yX10_more cX10_more 3 (some .long) 9 0 0 [.ref (b + 0), .int (nI k), .int (nI d)] t h (qJ (fun v t' h' => v = lN (dCo D yP0 R 0 d sd) - lN (dCo (dNw D Mo k) yP0 R 0 d sd) ∧ cAsk t a h t' h')) := by
  have hM4 := hO.2.2.2.2.1
  refine zMet.of (ls := [some (.ref (b + 0)), some (.int (nI k)), some (.int (nI d))]) (by decide) (zle rfl) 0 rfl ?_
  intro G hlG C hR hE hin
  refine zz_iload_1 C dX10_more_0 <| zpc 1 rfl <| ?_
  refine zz_if_lt C 19 dX10_more_1 (by decide) (fun c1 => ?_) (fun c1 => ?_)
  · exact absurd c1 (nI_pos (by omega))
  · refine zz_iload_1 C dX10_more_4 <| zz_aload_0 C dX10_more_5 <| zz_getR C fX10_19 (tX_K_X hX) (tX_R_land hX) dX10_more_6 <| zz_getI C fX10_98 (tL_K (tX_La hX)) dX10_more_9 <| zpc 12 rfl <| ?_
    rw [hm.2.2.1.1]
    refine zz_icmp_ge C 19 dX10_more_12 (by decide) (fun c12 => ?_) (fun c12 => ?_)
    · rw [nI_leI (by omega) (by omega)] at c12; omega
    · refine zz_iconst_1 C dX10_more_15 <| zz_goto C 20 dX10_more_16 (by decide) <| zpc 20 rfl <| ?_
      refine zf_callSV C hR [_] (c10_demand1 _ (by decide)) lX10_76 rfl ⟨zle rfl, zle rfl, zle rfl, zle rfl⟩ (zle rfl) dX10_more_20 ?_
      refine zz_iload_2 C dX10_more_23 <| zpc 24 rfl <| ?_
      refine zf_callSV C hR [_] (c10_days1 d hd1 hd) lX10_192 rfl ⟨zle rfl, zle rfl, zle rfl, zle rfl⟩ (zle rfl) dX10_more_24 ?_
      refine zz_aload_0 C dX10_more_27 <| zz_iload_2 C dX10_more_28 <| zpc 29 rfl <| ?_
      refine zy_callVJ C hR [_] (c10_openCost hX hO hm sd d hd) lX10_271 rfl (tX_K_X hX) (by decide) rfl ⟨zle rfl, zle rfl, zle rfl, zle rfl⟩ (zle rfl) dX10_more_29 ?_
      intro v t' h' hv; obtain ⟨k1, rfl⟩ := hv; have hm := k1.sn hX hO hm; have hX := k1.X hX
      refine zz_aload_0 C dX10_more_32 <| zz_iload_1 C dX10_more_33 <| zz_iload_2 C dX10_more_34 <| zpc 35 rfl <| ?_
      refine zy_callVJ C hR [_, _] (c10_newCost hX hO hm sd k d hk hd) lX10_307 rfl (tX_K_X hX) (by decide) rfl ⟨zle rfl, zle rfl, zle rfl, zle rfl⟩ (zle rfl) dX10_more_35 ?_
      intro v t' h2 hv; obtain ⟨k2, rfl⟩ := hv; have hX := k2.X hX
      refine zz_lsub C dX10_more_38 <| zpc 39 rfl <| ?_
      refine zy_lreturn C hE (zle rfl) (zle rfl) dX10_more_39 ?_
      exact ⟨rfl, (k1.tr k2).ask⟩
theorem c10_more0 (hX : zTX t a c e) (hlt : l.stackTraces = false) (hf : t.1.2 = false) (hO : dOk D Mo R) (hm : cSn h a D Mo R) (x d : Int32) (hno : ¬ ((∃ k, k < Mo.1 ∧ x = nI k) ∧ ∃ k, 1 ≤ k ∧ k ≤ 366 ∧ d = nI k)) : zMetX E b l yX10_more cX10_more 3 (some .long) 9 1 6 [.ref (b + 0), .int x, .int d] t h xA := by
  have hM4 := hO.2.2.2.2.1
  refine zMetX.of (ls := [some (.ref (b + 0)), some (.int x), some (.int d)]) hlt (by decide) (zle rfl) 0 rfl ?_
  intro G hlG C hR hE
  rw [← hlG] at hlt
  refine zz_iload_1 C dX10_more_0 <| zpc 1 rfl <| ?_
  refine zz_if_lt C 19 dX10_more_1 (by decide) (fun c1 => ?_) (fun c1 => ?_)
  · refine zz_iconst_0 C dX10_more_19 <| zpc 20 rfl <| ?_
    exact zx_callS C hR hE [_] (c10_demand0 hlt hf) lX10_76 rfl ⟨zle rfl, zle rfl, zle rfl, zle rfl⟩ (zle rfl) (zle rfl) (zle rfl) dX10_more_20
  · refine zz_iload_1 C dX10_more_4 <| zz_aload_0 C dX10_more_5 <| zz_getR C fX10_19 (tX_K_X hX) (tX_R_land hX) dX10_more_6 <| zz_getI C fX10_98 (tL_K (tX_La hX)) dX10_more_9 <| zpc 12 rfl <| ?_
    rw [hm.2.2.1.1]
    refine zz_icmp_ge C 19 dX10_more_12 (by decide) (fun c12 => ?_) (fun c12 => ?_)
    · refine zz_iconst_0 C dX10_more_19 <| zpc 20 rfl <| ?_
      exact zx_callS C hR hE [_] (c10_demand0 hlt hf) lX10_76 rfl ⟨zle rfl, zle rfl, zle rfl, zle rfl⟩ (zle rfl) (zle rfl) (zle rfl) dX10_more_20
    · refine zz_iconst_1 C dX10_more_15 <| zz_goto C 20 dX10_more_16 (by decide) <| zpc 20 rfl <| ?_
      refine zf_callSV C hR [_] (c10_demand1 _ (by decide)) lX10_76 rfl ⟨zle rfl, zle rfl, zle rfl, zle rfl⟩ (zle rfl) dX10_more_20 ?_
      refine zz_iload_2 C dX10_more_23 <| zpc 24 rfl <| ?_
      exact zx_callS C hR hE [_] (c10_days0 hlt hf d (fun z => hno ⟨(ixOk (by omega)).mp ⟨c1, Int32.not_le.mp c12⟩, z⟩)) lX10_192 rfl ⟨zle rfl, zle rfl, zle rfl, zle rfl⟩ (zle rfl) (zle rfl) (zle rfl) dX10_more_24
end CE
