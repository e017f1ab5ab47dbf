/-! ===== the reference: its small methods ===== -/
theorem c_in {E : zE} {b : Nat} {l : Launch} {t : zT} {h : zH} (v lo hi : Int32) : zMet E b l yX11_in cX11_in 3 (some .boolean) 1 0 0 [.int v, .int lo, .int hi] t h (qIf (zb (lo ≤ v ∧ v ≤ hi)) t h) := by
  refine zMet.of (ls := [some (.int v), some (.int lo), some (.int hi)]) (by decide) (zle rfl) 0 rfl ?_
  intro G hlG C hR hE hin
  refine zz_iload_0 C dX11_in_0 <| zz_iload_1 C dX11_in_1 <| zpc 2 rfl <| ?_
  refine zz_icmp_lt C 14 dX11_in_2 (by decide) (fun c2 => ?_) (fun c2 => ?_)
  · refine zz_iconst_0 C dX11_in_14 <| zpc 15 rfl <| ?_
    exact zf_zreturn C hE (zle rfl) (zle rfl) dX11_in_15 (by decide) (by unfold zb; grind) rfl rfl
  · refine zz_iload_0 C dX11_in_5 <| zz_iload_2 C dX11_in_6 <| zpc 7 rfl <| ?_
    refine zz_icmp_gt C 14 dX11_in_7 (by decide) (fun c7 => ?_) (fun c7 => ?_)
    · refine zz_iconst_0 C dX11_in_14 <| zpc 15 rfl <| ?_
      exact zf_zreturn C hE (zle rfl) (zle rfl) dX11_in_15 (by decide) (by unfold zb; grind) rfl rfl
    · refine zz_iconst_1 C dX11_in_10 <| zz_goto C 15 dX11_in_11 (by decide) <| zpc 15 rfl <| ?_
      exact zf_zreturn C hE (zle rfl) (zle rfl) dX11_in_15 (by decide) (by unfold zb; grind) rfl rfl
theorem c_areDays {E : zE} {b : Nat} {l : Launch} {t : zT} {h : zH} (d : Int32) : zMet E b l yX11_areDays cX11_areDays 1 (some .boolean) 2 0 0 [.int d] t h (qIf (zb (1 ≤ d ∧ d ≤ 366)) t h) := by
  refine zMet.of (ls := [some (.int d)]) (by decide) (zle rfl) 0 rfl ?_
  intro G hlG C hR hE hin
  refine zz_iload_0 C dX11_areDays_0 <| zz_iconst_1 C dX11_areDays_1 <| zz_sipush C 366 dX11_areDays_2 (by decide) <| zpc 5 rfl <| ?_
  refine zf_callSI C hR [_, _, _] (c_in _ _ _) lX11_138 rfl ⟨zle rfl, zle rfl, zle rfl, zle rfl⟩ (zle rfl) dX11_areDays_5 ?_
  exact zf_zreturn C hE (zle rfl) (zle rfl) dX11_areDays_8 (by exact zb_01 _) rfl rfl rfl
theorem c_isRule {E : zE} {b : Nat} {l : Launch} {t : zT} {h : zH} (hT : zTM t) (r d : Int32) : zMet E b l yX11_isRule cX11_isRule 3 (some .boolean) 3 0 0 [.ref (b + 157), .int r, .int d] t h (qIf (zb ((0 ≤ r ∧ r ≤ 3) ∧ 1 ≤ d ∧ d ≤ 366)) t h) := by
  refine zMet.of (ls := [some (.ref (b + 157)), some (.int r), some (.int d)]) (by decide) (zle rfl) 0 rfl ?_
  intro G hlG C hR hE hin
  refine zz_iload_1 C dX11_isRule_0 <| zz_iconst_0 C dX11_isRule_1 <| zz_iconst_3 C dX11_isRule_2 <| zpc 3 rfl <| ?_
  refine zf_callSI C hR [_, _, _] (c_in _ _ _) lX11_138 rfl ⟨zle rfl, zle rfl, zle rfl, zle rfl⟩ (zle rfl) dX11_isRule_3 ?_
  refine zz_if_eq C 20 dX11_isRule_6 (by decide) (fun c6 => ?_) (fun c6 => ?_)
  · refine zz_iconst_0 C dX11_isRule_20 <| zpc 21 rfl <| ?_
    exact zf_zreturn C hE (zle rfl) (zle rfl) dX11_isRule_21 (by decide) (by unfold zb at *; grind) rfl rfl
  · refine zz_iload_2 C dX11_isRule_9 <| zpc 10 rfl <| ?_
    refine zf_callSI C hR [_] (c_areDays _) lX11_299 rfl ⟨zle rfl, zle rfl, zle rfl, zle rfl⟩ (zle rfl) dX11_isRule_10 ?_
    refine zz_if_eq C 20 dX11_isRule_13 (by decide) (fun c13 => ?_) (fun c13 => ?_)
    · refine zz_iconst_0 C dX11_isRule_20 <| zpc 21 rfl <| ?_
      exact zf_zreturn C hE (zle rfl) (zle rfl) dX11_isRule_21 (by decide) (by unfold zb at *; grind) rfl rfl
    · refine zz_iconst_1 C dX11_isRule_16 <| zz_goto C 21 dX11_isRule_17 (by decide) <| zpc 21 rfl <| ?_
      exact zf_zreturn C hE (zle rfl) (zle rfl) dX11_isRule_21 (by decide) (by unfold zb at *; grind) rfl rfl
theorem c_thrown {E : zE} {b : Nat} {l : Launch} {t : zT} {h : zH} (hT : zTM t) : zMet E b l yX11_thrown cX11_thrown 1 (some .int) 1 0 0 [.ref (b + 157)] t h (qIf (zI h 157 0) t h) := by
  refine zMet.of (ls := [some (.ref (b + 157))]) (by decide) (zle rfl) 0 rfl ?_
  intro G hlG C hR hE hin
  refine zz_aload_0 C dX11_thrown_0 <| zz_getI C fX11_104 (tM_K hT) dX11_thrown_1 <| zpc 4 rfl <| ?_
  exact zf_ireturn C hE (zle rfl) (zle rfl) dX11_thrown_4 rfl rfl rfl
/-- bad(is, what), where nothing is thrown yet -/
theorem c_bad1 {E : zE} {b : Nat} {l : Launch} {t : zT} {h : zH} (hT : zTM t) (w : Int32) (hw : ¬ w = 0) (h0 : zI h 157 0 = 0) : zMet E b l yX11_bad cX11_bad 3 (some .boolean) 1 0 0 [.ref (b + 157), .int 1, .int w] t h (qIf 1 t (zsI h 157 0 w)) := by
  refine zMet.of (ls := [some (.ref (b + 157)), some (.int 1), some (.int w)]) (by decide) (zle rfl) 0 rfl ?_
  intro G hlG C hR hE hin
  refine zz_iload_1 C dX11_bad_0 <| zpc 1 rfl <| ?_
  refine zz_if_eq C 16 dX11_bad_1 (by decide) (fun c1 => ?_) (fun c1 => ?_)
  · exact absurd c1 (by decide)
  · refine zz_aload_0 C dX11_bad_4 <| zz_getI C fX11_104 (tM_K hT) dX11_bad_5 <| zpc 8 rfl <| ?_
    refine zz_if_ne C 16 dX11_bad_8 (by decide) (fun c8 => ?_) (fun c8 => ?_)
    · exact absurd h0 c8
    · refine zz_aload_0 C dX11_bad_11 <| zz_iload_2 C dX11_bad_12 <| zy_putI C fX11_104 pX11_0 (tM_K hT) dX11_bad_13 <| zz_aload_0 C dX11_bad_16 <| zz_getI C fX11_104 (tM_K hT) dX11_bad_17 <| zpc 20 rfl <| ?_
      refine zz_if_eq C 27 dX11_bad_20 (by decide) (fun c20 => ?_) (fun c20 => ?_)
      · rw [zI_self] at c20; exact absurd c20 hw
      · refine zz_iconst_1 C dX11_bad_23 <| zz_goto C 28 dX11_bad_24 (by decide) <| zpc 28 rfl <| ?_
        exact zf_zreturn C hE (zle rfl) (zle rfl) dX11_bad_28 (by decide) rfl rfl rfl
theorem c_bad0 {E : zE} {b : Nat} {l : Launch} {t : zT} {h : zH} (hT : zTM t) (w : Int32) (hw : ¬ w = 0) (h0 : zI h 157 0 = 0) : zMet E b l yX11_bad cX11_bad 3 (some .boolean) 1 0 0 [.ref (b + 157), .int 0, .int w] t h (qIf 0 t h) := by
  refine zMet.of (ls := [some (.ref (b + 157)), some (.int 0), some (.int w)]) (by decide) (zle rfl) 0 rfl ?_
  intro G hlG C hR hE hin
  refine zz_iload_1 C dX11_bad_0 <| zpc 1 rfl <| ?_
  refine zz_if_eq C 16 dX11_bad_1 (by decide) (fun c1 => ?_) (fun c1 => ?_)
  · refine zz_aload_0 C dX11_bad_16 <| zz_getI C fX11_104 (tM_K hT) dX11_bad_17 <| zpc 20 rfl <| ?_
    refine zz_if_eq C 27 dX11_bad_20 (by decide) (fun c20 => ?_) (fun c20 => ?_)
    · refine zz_iconst_0 C dX11_bad_27 <| zpc 28 rfl <| ?_
      exact zf_zreturn C hE (zle rfl) (zle rfl) dX11_bad_28 (by decide) rfl rfl rfl
    · exact absurd h0 c20
  · exact absurd rfl c1
theorem c_wrong0 {E : zE} {b : Nat} {l : Launch} {t : zT} {h : zH} (hT : zTM t) (w a : Int32) (h0 : zI h 157 5 = 0) : zMet E b l yX11_wrong cX11_wrong 3 none 1 0 0 [.ref (b + 157), .int w, .int a] t h (qVf t (zsI (zsI h 157 5 w) 157 6 a)) := by
  refine zMet.of (ls := [some (.ref (b + 157)), some (.int w), some (.int a)]) (by decide) (zle rfl) 0 rfl ?_
  intro G hlG C hR hE hin
  refine zz_aload_0 C dX11_wrong_0 <| zz_getI C fX11_120 (tM_K hT) dX11_wrong_1 <| zpc 4 rfl <| ?_
  refine zz_if_ne C 17 dX11_wrong_4 (by decide) (fun c4 => ?_) (fun c4 => ?_)
  · exact absurd h0 c4
  · refine zz_aload_0 C dX11_wrong_7 <| zz_iload_1 C dX11_wrong_8 <| zy_putI C fX11_120 pX11_5 (tM_K hT) dX11_wrong_9 <| zz_aload_0 C dX11_wrong_12 <| zz_iload_2 C dX11_wrong_13 <| zy_putI C fX11_123 pX11_6 (tM_K hT) dX11_wrong_14 <| zpc 17 rfl <| ?_
    exact zf_return C hE (zle rfl) (zle rfl) dX11_wrong_17 rfl rfl
theorem c_wrong1 {E : zE} {b : Nat} {l : Launch} {t : zT} {h : zH} (hT : zTM t) (w a : Int32) (h0 : ¬ zI h 157 5 = 0) : zMet E b l yX11_wrong cX11_wrong 3 none 1 0 0 [.ref (b + 157), .int w, .int a] t h (qVf t h) := by
  refine zMet.of (ls := [some (.ref (b + 157)), some (.int w), some (.int a)]) (by decide) (zle rfl) 0 rfl ?_
  intro G hlG C hR hE hin
  refine zz_aload_0 C dX11_wrong_0 <| zz_getI C fX11_120 (tM_K hT) dX11_wrong_1 <| zpc 4 rfl <| ?_
  refine zz_if_ne C 17 dX11_wrong_4 (by decide) (fun c4 => ?_) (fun c4 => ?_)
  · exact zf_return C hE (zle rfl) (zle rfl) dX11_wrong_17 rfl rfl
  · exact absurd c4 h0
theorem c_isDigit {E : zE} {b : Nat} {l : Launch} {t : zT} {h : zH} (v : Int32) : zMet E b l yX11_isDigit cX11_isDigit 1 (some .boolean) 1 0 0 [.int v] t h (qIf (zb (48 ≤ v ∧ v ≤ 57)) t h) := by
  refine zMet.of (ls := [some (.int v)]) (by decide) (zle rfl) 0 rfl ?_
  intro G hlG C hR hE hin
  refine zz_iload_0 C dX11_isDigit_0 <| zz_bipush C 48 dX11_isDigit_1 (by decide) <| zpc 3 rfl <| ?_
  refine zz_icmp_lt C 16 dX11_isDigit_3 (by decide) (fun c3 => ?_) (fun c3 => ?_)
  · refine zz_iconst_0 C dX11_isDigit_16 <| zpc 17 rfl <| ?_
    exact zf_zreturn C hE (zle rfl) (zle rfl) dX11_isDigit_17 (by decide) (by unfold zb; grind) rfl rfl
  · refine zz_iload_0 C dX11_isDigit_6 <| zz_bipush C 57 dX11_isDigit_7 (by decide) <| zpc 9 rfl <| ?_
    refine zz_icmp_gt C 16 dX11_isDigit_9 (by decide) (fun c9 => ?_) (fun c9 => ?_)
    · refine zz_iconst_0 C dX11_isDigit_16 <| zpc 17 rfl <| ?_
      exact zf_zreturn C hE (zle rfl) (zle rfl) dX11_isDigit_17 (by decide) (by unfold zb; grind) rfl rfl
    · refine zz_iconst_1 C dX11_isDigit_12 <| zz_goto C 17 dX11_isDigit_13 (by decide) <| zpc 17 rfl <| ?_
      exact zf_zreturn C hE (zle rfl) (zle rfl) dX11_isDigit_17 (by decide) (by unfold zb; grind) rfl rfl
theorem c_mostOf {E : zE} {b : Nat} {l : Launch} {t : zT} {h : zH} (k : Int32) : zMet E b l yX11_mostOf cX11_mostOf 1 (some .int) 1 0 0 [.int k] t h (qIf (if k = 1 then 10 else if k = 2 then 4 else if k = 3 then 14 else 8) t h) := by
  refine zMet.of (ls := [some (.int k)]) (by decide) (zle rfl) 0 rfl ?_
  intro G hlG C hR hE hin
  refine zz_iload_0 C dX11_mostOf_0 <| zz_iconst_1 C dX11_mostOf_1 <| zpc 2 rfl <| ?_
  refine zz_icmp_ne C 10 dX11_mostOf_2 (by decide) (fun c2 => ?_) (fun c2 => ?_)
  · refine zz_iload_0 C dX11_mostOf_10 <| zz_iconst_2 C dX11_mostOf_11 <| zpc 12 rfl <| ?_
    refine zz_icmp_ne C 19 dX11_mostOf_12 (by decide) (fun c12 => ?_) (fun c12 => ?_)
    · refine zz_iload_0 C dX11_mostOf_19 <| zz_iconst_3 C dX11_mostOf_20 <| zpc 21 rfl <| ?_
      refine zz_icmp_ne C 29 dX11_mostOf_21 (by decide) (fun c21 => ?_) (fun c21 => ?_)
      · refine zz_bipush C 8 dX11_mostOf_29 (by decide) <| zpc 31 rfl <| ?_
        exact zf_ireturn C hE (zle rfl) (zle rfl) dX11_mostOf_31 (by simp_all) rfl rfl
      · refine zz_bipush C 14 dX11_mostOf_24 (by decide) <| zz_goto C 31 dX11_mostOf_26 (by decide) <| zpc 31 rfl <| ?_
        exact zf_ireturn C hE (zle rfl) (zle rfl) dX11_mostOf_31 (by simp_all) rfl rfl
    · refine zz_iconst_4 C dX11_mostOf_15 <| zz_goto C 31 dX11_mostOf_16 (by decide) <| zpc 31 rfl <| ?_
      exact zf_ireturn C hE (zle rfl) (zle rfl) dX11_mostOf_31 (by simp_all) rfl rfl
  · refine zz_bipush C 10 dX11_mostOf_5 (by decide) <| zz_goto C 31 dX11_mostOf_7 (by decide) <| zpc 31 rfl <| ?_
    exact zf_ireturn C hE (zle rfl) (zle rfl) dX11_mostOf_31 (by simp_all) rfl rfl
theorem c_isRoad {E : zE} {b : Nat} {l : Launch} {t : zT} {h : zH} (hT : zTM t) (k : Int32) : zMet E b l yX11_isRoad cX11_isRoad 2 (some .boolean) 2 0 0 [.ref (b + 157), .int k] t h (qIf (zb (0 ≤ k ∧ k ≤ zI h 160 1 - 1)) t h) := by
  refine zMet.of (ls := [some (.ref (b + 157)), some (.int k)]) (by decide) (zle rfl) 0 rfl ?_
  intro G hlG C hR hE hin
  refine zz_iload_1 C dX11_isRoad_0 <| zz_iconst_0 C dX11_isRoad_1 <| zz_aload_0 C dX11_isRoad_2 <| zz_getR C fX11_20 (tM_K hT) (tM_R_told hT) dX11_isRoad_3 <| zz_iconst_1 C dX11_isRoad_6 <| zc_iaload C 1 (tM_K_told hT) (zlit _ (by decide)) (by decide) dX11_isRoad_7 <| zz_iconst_1 C dX11_isRoad_8 <| zz_isub C dX11_isRoad_9 <| zpc 10 rfl <| ?_
  refine zf_callSI C hR [_, _, _] (c_in _ _ _) lX11_138 rfl ⟨zle rfl, zle rfl, zle rfl, zle rfl⟩ (zle rfl) dX11_isRoad_10 ?_
  exact zf_zreturn C hE (zle rfl) (zle rfl) dX11_isRoad_13 (by exact zb_01 _) rfl rfl rfl
theorem c_isGoing {E : zE} {b : Nat} {l : Launch} {t : zT} {h : zH} (hT : zTM t) (k : Int32) : zMet E b l yX11_isGoing cX11_isGoing 2 (some .boolean) 2 0 0 [.ref (b + 157), .int k] t h (qIf (zb (0 ≤ k ∧ k ≤ zI h 160 3 - 1)) t h) := by
  refine zMet.of (ls := [some (.ref (b + 157)), some (.int k)]) (by decide) (zle rfl) 0 rfl ?_
  intro G hlG C hR hE hin
  refine zz_iload_1 C dX11_isGoing_0 <| zz_iconst_0 C dX11_isGoing_1 <| zz_aload_0 C dX11_isGoing_2 <| zz_getR C fX11_20 (tM_K hT) (tM_R_told hT) dX11_isGoing_3 <| zz_iconst_3 C dX11_isGoing_6 <| zc_iaload C 3 (tM_K_told hT) (zlit _ (by decide)) (by decide) dX11_isGoing_7 <| zz_iconst_1 C dX11_isGoing_8 <| zz_isub C dX11_isGoing_9 <| zpc 10 rfl <| ?_
  refine zf_callSI C hR [_, _, _] (c_in _ _ _) lX11_138 rfl ⟨zle rfl, zle rfl, zle rfl, zle rfl⟩ (zle rfl) dX11_isGoing_10 ?_
  exact zf_zreturn C hE (zle rfl) (zle rfl) dX11_isGoing_13 (by exact zb_01 _) rfl rfl rfl
theorem c_areRoads {E : zE} {b : Nat} {l : Launch} {t : zT} {h : zH} (hT : zTM t) (s : Int32) : zMet E b l yX11_areRoads cX11_areRoads 2 (some .boolean) 2 0 0 [.ref (b + 157), .int s] t h (qIf (zb (0 ≤ s ∧ s ≤ 1 <<< (zI h 160 1 &&& 31) - 1)) t h) := by
  refine zMet.of (ls := [some (.ref (b + 157)), some (.int s)]) (by decide) (zle rfl) 0 rfl ?_
  intro G hlG C hR hE hin
  refine zz_iload_1 C dX11_areRoads_0 <| zz_iconst_0 C dX11_areRoads_1 <| zz_iconst_1 C dX11_areRoads_2 <| zz_aload_0 C dX11_areRoads_3 <| zz_getR C fX11_20 (tM_K hT) (tM_R_told hT) dX11_areRoads_4 <| zz_iconst_1 C dX11_areRoads_7 <| zc_iaload C 1 (tM_K_told hT) (zlit _ (by decide)) (by decide) dX11_areRoads_8 <| zz_ishl C dX11_areRoads_9 <| zz_iconst_1 C dX11_areRoads_10 <| zz_isub C dX11_areRoads_11 <| zpc 12 rfl <| ?_
  refine zf_callSI C hR [_, _, _] (c_in _ _ _) lX11_138 rfl ⟨zle rfl, zle rfl, zle rfl, zle rfl⟩ (zle rfl) dX11_areRoads_12 ?_
  exact zf_zreturn C hE (zle rfl) (zle rfl) dX11_areRoads_15 (by exact zb_01 _) rfl rfl rfl
