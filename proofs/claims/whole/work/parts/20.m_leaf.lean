/-! ===== the reference: its small methods ===== -/
theorem c_in {E : zE} {b : Nat} {l : Launch} {t : zT} {h : zH} (v lo hi : Int32) : zMet E b l yX11_in cX11_in 3 (some .boolean) 1 0 0 [.int v, .int lo, .int hi] t h (qIf (zb (lo ≤ v ∧ v ≤ hi)) t h) := by
  refine zMet.of (ls := [some (.int v), some (.int lo), some (.int hi)]) (by decide) (zle rfl) 0 rfl ?_
  intro G hl C hR hE hin
  refine zz_iload_0 C dX11_in_0 <| zz_iload_1 C dX11_in_1 <| ?_
  refine zz_icmp_lt C 14 dX11_in_2 (by decide) (fun c2 => ?_) (fun c2 => ?_)
  · refine zz_iconst_0 C dX11_in_14 <| ?_
    exact zf_zreturn C hE (zle rfl) (zle rfl) dX11_in_15 (by decide) (by unfold zb; grind) rfl rfl
  · refine zz_iload_0 C dX11_in_5 <| zz_iload_2 C dX11_in_6 <| ?_
    refine zz_icmp_gt C 14 dX11_in_7 (by decide) (fun c7 => ?_) (fun c7 => ?_)
    · refine zz_iconst_0 C dX11_in_14 <| ?_
      exact zf_zreturn C hE (zle rfl) (zle rfl) dX11_in_15 (by decide) (by unfold zb; grind) rfl rfl
    · refine zz_iconst_1 C dX11_in_10 <| zz_goto C 15 dX11_in_11 (by decide) <| ?_
      exact zf_zreturn C hE (zle rfl) (zle rfl) dX11_in_15 (by decide) (by unfold zb; grind) rfl rfl
theorem c_minutesOf {E : zE} {b : Nat} {l : Launch} {t : zT} {h : zH} (hT : zTM t) (k : Int32) (hk : vp_in k 11) : zMet E b l yX11_minutesOf cX11_minutesOf 2 (some .int) 1 0 0 [.ref (b + 157), .int k] t h (qIf (zI h (174 + 1 + k.toNatClampNeg) 2 + zI h (174 + 1 + k.toNatClampNeg) 3 * zI h 233 k.toNatClampNeg) t h) := by
  refine zMet.of (ls := [some (.ref (b + 157)), some (.int k)]) (by decide) (zle rfl) 0 rfl ?_
  intro G hl C hR hE hin
  refine zz_aload_0 C dX11_minutesOf_0 <| zz_getR C fX11_34 (tM_K hT) (tM_R_road hT) dX11_minutesOf_1 <| zz_iload_1 C dX11_minutesOf_4 <| zy_row C (tM_K_road hT) (tM_row_road hT) (by first | assumption | (unfold vp_in; decide)) dX11_minutesOf_5 <| fun r5 => ?_
  refine zz_iconst_2 C dX11_minutesOf_6 <| zz_iaload C (tM_KR_road hT _ r5) (by first | assumption | (unfold vp_in; decide)) dX11_minutesOf_7 <| zz_aload_0 C dX11_minutesOf_8 <| zz_getR C fX11_34 (tM_K hT) (tM_R_road hT) dX11_minutesOf_9 <| zz_iload_1 C dX11_minutesOf_12 <| zy_row C (tM_K_road hT) (tM_row_road hT) (by first | assumption | (unfold vp_in; decide)) dX11_minutesOf_13 <| fun r13 => ?_
  refine zz_iconst_3 C dX11_minutesOf_14 <| zz_iaload C (tM_KR_road hT _ r13) (by first | assumption | (unfold vp_in; decide)) dX11_minutesOf_15 <| zz_aload_0 C dX11_minutesOf_16 <| zz_getR C fX11_61 (tM_K hT) (tM_R_w hT) dX11_minutesOf_17 <| zz_iload_1 C dX11_minutesOf_20 <| zz_iaload C (tM_K_w hT) (by first | assumption | (unfold vp_in; decide)) dX11_minutesOf_21 <| zz_imul C dX11_minutesOf_22 <| zz_iadd C dX11_minutesOf_23 <| ?_
  exact zf_ireturn C hE (zle rfl) (zle rfl) dX11_minutesOf_24 rfl rfl rfl
theorem c_areDays {E : zE} {b : Nat} {l : Launch} {t : zT} {h : zH} (d : Int32) : zMet E b l yX11_areDays cX11_areDays 1 (some .boolean) 2 0 0 [.int d] t h (qIf (zb (1 ≤ d ∧ d ≤ 366)) t h) := by
  refine zMet.of (ls := [some (.int d)]) (by decide) (zle rfl) 0 rfl ?_
  intro G hl C hR hE hin
  refine zz_iload_0 C dX11_areDays_0 <| zz_iconst_1 C dX11_areDays_1 <| zz_sipush C 366 dX11_areDays_2 (by decide) <| ?_
  refine zf_callSI C hR [_, _, _] (c_in _ _ _) lX11_138 rfl ⟨zle rfl, zle rfl, zle rfl, zle rfl⟩ (zle rfl) dX11_areDays_5 ?_
  exact zf_zreturn C hE (zle rfl) (zle rfl) dX11_areDays_8 (by exact zb_01 _) rfl rfl rfl
