/-! ===== both: what is known of a road ===== -/
def fUp (N m : Nat) : Nat := if m < 2 ^ N then 2 * m else (2 * m - 2 ^ (N + 1)) ||| 2 ^ N
def fDg (N m d : Nat) : Nat := if d = 0 then fUp N m else if d = 1 then 1 else fUp N m ||| 1
def fFt (N K days : Nat) : Nat → Nat
  | 0 => 2 ^ N
  | i + 1 => fDg N (fFt N K days i) (K / 3 ^ (days - 1 - i) % 3)
theorem two {P : Nat → Nat → Prop} (h : ∀ N, N < 12 → ∀ q, q < 64 → ∀ r, r < 64 → 64 * q + r < 2 ^ (N + 1) → P N (64 * q + r)) : ∀ N, N < 12 → ∀ m, m < 2 ^ (N + 1) → P N m := by
  intro N hN m hm
  have h2 : 2 ^ (N + 1) ≤ 2 ^ 12 := Nat.pow_le_pow_right (by omega) (by omega)
  have e : 64 * (m / 64) + m % 64 = m := Nat.div_add_mod m 64
  have := h N hN (m / 64) (by omega) (m % 64) (by omega) (by rw [e]; exact hm)
  rw [e] at this
  exact this
theorem fA : ∀ N, N < 12 → ∀ m, m < 2 ^ (N + 1) → (((nI m) <<< ((1 : Int32) &&& 31)) &&& (2 * nI (2 ^ N) - 1)) ||| (nI m &&& nI (2 ^ N)) = nI (fUp N m) := two (by decide +kernel)
theorem fB : ∀ N, N < 12 → ∀ m, m < 2 ^ (N + 1) → fUp N m < 2 ^ (N + 1) ∧ (nI (fUp N m) ||| 1) = nI (fUp N m ||| 1) ∧ fUp N m ||| 1 < 2 ^ (N + 1) := two (by decide +kernel)
theorem fC1 : ∀ N, N < 12 → ∀ m, m < 2 ^ (N + 1) → ((((nI m) <<< ((1 : Int32) &&& 31)) >>> ((nI N + 1) &&& 31)) &&& 1) = 1 → (((nI m) <<< ((1 : Int32) &&& 31)) &&& (((1 : Int32) <<< ((nI N + 1) &&& 31)) ^^^ (-1))) ||| ((1 : Int32) <<< (nI N &&& 31)) = nI (fUp N m) := two (by decide +kernel)
theorem fC0 : ∀ N, N < 12 → ∀ m, m < 2 ^ (N + 1) → ¬ ((((nI m) <<< ((1 : Int32) &&& 31)) >>> ((nI N + 1) &&& 31)) &&& 1) = 1 → (nI m) <<< ((1 : Int32) &&& 31) = nI (fUp N m) := two (by decide +kernel)
theorem fW : ∀ N, N < 12 → (1 : Int32) <<< (nI N &&& 31) = nI (2 ^ N) := by decide +kernel
theorem fDg_lt {N m : Nat} (hN : N < 12) (hm : m < 2 ^ (N + 1)) (d : Nat) : fDg N m d < 2 ^ (N + 1) := by
  obtain ⟨h1, h2, h3⟩ := fB N hN m hm
  unfold fDg
  split
  · exact h1
  · split
    · exact Nat.one_lt_two_pow (by omega)
    · exact h3
theorem fFt_lt {N K days : Nat} (hN : N < 12) : ∀ i, fFt N K days i < 2 ^ (N + 1)
  | 0 => Nat.pow_lt_pow_right (by omega) (by omega)
  | i + 1 => fDg_lt hN (fFt_lt hN i) _
theorem p3 {d : Nat} (hd : d ≤ 20) : 3 ^ d < 2 ^ 63 ∧ 0 < 3 ^ d := ⟨Nat.lt_of_le_of_lt (Nat.pow_le_pow_right (by omega) hd) (by decide), Nat.pow_pos (by omega)⟩
section FI
variable {E : zE} {b : Nat} {G : zG} {t : zT} {h : zH} {l : Launch} {a c e : Nat} {N : Nat}
theorem c10_after (hN : N < 12) {m d : Nat} (hm : m < 2 ^ (N + 1)) (hd : d < 3) : zMet E b l yX10_afterKnown cX10_afterKnown 4 (some .int) 1 0 0 [.int (nI m), .int (nI d), .int (nI ((2 ^ N)))] t h (qIf (nI (fDg N m d)) t h) := by
  have e1 := fA N hN m hm
  obtain ⟨h1, h2, h3⟩ := fB N hN m hm
  refine zMet.of (ls := [some (.int (nI m)), some (.int (nI d)), some (.int (nI ((2 ^ N)))), none]) (by decide) (zle rfl) 1 rfl ?_
  intro G hlG C hR hE hin
  refine zz_iload_0 C dX10_afterKnown_0 <| zz_iconst_1 C dX10_afterKnown_1 <| zz_ishl C dX10_afterKnown_2 <| zz_iconst_2 C dX10_afterKnown_3 <| zz_iload_2 C dX10_afterKnown_4 <| zz_imul C dX10_afterKnown_5 <| zz_iconst_1 C dX10_afterKnown_6 <| zz_isub C dX10_afterKnown_7 <| zz_iand C dX10_afterKnown_8 <| zz_iload_0 C dX10_afterKnown_9 <| zz_iload_2 C dX10_afterKnown_10 <| zz_iand C dX10_afterKnown_11 <| zz_ior C dX10_afterKnown_12 <| zpc 13 rfl <| ?_
  rw [e1]
  refine zz_istore_3 C (zle rfl) rfl dX10_afterKnown_13 <| zz_iload_1 C dX10_afterKnown_14 <| zpc 15 rfl <| ?_
  refine zz_if_ne C 20 dX10_afterKnown_15 (by decide) (fun c15 => ?_) (fun c15 => ?_)
  · rw [show (0 : Int32) = nI 0 from rfl, nI_eq (by omega) (by omega)] at c15
    refine zz_iload_1 C dX10_afterKnown_20 <| zz_iconst_1 C dX10_afterKnown_21 <| zpc 22 rfl <| ?_
    refine zz_icmp_ne C 29 dX10_afterKnown_22 (by decide) (fun c22 => ?_) (fun c22 => ?_)
    · rw [show (1 : Int32) = nI 1 from rfl, nI_eq (by omega) (by omega)] at c22
      refine zz_iload_3 C dX10_afterKnown_29 <| zz_iconst_1 C dX10_afterKnown_30 <| zz_ior C dX10_afterKnown_31 <| zpc 32 rfl <| ?_
      refine zf_ireturn C hE (zle rfl) (zle rfl) dX10_afterKnown_32 ?_ rfl rfl
      first
      | (unfold fDg; rw [if_neg c15, if_pos c22]; rfl)
      | (rw [h2]; unfold fDg; rw [if_neg c15, if_neg c22])
    · rw [show (1 : Int32) = nI 1 from rfl, nI_eq (by omega) (by omega)] at c22
      refine zz_iconst_1 C dX10_afterKnown_25 <| zz_goto C 32 dX10_afterKnown_26 (by decide) <| zpc 32 rfl <| ?_
      refine zf_ireturn C hE (zle rfl) (zle rfl) dX10_afterKnown_32 ?_ rfl rfl
      first
      | (unfold fDg; rw [if_neg c15, if_pos c22]; rfl)
      | (rw [h2]; unfold fDg; rw [if_neg c15, if_neg c22])
  · rw [show (0 : Int32) = nI 0 from rfl, nI_eq (by omega) (by omega)] at c15
    refine zz_iload_3 C dX10_afterKnown_18 <| zpc 19 rfl <| ?_
    exact zf_ireturn C hE (zle rfl) (zle rfl) dX10_afterKnown_19 (by unfold fDg; rw [if_pos c15]) rfl rfl
theorem c10_fits1 (hX : zTX t a c e) (hr : zI h a 5 = nI N) (hN : N < 12) (d K : Nat) (hd : d ≤ 20) (hK : K < 3 ^ d) : zMet E b l yX10_fits cX10_fits 9 (some .int) 8 0 0 [.ref (b + 0), .long (lN K), .int (nI d)] t h (qIf (nI (fFt N K d d)) t h) := by
  have hp := p3 hd
  refine zMet.of (ls := [some (.ref (b + 0)), some (.long (lN K)), none, some (.int (nI d)), none, none, none, none, none]) (by decide) (zle rfl) 5 rfl ?_
  intro G hlG C hR hE hin
  have lb : ∀ i, i ≤ d → ∀ w : Int64, w = lN (3 ^ (d - i)) → zAW E b G 9 0 0 83 [some (.ref (b + 0)), some (.long (lN K)), none, some (.int (nI d)), some (.long w), none, some (.int (nI ((2 ^ N)))), some (.int (nI ((fFt N K d i)))), some (.int (nI i))] [] t h := by
    refine zLoop d fun i hi ih w ew => ?_
    have hp2 := p3 (d := d - i) (by omega)
    have e1 : i < d → 3 ^ (d - i) = 3 ^ (d - 1 - i) * 3 := fun z => by rw [← Nat.pow_succ, show (d - 1 - i).succ = d - i by omega]
    have hp3 := p3 (d := d - 1 - i) (by omega)
    refine zz_iload_8 C dX10_fits_83 <| zz_iload_3 C dX10_fits_85 <| zpc 86 rfl <| ?_
    refine zz_icmp_ge C 130 dX10_fits_86 (by decide) (fun c86 => ?_) (fun c86 => ?_)
    · rw [nI_leI (by omega) (by omega)] at c86
      refine zz_iload_7 C dX10_fits_130 <| zpc 132 rfl <| ?_
      refine zy_ireturn C hE (zle rfl) (zle rfl) dX10_fits_132 ?_
      rw [show i = d by omega]; exact ⟨rfl, rfl, rfl⟩
    · rw [nI_leI (by omega) (by omega)] at c86
      refine zz_lload_4 C dX10_fits_89 <| zz_ldc2 C dX10_fits_91 kX10_324 <| zz_lcmp C dX10_fits_94 <| zpc 95 rfl <| ?_
      refine zz_if_lt C 130 dX10_fits_95 (by decide) (fun c95 => ?_) (fun c95 => ?_)
      · rw [lg_cmp_lt, ew, show (3 : Int64) = lN 3 from rfl, pk_lLT hp2.1 (by omega), e1 (by omega)] at c95; omega
      · refine zz_lload_4 C dX10_fits_98 <| zz_ldc2 C dX10_fits_100 kX10_324 <| zz_ldiv C dX10_fits_103 (by decide) <| zpc 104 rfl <| ?_
        rw [ew, show (3 : Int64) = lN 3 from rfl, pk_lDiv hp2.1 (by omega) (by omega), e1 (by omega), Nat.mul_div_cancel _ (by omega)]
        refine zz_lstore_4 C (zle rfl) rfl dX10_fits_104 <| zz_iload_7 C dX10_fits_106 <| zz_lload_1 C dX10_fits_108 <| zz_lload_4 C dX10_fits_109 <| zz_ldiv C dX10_fits_111 (by rw [show (0 : Int64) = lN 0 from rfl, pk_lEQ hp3.1 (by omega)]; omega) <| zpc 112 rfl <| ?_
        rw [pk_lDiv (Nat.lt_trans hK hp.1) hp3.2 hp3.1]
        refine zz_ldc2 C dX10_fits_112 kX10_324 <| zz_lrem C dX10_fits_115 (by decide) <| zpc 116 rfl <| ?_
        rw [show (3 : Int64) = lN 3 from rfl, pk_lRem (Nat.lt_of_le_of_lt (Nat.div_le_self _ _) (Nat.lt_trans hK hp.1)) (by omega) (by omega)]
        refine zz_l2i C dX10_fits_116 <| zpc 117 rfl <| ?_
        rw [lN_i]
        refine zz_iload_6 C dX10_fits_117 <| zpc 119 rfl <| ?_
        refine zf_callSI C hR [_, _, _] (c10_after hN (fFt_lt hN i) (Nat.mod_lt _ (by omega))) lX10_326 rfl ⟨zle rfl, zle rfl, zle rfl, zle rfl⟩ (zle rfl) dX10_fits_119 ?_
        refine zz_istore_7 C (zle rfl) rfl dX10_fits_122 <| zz_iinc_8 C _ (zle rfl) rfl dX10_fits_124 nI_s <| zz_goto C 83 dX10_fits_127 (by decide) <| zpc 83 rfl <| ?_
        exact ih (by omega) _ (by rw [show d - (i + 1) = d - 1 - i by omega])
  have la : ∀ k, k ≤ d → zAW E b G 9 0 0 24 [some (.ref (b + 0)), some (.long (lN K)), none, some (.int (nI d)), some (.long (lN (3 ^ k))), none, some (.int (nI k)), none, none] [] t h := by
    refine zLoop d fun k hk ih => ?_
    refine zz_iload_6 C dX10_fits_24 <| zz_iload_3 C dX10_fits_26 <| zpc 27 rfl <| ?_
    refine zz_icmp_ge C 44 dX10_fits_27 (by decide) (fun c27 => ?_) (fun c27 => ?_)
    · rw [nI_leI (by omega) (by omega)] at c27
      refine zz_lload_1 C dX10_fits_44 <| zz_lconst_0 C dX10_fits_45 <| zz_lcmp C dX10_fits_46 <| zpc 47 rfl <| ?_
      refine zz_if_lt C 61 dX10_fits_47 (by decide) (fun c47 => ?_) (fun c47 => ?_)
      · rw [lg_cmp_lt, show (0 : Int64) = lN 0 from rfl, pk_lLT (Nat.lt_trans hK hp.1) (by omega)] at c47; omega
      · refine zz_lload_1 C dX10_fits_50 <| zz_lload_4 C dX10_fits_51 <| zz_lcmp C dX10_fits_53 <| zpc 54 rfl <| ?_
        refine zz_if_ge C 61 dX10_fits_54 (by decide) (fun c54 => ?_) (fun c54 => ?_)
        · rw [show k = d by omega, lg_cmp_ge, pk_lLE hp.1 (Nat.lt_trans hK hp.1)] at c54; omega
        · refine zz_iconst_1 C dX10_fits_57 <| zz_goto C 62 dX10_fits_58 (by decide) <| zpc 62 rfl <| ?_
          refine zf_callSV C hR [_] (c10_demand1 _ (by decide)) lX10_76 rfl ⟨zle rfl, zle rfl, zle rfl, zle rfl⟩ (zle rfl) dX10_fits_62 ?_
          refine zz_iconst_1 C dX10_fits_65 <| zz_aload_0 C dX10_fits_66 <| zz_getR C fX10_19 (tX_K_X hX) (tX_R_land hX) dX10_fits_67 <| zz_getI C fX10_63 (tL_K (tX_La hX)) dX10_fits_70 <| zpc 73 rfl <| ?_
          rw [hr]
          refine zz_ishl C dX10_fits_73 <| zpc 74 rfl <| ?_
          rw [fW N hN]
          refine zz_istore_6 C (zle rfl) rfl dX10_fits_74 <| zz_iload_6 C dX10_fits_76 <| zz_istore_7 C (zle rfl) rfl dX10_fits_78 <| zz_iconst_0 C dX10_fits_80 <| zz_istore_8 C (zle rfl) rfl dX10_fits_81 <| zpc 83 rfl <| ?_
          rw [show k = d by omega]; exact lb 0 (by omega) _ rfl
    · rw [nI_leI (by omega) (by omega)] at c27
      refine zz_lload_4 C dX10_fits_30 <| zz_ldc2 C dX10_fits_32 kX10_324 <| zz_lmul C dX10_fits_35 <| zpc 36 rfl <| ?_
      rw [show (3 : Int64) = lN 3 from rfl, lN_mul, ← Nat.pow_succ]
      refine zz_lstore_4 C (zle rfl) rfl dX10_fits_36 <| zz_iinc_6 C _ (zle rfl) rfl dX10_fits_38 nI_s <| zz_goto C 24 dX10_fits_41 (by decide) <| zpc 24 rfl <| ?_
      exact ih (by omega)
  refine zz_iload_3 C dX10_fits_0 <| zpc 1 rfl <| ?_
  refine zz_if_lt C 14 dX10_fits_1 (by decide) (fun c1 => ?_) (fun c1 => ?_)
  · exact absurd c1 (nI_pos (by omega))
  · refine zz_iload_3 C dX10_fits_4 <| zz_bipush C 20 dX10_fits_5 (by decide) <| zpc 7 rfl <| ?_
    refine zz_icmp_gt C 14 dX10_fits_7 (by decide) (fun c7 => ?_) (fun c7 => ?_)
    · exact absurd c7 (nI_nlt (a := 20) hd (by omega))
    · refine zz_iconst_1 C dX10_fits_10 <| zz_goto C 15 dX10_fits_11 (by decide) <| zpc 15 rfl <| ?_
      refine zf_callSV C hR [_] (c10_demand1 _ (by decide)) lX10_76 rfl ⟨zle rfl, zle rfl, zle rfl, zle rfl⟩ (zle rfl) dX10_fits_15 ?_
      refine zz_lconst_1 C dX10_fits_18 <| zz_lstore_4 C (zle rfl) rfl dX10_fits_19 <| zz_iconst_0 C dX10_fits_21 <| zz_istore_6 C (zle rfl) rfl dX10_fits_22 <| zpc 24 rfl <| ?_
      exact la 0 (by omega)
end FI
