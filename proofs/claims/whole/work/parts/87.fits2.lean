/-! ===== both: what is known of a road, on ===== -/
section FJ
variable {E : zE} {b : Nat} {G : zG} {t : zT} {h : zH} {l : Launch} {a c e : Nat} {N : Nat} {D : yD}
theorem c10_fits0 (hX : zTX t a c e) (hlt : l.stackTraces = false) (hf : t.1.2 = false) (x : Int64) (y : Int32) (hno : ¬ ∃ d K, d ≤ 20 ∧ K < 3 ^ d ∧ y = nI d ∧ x = lN K) : zMetX E b l yX10_fits cX10_fits 9 (some .int) 8 1 6 [.ref (b + 0), .long x, .int y] t h xA := by
  refine zMetX.of (ls := [some (.ref (b + 0)), some (.long x), none, some (.int y), none, none, none, none, none]) hlt (by decide) (zle rfl) 5 rfl ?_
  intro G hlG C hR hE
  rw [← hlG] at hlt
  by_cases hy : ∃ d, d ≤ 20 ∧ y = nI d
  · obtain ⟨d, hd, rfl⟩ := hy
    have hp := p3 hd
    have la : ∀ k, k ≤ d → zAW E b G 9 0 0 24 [some (.ref (b + 0)), some (.long x), none, some (.int (nI d)), some (.long (lN (3 ^ k))), none, some (.int (nI k)), none, none] [] t h := by
      refine zLoop d fun k hk ih => ?_
      refine zz_iload_6 C dX10_fits_24 <| zz_iload_3 C dX10_fits_26 <| zpc 27 rfl <| ?_
      refine zz_icmp_ge C 44 dX10_fits_27 (by decide) (fun c27 => ?_) (fun c27 => ?_)
      · rw [nI_leI (by omega) (by omega)] at c27
        refine zz_lload_1 C dX10_fits_44 <| zz_lconst_0 C dX10_fits_45 <| zz_lcmp C dX10_fits_46 <| zpc 47 rfl <| ?_
        refine zz_if_lt C 61 dX10_fits_47 (by decide) (fun c47 => ?_) (fun c47 => ?_)
        · refine zz_iconst_0 C dX10_fits_61 <| zpc 62 rfl <| ?_
          exact zx_callS C hR hE [_] (c10_demand0 hlt hf) lX10_76 rfl ⟨zle rfl, zle rfl, zle rfl, zle rfl⟩ (zle rfl) (zle rfl) (zle rfl) dX10_fits_62
        · refine zz_lload_1 C dX10_fits_50 <| zz_lload_4 C dX10_fits_51 <| zz_lcmp C dX10_fits_53 <| zpc 54 rfl <| ?_
          refine zz_if_ge C 61 dX10_fits_54 (by decide) (fun c54 => ?_) (fun c54 => ?_)
          · refine zz_iconst_0 C dX10_fits_61 <| zpc 62 rfl <| ?_
            exact zx_callS C hR hE [_] (c10_demand0 hlt hf) lX10_76 rfl ⟨zle rfl, zle rfl, zle rfl, zle rfl⟩ (zle rfl) (zle rfl) (zle rfl) dX10_fits_62
          · refine zz_iconst_1 C dX10_fits_57 <| zz_goto C 62 dX10_fits_58 (by decide) <| zpc 62 rfl <| ?_
            rw [lg_cmp_lt] at c47
            obtain ⟨K, hK, rfl⟩ := pk_lOf c47
            rw [show k = d by omega, lg_cmp_ge, pk_lLE hp.1 hK] at c54
            exact absurd ⟨d, K, hd, by omega, rfl, rfl⟩ hno
      · rw [nI_leI (by omega) (by omega)] at c27
        refine zz_lload_4 C dX10_fits_30 <| zz_ldc2 C dX10_fits_32 kX10_324 <| zz_lmul C dX10_fits_35 <| zpc 36 rfl <| ?_
        rw [show (3 : Int64) = lN 3 from rfl, lN_mul, ← Nat.pow_succ]
        refine zz_lstore_4 C (zle rfl) rfl dX10_fits_36 <| zz_iinc_6 C _ (zle rfl) rfl dX10_fits_38 nI_s <| zz_goto C 24 dX10_fits_41 (by decide) <| zpc 24 rfl <| ?_
        exact ih (by omega)
    refine zz_iload_3 C dX10_fits_0 <| zpc 1 rfl <| ?_
    refine zz_if_lt C 14 dX10_fits_1 (by decide) (fun c1 => ?_) (fun c1 => ?_)
    · exact absurd c1 (nI_pos (by omega))
    · refine zz_iload_3 C dX10_fits_4 <| zz_bipush C 20 dX10_fits_5 (by decide) <| zpc 7 rfl <| ?_
      refine zz_icmp_gt C 14 dX10_fits_7 (by decide) (fun c7 => ?_) (fun c7 => ?_)
      · exact absurd c7 (nI_nlt (a := 20) hd (by omega))
      · refine zz_iconst_1 C dX10_fits_10 <| zz_goto C 15 dX10_fits_11 (by decide) <| zpc 15 rfl <| ?_
        refine zf_callSV C hR [_] (c10_demand1 _ (by decide)) lX10_76 rfl ⟨zle rfl, zle rfl, zle rfl, zle rfl⟩ (zle rfl) dX10_fits_15 ?_
        refine zz_lconst_1 C dX10_fits_18 <| zz_lstore_4 C (zle rfl) rfl dX10_fits_19 <| zz_iconst_0 C dX10_fits_21 <| zz_istore_6 C (zle rfl) rfl dX10_fits_22 <| zpc 24 rfl <| ?_
        exact la 0 (by omega)
  ·
    refine zz_iload_3 C dX10_fits_0 <| zpc 1 rfl <| ?_
    refine zz_if_lt C 14 dX10_fits_1 (by decide) (fun c1 => ?_) (fun c1 => ?_)
    · refine zz_iconst_0 C dX10_fits_14 <| zpc 15 rfl <| ?_
      exact zx_callS C hR hE [_] (c10_demand0 hlt hf) lX10_76 rfl ⟨zle rfl, zle rfl, zle rfl, zle rfl⟩ (zle rfl) (zle rfl) (zle rfl) dX10_fits_15
    · refine zz_iload_3 C dX10_fits_4 <| zz_bipush C 20 dX10_fits_5 (by decide) <| zpc 7 rfl <| ?_
      refine zz_icmp_gt C 14 dX10_fits_7 (by decide) (fun c7 => ?_) (fun c7 => ?_)
      · refine zz_iconst_0 C dX10_fits_14 <| zpc 15 rfl <| ?_
        exact zx_callS C hR hE [_] (c10_demand0 hlt hf) lX10_76 rfl ⟨zle rfl, zle rfl, zle rfl, zle rfl⟩ (zle rfl) (zle rfl) (zle rfl) dX10_fits_15
      · refine zz_iconst_1 C dX10_fits_10 <| zz_goto C 15 dX10_fits_11 (by decide) <| zpc 15 rfl <| ?_
        exact absurd ((upTo 20 20 rfl (by omega)).mp ⟨Int32.not_lt.mp c1, Int32.not_lt.mp c7⟩) hy
theorem c_fits1 (hT : zTM t) (hr : zI h 160 5 = nI N) (hN : N < 12) (d K : Nat) (hd : d ≤ 20) (hK : K < 3 ^ d) : zMet E b l yX11_fits cX11_fits 11 (some .int) 4 0 0 [.ref (b + 157), .long (lN K), .int (nI d)] t h (qIf (nI (fFt N K d d)) t (zsI h 157 0 0)) := by
  have hp := p3 hd
  have hr0 : zI (zsI h 157 0 0) 160 5 = nI N := by rw [zI_sI, if_neg (by omega)]; exact hr
  have o1 : (0 ≤ nI d ∧ nI d ≤ 20) := (upTo 20 20 rfl (by omega)).mpr ⟨d, hd, rfl⟩
  refine zMet.of (ls := [some (.ref (b + 157)), some (.long (lN K)), none, some (.int (nI d)), none, none, none, none, none, none, none]) (by decide) (zle rfl) 7 rfl ?_
  intro G hlG C hR hE hin
  have lb : ∀ i, i ≤ d → ∀ (w : Int64) (y9 y10 : Option Value), w = lN (3 ^ (d - i)) → zAW E b G 11 0 0 93 [some (.ref (b + 157)), some (.long (lN K)), none, some (.int (nI d)), some (.long w), none, some (.int (nI N)), some (.int (nI ((fFt N K d i)))), some (.int (nI i)), y9, y10] [] t (zsI h 157 0 0) := by
    refine zLoop d fun i hi ih w y9 y10 ew => ?_
    have hp2 := p3 (d := d - i) (by omega)
    have e1 : i < d → 3 ^ (d - i) = 3 ^ (d - 1 - i) * 3 := fun z => by rw [← Nat.pow_succ, show (d - 1 - i).succ = d - i by omega]
    have hp3 := p3 (d := d - 1 - i) (by omega)
    have hdg := Nat.mod_lt (K / 3 ^ (d - 1 - i)) (show 0 < 3 by omega)
    have hft := fFt_lt (K := K) (days := d) hN i
    obtain ⟨h1, h2, h3⟩ := fB N hN _ hft
    have s155 : i < d → ∀ w : Int64, w = lN (3 ^ (d - (i + 1))) → zAW E b G 11 0 0 155 [some (.ref (b + 157)), some (.long (lN K)), none, some (.int (nI d)), some (.long w), none, some (.int (nI N)), some (.int (nI ((fFt N K d i)))), some (.int (nI i)), some (.int (nI ((K / 3 ^ (d - 1 - i) % 3)))), some (.int (nI ((fUp N (fFt N K d i)))))] [] t (zsI h 157 0 0) := by
      intro hid w ew
      have ek : fFt N K d (i + 1) = fDg N (fFt N K d i) (K / 3 ^ (d - 1 - i) % 3) := rfl
      have ih2 := ih hid w (some (.int (nI (K / 3 ^ (d - 1 - i) % 3)))) (some (.int (nI (fUp N (fFt N K d i))))) ew
      rw [ek] at ih2
      unfold fDg at ih2
      refine zz_iload_9 C dX11_fits_155 <| zpc 157 rfl <| ?_
      refine zz_if_ne C 165 dX11_fits_157 (by decide) (fun c157 => ?_) (fun c157 => ?_)
      · rw [show (0 : Int32) = nI 0 from rfl, nI_eq (by omega) (by omega)] at c157
        refine zz_iload_9 C dX11_fits_165 <| zz_iconst_1 C dX11_fits_167 <| zpc 168 rfl <| ?_
        refine zz_icmp_ne C 175 dX11_fits_168 (by decide) (fun c168 => ?_) (fun c168 => ?_)
        · rw [show (1 : Int32) = nI 1 from rfl, nI_eq (by omega) (by omega)] at c168
          refine zz_iload_10 C dX11_fits_175 <| zz_iconst_1 C dX11_fits_177 <| zz_ior C dX11_fits_178 <| zpc 179 rfl <| ?_
          first | rw [h2] | skip
          refine zz_istore_7 C (zle rfl) rfl dX11_fits_179 <| zz_iinc_8 C _ (zle rfl) rfl dX11_fits_181 nI_s <| zz_goto C 93 dX11_fits_184 (by decide) <| zpc 93 rfl <| ?_
          first
          | (rw [if_pos c157] at ih2; exact ih2)
          | (rw [if_neg c157, if_pos c168] at ih2; exact ih2)
          | (rw [if_neg c157, if_neg c168] at ih2; exact ih2)
        · rw [show (1 : Int32) = nI 1 from rfl, nI_eq (by omega) (by omega)] at c168
          refine zz_iconst_1 C dX11_fits_171 <| zz_goto C 179 dX11_fits_172 (by decide) <| zpc 179 rfl <| ?_
          first | rw [h2] | skip
          refine zz_istore_7 C (zle rfl) rfl dX11_fits_179 <| zz_iinc_8 C _ (zle rfl) rfl dX11_fits_181 nI_s <| zz_goto C 93 dX11_fits_184 (by decide) <| zpc 93 rfl <| ?_
          first
          | (rw [if_pos c157] at ih2; exact ih2)
          | (rw [if_neg c157, if_pos c168] at ih2; exact ih2)
          | (rw [if_neg c157, if_neg c168] at ih2; exact ih2)
      · rw [show (0 : Int32) = nI 0 from rfl, nI_eq (by omega) (by omega)] at c157
        refine zz_iload_10 C dX11_fits_160 <| zz_goto C 179 dX11_fits_162 (by decide) <| zpc 179 rfl <| ?_
        first | rw [h2] | skip
        refine zz_istore_7 C (zle rfl) rfl dX11_fits_179 <| zz_iinc_8 C _ (zle rfl) rfl dX11_fits_181 nI_s <| zz_goto C 93 dX11_fits_184 (by decide) <| zpc 93 rfl <| ?_
        first
        | (rw [if_pos c157] at ih2; exact ih2)
        | (rw [if_neg c157, if_pos c168] at ih2; exact ih2)
        | (rw [if_neg c157, if_neg c168] at ih2; exact ih2)
    refine zz_iload_8 C dX11_fits_93 <| zz_iload_3 C dX11_fits_95 <| zpc 96 rfl <| ?_
    refine zz_icmp_ge C 187 dX11_fits_96 (by decide) (fun c96 => ?_) (fun c96 => ?_)
    · rw [nI_leI (by omega) (by omega)] at c96
      refine zz_iload_7 C dX11_fits_187 <| zpc 189 rfl <| ?_
      exact zf_ireturn C hE (zle rfl) (zle rfl) dX11_fits_189 (by rw [show i = d by omega]) rfl rfl
    · rw [nI_leI (by omega) (by omega)] at c96
      refine zz_lload_4 C dX11_fits_99 <| zz_ldc2 C dX11_fits_101 kX11_368 <| zz_ldiv C dX11_fits_104 (by decide) <| zpc 105 rfl <| ?_
      rw [ew, show (3 : Int64) = lN 3 from rfl, pk_lDiv hp2.1 (by omega) (by omega), e1 (by omega), Nat.mul_div_cancel _ (by omega)]
      refine zz_lstore_4 C (zle rfl) rfl dX11_fits_105 <| zz_lload_1 C dX11_fits_107 <| zz_lload_4 C dX11_fits_108 <| zz_ldiv C dX11_fits_110 (by rw [show (0 : Int64) = lN 0 from rfl, pk_lEQ hp3.1 (by omega)]; omega) <| zpc 111 rfl <| ?_
      rw [pk_lDiv (Nat.lt_trans hK hp.1) hp3.2 hp3.1]
      refine zz_ldc2 C dX11_fits_111 kX11_368 <| zz_lrem C dX11_fits_114 (by decide) <| zpc 115 rfl <| ?_
      rw [show (3 : Int64) = lN 3 from rfl, pk_lRem (Nat.lt_of_le_of_lt (Nat.div_le_self _ _) (Nat.lt_trans hK hp.1)) (by omega) (by omega)]
      refine zz_l2i C dX11_fits_115 <| zpc 116 rfl <| ?_
      rw [lN_i]
      refine zz_istore_9 C (zle rfl) rfl dX11_fits_116 <| zz_iload_7 C dX11_fits_118 <| zz_iconst_1 C dX11_fits_120 <| zz_ishl C dX11_fits_121 <| zz_istore_10 C (zle rfl) rfl dX11_fits_122 <| zz_iload_10 C dX11_fits_124 <| zz_iload_6 C dX11_fits_126 <| zz_iconst_1 C dX11_fits_128 <| zz_iadd C dX11_fits_129 <| zz_ishr C dX11_fits_130 <| zz_iconst_1 C dX11_fits_131 <| zz_iand C dX11_fits_132 <| zz_iconst_1 C dX11_fits_133 <| zpc 134 rfl <| ?_
      refine zz_icmp_ne C 155 dX11_fits_134 (by decide) (fun c134 => ?_) (fun c134 => ?_)
      · first
        | exact s155 (by omega) _ (by rw [show d - (i + 1) = d - 1 - i by omega])
        | (rw [fC0 N hN _ hft c134]; exact s155 (by omega) _ (by rw [show d - (i + 1) = d - 1 - i by omega]))
      · refine zz_iload_10 C dX11_fits_137 <| zz_iconst_1 C dX11_fits_139 <| zz_iload_6 C dX11_fits_140 <| zz_iconst_1 C dX11_fits_142 <| zz_iadd C dX11_fits_143 <| zz_ishl C dX11_fits_144 <| zz_iconst_m1 C dX11_fits_145 <| zz_ixor C dX11_fits_146 <| zz_iand C dX11_fits_147 <| zz_iconst_1 C dX11_fits_148 <| zz_iload_6 C dX11_fits_149 <| zz_ishl C dX11_fits_151 <| zz_ior C dX11_fits_152 <| zpc 153 rfl <| ?_
        rw [fC1 N hN _ hft c134]
        refine zz_istore_10 C (zle rfl) rfl dX11_fits_153 <| zpc 155 rfl <| ?_
        first
        | exact s155 (by omega) _ (by rw [show d - (i + 1) = d - 1 - i by omega])
        | (rw [fC0 N hN _ hft c134]; exact s155 (by omega) _ (by rw [show d - (i + 1) = d - 1 - i by omega]))
  have la : ∀ k, k ≤ d → zAW E b G 11 0 0 11 [some (.ref (b + 157)), some (.long (lN K)), none, some (.int (nI d)), some (.long (lN (3 ^ k))), none, some (.int (nI k)), none, none, none, none] [] t (zsI h 157 0 0) := by
    refine zLoop d fun k hk ih => ?_
    refine zz_iload_6 C dX11_fits_11 <| zz_iload_3 C dX11_fits_13 <| zpc 14 rfl <| ?_
    refine zz_icmp_ge C 38 dX11_fits_14 (by decide) (fun c14 => ?_) (fun c14 => ?_)
    · rw [nI_leI (by omega) (by omega)] at c14
      refine zz_aload_0 C dX11_fits_38 <| zz_iload_3 C dX11_fits_39 <| zz_iconst_0 C dX11_fits_40 <| zz_bipush C 20 dX11_fits_41 (by decide) <| zpc 43 rfl <| ?_
      refine zf_callSI C hR [_, _, _] (c_in _ _ _) lX11_138 rfl ⟨zle rfl, zle rfl, zle rfl, zle rfl⟩ (zle rfl) dX11_fits_43 ?_
      refine zz_if_eq C 62 dX11_fits_46 (by decide) (fun c46 => ?_) (fun c46 => ?_)
      · rw [zb_eq0] at c46; exact absurd o1 c46
      · refine zz_lload_1 C dX11_fits_49 <| zz_lconst_0 C dX11_fits_50 <| zz_lcmp C dX11_fits_51 <| zpc 52 rfl <| ?_
        refine zz_if_lt C 62 dX11_fits_52 (by decide) (fun c52 => ?_) (fun c52 => ?_)
        · rw [lg_cmp_lt, show (0 : Int64) = lN 0 from rfl, pk_lLT (Nat.lt_trans hK hp.1) (by omega)] at c52; omega
        · refine zz_lload_1 C dX11_fits_55 <| zz_lload_4 C dX11_fits_56 <| zz_lcmp C dX11_fits_58 <| zpc 59 rfl <| ?_
          refine zz_if_lt C 66 dX11_fits_59 (by decide) (fun c59 => ?_) (fun c59 => ?_)
          · refine zz_iconst_0 C dX11_fits_66 <| zz_iconst_1 C dX11_fits_67 <| zpc 68 rfl <| ?_
            refine zf_callVI C hR [_, _] (c_bad0 hT _ (by decide) (by first | exact zI_self _ _ _ _ | assumption)) lX11_181 rfl (tM_K hT) (by decide) rfl ⟨zle rfl, zle rfl, zle rfl, zle rfl⟩ (zle rfl) dX11_fits_68 ?_
            refine zz_if_eq C 76 dX11_fits_71 (by decide) (fun c71 => ?_) (fun c71 => ?_)
            · refine zz_aload_0 C dX11_fits_76 <| zz_getR C fX11_20 (tM_K hT) (tM_R_told hT) dX11_fits_77 <| zz_iconst_5 C dX11_fits_80 <| zc_iaload C 5 (tM_K_told hT) (zlit _ (by decide)) (by decide) dX11_fits_81 <| zpc 82 rfl <| ?_
              rw [hr0]
              refine zz_istore_6 C (zle rfl) rfl dX11_fits_82 <| zz_iconst_1 C dX11_fits_84 <| zz_iload_6 C dX11_fits_85 <| zz_ishl C dX11_fits_87 <| zpc 88 rfl <| ?_
              rw [fW N hN]
              refine zz_istore_7 C (zle rfl) rfl dX11_fits_88 <| zz_iconst_0 C dX11_fits_90 <| zz_istore_8 C (zle rfl) rfl dX11_fits_91 <| zpc 93 rfl <| ?_
              rw [show k = d by omega]; exact lb 0 (by omega) _ _ _ rfl
            · exact absurd rfl c71
          · rw [show k = d by omega, lg_cmp_lt, pk_lLT (Nat.lt_trans hK hp.1) hp.1] at c59; omega
    · rw [nI_leI (by omega) (by omega)] at c14
      refine zz_iload_6 C dX11_fits_17 <| zz_bipush C 20 dX11_fits_19 (by decide) <| zpc 21 rfl <| ?_
      refine zz_icmp_ge C 38 dX11_fits_21 (by decide) (fun c21 => ?_) (fun c21 => ?_)
      · rw [show (20 : Int32) = nI 20 from rfl, nI_leI (by omega) (by omega)] at c21; omega
      · refine zz_lload_4 C dX11_fits_24 <| zz_ldc2 C dX11_fits_26 kX11_368 <| zz_lmul C dX11_fits_29 <| zpc 30 rfl <| ?_
        rw [show (3 : Int64) = lN 3 from rfl, lN_mul, ← Nat.pow_succ]
        refine zz_lstore_4 C (zle rfl) rfl dX11_fits_30 <| zz_iinc_6 C _ (zle rfl) rfl dX11_fits_32 nI_s <| zz_goto C 11 dX11_fits_35 (by decide) <| zpc 11 rfl <| ?_
        exact ih (by omega)
  refine zz_aload_0 C dX11_fits_0 <| zz_iconst_0 C dX11_fits_1 <| zy_putI C fX11_104 pX11_0 (tM_K hT) dX11_fits_2 <| zz_lconst_1 C dX11_fits_5 <| zz_lstore_4 C (zle rfl) rfl dX11_fits_6 <| zz_iconst_0 C dX11_fits_8 <| zz_istore_6 C (zle rfl) rfl dX11_fits_9 <| zpc 11 rfl <| ?_
  exact la 0 (by omega)
theorem c_fits0 (hT : zTM t) (x : Int64) (y : Int32) (hno : ¬ ∃ d K, d ≤ 20 ∧ K < 3 ^ d ∧ y = nI d ∧ x = lN K) : zMet E b l yX11_fits cX11_fits 11 (some .int) 4 0 0 [.ref (b + 157), .long x, .int y] t h (qIf 0 t (zsI (zsI h 157 0 0) 157 0 1)) := by
  refine zMet.of (ls := [some (.ref (b + 157)), some (.long x), none, some (.int y), none, none, none, none, none, none, none]) (by decide) (zle rfl) 7 rfl ?_
  intro G hlG C hR hE hin
  have la : ∀ k, k ≤ 20 → (∀ d, y = nI d → d ≤ 20 → k ≤ d) → zAW E b G 11 0 0 11 [some (.ref (b + 157)), some (.long x), none, some (.int y), some (.long (lN (3 ^ k))), none, some (.int (nI k)), none, none, none, none] [] t (zsI h 157 0 0) := by
    refine zLoop 20 fun k hk ih hle => ?_
    refine zz_iload_6 C dX11_fits_11 <| zz_iload_3 C dX11_fits_13 <| zpc 14 rfl <| ?_
    refine zz_icmp_ge C 38 dX11_fits_14 (by decide) (fun c14 => ?_) (fun c14 => ?_)
    · refine zz_aload_0 C dX11_fits_38 <| zz_iload_3 C dX11_fits_39 <| zz_iconst_0 C dX11_fits_40 <| zz_bipush C 20 dX11_fits_41 (by decide) <| zpc 43 rfl <| ?_
      refine zf_callSI C hR [_, _, _] (c_in _ _ _) lX11_138 rfl ⟨zle rfl, zle rfl, zle rfl, zle rfl⟩ (zle rfl) dX11_fits_43 ?_
      refine zz_if_eq C 62 dX11_fits_46 (by decide) (fun c46 => ?_) (fun c46 => ?_)
      · refine zz_iconst_1 C dX11_fits_62 <| zz_goto C 67 dX11_fits_63 (by decide) <| zz_iconst_1 C dX11_fits_67 <| zpc 68 rfl <| ?_
        refine zf_callVI C hR [_, _] (c_bad1 hT _ (by decide) (by first | exact zI_self _ _ _ _ | assumption)) lX11_181 rfl (tM_K hT) (by decide) rfl ⟨zle rfl, zle rfl, zle rfl, zle rfl⟩ (zle rfl) dX11_fits_68 ?_
        refine zz_if_eq C 76 dX11_fits_71 (by decide) (fun c71 => ?_) (fun c71 => ?_)
        · exact absurd c71 (by decide)
        · refine zz_iconst_0 C dX11_fits_74 <| zpc 75 rfl <| ?_
          exact zf_ireturn C hE (zle rfl) (zle rfl) dX11_fits_75 rfl rfl rfl
      · refine zz_lload_1 C dX11_fits_49 <| zz_lconst_0 C dX11_fits_50 <| zz_lcmp C dX11_fits_51 <| zpc 52 rfl <| ?_
        refine zz_if_lt C 62 dX11_fits_52 (by decide) (fun c52 => ?_) (fun c52 => ?_)
        · refine zz_iconst_1 C dX11_fits_62 <| zz_goto C 67 dX11_fits_63 (by decide) <| zz_iconst_1 C dX11_fits_67 <| zpc 68 rfl <| ?_
          refine zf_callVI C hR [_, _] (c_bad1 hT _ (by decide) (by first | exact zI_self _ _ _ _ | assumption)) lX11_181 rfl (tM_K hT) (by decide) rfl ⟨zle rfl, zle rfl, zle rfl, zle rfl⟩ (zle rfl) dX11_fits_68 ?_
          refine zz_if_eq C 76 dX11_fits_71 (by decide) (fun c71 => ?_) (fun c71 => ?_)
          · exact absurd c71 (by decide)
          · refine zz_iconst_0 C dX11_fits_74 <| zpc 75 rfl <| ?_
            exact zf_ireturn C hE (zle rfl) (zle rfl) dX11_fits_75 rfl rfl rfl
        · refine zz_lload_1 C dX11_fits_55 <| zz_lload_4 C dX11_fits_56 <| zz_lcmp C dX11_fits_58 <| zpc 59 rfl <| ?_
          refine zz_if_lt C 66 dX11_fits_59 (by decide) (fun c59 => ?_) (fun c59 => ?_)
          · rw [zb_ne0] at c46
            obtain ⟨d, hd, ed⟩ := (upTo 20 20 rfl (by omega)).mp c46
            have hp := p3 hd
            have hk2 := hle d ed hd
            have hkd : k = d := by
              first
                | (rw [ed, nI_leI (by omega) (by omega)] at c14; omega)
                | omega
            rw [lg_cmp_lt] at c52
            obtain ⟨K, hK, ek⟩ := pk_lOf c52
            rw [lg_cmp_lt, hkd, ek, pk_lLT hK hp.1] at c59
            exact absurd ⟨d, K, hd, c59, ed, ek⟩ hno
          · refine zz_iconst_1 C dX11_fits_62 <| zz_goto C 67 dX11_fits_63 (by decide) <| zz_iconst_1 C dX11_fits_67 <| zpc 68 rfl <| ?_
            refine zf_callVI C hR [_, _] (c_bad1 hT _ (by decide) (by first | exact zI_self _ _ _ _ | assumption)) lX11_181 rfl (tM_K hT) (by decide) rfl ⟨zle rfl, zle rfl, zle rfl, zle rfl⟩ (zle rfl) dX11_fits_68 ?_
            refine zz_if_eq C 76 dX11_fits_71 (by decide) (fun c71 => ?_) (fun c71 => ?_)
            · exact absurd c71 (by decide)
            · refine zz_iconst_0 C dX11_fits_74 <| zpc 75 rfl <| ?_
              exact zf_ireturn C hE (zle rfl) (zle rfl) dX11_fits_75 rfl rfl rfl
    · refine zz_iload_6 C dX11_fits_17 <| zz_bipush C 20 dX11_fits_19 (by decide) <| zpc 21 rfl <| ?_
      refine zz_icmp_ge C 38 dX11_fits_21 (by decide) (fun c21 => ?_) (fun c21 => ?_)
      · rw [show (20 : Int32) = nI 20 from rfl, nI_leI (by omega) (by omega)] at c21
        refine zz_aload_0 C dX11_fits_38 <| zz_iload_3 C dX11_fits_39 <| zz_iconst_0 C dX11_fits_40 <| zz_bipush C 20 dX11_fits_41 (by decide) <| zpc 43 rfl <| ?_
        refine zf_callSI C hR [_, _, _] (c_in _ _ _) lX11_138 rfl ⟨zle rfl, zle rfl, zle rfl, zle rfl⟩ (zle rfl) dX11_fits_43 ?_
        refine zz_if_eq C 62 dX11_fits_46 (by decide) (fun c46 => ?_) (fun c46 => ?_)
        · refine zz_iconst_1 C dX11_fits_62 <| zz_goto C 67 dX11_fits_63 (by decide) <| zz_iconst_1 C dX11_fits_67 <| zpc 68 rfl <| ?_
          refine zf_callVI C hR [_, _] (c_bad1 hT _ (by decide) (by first | exact zI_self _ _ _ _ | assumption)) lX11_181 rfl (tM_K hT) (by decide) rfl ⟨zle rfl, zle rfl, zle rfl, zle rfl⟩ (zle rfl) dX11_fits_68 ?_
          refine zz_if_eq C 76 dX11_fits_71 (by decide) (fun c71 => ?_) (fun c71 => ?_)
          · exact absurd c71 (by decide)
          · refine zz_iconst_0 C dX11_fits_74 <| zpc 75 rfl <| ?_
            exact zf_ireturn C hE (zle rfl) (zle rfl) dX11_fits_75 rfl rfl rfl
        · refine zz_lload_1 C dX11_fits_49 <| zz_lconst_0 C dX11_fits_50 <| zz_lcmp C dX11_fits_51 <| zpc 52 rfl <| ?_
          refine zz_if_lt C 62 dX11_fits_52 (by decide) (fun c52 => ?_) (fun c52 => ?_)
          · refine zz_iconst_1 C dX11_fits_62 <| zz_goto C 67 dX11_fits_63 (by decide) <| zz_iconst_1 C dX11_fits_67 <| zpc 68 rfl <| ?_
            refine zf_callVI C hR [_, _] (c_bad1 hT _ (by decide) (by first | exact zI_self _ _ _ _ | assumption)) lX11_181 rfl (tM_K hT) (by decide) rfl ⟨zle rfl, zle rfl, zle rfl, zle rfl⟩ (zle rfl) dX11_fits_68 ?_
            refine zz_if_eq C 76 dX11_fits_71 (by decide) (fun c71 => ?_) (fun c71 => ?_)
            · exact absurd c71 (by decide)
            · refine zz_iconst_0 C dX11_fits_74 <| zpc 75 rfl <| ?_
              exact zf_ireturn C hE (zle rfl) (zle rfl) dX11_fits_75 rfl rfl rfl
          · refine zz_lload_1 C dX11_fits_55 <| zz_lload_4 C dX11_fits_56 <| zz_lcmp C dX11_fits_58 <| zpc 59 rfl <| ?_
            refine zz_if_lt C 66 dX11_fits_59 (by decide) (fun c59 => ?_) (fun c59 => ?_)
            · rw [zb_ne0] at c46
              obtain ⟨d, hd, ed⟩ := (upTo 20 20 rfl (by omega)).mp c46
              have hp := p3 hd
              have hk2 := hle d ed hd
              have hkd : k = d := by
                first
                  | (rw [ed, nI_leI (by omega) (by omega)] at c14; omega)
                  | omega
              rw [lg_cmp_lt] at c52
              obtain ⟨K, hK, ek⟩ := pk_lOf c52
              rw [lg_cmp_lt, hkd, ek, pk_lLT hK hp.1] at c59
              exact absurd ⟨d, K, hd, c59, ed, ek⟩ hno
            · refine zz_iconst_1 C dX11_fits_62 <| zz_goto C 67 dX11_fits_63 (by decide) <| zz_iconst_1 C dX11_fits_67 <| zpc 68 rfl <| ?_
              refine zf_callVI C hR [_, _] (c_bad1 hT _ (by decide) (by first | exact zI_self _ _ _ _ | assumption)) lX11_181 rfl (tM_K hT) (by decide) rfl ⟨zle rfl, zle rfl, zle rfl, zle rfl⟩ (zle rfl) dX11_fits_68 ?_
              refine zz_if_eq C 76 dX11_fits_71 (by decide) (fun c71 => ?_) (fun c71 => ?_)
              · exact absurd c71 (by decide)
              · refine zz_iconst_0 C dX11_fits_74 <| zpc 75 rfl <| ?_
                exact zf_ireturn C hE (zle rfl) (zle rfl) dX11_fits_75 rfl rfl rfl
      · rw [show (20 : Int32) = nI 20 from rfl, nI_leI (by omega) (by omega)] at c21
        refine zz_lload_4 C dX11_fits_24 <| zz_ldc2 C dX11_fits_26 kX11_368 <| zz_lmul C dX11_fits_29 <| zpc 30 rfl <| ?_
        rw [show (3 : Int64) = lN 3 from rfl, lN_mul, ← Nat.pow_succ]
        refine zz_lstore_4 C (zle rfl) rfl dX11_fits_30 <| zz_iinc_6 C _ (zle rfl) rfl dX11_fits_32 nI_s <| zz_goto C 11 dX11_fits_35 (by decide) <| zpc 11 rfl <| ?_
        exact ih (by omega) (fun d e1 e2 => by rw [e1, nI_leI (by omega) (by omega)] at c14; omega)
  refine zz_aload_0 C dX11_fits_0 <| zz_iconst_0 C dX11_fits_1 <| zy_putI C fX11_104 pX11_0 (tM_K hT) dX11_fits_2 <| zz_lconst_1 C dX11_fits_5 <| zz_lstore_4 C (zle rfl) rfl dX11_fits_6 <| zz_iconst_0 C dX11_fits_8 <| zz_istore_6 C (zle rfl) rfl dX11_fits_9 <| zpc 11 rfl <| ?_
  exact la 0 (by omega) (fun _ _ _ => Nat.zero_le _)
end FJ
