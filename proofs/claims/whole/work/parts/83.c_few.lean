/-! ===== the class: fewest, lasts, seed, images, counts ===== -/
section CF
variable {E : zE} {b : Nat} {G : zG} {t : zT} {h : zH} {l : Launch} {a c e : Nat} {D : yD} {Mo : Nat × (Nat → Nat → Nat)} {R : Nat × (Nat → Nat)}
theorem c10_fewest0 (hX : zTX t a c e) (hlt : l.stackTraces = false) (hf : t.1.2 = false) (x y z : Int32) (hno : ¬ ((∃ k, 1 ≤ k ∧ k ≤ 99 ∧ x = nI k) ∧ (∃ k, 1 ≤ k ∧ k ≤ 99 ∧ y = nI k) ∧ ∃ k, k ≤ 2 ∧ z = nI k)) : zMetX E b l yX10_fewest cX10_fewest 6 (some .int) 8 1 6 [.ref (b + 0), .int x, .int y, .int z] t h xA := by
  refine zMetX.of (ls := [some (.ref (b + 0)), some (.int x), some (.int y), some (.int z), none, none]) hlt (by decide) (zle rfl) 2 rfl ?_
  intro G hlG C hR hE
  rw [← hlG] at hlt
  refine zz_iload_1 C dX10_fewest_0 <| zz_iconst_1 C dX10_fewest_1 <| zpc 2 rfl <| ?_
  refine zz_icmp_lt C 15 dX10_fewest_2 (by decide) (fun c2 => ?_) (fun c2 => ?_)
  · refine zz_iconst_0 C dX10_fewest_15 <| zpc 16 rfl <| ?_
    exact zx_callS C hR hE [_] (c10_demand0 hlt hf) lX10_76 rfl ⟨zle rfl, zle rfl, zle rfl, zle rfl⟩ (zle rfl) (zle rfl) (zle rfl) dX10_fewest_16
  · refine zz_iload_1 C dX10_fewest_5 <| zz_bipush C 99 dX10_fewest_6 (by decide) <| zpc 8 rfl <| ?_
    refine zz_icmp_gt C 15 dX10_fewest_8 (by decide) (fun c8 => ?_) (fun c8 => ?_)
    · refine zz_iconst_0 C dX10_fewest_15 <| zpc 16 rfl <| ?_
      exact zx_callS C hR hE [_] (c10_demand0 hlt hf) lX10_76 rfl ⟨zle rfl, zle rfl, zle rfl, zle rfl⟩ (zle rfl) (zle rfl) (zle rfl) dX10_fewest_16
    · refine zz_iconst_1 C dX10_fewest_11 <| zz_goto C 16 dX10_fewest_12 (by decide) <| zpc 16 rfl <| ?_
      refine zf_callSV C hR [_] (c10_demand1 _ (by decide)) lX10_76 rfl ⟨zle rfl, zle rfl, zle rfl, zle rfl⟩ (zle rfl) dX10_fewest_16 ?_
      refine zz_iload_2 C dX10_fewest_19 <| zz_iconst_1 C dX10_fewest_20 <| zpc 21 rfl <| ?_
      refine zz_icmp_lt C 34 dX10_fewest_21 (by decide) (fun c21 => ?_) (fun c21 => ?_)
      · refine zz_iconst_0 C dX10_fewest_34 <| zpc 35 rfl <| ?_
        exact zx_callS C hR hE [_] (c10_demand0 hlt hf) lX10_76 rfl ⟨zle rfl, zle rfl, zle rfl, zle rfl⟩ (zle rfl) (zle rfl) (zle rfl) dX10_fewest_35
      · refine zz_iload_2 C dX10_fewest_24 <| zz_bipush C 99 dX10_fewest_25 (by decide) <| zpc 27 rfl <| ?_
        refine zz_icmp_gt C 34 dX10_fewest_27 (by decide) (fun c27 => ?_) (fun c27 => ?_)
        · refine zz_iconst_0 C dX10_fewest_34 <| zpc 35 rfl <| ?_
          exact zx_callS C hR hE [_] (c10_demand0 hlt hf) lX10_76 rfl ⟨zle rfl, zle rfl, zle rfl, zle rfl⟩ (zle rfl) (zle rfl) (zle rfl) dX10_fewest_35
        · refine zz_iconst_1 C dX10_fewest_30 <| zz_goto C 35 dX10_fewest_31 (by decide) <| zpc 35 rfl <| ?_
          refine zf_callSV C hR [_] (c10_demand1 _ (by decide)) lX10_76 rfl ⟨zle rfl, zle rfl, zle rfl, zle rfl⟩ (zle rfl) dX10_fewest_35 ?_
          refine zz_iload_3 C dX10_fewest_38 <| zpc 39 rfl <| ?_
          refine zz_if_lt C 51 dX10_fewest_39 (by decide) (fun c39 => ?_) (fun c39 => ?_)
          · refine zz_iconst_0 C dX10_fewest_51 <| zpc 52 rfl <| ?_
            exact zx_callS C hR hE [_] (c10_demand0 hlt hf) lX10_76 rfl ⟨zle rfl, zle rfl, zle rfl, zle rfl⟩ (zle rfl) (zle rfl) (zle rfl) dX10_fewest_52
          · refine zz_iload_3 C dX10_fewest_42 <| zz_iconst_2 C dX10_fewest_43 <| zpc 44 rfl <| ?_
            refine zz_icmp_gt C 51 dX10_fewest_44 (by decide) (fun c44 => ?_) (fun c44 => ?_)
            · refine zz_iconst_0 C dX10_fewest_51 <| zpc 52 rfl <| ?_
              exact zx_callS C hR hE [_] (c10_demand0 hlt hf) lX10_76 rfl ⟨zle rfl, zle rfl, zle rfl, zle rfl⟩ (zle rfl) (zle rfl) (zle rfl) dX10_fewest_52
            · refine zz_iconst_1 C dX10_fewest_47 <| zz_goto C 52 dX10_fewest_48 (by decide) <| zpc 52 rfl <| ?_
              exact absurd ⟨(frTo 99 99 rfl (by omega)).mp ⟨Int32.not_lt.mp c2, Int32.not_lt.mp c8⟩, (frTo 99 99 rfl (by omega)).mp ⟨Int32.not_lt.mp c21, Int32.not_lt.mp c27⟩, (upTo 2 2 rfl (by omega)).mp ⟨Int32.not_lt.mp c39, Int32.not_lt.mp c44⟩⟩ hno
theorem c10_fewest1 {N : Nat} (hX : zTX t a c e) (hN : zI h a 5 = nI N) (hN3 : 3 ≤ N) (hN11 : N ≤ 11) (x y q : Nat) (ha1 : 1 ≤ x) (ha : x ≤ 99) (hc1 : 1 ≤ y) (hc : y ≤ 99) (hq : q ≤ 2) : zMet E b l yX10_fewest cX10_fewest 6 (some .int) 8 0 0 [.ref (b + 0), .int (nI x), .int (nI y), .int (nI q)] t h (qIf (oI (fFew N x y q)) t h) := by
  have hu : y / x ≤ 99 := Nat.le_trans (Nat.div_le_self _ _) hc
  have hu2 : (N + y / x - 1) / (y / x) ≤ 110 := Nat.le_trans (Nat.div_le_self _ _) (by omega)
  refine zMet.of (ls := [some (.ref (b + 0)), some (.int (nI x)), some (.int (nI y)), some (.int (nI q)), none, none]) (by decide) (zle rfl) 2 rfl ?_
  intro G hlG C hR hE hin
  have s94 : ¬ y / x = 0 → zAW E b G 6 0 0 94 [some (.ref (b + 0)), some (.int (nI x)), some (.int (nI y)), some (.int (nI q)), some (.int (nI ((y / x)))), some (.int (nI (((N + y / x - 1) / (y / x) + 1))))] [] t h := by
    intro c0
    obtain rfl | rfl | rfl : q = 0 ∨ q = 1 ∨ q = 2 := by omega
    ·
      refine zz_iload_3 C dX10_fewest_94 <| zz_lookup C 120 dX10_fewest_95 (by decide) (by first | rfl | decide) (by decide) <| zz_iload_5 C dX10_fewest_120 <| zpc 122 rfl <| ?_
      exact zf_ireturn C hE (zle rfl) (zle rfl) dX10_fewest_122 (by unfold fFew; rw [if_neg c0, if_pos rfl, Nat.add_comm 1]; rfl) rfl rfl
    ·
      refine zz_iload_3 C dX10_fewest_94 <| zz_lookup C 123 dX10_fewest_95 (by decide) (by first | rfl | decide) (by decide) <| zz_iload_4 C dX10_fewest_123 <| zpc 125 rfl <| ?_
      exact zf_ireturn C hE (zle rfl) (zle rfl) dX10_fewest_125 (by unfold fFew; rw [if_neg c0, if_neg (by omega), if_pos rfl]; rfl) rfl rfl
    ·
      refine zz_iload_3 C dX10_fewest_94 <| zz_lookup C 126 dX10_fewest_95 (by decide) (by first | rfl | decide) (by decide) <| zz_iload_5 C dX10_fewest_126 <| zz_iload_4 C dX10_fewest_128 <| zz_imul C dX10_fewest_130 <| zpc 131 rfl <| ?_
      exact zf_ireturn C hE (zle rfl) (zle rfl) dX10_fewest_131 (by unfold fFew; rw [if_neg c0, if_neg (by omega), if_neg (by omega), Nat.add_comm 1, pk_mul]; rfl) rfl rfl
  refine zz_iload_1 C dX10_fewest_0 <| zz_iconst_1 C dX10_fewest_1 <| zpc 2 rfl <| ?_
  refine zz_icmp_lt C 15 dX10_fewest_2 (by decide) (fun c2 => ?_) (fun c2 => ?_)
  · exact absurd c2 (nI_nlt (a := x) (b := 1) ha1 (by omega))
  · refine zz_iload_1 C dX10_fewest_5 <| zz_bipush C 99 dX10_fewest_6 (by decide) <| zpc 8 rfl <| ?_
    refine zz_icmp_gt C 15 dX10_fewest_8 (by decide) (fun c8 => ?_) (fun c8 => ?_)
    · exact absurd c8 (nI_nlt (a := 99) (b := x) ha (by omega))
    · refine zz_iconst_1 C dX10_fewest_11 <| zz_goto C 16 dX10_fewest_12 (by decide) <| zpc 16 rfl <| ?_
      refine zf_callSV C hR [_] (c10_demand1 _ (by decide)) lX10_76 rfl ⟨zle rfl, zle rfl, zle rfl, zle rfl⟩ (zle rfl) dX10_fewest_16 ?_
      refine zz_iload_2 C dX10_fewest_19 <| zz_iconst_1 C dX10_fewest_20 <| zpc 21 rfl <| ?_
      refine zz_icmp_lt C 34 dX10_fewest_21 (by decide) (fun c21 => ?_) (fun c21 => ?_)
      · exact absurd c21 (nI_nlt (a := y) (b := 1) hc1 (by omega))
      · refine zz_iload_2 C dX10_fewest_24 <| zz_bipush C 99 dX10_fewest_25 (by decide) <| zpc 27 rfl <| ?_
        refine zz_icmp_gt C 34 dX10_fewest_27 (by decide) (fun c27 => ?_) (fun c27 => ?_)
        · exact absurd c27 (nI_nlt (a := 99) (b := y) hc (by omega))
        · refine zz_iconst_1 C dX10_fewest_30 <| zz_goto C 35 dX10_fewest_31 (by decide) <| zpc 35 rfl <| ?_
          refine zf_callSV C hR [_] (c10_demand1 _ (by decide)) lX10_76 rfl ⟨zle rfl, zle rfl, zle rfl, zle rfl⟩ (zle rfl) dX10_fewest_35 ?_
          refine zz_iload_3 C dX10_fewest_38 <| zpc 39 rfl <| ?_
          refine zz_if_lt C 51 dX10_fewest_39 (by decide) (fun c39 => ?_) (fun c39 => ?_)
          · exact absurd c39 (nI_pos (by omega))
          · refine zz_iload_3 C dX10_fewest_42 <| zz_iconst_2 C dX10_fewest_43 <| zpc 44 rfl <| ?_
            refine zz_icmp_gt C 51 dX10_fewest_44 (by decide) (fun c44 => ?_) (fun c44 => ?_)
            · exact absurd c44 (nI_nlt (a := 2) (b := q) hq (by omega))
            · refine zz_iconst_1 C dX10_fewest_47 <| zz_goto C 52 dX10_fewest_48 (by decide) <| zpc 52 rfl <| ?_
              refine zf_callSV C hR [_] (c10_demand1 _ (by decide)) lX10_76 rfl ⟨zle rfl, zle rfl, zle rfl, zle rfl⟩ (zle rfl) dX10_fewest_52 ?_
              refine zz_iload_1 C dX10_fewest_55 <| zpc 56 rfl <| ?_
              refine zz_if_le C 65 dX10_fewest_56 (by decide) (fun c56 => ?_) (fun c56 => ?_)
              · rw [show (0 : Int32) = nI 0 from rfl, nI_leI (by omega) (by omega)] at c56; omega
              · refine zz_iload_2 C dX10_fewest_59 <| zz_iload_1 C dX10_fewest_60 <| zz_idiv C dX10_fewest_61 (by exact nI_ne0 (by omega) (by omega)) <| zpc 62 rfl <| ?_
                rw [pk_div (by omega) (by omega) (by omega)]
                refine zz_goto C 66 dX10_fewest_62 (by decide) <| zz_istore_4 C (zle rfl) rfl dX10_fewest_66 <| zz_iload_4 C dX10_fewest_68 <| zpc 70 rfl <| ?_
                refine zz_if_ne C 75 dX10_fewest_70 (by decide) (fun c70 => ?_) (fun c70 => ?_)
                · refine zz_aload_0 C dX10_fewest_75 <| zz_getR C fX10_19 (tX_K_X hX) (tX_R_land hX) dX10_fewest_76 <| zz_getI C fX10_63 (tL_K (tX_La hX)) dX10_fewest_79 <| zpc 82 rfl <| ?_
                  rw [hN]
                  refine zz_iload_4 C dX10_fewest_82 <| zz_iadd C dX10_fewest_84 <| zpc 85 rfl <| ?_
                  rw [nI_add]
                  refine zz_iconst_1 C dX10_fewest_85 <| zz_isub C dX10_fewest_86 <| zpc 87 rfl <| ?_
                  rw [show (1 : Int32) = nI 1 from rfl, pk_sub (Nat.le_trans (show 1 ≤ N by omega) (Nat.le_add_right N (y / x)))]
                  refine zz_iload_4 C dX10_fewest_87 <| zz_idiv C dX10_fewest_89 (by exact c70) <| zpc 90 rfl <| ?_
                  rw [pk_div (by omega) (Nat.pos_of_ne_zero (fun q => c70 (by rw [q]; rfl))) (by omega)]
                  refine zz_iconst_1 C dX10_fewest_90 <| zz_iadd C dX10_fewest_91 <| zpc 92 rfl <| ?_
                  rw [show (1 : Int32) = nI 1 from rfl, nI_add]
                  refine zz_istore_5 C (zle rfl) rfl dX10_fewest_92 <| zpc 94 rfl <| ?_
                  exact s94 (fun q => c70 (by rw [q]; rfl))
                · refine zz_iconst_m1 C dX10_fewest_73 <| zpc 74 rfl <| ?_
                  exact zf_ireturn C hE (zle rfl) (zle rfl) dX10_fewest_74 (by rw [show (0 : Int32) = nI 0 from rfl, nI_eq (by omega) (by omega)] at c70; unfold fFew; rw [if_pos c70]; rfl) rfl rfl
theorem c10_lasts0 (hX : zTX t a c e) (hlt : l.stackTraces = false) (hf : t.1.2 = false) (x y z : Int32) (hno : ¬ ((∃ k, 1 ≤ k ∧ k ≤ 4 ∧ x = nI k) ∧ (∃ k, 1 ≤ k ∧ k ≤ 99 ∧ y = nI k ∧ ∃ c, 1 ≤ c ∧ c ≤ 9 * k ∧ z = nI c))) : zMetX E b l yX10_lasts cX10_lasts 5 (some .int) 8 1 6 [.ref (b + 0), .int x, .int y, .int z] t h xA := by
  refine zMetX.of (ls := [some (.ref (b + 0)), some (.int x), some (.int y), some (.int z), none]) hlt (by decide) (zle rfl) 1 rfl ?_
  intro G hlG C hR hE
  rw [← hlG] at hlt
  refine zz_iload_1 C dX10_lasts_0 <| zz_iconst_1 C dX10_lasts_1 <| zpc 2 rfl <| ?_
  refine zz_icmp_lt C 14 dX10_lasts_2 (by decide) (fun c2 => ?_) (fun c2 => ?_)
  · refine zz_iconst_0 C dX10_lasts_14 <| zpc 15 rfl <| ?_
    exact zx_callS C hR hE [_] (c10_demand0 hlt hf) lX10_76 rfl ⟨zle rfl, zle rfl, zle rfl, zle rfl⟩ (zle rfl) (zle rfl) (zle rfl) dX10_lasts_15
  · refine zz_iload_1 C dX10_lasts_5 <| zz_iconst_4 C dX10_lasts_6 <| zpc 7 rfl <| ?_
    refine zz_icmp_gt C 14 dX10_lasts_7 (by decide) (fun c7 => ?_) (fun c7 => ?_)
    · refine zz_iconst_0 C dX10_lasts_14 <| zpc 15 rfl <| ?_
      exact zx_callS C hR hE [_] (c10_demand0 hlt hf) lX10_76 rfl ⟨zle rfl, zle rfl, zle rfl, zle rfl⟩ (zle rfl) (zle rfl) (zle rfl) dX10_lasts_15
    · refine zz_iconst_1 C dX10_lasts_10 <| zz_goto C 15 dX10_lasts_11 (by decide) <| zpc 15 rfl <| ?_
      refine zf_callSV C hR [_] (c10_demand1 _ (by decide)) lX10_76 rfl ⟨zle rfl, zle rfl, zle rfl, zle rfl⟩ (zle rfl) dX10_lasts_15 ?_
      refine zz_iload_2 C dX10_lasts_18 <| zz_iconst_1 C dX10_lasts_19 <| zpc 20 rfl <| ?_
      refine zz_icmp_lt C 33 dX10_lasts_20 (by decide) (fun c20 => ?_) (fun c20 => ?_)
      · refine zz_iconst_0 C dX10_lasts_33 <| zpc 34 rfl <| ?_
        exact zx_callS C hR hE [_] (c10_demand0 hlt hf) lX10_76 rfl ⟨zle rfl, zle rfl, zle rfl, zle rfl⟩ (zle rfl) (zle rfl) (zle rfl) dX10_lasts_34
      · refine zz_iload_2 C dX10_lasts_23 <| zz_bipush C 99 dX10_lasts_24 (by decide) <| zpc 26 rfl <| ?_
        refine zz_icmp_gt C 33 dX10_lasts_26 (by decide) (fun c26 => ?_) (fun c26 => ?_)
        · refine zz_iconst_0 C dX10_lasts_33 <| zpc 34 rfl <| ?_
          exact zx_callS C hR hE [_] (c10_demand0 hlt hf) lX10_76 rfl ⟨zle rfl, zle rfl, zle rfl, zle rfl⟩ (zle rfl) (zle rfl) (zle rfl) dX10_lasts_34
        · refine zz_iconst_1 C dX10_lasts_29 <| zz_goto C 34 dX10_lasts_30 (by decide) <| zpc 34 rfl <| ?_
          refine zf_callSV C hR [_] (c10_demand1 _ (by decide)) lX10_76 rfl ⟨zle rfl, zle rfl, zle rfl, zle rfl⟩ (zle rfl) dX10_lasts_34 ?_
          refine zz_iload_3 C dX10_lasts_37 <| zz_iconst_1 C dX10_lasts_38 <| zpc 39 rfl <| ?_
          refine zz_icmp_lt C 54 dX10_lasts_39 (by decide) (fun c39 => ?_) (fun c39 => ?_)
          · refine zz_iconst_0 C dX10_lasts_54 <| zpc 55 rfl <| ?_
            exact zx_callS C hR hE [_] (c10_demand0 hlt hf) lX10_76 rfl ⟨zle rfl, zle rfl, zle rfl, zle rfl⟩ (zle rfl) (zle rfl) (zle rfl) dX10_lasts_55
          · refine zz_iload_3 C dX10_lasts_42 <| zz_bipush C 9 dX10_lasts_43 (by decide) <| zz_iload_2 C dX10_lasts_45 <| zz_imul C dX10_lasts_46 <| zpc 47 rfl <| ?_
            refine zz_icmp_gt C 54 dX10_lasts_47 (by decide) (fun c47 => ?_) (fun c47 => ?_)
            · refine zz_iconst_0 C dX10_lasts_54 <| zpc 55 rfl <| ?_
              exact zx_callS C hR hE [_] (c10_demand0 hlt hf) lX10_76 rfl ⟨zle rfl, zle rfl, zle rfl, zle rfl⟩ (zle rfl) (zle rfl) (zle rfl) dX10_lasts_55
            · refine zz_iconst_1 C dX10_lasts_50 <| zz_goto C 55 dX10_lasts_51 (by decide) <| zpc 55 rfl <| ?_
              obtain ⟨j, hj1, hj, rfl⟩ := (frTo 99 99 rfl (by omega)).mp ⟨Int32.not_lt.mp c20, Int32.not_lt.mp c26⟩
              rw [show (9 : Int32) = nI 9 from rfl, pk_mul] at c47
              exact absurd ⟨(frTo 4 4 rfl (by omega)).mp ⟨Int32.not_lt.mp c2, Int32.not_lt.mp c7⟩, j, hj1, hj, rfl, (frTo _ (9 * j) rfl (by omega)).mp ⟨Int32.not_lt.mp c39, Int32.not_lt.mp c47⟩⟩ hno
theorem c10_lasts1 {N : Nat} (hX : zTX t a c e) (hN : zI h a 5 = nI N) (hN3 : 3 ≤ N) (hN11 : N ≤ 11) (k x y : Nat) (hk1 : 1 ≤ k) (hk : k ≤ 4) (ha1 : 1 ≤ x) (ha : x ≤ 99) (hc1 : 1 ≤ y) (hc : y ≤ 9 * x) : zMet E b l yX10_lasts cX10_lasts 5 (some .int) 8 0 0 [.ref (b + 0), .int (nI k), .int (nI x), .int (nI y)] t h (qIf (oI (fLst N k x y)) t h) := by
  have hu : y / x ≤ 9 * 99 := Nat.le_trans (Nat.div_le_self _ _) (by omega)
  have hm1 : (k - 1) * (y / x) ≤ 3 * (9 * 99) := Nat.mul_le_mul (by omega) hu
  refine zMet.of (ls := [some (.ref (b + 0)), some (.int (nI k)), some (.int (nI x)), some (.int (nI y)), none]) (by decide) (zle rfl) 1 rfl ?_
  intro G hlG C hR hE hin
  refine zz_iload_1 C dX10_lasts_0 <| zz_iconst_1 C dX10_lasts_1 <| zpc 2 rfl <| ?_
  refine zz_icmp_lt C 14 dX10_lasts_2 (by decide) (fun c2 => ?_) (fun c2 => ?_)
  · exact absurd c2 (nI_nlt (a := k) (b := 1) hk1 (by omega))
  · refine zz_iload_1 C dX10_lasts_5 <| zz_iconst_4 C dX10_lasts_6 <| zpc 7 rfl <| ?_
    refine zz_icmp_gt C 14 dX10_lasts_7 (by decide) (fun c7 => ?_) (fun c7 => ?_)
    · exact absurd c7 (nI_nlt (a := 4) (b := k) hk (by omega))
    · refine zz_iconst_1 C dX10_lasts_10 <| zz_goto C 15 dX10_lasts_11 (by decide) <| zpc 15 rfl <| ?_
      refine zf_callSV C hR [_] (c10_demand1 _ (by decide)) lX10_76 rfl ⟨zle rfl, zle rfl, zle rfl, zle rfl⟩ (zle rfl) dX10_lasts_15 ?_
      refine zz_iload_2 C dX10_lasts_18 <| zz_iconst_1 C dX10_lasts_19 <| zpc 20 rfl <| ?_
      refine zz_icmp_lt C 33 dX10_lasts_20 (by decide) (fun c20 => ?_) (fun c20 => ?_)
      · exact absurd c20 (nI_nlt (a := x) (b := 1) ha1 (by omega))
      · refine zz_iload_2 C dX10_lasts_23 <| zz_bipush C 99 dX10_lasts_24 (by decide) <| zpc 26 rfl <| ?_
        refine zz_icmp_gt C 33 dX10_lasts_26 (by decide) (fun c26 => ?_) (fun c26 => ?_)
        · exact absurd c26 (nI_nlt (a := 99) (b := x) ha (by omega))
        · refine zz_iconst_1 C dX10_lasts_29 <| zz_goto C 34 dX10_lasts_30 (by decide) <| zpc 34 rfl <| ?_
          refine zf_callSV C hR [_] (c10_demand1 _ (by decide)) lX10_76 rfl ⟨zle rfl, zle rfl, zle rfl, zle rfl⟩ (zle rfl) dX10_lasts_34 ?_
          refine zz_iload_3 C dX10_lasts_37 <| zz_iconst_1 C dX10_lasts_38 <| zpc 39 rfl <| ?_
          refine zz_icmp_lt C 54 dX10_lasts_39 (by decide) (fun c39 => ?_) (fun c39 => ?_)
          · exact absurd c39 (nI_nlt (a := y) (b := 1) hc1 (by omega))
          · refine zz_iload_3 C dX10_lasts_42 <| zz_bipush C 9 dX10_lasts_43 (by decide) <| zz_iload_2 C dX10_lasts_45 <| zz_imul C dX10_lasts_46 <| zpc 47 rfl <| ?_
            rw [show (9 : Int32) = nI 9 from rfl, pk_mul]
            refine zz_icmp_gt C 54 dX10_lasts_47 (by decide) (fun c47 => ?_) (fun c47 => ?_)
            · exact absurd c47 (nI_nlt hc (by omega))
            · refine zz_iconst_1 C dX10_lasts_50 <| zz_goto C 55 dX10_lasts_51 (by decide) <| zpc 55 rfl <| ?_
              refine zf_callSV C hR [_] (c10_demand1 _ (by decide)) lX10_76 rfl ⟨zle rfl, zle rfl, zle rfl, zle rfl⟩ (zle rfl) dX10_lasts_55 ?_
              refine zz_iload_2 C dX10_lasts_58 <| zpc 59 rfl <| ?_
              refine zz_if_le C 68 dX10_lasts_59 (by decide) (fun c59 => ?_) (fun c59 => ?_)
              · rw [show (0 : Int32) = nI 0 from rfl, nI_leI (by omega) (by omega)] at c59; omega
              · refine zz_iload_3 C dX10_lasts_62 <| zz_iload_2 C dX10_lasts_63 <| zz_idiv C dX10_lasts_64 (by exact nI_ne0 (by omega) (by omega)) <| zpc 65 rfl <| ?_
                rw [pk_div (by omega) (by omega) (by omega)]
                refine zz_goto C 69 dX10_lasts_65 (by decide) <| zz_istore_4 C (zle rfl) rfl dX10_lasts_69 <| zz_iload_1 C dX10_lasts_71 <| zz_iconst_1 C dX10_lasts_72 <| zz_isub C dX10_lasts_73 <| zpc 74 rfl <| ?_
                rw [show (1 : Int32) = nI 1 from rfl, pk_sub hk1]
                refine zz_iload_4 C dX10_lasts_74 <| zz_imul C dX10_lasts_76 <| zpc 77 rfl <| ?_
                rw [pk_mul]
                refine zz_aload_0 C dX10_lasts_77 <| zz_getR C fX10_19 (tX_K_X hX) (tX_R_land hX) dX10_lasts_78 <| zz_getI C fX10_63 (tL_K (tX_La hX)) dX10_lasts_81 <| zpc 84 rfl <| ?_
                rw [hN]
                refine zz_icmp_lt C 91 dX10_lasts_84 (by decide) (fun c84 => ?_) (fun c84 => ?_)
                · rw [nI_ltI (by omega) (by omega)] at c84
                  refine zz_iload_1 C dX10_lasts_91 <| zz_iload_4 C dX10_lasts_92 <| zz_imul C dX10_lasts_94 <| zpc 95 rfl <| ?_
                  first | rw [pk_mul] | skip
                  refine zf_ireturn C hE (zle rfl) (zle rfl) dX10_lasts_95 ?_ rfl rfl
                  unfold fLst
                  first
                    | (rw [if_pos (by omega)]; rfl)
                    | (rw [if_neg (by omega)]; rfl)
                · rw [nI_ltI (by omega) (by omega)] at c84
                  refine zz_iconst_m1 C dX10_lasts_87 <| zz_goto C 95 dX10_lasts_88 (by decide) <| zpc 95 rfl <| ?_
                  first | rw [pk_mul] | skip
                  refine zf_ireturn C hE (zle rfl) (zle rfl) dX10_lasts_95 ?_ rfl rfl
                  unfold fLst
                  first
                    | (rw [if_pos (by omega)]; rfl)
                    | (rw [if_neg (by omega)]; rfl)
theorem c10_count0 (hX : zTX t a c e) (hm : cSn h a D Mo R) {ic tp : Nat} (hi : zI h 0 4 = nI ic) (ht : zI h 1 0 = nI tp) : zMet E b l yX10_count cX10_count 2 (some .int) 1 0 0 [.ref (b + 0), .int 0] t h (qIf (nI R.1) t h) := by
  refine zMet.of (ls := [some (.ref (b + 0)), some (.int 0)]) (by decide) (zle rfl) 0 rfl ?_
  intro G hlG C hR hE hin
  refine zz_iload_1 C dX10_count_0 <| zz_tableIn C 28 dX10_count_1 (by decide) (by decide) (by first | rfl | decide) (by decide) <| zz_aload_0 C dX10_count_28 <| zz_getR C fX10_26 (tX_K_X hX) (tX_R_now hX) dX10_count_29 <| zz_getI C fX10_212 (tS_K (tX_S68 hX)) dX10_count_32 <| zpc 35 rfl <| ?_
  exact zf_ireturn C hE (zle rfl) (zle rfl) dX10_count_35 (by exact hm.2.2.2.1.2) rfl rfl
theorem c10_count1 (hX : zTX t a c e) (hm : cSn h a D Mo R) {ic tp : Nat} (hi : zI h 0 4 = nI ic) (ht : zI h 1 0 = nI tp) : zMet E b l yX10_count cX10_count 2 (some .int) 1 0 0 [.ref (b + 0), .int 1] t h (qIf (nI ic) t h) := by
  refine zMet.of (ls := [some (.ref (b + 0)), some (.int 1)]) (by decide) (zle rfl) 0 rfl ?_
  intro G hlG C hR hE hin
  refine zz_iload_1 C dX10_count_0 <| zz_tableIn C 36 dX10_count_1 (by decide) (by decide) (by first | rfl | decide) (by decide) <| zz_aload_0 C dX10_count_36 <| zz_getI C fX10_34 (tX_K_X hX) dX10_count_37 <| zpc 40 rfl <| ?_
  exact zf_ireturn C hE (zle rfl) (zle rfl) dX10_count_40 (by exact hi) rfl rfl
theorem c10_count2 (hX : zTX t a c e) (hm : cSn h a D Mo R) {ic tp : Nat} (hi : zI h 0 4 = nI ic) (ht : zI h 1 0 = nI tp) : zMet E b l yX10_count cX10_count 2 (some .int) 1 0 0 [.ref (b + 0), .int 2] t h (qIf (nI tp) t h) := by
  refine zMet.of (ls := [some (.ref (b + 0)), some (.int 2)]) (by decide) (zle rfl) 0 rfl ?_
  intro G hlG C hR hE hin
  refine zz_iload_1 C dX10_count_0 <| zz_tableIn C 41 dX10_count_1 (by decide) (by decide) (by first | rfl | decide) (by decide) <| zz_aload_0 C dX10_count_41 <| zz_getR C fX10_10 (tX_K_X hX) (tX_R_reader hX) dX10_count_42 <| zz_getI C fX10_70 (tX_K_reader hX) dX10_count_45 <| zpc 48 rfl <| ?_
  exact zf_ireturn C hE (zle rfl) (zle rfl) dX10_count_48 (by exact ht) rfl rfl
theorem c10_count (hX : zTX t a c e) (hm : cSn h a D Mo R) (x : Int32) {ic tp : Nat} (hi : zI h 0 4 = nI ic) (ht : zI h 1 0 = nI tp) : zMet E b l yX10_count cX10_count 2 (some .int) 1 0 0 [.ref (b + 0), .int x] t h (qIf (if x = 0 then nI R.1 else if x = 1 then nI ic else if x = 2 then nI tp else -1) t h) := by
  by_cases x0 : x = 0
  · rw [x0, if_pos rfl]; exact c10_count0 hX hm hi ht
  by_cases x1 : x = 1
  · rw [x1, if_neg (by decide), if_pos rfl]; exact c10_count1 hX hm hi ht
  by_cases x2 : x = 2
  · rw [x2, if_neg (by decide), if_neg (by decide), if_pos rfl]; exact c10_count2 hX hm hi ht
  rw [if_neg x0, if_neg x1, if_neg x2]
  have hx : x.toInt < 0 ∨ 2 < x.toInt := by
    rw [← Int32.toInt_inj] at x0 x1 x2
    have e0 : (0 : Int32).toInt = 0 := rfl
    have e1 : (1 : Int32).toInt = 1 := rfl
    have e2 : (2 : Int32).toInt = 2 := rfl
    omega
  refine zMet.of (ls := [some (.ref (b + 0)), some (.int x)]) (by decide) (zle rfl) 0 rfl ?_
  intro G hlG C hR hE hin
  refine zz_iload_1 C dX10_count_0 <| zz_tableOut C 49 dX10_count_1 (by exact hx) (by decide) <| zz_iconst_m1 C dX10_count_49 <| zpc 50 rfl <| ?_
  exact zf_ireturn C hE (zle rfl) (zle rfl) dX10_count_50 (by rfl) rfl rfl
theorem c10_image2 (hX : zTX t a c e) (hi : zI h 0 4 = nI 3) : zMet E b l yX10_image cX10_image 1 (some .int) 2 0 0 [.ref (b + 0)] t h (qIf (-1) t h) := by
  refine zMet.of (ls := [some (.ref (b + 0))]) (by decide) (zle rfl) 0 rfl ?_
  intro G hlG C hR hE hin
  refine zz_aload_0 C dX10_image_0 <| zz_getI C fX10_34 (tX_K_X hX) dX10_image_1 <| zpc 4 rfl <| ?_
  rw [hi]
  refine zz_aload_0 C dX10_image_4 <| zz_getR C fX10_30 (tX_K_X hX) (tX_R_images hX) dX10_image_5 <| zz_alenS C (tX_K_images hX) dX10_image_8 <| zpc 9 rfl <| ?_
  refine zz_icmp_lt C 14 dX10_image_9 (by decide) (fun c9 => ?_) (fun c9 => ?_)
  · exact absurd c9 (by decide)
  · refine zz_iconst_m1 C dX10_image_12 <| zpc 13 rfl <| ?_
    exact zf_ireturn C hE (zle rfl) (zle rfl) dX10_image_13 rfl rfl rfl
theorem c10_image1 (hX : zTX t a c e) {k : Nat} (hk : k < 3) (hi : zI h 0 4 = nI k) : zMet E b l yX10_image cX10_image 1 (some .int) 2 0 0 [.ref (b + 0)] t h (qI (fun v t' h' => v = nI (k + 1) ∧ t' = t ∧ ∃ h2, cTk h (145 + 4 * k) 68 h2 ∧ h' = zsI h2 0 4 (nI (k + 1)))) := by
  refine zMet.of (ls := [some (.ref (b + 0))]) (by decide) (zle rfl) 0 rfl ?_
  intro G hlG C hR hE hin
  refine zz_aload_0 C dX10_image_0 <| zz_getI C fX10_34 (tX_K_X hX) dX10_image_1 <| zpc 4 rfl <| ?_
  rw [hi]
  refine zz_aload_0 C dX10_image_4 <| zz_getR C fX10_30 (tX_K_X hX) (tX_R_images hX) dX10_image_5 <| zz_alenS C (tX_K_images hX) dX10_image_8 <| zpc 9 rfl <| ?_
  refine zz_icmp_lt C 14 dX10_image_9 (by decide) (fun c9 => ?_) (fun c9 => ?_)
  · rw [show Int32.ofNat 3 = nI 3 from rfl, nI_ltI (by omega) (by omega)] at c9
    refine zz_aload_0 C dX10_image_14 <| zz_getR C fX10_30 (tX_K_X hX) (tX_R_images hX) dX10_image_15 <| zz_aload_0 C dX10_image_18 <| zz_getI C fX10_34 (tX_K_X hX) dX10_image_19 <| zpc 22 rfl <| ?_
    rw [hi]
    refine zc_aaloadS C _ (tX_K_images hX) (tX_row_images hX _ (by omega)) (znI (by omega)) (by omega) dX10_image_22 <| zz_aload_0 C dX10_image_23 <| zz_getR C fX10_26 (tX_K_X hX) (tX_R_now hX) dX10_image_24 <| zpc 27 rfl <| ?_
    refine zy_callVV C hR [_] (c6_take (tX_Simages hX k hk) (tX_S68 hX) (by omega)) lX10_175 rfl (tS_K (tX_Simages hX _ (by omega))) (by decide) rfl ⟨zle rfl, zle rfl, zle rfl, zle rfl⟩ (zle rfl) dX10_image_27 ?_
    intro t2 h2 hv; obtain ⟨rfl, tk⟩ := hv; have hi2 : zI h2 0 4 = nI k := (tk.1.1 _ _ (by omega)).trans hi
    refine zz_aload_0 C dX10_image_30 <| zz_dup C dX10_image_31 rfl <| zz_getI C fX10_34 (tX_K_X hX) dX10_image_32 <| zpc 35 rfl <| ?_
    rw [hi2]
    refine zz_iconst_1 C dX10_image_35 <| zz_iadd C dX10_image_36 <| zpc 37 rfl <| ?_
    rw [show (1 : Int32) = nI 1 from rfl, nI_add]
    refine zy_putI C fX10_34 pX10_4 (tX_K_X hX) dX10_image_37 <| zz_aload_0 C dX10_image_40 <| zz_getI C fX10_34 (tX_K_X hX) dX10_image_41 <| zpc 44 rfl <| ?_
    refine zy_ireturn C hE (zle rfl) (zle rfl) dX10_image_44 ?_
    exact ⟨zI_self _ _ _ _, rfl, h2, tk, rfl⟩
  · rw [show Int32.ofNat 3 = nI 3 from rfl, nI_ltI (by omega) (by omega)] at c9
    omega
theorem c10_on2 (hX : zTX t a c e) (hi : zI h 0 4 = 0) : zMet E b l yX10_on cX10_on 1 (some .int) 2 0 0 [.ref (b + 0)] t h (qIf (-1) t h) := by
  refine zMet.of (ls := [some (.ref (b + 0))]) (by decide) (zle rfl) 0 rfl ?_
  intro G hlG C hR hE hin
  refine zz_aload_0 C dX10_on_0 <| zz_getI C fX10_34 (tX_K_X hX) dX10_on_1 <| zpc 4 rfl <| ?_
  rw [hi]
  refine zz_if_gt C 9 dX10_on_4 (by decide) (fun c4 => ?_) (fun c4 => ?_)
  · exact absurd c4 (by decide)
  · refine zz_iconst_m1 C dX10_on_7 <| zpc 8 rfl <| ?_
    exact zf_ireturn C hE (zle rfl) (zle rfl) dX10_on_8 rfl rfl rfl
theorem c10_on1 (hX : zTX t a c e) {k : Nat} (hk : k < 3) (hi : zI h 0 4 = nI (k + 1)) : zMet E b l yX10_on cX10_on 1 (some .int) 2 0 0 [.ref (b + 0)] t h (qI (fun v t' h' => v = nI k ∧ t' = t ∧ cTk (zsI h 0 4 (nI k)) 68 (145 + 4 * k) h')) := by
  have hi3 : zI (zsI h 0 4 (nI k)) 0 4 = nI k := zI_self _ _ _ _
  refine zMet.of (ls := [some (.ref (b + 0))]) (by decide) (zle rfl) 0 rfl ?_
  intro G hlG C hR hE hin
  refine zz_aload_0 C dX10_on_0 <| zz_getI C fX10_34 (tX_K_X hX) dX10_on_1 <| zpc 4 rfl <| ?_
  rw [hi]
  refine zz_if_gt C 9 dX10_on_4 (by decide) (fun c4 => ?_) (fun c4 => ?_)
  · refine zz_aload_0 C dX10_on_9 <| zz_dup C dX10_on_10 rfl <| zz_getI C fX10_34 (tX_K_X hX) dX10_on_11 <| zpc 14 rfl <| ?_
    rw [hi]
    refine zz_iconst_1 C dX10_on_14 <| zz_isub C dX10_on_15 <| zpc 16 rfl <| ?_
    rw [show (1 : Int32) = nI 1 from rfl, pk_sub (by omega), Nat.add_sub_cancel]
    refine zy_putI C fX10_34 pX10_4 (tX_K_X hX) dX10_on_16 <| zz_aload_0 C dX10_on_19 <| zz_getR C fX10_26 (tX_K_X hX) (tX_R_now hX) dX10_on_20 <| zz_aload_0 C dX10_on_23 <| zz_getR C fX10_30 (tX_K_X hX) (tX_R_images hX) dX10_on_24 <| zz_aload_0 C dX10_on_27 <| zz_getI C fX10_34 (tX_K_X hX) dX10_on_28 <| zpc 31 rfl <| ?_
    rw [hi3]
    refine zc_aaloadS C _ (tX_K_images hX) (tX_row_images hX _ (by omega)) (znI (by omega)) (by omega) dX10_on_31 <| zpc 32 rfl <| ?_
    refine zy_callVV C hR [_] (c6_take (tX_S68 hX) (tX_Simages hX k hk) (by omega)) lX10_175 rfl (tS_K (tX_S68 hX)) (by decide) rfl ⟨zle rfl, zle rfl, zle rfl, zle rfl⟩ (zle rfl) dX10_on_32 ?_
    intro t2 h2 hv; obtain ⟨rfl, tk⟩ := hv
    refine zz_aload_0 C dX10_on_35 <| zz_getI C fX10_34 (tX_K_X hX) dX10_on_36 <| zpc 39 rfl <| ?_
    refine zy_ireturn C hE (zle rfl) (zle rfl) dX10_on_39 ?_
    exact ⟨(tk.1.1 _ _ (by omega)).trans hi3, rfl, tk⟩
  · rw [show (0 : Int32) = nI 0 from rfl, nI_ltI (by omega) (by omega)] at c4; omega
theorem c10_seed0 (hX : zTX t a c e) (hlt : l.stackTraces = false) (hf : t.1.2 = false) (r d s q : Int32) (hno : ¬ ((∃ k n, k ≤ 3 ∧ 1 ≤ n ∧ n ≤ 366 ∧ r = nI k ∧ d = nI n) ∧ ∃ k, k ≤ 2 ∧ q = nI k)) : zMetX E b l yX10_seed cX10_seed 7 (some .long) 8 1 6 [.ref (b + 0), .int r, .int d, .int s, .int q] t h xA := by
  refine zMetX.of (ls := [some (.ref (b + 0)), some (.int r), some (.int d), some (.int s), some (.int q), none, none]) hlt (by decide) (zle rfl) 2 rfl ?_
  intro G hlG C hR hE
  rw [← hlG] at hlt
  by_cases hr : ∃ k, k ≤ 3 ∧ r = nI k
  · obtain ⟨k, hk, rfl⟩ := hr
    by_cases hd : ∃ k, 1 ≤ k ∧ k ≤ 366 ∧ d = nI k
    · obtain ⟨n, h1, h2, rfl⟩ := hd
      refine zz_iload_1 C dX10_seed_0 <| zpc 1 rfl <| ?_
      refine zf_callSV C hR [_] (c10_rule1 k hk) lX10_189 rfl ⟨zle rfl, zle rfl, zle rfl, zle rfl⟩ (zle rfl) dX10_seed_1 ?_
      refine zz_iload_2 C dX10_seed_4 <| zpc 5 rfl <| ?_
      refine zf_callSV C hR [_] (c10_days1 n h1 h2) lX10_192 rfl ⟨zle rfl, zle rfl, zle rfl, zle rfl⟩ (zle rfl) dX10_seed_5 ?_
      refine zz_iload_4 C dX10_seed_8 <| zpc 10 rfl <| ?_
      refine zz_if_lt C 23 dX10_seed_10 (by decide) (fun c10 => ?_) (fun c10 => ?_)
      · refine zz_iconst_0 C dX10_seed_23 <| zpc 24 rfl <| ?_
        exact zx_callS C hR hE [_] (c10_demand0 hlt hf) lX10_76 rfl ⟨zle rfl, zle rfl, zle rfl, zle rfl⟩ (zle rfl) (zle rfl) (zle rfl) dX10_seed_24
      · refine zz_iload_4 C dX10_seed_13 <| zz_iconst_2 C dX10_seed_15 <| zpc 16 rfl <| ?_
        refine zz_icmp_gt C 23 dX10_seed_16 (by decide) (fun c16 => ?_) (fun c16 => ?_)
        · refine zz_iconst_0 C dX10_seed_23 <| zpc 24 rfl <| ?_
          exact zx_callS C hR hE [_] (c10_demand0 hlt hf) lX10_76 rfl ⟨zle rfl, zle rfl, zle rfl, zle rfl⟩ (zle rfl) (zle rfl) (zle rfl) dX10_seed_24
        · refine zz_iconst_1 C dX10_seed_19 <| zz_goto C 24 dX10_seed_20 (by decide) <| zpc 24 rfl <| ?_
          exact absurd ⟨⟨k, n, hk, h1, h2, rfl, rfl⟩, (upTo 2 2 rfl (by omega)).mp ⟨Int32.not_lt.mp c10, Int32.not_lt.mp c16⟩⟩ hno
    ·
      refine zz_iload_1 C dX10_seed_0 <| zpc 1 rfl <| ?_
      refine zf_callSV C hR [_] (c10_rule1 k hk) lX10_189 rfl ⟨zle rfl, zle rfl, zle rfl, zle rfl⟩ (zle rfl) dX10_seed_1 ?_
      refine zz_iload_2 C dX10_seed_4 <| zpc 5 rfl <| ?_
      exact zx_callS C hR hE [_] (c10_days0 hlt hf d hd) lX10_192 rfl ⟨zle rfl, zle rfl, zle rfl, zle rfl⟩ (zle rfl) (zle rfl) (zle rfl) dX10_seed_5
  ·
    refine zz_iload_1 C dX10_seed_0 <| zpc 1 rfl <| ?_
    exact zx_callS C hR hE [_] (c10_rule0 hlt hf r hr) lX10_189 rfl ⟨zle rfl, zle rfl, zle rfl, zle rfl⟩ (zle rfl) (zle rfl) (zle rfl) dX10_seed_1
theorem c10_seed2 (hX : zTX t a c e) (hlt : l.stackTraces = false) (hf : t.1.2 = false) (hm : cSn h a D Mo R) (d q : Nat) (s : Int32) (hd1 : 1 ≤ d) (hd : d ≤ 366) (hq : q ≤ 2) (hR0 : R.1 = 0) : zMetX E b l yX10_seed cX10_seed 7 (some .long) 8 1 6 [.ref (b + 0), .int (nI 1), .int (nI d), .int s, .int (nI q)] t h xS := by
  have hr0 : zI h 68 4 = 0 := by rw [hm.2.2.2.1.2, hR0]; rfl
  refine zMetX.of (ls := [some (.ref (b + 0)), some (.int (nI 1)), some (.int (nI d)), some (.int s), some (.int (nI q)), none, none]) hlt (by decide) (zle rfl) 2 rfl ?_
  intro G hlG C hR hE
  rw [← hlG] at hlt
  refine zz_iload_1 C dX10_seed_0 <| zpc 1 rfl <| ?_
  refine zf_callSV C hR [_] (c10_rule1 1 (by omega)) lX10_189 rfl ⟨zle rfl, zle rfl, zle rfl, zle rfl⟩ (zle rfl) dX10_seed_1 ?_
  refine zz_iload_2 C dX10_seed_4 <| zpc 5 rfl <| ?_
  refine zf_callSV C hR [_] (c10_days1 d hd1 hd) lX10_192 rfl ⟨zle rfl, zle rfl, zle rfl, zle rfl⟩ (zle rfl) dX10_seed_5 ?_
  refine zz_iload_4 C dX10_seed_8 <| zpc 10 rfl <| ?_
  refine zz_if_lt C 23 dX10_seed_10 (by decide) (fun c10 => ?_) (fun c10 => ?_)
  · exact absurd c10 (nI_pos (by omega))
  · refine zz_iload_4 C dX10_seed_13 <| zz_iconst_2 C dX10_seed_15 <| zpc 16 rfl <| ?_
    refine zz_icmp_gt C 23 dX10_seed_16 (by decide) (fun c16 => ?_) (fun c16 => ?_)
    · exact absurd c16 (nI_nlt (a := 2) hq (by omega))
    · refine zz_iconst_1 C dX10_seed_19 <| zz_goto C 24 dX10_seed_20 (by decide) <| zpc 24 rfl <| ?_
      refine zf_callSV C hR [_] (c10_demand1 _ (by decide)) lX10_76 rfl ⟨zle rfl, zle rfl, zle rfl, zle rfl⟩ (zle rfl) dX10_seed_24 ?_
      refine zz_aload_0 C dX10_seed_27 <| zz_iload_1 C dX10_seed_28 <| zpc 29 rfl <| ?_
      exact zx_callV C hR hE [_] (c10_rowFor0 hX hlt hf hr0) lX10_195 rfl (tX_K_X hX) (by decide) rfl ⟨zle rfl, zle rfl, zle rfl, zle rfl⟩ (zle rfl) (zle rfl) (zle rfl) dX10_seed_29
end CF
