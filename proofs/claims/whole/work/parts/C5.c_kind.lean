/-! ===== the class: words and their kinds ===== -/
section CKD
variable {E : zE} {b : Nat} {G : zG} {t : zT} {h : zH} {l : Launch} {a c e : Nat} {B : Nat → Nat} {n : Nat} {w : List Nat} {sa : Nat}
theorem c3_isWord (hX : zTX t a c e) (ht : txOk B n) (hx : cTx h B n) (k j : Nat) (hkj : k ≤ j) (hj : j ≤ n) (ha : zI h 1 7 = nI j) (hg : zSg E b w sa) (hw : wSm w) : zMet E b l yX3_isWord cX3_isWord 4 (some .boolean) 6 0 0 [.ref (b + 1), .int (nI k), .ref sa] t h (qIf (zb (isW B k j w)) t h) := by
  have hn := ht.1
  have h8 := hw.1
  refine zMet.of (ls := [some (.ref (b + 1)), some (.int (nI k)), some (.ref sa), none]) (by decide) (zle rfl) 1 rfl ?_
  intro G hlG C hR hE hin
  have lp : j - k = w.length → ∀ i, i ≤ w.length → (∀ q, q < i → B (k + q) = w.getD q 0) → zAW E b G 4 0 0 17 [some (.ref (b + 1)), some (.int (nI k)), (some (.ref sa)), some (.int (nI i))] [] t h := by
    intro hl
    refine zLoop w.length fun i hi ih ev => ?_
    have hB : i < w.length → B (k + i) < 256 := fun z => ht.2 _ (by omega)
    have hc : i < w.length → w.getD i 0 < 128 := fun z => hw.2 i z
    have hxi : i < w.length → zI h 34 (k + i) = nI (B (k + i)) := fun z => hx.2 _ (by omega)
    refine zz_iload_3 C dX3_isWord_17 <| zz_aload_2 C dX3_isWord_18 <| zpc 19 rfl <| ?_
    refine zf_callVS C hR [] (j_len hg hw) lX3_103 rfl hg rfl ⟨zle rfl, zle rfl, zle rfl, zle rfl⟩ (zle rfl) dX3_isWord_19 ?_
    refine zz_icmp_ge C 49 dX3_isWord_22 (by decide) (fun c22 => ?_) (fun c22 => ?_)
    · rw [nI_leI (by omega) (by omega)] at c22
      refine zz_iconst_1 C dX3_isWord_49 <| zpc 50 rfl <| ?_
      refine zf_zreturn C hE (zle rfl) (zle rfl) dX3_isWord_50 (by decide) ?_ rfl rfl
      have k9 : isW B k j w := ⟨hl, fun q hq => ev q (by omega)⟩
      exact (zb_t k9).symm
    · rw [nI_leI (by omega) (by omega)] at c22
      refine zz_aload_0 C dX3_isWord_25 <| zz_getR C fX3_28 (tX_K_reader hX) (tX_R_tape hX) dX3_isWord_26 <| zz_iload_1 C dX3_isWord_29 <| zz_iload_3 C dX3_isWord_30 <| zz_iadd C dX3_isWord_31 <| zpc 32 rfl <| ?_
      rw [nI_add]
      refine zc_iaload C _ (tX_K_tape hX) (znI (by omega)) (by omega) dX3_isWord_32 <| zpc 33 rfl <| ?_
      rw [hxi (by omega)]
      refine zz_aload_2 C dX3_isWord_33 <| zz_iload_3 C dX3_isWord_34 <| zpc 35 rfl <| ?_
      refine zf_callVS C hR [_] (j_chr hg hw i (by omega)) lX3_108 rfl hg rfl ⟨zle rfl, zle rfl, zle rfl, zle rfl⟩ (zle rfl) dX3_isWord_35 ?_
      refine zz_icmp_eq C 43 dX3_isWord_38 (by decide) (fun c38 => ?_) (fun c38 => ?_)
      · rw [nI_eq (by have := hB (by omega); omega) (by have := hc (by omega); omega)] at c38
        refine zz_iinc_3 C _ (zle rfl) rfl dX3_isWord_43 nI_s <| zz_goto C 17 dX3_isWord_46 (by decide) <| zpc 17 rfl <| ?_
        refine ih (by omega) (fun q hq => ?_)
        by_cases z : q = i
        · rw [z]; exact c38
        · exact ev q (by omega)
      · rw [nI_eq (by have := hB (by omega); omega) (by have := hc (by omega); omega)] at c38
        refine zz_iconst_0 C dX3_isWord_41 <| zpc 42 rfl <| ?_
        refine zf_zreturn C hE (zle rfl) (zle rfl) dX3_isWord_42 (by decide) ?_ rfl rfl
        have k9 : ¬ isW B k j w := fun z => c38 (z.2 i (by omega))
        exact (zb_f k9).symm
  refine zz_aload_0 C dX3_isWord_0 <| zz_getI C fX3_47 (tX_K_reader hX) dX3_isWord_1 <| zpc 4 rfl <| ?_
  rw [ha]
  refine zz_iload_1 C dX3_isWord_4 <| zz_isub C dX3_isWord_5 <| zpc 6 rfl <| ?_
  rw [pk_sub (by omega)]
  refine zz_aload_2 C dX3_isWord_6 <| zpc 7 rfl <| ?_
  refine zf_callVS C hR [] (j_len hg hw) lX3_103 rfl hg rfl ⟨zle rfl, zle rfl, zle rfl, zle rfl⟩ (zle rfl) dX3_isWord_7 ?_
  refine zz_icmp_eq C 15 dX3_isWord_10 (by decide) (fun c10 => ?_) (fun c10 => ?_)
  · rw [nI_eq (by omega) (by omega)] at c10
    refine zz_iconst_0 C dX3_isWord_15 <| zz_istore_3 C (zle rfl) rfl dX3_isWord_16 <| zpc 17 rfl <| ?_
    exact lp c10 0 (by omega) (fun q hq => absurd hq (by omega))
  · rw [nI_eq (by omega) (by omega)] at c10
    refine zz_iconst_0 C dX3_isWord_13 <| zpc 14 rfl <| ?_
    refine zf_zreturn C hE (zle rfl) (zle rfl) dX3_isWord_14 (by decide) ?_ rfl rfl
    have k9 : ¬ isW B k j w := fun z => c10 z.1
    exact (zb_f k9).symm
theorem wrd_sm : ∀ k, k < 8 → wSm (wrd k) := by
  intro k hk
  have h1 : ∀ k, k < 8 → (wrd k).length < 8 := by decide
  have h2 := wrd_b k hk
  exact ⟨h1 k hk, fun j hj => by have := (h2.1 j hj).2; omega⟩
theorem c3_kindOf : oKnd := by
  intro E b l t h a c e B n k hX ht hx hk ha
  have hkj := sc_ge (isLt B) n k
  have hj := sc_le (P := isLt B) hk
  show zMet E b l yX3_kindOf cX3_kindOf 2 (some .int) 10 0 0 [.ref (b + 1), .int (nI k)] t h (qIf (kCl (knd B k (sc (isLt B) n k))) t h)
  refine zMet.of (ls := [some (.ref (b + 1)), some (.int (nI k))]) (by decide) (zle rfl) 0 rfl ?_
  intro G hlG C hR hE hin
  refine zz_aload_0 C dX3_kindOf_0 <| zz_iload_1 C dX3_kindOf_1 <| zz_ldcS C gX3_83 dX3_kindOf_2 <| fun sa2 hg2 => ?_
  refine zf_callVI C hR [_, _] (c3_isWord (w := wrd 0) hX ht hx k _ hkj hj ha hg2 (wrd_sm 0 (by omega))) lX3_85 rfl (tX_K_reader hX) (by decide) rfl ⟨zle rfl, zle rfl, zle rfl, zle rfl⟩ (zle rfl) dX3_kindOf_4 ?_
  refine zz_if_eq C 12 dX3_kindOf_7 (by decide) (fun c7 => ?_) (fun c7 => ?_)
  · first | rw [zb_ne0] at c7 | rw [zb_eq0] at c7
    refine zz_aload_0 C dX3_kindOf_12 <| zz_iload_1 C dX3_kindOf_13 <| zz_ldcS C gX3_89 dX3_kindOf_14 <| fun sa14 hg14 => ?_
    refine zf_callVI C hR [_, _] (c3_isWord (w := wrd 1) hX ht hx k _ hkj hj ha hg14 (wrd_sm 1 (by omega))) lX3_85 rfl (tX_K_reader hX) (by decide) rfl ⟨zle rfl, zle rfl, zle rfl, zle rfl⟩ (zle rfl) dX3_kindOf_16 ?_
    refine zz_if_eq C 24 dX3_kindOf_19 (by decide) (fun c19 => ?_) (fun c19 => ?_)
    · first | rw [zb_ne0] at c19 | rw [zb_eq0] at c19
      refine zz_aload_0 C dX3_kindOf_24 <| zz_iload_1 C dX3_kindOf_25 <| zz_ldcS C gX3_91 dX3_kindOf_26 <| fun sa26 hg26 => ?_
      refine zf_callVI C hR [_, _] (c3_isWord (w := wrd 2) hX ht hx k _ hkj hj ha hg26 (wrd_sm 2 (by omega))) lX3_85 rfl (tX_K_reader hX) (by decide) rfl ⟨zle rfl, zle rfl, zle rfl, zle rfl⟩ (zle rfl) dX3_kindOf_28 ?_
      refine zz_if_eq C 36 dX3_kindOf_31 (by decide) (fun c31 => ?_) (fun c31 => ?_)
      · first | rw [zb_ne0] at c31 | rw [zb_eq0] at c31
        refine zz_aload_0 C dX3_kindOf_36 <| zz_iload_1 C dX3_kindOf_37 <| zz_ldcS C gX3_93 dX3_kindOf_38 <| fun sa38 hg38 => ?_
        refine zf_callVI C hR [_, _] (c3_isWord (w := wrd 3) hX ht hx k _ hkj hj ha hg38 (wrd_sm 3 (by omega))) lX3_85 rfl (tX_K_reader hX) (by decide) rfl ⟨zle rfl, zle rfl, zle rfl, zle rfl⟩ (zle rfl) dX3_kindOf_40 ?_
        refine zz_if_eq C 48 dX3_kindOf_43 (by decide) (fun c43 => ?_) (fun c43 => ?_)
        · first | rw [zb_ne0] at c43 | rw [zb_eq0] at c43
          refine zz_aload_0 C dX3_kindOf_48 <| zz_iload_1 C dX3_kindOf_49 <| zz_ldcS C gX3_95 dX3_kindOf_50 <| fun sa50 hg50 => ?_
          refine zf_callVI C hR [_, _] (c3_isWord (w := wrd 4) hX ht hx k _ hkj hj ha hg50 (wrd_sm 4 (by omega))) lX3_85 rfl (tX_K_reader hX) (by decide) rfl ⟨zle rfl, zle rfl, zle rfl, zle rfl⟩ (zle rfl) dX3_kindOf_52 ?_
          refine zz_if_eq C 60 dX3_kindOf_55 (by decide) (fun c55 => ?_) (fun c55 => ?_)
          · first | rw [zb_ne0] at c55 | rw [zb_eq0] at c55
            refine zz_aload_0 C dX3_kindOf_60 <| zz_iload_1 C dX3_kindOf_61 <| zz_ldcS C gX3_97 dX3_kindOf_62 <| fun sa62 hg62 => ?_
            refine zf_callVI C hR [_, _] (c3_isWord (w := wrd 5) hX ht hx k _ hkj hj ha hg62 (wrd_sm 5 (by omega))) lX3_85 rfl (tX_K_reader hX) (by decide) rfl ⟨zle rfl, zle rfl, zle rfl, zle rfl⟩ (zle rfl) dX3_kindOf_64 ?_
            refine zz_if_eq C 72 dX3_kindOf_67 (by decide) (fun c67 => ?_) (fun c67 => ?_)
            · first | rw [zb_ne0] at c67 | rw [zb_eq0] at c67
              refine zz_aload_0 C dX3_kindOf_72 <| zz_iload_1 C dX3_kindOf_73 <| zz_ldcS C gX3_99 dX3_kindOf_74 <| fun sa74 hg74 => ?_
              refine zf_callVI C hR [_, _] (c3_isWord (w := wrd 6) hX ht hx k _ hkj hj ha hg74 (wrd_sm 6 (by omega))) lX3_85 rfl (tX_K_reader hX) (by decide) rfl ⟨zle rfl, zle rfl, zle rfl, zle rfl⟩ (zle rfl) dX3_kindOf_76 ?_
              refine zz_if_eq C 85 dX3_kindOf_79 (by decide) (fun c79 => ?_) (fun c79 => ?_)
              · first | rw [zb_ne0] at c79 | rw [zb_eq0] at c79
                refine zz_aload_0 C dX3_kindOf_85 <| zz_iload_1 C dX3_kindOf_86 <| zz_ldcS C gX3_101 dX3_kindOf_87 <| fun sa87 hg87 => ?_
                refine zf_callVI C hR [_, _] (c3_isWord (w := wrd 7) hX ht hx k _ hkj hj ha hg87 (wrd_sm 7 (by omega))) lX3_85 rfl (tX_K_reader hX) (by decide) rfl ⟨zle rfl, zle rfl, zle rfl, zle rfl⟩ (zle rfl) dX3_kindOf_89 ?_
                refine zz_if_eq C 100 dX3_kindOf_92 (by decide) (fun c92 => ?_) (fun c92 => ?_)
                · first | rw [zb_ne0] at c92 | rw [zb_eq0] at c92
                  refine zz_iconst_m1 C dX3_kindOf_100 <| zpc 101 rfl <| ?_
                  refine zf_ireturn C hE (zle rfl) (zle rfl) dX3_kindOf_101 ?_ rfl rfl
                  first
                  | (rw [knd_is (by omega) c92]; rfl)
                  | (rw [knd_no (fun q hq => by
                       obtain rfl | rfl | rfl | rfl | rfl | rfl | rfl | rfl : q = 0 ∨ q = 1 ∨ q = 2 ∨ q = 3 ∨ q = 4 ∨ q = 5 ∨ q = 6 ∨ q = 7 := by omega
                       all_goals assumption)]; rfl)
                · first | rw [zb_ne0] at c92 | rw [zb_eq0] at c92
                  refine zz_bipush C 7 dX3_kindOf_95 (by decide) <| zz_goto C 101 dX3_kindOf_97 (by decide) <| zpc 101 rfl <| ?_
                  refine zf_ireturn C hE (zle rfl) (zle rfl) dX3_kindOf_101 ?_ rfl rfl
                  first
                  | (rw [knd_is (by omega) c92]; rfl)
                  | (rw [knd_no (fun q hq => by
                       obtain rfl | rfl | rfl | rfl | rfl | rfl | rfl | rfl : q = 0 ∨ q = 1 ∨ q = 2 ∨ q = 3 ∨ q = 4 ∨ q = 5 ∨ q = 6 ∨ q = 7 := by omega
                       all_goals assumption)]; rfl)
              · first | rw [zb_ne0] at c79 | rw [zb_eq0] at c79
                refine zz_bipush C 6 dX3_kindOf_82 (by decide) <| zpc 84 rfl <| ?_
                exact zf_ireturn C hE (zle rfl) (zle rfl) dX3_kindOf_84 (by rw [knd_is (by omega) c79]; rfl) rfl rfl
            · first | rw [zb_ne0] at c67 | rw [zb_eq0] at c67
              refine zz_iconst_5 C dX3_kindOf_70 <| zpc 71 rfl <| ?_
              exact zf_ireturn C hE (zle rfl) (zle rfl) dX3_kindOf_71 (by rw [knd_is (by omega) c67]; rfl) rfl rfl
          · first | rw [zb_ne0] at c55 | rw [zb_eq0] at c55
            refine zz_iconst_4 C dX3_kindOf_58 <| zpc 59 rfl <| ?_
            exact zf_ireturn C hE (zle rfl) (zle rfl) dX3_kindOf_59 (by rw [knd_is (by omega) c55]; rfl) rfl rfl
        · first | rw [zb_ne0] at c43 | rw [zb_eq0] at c43
          refine zz_iconst_3 C dX3_kindOf_46 <| zpc 47 rfl <| ?_
          exact zf_ireturn C hE (zle rfl) (zle rfl) dX3_kindOf_47 (by rw [knd_is (by omega) c43]; rfl) rfl rfl
      · first | rw [zb_ne0] at c31 | rw [zb_eq0] at c31
        refine zz_iconst_2 C dX3_kindOf_34 <| zpc 35 rfl <| ?_
        exact zf_ireturn C hE (zle rfl) (zle rfl) dX3_kindOf_35 (by rw [knd_is (by omega) c31]; rfl) rfl rfl
    · first | rw [zb_ne0] at c19 | rw [zb_eq0] at c19
      refine zz_iconst_1 C dX3_kindOf_22 <| zpc 23 rfl <| ?_
      exact zf_ireturn C hE (zle rfl) (zle rfl) dX3_kindOf_23 (by rw [knd_is (by omega) c19]; rfl) rfl rfl
  · first | rw [zb_ne0] at c7 | rw [zb_eq0] at c7
    refine zz_iconst_0 C dX3_kindOf_10 <| zpc 11 rfl <| ?_
    exact zf_ireturn C hE (zle rfl) (zle rfl) dX3_kindOf_11 (by rw [knd_is (by omega) c7]; rfl) rfl rfl
end CKD
