/-! ===== the reference: lasts, toll ===== -/
def fLst (N k a c : Nat) : Option Nat := if N ≤ (k - 1) * (c / a) then none else some (k * (c / a))
section MLS
variable {E : zE} {b : Nat} {G : zG} {t : zT} {h : zH} {N : Nat} {D : yD} {p : yP} {R : Nat × (Nat → Nat)}
theorem c_lasts0 {l : Launch} (hT : zTM t) (x y z : Int32) (hno : ¬ ((∃ k, 1 ≤ k ∧ k ≤ 4 ∧ x = nI k) ∧ (∃ k, 1 ≤ k ∧ k ≤ 99 ∧ y = nI k ∧ ∃ c, 1 ≤ c ∧ c ≤ 9 * k ∧ z = nI c))) : zMet E b l yX11_lasts cX11_lasts 5 (some .int) 2 0 0 [.ref (b + 157), .int x, .int y, .int z] t h (qIf 0 t (zsI (zsI h 157 0 0) 157 0 1)) := by
  refine zMet.of (ls := [some (.ref (b + 157)), some (.int x), some (.int y), some (.int z), none]) (by decide) (zle rfl) 1 rfl ?_
  intro G hlG C hR hE hin
  refine zz_aload_0 C dX11_lasts_0 <| zz_iconst_0 C dX11_lasts_1 <| zy_putI C fX11_104 pX11_0 (tM_K hT) dX11_lasts_2 <| zz_aload_0 C dX11_lasts_5 <| zz_iload_1 C dX11_lasts_6 <| zz_iconst_1 C dX11_lasts_7 <| zz_iconst_4 C dX11_lasts_8 <| zpc 9 rfl <| ?_
  refine zf_callSI C hR [_, _, _] (c_in _ _ _) lX11_138 rfl ⟨zle rfl, zle rfl, zle rfl, zle rfl⟩ (zle rfl) dX11_lasts_9 ?_
  refine zz_if_eq C 37 dX11_lasts_12 (by decide) (fun c12 => ?_) (fun c12 => ?_)
  · refine zz_iconst_1 C dX11_lasts_37 <| zz_goto C 42 dX11_lasts_38 (by decide) <| zz_iconst_1 C dX11_lasts_42 <| zpc 43 rfl <| ?_
    refine zf_callVI C hR [_, _] (c_bad1 hT _ (by decide) (by first | exact zI_self _ _ _ _ | assumption)) lX11_181 rfl (tM_K hT) (by decide) rfl ⟨zle rfl, zle rfl, zle rfl, zle rfl⟩ (zle rfl) dX11_lasts_43 ?_
    refine zz_if_eq C 51 dX11_lasts_46 (by decide) (fun c46 => ?_) (fun c46 => ?_)
    · exact absurd c46 (by decide)
    · refine zz_iconst_0 C dX11_lasts_49 <| zpc 50 rfl <| ?_
      exact zf_ireturn C hE (zle rfl) (zle rfl) dX11_lasts_50 rfl rfl rfl
  · refine zz_iload_2 C dX11_lasts_15 <| zz_iconst_1 C dX11_lasts_16 <| zz_bipush C 99 dX11_lasts_17 (by decide) <| zpc 19 rfl <| ?_
    refine zf_callSI C hR [_, _, _] (c_in _ _ _) lX11_138 rfl ⟨zle rfl, zle rfl, zle rfl, zle rfl⟩ (zle rfl) dX11_lasts_19 ?_
    refine zz_if_eq C 37 dX11_lasts_22 (by decide) (fun c22 => ?_) (fun c22 => ?_)
    · refine zz_iconst_1 C dX11_lasts_37 <| zz_goto C 42 dX11_lasts_38 (by decide) <| zz_iconst_1 C dX11_lasts_42 <| zpc 43 rfl <| ?_
      refine zf_callVI C hR [_, _] (c_bad1 hT _ (by decide) (by first | exact zI_self _ _ _ _ | assumption)) lX11_181 rfl (tM_K hT) (by decide) rfl ⟨zle rfl, zle rfl, zle rfl, zle rfl⟩ (zle rfl) dX11_lasts_43 ?_
      refine zz_if_eq C 51 dX11_lasts_46 (by decide) (fun c46 => ?_) (fun c46 => ?_)
      · exact absurd c46 (by decide)
      · refine zz_iconst_0 C dX11_lasts_49 <| zpc 50 rfl <| ?_
        exact zf_ireturn C hE (zle rfl) (zle rfl) dX11_lasts_50 rfl rfl rfl
    · refine zz_iload_3 C dX11_lasts_25 <| zz_iconst_1 C dX11_lasts_26 <| zz_bipush C 9 dX11_lasts_27 (by decide) <| zz_iload_2 C dX11_lasts_29 <| zz_imul C dX11_lasts_30 <| zpc 31 rfl <| ?_
      refine zf_callSI C hR [_, _, _] (c_in _ _ _) lX11_138 rfl ⟨zle rfl, zle rfl, zle rfl, zle rfl⟩ (zle rfl) dX11_lasts_31 ?_
      refine zz_if_ne C 41 dX11_lasts_34 (by decide) (fun c34 => ?_) (fun c34 => ?_)
      · rw [zb_ne0] at c12 c22 c34
        obtain ⟨a, ha1, ha, rfl⟩ := (frTo 99 99 rfl (by omega)).mp c22
        rw [show (9 : Int32) = nI 9 from rfl, pk_mul] at c34
        exact absurd ⟨(frTo 4 4 rfl (by omega)).mp c12, a, ha1, ha, rfl, (frTo _ (9 * a) rfl (by omega)).mp c34⟩ hno
      · refine zz_iconst_1 C dX11_lasts_37 <| zz_goto C 42 dX11_lasts_38 (by decide) <| zz_iconst_1 C dX11_lasts_42 <| zpc 43 rfl <| ?_
        refine zf_callVI C hR [_, _] (c_bad1 hT _ (by decide) (by first | exact zI_self _ _ _ _ | assumption)) lX11_181 rfl (tM_K hT) (by decide) rfl ⟨zle rfl, zle rfl, zle rfl, zle rfl⟩ (zle rfl) dX11_lasts_43 ?_
        refine zz_if_eq C 51 dX11_lasts_46 (by decide) (fun c46 => ?_) (fun c46 => ?_)
        · exact absurd c46 (by decide)
        · refine zz_iconst_0 C dX11_lasts_49 <| zpc 50 rfl <| ?_
          exact zf_ireturn C hE (zle rfl) (zle rfl) dX11_lasts_50 rfl rfl rfl
theorem c_lasts1 {l : Launch} (hT : zTM t) (hN : zI h 160 5 = nI N) (hN3 : 3 ≤ N) (hN11 : N ≤ 11) (k a c : Nat) (hk1 : 1 ≤ k) (hk : k ≤ 4) (ha1 : 1 ≤ a) (ha : a ≤ 99) (hc1 : 1 ≤ c) (hc : c ≤ 9 * a) : zMet E b l yX11_lasts cX11_lasts 5 (some .int) 2 0 0 [.ref (b + 157), .int (nI k), .int (nI a), .int (nI c)] t h (qIf (oI (fLst N k a c)) t (zsI h 157 0 0)) := by
  have o1 : (1 ≤ nI k ∧ nI k ≤ 4) := (frTo 4 4 rfl (by omega)).mpr ⟨k, hk1, hk, rfl⟩
  have o2 : (1 ≤ nI a ∧ nI a ≤ 99) := (frTo 99 99 rfl (by omega)).mpr ⟨a, ha1, ha, rfl⟩
  have o3 : (1 ≤ nI c ∧ nI c ≤ 9 * nI a) := by
    rw [show (9 : Int32) = nI 9 from rfl, pk_mul]
    exact (frTo _ (9 * a) rfl (by omega)).mpr ⟨c, hc1, hc, rfl⟩
  have hN0 : zI (zsI h 157 0 0) 160 5 = nI N := by rw [zI_sI, if_neg (by omega)]; exact hN
  have hu : c / a ≤ 9 * 99 := Nat.le_trans (Nat.div_le_self _ _) (by omega)
  have hm1 : (k - 1) * (c / a) ≤ 3 * (9 * 99) := Nat.mul_le_mul (by omega) hu
  refine zMet.of (ls := [some (.ref (b + 157)), some (.int (nI k)), some (.int (nI a)), some (.int (nI c)), none]) (by decide) (zle rfl) 1 rfl ?_
  intro G hlG C hR hE hin
  refine zz_aload_0 C dX11_lasts_0 <| zz_iconst_0 C dX11_lasts_1 <| zy_putI C fX11_104 pX11_0 (tM_K hT) dX11_lasts_2 <| zz_aload_0 C dX11_lasts_5 <| zz_iload_1 C dX11_lasts_6 <| zz_iconst_1 C dX11_lasts_7 <| zz_iconst_4 C dX11_lasts_8 <| zpc 9 rfl <| ?_
  refine zf_callSI C hR [_, _, _] (c_in _ _ _) lX11_138 rfl ⟨zle rfl, zle rfl, zle rfl, zle rfl⟩ (zle rfl) dX11_lasts_9 ?_
  refine zz_if_eq C 37 dX11_lasts_12 (by decide) (fun c12 => ?_) (fun c12 => ?_)
  · rw [zb_eq0] at c12; exact absurd o1 c12
  · refine zz_iload_2 C dX11_lasts_15 <| zz_iconst_1 C dX11_lasts_16 <| zz_bipush C 99 dX11_lasts_17 (by decide) <| zpc 19 rfl <| ?_
    refine zf_callSI C hR [_, _, _] (c_in _ _ _) lX11_138 rfl ⟨zle rfl, zle rfl, zle rfl, zle rfl⟩ (zle rfl) dX11_lasts_19 ?_
    refine zz_if_eq C 37 dX11_lasts_22 (by decide) (fun c22 => ?_) (fun c22 => ?_)
    · rw [zb_eq0] at c22; exact absurd o2 c22
    · refine zz_iload_3 C dX11_lasts_25 <| zz_iconst_1 C dX11_lasts_26 <| zz_bipush C 9 dX11_lasts_27 (by decide) <| zz_iload_2 C dX11_lasts_29 <| zz_imul C dX11_lasts_30 <| zpc 31 rfl <| ?_
      refine zf_callSI C hR [_, _, _] (c_in _ _ _) lX11_138 rfl ⟨zle rfl, zle rfl, zle rfl, zle rfl⟩ (zle rfl) dX11_lasts_31 ?_
      refine zz_if_ne C 41 dX11_lasts_34 (by decide) (fun c34 => ?_) (fun c34 => ?_)
      · refine zz_iconst_0 C dX11_lasts_41 <| zz_iconst_1 C dX11_lasts_42 <| zpc 43 rfl <| ?_
        refine zf_callVI C hR [_, _] (c_bad0 hT _ (by decide) (by first | exact zI_self _ _ _ _ | assumption)) lX11_181 rfl (tM_K hT) (by decide) rfl ⟨zle rfl, zle rfl, zle rfl, zle rfl⟩ (zle rfl) dX11_lasts_43 ?_
        refine zz_if_eq C 51 dX11_lasts_46 (by decide) (fun c46 => ?_) (fun c46 => ?_)
        · refine zz_iload_3 C dX11_lasts_51 <| zz_iload_2 C dX11_lasts_52 <| zz_idiv C dX11_lasts_53 (by exact nI_ne0 (by omega) (by omega)) <| zpc 54 rfl <| ?_
          rw [pk_div (by omega) (by omega) (by omega)]
          refine zz_istore_4 C (zle rfl) rfl dX11_lasts_54 <| zz_iload_1 C dX11_lasts_56 <| zz_iconst_1 C dX11_lasts_57 <| zz_isub C dX11_lasts_58 <| zpc 59 rfl <| ?_
          rw [show (1 : Int32) = nI 1 from rfl, pk_sub hk1]
          refine zz_iload_4 C dX11_lasts_59 <| zz_imul C dX11_lasts_61 <| zpc 62 rfl <| ?_
          rw [pk_mul]
          refine zz_aload_0 C dX11_lasts_62 <| zz_getR C fX11_20 (tM_K hT) (tM_R_told hT) dX11_lasts_63 <| zz_iconst_5 C dX11_lasts_66 <| zc_iaload C 5 (tM_K_told hT) (zlit _ (by decide)) (by decide) dX11_lasts_67 <| zpc 68 rfl <| ?_
          rw [hN0]
          refine zz_icmp_lt C 75 dX11_lasts_68 (by decide) (fun c68 => ?_) (fun c68 => ?_)
          · refine zz_iload_1 C dX11_lasts_75 <| zz_iload_4 C dX11_lasts_76 <| zz_imul C dX11_lasts_78 <| zpc 79 rfl <| ?_
            first | rw [pk_mul] | skip
            refine zf_ireturn C hE (zle rfl) (zle rfl) dX11_lasts_79 ?_ rfl rfl
            rw [nI_ltI (by omega) (by omega)] at c68
            unfold fLst
            first
              | (rw [if_pos (by omega)]; rfl)
              | (rw [if_neg (by omega)]; rfl)
          · refine zz_iconst_m1 C dX11_lasts_71 <| zz_goto C 79 dX11_lasts_72 (by decide) <| zpc 79 rfl <| ?_
            first | rw [pk_mul] | skip
            refine zf_ireturn C hE (zle rfl) (zle rfl) dX11_lasts_79 ?_ rfl rfl
            rw [nI_ltI (by omega) (by omega)] at c68
            unfold fLst
            first
              | (rw [if_pos (by omega)]; rfl)
              | (rw [if_neg (by omega)]; rfl)
        · exact absurd rfl c46
      · rw [zb_eq0] at c34; exact absurd o3 c34
theorem daysOk {d : Int32} : (1 ≤ d ∧ d ≤ 366) ↔ ∃ k, 1 ≤ k ∧ k ≤ 366 ∧ d = nI k := frTo 366 366 rfl (by omega)
theorem c_toll0 {l : Launch} (hT : zTM t) (hD : sdOk D p) (hm : mSd h D p) (x d z : Int32) (hno : ¬ ((∃ k, k ≤ 20 ∧ x = nI k) ∧ (∃ k, 1 ≤ k ∧ k ≤ 366 ∧ d = nI k) ∧ ∃ k, k ≤ 1 ∧ z = nI k)) : zMet E b l yX11_toll cX11_toll 6 (some .long) 8 0 0 [.ref (b + 157), .int x, .int d, .int z] t h (qJ (fun v t' h' => v = 0 ∧ mCall h t D p 1 t' h')) := by
  refine zMet.of (ls := [some (.ref (b + 157)), some (.int x), some (.int d), some (.int z), none, none]) (by decide) (zle rfl) 2 rfl ?_
  intro G hlG C hR hE hin
  refine zz_aload_0 C dX11_toll_0 <| zz_iconst_0 C dX11_toll_1 <| zy_putI C fX11_104 pX11_0 (tM_K hT) dX11_toll_2 <| zz_aload_0 C dX11_toll_5 <| zz_iload_1 C dX11_toll_6 <| zz_iconst_0 C dX11_toll_7 <| zz_bipush C 20 dX11_toll_8 (by decide) <| zpc 10 rfl <| ?_
  refine zf_callSI C hR [_, _, _] (c_in _ _ _) lX11_138 rfl ⟨zle rfl, zle rfl, zle rfl, zle rfl⟩ (zle rfl) dX11_toll_10 ?_
  refine zz_if_eq C 32 dX11_toll_13 (by decide) (fun c13 => ?_) (fun c13 => ?_)
  · refine zz_iconst_1 C dX11_toll_32 <| zz_goto C 37 dX11_toll_33 (by decide) <| zz_iconst_1 C dX11_toll_37 <| zpc 38 rfl <| ?_
    refine zf_callVI C hR [_, _] (c_bad1 hT _ (by decide) (by first | exact zI_self _ _ _ _ | assumption)) lX11_181 rfl (tM_K hT) (by decide) rfl ⟨zle rfl, zle rfl, zle rfl, zle rfl⟩ (zle rfl) dX11_toll_38 ?_
    refine zz_if_eq C 46 dX11_toll_41 (by decide) (fun c41 => ?_) (fun c41 => ?_)
    · exact absurd c41 (by decide)
    · refine zz_lconst_0 C dX11_toll_44 <| zpc 45 rfl <| ?_
      refine zy_lreturn C hE (zle rfl) (zle rfl) dX11_toll_45 ?_
      exact ⟨rfl, rfl, (zAg4.th h 0).tr (zAg4.th _ 1), zI_self _ _ _ _, (hm.th hD 0).th hD 1⟩
  · refine zz_iload_2 C dX11_toll_16 <| zpc 17 rfl <| ?_
    refine zf_callSI C hR [_] (c_areDays _) lX11_299 rfl ⟨zle rfl, zle rfl, zle rfl, zle rfl⟩ (zle rfl) dX11_toll_17 ?_
    refine zz_if_eq C 32 dX11_toll_20 (by decide) (fun c20 => ?_) (fun c20 => ?_)
    · refine zz_iconst_1 C dX11_toll_32 <| zz_goto C 37 dX11_toll_33 (by decide) <| zz_iconst_1 C dX11_toll_37 <| zpc 38 rfl <| ?_
      refine zf_callVI C hR [_, _] (c_bad1 hT _ (by decide) (by first | exact zI_self _ _ _ _ | assumption)) lX11_181 rfl (tM_K hT) (by decide) rfl ⟨zle rfl, zle rfl, zle rfl, zle rfl⟩ (zle rfl) dX11_toll_38 ?_
      refine zz_if_eq C 46 dX11_toll_41 (by decide) (fun c41 => ?_) (fun c41 => ?_)
      · exact absurd c41 (by decide)
      · refine zz_lconst_0 C dX11_toll_44 <| zpc 45 rfl <| ?_
        refine zy_lreturn C hE (zle rfl) (zle rfl) dX11_toll_45 ?_
        exact ⟨rfl, rfl, (zAg4.th h 0).tr (zAg4.th _ 1), zI_self _ _ _ _, (hm.th hD 0).th hD 1⟩
    · refine zz_iload_3 C dX11_toll_23 <| zz_iconst_0 C dX11_toll_24 <| zz_iconst_1 C dX11_toll_25 <| zpc 26 rfl <| ?_
      refine zf_callSI C hR [_, _, _] (c_in _ _ _) lX11_138 rfl ⟨zle rfl, zle rfl, zle rfl, zle rfl⟩ (zle rfl) dX11_toll_26 ?_
      refine zz_if_ne C 36 dX11_toll_29 (by decide) (fun c29 => ?_) (fun c29 => ?_)
      · rw [zb_ne0] at c13 c20 c29; exact absurd ⟨(upTo 20 20 rfl (by omega)).mp c13, daysOk.mp c20, (upTo 1 1 rfl (by omega)).mp c29⟩ hno
      · refine zz_iconst_1 C dX11_toll_32 <| zz_goto C 37 dX11_toll_33 (by decide) <| zz_iconst_1 C dX11_toll_37 <| zpc 38 rfl <| ?_
        refine zf_callVI C hR [_, _] (c_bad1 hT _ (by decide) (by first | exact zI_self _ _ _ _ | assumption)) lX11_181 rfl (tM_K hT) (by decide) rfl ⟨zle rfl, zle rfl, zle rfl, zle rfl⟩ (zle rfl) dX11_toll_38 ?_
        refine zz_if_eq C 46 dX11_toll_41 (by decide) (fun c41 => ?_) (fun c41 => ?_)
        · exact absurd c41 (by decide)
        · refine zz_lconst_0 C dX11_toll_44 <| zpc 45 rfl <| ?_
          refine zy_lreturn C hE (zle rfl) (zle rfl) dX11_toll_45 ?_
          exact ⟨rfl, rfl, (zAg4.th h 0).tr (zAg4.th _ 1), zI_self _ _ _ _, (hm.th hD 0).th hD 1⟩
theorem c_toll1 {l : Launch} (hT : zTM t) (hD : sdOk D p) (hm : mSd h D p) (h0 : D.2.1.1.2.1 = 0) (hRo : roOk R) (hro : mRo h R) (tl d q : Nat) (htl : tl ≤ 20) (hd1 : 1 ≤ d) (hd : d ≤ 366) (hq : q ≤ 1) (htd : D.2.2.2 + d < 2 ^ 20) : zMet E b l yX11_toll cX11_toll 6 (some .long) 8 0 0 [.ref (b + 157), .int (nI tl), .int (nI d), .int (nI q)] t h (qJ (fun v t' h' => v = lN (if q = 0 then (dDays D.1 (dTl D tl).2.1 p R 0 d (x0 D (zI h 157 41))).2.2.2.1.1 else (dDays D.1 (dTl D tl).2.1 p R 0 d (x0 D (zI h 157 41))).2.2.2.1.2.2) ∧ mCall h t D p 0 t' h')) := by
  have hm0 := hm.th hD 0
  have hro0 := mRo.ag4 (zAg4.th h 0) hro
  have e1 : zI (zsI h 157 0 0) 157 41 = zI h 157 41 := by rw [zI_sI, if_neg (by omega)]
  have o1 : (0 ≤ nI tl ∧ nI tl ≤ 20) := (upTo 20 20 rfl (by omega)).mpr ⟨tl, htl, rfl⟩
  have o2 : (1 ≤ nI d ∧ nI d ≤ 366) := daysOk.mpr ⟨d, hd1, hd, rfl⟩
  have o3 : (0 ≤ nI q ∧ nI q ≤ 1) := (upTo 1 1 rfl (by omega)).mpr ⟨q, hq, rfl⟩
  refine zMet.of (ls := [some (.ref (b + 157)), some (.int (nI tl)), some (.int (nI d)), some (.int (nI q)), none, none]) (by decide) (zle rfl) 2 rfl ?_
  intro G hlG C hR hE hin
  refine zz_aload_0 C dX11_toll_0 <| zz_iconst_0 C dX11_toll_1 <| zy_putI C fX11_104 pX11_0 (tM_K hT) dX11_toll_2 <| zz_aload_0 C dX11_toll_5 <| zz_iload_1 C dX11_toll_6 <| zz_iconst_0 C dX11_toll_7 <| zz_bipush C 20 dX11_toll_8 (by decide) <| zpc 10 rfl <| ?_
  refine zf_callSI C hR [_, _, _] (c_in _ _ _) lX11_138 rfl ⟨zle rfl, zle rfl, zle rfl, zle rfl⟩ (zle rfl) dX11_toll_10 ?_
  refine zz_if_eq C 32 dX11_toll_13 (by decide) (fun c13 => ?_) (fun c13 => ?_)
  · rw [zb_eq0] at c13; exact absurd o1 c13
  · refine zz_iload_2 C dX11_toll_16 <| zpc 17 rfl <| ?_
    refine zf_callSI C hR [_] (c_areDays _) lX11_299 rfl ⟨zle rfl, zle rfl, zle rfl, zle rfl⟩ (zle rfl) dX11_toll_17 ?_
    refine zz_if_eq C 32 dX11_toll_20 (by decide) (fun c20 => ?_) (fun c20 => ?_)
    · rw [zb_eq0] at c20; exact absurd o2 c20
    · refine zz_iload_3 C dX11_toll_23 <| zz_iconst_0 C dX11_toll_24 <| zz_iconst_1 C dX11_toll_25 <| zpc 26 rfl <| ?_
      refine zf_callSI C hR [_, _, _] (c_in _ _ _) lX11_138 rfl ⟨zle rfl, zle rfl, zle rfl, zle rfl⟩ (zle rfl) dX11_toll_26 ?_
      refine zz_if_ne C 36 dX11_toll_29 (by decide) (fun c29 => ?_) (fun c29 => ?_)
      · refine zz_iconst_0 C dX11_toll_36 <| zz_iconst_1 C dX11_toll_37 <| zpc 38 rfl <| ?_
        refine zf_callVI C hR [_, _] (c_bad0 hT _ (by decide) (by first | exact zI_self _ _ _ _ | assumption)) lX11_181 rfl (tM_K hT) (by decide) rfl ⟨zle rfl, zle rfl, zle rfl, zle rfl⟩ (zle rfl) dX11_toll_38 ?_
        refine zz_if_eq C 46 dX11_toll_41 (by decide) (fun c41 => ?_) (fun c41 => ?_)
        · refine zz_aload_0 C dX11_toll_46 <| zz_iload_1 C dX11_toll_47 <| zz_iload_2 C dX11_toll_48 <| zpc 49 rfl <| ?_
          refine zy_callVJ C hR [_, _] (c_tollCost hT hD hm0 h0 hRo hro0 tl d htl hd htd) lX11_348 rfl (tM_K hT) (by decide) rfl ⟨zle rfl, zle rfl, zle rfl, zle rfl⟩ (zle rfl) dX11_toll_49 ?_
          intro v t' h' hv; rw [e1] at hv; obtain ⟨rfl, a1, rfl, v2, v3⟩ := hv
          refine zz_lstore_4 C (zle rfl) rfl dX11_toll_52 <| zz_iload_3 C dX11_toll_54 <| zpc 55 rfl <| ?_
          refine zz_if_ne C 63 dX11_toll_55 (by decide) (fun c55 => ?_) (fun c55 => ?_)
          · refine zz_aload_0 C dX11_toll_63 <| zz_getL C fX11_243 (tM_K hT) dX11_toll_64 <| zpc 67 rfl <| ?_
            first | rw [v2] | skip
            refine zy_lreturn C hE (zle rfl) (zle rfl) dX11_toll_67 ?_
            rw [show (0 : Int32) = nI 0 from rfl, nI_eq (by omega) (by omega)] at c55
            refine ⟨?_, rfl, (zAg4.th h 0).tr (.of3 a1), a1.th (zI_self _ _ _ _), a1.sd hD hm0⟩
            first
              | (rw [if_pos c55]; done)
              | (rw [if_neg c55]; done)
              | (rw [if_pos c55]; rfl)
              | (rw [if_neg c55]; rfl)
          · refine zz_lload_4 C dX11_toll_58 <| zz_goto C 67 dX11_toll_60 (by decide) <| zpc 67 rfl <| ?_
            first | rw [v2] | skip
            refine zy_lreturn C hE (zle rfl) (zle rfl) dX11_toll_67 ?_
            rw [show (0 : Int32) = nI 0 from rfl, nI_eq (by omega) (by omega)] at c55
            refine ⟨?_, rfl, (zAg4.th h 0).tr (.of3 a1), a1.th (zI_self _ _ _ _), a1.sd hD hm0⟩
            first
              | (rw [if_pos c55]; done)
              | (rw [if_neg c55]; done)
              | (rw [if_pos c55]; rfl)
              | (rw [if_neg c55]; rfl)
        · exact absurd rfl c41
      · rw [zb_eq0] at c29; exact absurd o3 c29
end MLS
