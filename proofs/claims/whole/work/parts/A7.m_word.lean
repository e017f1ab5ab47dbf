/-! ===== the reference: a sign, a word, its kind ===== -/
theorem bA_lt {B : Nat → Nat} {n k c : Nat} (ht : txOk B n) (hc : c < 2 ^ 31) : bA B n k < nI c ↔ ¬ (k < n ∧ c ≤ B k) := by
  rw [← Int32.not_le, bA_ge ht hc]
theorem isLt_iff {B : Nat → Nat} {k : Nat} : isLt B k = true ↔ 97 ≤ B k ∧ B k ≤ 122 := by unfold isLt; exact decide_eq_true_iff
def sixV (a b c d e f : Int32) : Int32 := let v := 27 * (27 * a + b) + c; let v2 := if d = 0 then v else 27 * v + d; let v3 := if e = 0 then v2 else 27 * v2 + e; if f = 0 then v3 else 27 * v3 + f
def kRef (kd : Nat) : Int32 := if kd = 4 then 6 else if kd = 5 then 7 else if kd = 6 then 4 else if kd = 7 then 5 else if kd = 8 then -1 else nI kd
section MWD
variable {E : zE} {b : Nat} {G : zG} {t : zT} {h : zH} {l : Launch} {B : Nat → Nat} {n : Nat}
theorem c_sign (hT : zTM t) (ht : txOk B n) (hx : mTx h B n) (st : yT) (hs : mAt h st n) : zMet E b l yX11_sign cX11_sign 2 none 3 0 0 [.ref (b + 157), .int 59] t h (qV (fun t' h' => t' = t ∧ zAgR h h' ∧ mAt h' (endR B n st) n)) := by
  have hn := ht.1
  cases st with
  | inl f =>
    obtain ⟨f1, f2, f3, f4, f5⟩ := id hs
    refine zMet.of (ls := [some (.ref (b + 157)), some (.int 59)]) (by decide) (zle rfl) 0 rfl ?_
    intro G hlG C hR hE hin
    refine zz_aload_0 C dX11_sign_0 <| zz_getI C fX11_120 (tM_K hT) dX11_sign_1 <| zpc 4 rfl <| ?_
    refine zz_if_eq C 8 dX11_sign_4 (by decide) (fun c4 => ?_) (fun c4 => ?_)
    · rw [f1] at c4; exact absurd c4 (nI_ne0 (by omega) (by omega))
    · refine zy_return C hE (zle rfl) (zle rfl) dX11_sign_7 ?_
      exact ⟨rfl, zAgR.rf h, hs⟩
  | inr k =>
    obtain ⟨f1, f2, hk, f9⟩ := hs
    obtain ⟨s, es⟩ : ∃ s, s = sc (isBl B) n k := ⟨_, rfl⟩
    have hsn : s ≤ n := by rw [es]; exact sc_le hk
    have een : endR B n (.inr k) = if s < n ∧ B s = 59 then .inr (s + 1) else .inl (1, s) := by rw [es]; rfl
    refine zMet.of (ls := [some (.ref (b + 157)), some (.int 59)]) (by decide) (zle rfl) 0 rfl ?_
    intro G hlG C hR hE hin
    refine zz_aload_0 C dX11_sign_0 <| zz_getI C fX11_120 (tM_K hT) dX11_sign_1 <| zpc 4 rfl <| ?_
    refine zz_if_eq C 8 dX11_sign_4 (by decide) (fun c4 => ?_) (fun c4 => ?_)
    · refine zz_aload_0 C dX11_sign_8 <| zpc 9 rfl <| ?_
      refine zy_callVV C hR [] (c_blanks hT ht hx k hk f2) lX11_126 rfl (tM_K hT) (by decide) rfl ⟨zle rfl, zle rfl, zle rfl, zle rfl⟩ (zle rfl) dX11_sign_9 ?_
      intro t1 h1 hv; obtain ⟨rfl, mv⟩ := hv; rw [← es] at mv; have fc : zI h1 157 5 = 0 := (mv.2.1 _ _ (by omega)).trans f1
      refine zz_aload_0 C dX11_sign_12 <| zz_aload_0 C dX11_sign_13 <| zz_getI C fX11_113 (tM_K hT) dX11_sign_14 <| zpc 17 rfl <| ?_
      rw [mv.1]
      refine zf_callVI C hR [_] (c_byteAt hT ht (hx.ag mv.ag) s (by omega)) lX11_116 rfl (tM_K hT) (by decide) rfl ⟨zle rfl, zle rfl, zle rfl, zle rfl⟩ (zle rfl) dX11_sign_17 ?_
      refine zz_iload_1 C dX11_sign_20 <| zpc 21 rfl <| ?_
      refine zz_icmp_ne C 37 dX11_sign_21 (by decide) (fun c21 => ?_) (fun c21 => ?_)
      · rw [show (59 : Int32) = nI 59 from rfl, bA_eq ht (by omega)] at c21
        refine zz_aload_0 C dX11_sign_37 <| zz_iconst_1 C dX11_sign_38 <| zz_aload_0 C dX11_sign_39 <| zz_getI C fX11_113 (tM_K hT) dX11_sign_40 <| zpc 43 rfl <| ?_
        rw [mv.1]
        refine zf_callVV C hR [_, _] (c_wrong0 hT _ _ fc) lX11_133 rfl (tM_K hT) (by decide) rfl ⟨zle rfl, zle rfl, zle rfl, zle rfl⟩ (zle rfl) dX11_sign_43 ?_
        refine zy_return C hE (zle rfl) (zle rfl) dX11_sign_46 ?_
        first
        | (rw [een, if_pos c21]
           exact ⟨rfl, mv.ag.sI (by omega), (by rw [zI_sI, if_neg (by omega)]; exact fc), zI_self _ _ _ _, c21.1, (by rw [zI_sI, if_neg (by omega), mv.2.1 _ _ (by omega)]; exact f9)⟩)
        | (rw [een, if_neg c21]
           exact ⟨rfl, (mv.ag.sI (by omega)).sI (by omega), (by rw [zI_sI, if_neg (by omega)]; exact zI_self _ _ _ _), (by omega), (by omega), zI_self _ _ _ _, s, hsn, (by rw [zI_sI, if_neg (by omega), zI_sI, if_neg (by omega)]; exact mv.1)⟩)
      · rw [show (59 : Int32) = nI 59 from rfl, bA_eq ht (by omega)] at c21
        refine zz_aload_0 C dX11_sign_24 <| zz_dup C dX11_sign_25 rfl <| zz_getI C fX11_113 (tM_K hT) dX11_sign_26 <| zpc 29 rfl <| ?_
        rw [mv.1]
        refine zz_iconst_1 C dX11_sign_29 <| zz_iadd C dX11_sign_30 <| zpc 31 rfl <| ?_
        rw [show (1 : Int32) = nI 1 from rfl, nI_add]
        refine zy_putI C fX11_113 pX11_4 (tM_K hT) dX11_sign_31 <| zz_goto C 46 dX11_sign_34 (by decide) <| zpc 46 rfl <| ?_
        refine zy_return C hE (zle rfl) (zle rfl) dX11_sign_46 ?_
        first
        | (rw [een, if_pos c21]
           exact ⟨rfl, mv.ag.sI (by omega), (by rw [zI_sI, if_neg (by omega)]; exact fc), zI_self _ _ _ _, c21.1, (by rw [zI_sI, if_neg (by omega), mv.2.1 _ _ (by omega)]; exact f9)⟩)
        | (rw [een, if_neg c21]
           exact ⟨rfl, (mv.ag.sI (by omega)).sI (by omega), (by rw [zI_sI, if_neg (by omega)]; exact zI_self _ _ _ _), (by omega), (by omega), zI_self _ _ _ _, s, hsn, (by rw [zI_sI, if_neg (by omega), zI_sI, if_neg (by omega)]; exact mv.1)⟩)
    · exact absurd f1 c4
theorem c_wordHere (hT : zTM t) (ht : txOk B n) (hx : mTx h B n) (k : Nat) (hk : k ≤ n) (ha : zI h 157 4 = nI k) (hs : sc (isBl B) n k = k) : zMet E b l yX11_wordHere cX11_wordHere 3 (some .int) 3 0 0 [.ref (b + 157)] t h (qIf (if sc (isLt B) n k - k ≤ 6 then nI (wv (fun i => B (k + i)) (sc (isLt B) n k - k)) else -1) t h) := by
  have hn := ht.1
  obtain ⟨j, ej⟩ : ∃ j, j = sc (isLt B) n k := ⟨_, rfl⟩
  have hjn : j ≤ n := by rw [ej]; exact sc_le hk
  have hkj : k ≤ j := by rw [ej]; exact sc_ge _ _ _
  have hlt : ∀ i, i < j - k → k + i < n ∧ 97 ≤ B (k + i) ∧ B (k + i) ≤ 122 := fun i hi => by
    have := sc_in (P := isLt B) (n := n) (k := k) (i := k + i) (by omega) (by rw [← ej]; omega)
    exact ⟨this.1, isLt_iff.mp this.2⟩
  have hend : ¬ (j < n ∧ 97 ≤ B j ∧ B j ≤ 122) := fun z => by
    have := sc_end (isLt B) n k
    rw [← ej] at this
    exact this ⟨z.1, isLt_iff.mpr z.2⟩
  rw [← ej]
  refine zMet.of (ls := [some (.ref (b + 157)), none, none]) (by decide) (zle rfl) 2 rfl ?_
  intro G hlG C hR hE hin
  have s75 : ∀ v, v = wv (fun i => B (k + i)) (min (j - k) 6) → zAW E b G 3 0 0 75 [some (.ref (b + 157)), some (.int (nI v)), some (.int (nI ((j - k))))] [] t h := by
    intro v ev
    refine zz_iload_2 C dX11_wordHere_75 <| zz_bipush C 6 dX11_wordHere_76 (by decide) <| zpc 78 rfl <| ?_
    refine zz_icmp_le C 85 dX11_wordHere_78 (by decide) (fun c78 => ?_) (fun c78 => ?_)
    · rw [show (6 : Int32) = nI 6 from rfl, nI_leI (by omega) (by omega)] at c78
      refine zz_iload_1 C dX11_wordHere_85 <| zpc 86 rfl <| ?_
      refine zf_ireturn C hE (zle rfl) (zle rfl) dX11_wordHere_86 ?_ rfl rfl
      first
      | (rw [if_pos c78, ev, show min (j - k) 6 = j - k by omega])
      | (rw [if_neg c78])
    · rw [show (6 : Int32) = nI 6 from rfl, nI_leI (by omega) (by omega)] at c78
      refine zz_iconst_m1 C dX11_wordHere_81 <| zz_goto C 86 dX11_wordHere_82 (by decide) <| zpc 86 rfl <| ?_
      refine zf_ireturn C hE (zle rfl) (zle rfl) dX11_wordHere_86 ?_ rfl rfl
      first
      | (rw [if_pos c78, ev, show min (j - k) 6 = j - k by omega])
      | (rw [if_neg c78])
  have lp : ∀ i, i ≤ j - k → zAW E b G 3 0 0 8 [some (.ref (b + 157)), some (.int (nI ((wv (fun i => B (k + i)) (min i 6))))), some (.int (nI i))] [] t h := by
    refine zLoop (j - k) fun i hi ih => ?_
    have hwb : wv (fun i => B (k + i)) (min i 6) < 27 ^ 6 := Nat.lt_of_lt_of_le (wv_lt _ (fun q hq => (hlt q (by omega)).2)) (Nat.pow_le_pow_right (by omega) (by omega))
    have hw2 : (27 : Nat) ^ 6 = 387420489 := by decide
    refine zz_aload_0 C dX11_wordHere_8 <| zz_aload_0 C dX11_wordHere_9 <| zz_getI C fX11_113 (tM_K hT) dX11_wordHere_10 <| zpc 13 rfl <| ?_
    rw [ha]
    refine zz_iload_2 C dX11_wordHere_13 <| zz_iadd C dX11_wordHere_14 <| zpc 15 rfl <| ?_
    rw [nI_add]
    refine zf_callVI C hR [_] (c_byteAt hT ht hx (k + i) (by omega)) lX11_116 rfl (tM_K hT) (by decide) rfl ⟨zle rfl, zle rfl, zle rfl, zle rfl⟩ (zle rfl) dX11_wordHere_15 ?_
    refine zz_bipush C 97 dX11_wordHere_18 (by decide) <| zpc 20 rfl <| ?_
    refine zz_icmp_lt C 75 dX11_wordHere_20 (by decide) (fun c20 => ?_) (fun c20 => ?_)
    · rw [show (97 : Int32) = nI 97 from rfl, bA_lt ht (by omega)] at c20
      have e9 : i = j - k := Classical.byContradiction (fun z => by have := hlt i (by omega); first | exact c20 ⟨this.1, this.2.1⟩ | omega)
      rw [e9]
      exact s75 _ rfl
    · rw [show (97 : Int32) = nI 97 from rfl, bA_lt ht (by omega)] at c20
      have c20 := Classical.not_not.mp c20; have hB := ht.2 _ c20.1
      refine zz_aload_0 C dX11_wordHere_23 <| zz_aload_0 C dX11_wordHere_24 <| zz_getI C fX11_113 (tM_K hT) dX11_wordHere_25 <| zpc 28 rfl <| ?_
      rw [ha]
      refine zz_iload_2 C dX11_wordHere_28 <| zz_iadd C dX11_wordHere_29 <| zpc 30 rfl <| ?_
      rw [nI_add]
      refine zf_callVI C hR [_] (c_byteAt hT ht hx (k + i) (by omega)) lX11_116 rfl (tM_K hT) (by decide) rfl ⟨zle rfl, zle rfl, zle rfl, zle rfl⟩ (zle rfl) dX11_wordHere_30 ?_
      refine zz_bipush C 122 dX11_wordHere_33 (by decide) <| zpc 35 rfl <| ?_
      refine zz_icmp_gt C 75 dX11_wordHere_35 (by decide) (fun c35 => ?_) (fun c35 => ?_)
      · rw [bA_in c20.1, show (122 : Int32) = nI 122 from rfl, nI_ltI (by omega) (by omega)] at c35
        have e9 : i = j - k := Classical.byContradiction (fun z => by have := hlt i (by omega); first | exact c20 ⟨this.1, this.2.1⟩ | omega)
        rw [e9]
        exact s75 _ rfl
      · rw [bA_in c20.1, show (122 : Int32) = nI 122 from rfl, nI_ltI (by omega) (by omega)] at c35
        have e8 : i < j - k := Nat.lt_of_le_of_ne hi (fun z => hend (by rw [z, show k + (j - k) = j by omega] at c20 c35; exact ⟨c20.1, c20.2, by omega⟩))
        refine zz_iload_2 C dX11_wordHere_38 <| zz_bipush C 6 dX11_wordHere_39 (by decide) <| zpc 41 rfl <| ?_
        refine zz_icmp_ge C 67 dX11_wordHere_41 (by decide) (fun c41 => ?_) (fun c41 => ?_)
        · rw [show (6 : Int32) = nI 6 from rfl, nI_leI (by omega) (by omega)] at c41
          refine zz_iload_1 C dX11_wordHere_67 <| zz_istore_1 C (zle rfl) rfl dX11_wordHere_68 <| zz_iinc_2 C _ (zle rfl) rfl dX11_wordHere_69 nI_s <| zz_goto C 8 dX11_wordHere_72 (by decide) <| zpc 8 rfl <| ?_
          have ih := ih e8
          first
            | (have e7 : wv (fun i => B (k + i)) (min (i + 1) 6) = 27 * wv (fun i => B (k + i)) (min i 6) + B (k + i) - 97 + 1 := by
                 rw [show min (i + 1) 6 = i + 1 by omega, show min i 6 = i by omega]
                 show 27 * wv (fun i => B (k + i)) i + (B (k + i) - 96) = _
                 omega
               rw [← e7]; exact ih)
            | (rw [show min (i + 1) 6 = min i 6 by omega] at ih; exact ih)
        · rw [show (6 : Int32) = nI 6 from rfl, nI_leI (by omega) (by omega)] at c41
          refine zz_bipush C 27 dX11_wordHere_44 (by decide) <| zz_iload_1 C dX11_wordHere_46 <| zz_imul C dX11_wordHere_47 <| zpc 48 rfl <| ?_
          rw [show (27 : Int32) = nI 27 from rfl, pk_mul]
          refine zz_aload_0 C dX11_wordHere_48 <| zz_aload_0 C dX11_wordHere_49 <| zz_getI C fX11_113 (tM_K hT) dX11_wordHere_50 <| zpc 53 rfl <| ?_
          rw [ha]
          refine zz_iload_2 C dX11_wordHere_53 <| zz_iadd C dX11_wordHere_54 <| zpc 55 rfl <| ?_
          rw [nI_add]
          refine zf_callVI C hR [_] (c_byteAt hT ht hx (k + i) (by omega)) lX11_116 rfl (tM_K hT) (by decide) rfl ⟨zle rfl, zle rfl, zle rfl, zle rfl⟩ (zle rfl) dX11_wordHere_55 ?_
          rw [bA_in c20.1]
          refine zz_iadd C dX11_wordHere_58 <| zpc 59 rfl <| ?_
          rw [nI_add]
          refine zz_bipush C 97 dX11_wordHere_59 (by decide) <| zz_isub C dX11_wordHere_61 <| zpc 62 rfl <| ?_
          rw [show (97 : Int32) = nI 97 from rfl, pk_sub (by omega)]
          refine zz_iconst_1 C dX11_wordHere_62 <| zz_iadd C dX11_wordHere_63 <| zpc 64 rfl <| ?_
          rw [show (1 : Int32) = nI 1 from rfl, nI_add]
          refine zz_goto C 68 dX11_wordHere_64 (by decide) <| zz_istore_1 C (zle rfl) rfl dX11_wordHere_68 <| zz_iinc_2 C _ (zle rfl) rfl dX11_wordHere_69 nI_s <| zz_goto C 8 dX11_wordHere_72 (by decide) <| zpc 8 rfl <| ?_
          have ih := ih e8
          first
            | (have e7 : wv (fun i => B (k + i)) (min (i + 1) 6) = 27 * wv (fun i => B (k + i)) (min i 6) + B (k + i) - 97 + 1 := by
                 rw [show min (i + 1) 6 = i + 1 by omega, show min i 6 = i by omega]
                 show 27 * wv (fun i => B (k + i)) i + (B (k + i) - 96) = _
                 omega
               rw [← e7]; exact ih)
            | (rw [show min (i + 1) 6 = min i 6 by omega] at ih; exact ih)
  refine zz_aload_0 C dX11_wordHere_0 <| zpc 1 rfl <| ?_
  refine zf_callVV C hR [] (c_blanks0 hT ht hx k hk ha hs) lX11_126 rfl (tM_K hT) (by decide) rfl ⟨zle rfl, zle rfl, zle rfl, zle rfl⟩ (zle rfl) dX11_wordHere_1 ?_
  refine zz_iconst_0 C dX11_wordHere_4 <| zz_istore_1 C (zle rfl) rfl dX11_wordHere_5 <| zz_iconst_0 C dX11_wordHere_6 <| zz_istore_2 C (zle rfl) rfl dX11_wordHere_7 <| zpc 8 rfl <| ?_
  exact lp 0 (by omega)
theorem c_six (a b' c d e f : Int32) : zMet E b l yX11_six cX11_six 7 (some .int) 1 0 0 [.int a, .int (b'), .int c, .int d, .int e, .int f] t h (qIf (sixV a b' c d e f) t h) := by
  refine zMet.of (ls := [some (.int a), some (.int (b')), some (.int c), some (.int d), some (.int e), some (.int f), none]) (by decide) (zle rfl) 1 rfl ?_
  intro G hlG C hR hE hin
  refine zz_bipush C 27 dX11_six_0 (by decide) <| zz_bipush C 27 dX11_six_2 (by decide) <| zz_iload_0 C dX11_six_4 <| zz_imul C dX11_six_5 <| zz_iload_1 C dX11_six_6 <| zz_iadd C dX11_six_7 <| zz_imul C dX11_six_8 <| zz_iload_2 C dX11_six_9 <| zz_iadd C dX11_six_10 <| zz_istore_6 C (zle rfl) rfl dX11_six_11 <| zz_iload_3 C dX11_six_13 <| zpc 14 rfl <| ?_
  refine zz_if_ne C 22 dX11_six_14 (by decide) (fun c14 => ?_) (fun c14 => ?_)
  · refine zz_bipush C 27 dX11_six_22 (by decide) <| zz_iload_6 C dX11_six_24 <| zz_imul C dX11_six_26 <| zz_iload_3 C dX11_six_27 <| zz_iadd C dX11_six_28 <| zz_istore_6 C (zle rfl) rfl dX11_six_29 <| zz_iload_4 C dX11_six_31 <| zpc 33 rfl <| ?_
    refine zz_if_ne C 41 dX11_six_33 (by decide) (fun c33 => ?_) (fun c33 => ?_)
    · refine zz_bipush C 27 dX11_six_41 (by decide) <| zz_iload_6 C dX11_six_43 <| zz_imul C dX11_six_45 <| zz_iload_4 C dX11_six_46 <| zz_iadd C dX11_six_48 <| zz_istore_6 C (zle rfl) rfl dX11_six_49 <| zz_iload_5 C dX11_six_51 <| zpc 53 rfl <| ?_
      refine zz_if_ne C 61 dX11_six_53 (by decide) (fun c53 => ?_) (fun c53 => ?_)
      · refine zz_bipush C 27 dX11_six_61 (by decide) <| zz_iload_6 C dX11_six_63 <| zz_imul C dX11_six_65 <| zz_iload_5 C dX11_six_66 <| zz_iadd C dX11_six_68 <| zpc 69 rfl <| ?_
        exact zf_ireturn C hE (zle rfl) (zle rfl) dX11_six_69 (by simp_all [sixV]) rfl rfl
      · refine zz_iload_6 C dX11_six_56 <| zz_goto C 69 dX11_six_58 (by decide) <| zpc 69 rfl <| ?_
        exact zf_ireturn C hE (zle rfl) (zle rfl) dX11_six_69 (by simp_all [sixV]) rfl rfl
    · refine zz_iload_6 C dX11_six_36 <| zz_goto C 49 dX11_six_38 (by decide) <| zz_istore_6 C (zle rfl) rfl dX11_six_49 <| zz_iload_5 C dX11_six_51 <| zpc 53 rfl <| ?_
      refine zz_if_ne C 61 dX11_six_53 (by decide) (fun c53 => ?_) (fun c53 => ?_)
      · refine zz_bipush C 27 dX11_six_61 (by decide) <| zz_iload_6 C dX11_six_63 <| zz_imul C dX11_six_65 <| zz_iload_5 C dX11_six_66 <| zz_iadd C dX11_six_68 <| zpc 69 rfl <| ?_
        exact zf_ireturn C hE (zle rfl) (zle rfl) dX11_six_69 (by simp_all [sixV]) rfl rfl
      · refine zz_iload_6 C dX11_six_56 <| zz_goto C 69 dX11_six_58 (by decide) <| zpc 69 rfl <| ?_
        exact zf_ireturn C hE (zle rfl) (zle rfl) dX11_six_69 (by simp_all [sixV]) rfl rfl
  · refine zz_iload_6 C dX11_six_17 <| zz_goto C 29 dX11_six_19 (by decide) <| zz_istore_6 C (zle rfl) rfl dX11_six_29 <| zz_iload_4 C dX11_six_31 <| zpc 33 rfl <| ?_
    refine zz_if_ne C 41 dX11_six_33 (by decide) (fun c33 => ?_) (fun c33 => ?_)
    · refine zz_bipush C 27 dX11_six_41 (by decide) <| zz_iload_6 C dX11_six_43 <| zz_imul C dX11_six_45 <| zz_iload_4 C dX11_six_46 <| zz_iadd C dX11_six_48 <| zz_istore_6 C (zle rfl) rfl dX11_six_49 <| zz_iload_5 C dX11_six_51 <| zpc 53 rfl <| ?_
      refine zz_if_ne C 61 dX11_six_53 (by decide) (fun c53 => ?_) (fun c53 => ?_)
      · refine zz_bipush C 27 dX11_six_61 (by decide) <| zz_iload_6 C dX11_six_63 <| zz_imul C dX11_six_65 <| zz_iload_5 C dX11_six_66 <| zz_iadd C dX11_six_68 <| zpc 69 rfl <| ?_
        exact zf_ireturn C hE (zle rfl) (zle rfl) dX11_six_69 (by simp_all [sixV]) rfl rfl
      · refine zz_iload_6 C dX11_six_56 <| zz_goto C 69 dX11_six_58 (by decide) <| zpc 69 rfl <| ?_
        exact zf_ireturn C hE (zle rfl) (zle rfl) dX11_six_69 (by simp_all [sixV]) rfl rfl
    · refine zz_iload_6 C dX11_six_36 <| zz_goto C 49 dX11_six_38 (by decide) <| zz_istore_6 C (zle rfl) rfl dX11_six_49 <| zz_iload_5 C dX11_six_51 <| zpc 53 rfl <| ?_
      refine zz_if_ne C 61 dX11_six_53 (by decide) (fun c53 => ?_) (fun c53 => ?_)
      · refine zz_bipush C 27 dX11_six_61 (by decide) <| zz_iload_6 C dX11_six_63 <| zz_imul C dX11_six_65 <| zz_iload_5 C dX11_six_66 <| zz_iadd C dX11_six_68 <| zpc 69 rfl <| ?_
        exact zf_ireturn C hE (zle rfl) (zle rfl) dX11_six_69 (by simp_all [sixV]) rfl rfl
      · refine zz_iload_6 C dX11_six_56 <| zz_goto C 69 dX11_six_58 (by decide) <| zpc 69 rfl <| ?_
        exact zf_ireturn C hE (zle rfl) (zle rfl) dX11_six_69 (by simp_all [sixV]) rfl rfl
theorem c_isWord (hT : zTM t) (ht : txOk B n) (hx : mTx h B n) (k : Nat) (hf : zI h 157 5 = 0) (hk : k ≤ n) (ha : zI h 157 4 = nI k) (hs : sc (isBl B) n k = k) (q : Nat) (hq : q < 8) (a b' c d e f : Int32) (hv : sixV a b' c d e f = nI (wv (fun i => (wrd q).getD i 0) (wrd q).length)) : zMet E b l yX11_isWord cX11_isWord 7 (some .boolean) 4 0 0 [.ref (b + 157), .int a, .int (b'), .int c, .int d, .int e, .int f] t h (qIf (zb (isW B k (sc (isLt B) n k) (wrd q))) t h) := by
  have hn := ht.1
  have hwb := wrd_b q hq
  have hlt : ∀ i, i < sc (isLt B) n k - k → 97 ≤ B (k + i) ∧ B (k + i) ≤ 122 := fun i hi => isLt_iff.mp (sc_in (P := isLt B) (n := n) (k := k) (i := k + i) (by omega) (by omega)).2
  have key : ((if sc (isLt B) n k - k ≤ 6 then nI (wv (fun i => B (k + i)) (sc (isLt B) n k - k)) else -1) = sixV a b' c d e f) ↔ isW B k (sc (isLt B) n k) (wrd q) := by
    have p6 : (27 : Nat) ^ 6 = 387420489 := by decide
    have b2 : wv (fun i => (wrd q).getD i 0) (wrd q).length < 27 ^ 6 := Nat.lt_of_lt_of_le (wv_lt _ hwb.1) (Nat.pow_le_pow_right (by omega) hwb.2)
    rw [hv]
    by_cases z : sc (isLt B) n k - k ≤ 6
    · have b1 : wv (fun i => B (k + i)) (sc (isLt B) n k - k) < 27 ^ 6 := Nat.lt_of_lt_of_le (wv_lt _ hlt) (Nat.pow_le_pow_right (by omega) z)
      rw [if_pos z, nI_eq (by omega) (by omega), isW_wv hq hlt]
    · rw [if_neg z]
      exact ⟨fun y => absurd y (m1_no _ (by omega)).2, fun y => absurd y.1 (by omega)⟩
  refine zMet.of (ls := [some (.ref (b + 157)), some (.int a), some (.int (b')), some (.int c), some (.int d), some (.int e), some (.int f)]) (by decide) (zle rfl) 0 rfl ?_
  intro G hlG C hR hE hin
  refine zz_aload_0 C dX11_isWord_0 <| zz_getI C fX11_120 (tM_K hT) dX11_isWord_1 <| zpc 4 rfl <| ?_
  refine zz_if_ne C 30 dX11_isWord_4 (by decide) (fun c4 => ?_) (fun c4 => ?_)
  · exact absurd hf c4
  · refine zz_aload_0 C dX11_isWord_7 <| zpc 8 rfl <| ?_
    refine zf_callVI C hR [] (c_wordHere hT ht hx k hk ha hs) lX11_142 rfl (tM_K hT) (by decide) rfl ⟨zle rfl, zle rfl, zle rfl, zle rfl⟩ (zle rfl) dX11_isWord_8 ?_
    refine zz_iload_1 C dX11_isWord_11 <| zz_iload_2 C dX11_isWord_12 <| zz_iload_3 C dX11_isWord_13 <| zz_iload_4 C dX11_isWord_14 <| zz_iload_5 C dX11_isWord_16 <| zz_iload_6 C dX11_isWord_18 <| zpc 20 rfl <| ?_
    refine zf_callSI C hR [_, _, _, _, _, _] (c_six _ _ _ _ _ _) lX11_146 rfl ⟨zle rfl, zle rfl, zle rfl, zle rfl⟩ (zle rfl) dX11_isWord_20 ?_
    refine zz_icmp_ne C 30 dX11_isWord_23 (by decide) (fun c23 => ?_) (fun c23 => ?_)
    · rw [key] at c23
      refine zz_iconst_0 C dX11_isWord_30 <| zpc 31 rfl <| ?_
      refine zf_zreturn C hE (zle rfl) (zle rfl) dX11_isWord_31 (by decide) ?_ rfl rfl
      first
      | exact (zb_t c23).symm
      | exact (zb_f c23).symm
    · rw [key] at c23
      refine zz_iconst_1 C dX11_isWord_26 <| zz_goto C 31 dX11_isWord_27 (by decide) <| zpc 31 rfl <| ?_
      refine zf_zreturn C hE (zle rfl) (zle rfl) dX11_isWord_31 (by decide) ?_ rfl rfl
      first
      | exact (zb_t c23).symm
      | exact (zb_f c23).symm
theorem c_kindHere (hT : zTM t) (ht : txOk B n) (hx : mTx h B n) (k : Nat) (hf : zI h 157 5 = 0) (hk : k ≤ n) (ha : zI h 157 4 = nI k) (hs : sc (isBl B) n k = k) : zMet E b l yX11_kindHere cX11_kindHere 1 (some .int) 5 0 0 [.ref (b + 157)] t h (qIf (kRef (knd B k (sc (isLt B) n k))) t h) := by
  refine zMet.of (ls := [some (.ref (b + 157))]) (by decide) (zle rfl) 0 rfl ?_
  intro G hlG C hR hE hin
  refine zz_aload_0 C dX11_kindHere_0 <| zz_bipush C 16 dX11_kindHere_1 (by decide) <| zz_bipush C 12 dX11_kindHere_3 (by decide) <| zz_iconst_1 C dX11_kindHere_5 <| zz_iconst_3 C dX11_kindHere_6 <| zz_iconst_5 C dX11_kindHere_7 <| zz_bipush C 19 dX11_kindHere_8 (by decide) <| zpc 10 rfl <| ?_
  refine zf_callVI C hR [_, _, _, _, _, _] (c_isWord hT ht hx k hf hk ha hs 0 (by omega) 16 12 1 3 5 19 (by decide)) lX11_150 rfl (tM_K hT) (by decide) rfl ⟨zle rfl, zle rfl, zle rfl, zle rfl⟩ (zle rfl) dX11_kindHere_10 ?_
  refine zz_if_eq C 18 dX11_kindHere_13 (by decide) (fun c13 => ?_) (fun c13 => ?_)
  · first | rw [zb_ne0] at c13 | rw [zb_eq0] at c13
    refine zz_aload_0 C dX11_kindHere_18 <| zz_bipush C 18 dX11_kindHere_19 (by decide) <| zz_bipush C 15 dX11_kindHere_21 (by decide) <| zz_iconst_1 C dX11_kindHere_23 <| zz_iconst_4 C dX11_kindHere_24 <| zz_iconst_0 C dX11_kindHere_25 <| zz_iconst_0 C dX11_kindHere_26 <| zpc 27 rfl <| ?_
    refine zf_callVI C hR [_, _, _, _, _, _] (c_isWord hT ht hx k hf hk ha hs 1 (by omega) 18 15 1 4 0 0 (by decide)) lX11_150 rfl (tM_K hT) (by decide) rfl ⟨zle rfl, zle rfl, zle rfl, zle rfl⟩ (zle rfl) dX11_kindHere_27 ?_
    refine zz_if_eq C 35 dX11_kindHere_30 (by decide) (fun c30 => ?_) (fun c30 => ?_)
    · first | rw [zb_ne0] at c30 | rw [zb_eq0] at c30
      refine zz_aload_0 C dX11_kindHere_35 <| zz_bipush C 14 dX11_kindHere_36 (by decide) <| zz_iconst_5 C dX11_kindHere_38 <| zz_bipush C 23 dX11_kindHere_39 (by decide) <| zz_iconst_0 C dX11_kindHere_41 <| zz_iconst_0 C dX11_kindHere_42 <| zz_iconst_0 C dX11_kindHere_43 <| zpc 44 rfl <| ?_
      refine zf_callVI C hR [_, _, _, _, _, _] (c_isWord hT ht hx k hf hk ha hs 2 (by omega) 14 5 23 0 0 0 (by decide)) lX11_150 rfl (tM_K hT) (by decide) rfl ⟨zle rfl, zle rfl, zle rfl, zle rfl⟩ (zle rfl) dX11_kindHere_44 ?_
      refine zz_if_eq C 52 dX11_kindHere_47 (by decide) (fun c47 => ?_) (fun c47 => ?_)
      · first | rw [zb_ne0] at c47 | rw [zb_eq0] at c47
        refine zz_aload_0 C dX11_kindHere_52 <| zz_bipush C 7 dX11_kindHere_53 (by decide) <| zz_bipush C 15 dX11_kindHere_55 (by decide) <| zz_bipush C 9 dX11_kindHere_57 (by decide) <| zz_bipush C 14 dX11_kindHere_59 (by decide) <| zz_bipush C 7 dX11_kindHere_61 (by decide) <| zz_iconst_0 C dX11_kindHere_63 <| zpc 64 rfl <| ?_
        refine zf_callVI C hR [_, _, _, _, _, _] (c_isWord hT ht hx k hf hk ha hs 3 (by omega) 7 15 9 14 7 0 (by decide)) lX11_150 rfl (tM_K hT) (by decide) rfl ⟨zle rfl, zle rfl, zle rfl, zle rfl⟩ (zle rfl) dX11_kindHere_64 ?_
        refine zz_if_eq C 72 dX11_kindHere_67 (by decide) (fun c67 => ?_) (fun c67 => ?_)
        · first | rw [zb_ne0] at c67 | rw [zb_eq0] at c67
          refine zz_aload_0 C dX11_kindHere_72 <| zz_bipush C 23 dX11_kindHere_73 (by decide) <| zz_iconst_5 C dX11_kindHere_75 <| zz_bipush C 20 dX11_kindHere_76 (by decide) <| zz_iconst_0 C dX11_kindHere_78 <| zz_iconst_0 C dX11_kindHere_79 <| zz_iconst_0 C dX11_kindHere_80 <| zpc 81 rfl <| ?_
          refine zf_callVI C hR [_, _, _, _, _, _] (c_isWord hT ht hx k hf hk ha hs 6 (by omega) 23 5 20 0 0 0 (by decide)) lX11_150 rfl (tM_K hT) (by decide) rfl ⟨zle rfl, zle rfl, zle rfl, zle rfl⟩ (zle rfl) dX11_kindHere_81 ?_
          refine zz_if_eq C 89 dX11_kindHere_84 (by decide) (fun c84 => ?_) (fun c84 => ?_)
          · first | rw [zb_ne0] at c84 | rw [zb_eq0] at c84
            refine zz_aload_0 C dX11_kindHere_89 <| zz_bipush C 12 dX11_kindHere_90 (by decide) <| zz_iconst_1 C dX11_kindHere_92 <| zz_bipush C 23 dX11_kindHere_93 (by decide) <| zz_iconst_0 C dX11_kindHere_95 <| zz_iconst_0 C dX11_kindHere_96 <| zz_iconst_0 C dX11_kindHere_97 <| zpc 98 rfl <| ?_
            refine zf_callVI C hR [_, _, _, _, _, _] (c_isWord hT ht hx k hf hk ha hs 7 (by omega) 12 1 23 0 0 0 (by decide)) lX11_150 rfl (tM_K hT) (by decide) rfl ⟨zle rfl, zle rfl, zle rfl, zle rfl⟩ (zle rfl) dX11_kindHere_98 ?_
            refine zz_if_eq C 106 dX11_kindHere_101 (by decide) (fun c101 => ?_) (fun c101 => ?_)
            · first | rw [zb_ne0] at c101 | rw [zb_eq0] at c101
              refine zz_aload_0 C dX11_kindHere_106 <| zz_iconst_3 C dX11_kindHere_107 <| zz_bipush C 8 dX11_kindHere_108 (by decide) <| zz_iconst_1 C dX11_kindHere_110 <| zz_bipush C 14 dX11_kindHere_111 (by decide) <| zz_iconst_3 C dX11_kindHere_113 <| zz_iconst_5 C dX11_kindHere_114 <| zpc 115 rfl <| ?_
              refine zf_callVI C hR [_, _, _, _, _, _] (c_isWord hT ht hx k hf hk ha hs 4 (by omega) 3 8 1 14 3 5 (by decide)) lX11_150 rfl (tM_K hT) (by decide) rfl ⟨zle rfl, zle rfl, zle rfl, zle rfl⟩ (zle rfl) dX11_kindHere_115 ?_
              refine zz_if_eq C 124 dX11_kindHere_118 (by decide) (fun c118 => ?_) (fun c118 => ?_)
              · first | rw [zb_ne0] at c118 | rw [zb_eq0] at c118
                refine zz_aload_0 C dX11_kindHere_124 <| zz_bipush C 23 dX11_kindHere_125 (by decide) <| zz_iconst_1 C dX11_kindHere_127 <| zz_bipush C 9 dX11_kindHere_128 (by decide) <| zz_bipush C 20 dX11_kindHere_130 (by decide) <| zz_iconst_0 C dX11_kindHere_132 <| zz_iconst_0 C dX11_kindHere_133 <| zpc 134 rfl <| ?_
                refine zf_callVI C hR [_, _, _, _, _, _] (c_isWord hT ht hx k hf hk ha hs 5 (by omega) 23 1 9 20 0 0 (by decide)) lX11_150 rfl (tM_K hT) (by decide) rfl ⟨zle rfl, zle rfl, zle rfl, zle rfl⟩ (zle rfl) dX11_kindHere_134 ?_
                refine zz_if_eq C 145 dX11_kindHere_137 (by decide) (fun c137 => ?_) (fun c137 => ?_)
                · first | rw [zb_ne0] at c137 | rw [zb_eq0] at c137
                  refine zz_iconst_m1 C dX11_kindHere_145 <| zpc 146 rfl <| ?_
                  refine zf_ireturn C hE (zle rfl) (zle rfl) dX11_kindHere_146 ?_ rfl rfl
                  first
                  | (rw [knd_is (by omega) c137]; rfl)
                  | (rw [knd_no (fun q hq => by
                       obtain rfl | rfl | rfl | rfl | rfl | rfl | rfl | rfl : q = 0 ∨ q = 1 ∨ q = 2 ∨ q = 3 ∨ q = 4 ∨ q = 5 ∨ q = 6 ∨ q = 7 := by omega
                       all_goals assumption)]; rfl)
                · first | rw [zb_ne0] at c137 | rw [zb_eq0] at c137
                  refine zz_bipush C 7 dX11_kindHere_140 (by decide) <| zz_goto C 146 dX11_kindHere_142 (by decide) <| zpc 146 rfl <| ?_
                  refine zf_ireturn C hE (zle rfl) (zle rfl) dX11_kindHere_146 ?_ rfl rfl
                  first
                  | (rw [knd_is (by omega) c137]; rfl)
                  | (rw [knd_no (fun q hq => by
                       obtain rfl | rfl | rfl | rfl | rfl | rfl | rfl | rfl : q = 0 ∨ q = 1 ∨ q = 2 ∨ q = 3 ∨ q = 4 ∨ q = 5 ∨ q = 6 ∨ q = 7 := by omega
                       all_goals assumption)]; rfl)
              · first | rw [zb_ne0] at c118 | rw [zb_eq0] at c118
                refine zz_bipush C 6 dX11_kindHere_121 (by decide) <| zpc 123 rfl <| ?_
                exact zf_ireturn C hE (zle rfl) (zle rfl) dX11_kindHere_123 (by rw [knd_is (by omega) c118]; rfl) rfl rfl
            · first | rw [zb_ne0] at c101 | rw [zb_eq0] at c101
              refine zz_iconst_5 C dX11_kindHere_104 <| zpc 105 rfl <| ?_
              exact zf_ireturn C hE (zle rfl) (zle rfl) dX11_kindHere_105 (by rw [knd_is (by omega) c101]; rfl) rfl rfl
          · first | rw [zb_ne0] at c84 | rw [zb_eq0] at c84
            refine zz_iconst_4 C dX11_kindHere_87 <| zpc 88 rfl <| ?_
            exact zf_ireturn C hE (zle rfl) (zle rfl) dX11_kindHere_88 (by rw [knd_is (by omega) c84]; rfl) rfl rfl
        · first | rw [zb_ne0] at c67 | rw [zb_eq0] at c67
          refine zz_iconst_3 C dX11_kindHere_70 <| zpc 71 rfl <| ?_
          exact zf_ireturn C hE (zle rfl) (zle rfl) dX11_kindHere_71 (by rw [knd_is (by omega) c67]; rfl) rfl rfl
      · first | rw [zb_ne0] at c47 | rw [zb_eq0] at c47
        refine zz_iconst_2 C dX11_kindHere_50 <| zpc 51 rfl <| ?_
        exact zf_ireturn C hE (zle rfl) (zle rfl) dX11_kindHere_51 (by rw [knd_is (by omega) c47]; rfl) rfl rfl
    · first | rw [zb_ne0] at c30 | rw [zb_eq0] at c30
      refine zz_iconst_1 C dX11_kindHere_33 <| zpc 34 rfl <| ?_
      exact zf_ireturn C hE (zle rfl) (zle rfl) dX11_kindHere_34 (by rw [knd_is (by omega) c30]; rfl) rfl rfl
  · first | rw [zb_ne0] at c13 | rw [zb_eq0] at c13
    refine zz_iconst_0 C dX11_kindHere_16 <| zpc 17 rfl <| ?_
    exact zf_ireturn C hE (zle rfl) (zle rfl) dX11_kindHere_17 (by rw [knd_is (by omega) c13]; rfl) rfl rfl
end MWD
