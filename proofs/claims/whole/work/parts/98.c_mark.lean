/-! ===== the class: marks of a ring ===== -/
theorem lN_shl (m : Nat) (s : Int32) (n : Nat) (hs : ((s.toInt64 &&& 63).toBitVec.smod 64).toNat = n) : lN m <<< (s.toInt64 &&& 63) = lN (m * 2 ^ n) := by
  apply Int64.toBitVec_inj.mp
  show (BitVec.ofNat 64 m) <<< ((s.toInt64 &&& 63).toBitVec.smod 64) = BitVec.ofNat 64 (m * 2 ^ n)
  rw [show (BitVec.ofNat 64 m) <<< ((s.toInt64 &&& 63).toBitVec.smod 64) = (BitVec.ofNat 64 m) <<< ((s.toInt64 &&& 63).toBitVec.smod 64).toNat from rfl, hs]
  apply BitVec.eq_of_toNat_eq
  rw [BitVec.toNat_shiftLeft, BitVec.toNat_ofNat, BitVec.toNat_ofNat, Nat.shiftLeft_eq, Nat.mod_mul_mod]
theorem lN_or (a b : Nat) : lN a ||| lN b = lN (a ||| b) := by
  apply Int64.toBitVec_inj.mp
  show BitVec.ofNat 64 a ||| BitVec.ofNat 64 b = BitVec.ofNat 64 (a ||| b)
  apply BitVec.eq_of_toNat_eq
  rw [BitVec.toNat_or, BitVec.toNat_ofNat, BitVec.toNat_ofNat, BitVec.toNat_ofNat, Nat.or_mod_two_pow]
theorem or_add {m w n : Nat} (h : w < 2 ^ n) : m * 2 ^ n ||| w = m * 2 ^ n + w := by
  rw [Nat.mul_comm, ← Nat.two_pow_add_eq_or_of_lt h]
theorem sub_int {a b : Nat} (ha : a < 2 ^ 30) (hb : b < 2 ^ 30) : (nI a - nI b).toInt = (a : Int) - (b : Int) := by
  rw [Int32.toInt_sub, nI_toInt (by omega), nI_toInt (by omega)]
  exact Int.bmod_eq_of_le (by omega) (by omega)
section CMK
variable {E : zE} {b : Nat} {G : zG} {t : zT} {h : zH} {l : Launch} {a c e : Nat}
theorem c4_packed {j : Nat} (hS : zTS t j) {w r : Nat → Nat} (f : Nat) (hf : f ≤ 5) (hw : ∀ k, k < 10 → zI h (j + 1) k = nI (w k) ∧ zI h (j + 2) k = nI (r k) ∧ w k < 128 ∧ r k < 16) : zMet E b l yX4_packed cX4_packed 5 (some .long) 1 0 0 [.ref (b + j), .int (nI f)] t h (qJ (fun v t' h' => v = lN (kP w r f 5) ∧ t' = t ∧ h' = h)) := by
  refine zMet.of (ls := [some (.ref (b + j)), some (.int (nI f)), none, none, none]) (by decide) (zle rfl) 3 rfl ?_
  intro G hlG C hR hE hin
  have lp : ∀ k, k ≤ 5 → zAW E b G 5 0 0 5 [some (.ref (b + j)), some (.int (nI f)), some (.long (lN (kP w r f k))), none, some (.int (nI ((f + k))))] [] t h := by
    refine zLoop 5 fun k hk ih => ?_
    have hwk : k < 5 → _ := fun z => hw (f + k) (by omega)
    refine zz_iload_4 C dX4_packed_5 <| zz_iload_1 C dX4_packed_7 <| zz_iconst_5 C dX4_packed_8 <| zz_iadd C dX4_packed_9 <| zpc 10 rfl <| ?_
    rw [show (5 : Int32) = nI 5 from rfl, nI_add]
    refine zz_icmp_ge C 53 dX4_packed_10 (by decide) (fun c10 => ?_) (fun c10 => ?_)
    · rw [nI_leI (by omega) (by omega)] at c10
      refine zz_lload_2 C dX4_packed_53 <| zpc 54 rfl <| ?_
      refine zy_lreturn C hE (zle rfl) (zle rfl) dX4_packed_54 ?_
      rw [show k = 5 by omega]; exact ⟨rfl, rfl, rfl⟩
    · rw [nI_leI (by omega) (by omega)] at c10
      refine zz_iload_4 C dX4_packed_13 <| zz_bipush C 10 dX4_packed_15 (by decide) <| zpc 17 rfl <| ?_
      refine zz_icmp_ge C 53 dX4_packed_17 (by decide) (fun c17 => ?_) (fun c17 => ?_)
      · rw [show (10 : Int32) = nI 10 from rfl, nI_leI (by omega) (by omega)] at c17; omega
      · refine zz_lload_2 C dX4_packed_20 <| zz_bipush C 7 dX4_packed_21 (by decide) <| zz_lshl C dX4_packed_23 <| zpc 24 rfl <| ?_
        rw [lN_shl _ _ 7 (by decide)]
        refine zz_aload_0 C dX4_packed_24 <| zz_getR C fX4_82 (tS_K hS) (tS_R_wear hS) dX4_packed_25 <| zz_iload_4 C dX4_packed_28 <| zc_iaload C _ (tS_K_wear hS) (znI (by omega)) (by omega) dX4_packed_30 <| zpc 31 rfl <| ?_
        rw [(hwk (by omega)).1]
        refine zz_i2l C dX4_packed_31 <| zz_lor C dX4_packed_32 <| zpc 33 rfl <| ?_
        rw [nI_l (by have := (hwk (by omega)).2.2.1; omega), lN_or, or_add (hwk (by omega)).2.2.1]
        refine zz_lstore_2 C (zle rfl) rfl dX4_packed_33 <| zz_lload_2 C dX4_packed_34 <| zz_iconst_4 C dX4_packed_35 <| zz_lshl C dX4_packed_36 <| zpc 37 rfl <| ?_
        rw [lN_shl _ _ 4 (by decide)]
        refine zz_aload_0 C dX4_packed_37 <| zz_getR C fX4_86 (tS_K hS) (tS_R_rested hS) dX4_packed_38 <| zz_iload_4 C dX4_packed_41 <| zc_iaload C _ (tS_K_rested hS) (znI (by omega)) (by omega) dX4_packed_43 <| zpc 44 rfl <| ?_
        rw [(hwk (by omega)).2.1]
        refine zz_i2l C dX4_packed_44 <| zz_lor C dX4_packed_45 <| zpc 46 rfl <| ?_
        rw [nI_l (by have := (hwk (by omega)).2.2.2; omega), lN_or, or_add (hwk (by omega)).2.2.2]
        refine zz_lstore_2 C (zle rfl) rfl dX4_packed_46 <| zz_iinc_4 C _ (zle rfl) rfl dX4_packed_47 nI_s <| zz_goto C 5 dX4_packed_50 (by decide) <| zpc 5 rfl <| ?_
        exact ih (by omega)
  refine zz_lconst_0 C dX4_packed_0 <| zz_lstore_2 C (zle rfl) rfl dX4_packed_1 <| zz_iload_1 C dX4_packed_2 <| zz_istore_4 C (zle rfl) rfl dX4_packed_3 <| zpc 5 rfl <| ?_
  exact lp 0 (by omega)
theorem c4_mark (hX : zTX t a c e) {j : Nat} (hS : zTS t j) {w r : Nat → Nat} (g : Nat) (hg : g ≤ 4000) (hw : ∀ k, k < 10 → zI h (j + 1) k = nI (w k) ∧ zI h (j + 2) k = nI (r k) ∧ w k < 128 ∧ r k < 16) : zMet E b l yX4_mark cX4_mark 3 none 2 0 0 [.ref (b + 141), .int (nI g), .ref (b + j)] t h (qV (fun t' h' => t' = t ∧ h' = zsL (zsL h 142 g (lN (kP w r 0 5))) 143 g (lN (kP w r 5 5)))) := by
  refine zMet.of (ls := [some (.ref (b + 141)), some (.int (nI g)), some (.ref (b + j))]) (by decide) (zle rfl) 0 rfl ?_
  intro G hlG C hR hE hin
  refine zz_aload_0 C dX4_mark_0 <| zz_getR C fX4_9 (tX_K_rounds hX) (tX_R_lowMarks hX) dX4_mark_1 <| zz_iload_1 C dX4_mark_4 <| zz_aload_2 C dX4_mark_5 <| zz_iconst_0 C dX4_mark_6 <| zpc 7 rfl <| ?_
  refine zy_callSJ C hR [_, _] (c4_packed hS (w := w) (r := r) 0 (by omega) hw) lX4_78 rfl ⟨zle rfl, zle rfl, zle rfl, zle rfl⟩ (zle rfl) dX4_mark_7 ?_
  intro v t1 h1 hv; obtain ⟨rfl, rfl, rfl⟩ := hv
  refine zc_lastore C _ (tX_K_lowMarks hX) (znI (by omega)) (by omega) dX4_mark_10 <| zz_aload_0 C dX4_mark_11 <| zz_getR C fX4_15 (tX_K_rounds hX) (tX_R_highMarks hX) dX4_mark_12 <| zz_iload_1 C dX4_mark_15 <| zz_aload_2 C dX4_mark_16 <| zz_iconst_5 C dX4_mark_17 <| zpc 18 rfl <| ?_
  refine zy_callSJ C hR [_, _] (c4_packed hS (w := w) (r := r) 5 (by omega) hw) lX4_78 rfl ⟨zle rfl, zle rfl, zle rfl, zle rfl⟩ (zle rfl) dX4_mark_18 ?_
  intro v t1 h1 hv; obtain ⟨rfl, rfl, rfl⟩ := hv
  refine zc_lastore C _ (tX_K_highMarks hX) (znI (by omega)) (by omega) dX4_mark_21 <| zpc 22 rfl <| ?_
  refine zy_return C hE (zle rfl) (zle rfl) dX4_mark_22 ?_
  exact ⟨rfl, rfl⟩
theorem oI_m1 {o : Option Nat} (hb : ∀ x, o = some x → x < 2 ^ 31) : oI o = -1 ↔ o = none := by
  cases o with
  | none => exact ⟨fun _ => rfl, fun _ => rfl⟩
  | some x =>
    refine ⟨fun z => ?_, fun z => by cases z⟩
    have z2 : nI x = -1 := z
    have := congrArg Int32.toInt z2
    rw [nI_toInt (hb x rfl)] at this
    have e9 : (-1 : Int32).toInt = -1 := rfl
    omega
theorem c4_lastsWell (hX : zTX t a c e) {o o2 : Option Nat} (h1 : zI h 141 1 = oI o) (h2 : zI h 141 2 = oI o2) (hb : ∀ x, o = some x → x < 2 ^ 31) (hb2 : ∀ x, o2 = some x → x < 2 ^ 31) : zMet E b l yX4_lastsWell cX4_lastsWell 1 (some .boolean) 1 0 0 [.ref (b + 141)] t h (qIf (zb (o ≠ none ∧ o2 = none)) t h) := by
  refine zMet.of (ls := [some (.ref (b + 141))]) (by decide) (zle rfl) 0 rfl ?_
  intro G hlG C hR hE hin
  refine zz_aload_0 C dX4_lastsWell_0 <| zz_getI C fX4_22 (tX_K_rounds hX) dX4_lastsWell_1 <| zpc 4 rfl <| ?_
  rw [h1]
  refine zz_iconst_m1 C dX4_lastsWell_4 <| zpc 5 rfl <| ?_
  refine zz_icmp_eq C 20 dX4_lastsWell_5 (by decide) (fun c5 => ?_) (fun c5 => ?_)
  · rw [oI_m1 hb] at c5
    refine zz_iconst_0 C dX4_lastsWell_20 <| zpc 21 rfl <| ?_
    refine zf_zreturn C hE (zle rfl) (zle rfl) dX4_lastsWell_21 (by decide) ?_ rfl rfl
    first
    | exact (zb_t ⟨c5, c13⟩).symm
    | exact (zb_f (fun z => c13 z.2)).symm
    | exact (zb_f (fun z => z.1 c5)).symm
  · rw [oI_m1 hb] at c5
    refine zz_aload_0 C dX4_lastsWell_8 <| zz_getI C fX4_25 (tX_K_rounds hX) dX4_lastsWell_9 <| zpc 12 rfl <| ?_
    rw [h2]
    refine zz_iconst_m1 C dX4_lastsWell_12 <| zpc 13 rfl <| ?_
    refine zz_icmp_ne C 20 dX4_lastsWell_13 (by decide) (fun c13 => ?_) (fun c13 => ?_)
    · rw [oI_m1 hb2] at c13
      refine zz_iconst_0 C dX4_lastsWell_20 <| zpc 21 rfl <| ?_
      refine zf_zreturn C hE (zle rfl) (zle rfl) dX4_lastsWell_21 (by decide) ?_ rfl rfl
      first
      | exact (zb_t ⟨c5, c13⟩).symm
      | exact (zb_f (fun z => c13 z.2)).symm
      | exact (zb_f (fun z => z.1 c5)).symm
    · rw [oI_m1 hb2] at c13
      refine zz_iconst_1 C dX4_lastsWell_16 <| zz_goto C 21 dX4_lastsWell_17 (by decide) <| zpc 21 rfl <| ?_
      refine zf_zreturn C hE (zle rfl) (zle rfl) dX4_lastsWell_21 (by decide) ?_ rfl rfl
      first
      | exact (zb_t ⟨c5, c13⟩).symm
      | exact (zb_f (fun z => c13 z.2)).symm
      | exact (zb_f (fun z => z.1 c5)).symm
def cLk (h : zH) (g st : Nat) (lo hi : Nat → Nat) (h' : zH) : Prop := (∃ i, i < g ∧ (g - i) % st = 0 ∧ lo i = lo g ∧ hi i = hi g ∧ h' = zsI (zsI h 141 0 (nI i)) 141 1 (nI (g - i))) ∨ (h' = h ∧ ∀ i, i < g → (g - i) % st = 0 → ¬ (lo i = lo g ∧ hi i = hi g))
theorem c4_lookBack (hX : zTX t a c e) (g st : Nat) (hg : g ≤ 4000) (hst : 1 ≤ st) (hst2 : st ≤ 210) (hl : zI h 141 1 = -1) {lo hi : Nat → Nat} (hm : ∀ i, i ≤ g → zL h 142 i = lN (lo i) ∧ zL h 143 i = lN (hi i) ∧ lo i < 2 ^ 63 ∧ hi i < 2 ^ 63) : zMet E b l yX4_lookBack cX4_lookBack 4 none 1 0 0 [.ref (b + 141), .int (nI g), .int (nI st)] t h (qV (fun t' h' => t' = t ∧ cLk h g st lo hi h')) := by
  refine zMet.of (ls := [some (.ref (b + 141)), some (.int (nI g)), some (.int (nI st)), none]) (by decide) (zle rfl) 1 rfl ?_
  intro G hlG C hR hE hin
  have fin : ∀ (x : Int32) (i : Nat), i < g → (g - i) % st = 0 → lo i = lo g → hi i = hi g → zAW E b G 4 0 0 4 [some (.ref (b + 141)), some (.int (nI g)), some (.int (nI st)), some (.int x)] [] t ((zsI (zsI h 141 0 (nI i)) 141 1 (nI (g - i)))) := by
    intro x i q1 q2 q3 q4
    refine zz_iload_3 C dX4_lookBack_4 <| zpc 5 rfl <| ?_
    refine zz_if_lt C 67 dX4_lookBack_5 (by decide) (fun c5 => ?_) (fun c5 => ?_)
    · refine zy_return C hE (zle rfl) (zle rfl) dX4_lookBack_67 ?_
      exact ⟨rfl, Or.inl ⟨i, q1, q2, q3, q4, rfl⟩⟩
    · refine zz_aload_0 C dX4_lookBack_8 <| zz_getI C fX4_22 (tX_K_rounds hX) dX4_lookBack_9 <| zpc 12 rfl <| ?_
      rw [zI_self]
      refine zz_iconst_m1 C dX4_lookBack_12 <| zpc 13 rfl <| ?_
      refine zz_icmp_ne C 67 dX4_lookBack_13 (by decide) (fun c13 => ?_) (fun c13 => ?_)
      · refine zy_return C hE (zle rfl) (zle rfl) dX4_lookBack_67 ?_
        exact ⟨rfl, Or.inl ⟨i, q1, q2, q3, q4, rfl⟩⟩
      · have := congrArg Int32.toInt c13
        rw [nI_toInt (by omega)] at this
        have e9 : (-1 : Int32).toInt = -1 := rfl
        omega
  have lp : ∀ m, m ≤ 4001 → 1 ≤ m → ∀ x : Int32, x.toInt = (g : Int) - (m * st : Nat) → (∀ i, i < g → ∀ m', 1 ≤ m' → m' < m → g - i = m' * st → ¬ (lo i = lo g ∧ hi i = hi g)) → zAW E b G 4 0 0 4 [some (.ref (b + 141)), some (.int (nI g)), some (.int (nI st)), some (.int x)] [] t h := by
    refine zLoop 4001 fun m hm9 ih hm1 x ex no => ?_
    have hmst : m * st ≤ 4001 * 210 := Nat.mul_le_mul hm9 hst2
    have s8 : ¬ x < 0 → zAW E b G 4 0 0 8 [some (.ref (b + 141)), some (.int (nI g)), some (.int (nI st)), some (.int x)] [] t h := by
      intro c5
      have hx0 : (0 : Int) ≤ x.toInt := by
        rw [Int32.not_lt, Int32.le_iff_toInt_le] at c5
        exact c5
      have hle : m * st ≤ g := by omega
      obtain ⟨i, hi9⟩ : ∃ i, i = g - m * st := ⟨_, rfl⟩
      have hms : 1 ≤ m * st := Nat.mul_pos hm1 hst
      have exi : x = nI i := by
        apply Int32.toInt_inj.mp
        rw [nI_toInt (by omega), ex]
        omega
      subst exi
      have e1 := hm i (by omega)
      have e2 := hm g (by omega)
      have gi : (g - i) % st = 0 := by rw [show g - i = m * st by omega]; exact Nat.mul_mod_left _ _
      have ek : ∀ x2 : Int32, x2 = nI i - nI st → m + 1 ≤ 4001 → x2.toInt = (g : Int) - ((m + 1) * st : Nat) := fun x2 e _ => by
        have e5 : (m + 1) * st = m * st + st := by rw [Nat.add_mul, Nat.one_mul]
        rw [e, sub_int (by omega) (by omega), e5]
        omega
      have hm4 : m < 4001 := by
        have : m * 1 ≤ m * st := Nat.mul_le_mul_left m hst
        omega
      refine zz_aload_0 C dX4_lookBack_8 <| zz_getI C fX4_22 (tX_K_rounds hX) dX4_lookBack_9 <| zpc 12 rfl <| ?_
      rw [hl]
      refine zz_iconst_m1 C dX4_lookBack_12 <| zpc 13 rfl <| ?_
      refine zz_icmp_ne C 67 dX4_lookBack_13 (by decide) (fun c13 => ?_) (fun c13 => ?_)
      · exact absurd rfl c13
      · refine zz_aload_0 C dX4_lookBack_16 <| zz_getR C fX4_9 (tX_K_rounds hX) (tX_R_lowMarks hX) dX4_lookBack_17 <| zz_iload_3 C dX4_lookBack_20 <| zpc 21 rfl <| ?_
        skip
        refine zc_laload C _ (tX_K_lowMarks hX) (znI (by omega)) (by omega) dX4_lookBack_21 <| zz_aload_0 C dX4_lookBack_22 <| zz_getR C fX4_9 (tX_K_rounds hX) (tX_R_lowMarks hX) dX4_lookBack_23 <| zz_iload_1 C dX4_lookBack_26 <| zc_laload C _ (tX_K_lowMarks hX) (znI (by omega)) (by omega) dX4_lookBack_27 <| zpc 28 rfl <| ?_
        rw [e1.1, e2.1]
        refine zz_lcmp C dX4_lookBack_28 <| zpc 29 rfl <| ?_
        refine zz_if_ne C 60 dX4_lookBack_29 (by decide) (fun c29 => ?_) (fun c29 => ?_)
        · rw [lg_cmp_eq, pk_lEQ e1.2.2.1 e2.2.2.1] at c29
          refine zz_iload_3 C dX4_lookBack_60 <| zz_iload_2 C dX4_lookBack_61 <| zz_isub C dX4_lookBack_62 <| zz_istore_3 C (zle rfl) rfl dX4_lookBack_63 <| zz_goto C 4 dX4_lookBack_64 (by decide) <| zpc 4 rfl <| ?_
          first
          | exact fin _ i (by omega) gi c29 c45
          | (refine ih hm4 (by omega) _ (ek _ rfl (by omega)) (fun i' h1 m' h2 h3 h4 h5 => ?_)
             by_cases z : m' = m
             · have : i' = i := by rw [z] at h4; omega
               rw [this] at h5
               first
                 | exact c29 h5.1
                 | exact c45 h5.2
             · exact no i' h1 m' h2 (by omega) h4 h5)
        · rw [lg_cmp_eq, pk_lEQ e1.2.2.1 e2.2.2.1] at c29
          refine zz_aload_0 C dX4_lookBack_32 <| zz_getR C fX4_15 (tX_K_rounds hX) (tX_R_highMarks hX) dX4_lookBack_33 <| zz_iload_3 C dX4_lookBack_36 <| zc_laload C _ (tX_K_highMarks hX) (znI (by omega)) (by omega) dX4_lookBack_37 <| zz_aload_0 C dX4_lookBack_38 <| zz_getR C fX4_15 (tX_K_rounds hX) (tX_R_highMarks hX) dX4_lookBack_39 <| zz_iload_1 C dX4_lookBack_42 <| zc_laload C _ (tX_K_highMarks hX) (znI (by omega)) (by omega) dX4_lookBack_43 <| zpc 44 rfl <| ?_
          rw [e1.2.1, e2.2.1]
          refine zz_lcmp C dX4_lookBack_44 <| zpc 45 rfl <| ?_
          refine zz_if_ne C 60 dX4_lookBack_45 (by decide) (fun c45 => ?_) (fun c45 => ?_)
          · rw [lg_cmp_eq, pk_lEQ e1.2.2.2 e2.2.2.2] at c45
            refine zz_iload_3 C dX4_lookBack_60 <| zz_iload_2 C dX4_lookBack_61 <| zz_isub C dX4_lookBack_62 <| zz_istore_3 C (zle rfl) rfl dX4_lookBack_63 <| zz_goto C 4 dX4_lookBack_64 (by decide) <| zpc 4 rfl <| ?_
            first
            | exact fin _ i (by omega) gi c29 c45
            | (refine ih hm4 (by omega) _ (ek _ rfl (by omega)) (fun i' h1 m' h2 h3 h4 h5 => ?_)
               by_cases z : m' = m
               · have : i' = i := by rw [z] at h4; omega
                 rw [this] at h5
                 first
                   | exact c29 h5.1
                   | exact c45 h5.2
               · exact no i' h1 m' h2 (by omega) h4 h5)
          · rw [lg_cmp_eq, pk_lEQ e1.2.2.2 e2.2.2.2] at c45
            refine zz_aload_0 C dX4_lookBack_48 <| zz_iload_3 C dX4_lookBack_49 <| zy_putI C fX4_18 pX4_0 (tX_K_rounds hX) dX4_lookBack_50 <| zz_aload_0 C dX4_lookBack_53 <| zz_iload_1 C dX4_lookBack_54 <| zz_iload_3 C dX4_lookBack_55 <| zz_isub C dX4_lookBack_56 <| zpc 57 rfl <| ?_
            rw [pk_sub (by omega)]
            refine zy_putI C fX4_22 pX4_1 (tX_K_rounds hX) dX4_lookBack_57 <| zz_iload_3 C dX4_lookBack_60 <| zz_iload_2 C dX4_lookBack_61 <| zz_isub C dX4_lookBack_62 <| zz_istore_3 C (zle rfl) rfl dX4_lookBack_63 <| zz_goto C 4 dX4_lookBack_64 (by decide) <| zpc 4 rfl <| ?_
            first
            | exact fin _ i (by omega) gi c29 c45
            | (refine ih hm4 (by omega) _ (ek _ rfl (by omega)) (fun i' h1 m' h2 h3 h4 h5 => ?_)
               by_cases z : m' = m
               · have : i' = i := by rw [z] at h4; omega
                 rw [this] at h5
                 first
                   | exact c29 h5.1
                   | exact c45 h5.2
               · exact no i' h1 m' h2 (by omega) h4 h5)
    refine zz_iload_3 C dX4_lookBack_4 <| zpc 5 rfl <| ?_
    refine zz_if_lt C 67 dX4_lookBack_5 (by decide) (fun c5 => ?_) (fun c5 => ?_)
    · refine zy_return C hE (zle rfl) (zle rfl) dX4_lookBack_67 ?_
      refine ⟨rfl, Or.inr ⟨rfl, fun i h1 h2 h3 => ?_⟩⟩
      have hx0 : x.toInt < 0 := by
        rw [Int32.lt_iff_toInt_lt] at c5
        exact c5
      obtain ⟨m', hm'⟩ := Nat.dvd_of_mod_eq_zero h2
      rw [Nat.mul_comm] at hm'
      have h6 : m' * st < m * st := by omega
      have h7 : m' < m := Nat.lt_of_mul_lt_mul_right h6
      refine no i h1 m' ?_ h7 hm' h3
      cases m' with
      | zero => rw [Nat.zero_mul] at hm'; omega
      | succ k => omega
    · exact s8 c5
  refine zz_iload_1 C dX4_lookBack_0 <| zz_iload_2 C dX4_lookBack_1 <| zz_isub C dX4_lookBack_2 <| zz_istore_3 C (zle rfl) rfl dX4_lookBack_3 <| zpc 4 rfl <| ?_
  refine lp 1 (by omega) (by omega) _ ?_ (fun i _ m' h2 h3 => absurd h2 (by omega))
  rw [sub_int (by omega) (by omega), Nat.one_mul]
end CMK
