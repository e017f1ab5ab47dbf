/-! ===== the reference: roads as they are at a day's beginning ===== -/
/-- the numbers of a walk: P places, n roads with facts F and wear w, a toll -/
def nOk (P n tl : Nat) (F : Nat → Nat → Nat) (w : Nat → Nat) : Prop := 2 ≤ P ∧ P ≤ 12 ∧ n ≤ 11 ∧ tl ≤ 20 ∧ ∀ k, k < n → F k 0 < P ∧ F k 1 < P ∧ F k 0 ≠ F k 1 ∧ 1 ≤ F k 2 ∧ F k 2 ≤ 99 ∧ F k 3 ≤ 9 ∧ F k 4 ≤ 30 ∧ w k ≤ 99
abbrev nOp (s : Nat) (F : Nat → Nat → Nat) (w : Nat → Nat) (k : Nat) : Prop := s / 2 ^ k % 2 = 0 ∧ w k ≤ F k 4
def nMi (F : Nat → Nat → Nat) (w : Nat → Nat) (k : Nat) : Nat := F k 2 + F k 3 * w k
def nCo (tl : Nat) (F : Nat → Nat → Nat) (w : Nat → Nat) (k : Nat) : Nat := nMi F w k + tl * w k
theorem nMi_le {P n tl : Nat} {F : Nat → Nat → Nat} {w : Nat → Nat} (hN : nOk P n tl F w) {k : Nat} (hk : k < n) : 1 ≤ nMi F w k ∧ nMi F w k ≤ 990 := by
  obtain ⟨-, -, -, -, h⟩ := hN
  obtain ⟨-, -, -, a1, a2, a3, -, a4⟩ := h k hk
  have : F k 3 * w k ≤ 9 * 99 := Nat.mul_le_mul a3 a4
  unfold nMi
  omega
theorem nCo_le {P n tl : Nat} {F : Nat → Nat → Nat} {w : Nat → Nat} (hN : nOk P n tl F w) {k : Nat} (hk : k < n) : 1 ≤ nCo tl F w k ∧ nCo tl F w k ≤ 2970 ∧ nMi F w k ≤ nCo tl F w k := by
  have h1 := nMi_le hN hk
  obtain ⟨-, -, -, ht, h⟩ := hN
  obtain ⟨-, -, -, a1, a2, a3, -, a4⟩ := h k hk
  have : tl * w k ≤ 20 * 99 := Nat.mul_le_mul ht a4
  unfold nCo
  omega
theorem nEnds {P n tl s : Nat} {F : Nat → Nat → Nat} {w : Nat → Nat} (hN : nOk P n tl F w) : dEnds P n (nOp s F w) (fun k => F k 0) (fun k => F k 1) (nCo tl F w) := by
  intro k hk ho
  have h1 := nCo_le hN hk
  obtain ⟨-, -, -, ht, h⟩ := hN
  obtain ⟨b1, b2, b3, a1, a2, a3, a5, a4⟩ := h k hk
  have hw : w k ≤ 30 := Nat.le_trans ho.2 a5
  have m1 : F k 3 * w k ≤ 9 * 30 := Nat.mul_le_mul a3 hw
  have m2 : tl * w k ≤ 20 * 30 := Nat.mul_le_mul ht hw
  refine ⟨b1, b2, b3, h1.1, ?_⟩
  unfold nCo nMi
  omega
noncomputable def nWay (P n tl s : Nat) (F : Nat → Nat → Nat) (w : Nat → Nat) (fr to : Nat) : Option (List Nat) := zway P n (nOp s F w) (fun k => F k 0) (fun k => F k 1) (nCo tl F w) fr to
/-- a bit of a set of roads -/
theorem zbit {s k : Nat} (hs : s < 2 ^ 31) (hk : k < 16) : (nI s >>> (nI k &&& 31)) &&& 1 = nI (s / 2 ^ k % 2) := by
  have h1 : nI s >>> (nI k &&& 31) = nI (s / 2 ^ k) := by
    refine pk_shrN hs _ k ?_
    have : ∀ k : Fin 16, ((nI k.val &&& 31).toBitVec.smod 32).toNat = k.val := by decide
    exact this ⟨k, hk⟩
  rw [h1]
  have h2 : s / 2 ^ k < 2 ^ 32 := Nat.lt_of_le_of_lt (Nat.div_le_self _ _) (by omega)
  have := pk_andN h2 (m := 1) 1 (by decide)
  simpa using this
/-- what the reference's cells hold of a walk -/
def mNet (h : zH) (P n tl : Nat) (F : Nat → Nat → Nat) (w : Nat → Nat) : Prop := zI h 160 0 = nI P ∧ zI h 157 30 = nI n ∧ zI h 157 39 = nI tl ∧ ∀ k, k < n → (∀ i, i < 5 → zI h (174 + 1 + k) i = nI (F k i)) ∧ zI h 233 k = nI (w k)
theorem c_isOpen {E : zE} {b : Nat} {l : Launch} {t : zT} {h : zH} {P n tl : Nat} {F : Nat → Nat → Nat} {w : Nat → Nat} (hT : zTM t) (hN : nOk P n tl F w) (hm : mNet h P n tl F w) (k s : Nat) (hk : k < n) (hs : s < 2 ^ 31) : zMet E b l yX11_isOpen cX11_isOpen 3 (some .boolean) 1 0 0 [.ref (b + 157), .int (nI k), .int (nI s)] t h (qIf (zb (nOp s F w k)) t h) := by
  obtain ⟨-, hP, hn, -, hb⟩ := hN
  obtain ⟨-, -, -, hf⟩ := hm
  have hb2 := hb k hk
  have hf4 := (hf k hk).1 4 (by omega)
  have hfw := (hf k hk).2
  have hz := zbit hs (show k < 16 by omega)
  have hz2 : nI (s / 2 ^ k % 2) = 0 ↔ s / 2 ^ k % 2 = 0 := by
    rw [show (0 : Int32) = nI 0 from rfl, nI_eq (by omega) (by omega)]
  refine zMet.of (ls := [some (.ref (b + 157)), some (.int (nI k)), some (.int (nI s))]) (by decide) (zle rfl) 0 rfl ?_
  intro G hlG C hR hE hin
  refine zz_iload_2 C dX11_isOpen_0 <| zz_iload_1 C dX11_isOpen_1 <| zz_ishr C dX11_isOpen_2 <| zz_iconst_1 C dX11_isOpen_3 <| zz_iand C dX11_isOpen_4 <| zpc 5 rfl <| ?_
  rw [hz]
  refine zz_if_ne C 29 dX11_isOpen_5 (by decide) (fun c5 => ?_) (fun c5 => ?_)
  · refine zz_iconst_0 C dX11_isOpen_29 <| zpc 30 rfl <| ?_
    exact zf_zreturn C hE (zle rfl) (zle rfl) dX11_isOpen_30 (by decide) (by unfold zb; rw [hz2] at c5; first | (rw [nI_ltI (by omega) (by omega)] at c22; simp [c5]; omega) | simp [c5]) rfl rfl
  · refine zz_aload_0 C dX11_isOpen_8 <| zz_getR C fX11_61 (tM_K hT) (tM_R_w hT) dX11_isOpen_9 <| zz_iload_1 C dX11_isOpen_12 <| zc_iaload C _ (tM_K_w hT) (znI (by omega)) (by omega) dX11_isOpen_13 <| zz_aload_0 C dX11_isOpen_14 <| zz_getR C fX11_34 (tM_K hT) (tM_R_road hT) dX11_isOpen_15 <| zz_iload_1 C dX11_isOpen_18 <| zc_row C _ (tM_K_road hT) (tM_row_road hT) (znI (by omega)) (by omega) dX11_isOpen_19 <| fun r19 => ?_
    refine zz_iconst_4 C dX11_isOpen_20 <| zc_iaload C 4 (tM_KR_road hT _ r19) (zlit _ (by decide)) (by decide) dX11_isOpen_21 <| zpc 22 rfl <| ?_
    rw [hf4, hfw]
    refine zz_icmp_gt C 29 dX11_isOpen_22 (by decide) (fun c22 => ?_) (fun c22 => ?_)
    · refine zz_iconst_0 C dX11_isOpen_29 <| zpc 30 rfl <| ?_
      exact zf_zreturn C hE (zle rfl) (zle rfl) dX11_isOpen_30 (by decide) (by unfold zb; rw [hz2] at c5; first | (rw [nI_ltI (by omega) (by omega)] at c22; simp [c5]; omega) | simp [c5]) rfl rfl
    · refine zz_iconst_1 C dX11_isOpen_25 <| zz_goto C 30 dX11_isOpen_26 (by decide) <| zpc 30 rfl <| ?_
      exact zf_zreturn C hE (zle rfl) (zle rfl) dX11_isOpen_30 (by decide) (by unfold zb; rw [hz2] at c5; first | (rw [nI_ltI (by omega) (by omega)] at c22; simp [c5]; omega) | simp [c5]) rfl rfl
theorem c_minutesOf {E : zE} {b : Nat} {l : Launch} {t : zT} {h : zH} {P n tl : Nat} {F : Nat → Nat → Nat} {w : Nat → Nat} (hT : zTM t) (hN : nOk P n tl F w) (hm : mNet h P n tl F w) (k : Nat) (hk : k < n) : zMet E b l yX11_minutesOf cX11_minutesOf 2 (some .int) 1 0 0 [.ref (b + 157), .int (nI k)] t h (qIf (nI (nMi F w k)) t h) := by
  obtain ⟨-, hP, hn, -, hb⟩ := hN
  obtain ⟨-, -, -, hf⟩ := hm
  have hf2 := (hf k hk).1 2 (by omega)
  have hf3 := (hf k hk).1 3 (by omega)
  have hfw := (hf k hk).2
  refine zMet.of (ls := [some (.ref (b + 157)), some (.int (nI k))]) (by decide) (zle rfl) 0 rfl ?_
  intro G hlG C hR hE hin
  refine zz_aload_0 C dX11_minutesOf_0 <| zz_getR C fX11_34 (tM_K hT) (tM_R_road hT) dX11_minutesOf_1 <| zz_iload_1 C dX11_minutesOf_4 <| zc_row C _ (tM_K_road hT) (tM_row_road hT) (znI (by omega)) (by omega) dX11_minutesOf_5 <| fun r5 => ?_
  refine zz_iconst_2 C dX11_minutesOf_6 <| zc_iaload C 2 (tM_KR_road hT _ r5) (zlit _ (by decide)) (by decide) dX11_minutesOf_7 <| zz_aload_0 C dX11_minutesOf_8 <| zz_getR C fX11_34 (tM_K hT) (tM_R_road hT) dX11_minutesOf_9 <| zz_iload_1 C dX11_minutesOf_12 <| zc_row C _ (tM_K_road hT) (tM_row_road hT) (znI (by omega)) (by omega) dX11_minutesOf_13 <| fun r13 => ?_
  refine zz_iconst_3 C dX11_minutesOf_14 <| zc_iaload C 3 (tM_KR_road hT _ r13) (zlit _ (by decide)) (by decide) dX11_minutesOf_15 <| zz_aload_0 C dX11_minutesOf_16 <| zz_getR C fX11_61 (tM_K hT) (tM_R_w hT) dX11_minutesOf_17 <| zz_iload_1 C dX11_minutesOf_20 <| zc_iaload C _ (tM_K_w hT) (znI (by omega)) (by omega) dX11_minutesOf_21 <| zz_imul C dX11_minutesOf_22 <| zz_iadd C dX11_minutesOf_23 <| zpc 24 rfl <| ?_
  exact zf_ireturn C hE (zle rfl) (zle rfl) dX11_minutesOf_24 (by rw [hf2, hf3, hfw, pk_mul, nI_add]; rfl) rfl rfl
theorem c_farEnd {E : zE} {b : Nat} {l : Launch} {t : zT} {h : zH} {P n tl : Nat} {F : Nat → Nat → Nat} {w : Nat → Nat} (hT : zTM t) (hN : nOk P n tl F w) (hm : mNet h P n tl F w) (k p : Nat) (hk : k < n) (hp : p < P) : zMet E b l yX11_farEnd cX11_farEnd 3 (some .int) 1 0 0 [.ref (b + 157), .int (nI k), .int (nI p)] t h (qIf (if F k 0 = p ∨ F k 1 = p then nI (gOther (fun k => F k 0) (fun k => F k 1) k p) else -1) t h) := by
  obtain ⟨-, hP, hn, -, hb⟩ := hN
  obtain ⟨-, -, -, hf⟩ := hm
  obtain ⟨b1, b2, b3, -⟩ := hb k hk
  have hf0 := (hf k hk).1 0 (by omega)
  have hf1 := (hf k hk).1 1 (by omega)
  have e0 : nI (F k 0) = nI p ↔ F k 0 = p := nI_eq (by omega) (by omega)
  have e1 : nI (F k 1) = nI p ↔ F k 1 = p := nI_eq (by omega) (by omega)
  refine zMet.of (ls := [some (.ref (b + 157)), some (.int (nI k)), some (.int (nI p))]) (by decide) (zle rfl) 0 rfl ?_
  intro G hlG C hR hE hin
  refine zz_aload_0 C dX11_farEnd_0 <| zz_getR C fX11_34 (tM_K hT) (tM_R_road hT) dX11_farEnd_1 <| zz_iload_1 C dX11_farEnd_4 <| zc_row C _ (tM_K_road hT) (tM_row_road hT) (znI (by omega)) (by omega) dX11_farEnd_5 <| fun r5 => ?_
  refine zz_iconst_0 C dX11_farEnd_6 <| zc_iaload C 0 (tM_KR_road hT _ r5) (zlit _ (by decide)) (by decide) dX11_farEnd_7 <| zz_iload_2 C dX11_farEnd_8 <| zpc 9 rfl <| ?_
  rw [hf0]
  refine zz_icmp_ne C 23 dX11_farEnd_9 (by decide) (fun c9 => ?_) (fun c9 => ?_)
  · refine zz_aload_0 C dX11_farEnd_23 <| zz_getR C fX11_34 (tM_K hT) (tM_R_road hT) dX11_farEnd_24 <| zz_iload_1 C dX11_farEnd_27 <| zc_row C _ (tM_K_road hT) (tM_row_road hT) (znI (by omega)) (by omega) dX11_farEnd_28 <| fun r28 => ?_
    refine zz_iconst_1 C dX11_farEnd_29 <| zc_iaload C 1 (tM_KR_road hT _ r28) (zlit _ (by decide)) (by decide) dX11_farEnd_30 <| zz_iload_2 C dX11_farEnd_31 <| zpc 32 rfl <| ?_
    rw [hf1]
    refine zz_icmp_ne C 46 dX11_farEnd_32 (by decide) (fun c32 => ?_) (fun c32 => ?_)
    · refine zz_iconst_m1 C dX11_farEnd_46 <| zpc 47 rfl <| ?_
      exact zf_ireturn C hE (zle rfl) (zle rfl) dX11_farEnd_47 (by simp_all [gOther]) rfl rfl
    · refine zz_aload_0 C dX11_farEnd_35 <| zz_getR C fX11_34 (tM_K hT) (tM_R_road hT) dX11_farEnd_36 <| zz_iload_1 C dX11_farEnd_39 <| zc_row C _ (tM_K_road hT) (tM_row_road hT) (znI (by omega)) (by omega) dX11_farEnd_40 <| fun r40 => ?_
      refine zz_iconst_0 C dX11_farEnd_41 <| zc_iaload C 0 (tM_KR_road hT _ r40) (zlit _ (by decide)) (by decide) dX11_farEnd_42 <| zz_goto C 47 dX11_farEnd_43 (by decide) <| zpc 47 rfl <| ?_
      exact zf_ireturn C hE (zle rfl) (zle rfl) dX11_farEnd_47 (by simp_all [gOther]) rfl rfl
  · refine zz_aload_0 C dX11_farEnd_12 <| zz_getR C fX11_34 (tM_K hT) (tM_R_road hT) dX11_farEnd_13 <| zz_iload_1 C dX11_farEnd_16 <| zc_row C _ (tM_K_road hT) (tM_row_road hT) (znI (by omega)) (by omega) dX11_farEnd_17 <| fun r17 => ?_
    refine zz_iconst_1 C dX11_farEnd_18 <| zc_iaload C 1 (tM_KR_road hT _ r17) (zlit _ (by decide)) (by decide) dX11_farEnd_19 <| zz_goto C 47 dX11_farEnd_20 (by decide) <| zpc 47 rfl <| ?_
    exact zf_ireturn C hE (zle rfl) (zle rfl) dX11_farEnd_47 (by simp_all [gOther]) rfl rfl
