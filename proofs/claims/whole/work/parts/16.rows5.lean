/-! ===== arrays at places that are known numbers ===== -/
section ZQ
variable {E : zE} {b : Nat} {G : zG} {own : String} {cc : ByteArray} {nL : Nat} {rt : Option FieldType} {cells slots pc : Nat} {t : zT} {h : zH} {ls : List (Option Value)} {rest st : List Value}
theorem zc_iaload (C : zCx E b G own cc nL rt) {i n : Nat} {x : Int32} (k : Nat) (hK : zK t i = (12, n)) (hx : x = nI k ∧ k < 2 ^ 31) (hin : k < n) (hd : decode cc pc = .ok (.iaload, 1)) (kk : zAW E b G nL cells slots (pc + 1) ls (.int (zI h i k) :: st) t h) : zAW E b G nL cells slots pc ls (.int x :: .ref (b + i) :: st) t h := by
  have hc : x.toNatClampNeg = k := by rw [hx.1, nI_clamp hx.2]
  refine zz_iaload C hK ?_ hd (by rw [hc]; exact kk)
  rw [vp_in_iff, hx.1, nI_toInt hx.2]
  omega
theorem zc_laload (C : zCx E b G own cc nL rt) {i n : Nat} {x : Int32} (k : Nat) (hK : zK t i = (13, n)) (hx : x = nI k ∧ k < 2 ^ 31) (hin : k < n) (hd : decode cc pc = .ok (.laload, 1)) (kk : zAW E b G nL cells slots (pc + 1) ls (.long (zL h i k) :: st) t h) : zAW E b G nL cells slots pc ls (.int x :: .ref (b + i) :: st) t h := by
  have hc : x.toNatClampNeg = k := by rw [hx.1, nI_clamp hx.2]
  refine zz_laload C hK ?_ hd (by rw [hc]; exact kk)
  rw [vp_in_iff, hx.1, nI_toInt hx.2]
  omega
theorem zc_iastore (C : zCx E b G own cc nL rt) {i n : Nat} {x v : Int32} (k : Nat) (hK : zK t i = (12, n)) (hx : x = nI k ∧ k < 2 ^ 31) (hin : k < n) (hd : decode cc pc = .ok (.iastore, 1)) (kk : zAW E b G nL cells slots (pc + 1) ls st t (zsI h i k v)) : zAW E b G nL cells slots pc ls (.int v :: .int x :: .ref (b + i) :: st) t h := by
  have hc : x.toNatClampNeg = k := by rw [hx.1, nI_clamp hx.2]
  refine zz_iastore C hK ?_ hd (by rw [hc]; exact kk)
  rw [vp_in_iff, hx.1, nI_toInt hx.2]
  omega
theorem zc_lastore (C : zCx E b G own cc nL rt) {i n : Nat} {x : Int32} {v : Int64} (k : Nat) (hK : zK t i = (13, n)) (hx : x = nI k ∧ k < 2 ^ 31) (hin : k < n) (hd : decode cc pc = .ok (.lastore, 1)) (kk : zAW E b G nL cells slots (pc + 1) ls st t (zsL h i k v)) : zAW E b G nL cells slots pc ls (.long v :: .int x :: .ref (b + i) :: st) t h := by
  have hc : x.toNatClampNeg = k := by rw [hx.1, nI_clamp hx.2]
  refine zz_lastore C hK ?_ hd (by rw [hc]; exact kk)
  rw [vp_in_iff, hx.1, nI_toInt hx.2]
  omega
/-- a row, at a place that is a known number: its rows lie behind it -/
theorem zc_row (C : zCx E b G own cc nL rt) {i n : Nat} {x : Int32} (k : Nat) (hK : zK t i = (15, n)) (hR : ∀ k, k < n → zR t i k = some (i + 1 + k)) (hx : x = nI k ∧ k < 2 ^ 31) (hin : k < n) (hd : decode cc pc = .ok (.aaload, 1)) (kk : k < n → zAW E b G nL cells slots (pc + 1) ls (.ref (b + (i + 1 + k)) :: st) t h) : zAW E b G nL cells slots pc ls (.int x :: .ref (b + i) :: st) t h := by
  have hc : x.toNatClampNeg = k := by rw [hx.1, nI_clamp hx.2]
  refine zz_aaloadA C hK ?_ (by rw [hc]; exact hR k hin) hd (kk hin)
  rw [vp_in_iff, hx.1, nI_toInt hx.2]
  omega
end ZQ
/-- what a step of a number comes to -/
theorem nI_s {k : Nat} : nI k + Int32.ofInt 1 = nI (k + 1) := nI_1 k
theorem zlit {x : Int32} (k : Nat) (h : (decide (x = nI k) && decide (k < 2 ^ 31)) = true) : x = nI k ∧ k < 2 ^ 31 := by
  rw [Bool.and_eq_true] at h
  exact ⟨of_decide_eq_true h.1, of_decide_eq_true h.2⟩
theorem znI {k : Nat} (h : k < 2 ^ 31) : nI k = nI k ∧ k < 2 ^ 31 := ⟨rfl, h⟩
theorem zpc {E : zE} {b : Nat} {G : zG} {nL cells slots pc : Nat} {ls : List (Option Value)} {st : List Value} {t : zT} {h : zH} (pc' : Nat) (hp : pc = pc') (kk : zAW E b G nL cells slots pc' ls st t h) : zAW E b G nL cells slots pc ls st t h := by
  rw [hp]
  exact kk
