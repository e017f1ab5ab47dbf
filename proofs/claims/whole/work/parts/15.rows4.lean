/-! ===== contracts that say the answer and the state behind it outright ===== -/
theorem zle {a b : Nat} (h : Nat.ble a b = true) : a ≤ b := Nat.le_of_ble_eq_true h
def qIf (f : Int32) (t0 : zT) (h0 : zH) : Option Value → zT → zH → Prop := qI (fun r t h => r = f ∧ t = t0 ∧ h = h0)
def qJf (f : Int64) (t0 : zT) (h0 : zH) : Option Value → zT → zH → Prop := qJ (fun r t h => r = f ∧ t = t0 ∧ h = h0)
def qVf (t0 : zT) (h0 : zH) : Option Value → zT → zH → Prop := qV (fun t h => t = t0 ∧ h = h0)
section ZQ
variable {E : zE} {b : Nat} {G : zG} {own : String} {cc : ByteArray} {nL : Nat} {rt : Option FieldType} {cells slots pc D MC MS : Nat} {t t0 : zT} {h h0 : zH} {ls : List (Option Value)} {y : MethodName} {cy : ByteArray} {mly : Nat} {rty : Option FieldType} {d mc ms na idx : Nat} {rest st : List Value}
theorem zf_callVI {f : Int32} (C : zCx E b G own cc nL rt) (hR : zRoom G D MC MS) (As : List Value) {i c0 n0 : Nat} (hM : zMet E b G.2.1 y cy mly rty d mc ms (.ref (b + i) :: As) t h (qIf f t0 h0)) (hL : zLV own idx y cy mly rty na) (hna : As.length = na) (hK : zK t i = (c0, n0)) (hc0 : c0 < zNc) (hcls : zRn c0 = y.cls) (hfit : zFitB d mly D cells mc MC slots ms MS) (hcat : (rest.map fun v => v.category).sum ≤ 8) (hd : decode cc pc = .ok (.invokevirtual idx, 3))
    (kk : zAW E b G nL (cells + mc) (slots + ms) (pc + 3) ls (.int f :: rest) t0 h0) : zAW E b G nL cells slots pc ls (As.reverse ++ .ref (b + i) :: rest) t h :=
  zy_callVI C hR As hM hL hna hK hc0 hcls hfit hcat hd (fun r t' h' hp => by obtain ⟨rfl, rfl, rfl⟩ := hp; exact kk)
theorem zf_callVJ {f : Int64} (C : zCx E b G own cc nL rt) (hR : zRoom G D MC MS) (As : List Value) {i c0 n0 : Nat} (hM : zMet E b G.2.1 y cy mly rty d mc ms (.ref (b + i) :: As) t h (qJf f t0 h0)) (hL : zLV own idx y cy mly rty na) (hna : As.length = na) (hK : zK t i = (c0, n0)) (hc0 : c0 < zNc) (hcls : zRn c0 = y.cls) (hfit : zFitB d mly D cells mc MC slots ms MS) (hcat : (rest.map fun v => v.category).sum ≤ 8) (hd : decode cc pc = .ok (.invokevirtual idx, 3))
    (kk : zAW E b G nL (cells + mc) (slots + ms) (pc + 3) ls (.long f :: rest) t0 h0) : zAW E b G nL cells slots pc ls (As.reverse ++ .ref (b + i) :: rest) t h :=
  zy_callVJ C hR As hM hL hna hK hc0 hcls hfit hcat hd (fun r t' h' hp => by obtain ⟨rfl, rfl, rfl⟩ := hp; exact kk)
theorem zf_callVV (C : zCx E b G own cc nL rt) (hR : zRoom G D MC MS) (As : List Value) {i c0 n0 : Nat} (hM : zMet E b G.2.1 y cy mly rty d mc ms (.ref (b + i) :: As) t h (qVf t0 h0)) (hL : zLV own idx y cy mly rty na) (hna : As.length = na) (hK : zK t i = (c0, n0)) (hc0 : c0 < zNc) (hcls : zRn c0 = y.cls) (hfit : zFitB d mly D cells mc MC slots ms MS) (hcat : (rest.map fun v => v.category).sum ≤ 8) (hd : decode cc pc = .ok (.invokevirtual idx, 3))
    (kk : zAW E b G nL (cells + mc) (slots + ms) (pc + 3) ls rest t0 h0) : zAW E b G nL cells slots pc ls (As.reverse ++ .ref (b + i) :: rest) t h :=
  zy_callVV C hR As hM hL hna hK hc0 hcls hfit hcat hd (fun t' h' hp => by obtain ⟨rfl, rfl⟩ := hp; exact kk)
theorem zf_callSI {f : Int32} (C : zCx E b G own cc nL rt) (hR : zRoom G D MC MS) (As : List Value) (hM : zMet E b G.2.1 y cy mly rty d mc ms As t h (qIf f t0 h0)) (hL : zLS own idx y cy mly rty na) (hna : As.length = na) (hfit : zFitB d mly D cells mc MC slots ms MS) (hcat : (rest.map fun v => v.category).sum ≤ 8) (hd : decode cc pc = .ok (.invokestatic idx, 3))
    (kk : zAW E b G nL (cells + mc) (slots + ms) (pc + 3) ls (.int f :: rest) t0 h0) : zAW E b G nL cells slots pc ls (As.reverse ++ rest) t h :=
  zy_callSI C hR As hM hL hna hfit hcat hd (fun r t' h' hp => by obtain ⟨rfl, rfl, rfl⟩ := hp; exact kk)
theorem zf_callSJ {f : Int64} (C : zCx E b G own cc nL rt) (hR : zRoom G D MC MS) (As : List Value) (hM : zMet E b G.2.1 y cy mly rty d mc ms As t h (qJf f t0 h0)) (hL : zLS own idx y cy mly rty na) (hna : As.length = na) (hfit : zFitB d mly D cells mc MC slots ms MS) (hcat : (rest.map fun v => v.category).sum ≤ 8) (hd : decode cc pc = .ok (.invokestatic idx, 3))
    (kk : zAW E b G nL (cells + mc) (slots + ms) (pc + 3) ls (.long f :: rest) t0 h0) : zAW E b G nL cells slots pc ls (As.reverse ++ rest) t h :=
  zy_callSJ C hR As hM hL hna hfit hcat hd (fun r t' h' hp => by obtain ⟨rfl, rfl, rfl⟩ := hp; exact kk)
theorem zf_ireturn {f v : Int32} (C : zCx E b G own cc nL (some .int)) (hE : zEnd E b G mc ms (qIf f t0 h0)) (hc : cells ≤ mc) (hs : slots ≤ ms) (hd : decode cc pc = .ok (.ireturn, 1)) (hv : v = f) (ht : t = t0) (hh : h = h0) : zAW E b G nL cells slots pc ls [.int v] t h := zy_ireturn C hE hc hs hd ⟨hv, ht, hh⟩
theorem zf_zreturn {f v : Int32} (C : zCx E b G own cc nL (some .boolean)) (hE : zEnd E b G mc ms (qIf f t0 h0)) (hc : cells ≤ mc) (hs : slots ≤ ms) (hd : decode cc pc = .ok (.ireturn, 1)) (h01 : v = 0 ∨ v = 1) (hv : v = f) (ht : t = t0) (hh : h = h0) : zAW E b G nL cells slots pc ls [.int v] t h := zy_zreturn C hE hc hs hd h01 ⟨hv, ht, hh⟩
theorem zf_lreturn {f v : Int64} (C : zCx E b G own cc nL (some .long)) (hE : zEnd E b G mc ms (qJf f t0 h0)) (hc : cells ≤ mc) (hs : slots ≤ ms) (hd : decode cc pc = .ok (.lreturn, 1)) (hv : v = f) (ht : t = t0) (hh : h = h0) : zAW E b G nL cells slots pc ls [.long v] t h := zy_lreturn C hE hc hs hd ⟨hv, ht, hh⟩
theorem zf_return (C : zCx E b G own cc nL none) (hE : zEnd E b G mc ms (qVf t0 h0)) (hc : cells ≤ mc) (hs : slots ≤ ms) (hd : decode cc pc = .ok (.return_, 1)) (ht : t = t0) (hh : h = h0) : zAW E b G nL cells slots pc ls [] t h := zy_return C hE hc hs hd ⟨ht, hh⟩
end ZQ
/-- a boolean as an int -/
def zb (p : Prop) [Decidable p] : Int32 := if p then 1 else 0
theorem zb_t {p : Prop} [Decidable p] (h : p) : zb p = 1 := if_pos h
theorem zb_f {p : Prop} [Decidable p] (h : ¬ p) : zb p = 0 := if_neg h
theorem zb_01 (p : Prop) [Decidable p] : zb p = 0 ∨ zb p = 1 := by
  unfold zb
  split
  · exact Or.inr rfl
  · exact Or.inl rfl
theorem zb_eq0 {p : Prop} [Decidable p] : zb p = 0 ↔ ¬ p := by
  unfold zb
  split <;> simp_all
theorem zb_ne0 {p : Prop} [Decidable p] : ¬ zb p = 0 ↔ p := by
  unfold zb
  split <;> simp_all
