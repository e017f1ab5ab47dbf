/-! ===== for ever: states as numbers ===== -/
def kW (w : Nat → Nat) : Nat → Nat
  | 0 => 0
  | k + 1 => if k < 8 then kW w k * 100 + w k else kW w k
def kR (p : Nat) (w r : Nat → Nat) : Nat → Nat
  | 0 => p
  | k + 1 => (if k < 8 then kR p w r k else kR p w r k * 100 + w k) * 12 + r k
/-- the class's marks -/
def kP (w r : Nat → Nat) (f : Nat) : Nat → Nat
  | 0 => 0
  | k + 1 => (kP w r f k * 128 + w (f + k)) * 16 + r (f + k)
theorem mix {m a b x y : Nat} (hx : x < m) (hy : y < m) (h : a * m + x = b * m + y) : a = b ∧ x = y := by
  have h1 : (a * m + x) / m = (b * m + y) / m := by rw [h]
  have hm : 0 < m := by omega
  rw [Nat.mul_comm a, Nat.mul_comm b, Nat.mul_add_div hm, Nat.mul_add_div hm, Nat.div_eq_of_lt hx, Nat.div_eq_of_lt hy] at h1
  have e : a = b := by omega
  subst e
  exact ⟨rfl, by omega⟩
theorem kWR_inj {p p' : Nat} {w w' r r' : Nat → Nat} : ∀ n, (∀ k, k < n → w k < 100 ∧ w' k < 100 ∧ r k < 12 ∧ r' k < 12) → kW w n = kW w' n → kR p w r n = kR p' w' r' n → p = p' ∧ ∀ k, k < n → w k = w' k ∧ r k = r' k
  | 0, _, _, h2 => ⟨h2, fun k hk => absurd hk (by omega)⟩
  | n + 1, hb, h1, h2 => by
    obtain ⟨b1, b2, b3, b4⟩ := hb n (by omega)
    obtain ⟨e1, e2⟩ := mix b3 b4 h2
    by_cases c8 : n < 8
    · have h1' : kW w n * 100 + w n = kW w' n * 100 + w' n := by
        have : (if n < 8 then kW w n * 100 + w n else kW w n) = (if n < 8 then kW w' n * 100 + w' n else kW w' n) := h1
        rw [if_pos c8, if_pos c8] at this; exact this
      rw [if_pos c8, if_pos c8] at e1
      obtain ⟨e3, e4⟩ := mix b1 b2 h1'
      obtain ⟨ih1, ih2⟩ := kWR_inj n (fun k hk => hb k (by omega)) e3 e1
      refine ⟨ih1, fun k hk => ?_⟩
      by_cases z : k = n
      · rw [z]; exact ⟨e4, e2⟩
      · exact ih2 k (by omega)
    · have h1' : kW w n = kW w' n := by
        have : (if n < 8 then kW w n * 100 + w n else kW w n) = (if n < 8 then kW w' n * 100 + w' n else kW w' n) := h1
        rw [if_neg c8, if_neg c8] at this; exact this
      rw [if_neg c8, if_neg c8] at e1
      obtain ⟨e3, e4⟩ := mix b1 b2 e1
      obtain ⟨ih1, ih2⟩ := kWR_inj n (fun k hk => hb k (by omega)) h1' e3
      refine ⟨ih1, fun k hk => ?_⟩
      by_cases z : k = n
      · rw [z]; exact ⟨e4, e2⟩
      · exact ih2 k (by omega)
theorem kWR_eq {p : Nat} {w w' r r' : Nat → Nat} : ∀ n, (∀ k, k < n → w k = w' k ∧ r k = r' k) → kW w n = kW w' n ∧ kR p w r n = kR p w' r' n
  | 0, _ => ⟨rfl, rfl⟩
  | n + 1, h => by
    obtain ⟨i1, i2⟩ := kWR_eq (p := p) n (fun k hk => h k (by omega))
    obtain ⟨e1, e2⟩ := h n (by omega)
    refine ⟨?_, ?_⟩
    · show (if n < 8 then kW w n * 100 + w n else kW w n) = (if n < 8 then kW w' n * 100 + w' n else kW w' n)
      rw [i1, e1]
    · show (if n < 8 then kR p w r n else kR p w r n * 100 + w n) * 12 + r n = (if n < 8 then kR p w' r' n else kR p w' r' n * 100 + w' n) * 12 + r' n
      rw [i2, e1, e2]
theorem kP_inj {w w' r r' : Nat → Nat} {f : Nat} : ∀ n, (∀ k, k < n → w (f + k) < 128 ∧ w' (f + k) < 128 ∧ r (f + k) < 16 ∧ r' (f + k) < 16) → kP w r f n = kP w' r' f n → ∀ k, k < n → w (f + k) = w' (f + k) ∧ r (f + k) = r' (f + k)
  | 0, _, _ => fun k hk => absurd hk (by omega)
  | n + 1, hb, h => by
    obtain ⟨b1, b2, b3, b4⟩ := hb n (by omega)
    obtain ⟨e1, e2⟩ := mix b3 b4 h
    obtain ⟨e3, e4⟩ := mix b1 b2 e1
    have ih := kP_inj n (fun k hk => hb k (by omega)) e3
    intro k hk
    by_cases z : k = n
    · rw [z]; exact ⟨e4, e2⟩
    · exact ih k (by omega)
theorem kP_eq {w w' r r' : Nat → Nat} {f : Nat} : ∀ n, (∀ k, k < n → w (f + k) = w' (f + k) ∧ r (f + k) = r' (f + k)) → kP w r f n = kP w' r' f n
  | 0, _ => rfl
  | n + 1, h => by
    have ih := kP_eq n (fun k hk => h k (by omega))
    obtain ⟨e1, e2⟩ := h n (by omega)
    show (kP w r f n * 128 + w (f + n)) * 16 + r (f + n) = (kP w' r' f n * 128 + w' (f + n)) * 16 + r' (f + n)
    rw [ih, e1, e2]
theorem kP_lt {w r : Nat → Nat} {f : Nat} : ∀ n, (∀ k, k < n → w (f + k) < 128 ∧ r (f + k) < 16) → kP w r f n < 2048 ^ n
  | 0, _ => Nat.zero_lt_one
  | n + 1, h => by
    have ih := kP_lt n (fun k hk => h k (by omega))
    obtain ⟨b1, b2⟩ := h n (by omega)
    show (kP w r f n * 128 + w (f + n)) * 16 + r (f + n) < 2048 ^ (n + 1)
    rw [Nat.pow_succ]
    omega
theorem kW_lt {w : Nat → Nat} : ∀ n, n ≤ 10 → (∀ k, k < n → w k < 100) → kW w n < 100 ^ (min n 8)
  | 0, _, _ => Nat.zero_lt_one
  | n + 1, hn, h => by
    have ih := kW_lt n (by omega) (fun k hk => h k (by omega))
    have b := h n (by omega)
    show (if n < 8 then kW w n * 100 + w n else kW w n) < _
    by_cases c8 : n < 8
    · rw [if_pos c8, show min (n + 1) 8 = min n 8 + 1 by omega, Nat.pow_succ]
      omega
    · rw [if_neg c8, show min (n + 1) 8 = min n 8 by omega]; exact ih
theorem kR_lt {p : Nat} {w r : Nat → Nat} (hp : p < 210) : ∀ n, n ≤ 10 → (∀ k, k < n → w k < 100 ∧ r k < 12) → kR p w r n < 210 * 12 ^ n * 100 ^ (n - 8)
  | 0, _, _ => by show p < _; omega
  | n + 1, hn, h => by
    have ih := kR_lt hp n (by omega) (fun k hk => h k (by omega))
    obtain ⟨b1, b2⟩ := h n (by omega)
    show (if n < 8 then kR p w r n else kR p w r n * 100 + w n) * 12 + r n < _
    by_cases c8 : n < 8
    · rw [if_pos c8, show n + 1 - 8 = 0 by omega]
      rw [show n - 8 = 0 by omega] at ih
      rw [Nat.pow_zero, Nat.mul_one] at ih ⊢
      rw [Nat.pow_succ, ← Nat.mul_assoc]
      omega
    · rw [if_neg c8, show n + 1 - 8 = n - 8 + 1 by omega, Nat.pow_succ, Nat.pow_succ]
      have e : 210 * (12 ^ n * 12) * (100 ^ (n - 8) * 100) = (210 * 12 ^ n * 100 ^ (n - 8)) * 1200 := by
        rw [← Nat.mul_assoc, ← Nat.mul_assoc, Nat.mul_right_comm (210 * 12 ^ n) 12, Nat.mul_assoc _ 12 100]
      rw [e]
      omega
/-- the days between are whole rounds of the row and whole weeks -/
theorem stride_iff {n i d t : Nat} (hn : 0 < n) (hid : i ≤ d) : (i % n * 7 + (t + i) % 7 = d % n * 7 + (t + d) % 7) ↔ (d - i) % (if n % 7 = 0 then max n 7 else n * 7) = 0 := by
  have h7 : (i % n * 7 + (t + i) % 7 = d % n * 7 + (t + d) % 7) ↔ (i % n = d % n ∧ (t + i) % 7 = (t + d) % 7) := by
    constructor
    · intro h
      exact mix (Nat.mod_lt _ (by omega)) (Nat.mod_lt _ (by omega)) h
    · rintro ⟨h1, h2⟩
      rw [h1, h2]
  have hm : i % n = d % n ↔ (d - i) % n = 0 := by
    constructor
    · intro h; exact Nat.sub_mod_eq_zero_of_mod_eq h.symm
    · intro h
      obtain ⟨k, hk⟩ := Nat.dvd_of_mod_eq_zero h
      have : d = i + n * k := by omega
      rw [this, Nat.add_mul_mod_self_left]
  have hw : (t + i) % 7 = (t + d) % 7 ↔ (d - i) % 7 = 0 := by omega
  rw [h7, hm, hw]
  by_cases c : n % 7 = 0
  · rw [if_pos c, Nat.max_eq_left (by omega)]
    constructor
    · exact fun z => z.1
    · intro z
      refine ⟨z, ?_⟩
      obtain ⟨k, hk⟩ := Nat.dvd_of_mod_eq_zero z
      obtain ⟨j, hj⟩ := Nat.dvd_of_mod_eq_zero c
      rw [hk, hj, Nat.mul_assoc]
      exact Nat.mul_mod_right _ _
  · rw [if_neg c]
    have hc : Nat.Coprime n 7 := by
      rw [Nat.coprime_comm]
      have h7p : ∀ m, m < 7 → m ≠ 0 → Nat.gcd m 7 = 1 := by decide
      show Nat.gcd 7 n = 1
      rw [Nat.gcd_rec]
      exact h7p _ (Nat.mod_lt _ (by omega)) c
    constructor
    · rintro ⟨z1, z2⟩
      exact Nat.mod_eq_zero_of_dvd (hc.mul_dvd_of_dvd_of_dvd (Nat.dvd_of_mod_eq_zero z1) (Nat.dvd_of_mod_eq_zero z2))
    · intro z
      have hd := Nat.dvd_of_mod_eq_zero z
      exact ⟨Nat.mod_eq_zero_of_dvd (Nat.dvd_trans (Nat.dvd_mul_right n 7) hd), Nat.mod_eq_zero_of_dvd (Nat.dvd_trans (Nat.dvd_mul_left 7 n) hd)⟩
