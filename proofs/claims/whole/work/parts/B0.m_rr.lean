/-! ===== the reference: what is read so far, as cells ===== -/
def mRr (h : zH) (r : yR) : Prop := (zI h 159 0 = nI r.1.1 ∧ zI h 159 1 = nI r.1.2.1 ∧ zI h 159 2 = nI r.1.2.2 ∧ zI h 159 3 = nI r.2.1.1 ∧ zI h 159 4 = nI r.2.1.2.1 ∧ zI h 159 5 = nI r.2.1.2.2) ∧ (∀ k, k < r.1.2.1 → ∀ i, i < 5 → zI h (163 + 1 + k) i = nI (r.2.2.1 k i)) ∧ (∀ k, k < r.1.2.2 → ∀ i, i < 5 → zI h (186 + 1 + k) i = nI (r.2.2.2.1 k i)) ∧ (∀ k, k < r.2.1.1 → ∀ i, i < 6 → zI h (196 + 1 + k) i = nI (r.2.2.2.2.1 k i)) ∧ ∀ k, k < r.2.1.2.1 → zI h 161 k = nI (r.2.2.2.2.2 k)
/-- where what is read lies -/
abbrev iR (i : Nat) : Prop := 159 ≤ i ∧ i < 211
section MRR
variable {h h' : zH} {r : yR} {cn : Nat} {v : Nat → Nat}
theorem mRr.eq (ok : rOk cn r) (q : ∀ i j, iR i → zI h' i j = zI h i j) (m : mRr h r) : mRr h' r := by
  obtain ⟨⟨b1, b2, b3, b4⟩, ⟨b5, b6, b7, b8⟩, -⟩ := ok
  obtain ⟨⟨m0, m1, m2, m3, m4, m5⟩, m6, m7, m8, m9⟩ := m
  have p : ∀ i j, iR i → ∀ x, zI h i j = x → zI h' i j = x := fun i j a x e => (q i j a).trans e
  exact ⟨⟨p _ _ (by omega) _ m0, p _ _ (by omega) _ m1, p _ _ (by omega) _ m2, p _ _ (by omega) _ m3, p _ _ (by omega) _ m4, p _ _ (by omega) _ m5⟩, fun k hk i hi => p _ _ (by omega) _ (m6 k hk i hi), fun k hk i hi => p _ _ (by omega) _ (m7 k hk i hi), fun k hk i hi => p _ _ (by omega) _ (m8 k hk i hi), fun k hk => p _ _ (by omega) _ (m9 k hk)⟩
theorem rr0 (ok : rOk cn r) (q : ∀ i j, iR i → ¬ (i = 159 ∧ j = 0) → zI h' i j = zI h i j) (e : zI h' 159 0 = nI (v 0)) (m : mRr h r) : mRr h' (tellR 0 v r) := by
  obtain ⟨⟨b1, b2, b3, b4⟩, ⟨b5, b6, b7, b8⟩, -⟩ := ok
  obtain ⟨⟨m0, m1, m2, m3, m4, m5⟩, m6, m7, m8, m9⟩ := m
  have p : ∀ i j, iR i → ¬ (i = 159 ∧ j = 0) → ∀ x, zI h i j = x → zI h' i j = x := fun i j a c x e => (q i j a c).trans e
  exact ⟨⟨e, p _ _ (by omega) (by omega) _ m1, p _ _ (by omega) (by omega) _ m2, p _ _ (by omega) (by omega) _ m3, p _ _ (by omega) (by omega) _ m4, p _ _ (by omega) (by omega) _ m5⟩, fun k (hk : k < r.1.2.1) i hi => p _ _ (by omega) (by omega) _ (m6 k hk i hi), fun k (hk : k < r.1.2.2) i hi => p _ _ (by omega) (by omega) _ (m7 k hk i hi), fun k (hk : k < r.2.1.1) i hi => p _ _ (by omega) (by omega) _ (m8 k hk i hi), fun k (hk : k < r.2.1.2.1) => p _ _ (by omega) (by omega) _ (m9 k hk)⟩
theorem rr1 (ok : rOk cn r) (q : ∀ i j, iR i → ¬ (i = 159 ∧ j = 1) → ¬ i = 163 + 1 + r.1.2.1 → zI h' i j = zI h i j) (e : zI h' 159 1 = nI (r.1.2.1 + 1)) (hf : r.1.2.1 < 10) (w : ∀ i, i < 5 → zI h' (163 + 1 + r.1.2.1) i = nI (v i)) (m : mRr h r) : mRr h' (tellR 1 v r) := by
  obtain ⟨⟨b1, b2, b3, b4⟩, ⟨b5, b6, b7, b8⟩, -⟩ := ok
  obtain ⟨⟨m0, m1, m2, m3, m4, m5⟩, m6, m7, m8, m9⟩ := m
  have p : ∀ i j, iR i → ¬ (i = 159 ∧ j = 1) → ¬ i = 163 + 1 + r.1.2.1 → ∀ x, zI h i j = x → zI h' i j = x := fun i j a c d x e => (q i j a c d).trans e
  refine ⟨⟨p _ _ (by omega) (by omega) (by omega) _ m0, e, p _ _ (by omega) (by omega) (by omega) _ m2, p _ _ (by omega) (by omega) (by omega) _ m3, p _ _ (by omega) (by omega) (by omega) _ m4, p _ _ (by omega) (by omega) (by omega) _ m5⟩, fun k (hk : k < r.1.2.1 + 1) i hi => ?_, fun k (hk : k < r.1.2.2) i hi => p _ _ (by omega) (by omega) (by omega) _ (m7 k hk i hi), fun k (hk : k < r.2.1.1) i hi => p _ _ (by omega) (by omega) (by omega) _ (m8 k hk i hi), fun k (hk : k < r.2.1.2.1) => p _ _ (by omega) (by omega) (by omega) _ (m9 k hk)⟩
  show _ = nI (if k = r.1.2.1 then v i else r.2.2.1 k i)
  by_cases z : k = r.1.2.1
  · rw [if_pos z, z]; exact w i hi
  · rw [if_neg z]; exact p _ _ (by omega) (by omega) (by omega) _ (m6 k (by omega) i hi)
theorem rr2 (ok : rOk cn r) (q : ∀ i j, iR i → ¬ (i = 159 ∧ j = 2) → ¬ i = 186 + 1 + r.1.2.2 → zI h' i j = zI h i j) (e : zI h' 159 2 = nI (r.1.2.2 + 1)) (hf : r.1.2.2 < 4) (w : ∀ i, i < 5 → zI h' (186 + 1 + r.1.2.2) i = nI (v i)) (m : mRr h r) : mRr h' (tellR 2 v r) := by
  obtain ⟨⟨b1, b2, b3, b4⟩, ⟨b5, b6, b7, b8⟩, -⟩ := ok
  obtain ⟨⟨m0, m1, m2, m3, m4, m5⟩, m6, m7, m8, m9⟩ := m
  have p : ∀ i j, iR i → ¬ (i = 159 ∧ j = 2) → ¬ i = 186 + 1 + r.1.2.2 → ∀ x, zI h i j = x → zI h' i j = x := fun i j a c d x e => (q i j a c d).trans e
  refine ⟨⟨p _ _ (by omega) (by omega) (by omega) _ m0, p _ _ (by omega) (by omega) (by omega) _ m1, e, p _ _ (by omega) (by omega) (by omega) _ m3, p _ _ (by omega) (by omega) (by omega) _ m4, p _ _ (by omega) (by omega) (by omega) _ m5⟩, fun k (hk : k < r.1.2.1) i hi => p _ _ (by omega) (by omega) (by omega) _ (m6 k hk i hi), fun k (hk : k < r.1.2.2 + 1) i hi => ?_, fun k (hk : k < r.2.1.1) i hi => p _ _ (by omega) (by omega) (by omega) _ (m8 k hk i hi), fun k (hk : k < r.2.1.2.1) => p _ _ (by omega) (by omega) (by omega) _ (m9 k hk)⟩
  show _ = nI (if k = r.1.2.2 then v i else r.2.2.2.1 k i)
  by_cases z : k = r.1.2.2
  · rw [if_pos z, z]; exact w i hi
  · rw [if_neg z]; exact p _ _ (by omega) (by omega) (by omega) _ (m7 k (by omega) i hi)
theorem rr3 (ok : rOk cn r) (q : ∀ i j, iR i → ¬ (i = 159 ∧ j = 3) → ¬ i = 196 + 1 + r.2.1.1 → zI h' i j = zI h i j) (e : zI h' 159 3 = nI (r.2.1.1 + 1)) (hf : r.2.1.1 < 14) (w : ∀ i, i < 4 → zI h' (196 + 1 + r.2.1.1) i = nI (v i)) (w4 : zI h' (196 + 1 + r.2.1.1) 4 = 8) (w5 : zI h' (196 + 1 + r.2.1.1) 5 = 0) (m : mRr h r) : mRr h' (tellR 3 v r) := by
  obtain ⟨⟨b1, b2, b3, b4⟩, ⟨b5, b6, b7, b8⟩, -⟩ := ok
  obtain ⟨⟨m0, m1, m2, m3, m4, m5⟩, m6, m7, m8, m9⟩ := m
  have p : ∀ i j, iR i → ¬ (i = 159 ∧ j = 3) → ¬ i = 196 + 1 + r.2.1.1 → ∀ x, zI h i j = x → zI h' i j = x := fun i j a c d x e => (q i j a c d).trans e
  refine ⟨⟨p _ _ (by omega) (by omega) (by omega) _ m0, p _ _ (by omega) (by omega) (by omega) _ m1, p _ _ (by omega) (by omega) (by omega) _ m2, e, p _ _ (by omega) (by omega) (by omega) _ m4, p _ _ (by omega) (by omega) (by omega) _ m5⟩, fun k (hk : k < r.1.2.1) i hi => p _ _ (by omega) (by omega) (by omega) _ (m6 k hk i hi), fun k (hk : k < r.1.2.2) i hi => p _ _ (by omega) (by omega) (by omega) _ (m7 k hk i hi), fun k (hk : k < r.2.1.1 + 1) i hi => ?_, fun k (hk : k < r.2.1.2.1) => p _ _ (by omega) (by omega) (by omega) _ (m9 k hk)⟩
  show _ = nI (if k = r.2.1.1 then (if i < 4 then v i else if i = 4 then 8 else 0) else r.2.2.2.2.1 k i)
  by_cases z : k = r.2.1.1
  · rw [if_pos z, z]
    by_cases y : i < 4
    · rw [if_pos y]; exact w i y
    · rw [if_neg y]
      obtain rfl | rfl : i = 4 ∨ i = 5 := by omega
      · rw [w4]; rfl
      · rw [w5]; rfl
  · rw [if_neg z]; exact p _ _ (by omega) (by omega) (by omega) _ (m8 k (by omega) i hi)
theorem rr45 (ok : rOk cn r) (kd : Nat) (hkd : kd = 4 ∨ kd = 5) (q : ∀ i j, iR i → ¬ (i = 196 + 1 + v 0 ∧ j = kd) → zI h' i j = zI h i j) (h0 : v 0 < r.2.1.1) (e : zI h' (196 + 1 + v 0) kd = nI (v 1)) (m : mRr h r) : mRr h' (tellR kd v r) := by
  obtain ⟨⟨b1, b2, b3, b4⟩, ⟨b5, b6, b7, b8⟩, -⟩ := ok
  obtain ⟨⟨m0, m1, m2, m3, m4, m5⟩, m6, m7, m8, m9⟩ := m
  have p : ∀ i j, iR i → ¬ (i = 196 + 1 + v 0 ∧ j = kd) → ∀ x, zI h i j = x → zI h' i j = x := fun i j a c x e => (q i j a c).trans e
  have key : ∀ k, k < r.2.1.1 → ∀ i, i < 6 → zI h' (196 + 1 + k) i = nI (if k = v 0 ∧ i = kd then v 1 else r.2.2.2.2.1 k i) := fun k hk i hi => by
    by_cases z : k = v 0 ∧ i = kd
    · rw [if_pos z, z.1, z.2]; exact e
    · rw [if_neg z]; exact p _ _ (by omega) (by omega) _ (m8 k hk i hi)
  rcases hkd with rfl | rfl
  · exact ⟨⟨p _ _ (by omega) (by omega) _ m0, p _ _ (by omega) (by omega) _ m1, p _ _ (by omega) (by omega) _ m2, p _ _ (by omega) (by omega) _ m3, p _ _ (by omega) (by omega) _ m4, p _ _ (by omega) (by omega) _ m5⟩, fun k (hk : k < r.1.2.1) i hi => p _ _ (by omega) (by omega) _ (m6 k hk i hi), fun k (hk : k < r.1.2.2) i hi => p _ _ (by omega) (by omega) _ (m7 k hk i hi), key, fun k (hk : k < r.2.1.2.1) => p _ _ (by omega) (by omega) _ (m9 k hk)⟩
  · exact ⟨⟨p _ _ (by omega) (by omega) _ m0, p _ _ (by omega) (by omega) _ m1, p _ _ (by omega) (by omega) _ m2, p _ _ (by omega) (by omega) _ m3, p _ _ (by omega) (by omega) _ m4, p _ _ (by omega) (by omega) _ m5⟩, fun k (hk : k < r.1.2.1) i hi => p _ _ (by omega) (by omega) _ (m6 k hk i hi), fun k (hk : k < r.1.2.2) i hi => p _ _ (by omega) (by omega) _ (m7 k hk i hi), key, fun k (hk : k < r.2.1.2.1) => p _ _ (by omega) (by omega) _ (m9 k hk)⟩
theorem rr6 (ok : rOk cn r) (q : ∀ i j, iR i → ¬ (i = 159 ∧ j = 4) → ¬ i = 161 → zI h' i j = zI h i j) (e1 : (∃ j, j < r.2.1.2.1 ∧ r.2.2.2.2.2 j = v 0) → zI h' 159 4 = nI r.2.1.2.1 ∧ ∀ j, j < r.2.1.2.1 → zI h' 161 j = nI (r.2.2.2.2.2 j)) (e2 : ¬ (∃ j, j < r.2.1.2.1 ∧ r.2.2.2.2.2 j = v 0) → zI h' 159 4 = nI (r.2.1.2.1 + 1) ∧ ∀ j, j < r.2.1.2.1 + 1 → zI h' 161 j = nI (nUp r.2.2.2.2.2 r.2.1.2.1 (v 0) j)) (m : mRr h r) : mRr h' (tellR 6 v r) := by
  obtain ⟨⟨b1, b2, b3, b4⟩, ⟨b5, b6, b7, b8⟩, -⟩ := ok
  obtain ⟨⟨m0, m1, m2, m3, m4, m5⟩, m6, m7, m8, m9⟩ := m
  have p : ∀ i j, iR i → ¬ (i = 159 ∧ j = 4) → ¬ i = 161 → ∀ x, zI h i j = x → zI h' i j = x := fun i j a c d x e => (q i j a c d).trans e
  show mRr h' (@ite _ (∃ k, k < r.2.1.2.1 ∧ r.2.2.2.2.2 k = v 0) (Classical.propDecidable _) r (r.1, (r.2.1.1, r.2.1.2.1 + 1, r.2.1.2.2), r.2.2.1, r.2.2.2.1, r.2.2.2.2.1, nUp r.2.2.2.2.2 r.2.1.2.1 (v 0)))
  by_cases z : ∃ k, k < r.2.1.2.1 ∧ r.2.2.2.2.2 k = v 0
  · rw [if_pos z]
    exact ⟨⟨p _ _ (by omega) (by omega) (by omega) _ m0, p _ _ (by omega) (by omega) (by omega) _ m1, p _ _ (by omega) (by omega) (by omega) _ m2, p _ _ (by omega) (by omega) (by omega) _ m3, (e1 z).1, p _ _ (by omega) (by omega) (by omega) _ m5⟩, fun k hk i hi => p _ _ (by omega) (by omega) (by omega) _ (m6 k hk i hi), fun k hk i hi => p _ _ (by omega) (by omega) (by omega) _ (m7 k hk i hi), fun k hk i hi => p _ _ (by omega) (by omega) (by omega) _ (m8 k hk i hi), (e1 z).2⟩
  · rw [if_neg z]
    exact ⟨⟨p _ _ (by omega) (by omega) (by omega) _ m0, p _ _ (by omega) (by omega) (by omega) _ m1, p _ _ (by omega) (by omega) (by omega) _ m2, p _ _ (by omega) (by omega) (by omega) _ m3, (e2 z).1, p _ _ (by omega) (by omega) (by omega) _ m5⟩, fun k (hk : k < r.1.2.1) i hi => p _ _ (by omega) (by omega) (by omega) _ (m6 k hk i hi), fun k (hk : k < r.1.2.2) i hi => p _ _ (by omega) (by omega) (by omega) _ (m7 k hk i hi), fun k (hk : k < r.2.1.1) i hi => p _ _ (by omega) (by omega) (by omega) _ (m8 k hk i hi), (e2 z).2⟩
theorem rr7 (ok : rOk cn r) (q : ∀ i j, iR i → ¬ (i = 159 ∧ j = 5) → zI h' i j = zI h i j) (e : zI h' 159 5 = nI (v 0)) (m : mRr h r) : mRr h' (tellR 7 v r) := by
  obtain ⟨⟨b1, b2, b3, b4⟩, ⟨b5, b6, b7, b8⟩, -⟩ := ok
  obtain ⟨⟨m0, m1, m2, m3, m4, m5⟩, m6, m7, m8, m9⟩ := m
  have p : ∀ i j, iR i → ¬ (i = 159 ∧ j = 5) → ∀ x, zI h i j = x → zI h' i j = x := fun i j a c x e => (q i j a c).trans e
  exact ⟨⟨p _ _ (by omega) (by omega) _ m0, p _ _ (by omega) (by omega) _ m1, p _ _ (by omega) (by omega) _ m2, p _ _ (by omega) (by omega) _ m3, p _ _ (by omega) (by omega) _ m4, e⟩, fun k (hk : k < r.1.2.1) i hi => p _ _ (by omega) (by omega) _ (m6 k hk i hi), fun k (hk : k < r.1.2.2) i hi => p _ _ (by omega) (by omega) _ (m7 k hk i hi), fun k (hk : k < r.2.1.1) i hi => p _ _ (by omega) (by omega) _ (m8 k hk i hi), fun k (hk : k < r.2.1.2.1) => p _ _ (by omega) (by omega) _ (m9 k hk)⟩
end MRR
