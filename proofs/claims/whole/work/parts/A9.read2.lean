/-! ===== what is read keeps the bounds ===== -/
def rfOk (P : Nat) (F : Nat → Nat) : Prop := F 0 < P ∧ F 1 < P ∧ F 0 ≠ F 1 ∧ 1 ≤ F 2 ∧ F 2 ≤ 99 ∧ F 3 ≤ 9 ∧ 1 ≤ F 4 ∧ F 4 ≤ 30
def gfOk (P : Nat) (F : Nat → Nat) : Prop := F 0 < P ∧ F 1 < P ∧ F 0 ≠ F 1 ∧ 1 ≤ F 2 ∧ F 2 ≤ 127 ∧ 1 ≤ F 3 ∧ F 3 ≤ 9 ∧ 1 ≤ F 4 ∧ F 4 ≤ 8 ∧ F 5 ≤ 6
def rOk (cn : Nat) (r : yR) : Prop := (2 ≤ r.1.1 ∧ r.1.1 ≤ 12 ∧ r.1.2.1 ≤ 10 ∧ r.1.2.2 ≤ 4) ∧ (r.2.1.1 ≤ 14 ∧ r.2.1.2.1 ≤ 8 ∧ 3 ≤ r.2.1.2.2 ∧ r.2.1.2.2 ≤ 11) ∧ (∀ k, k < r.1.2.1 → rfOk r.1.1 (r.2.2.1 k)) ∧ (∀ k, k < r.1.2.2 → rfOk r.1.1 (r.2.2.2.1 k)) ∧ (∀ g, g < r.2.1.1 → gfOk r.1.1 (r.2.2.2.2.1 g)) ∧ (∀ k, k < r.2.1.2.1 → r.2.2.2.2.2 k < 1000) ∧ (cn = 0 → r.1.2.1 = 0 ∧ r.1.2.2 = 0 ∧ r.2.1.1 = 0)
theorem gf4 {P : Nat} {F G : Nat → Nat} (h : gfOk P F) (e : ∀ i, ¬ i = 4 → G i = F i) (h4 : 1 ≤ G 4 ∧ G 4 ≤ 8) : gfOk P G := by
  obtain ⟨g1, g2, g3, g4, g5, g6, g7, g8, g9, g10⟩ := h
  unfold gfOk
  rw [e 0 (by omega), e 1 (by omega), e 2 (by omega), e 3 (by omega), e 5 (by omega)]
  exact ⟨g1, g2, g3, g4, g5, g6, g7, h4.1, h4.2, g10⟩
theorem gf5 {P : Nat} {F G : Nat → Nat} (h : gfOk P F) (e : ∀ i, ¬ i = 5 → G i = F i) (h4 : G 5 ≤ 6) : gfOk P G := by
  obtain ⟨g1, g2, g3, g4, g5, g6, g7, g8, g9, g10⟩ := h
  unfold gfOk
  rw [e 0 (by omega), e 1 (by omega), e 2 (by omega), e 3 (by omega), e 4 (by omega)]
  exact ⟨g1, g2, g3, g4, g5, g6, g7, g8, g9, h4⟩
theorem rOk_0 : rOk 0 r0 := ⟨⟨by decide, by decide, by decide, by decide⟩, ⟨by decide, by decide, by decide, by decide⟩, fun k hk => absurd hk (Nat.not_lt_zero k), fun k hk => absurd hk (Nat.not_lt_zero k), fun k hk => absurd hk (Nat.not_lt_zero k), fun k hk => absurd hk (Nat.not_lt_zero k), fun _ => ⟨rfl, rfl, rfl⟩⟩
/-- a clause's numbers as they must be -/
def vOk (kd : Nat) (r : yR) (v : Nat → Nat) : Prop := (∀ j, j < kCt kd → kLo kd j ≤ v j ∧ v j < kUp kd r.1.1 r.2.1.1 j) ∧ (kSm kd = true → ¬ v 1 = v 0)
theorem clN_ok {B : Nat → Nat} {n j kd : Nat} {r : yR} {p : Nat} (h : (clN B n j kd r (kCt kd)).1 = .inr p) : vOk kd r (clN B n j kd r (kCt kd)).2 := by
  have x := nms_ok (kCt kd) h
  refine ⟨x.1, fun hs => x.2 hs ?_⟩
  have : 1 ≤ kd ∧ kd ≤ 3 := of_decide_eq_true hs
  obtain rfl | rfl | rfl : kd = 1 ∨ kd = 2 ∨ kd = 3 := by omega
  all_goals decide
theorem endR_in {B : Nat → Nat} {n : Nat} {st : yT} {k' : Nat} (h : endR B n st = .inr k') : ∃ p, st = .inr p := by
  cases st with
  | inl f => cases h
  | inr p => exact ⟨p, rfl⟩
theorem tellR_ok {cn kd : Nat} {r : yR} {v : Nat → Nat} (hk : kd < 8) (hr : rOk cn r) (hf : ¬ kFull kd r) (h0 : ¬ (kd = 0 ∧ 0 < cn)) (hv : vOk kd r v) : rOk (cn + 1) (tellR kd v r) := by
  obtain ⟨⟨b1, b2, b3, b4⟩, ⟨b5, b6, b7, b8⟩, b9, b10, b11, b12, b13⟩ := hr
  unfold kFull at hf
  obtain rfl | rfl | rfl | rfl | rfl | rfl | rfl | rfl : kd = 0 ∨ kd = 1 ∨ kd = 2 ∨ kd = 3 ∨ kd = 4 ∨ kd = 5 ∨ kd = 6 ∨ kd = 7 := by omega
  · obtain ⟨c1, c2, c3⟩ := b13 (by omega)
    have v0 : 2 ≤ v 0 ∧ v 0 < 13 := hv.1 0 (by decide)
    refine ⟨⟨v0.1, by show v 0 ≤ 12; omega, b3, b4⟩, ⟨b5, b6, b7, b8⟩, fun k hk => absurd (show k < r.1.2.1 from hk) (by omega), fun k hk => absurd (show k < r.1.2.2 from hk) (by omega), fun k hk => absurd (show k < r.2.1.1 from hk) (by omega), b12, fun z => absurd z (by omega)⟩
  · have f9 : ¬ 10 ≤ r.1.2.1 := fun z => hf (Or.inl ⟨rfl, z⟩)
    have v0 : 0 ≤ v 0 ∧ v 0 < r.1.1 := hv.1 0 (by decide)
    have v1 : 0 ≤ v 1 ∧ v 1 < r.1.1 := hv.1 1 (by decide)
    have v2 : 1 ≤ v 2 ∧ v 2 < 100 := hv.1 2 (by decide)
    have v3 : 0 ≤ v 3 ∧ v 3 < 10 := hv.1 3 (by decide)
    have v4 : 1 ≤ v 4 ∧ v 4 < 31 := hv.1 4 (by decide)
    have v5 := hv.2 rfl
    refine ⟨⟨b1, b2, by show r.1.2.1 + 1 ≤ 10; omega, b4⟩, ⟨b5, b6, b7, b8⟩, fun k hk => ?_, b10, b11, b12, fun z => absurd z (by omega)⟩
    show rfOk r.1.1 (fun i => if k = r.1.2.1 then v i else r.2.2.1 k i)
    by_cases z : k = r.1.2.1
    · have e : (fun i => if k = r.1.2.1 then v i else r.2.2.1 k i) = v := funext fun i => if_pos z
      rw [e]
      exact ⟨v0.2, v1.2, fun y => v5 y.symm, v2.1, by omega, by omega, v4.1, by omega⟩
    · have e : (fun i => if k = r.1.2.1 then v i else r.2.2.1 k i) = r.2.2.1 k := funext fun i => if_neg z
      rw [e]
      exact b9 k (by have : k < r.1.2.1 + 1 := hk; omega)
  · have f9 : ¬ 4 ≤ r.1.2.2 := fun z => hf (Or.inr (Or.inl ⟨rfl, z⟩))
    have v0 : 0 ≤ v 0 ∧ v 0 < r.1.1 := hv.1 0 (by decide)
    have v1 : 0 ≤ v 1 ∧ v 1 < r.1.1 := hv.1 1 (by decide)
    have v2 : 1 ≤ v 2 ∧ v 2 < 100 := hv.1 2 (by decide)
    have v3 : 0 ≤ v 3 ∧ v 3 < 10 := hv.1 3 (by decide)
    have v4 : 1 ≤ v 4 ∧ v 4 < 31 := hv.1 4 (by decide)
    have v5 := hv.2 rfl
    refine ⟨⟨b1, b2, b3, by show r.1.2.2 + 1 ≤ 4; omega⟩, ⟨b5, b6, b7, b8⟩, b9, fun k hk => ?_, b11, b12, fun z => absurd z (by omega)⟩
    show rfOk r.1.1 (fun i => if k = r.1.2.2 then v i else r.2.2.2.1 k i)
    by_cases z : k = r.1.2.2
    · have e : (fun i => if k = r.1.2.2 then v i else r.2.2.2.1 k i) = v := funext fun i => if_pos z
      rw [e]
      exact ⟨v0.2, v1.2, fun y => v5 y.symm, v2.1, by omega, by omega, v4.1, by omega⟩
    · have e : (fun i => if k = r.1.2.2 then v i else r.2.2.2.1 k i) = r.2.2.2.1 k := funext fun i => if_neg z
      rw [e]
      exact b10 k (by have : k < r.1.2.2 + 1 := hk; omega)
  · have f9 : ¬ 14 ≤ r.2.1.1 := fun z => hf (Or.inr (Or.inr (Or.inl ⟨rfl, z⟩)))
    have v0 : 0 ≤ v 0 ∧ v 0 < r.1.1 := hv.1 0 (by decide)
    have v1 : 0 ≤ v 1 ∧ v 1 < r.1.1 := hv.1 1 (by decide)
    have v2 : 1 ≤ v 2 ∧ v 2 < 128 := hv.1 2 (by decide)
    have v3 : 1 ≤ v 3 ∧ v 3 < 10 := hv.1 3 (by decide)
    have v5 := hv.2 rfl
    refine ⟨⟨b1, b2, b3, b4⟩, ⟨by show r.2.1.1 + 1 ≤ 14; omega, b6, b7, b8⟩, b9, b10, fun k hk => ?_, b12, fun z => absurd z (by omega)⟩
    show gfOk r.1.1 (fun i => if k = r.2.1.1 then (if i < 4 then v i else if i = 4 then 8 else 0) else r.2.2.2.2.1 k i)
    by_cases z : k = r.2.1.1
    · have e : (fun i => if k = r.2.1.1 then (if i < 4 then v i else if i = 4 then 8 else 0) else r.2.2.2.2.1 k i) = fun i => if i < 4 then v i else if i = 4 then 8 else 0 := funext fun i => if_pos z
      rw [e]
      exact ⟨v0.2, v1.2, fun y => v5 (Eq.symm y), v2.1, (by show v 2 ≤ 127; omega), v3.1, (by show v 3 ≤ 9; omega), (by show 1 ≤ 8; omega), (by show 8 ≤ 8; omega), (by show 0 ≤ 6; omega)⟩
    · have e : (fun i => if k = r.2.1.1 then (if i < 4 then v i else if i = 4 then 8 else 0) else r.2.2.2.2.1 k i) = r.2.2.2.2.1 k := funext fun i => if_neg z
      rw [e]
      exact b11 k (by have : k < r.2.1.1 + 1 := hk; omega)
  · have v1 : 1 ≤ v 1 ∧ v 1 < 9 := hv.1 1 (by decide)
    refine ⟨⟨b1, b2, b3, b4⟩, ⟨b5, b6, b7, b8⟩, b9, b10, fun k hk => ?_, b12, fun z => absurd z (by omega)⟩
    show gfOk r.1.1 (fun i => if k = v 0 ∧ i = 4 then v 1 else r.2.2.2.2.1 k i)
    have g := b11 k hk
    refine gf4 g (fun i hi => if_neg (fun z => hi z.2)) ?_
    show 1 ≤ (if k = v 0 ∧ 4 = 4 then v 1 else r.2.2.2.2.1 k 4) ∧ (if k = v 0 ∧ 4 = 4 then v 1 else r.2.2.2.2.1 k 4) ≤ 8
    have g8 : 1 ≤ r.2.2.2.2.1 k 4 ∧ r.2.2.2.2.1 k 4 ≤ 8 := ⟨g.2.2.2.2.2.2.2.1, g.2.2.2.2.2.2.2.2.1⟩
    split <;> omega
  · have v1 : 0 ≤ v 1 ∧ v 1 < 7 := hv.1 1 (by decide)
    refine ⟨⟨b1, b2, b3, b4⟩, ⟨b5, b6, b7, b8⟩, b9, b10, fun k hk => ?_, b12, fun z => absurd z (by omega)⟩
    show gfOk r.1.1 (fun i => if k = v 0 ∧ i = 5 then v 1 else r.2.2.2.2.1 k i)
    have g := b11 k hk
    refine gf5 g (fun i hi => if_neg (fun z => hi z.2)) ?_
    show (if k = v 0 ∧ 5 = 5 then v 1 else r.2.2.2.2.1 k 5) ≤ 6
    have g8 : r.2.2.2.2.1 k 5 ≤ 6 := g.2.2.2.2.2.2.2.2.2
    split <;> omega
  · have f9 : ¬ 8 ≤ r.2.1.2.1 := fun z => hf (Or.inr (Or.inr (Or.inr ⟨rfl, z⟩)))
    have v0 : 0 ≤ v 0 ∧ v 0 < 1000 := hv.1 0 (by decide)
    show rOk (cn + 1) (@ite _ (∃ k, k < r.2.1.2.1 ∧ r.2.2.2.2.2 k = v 0) (Classical.propDecidable _) r (r.1, (r.2.1.1, r.2.1.2.1 + 1, r.2.1.2.2), r.2.2.1, r.2.2.2.1, r.2.2.2.2.1, nUp r.2.2.2.2.2 r.2.1.2.1 (v 0)))
    split
    · exact ⟨⟨b1, b2, b3, b4⟩, ⟨b5, b6, b7, b8⟩, b9, b10, b11, b12, fun z => absurd z (by omega)⟩
    · refine ⟨⟨b1, b2, b3, b4⟩, ⟨b5, by show r.2.1.2.1 + 1 ≤ 8; omega, b7, b8⟩, b9, b10, b11, fun k hk => ?_, fun z => absurd z (by omega)⟩
      show nUp r.2.2.2.2.2 r.2.1.2.1 (v 0) k < 1000
      unfold nUp
      split
      · exact v0.2
      · exact b12 k (by have : k < r.2.1.2.1 + 1 := hk; omega)
  · have v0 : 3 ≤ v 0 ∧ v 0 < 12 := hv.1 0 (by decide)
    exact ⟨⟨b1, b2, b3, b4⟩, ⟨b5, b6, v0.1, by show v 0 ≤ 11; omega⟩, b9, b10, b11, b12, fun z => absurd z (by omega)⟩
/-- what clR comes to, case by case -/
theorem clR_1 {B : Nat → Nat} {n k cn : Nat} {r : yR} (h : knd B k (sc (isLt B) n k) = 8) : clR B n k cn r = .inl (1, k) := by unfold clR; rw [if_pos h]
theorem clR_3 {B : Nat → Nat} {n k cn : Nat} {r : yR} (h : ¬ knd B k (sc (isLt B) n k) = 8) (h3 : 60 ≤ cn ∨ kFull (knd B k (sc (isLt B) n k)) r) : clR B n k cn r = .inl (3, k) := by unfold clR; rw [if_neg h, if_pos h3]
theorem clR_4 {B : Nat → Nat} {n k cn : Nat} {r : yR} (h3 : ¬ (60 ≤ cn ∨ kFull (knd B k (sc (isLt B) n k)) r)) (h4 : knd B k (sc (isLt B) n k) = 0 ∧ 0 < cn) : clR B n k cn r = .inl (4, k) := by unfold clR; rw [if_neg (by omega), if_neg h3, if_pos h4]
def clE (st : yT) (r' : yR) : (Nat × Nat) ⊕ (Nat × yR) := match st with
  | .inl f => .inl f
  | .inr k' => .inr (k', r')
theorem clR_5 {B : Nat → Nat} {n k cn kd : Nat} {r : yR} (e : knd B k (sc (isLt B) n k) = kd) (h : kd < 8) (h3 : ¬ (60 ≤ cn ∨ kFull kd r)) (h4 : ¬ (kd = 0 ∧ 0 < cn)) : clR B n k cn r = clE (endR B n (clN B n (sc (isLt B) n k) kd r (kCt kd)).1) (tellR kd (clN B n (sc (isLt B) n k) kd r (kCt kd)).2 r) := by
  unfold clR clE
  rw [e, if_neg (by omega), if_neg h3, if_neg h4]
  cases endR B n (clN B n (sc (isLt B) n k) kd r (kCt kd)).1 <;> rfl
theorem clR_ok {B : Nat → Nat} {n k cn : Nat} {r : yR} {x : Nat × yR} (hr : rOk cn r) (h : clR B n k cn r = .inr x) : rOk (cn + 1) x.2 ∧ cn < 60 := by
  by_cases h8 : knd B k (sc (isLt B) n k) = 8
  · rw [clR_1 h8] at h; cases h
  · have hk : knd B k (sc (isLt B) n k) < 8 := by
      rcases knd_lt (B := B) (s := k) (j := sc (isLt B) n k) with z | z
      · exact z.1
      · exact absurd z h8
    by_cases h3 : 60 ≤ cn ∨ kFull (knd B k (sc (isLt B) n k)) r
    · rw [clR_3 h8 h3] at h; cases h
    · by_cases h4 : knd B k (sc (isLt B) n k) = 0 ∧ 0 < cn
      · rw [clR_4 h3 h4] at h; cases h
      · rw [clR_5 rfl hk h3 h4] at h
        cases e : endR B n (clN B n (sc (isLt B) n k) (knd B k (sc (isLt B) n k)) r (kCt (knd B k (sc (isLt B) n k)))).1 with
        | inl f => rw [e] at h; cases h
        | inr k' =>
          rw [e] at h
          cases h
          obtain ⟨p, hp⟩ := endR_in e
          exact ⟨tellR_ok hk hr (fun z => h3 (Or.inr z)) h4 (clN_ok hp), Nat.not_le.mp (fun z => h3 (Or.inl z))⟩
