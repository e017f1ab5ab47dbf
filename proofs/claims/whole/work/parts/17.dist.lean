/-! ===== least minutes to a place: what both programs come to ===== -/
/-- edges k < n that are open (op), between A k and B k, of cost c k; d is what is known, far: no way -/
def dFix (n : Nat) (op : Nat → Prop) (A B c : Nat → Nat) (far : Nat) (d : Nat → Nat) : Prop := ∀ k, k < n → op k → d (B k) ≤ d (A k) + c k ∧ d (A k) ≤ d (B k) + c k
/-- each place that has a way but the end has an edge that leads on -/
def dTight (P n : Nat) (op : Nat → Prop) (A B c : Nat → Nat) (to far : Nat) (d : Nat → Nat) : Prop := d to = 0 ∧ (∀ p, p < P → d p ≤ far) ∧ ∀ p, p < P → p ≠ to → d p < far → ∃ k, k < n ∧ op k ∧ ((A k = p ∧ d (B k) + c k ≤ d p) ∨ (B k = p ∧ d (A k) + c k ≤ d p))
def dEnds (P n : Nat) (op : Nat → Prop) (A B c : Nat → Nat) : Prop := ∀ k, k < n → op k → A k < P ∧ B k < P ∧ A k ≠ B k ∧ 1 ≤ c k ∧ c k ≤ 1000
def dCnt (d : Nat → Nat) (x : Nat) : Nat → Nat
  | 0 => 0
  | P + 1 => dCnt d x P + if d P < x then 1 else 0
theorem dCnt_mono {d : Nat → Nat} {x y : Nat} (h : x ≤ y) : ∀ P, dCnt d x P ≤ dCnt d y P
  | 0 => Nat.le_refl 0
  | P + 1 => by
    have := dCnt_mono (d := d) h P
    show dCnt d x P + _ ≤ dCnt d y P + _
    by_cases h1 : d P < x
    · rw [if_pos h1, if_pos (by omega)]; omega
    · rw [if_neg h1]; omega
theorem dCnt_lt {d : Nat → Nat} {x y : Nat} (h : x ≤ y) {q : Nat} (hx : ¬ d q < x) (hy : d q < y) : ∀ P, q < P → dCnt d x P + 1 ≤ dCnt d y P
  | 0, hq => absurd hq (by omega)
  | P + 1, hq => by
    show dCnt d x P + _ + 1 ≤ dCnt d y P + _
    by_cases hqP : q = P
    · subst hqP
      rw [if_neg hx, if_pos hy]
      have := dCnt_mono (d := d) h q
      omega
    · have := dCnt_lt h hx hy P (by omega)
      by_cases h1 : d P < x
      · rw [if_pos h1, if_pos (by omega)]; omega
      · rw [if_neg h1]; omega
theorem dCnt_le (d : Nat → Nat) (x : Nat) : ∀ P, dCnt d x P ≤ P
  | 0 => Nat.le_refl 0
  | P + 1 => by
    have := dCnt_le d x P
    show dCnt d x P + _ ≤ P + 1
    split <;> omega
theorem dCnt_self {d : Nat → Nat} {x p : Nat} (hp : ¬ d p < x) : ∀ P, p < P → dCnt d x P + 1 ≤ P
  | 0, h => absurd h (by omega)
  | P + 1, h => by
    show dCnt d x P + _ + 1 ≤ P + 1
    by_cases hpP : p = P
    · subst hpP
      rw [if_neg hp]
      have := dCnt_le d x p
      omega
    · have := dCnt_self hp P (by omega)
      split <;> omega
theorem dBound {P n : Nat} {op : Nat → Prop} {A B c : Nat → Nat} {to far : Nat} {d : Nat → Nat} (hE : dEnds P n op A B c) (hF : dFix n op A B c far d) (hT : dTight P n op A B c to far d) : ∀ (x p : Nat), d p ≤ x → p < P → d p < far → d p ≤ 1000 * dCnt d (d p) P := by
  intro x
  induction x with
  | zero => intro p h1 _ _; omega
  | succ x ih =>
    intro p h1 hp hf
    by_cases hpt : p = to
    · subst hpt; rw [hT.1]; omega
    · obtain ⟨k, hk, ho, hh⟩ := hT.2.2 p hp hpt hf
      obtain ⟨e1, e2, e3, e4, e5⟩ := hE k hk ho
      obtain ⟨f1, f2⟩ := hF k hk ho
      rcases hh with ⟨ha, hb⟩ | ⟨ha, hb⟩
      · have hq := ih (B k) (by omega) e2 (by omega)
        have := dCnt_lt (d := d) (x := d (B k)) (y := d p) (by omega) (q := B k) (by omega) (by omega) P e2
        rw [ha] at f2
        omega
      · have hq := ih (A k) (by omega) e1 (by omega)
        have := dCnt_lt (d := d) (x := d (A k)) (y := d p) (by omega) (q := A k) (by omega) (by omega) P e1
        rw [ha] at f1
        omega
theorem dSmall {P n : Nat} {op : Nat → Prop} {A B c : Nat → Nat} {to far : Nat} {d : Nat → Nat} (hP : P ≤ 12) (hE : dEnds P n op A B c) (hF : dFix n op A B c far d) (hT : dTight P n op A B c to far d) {p : Nat} (hp : p < P) (hf : d p < far) : d p ≤ 11000 := by
  have h1 := dBound hE hF hT (d p) p (Nat.le_refl _) hp hf
  have h2 := dCnt_self (d := d) (x := d p) (p := p) (by omega) P hp
  omega
theorem dLe {P n : Nat} {op : Nat → Prop} {A B c : Nat → Nat} {to far far' : Nat} {d d' : Nat → Nat} (hP : P ≤ 12) (hfar : 12000 ≤ far) (hE : dEnds P n op A B c) (hF : dFix n op A B c far d) (hF' : dFix n op A B c far' d') (hT : dTight P n op A B c to far d) (hT' : dTight P n op A B c to far' d') : ∀ (x p : Nat), d' p ≤ x → p < P → d' p < far' → d p ≤ d' p := by
  intro x
  induction x with
  | zero =>
    intro p h1 hp hf
    by_cases hpt : p = to
    · subst hpt; rw [hT.1]; omega
    · obtain ⟨k, hk, ho, hh⟩ := hT'.2.2 p hp hpt hf
      obtain ⟨e1, e2, e3, e4, e5⟩ := hE k hk ho
      rcases hh with ⟨ha, hb⟩ | ⟨ha, hb⟩ <;> omega
  | succ x ih =>
    intro p h1 hp hf
    by_cases hpt : p = to
    · subst hpt; rw [hT.1]; omega
    · obtain ⟨k, hk, ho, hh⟩ := hT'.2.2 p hp hpt hf
      obtain ⟨e1, e2, e3, e4, e5⟩ := hE k hk ho
      obtain ⟨f1, f2⟩ := hF k hk ho
      rcases hh with ⟨ha, hb⟩ | ⟨ha, hb⟩
      · have := ih (B k) (by omega) e2 (by omega)
        rw [ha] at f2
        omega
      · have := ih (A k) (by omega) e1 (by omega)
        rw [ha] at f1
        omega
/-- both programs know the same minutes, whatever each takes for 'no way' -/
theorem dSame {P n : Nat} {op : Nat → Prop} {A B c : Nat → Nat} {to far far' : Nat} {d d' : Nat → Nat} (hP : P ≤ 12) (hfar : 12000 ≤ far) (hfar' : 12000 ≤ far') (hE : dEnds P n op A B c) (hF : dFix n op A B c far d) (hF' : dFix n op A B c far' d') (hT : dTight P n op A B c to far d) (hT' : dTight P n op A B c to far' d') {p : Nat} (hp : p < P) : (d p < far ↔ d' p < far') ∧ (d p < far → d p = d' p) := by
  have a1 : d' p < far' → d p ≤ d' p := fun h => dLe hP hfar hE hF hF' hT hT' _ p (Nat.le_refl _) hp h
  have a2 : d p < far → d' p ≤ d p := fun h => dLe hP hfar' hE hF' hF hT' hT _ p (Nat.le_refl _) hp h
  have b1 : d' p < far' → d' p ≤ 11000 := fun h => dSmall hP hE hF' hT' hp h
  have b2 : d p < far → d p ≤ 11000 := fun h => dSmall hP hE hF hT hp h
  refine ⟨⟨fun h => ?_, fun h => ?_⟩, fun h => ?_⟩
  · have := a2 h; have := b2 h; omega
  · have := a1 h; have := b1 h; omega
  · have h1 := a2 h
    have h2 := b2 h
    have := a1 (by omega)
    omega
/-! ===== the way that is taken: at each place the first edge that leads on ===== -/
def gOther (A B : Nat → Nat) (k p : Nat) : Nat := if A k = p then B k else A k
def gEdge (op : Nat → Prop) (A B c d : Nat → Nat) (p k : Nat) : Prop := op k ∧ (A k = p ∨ B k = p) ∧ d (gOther A B k p) + c k = d p
def gPath (n : Nat) (op : Nat → Prop) (A B c d : Nat → Nat) (to : Nat) : List Nat → Nat → Prop
  | [], p => p = to
  | k :: l, p => p ≠ to ∧ k < n ∧ gEdge op A B c d p k ∧ (∀ j, j < k → ¬ gEdge op A B c d p j) ∧ gPath n op A B c d to l (gOther A B k p)
theorem gOther_lt {P n : Nat} {op : Nat → Prop} {A B c : Nat → Nat} (hE : dEnds P n op A B c) {k p : Nat} (hk : k < n) (ho : op k) : gOther A B k p < P := by
  obtain ⟨e1, e2, -⟩ := hE k hk ho
  unfold gOther
  split <;> assumption
theorem gPath_unique {P n : Nat} {op : Nat → Prop} {A B c d d' : Nat → Nat} {to : Nat} (hE : dEnds P n op A B c) (hd : ∀ p, p < P → d p < 12000 → d p = d' p) (hd2 : ∀ p, p < P → d' p < 12000 → d p = d' p) : ∀ (l l' : List Nat) (p : Nat), p < P → d p < 12000 → gPath n op A B c d to l p → gPath n op A B c d' to l' p → l = l'
  | [], [], _, _, _, _, _ => rfl
  | [], k :: l', p, _, _, h1, h2 => absurd h1 h2.1
  | k :: l, [], p, _, _, h1, h2 => absurd h2 h1.1
  | k :: l, k' :: l', p, hp, hs, h1, h2 => by
    obtain ⟨-, a2, a3, a4, a5⟩ := h1
    obtain ⟨-, b2, b3, b4, b5⟩ := h2
    have hpp := hd p hp hs
    have conv : ∀ j, j < n → op j → (gEdge op A B c d p j ↔ gEdge op A B c d' p j) := by
      intro j hj ho
      have hq := gOther_lt (p := p) hE hj ho
      unfold gEdge
      constructor
      · rintro ⟨x1, x2, x3⟩
        refine ⟨x1, x2, ?_⟩
        rw [← hd _ hq (by omega), ← hpp]
        exact x3
      · rintro ⟨x1, x2, x3⟩
        refine ⟨x1, x2, ?_⟩
        rw [hd2 _ hq (by omega), hpp]
        exact x3
    have hkk : k = k' := by
      rcases Nat.lt_trichotomy k k' with h | h | h
      · exact absurd ((conv k a2 a3.1).mp a3) (b4 k h)
      · exact h
      · exact absurd ((conv k' b2 b3.1).mpr b3) (a4 k' h)
    subst hkk
    rw [gPath_unique hE hd hd2 l l' _ (gOther_lt hE a2 a3.1) (by have := a3.2.2; omega) a5 b5]
/-- the way of the least cost from one place to another: what both programs find -/
def isWay (P n : Nat) (op : Nat → Prop) (A B c : Nat → Nat) (fr to : Nat) (o : Option (List Nat)) : Prop := ∃ (far : Nat) (d : Nat → Nat), 12000 ≤ far ∧ dFix n op A B c far d ∧ dTight P n op A B c to far d ∧ match o with
  | none => far ≤ d fr
  | some l => d fr < far ∧ gPath n op A B c d to l fr
theorem isWay_unique {P n : Nat} {op : Nat → Prop} {A B c : Nat → Nat} {fr to : Nat} {o o' : Option (List Nat)} (hP : P ≤ 12) (hE : dEnds P n op A B c) (hf : fr < P) (h : isWay P n op A B c fr to o) (h' : isWay P n op A B c fr to o') : o = o' := by
  obtain ⟨far, d, q1, q2, q3, q4⟩ := h
  obtain ⟨far', d', r1, r2, r3, r4⟩ := h'
  have key := fun p (hp : p < P) => dSame hP q1 r1 hE q2 r2 q3 r3 (p := p) hp
  have sm := fun p (hp : p < P) (hf : d p < far) => dSmall hP hE q2 q3 hp hf
  have sm' := fun p (hp : p < P) (hf : d' p < far') => dSmall hP hE r2 r3 hp hf
  cases o with
  | none =>
    cases o' with
    | none => rfl
    | some l' =>
      have := (key fr hf).1
      dsimp only at q4 r4
      omega
  | some l =>
    cases o' with
    | none =>
      have := (key fr hf).1
      dsimp only at q4 r4
      omega
    | some l' =>
      dsimp only at q4 r4
      refine congrArg some (gPath_unique hE (fun p hp hs => (key p hp).2 (by omega)) (fun p hp hs => (key p hp).2 ((key p hp).1.mpr (by omega))) l l' fr hf (by have := sm fr hf q4.1; omega) q4.2 r4.2)
noncomputable def zway (P n : Nat) (op : Nat → Prop) (A B c : Nat → Nat) (fr to : Nat) : Option (List Nat) := Classical.epsilon (fun o => isWay P n op A B c fr to o)
theorem zway_eq {P n : Nat} {op : Nat → Prop} {A B c : Nat → Nat} {fr to : Nat} {o : Option (List Nat)} (hP : P ≤ 12) (hE : dEnds P n op A B c) (hf : fr < P) (h : isWay P n op A B c fr to o) : zway P n op A B c fr to = o :=
  isWay_unique hP hE hf (Classical.epsilon_spec (p := fun o => isWay P n op A B c fr to o) ⟨o, h⟩) h
