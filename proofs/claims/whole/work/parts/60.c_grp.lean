/-! ===== places that hang together ===== -/
theorem gPath_ex {P n : Nat} {op : Nat → Prop} {A B c : Nat → Nat} {to far : Nat} {d : Nat → Nat} (hE : dEnds P n op A B c) (hF : dFix n op A B c far d) (hT : dTight P n op A B c to far d) : ∀ (x p : Nat), d p ≤ x → p < P → d p < far → ∃ l, gPath n op A B c d to l p := by
  intro x
  induction x with
  | zero =>
    intro p h1 hp hf
    by_cases hpt : p = to
    · exact ⟨[], hpt⟩
    · obtain ⟨k, hk, ho, hh⟩ := hT.2.2 p hp hpt hf
      obtain ⟨e1, e2, e3, e4, e5⟩ := hE k hk ho
      rcases hh with ⟨ha, hb⟩ | ⟨ha, hb⟩ <;> omega
  | succ x ih =>
    intro p h1 hp hf
    by_cases hpt : p = to
    · exact ⟨[], hpt⟩
    · obtain ⟨K, hK, hKe⟩ := gEdge_ex hF hT hp hpt hf
      obtain ⟨k, ⟨hk, hke⟩, hmin⟩ := pk_least (fun k => k < n ∧ gEdge op A B c d p k) ⟨K, hK, hKe⟩
      have hoth := gOther_lt (p := p) hE hk hke.1
      obtain ⟨-, -, -, e4, -⟩ := hE k hk hke.1
      have hd := hke.2.2
      obtain ⟨l, hl⟩ := ih (gOther A B k p) (by omega) hoth (by omega)
      exact ⟨k :: l, hpt, hk, hke, fun j hj hje => hmin j hj ⟨by omega, hje⟩, hl⟩
theorem nWay_iff {P n tl s : Nat} {F : Nat → Nat → Nat} {w : Nat → Nat} {fr to : Nat} {d : Nat → Nat} (hN : nOk P n tl F w) (hfr : fr < P) (hT : dT P n tl s F w to d) (hF : dF n tl s F w d) : (nWay P n tl s F w fr to).isSome = true ↔ d fr < cFar := by
  have hP := hN.2.1
  have hE := nEnds (s := s) hN
  constructor
  · intro h
    apply Classical.byContradiction
    intro q
    have hiw : isWay P n (nOp s F w) (fun k => F k 0) (fun k => F k 1) (nCo tl F w) fr to none := ⟨cFar, d, by decide, hF, hT, Nat.le_of_not_lt q⟩
    have hw : nWay P n tl s F w fr to = none := zway_eq hP hE hfr hiw
    rw [hw] at h
    cases h
  · intro h
    obtain ⟨l, hl⟩ := gPath_ex hE hF hT (d fr) fr (Nat.le_refl _) hfr h
    have hiw : isWay P n (nOp s F w) (fun k => F k 0) (fun k => F k 1) (nCo tl F w) fr to (some l) := ⟨cFar, d, by decide, hF, hT, h, hl⟩
    have hw : nWay P n tl s F w fr to = some l := zway_eq hP hE hfr hiw
    rw [hw]
    rfl
theorem dT_ex {P n tl : Nat} (s : Nat) {F : Nat → Nat → Nat} {w : Nat → Nat} (hN : nOk P n tl F w) (to : Nat) : ∃ d, dT P n tl s F w to d ∧ dF n tl s F w d := by
  obtain ⟨d', hF', hT'⟩ := bf_ex (to := to) (far := cFar) (nEnds (s := s) hN) _ (dStart to cFar) (Nat.lt_succ_self _) dTight_s
  exact ⟨d', hT', hF'⟩
/-- groups of places: none holds a place that has a way and one that has none; the roads up to k join theirs -/
def gpOk (P n tl s : Nat) (F : Nat → Nat → Nat) (w : Nat → Nat) (g : Nat → Nat) (k : Nat) : Prop := (∀ p, p < P → g p < P) ∧ (∀ to d, to < P → dT P n tl s F w to d → dF n tl s F w d → ∀ p q, p < P → q < P → g p = g q → (d p < cFar ↔ d q < cFar)) ∧ ∀ j, j < k → nOp s F w j → g (F j 0) = g (F j 1)
theorem gpOk_0 (P n tl s : Nat) (F : Nat → Nat → Nat) (w : Nat → Nat) : gpOk P n tl s F w (fun p => p) 0 := ⟨fun p hp => hp, fun to d _ _ _ p q _ _ e => by
  have e : p = q := e
  rw [e], fun j hj => absurd hj (Nat.not_lt_zero j)⟩
def gJoin (g : Nat → Nat) (x y : Nat) (p : Nat) : Nat := if g p = y then x else g p
theorem gpOk_join {P n tl s : Nat} {F : Nat → Nat → Nat} {w : Nat → Nat} {g : Nat → Nat} {k : Nat} (hN : nOk P n tl F w) (hg : gpOk P n tl s F w g k) (hk : k < n) (ho : nOp s F w k) : gpOk P n tl s F w (gJoin g (g (F k 0)) (g (F k 1))) (k + 1) := by
  have hP := hN.2.1
  have hE := nEnds (s := s) hN
  obtain ⟨e1, e2, e3, e4, e5⟩ := hE k hk ho
  dsimp only at e1 e2 e3
  obtain ⟨h1, h2, h3⟩ := hg
  refine ⟨fun p hp => ?_, fun to d hto hT hF p q hp hq e => ?_, fun j hj hoj => ?_⟩
  · unfold gJoin
    split
    · exact h1 _ e1
    · exact h1 p hp
  · obtain ⟨f1, f2⟩ := hF k hk ho
    dsimp only at f1 f2
    have hab : d (F k 0) < cFar ↔ d (F k 1) < cFar := by
      constructor
      · intro z
        have := dSmall hP hE hF hT e1 z
        unfold cFar
        omega
      · intro z
        have := dSmall hP hE hF hT e2 z
        unfold cFar
        omega
    have key : ∀ p, p < P → (gJoin g (g (F k 0)) (g (F k 1)) p = g (F k 0) → (d p < cFar ↔ d (F k 0) < cFar)) ∧ (gJoin g (g (F k 0)) (g (F k 1)) p ≠ g (F k 0) → gJoin g (g (F k 0)) (g (F k 1)) p = g p) := by
      intro p hp
      unfold gJoin
      split
      · rename_i z
        refine ⟨fun _ => ?_, fun y => absurd rfl y⟩
        rw [hab]
        exact h2 to d hto hT hF p _ hp e2 z
      · exact ⟨fun z => h2 to d hto hT hF p _ hp e1 z, fun _ => rfl⟩
    by_cases hx : gJoin g (g (F k 0)) (g (F k 1)) p = g (F k 0)
    · rw [(key p hp).1 hx, (key q hq).1 (e ▸ hx)]
    · have y1 := (key p hp).2 hx
      have y2 := (key q hq).2 (e ▸ hx)
      exact h2 to d hto hT hF p q hp hq (by rw [← y1, ← y2]; exact e)
  · by_cases hjk : j = k
    · subst hjk
      unfold gJoin
      rw [if_pos rfl]
      split <;> rfl
    · unfold gJoin
      rw [h3 j (by omega) hoj]
theorem gpOk_skip {P n tl s : Nat} {F : Nat → Nat → Nat} {w : Nat → Nat} {g : Nat → Nat} {k : Nat} (hg : gpOk P n tl s F w g k) (ho : ¬ nOp s F w k) : gpOk P n tl s F w g (k + 1) := by
  refine ⟨hg.1, hg.2.1, fun j hj hoj => ?_⟩
  by_cases hjk : j = k
  · subst hjk; exact absurd hoj ho
  · exact hg.2.2 j (by omega) hoj
theorem gpOk_way {P n tl s : Nat} {F : Nat → Nat → Nat} {w : Nat → Nat} {g : Nat → Nat} (hN : nOk P n tl F w) (hg : gpOk P n tl s F w g n) {fr to : Nat} (hfr : fr < P) (hto : to < P) : (nWay P n tl s F w fr to).isSome = true ↔ g fr = g to := by
  have hE := nEnds (s := s) hN
  obtain ⟨d, hT, hF⟩ := dT_ex s hN to
  rw [nWay_iff hN hfr hT hF]
  constructor
  · have key : ∀ (x p : Nat), d p ≤ x → p < P → d p < cFar → g p = g to := by
      intro x
      induction x with
      | zero =>
        intro p h1 hp hf
        by_cases hpt : p = to
        · rw [hpt]
        · obtain ⟨k, hk, ho, hh⟩ := hT.2.2 p hp hpt hf
          obtain ⟨e1, e2, e3, e4, e5⟩ := hE k hk ho
          rcases hh with ⟨ha, hb⟩ | ⟨ha, hb⟩ <;> omega
      | succ x ih =>
        intro p h1 hp hf
        by_cases hpt : p = to
        · rw [hpt]
        · obtain ⟨k, hk, ho, hh⟩ := hT.2.2 p hp hpt hf
          obtain ⟨e1, e2, e3, e4, e5⟩ := hE k hk ho
          have h3 := hg.2.2 k hk ho
          dsimp only at e1 e2 hh
          rcases hh with ⟨ha, hb⟩ | ⟨ha, hb⟩
          · have := ih (F k 1) (by omega) e2 (by omega)
            rw [← ha, h3]; exact this
          · have := ih (F k 0) (by omega) e1 (by omega)
            rw [← ha, ← h3]; exact this
    exact key (d fr) fr (Nat.le_refl _) hfr
  · intro e
    exact (hg.2.1 to d hto hT hF fr to hfr hto e).mpr (by rw [hT.1]; decide)
