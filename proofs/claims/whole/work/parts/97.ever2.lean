/-! ===== for ever: the first day that was before ===== -/
/-- since when and how long, once some day is as one before it -/
noncomputable def rF (E : Nat → Nat → Prop) : Nat → Option (Nat × Nat)
  | 0 => none
  | d + 1 => match rF E d with
    | some x => some x
    | none => @dite _ (∃ i, i ≤ d ∧ E i (d + 1)) (Classical.propDecidable _) (fun h => some (Classical.choose h, d + 1 - Classical.choose h)) (fun _ => none)
theorem rF_keep {E : Nat → Nat → Prop} {d : Nat} {x : Nat × Nat} (h : rF E d = some x) : ∀ m, d ≤ m → rF E m = some x := by
  intro m
  induction m with
  | zero => intro hm; rw [show d = 0 by omega] at h; exact h
  | succ m ih =>
    intro hm
    by_cases z : d = m + 1
    · rw [← z]; exact h
    · have i := ih (by omega)
      show (match rF E m with | some x => some x | none => _) = some x
      rw [i]
theorem rF_miss {E : Nat → Nat → Prop} {d : Nat} (h : rF E d = none) (hm : ∀ i, i ≤ d → ¬ E i (d + 1)) : rF E (d + 1) = none := by
  show (match rF E d with | some x => some x | none => _) = none
  rw [h]
  exact dif_neg (fun ⟨i, h1, h2⟩ => hm i h1 h2)
theorem rF_none {E : Nat → Nat → Prop} : ∀ d, rF E d = none → ∀ i j, i < j → j ≤ d → ¬ E i j
  | 0, _, i, j, h1, h2 => absurd h1 (by omega)
  | d + 1, h, i, j, h1, h2 => by
    have h' : rF E d = none := by
      cases e : rF E d with
      | none => rfl
      | some x => rw [rF_keep e (d + 1) (by omega)] at h; cases h
    by_cases z : j = d + 1
    · intro hE
      rw [z] at hE
      have hex : ∃ i, i ≤ d ∧ E i (d + 1) := ⟨i, by omega, hE⟩
      have : rF E (d + 1) = some (Classical.choose hex, d + 1 - Classical.choose hex) := by
        show (match rF E d with | some x => some x | none => _) = some _
        rw [h']
        exact dif_pos hex
      rw [h] at this
      cases this
    · exact rF_none d h' i j h1 (by omega)
/-- two days that are as a third are as each other -/
def eTr (E : Nat → Nat → Prop) : Prop := ∀ i j d, i < j → j < d → E i d → E j d → E i j
theorem rF_hit {E : Nat → Nat → Prop} (hT : eTr E) {d i : Nat} (h : rF E d = none) (hi : i ≤ d) (hE : E i (d + 1)) : rF E (d + 1) = some (i, d + 1 - i) := by
  have hex : ∃ i, i ≤ d ∧ E i (d + 1) := ⟨i, hi, hE⟩
  have hc := Classical.choose_spec hex
  have e : Classical.choose hex = i := by
    apply Classical.byContradiction
    intro z
    have no := rF_none d h
    by_cases q : Classical.choose hex < i
    · exact no _ _ q hi (hT _ _ _ q (by omega) hc.2 hE)
    · exact no _ _ (show i < Classical.choose hex by omega) hc.1 (hT _ _ _ (by omega) (by omega) hE hc.2)
  have : rF E (d + 1) = some (Classical.choose hex, d + 1 - Classical.choose hex) := by
    show (match rF E d with | some x => some x | none => _) = some _
    rw [h]
    exact dif_pos hex
  rw [this, e]
/-- the first day that was not well -/
noncomputable def tF (E : Nat → Nat → Prop) (bad : Nat → Prop) : Nat → Option Nat
  | 0 => none
  | d + 1 => match rF E d with
    | some _ => tF E bad d
    | none => match tF E bad d with
      | some x => some x
      | none => @ite _ (bad d) (Classical.propDecidable _) (some d) none
theorem tF_keep {E : Nat → Nat → Prop} {bad : Nat → Prop} {d : Nat} {x : Nat × Nat} (h : rF E d = some x) : ∀ m, d ≤ m → tF E bad m = tF E bad d := by
  intro m
  induction m with
  | zero => intro hm; rw [show d = 0 by omega]
  | succ m ih =>
    intro hm
    by_cases z : d = m + 1
    · rw [← z]
    · have i := ih (by omega)
      have k := rF_keep h m (by omega)
      show (match rF E m with | some _ => tF E bad m | none => _) = tF E bad d
      rw [k]
      exact i
theorem tF_had {E : Nat → Nat → Prop} {bad : Nat → Prop} {d x : Nat} (h : rF E d = none) (ht : tF E bad d = some x) : tF E bad (d + 1) = some x := by
  show (match rF E d with | some _ => tF E bad d | none => match tF E bad d with | some x => some x | none => _) = some x
  rw [h, ht]
theorem tF_new {E : Nat → Nat → Prop} {bad : Nat → Prop} {d : Nat} (h : rF E d = none) (ht : tF E bad d = none) (hb : bad d) : tF E bad (d + 1) = some d := by
  show (match rF E d with | some _ => tF E bad d | none => match tF E bad d with | some x => some x | none => _) = some d
  rw [h, ht]
  exact if_pos hb
theorem tF_none {E : Nat → Nat → Prop} {bad : Nat → Prop} {d : Nat} (h : rF E d = none) (ht : tF E bad d = none) (hb : ¬ bad d) : tF E bad (d + 1) = none := by
  show (match rF E d with | some _ => tF E bad d | none => match tF E bad d with | some x => some x | none => _) = none
  rw [h, ht]
  exact if_neg hb
theorem rF_lt {E : Nat → Nat → Prop} : ∀ d x, rF E d = some x → x.1 < d ∧ x.2 ≤ d ∧ 0 < x.2
  | 0, x, h => by cases h
  | d + 1, x, h => by
    cases e : rF E d with
    | some y =>
      rw [rF_keep e (d + 1) (by omega)] at h
      cases h
      have := rF_lt d _ e
      omega
    | none =>
      by_cases hex : ∃ i, i ≤ d ∧ E i (d + 1)
      · have hc := Classical.choose_spec hex
        have : rF E (d + 1) = some (Classical.choose hex, d + 1 - Classical.choose hex) := by
          show (match rF E d with | some x => some x | none => _) = some _
          rw [e]
          exact dif_pos hex
        rw [this] at h
        cases h
        refine ⟨?_, ?_, ?_⟩
        · show Classical.choose hex < d + 1; omega
        · show d + 1 - Classical.choose hex ≤ d + 1; omega
        · show 0 < d + 1 - Classical.choose hex; omega
      · rw [rF_miss e (fun i h1 h2 => hex ⟨i, h1, h2⟩)] at h
        cases h
theorem tF_lt {E : Nat → Nat → Prop} {bad : Nat → Prop} : ∀ d x, tF E bad d = some x → x < d
  | 0, x, h => by cases h
  | d + 1, x, h => by
    cases e : rF E d with
    | some y =>
      rw [tF_keep e (d + 1) (by omega)] at h
      exact Nat.lt_succ_of_lt (tF_lt d x h)
    | none =>
      cases e2 : tF E bad d with
      | some y =>
        rw [tF_had e e2] at h
        cases h
        exact Nat.lt_succ_of_lt (tF_lt d _ e2)
      | none =>
        by_cases hb : bad d
        · rw [tF_new e e2 hb] at h
          cases h
          omega
        · rw [tF_none e e2 hb] at h
          cases h
/-- with rain or without: the plan of a ring -/
abbrev yPd : yP := (none, (none, 0), false, none, none, true)
/-- two days of a ring that are alike -/
def eQ (n : Nat) (x : Nat → yS) (R t : Nat) (i d : Nat) : Prop := (∀ k, k < n → (x i).1.1 k = (x d).1.1 k ∧ (x i).1.2 k = (x d).1.2 k) ∧ i % R * 7 + (t + i) % 7 = d % R * 7 + (t + d) % 7
theorem eQ_tr (n : Nat) (x : Nat → yS) (R t : Nat) : eTr (eQ n x R t) := fun i j d _ _ h1 h2 => ⟨fun k hk => ⟨(h1.1 k hk).1.trans (h2.1 k hk).1.symm, (h1.1 k hk).2.trans (h2.1 k hk).2.symm⟩, h1.2.trans h2.2.symm⟩
