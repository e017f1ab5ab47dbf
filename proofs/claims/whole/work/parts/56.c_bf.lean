/-! ===== distances by so many turns through all roads ===== -/
def dStart (to far p : Nat) : Nat := if p = to then 0 else far
theorem dTight_s {P n : Nat} {op : Nat → Prop} {A B c : Nat → Nat} {to far : Nat} : dTight P n op A B c to far (dStart to far) := by
  refine ⟨if_pos rfl, fun p _ => ?_, fun p _ hpt hf => ?_⟩
  · unfold dStart; split
    · exact Nat.zero_le _
    · exact Nat.le_refl _
  · unfold dStart at hf
    rw [if_neg hpt] at hf
    exact absurd hf (Nat.lt_irrefl _)
/-- what is known can always be known wholly -/
theorem bf_ex {P n : Nat} {op : Nat → Prop} {A B c : Nat → Nat} {to far : Nat} (hE : dEnds P n op A B c) : ∀ (m : Nat) (d : Nat → Nat), dSum d P < m → dTight P n op A B c to far d → ∃ d' : Nat → Nat, dFix n op A B c far d' ∧ dTight P n op A B c to far d' := by
  intro m
  induction m with
  | zero => intro d h; omega
  | succ m ih =>
    intro d hm hT
    by_cases hF : dFix n op A B c far d
    · exact ⟨d, hF, hT⟩
    · unfold dFix at hF
      obtain ⟨k, hk⟩ := Classical.not_forall.mp hF
      have hk1 : k < n := Classical.byContradiction fun q => hk (fun z => absurd z q)
      have ho : op k := Classical.byContradiction fun q => hk (fun _ z => absurd z q)
      have hno : ¬ (d (B k) ≤ d (A k) + c k ∧ d (A k) ≤ d (B k) + c k) := fun q => hk (fun _ _ => q)
      obtain ⟨e1, e2, e3, e4, e5⟩ := hE k hk1 ho
      by_cases h1 : d (A k) + c k < d (B k)
      · exact ih _ (by have := dSum_up h1 P e2; omega) (dTight_up hE hT hk1 ho (Or.inl ⟨rfl, rfl⟩) h1)
      · have h2 : d (B k) + c k < d (A k) := by omega
        exact ih _ (by have := dSum_up h2 P e1; omega) (dTight_up hE hT hk1 ho (Or.inr ⟨rfl, rfl⟩) h2)
/-- what is known is never less than it should be -/
theorem dGe {P n : Nat} {op : Nat → Prop} {A B c : Nat → Nat} {to far : Nat} {d d' : Nat → Nat} (hE : dEnds P n op A B c) (hF' : dFix n op A B c far d') (hT' : dTight P n op A B c to far d') (hT : dTight P n op A B c to far d) : ∀ (x p : Nat), d p ≤ x → p < P → d' p ≤ d p := by
  intro x
  induction x with
  | zero =>
    intro p h1 hp
    by_cases hpt : p = to
    · subst hpt; rw [hT'.1]; omega
    · by_cases hf : d p < far
      · obtain ⟨k, hk, ho, hh⟩ := hT.2.2 p hp hpt hf
        obtain ⟨e1, e2, e3, e4, e5⟩ := hE k hk ho
        rcases hh with ⟨ha, hb⟩ | ⟨ha, hb⟩ <;> omega
      · have := hT'.2.1 p hp; omega
  | succ x ih =>
    intro p h1 hp
    by_cases hpt : p = to
    · subst hpt; rw [hT'.1]; omega
    · by_cases hf : d p < far
      · obtain ⟨k, hk, ho, hh⟩ := hT.2.2 p hp hpt hf
        obtain ⟨e1, e2, e3, e4, e5⟩ := hE k hk ho
        obtain ⟨f1, f2⟩ := hF' k hk ho
        rcases hh with ⟨ha, hb⟩ | ⟨ha, hb⟩
        · have := ih (B k) (by omega) e2
          rw [ha] at f2
          omega
        · have := ih (A k) (by omega) e1
          rw [ha] at f1
          omega
      · have := hT'.2.1 p hp; omega
/-- all that is up to m places from the end is known -/
def bfI (P far : Nat) (d' d : Nat → Nat) (m : Nat) : Prop := ∀ p, p < P → d' p < far → dCnt d' (d' p) P ≤ m → d p ≤ d' p
/-- the road k has had its turn -/
def bfJ (P far : Nat) (A B c d' d : Nat → Nat) (m k : Nat) : Prop := (d' (A k) < far → dCnt d' (d' (A k)) P ≤ m → d (B k) ≤ d' (A k) + c k) ∧ (d' (B k) < far → dCnt d' (d' (B k)) P ≤ m → d (A k) ≤ d' (B k) + c k)
theorem bfI_0 {P n : Nat} {op : Nat → Prop} {A B c : Nat → Nat} {to far : Nat} {d d' : Nat → Nat} (hE : dEnds P n op A B c) (hto : to < P) (hT' : dTight P n op A B c to far d') (h0 : d to = 0) : bfI P far d' d 0 := by
  intro p hp hf hc
  by_cases hpt : p = to
  · subst hpt; omega
  · obtain ⟨k, hk, ho, hh⟩ := hT'.2.2 p hp hpt hf
    obtain ⟨e1, e2, e3, e4, e5⟩ := hE k hk ho
    have h1 : 1 ≤ d' p := by rcases hh with ⟨-, hb⟩ | ⟨-, hb⟩ <;> omega
    have := dCnt_lt (d := d') (x := 0) (y := d' p) (by omega) (q := to) (by omega) (by rw [hT'.1]; omega) P hto
    omega
theorem bfI.le {P far m : Nat} {d' d e : Nat → Nat} (h : bfI P far d' d m) (he : ∀ p, p < P → e p ≤ d p) : bfI P far d' e m := fun p hp hf hc => Nat.le_trans (he p hp) (h p hp hf hc)
theorem bfJ.le {P far m k : Nat} {A B c d' d e : Nat → Nat} (h : bfJ P far A B c d' d m k) (ha : A k < P) (hb : B k < P) (he : ∀ p, p < P → e p ≤ d p) : bfJ P far A B c d' e m k := ⟨fun h1 h2 => Nat.le_trans (he _ hb) (h.1 h1 h2), fun h1 h2 => Nat.le_trans (he _ ha) (h.2 h1 h2)⟩
theorem bfI_s {P n : Nat} {op : Nat → Prop} {A B c : Nat → Nat} {to far m : Nat} {d d' : Nat → Nat} (hE : dEnds P n op A B c) (hT' : dTight P n op A B c to far d') (h0 : d to = 0) (hJ : ∀ k, k < n → op k → bfJ P far A B c d' d m k) : bfI P far d' d (m + 1) := by
  intro p hp hf hc
  by_cases hpt : p = to
  · subst hpt; omega
  · obtain ⟨k, hk, ho, hh⟩ := hT'.2.2 p hp hpt hf
    obtain ⟨e1, e2, e3, e4, e5⟩ := hE k hk ho
    obtain ⟨j1, j2⟩ := hJ k hk ho
    rcases hh with ⟨ha, hb⟩ | ⟨ha, hb⟩
    · have hcc := dCnt_lt (d := d') (x := d' (B k)) (y := d' p) (by omega) (q := B k) (by omega) (by omega) P e2
      have := j2 (by omega) (by omega)
      rw [ha] at this
      omega
    · have hcc := dCnt_lt (d := d') (x := d' (A k)) (y := d' p) (by omega) (q := A k) (by omega) (by omega) P e1
      have := j1 (by omega) (by omega)
      rw [ha] at this
      omega
/-- after as many turns as there are places all is known -/
theorem bf_done {P n : Nat} {op : Nat → Prop} {A B c : Nat → Nat} {to far m : Nat} {d d' : Nat → Nat} (hE : dEnds P n op A B c) (hF' : dFix n op A B c far d') (hT' : dTight P n op A B c to far d') (hT : dTight P n op A B c to far d) (hI : bfI P far d' d m) (hm : P ≤ m + 1) : dFix n op A B c far d := by
  have key : ∀ p, p < P → d p = d' p := by
    intro p hp
    have h1 := dGe hE hF' hT' hT (d p) p (Nat.le_refl _) hp
    by_cases hf : d' p < far
    · have h2 := dCnt_self (d := d') (x := d' p) (p := p) (by omega) P hp
      have := hI p hp hf (by omega)
      omega
    · have := hT.2.1 p hp
      omega
  intro k hk ho
  obtain ⟨e1, e2, -⟩ := hE k hk ho
  rw [key _ e1, key _ e2]
  exact hF' k hk ho
/-! ===== the roads that are open, in a row ===== -/
noncomputable def usL (s : Nat) (F : Nat → Nat → Nat) (w : Nat → Nat) (n : Nat) : List Nat := (List.range n).filter (fun k => @decide (nOp s F w k) (Classical.propDecidable _))
theorem usL_0 (s : Nat) (F : Nat → Nat → Nat) (w : Nat → Nat) : usL s F w 0 = [] := rfl
theorem usL_yes {s : Nat} {F : Nat → Nat → Nat} {w : Nat → Nat} {n : Nat} (h : nOp s F w n) : usL s F w (n + 1) = usL s F w n ++ [n] := by
  unfold usL
  rw [List.range_succ, List.filter_append, List.filter_cons_of_pos (by simpa using h)]
  rfl
theorem usL_no {s : Nat} {F : Nat → Nat → Nat} {w : Nat → Nat} {n : Nat} (h : ¬ nOp s F w n) : usL s F w (n + 1) = usL s F w n := by
  unfold usL
  rw [List.range_succ, List.filter_append, List.filter_cons_of_neg (by simpa using h)]
  simp
theorem usL_len (s : Nat) (F : Nat → Nat → Nat) (w : Nat → Nat) : ∀ n, (usL s F w n).length ≤ n
  | 0 => Nat.le_refl 0
  | n + 1 => by
    have := usL_len s F w n
    by_cases h : nOp s F w n
    · rw [usL_yes h, List.length_append, List.length_singleton]; omega
    · rw [usL_no h]; omega
theorem usL_mem {s : Nat} {F : Nat → Nat → Nat} {w : Nat → Nat} {n k : Nat} : k ∈ usL s F w n ↔ k < n ∧ nOp s F w k := by
  unfold usL
  rw [List.mem_filter, List.mem_range]
  simp
theorem usL_at {s : Nat} {F : Nat → Nat → Nat} {w : Nat → Nat} {n q : Nat} (hq : q < (usL s F w n).length) : (usL s F w n).getD q 0 < n ∧ nOp s F w ((usL s F w n).getD q 0) := by
  have : (usL s F w n).getD q 0 ∈ usL s F w n := by
    rw [List.getD_eq_getElem?_getD, List.getElem?_eq_getElem hq]
    exact List.getElem_mem hq
  exact usL_mem.mp this
theorem usL_ix {s : Nat} {F : Nat → Nat → Nat} {w : Nat → Nat} {n k : Nat} (hk : k < n) (ho : nOp s F w k) : ∃ q, q < (usL s F w n).length ∧ (usL s F w n).getD q 0 = k := by
  obtain ⟨q, hq, e⟩ := List.getElem_of_mem (usL_mem.mpr ⟨hk, ho⟩)
  exact ⟨q, hq, by rw [List.getD_eq_getElem?_getD, List.getElem?_eq_getElem hq]; exact e⟩
theorem usL_inc {s : Nat} {F : Nat → Nat → Nat} {w : Nat → Nat} {n q r : Nat} (hqr : q < r) (hr : r < (usL s F w n).length) : (usL s F w n).getD q 0 < (usL s F w n).getD r 0 := by
  have hp : (usL s F w n).Pairwise (· < ·) := List.Pairwise.filter _ List.pairwise_lt_range
  have := List.pairwise_iff_getElem.mp hp q r (by omega) hr hqr
  rw [List.getD_eq_getElem?_getD, List.getElem?_eq_getElem (show q < (usL s F w n).length by omega), List.getD_eq_getElem?_getD, List.getElem?_eq_getElem hr]
  exact this
