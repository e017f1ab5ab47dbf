/-! ===== the least over some days: the search ===== -/
def nFold {β : Type} (f : Nat → β → β) (b : β) : Nat → β
  | 0 => b
  | k + 1 => f k (nFold f b k)
/-- as it is at a day's beginning: wear, rest, the day -/
abbrev yQ : Type := ((Nat → Nat) × (Nat → Nat)) × Nat
abbrev xQ (q : yQ) : yS := (q.1, (q.2, 0), (0, (0, 0, 0), (0, 0, none), fun _ => 0))
noncomputable def nxQ (L : yL) (A : yN) (s : Nat) (q : yQ) : yQ := ((dDay L A yP0 s (xQ q)).1, q.2 + 1)
noncomputable def tB (L : yL) (A : yN) : Nat → yQ → Nat → Int32 → Nat × Int32 → Nat × Int32
  | 0, _, c, f, B => if c < B.1 then (c, f) else B
  | m + 1, q, c, f, B => if c < B.1 then nFold (fun s B => tB L A m (nxQ L A s q) (c + dSC L A s q.1.1 q.2 L.1.2.1) (if f = -1 then nI s else f) B) B (2 ^ A.1.1) else B
/-- the loads are those of the state alone -/
theorem gTurns_l0 {L : yL} {A : yN} (s : Nat) (w : Nat → Nat) (day gone gone' : Nat) {x y : yA} (h : x.2.2.2 = y.2.2.2) : ∀ g, (gTurns L A yP0 s w day gone g x).2.2.2 = (gTurns L A yP0 s w day gone' g y).2.2.2
  | 0 => h
  | g + 1 => by
    have ih := gTurns_l0 (L := L) (A := A) s w day gone gone' h g
    show (gTurn L A yP0 s w day gone g (gTurns L A yP0 s w day gone g x)).2.2.2 = (gTurn L A yP0 s w day gone' g (gTurns L A yP0 s w day gone' g y)).2.2.2
    have hOn : ∀ gn, gOn L.2.1 day gn yP0.1 yP0.2.1.1 yP0.2.1.2 g ↔ gBit (L.2.1 g 2) day := fun gn => ⟨fun z => by have := z.2; rw [if_neg (fun y => by cases y)] at this; exact this, fun z => ⟨(fun y => by cases y), (by rw [if_neg (fun y => by cases y)]; exact z)⟩⟩
    unfold gTurn
    by_cases c1 : gBit (L.2.1 g 2) day
    · have hl : ¬ gLot yP0 (L.2.1 g 4) := fun z => by cases z.1
      rw [if_pos ((hOn _).mpr c1), if_pos ((hOn _).mpr c1), if_neg hl, if_neg hl]
      generalize nWay L.1.1 A.1.1 A.1.2.1 (if some g = yP0.2.2.2.1 then 0 else s) A.2 w (L.2.1 g 0) (L.2.1 g 1) = o
      cases o with
      | none => exact ih
      | some l =>
        show ldWay (L.2.1 g 3) l (gTurns L A yP0 s w day gone g x).2.2.2 = ldWay (L.2.1 g 3) l (gTurns L A yP0 s w day gone' g y).2.2.2
        rw [ih]
    · rw [if_neg (fun z => c1 ((hOn _).mp z)), if_neg (fun z => c1 ((hOn _).mp z))]
      exact ih
theorem dDay_nx {L : yL} {A : yN} (s : Nat) (x : yS) : (dDay L A yP0 s x).1 = (nxQ L A s (x.1, x.2.1.1)).1 := by
  have e : (dGo L A yP0 s x).2.2.2 = (dGo L A yP0 s (xQ (x.1, x.2.1.1))).2.2.2 := by
    unfold dGo
    refine gTurns_l0 s _ _ _ _ ?_ _
    rfl
  show (_, _) = (_, _)
  rw [e]
theorem dDay_co {L : yL} {A : yN} (s : Nat) (x : yS) : (dDay L A yP0 s x).2.2.2.1.1 = x.2.2.2.1.1 + dSC L A s x.1.1 x.2.1.1 L.1.2.1 := gTurns_co s x.1.1 x.2.1.1 x.2.1.2 _ L.1.2.1
/-- a state that keeps the bounds -/
def qOk (L : yL) (A : yN) (q : yQ) : Prop := wOk L A yP0 (xQ q)
theorem qOk.nx {L : yL} {A : yN} {q : yQ} (h : qOk L A q) (s : Nat) : qOk L A (nxQ L A s q) := by
  have h1 : wOk L A yP0 (dDay L A yP0 s (xQ q)) := (show wOk L A yP0 (xQ q) from h).day s
  exact h1
theorem nFold_eq {β : Type} {f : Nat → β → β} {b b' : β} (h : f 0 b = f 0 b') : ∀ k, 0 < k → nFold f b k = nFold f b' k
  | 1, _ => h
  | k + 2, _ => by
    have ih := nFold_eq h (k + 1) (by omega)
    show f (k + 1) (nFold f b (k + 1)) = f (k + 1) (nFold f b' (k + 1))
    rw [ih]
/-- what stands at first matters not, where it is dear enough -/
theorem tB_init {L : yL} {A : yN} (h0 : A.1.2.1 = 0) : ∀ (m : Nat) (q : yQ), qOk L A q → ∀ (c : Nat) (f : Int32) (B B' : Nat × Int32), c + 154000 * m < B.1 → c + 154000 * m < B'.1 → tB L A m q c f B = tB L A m q c f B'
  | 0, q, _, c, f, B, B', h1, h2 => by
    show (if c < B.1 then (c, f) else B) = (if c < B'.1 then (c, f) else B')
    rw [if_pos (by omega), if_pos (by omega)]
  | m + 1, q, hq, c, f, B, B', h1, h2 => by
    have hb := dSC_bd (s := 0) (day := q.2) hq.1 h0 L.1.2.1 (Nat.le_refl _)
    have hng := hq.1.2.1.2.2.1
    show (if c < B.1 then nFold _ B (2 ^ A.1.1) else B) = (if c < B'.1 then nFold _ B' (2 ^ A.1.1) else B')
    rw [if_pos (by omega), if_pos (by omega)]
    refine nFold_eq (tB_init h0 m (nxQ L A 0 q) (hq.nx 0) _ _ B B' ?_ ?_) _ (Nat.pow_pos (by omega))
    · show c + dSC L A 0 q.1.1 q.2 L.1.2.1 + 154000 * m < B.1
      have : dSC L A 0 q.1.1 q.2 L.1.2.1 ≤ 11000 * L.1.2.1 := hb
      omega
    · show c + dSC L A 0 q.1.1 q.2 L.1.2.1 + 154000 * m < B'.1
      have : dSC L A 0 q.1.1 q.2 L.1.2.1 ≤ 11000 * L.1.2.1 := hb
      omega
/-- on the last day, where none goes longer than it costs to stay, nothing shut is best -/
theorem tB_cut {L : yL} {A : yN} {q : yQ} {c : Nat} {f : Int32} {B : Nat × Int32} (hle : ∀ s, dSC L A 0 q.1.1 q.2 L.1.2.1 ≤ dSC L A s q.1.1 q.2 L.1.2.1) : ∀ k, 0 < k → nFold (fun s B => tB L A 0 (nxQ L A s q) (c + dSC L A s q.1.1 q.2 L.1.2.1) (if f = -1 then nI s else f) B) B k = nFold (fun s B => tB L A 0 (nxQ L A s q) (c + dSC L A s q.1.1 q.2 L.1.2.1) (if f = -1 then nI s else f) B) B 1
  | 1, _ => rfl
  | k + 2, _ => by
    have ih := tB_cut (c := c) (f := f) (B := B) hle (k + 1) (by omega)
    show tB L A 0 (nxQ L A (k + 1) q) (c + dSC L A (k + 1) q.1.1 q.2 L.1.2.1) (if f = -1 then nI (k + 1) else f) (nFold _ B (k + 1)) = _
    rw [ih]
    have h1 : (nFold (fun s B => tB L A 0 (nxQ L A s q) (c + dSC L A s q.1.1 q.2 L.1.2.1) (if f = -1 then nI s else f) B) B 1).1 ≤ c + dSC L A 0 q.1.1 q.2 L.1.2.1 := by
      show (if c + dSC L A 0 q.1.1 q.2 L.1.2.1 < B.1 then (c + dSC L A 0 q.1.1 q.2 L.1.2.1, if f = -1 then nI 0 else f) else B).1 ≤ _
      split
      · exact Nat.le_refl _
      · omega
    have h2 := hle (k + 1)
    exact if_neg (by omega)
theorem tB_no {L : yL} {A : yN} {m : Nat} {q : yQ} {c : Nat} {f : Int32} {B : Nat × Int32} (h : ¬ c < B.1) : tB L A m q c f B = B := by
  cases m with
  | zero => exact if_neg h
  | succ m => exact if_neg h
