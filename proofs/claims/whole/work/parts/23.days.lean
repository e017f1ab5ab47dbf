/-! ===== days gone through, as numbers: what both programs do ===== -/
/-- a number or none (-1) -/
def oI (o : Option Nat) : Int32 := match o with
  | none => -1
  | some g => nI g
/-- a land: P places, ng goings with facts Gf (from, to, days of the week, weight, chance, wait), nw wet days Wt -/
def lOk (P ng nw N : Nat) (Gf : Nat → Nat → Nat) (Wt : Nat → Nat) : Prop := ng ≤ 14 ∧ nw ≤ 8 ∧ 3 ≤ N ∧ N ≤ 11 ∧ (∀ g, g < ng → Gf g 0 < P ∧ Gf g 1 < P ∧ Gf g 0 ≠ Gf g 1 ∧ 1 ≤ Gf g 2 ∧ Gf g 2 ≤ 127 ∧ 1 ≤ Gf g 3 ∧ Gf g 3 ≤ 9 ∧ 1 ≤ Gf g 4 ∧ Gf g 4 ≤ 8 ∧ Gf g 5 ≤ 6) ∧ ∀ k, k < nw → Wt k < 1000
/-- whether a day of the week is among a going's -/
abbrev gBit (D day : Nat) : Prop := D / 2 ^ (day % 7) % 2 = 1
/-- whether a going's day it is: day, how many days are gone, who never goes (ab), who goes later (he) and by how much (hb) -/
abbrev gOn (Gf : Nat → Nat → Nat) (day gone : Nat) (ab he : Option Nat) (hb g : Nat) : Prop := some g ≠ ab ∧ if some g = he then hb ≤ gone ∧ gBit (Gf g 2) (day - hb) else gBit (Gf g 2) day
/-- the next seed, and whether it lets one go -/
def gNext (sd : Int32) : Int32 := sd * 1103515245 + 12345
abbrev gDraw (sd : Int32) (C : Nat) : Prop := (sd >>> 16) &&& 7 < nI C
/-- what a day's goings come to: seed; the others' cost, the marked one's, what is paid; how many stay, went, who stays first; loads -/
abbrev yA : Type := Int32 × (Nat × Nat × Nat) × (Nat × Nat × Option Nat) × (Nat → Nat)
/-- a land: (places, goings, wet days), goings' facts, wet days -/
abbrev yL : Type := (Nat × Nat × Nat) × (Nat → Nat → Nat) × (Nat → Nat)
/-- its roads on a walk: (how many, toll, days of rest), facts -/
abbrev yN : Type := (Nat × Nat × Nat) × (Nat → Nat → Nat)
/-- what is otherwise: who never goes; who goes later, by how much; by lots; who takes no note of shut; who is marked; no wet days -/
abbrev yP : Type := Option Nat × (Option Nat × Nat) × Bool × Option Nat × Option Nat × Bool
abbrev yP0 : yP := (none, (none, 0), false, none, none, false)
/-- on a walk: wear, rested days; day, how many are gone; what it came to -/
abbrev yS : Type := ((Nat → Nat) × (Nat → Nat)) × (Nat × Nat) × yA
/-- a way's loads -/
def ldWay (W : Nat) : List Nat → (Nat → Nat) → Nat → Nat
  | [], f => f
  | k :: l, f => ldWay W l (nUp f k (f k + W))
def pdWay (tl : Nat) (w : Nat → Nat) (l : List Nat) : Nat := (l.map (fun k => tl * w k)).sum
/-- a going that sets out: its way, if there is one -/
def gWay (tl W : Nat) (F : Nat → Nat → Nat) (w : Nat → Nat) (mk : Bool) (g : Nat) (o : Option (List Nat)) (x : yA) : yA := match o with
  | none => (x.1, (if mk then x.2.1.1 else x.2.1.1 + 1000, if mk then x.2.1.2.1 + 1000 else x.2.1.2.1, x.2.1.2.2), (x.2.2.1.1 + 1, x.2.2.1.2.1, if x.2.2.1.2.2 = none then some g else x.2.2.1.2.2), x.2.2.2)
  | some l => (x.1, (if mk then x.2.1.1 else x.2.1.1 + mSum F w l, if mk then x.2.1.2.1 + mSum F w l else x.2.1.2.1, x.2.1.2.2 + pdWay tl w l), (x.2.2.1.1, x.2.2.1.2.1 + 1, x.2.2.1.2.2), ldWay W l x.2.2.2)
/-- whether a draw is due -/
abbrev gLot (p : yP) (C : Nat) : Prop := p.2.2.1 = true ∧ ¬ C = 8
/-- a going's turn on a day -/
noncomputable def gTurn (L : yL) (A : yN) (p : yP) (s : Nat) (w : Nat → Nat) (day gone g : Nat) (x : yA) : yA :=
  if gOn L.2.1 day gone p.1 p.2.1.1 p.2.1.2 g then
    if gLot p (L.2.1 g 4) then
      if gDraw (gNext x.1) (L.2.1 g 4) then gWay A.1.2.1 (L.2.1 g 3) A.2 w (decide (some g = p.2.2.2.2.1)) g (nWay L.1.1 A.1.1 A.1.2.1 (if some g = p.2.2.2.1 then 0 else s) A.2 w (L.2.1 g 0) (L.2.1 g 1)) (gNext x.1, x.2)
      else (gNext x.1, x.2)
    else gWay A.1.2.1 (L.2.1 g 3) A.2 w (decide (some g = p.2.2.2.2.1)) g (nWay L.1.1 A.1.1 A.1.2.1 (if some g = p.2.2.2.1 then 0 else s) A.2 w (L.2.1 g 0) (L.2.1 g 1)) x
  else x
noncomputable def gTurns (L : yL) (A : yN) (p : yP) (s : Nat) (w : Nat → Nat) (day gone : Nat) : Nat → yA → yA
  | 0, x => x
  | g + 1, x => gTurn L A p s w day gone g (gTurns L A p s w day gone g x)
/-- whether it rains -/
abbrev dWet (L : yL) (day : Nat) : Prop := ∃ k, k < L.1.2.2 ∧ L.2.2 k = day
/-- a road at a day's end -/
def eW (N load rain w r : Nat) : Nat := if load + rain = 0 then (if N ≤ r + 1 then 0 else w) else if 99 < w + (load + rain) then 99 else w + (load + rain)
def eR (N load rain r : Nat) : Nat := if load + rain = 0 then (if r < N then r + 1 else N) else 0
def rainy (L : yL) (p : yP) (day : Nat) (d : Decidable (dWet L day)) : Nat := if p.2.2.2.2.2 = true then 0 else if dWet L day then 1 else 0
/-- what the goings come to on a day -/
noncomputable def dGo (L : yL) (A : yN) (p : yP) (s : Nat) (x : yS) : yA := gTurns L A p s x.1.1 x.2.1.1 x.2.1.2 L.1.2.1 (x.2.2.1, x.2.2.2.1, (x.2.2.2.2.1.1, x.2.2.2.2.1.2.1, none), fun _ => 0)
/-- a day -/
noncomputable def dDay (L : yL) (A : yN) (p : yP) (s : Nat) (x : yS) : yS :=
  ((fun k => eW A.1.2.2 ((dGo L A p s x).2.2.2 k) (rainy L p x.2.1.1 (Classical.propDecidable _)) (x.1.1 k) (x.1.2 k), fun k => eR A.1.2.2 ((dGo L A p s x).2.2.2 k) (rainy L p x.2.1.1 (Classical.propDecidable _)) (x.1.2 k)), (x.2.1.1 + 1, x.2.1.2 + 1), dGo L A p s x)
/-- the rules -/
abbrev rHas (L : yL) (A : yN) (w : Nat → Nat) (day s : Nat) : Prop := ∀ g, g < L.1.2.1 → gBit (L.2.1 g 2) day → (nWay L.1.1 A.1.1 A.1.2.1 s A.2 w (L.2.1 g 0) (L.2.1 g 1)).isSome = true
def rWorst (F : Nat → Nat → Nat) (w : Nat → Nat) : Nat → Option Nat
  | 0 => none
  | k + 1 => if 2 * w k > F k 4 ∧ (rWorst F w k = none ∨ ∃ j, rWorst F w k = some j ∧ w k > w j) then some k else rWorst F w k
