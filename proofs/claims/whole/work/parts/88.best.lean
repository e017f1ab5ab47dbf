/-! ===== the least over some days: sums ===== -/
theorem gPath_sum {n : Nat} {op : Nat → Prop} {A B c d : Nat → Nat} {to : Nat} (h0 : d to = 0) : ∀ (l : List Nat) (p : Nat), gPath n op A B c d to l p → (l.map c).sum = d p
  | [], p, h => by
    have e : p = to := h
    rw [e, h0]; rfl
  | k :: l, p, h => by
    obtain ⟨-, -, he, -, hl⟩ := h
    have ih := gPath_sum h0 l _ hl
    rw [List.map_cons, List.sum_cons, ih, Nat.add_comm]
    exact he.2.2
theorem nCo_0 (F : Nat → Nat → Nat) (w : Nat → Nat) : nCo 0 F w = nMi F w := by
  funext k
  show nMi F w k + 0 * w k = nMi F w k
  rw [Nat.zero_mul, Nat.add_zero]
theorem nWay_sum {P n s : Nat} {F : Nat → Nat → Nat} {w : Nat → Nat} {fr to : Nat} {d : Nat → Nat} (hN : nOk P n 0 F w) (hfr : fr < P) (hT : dT P n 0 s F w to d) (hF : dF n 0 s F w d) {l : List Nat} (hw : nWay P n 0 s F w fr to = some l) : mSum F w l = d fr ∧ d fr < cFar := by
  have h := (nWay_iff hN hfr hT hF).mp (by rw [hw]; rfl)
  obtain ⟨l', hl⟩ := gPath_ex (nEnds (s := s) hN) hF hT (d fr) fr (Nat.le_refl _) hfr h
  have hiw : isWay P n (nOp s F w) (fun k => F k 0) (fun k => F k 1) (nCo 0 F w) fr to (some l') := ⟨cFar, d, by decide, hF, hT, h, hl⟩
  have hw' : nWay P n 0 s F w fr to = some l' := zway_eq hN.2.1 (nEnds (s := s) hN) hfr hiw
  rw [hw] at hw'
  cases hw'
  refine ⟨?_, h⟩
  have := gPath_sum hT.1 l fr hl
  rw [nCo_0] at this
  exact this
theorem way_le {P n s : Nat} {F : Nat → Nat → Nat} {w : Nat → Nat} {fr to : Nat} (hN : nOk P n 0 F w) (hfr : fr < P) {l : List Nat} (hw : nWay P n 0 s F w fr to = some l) : ∃ l0, nWay P n 0 0 F w fr to = some l0 ∧ mSum F w l0 ≤ mSum F w l := by
  obtain ⟨ds, hTs, hFs⟩ := dT_ex s hN to
  obtain ⟨d0, hT0, hF0⟩ := dT_ex 0 hN to
  have hT' : dT P n 0 0 F w to ds := ⟨hTs.1, hTs.2.1, fun p hp hne hlt => by
    obtain ⟨k, hk, ho, r⟩ := hTs.2.2 p hp hne hlt
    exact ⟨k, hk, ⟨by rw [Nat.zero_div], ho.2⟩, r⟩⟩
  have hle := dGe (nEnds (s := 0) hN) hF0 hT0 hT' (ds fr) fr (Nat.le_refl _) hfr
  obtain ⟨e1, e2⟩ := nWay_sum hN hfr hTs hFs hw
  have h0 := (nWay_iff hN hfr hT0 hF0).mpr (by omega)
  obtain ⟨l0, hl0⟩ := Option.isSome_iff_exists.mp h0
  have e3 := (nWay_sum hN hfr hT0 hF0 hl0).1
  exact ⟨l0, hl0, by omega⟩
theorem way_bd {P n s : Nat} {F : Nat → Nat → Nat} {w : Nat → Nat} {fr to : Nat} (hN : nOk P n 0 F w) (hfr : fr < P) {l : List Nat} (hw : nWay P n 0 s F w fr to = some l) : mSum F w l ≤ 11000 := by
  obtain ⟨ds, hTs, hFs⟩ := dT_ex s hN to
  obtain ⟨e1, e2⟩ := nWay_sum hN hfr hTs hFs hw
  have := dSmall hN.2.1 (nEnds (s := s) hN) hFs hTs hfr e2
  omega
/-- what a going costs on a day -/
noncomputable def gCo (L : yL) (A : yN) (s : Nat) (w : Nat → Nat) (g : Nat) : Nat := match nWay L.1.1 A.1.1 A.1.2.1 s A.2 w (L.2.1 g 0) (L.2.1 g 1) with
  | none => 1000
  | some l => mSum A.2 w l
/-- what the first of them cost on a day -/
noncomputable def dSC (L : yL) (A : yN) (s : Nat) (w : Nat → Nat) (day : Nat) : Nat → Nat
  | 0 => 0
  | g + 1 => dSC L A s w day g + if gBit (L.2.1 g 2) day then gCo L A s w g else 0
theorem gTurns_co {L : yL} {A : yN} (s : Nat) (w : Nat → Nat) (day gone : Nat) (x : yA) : ∀ g, (gTurns L A yP0 s w day gone g x).2.1.1 = x.2.1.1 + dSC L A s w day g
  | 0 => rfl
  | g + 1 => by
    have ih := gTurns_co (L := L) (A := A) s w day gone x g
    show (gTurn L A yP0 s w day gone g (gTurns L A yP0 s w day gone g x)).2.1.1 = x.2.1.1 + (dSC L A s w day g + if gBit (L.2.1 g 2) day then gCo L A s w g else 0)
    have hOn : gOn L.2.1 day gone yP0.1 yP0.2.1.1 yP0.2.1.2 g ↔ gBit (L.2.1 g 2) day := ⟨fun z => by have := z.2; rw [if_neg (fun y => by cases y)] at this; exact this, fun z => ⟨(fun y => by cases y), (by rw [if_neg (fun y => by cases y)]; exact z)⟩⟩
    unfold gTurn
    by_cases c1 : gBit (L.2.1 g 2) day
    · rw [if_pos (hOn.mpr c1), if_pos c1, if_neg (fun z => by cases z.1)]
      have hn : ¬ some g = yP0.2.2.2.1 := fun z => by cases z
      rw [if_neg hn]
      unfold gCo
      generalize nWay L.1.1 A.1.1 A.1.2.1 s A.2 w (L.2.1 g 0) (L.2.1 g 1) = o
      cases o with
      | none =>
        show (gTurns L A yP0 s w day gone g x).2.1.1 + 1000 = _
        rw [ih, Nat.add_assoc]
      | some l =>
        show (gTurns L A yP0 s w day gone g x).2.1.1 + mSum A.2 w l = _
        rw [ih, Nat.add_assoc]
    · rw [if_neg (fun z => c1 (hOn.mp z)), if_neg c1, ih]; omega
theorem gCo_bd {L : yL} {A : yN} {s : Nat} {w : Nat → Nat} (hS : sOk L A yP0 w) (h0 : A.1.2.1 = 0) {g : Nat} (hg : g < L.1.2.1) : gCo L A s w g ≤ 11000 := by
  have hgg := hS.2.1.2.2.2.2.1 g hg
  have hN := hS.1
  unfold gCo
  cases e : nWay L.1.1 A.1.1 A.1.2.1 s A.2 w (L.2.1 g 0) (L.2.1 g 1) with
  | none => show 1000 ≤ 11000; omega
  | some l =>
    rw [h0] at e hN
    exact way_bd hN hgg.1 e
theorem dSC_bd {L : yL} {A : yN} {s : Nat} {w : Nat → Nat} {day : Nat} (hS : sOk L A yP0 w) (h0 : A.1.2.1 = 0) : ∀ g, g ≤ L.1.2.1 → dSC L A s w day g ≤ 11000 * g
  | 0, _ => Nat.zero_le _
  | g + 1, hg => by
    have ih := dSC_bd (s := s) (day := day) hS h0 g (by omega)
    have := gCo_bd (s := s) hS h0 (show g < L.1.2.1 by omega)
    show dSC L A s w day g + (if gBit (L.2.1 g 2) day then gCo L A s w g else 0) ≤ _
    split <;> omega
theorem dSC_le {L : yL} {A : yN} {w : Nat → Nat} {day gone lg : Nat} (hS : sOk L A yP0 w) (h0 : A.1.2.1 = 0) (hlg : lg ≤ 1000) (s : Nat) : ∀ g, g ≤ L.1.2.1 → lgOk L A yP0 0 w day gone g lg → dSC L A 0 w day g ≤ dSC L A s w day g
  | 0, _, _ => Nat.le_refl _
  | g + 1, hg, hl => by
    have ih := dSC_le hS h0 hlg s g (by omega) (fun z q hq => hl z q (by omega))
    show dSC L A 0 w day g + (if gBit (L.2.1 g 2) day then gCo L A 0 w g else 0) ≤ dSC L A s w day g + (if gBit (L.2.1 g 2) day then gCo L A s w g else 0)
    by_cases c1 : gBit (L.2.1 g 2) day
    · rw [if_pos c1, if_pos c1]
      have hgg := hS.2.1.2.2.2.2.1 g (by omega)
      have hN := hS.1
      rw [h0] at hN
      have hw := hl rfl g (by omega) ⟨(fun y => by cases y), (by rw [if_neg (fun y => by cases y)]; exact c1)⟩
      have key : gCo L A 0 w g ≤ gCo L A s w g := by
        have hw2 : ∀ pl, nWay L.1.1 A.1.1 A.1.2.1 0 A.2 w (L.2.1 g 0) (L.2.1 g 1) = some pl → mSum A.2 w pl ≤ lg := fun pl e => by
          refine hw pl ?_
          unfold sWay
          rw [← e]
          simp
        unfold gCo
        rw [h0] at hw2 ⊢
        cases e0 : nWay L.1.1 A.1.1 0 0 A.2 w (L.2.1 g 0) (L.2.1 g 1) with
        | none =>
          cases es : nWay L.1.1 A.1.1 0 s A.2 w (L.2.1 g 0) (L.2.1 g 1) with
          | none => exact Nat.le_refl _
          | some l =>
            obtain ⟨l0, h1, -⟩ := way_le hN hgg.1 es
            rw [e0] at h1
            cases h1
        | some l0 =>
          have hb := hw2 l0 e0
          cases es : nWay L.1.1 A.1.1 0 s A.2 w (L.2.1 g 0) (L.2.1 g 1) with
          | none => show mSum A.2 w l0 ≤ 1000; omega
          | some l =>
            obtain ⟨l1, h1, h2⟩ := way_le hN hgg.1 es
            rw [e0] at h1
            cases h1
            exact h2
      omega
    · rw [if_neg c1, if_neg c1]; omega
