/-! ===== the reference: judge ===== -/
theorem oI_n1 {o : Option Nat} (ho : ∀ x, o = some x → x < 2 ^ 31) : oI o = -1 ↔ o = none := by
  cases o with
  | none => exact ⟨fun _ => rfl, fun _ => rfl⟩
  | some x =>
    refine ⟨fun q => ?_, fun q => by cases q⟩
    have hx := ho x rfl
    have z2 : (nI x).toInt = (-1 : Int32).toInt := congrArg Int32.toInt q
    rw [nI_toInt hx] at z2
    have z3 : (-1 : Int32).toInt = -1 := rfl
    omega
theorem rPast_lt {F : Nat → Nat → Nat} {w : Nat → Nat} {n k : Nat} (h : rPast F w n = some k) : k < n := List.mem_range.mp (List.mem_of_find?_eq_some h)
theorem gTurns_fs (L : yL) (A : yN) (p : yP) (s : Nat) (w : Nat → Nat) (day gone : Nat) (x : yA) (hx : x.2.2.1.2.2 = none) : ∀ (g : Nat) (j : Nat), (gTurns L A p s w day gone g x).2.2.1.2.2 = some j → j < g
  | 0, j, q => by rw [show (gTurns L A p s w day gone 0 x).2.2.1.2.2 = none from hx] at q; cases q
  | g + 1, j, q => by
    have ih := gTurns_fs L A p s w day gone x hx g
    have key : ∀ (o : Option (List Nat)) (mk : Bool) (z : yA), (∀ j, z.2.2.1.2.2 = some j → j < g) → ∀ j, (gWay A.1.2.1 (L.2.1 g 3) A.2 w mk g o z).2.2.1.2.2 = some j → j < g + 1 := by
      intro o mk z hz j hj
      cases o with
      | none =>
        have hj : (if z.2.2.1.2.2 = none then some g else z.2.2.1.2.2) = some j := hj
        split at hj
        · cases hj; omega
        · exact Nat.lt_succ_of_lt (hz j hj)
      | some l => exact Nat.lt_succ_of_lt (hz j hj)
    have q2 : (gTurn L A p s w day gone g (gTurns L A p s w day gone g x)).2.2.1.2.2 = some j := q
    unfold gTurn at q2
    split at q2
    · split at q2
      · split at q2
        · exact key _ _ (gNext (gTurns L A p s w day gone g x).1, (gTurns L A p s w day gone g x).2) ih j q2
        · exact Nat.lt_succ_of_lt (ih j q2)
      · exact key _ _ _ ih j q2
    · exact Nat.lt_succ_of_lt (ih j q2)
/-- the first day of the row at whose end a road is past use, and which -/
noncomputable def jPast (L : yL) (A : yN) (p : yP) (R : Nat → Nat) (x : yS) : Nat → Option (Nat × Nat)
  | 0 => none
  | d + 1 => match jPast L A p R x d with
    | some a => some a
    | none => (rPast A.2 (dRow L A p R (d + 1) x).1.1 A.1.1).map (fun k => (d, k))
/-- the first on which a going stays, and who -/
noncomputable def jStay (L : yL) (A : yN) (p : yP) (R : Nat → Nat) (x : yS) : Nat → Option (Nat × Nat)
  | 0 => none
  | d + 1 => match jStay L A p R x d with
    | some a => some a
    | none => (dRow L A p R (d + 1) x).2.2.2.2.1.2.2.map (fun g => (d, g))
theorem jPast_lt {L : yL} {A : yN} {p : yP} {R : Nat → Nat} {x : yS} : ∀ {d a c : Nat}, jPast L A p R x d = some (a, c) → a < d ∧ c < A.1.1
  | d + 1, a, c, q => by
    unfold jPast at q
    split at q
    · rename_i z hz
      cases q
      have := jPast_lt hz
      exact ⟨by omega, this.2⟩
    · cases hr : rPast A.2 (dRow L A p R (d + 1) x).1.1 A.1.1 with
      | none => rw [hr] at q; cases q
      | some k =>
        rw [hr] at q
        cases q
        exact ⟨by omega, rPast_lt hr⟩
theorem dRow_fs {L : yL} {A : yN} {p : yP} {R : Nat → Nat} {x : yS} {d g : Nat} (q : (dRow L A p R (d + 1) x).2.2.2.2.1.2.2 = some g) : g < L.1.2.1 := gTurns_fs L A p (R d) (dRow L A p R d x).1.1 (dRow L A p R d x).2.1.1 (dRow L A p R d x).2.1.2 ((dRow L A p R d x).2.2.1, (dRow L A p R d x).2.2.2.1, ((dRow L A p R d x).2.2.2.2.1.1, (dRow L A p R d x).2.2.2.2.1.2.1, none), fun _ => 0) rfl L.1.2.1 g q
theorem jStay_lt {L : yL} {A : yN} {p : yP} {R : Nat → Nat} {x : yS} : ∀ {d a c : Nat}, jStay L A p R x d = some (a, c) → a < d ∧ c < L.1.2.1
  | d + 1, a, c, q => by
    unfold jStay at q
    split at q
    · rename_i z hz
      cases q
      have := jStay_lt hz
      exact ⟨by omega, this.2⟩
    · cases hr : (dRow L A p R (d + 1) x).2.2.2.2.1.2.2 with
      | none => rw [hr] at q; cases q
      | some k =>
        rw [hr] at q
        cases q
        exact ⟨by omega, dRow_fs hr⟩
def jWhat (a c : Option (Nat × Nat)) : Nat → Option Nat
  | 0 => a.map Prod.fst
  | 1 => a.map Prod.snd
  | 2 => c.map Prod.fst
  | _ => c.map Prod.snd
section MJ
variable {E : zE} {b : Nat} {G : zG} {t : zT} {h : zH} {D : yD} {p : yP} {R : Nat × (Nat → Nat)}
/-- the row's days have gone by -/
theorem l_judge9 (C : zCx E b G RX11 cX11_judge 7 (some .int)) {q : Nat} (hq : q ≤ 3) {a c : Option (Nat × Nat)} {x6 : Option Value} {Q : Int32 → zT → zH → Prop} (hE : zEnd E b G 0 0 (qI Q)) (hQ : Q (oI (jWhat a c q)) t h) : zAW E b G 7 0 0 117 [some (.ref (b + 157)), some (.int (nI q)), some (.int (oI (a.map Prod.fst))), some (.int (oI (a.map Prod.snd))), some (.int (oI (c.map Prod.fst))), some (.int (oI (c.map Prod.snd))), x6] [] t h := by
  refine zz_iload_1 C dX11_judge_117 <| zpc 118 rfl <| ?_
  refine zz_if_ne C 125 dX11_judge_118 (by decide) (fun c118 => ?_) (fun c118 => ?_)
  · refine zz_iload_1 C dX11_judge_125 <| zz_iconst_1 C dX11_judge_126 <| zpc 127 rfl <| ?_
    refine zz_icmp_ne C 134 dX11_judge_127 (by decide) (fun c127 => ?_) (fun c127 => ?_)
    · refine zz_iload_1 C dX11_judge_134 <| zz_iconst_2 C dX11_judge_135 <| zpc 136 rfl <| ?_
      refine zz_icmp_ne C 144 dX11_judge_136 (by decide) (fun c136 => ?_) (fun c136 => ?_)
      · refine zz_iload_5 C dX11_judge_144 <| zpc 146 rfl <| ?_
        refine zy_ireturn C hE (zle rfl) (zle rfl) dX11_judge_146 ?_
        first
        | (rw [show (0 : Int32) = nI 0 from rfl, nI_eq (by omega) (by omega)] at c118; rw [c118] at hQ; exact hQ)
        | (rw [show (1 : Int32) = nI 1 from rfl, nI_eq (by omega) (by omega)] at c127; rw [c127] at hQ; exact hQ)
        | (rw [show (2 : Int32) = nI 2 from rfl, nI_eq (by omega) (by omega)] at c136; rw [c136] at hQ; exact hQ)
        | (rw [show (0 : Int32) = nI 0 from rfl, nI_eq (by omega) (by omega)] at c118
           rw [show (1 : Int32) = nI 1 from rfl, nI_eq (by omega) (by omega)] at c127
           rw [show (2 : Int32) = nI 2 from rfl, nI_eq (by omega) (by omega)] at c136
           rw [show q = 3 by omega] at hQ; exact hQ)
      · refine zz_iload_4 C dX11_judge_139 <| zz_goto C 146 dX11_judge_141 (by decide) <| zpc 146 rfl <| ?_
        refine zy_ireturn C hE (zle rfl) (zle rfl) dX11_judge_146 ?_
        first
        | (rw [show (0 : Int32) = nI 0 from rfl, nI_eq (by omega) (by omega)] at c118; rw [c118] at hQ; exact hQ)
        | (rw [show (1 : Int32) = nI 1 from rfl, nI_eq (by omega) (by omega)] at c127; rw [c127] at hQ; exact hQ)
        | (rw [show (2 : Int32) = nI 2 from rfl, nI_eq (by omega) (by omega)] at c136; rw [c136] at hQ; exact hQ)
        | (rw [show (0 : Int32) = nI 0 from rfl, nI_eq (by omega) (by omega)] at c118
           rw [show (1 : Int32) = nI 1 from rfl, nI_eq (by omega) (by omega)] at c127
           rw [show (2 : Int32) = nI 2 from rfl, nI_eq (by omega) (by omega)] at c136
           rw [show q = 3 by omega] at hQ; exact hQ)
    · refine zz_iload_3 C dX11_judge_130 <| zz_goto C 146 dX11_judge_131 (by decide) <| zpc 146 rfl <| ?_
      refine zy_ireturn C hE (zle rfl) (zle rfl) dX11_judge_146 ?_
      first
      | (rw [show (0 : Int32) = nI 0 from rfl, nI_eq (by omega) (by omega)] at c118; rw [c118] at hQ; exact hQ)
      | (rw [show (1 : Int32) = nI 1 from rfl, nI_eq (by omega) (by omega)] at c127; rw [c127] at hQ; exact hQ)
      | (rw [show (2 : Int32) = nI 2 from rfl, nI_eq (by omega) (by omega)] at c136; rw [c136] at hQ; exact hQ)
      | (rw [show (0 : Int32) = nI 0 from rfl, nI_eq (by omega) (by omega)] at c118
         rw [show (1 : Int32) = nI 1 from rfl, nI_eq (by omega) (by omega)] at c127
         rw [show (2 : Int32) = nI 2 from rfl, nI_eq (by omega) (by omega)] at c136
         rw [show q = 3 by omega] at hQ; exact hQ)
  · refine zz_iload_2 C dX11_judge_121 <| zz_goto C 146 dX11_judge_122 (by decide) <| zpc 146 rfl <| ?_
    refine zy_ireturn C hE (zle rfl) (zle rfl) dX11_judge_146 ?_
    first
    | (rw [show (0 : Int32) = nI 0 from rfl, nI_eq (by omega) (by omega)] at c118; rw [c118] at hQ; exact hQ)
    | (rw [show (1 : Int32) = nI 1 from rfl, nI_eq (by omega) (by omega)] at c127; rw [c127] at hQ; exact hQ)
    | (rw [show (2 : Int32) = nI 2 from rfl, nI_eq (by omega) (by omega)] at c136; rw [c136] at hQ; exact hQ)
    | (rw [show (0 : Int32) = nI 0 from rfl, nI_eq (by omega) (by omega)] at c118
       rw [show (1 : Int32) = nI 1 from rfl, nI_eq (by omega) (by omega)] at c127
       rw [show (2 : Int32) = nI 2 from rfl, nI_eq (by omega) (by omega)] at c136
       rw [show q = 3 by omega] at hQ; exact hQ)
end MJ
