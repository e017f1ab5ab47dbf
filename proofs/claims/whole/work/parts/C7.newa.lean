/-! ===== newarray ===== -/
section ZNA
variable {E : zE} {b : Nat} {G : zG} {own : String} {cc : ByteArray} {nL : Nat} {rt : Option FieldType} {cells slots pc D MC MS : Nat} {t : zT} {h : zH} {ls : List (Option Value)} {st : List Value}
theorem zz_newI (C : zCx E b G own cc nL rt) (hR : zRoom G D MC MS) (hx : t.1.2 = true) {x : Int32} (n : Nat) (hxn : x = nI n ∧ n < 2 ^ 20) (hc : cells + 1 ≤ MC) (hs : slots + n ≤ MS) (hw : Cond.arrayClass .int ∈ zW) (hd : decode cc pc = .ok (.newarray .int, 2)) (kk : zAW E b G nL (cells + 1) (slots + n) (pc + 2) ls (.ref (b + t.1.1) :: st) (zNw t 12 n) (zNh t h)) : zAW E b G nL cells slots pc ls (.int x :: st) t h := by
  obtain ⟨p, l, e, R, s, m, args, below, meth, c, Q⟩ := G
  intro H locs la hH hS hl
  have hsz := hH.1.2 hx
  have hR3 : MC ≤ R.cells := hR.2.2.1
  have hR4 : MS ≤ R.slots := hR.2.2.2
  obtain ⟨rfl, hn⟩ := hxn
  refine va_newaK (atype := .int) C.1 C.2.1 (C.2.2.2.2.1 _ hw) rfl hd rfl (nI_pos (by omega)) (nI_clamp (by omega)) (by show n * 4 ≤ _; omega) (by omega) (by omega) hsz fun H1 cA e1 z1 o1 hAr hNm => ?_
  have hK := C.2.2.2.2.2.2.2.1.K
  have hcA : cA = E.2.1 := by
    have := (hK.2 0 _ rfl).2
    exact Option.some.inj (hNm.symm.trans this)
  subst hcA
  have eK : zK (zNw t 12 n) t.1.1 = (12, n) := by rw [zK_nw, if_pos rfl]
  refine kk H1 locs la (hH.nw hx (by omega) ?_ (by omega) (fun q hq => o1 q (by omega))) ⟨Nat.le_trans hS.1 (by omega), fun q h1 h2 => (o1 q (by have := hS.1; omega)).trans (hS.2.1 q h1 h2), hS.2.2⟩ hl
  rw [zEnt_I eK]
  show H1[b + t.1.1]? = some (vp_cell _ _)
  rw [e1, vp_cell_i]
  have e0 : ∀ j, zI (zNh t h) t.1.1 j = 0 := fun j => by rw [zI_nh, if_pos rfl]
  simp only [e0]
  rfl
end ZNA
