/-! ===== the law: its own rows ===== -/
/-- the script -/
def lzS (b : Nat) (G : zG) (sb L : Nat) (xs : Nat → Int32) : Prop := va_X sb L xs G.2.2.2.2.1 G.2.2.2.2.1.heap ∧ sb < b ∧ L ≤ 3072
theorem nI_ad (n k : Nat) : nI n + nI k = nI (n + k) := by
  show Int32.ofNat n + Int32.ofNat k = Int32.ofNat (n + k)
  rw [Int32.ofNat_add]
theorem lg_self (x : Int64) : lg_cmp x x = 0 := (lg_cmp_eq x x).mpr rfl
section LZ
variable {E : zE} {b : Nat} {G : zG} {own : String} {cc : ByteArray} {nL : Nat} {rt : Option FieldType} {cells slots pc : Nat} {t : zT} {h : zH} {ls ls' : List (Option Value)} {st : List Value} {sb L : Nat} {xs : Nat → Int32}
theorem zl_sld (C : zCx E b G own cc nL rt) (V : lzS b G sb L xs) {x : Int32} (k : Nat) (hx : x = nI k) (hk : k < L) (hd : decode cc pc = .ok (.iaload, 1)) (kk : zAW E b G nL cells slots (pc + 1) ls (.int (xs k) :: st) t h) : zAW E b G nL cells slots pc ls (.int x :: .ref sb :: st) t h := by
  obtain ⟨p, l, e, R, s, m, args, below, meth, c, Q⟩ := G
  intro H locs la hH hS hl
  obtain ⟨h1, h2, h3⟩ := V
  subst hx
  have hcz : (nI k).toNatClampNeg = k := nI_clamp (by omega)
  have hin : vp_in (nI k) L := by
    unfold vp_in
    rw [hcz]
    exact fun z => z.elim (nI_pos (by omega)) (by omega)
  refine va_sld C.1 C.2.1 h1 (Nat.lt_of_lt_of_le h2 C.2.2.2.2.2.2.2.2) (Nat.not_le.mpr h2) hS hin hd ?_
  rw [hcz]
  exact kk H locs la hH hS hl
theorem zl_slen (C : zCx E b G own cc nL rt) (V : lzS b G sb L xs) (hd : decode cc pc = .ok (.arraylength, 1)) (kk : zAW E b G nL cells slots (pc + 1) ls (.int (nI L) :: st) t h) : zAW E b G nL cells slots pc ls (.ref sb :: st) t h := by
  obtain ⟨p, l, e, R, s, m, args, below, meth, c, Q⟩ := G
  intro H locs la hH hS hl
  obtain ⟨h1, h2, h3⟩ := V
  exact va_slen C.1 C.2.1 h1 (Nat.lt_of_lt_of_le h2 C.2.2.2.2.2.2.2.2) (Nat.not_le.mpr h2) hS hd (kk H locs la hH hS hl)
theorem zl_wd {k n : Nat} (h1 : cells ≤ k) (h2 : slots ≤ n) (kk : zAW E b G nL k n pc ls st t h) : zAW E b G nL cells slots pc ls st t h := by
  obtain ⟨p, l, e, R, s, m, args, below, meth, c, Q⟩ := G
  intro H locs la hH hS hl
  exact W.widen h1 h2 (kk H locs la hH hS hl)
theorem zl_ls (hs : ∀ (k : Nat) (v : Value), ls'[k]? = some (some v) → ls[k]? = some (some v)) (kk : zAW E b G nL cells slots pc ls' st t h) : zAW E b G nL cells slots pc ls st t h := by
  obtain ⟨p, l, e, R, s, m, args, below, meth, c, Q⟩ := G
  intro H locs la hH hS hl
  exact kk H locs la hH hS (zLs_sub hl hs)
/-- the flag is let go: from now on cells may come that nobody names -/
def zFl (t : zT) : zT := ((t.1.1, false), t.2)
theorem zl_fl (kk : zAW E b G nL cells slots pc ls st (zFl t) h) : zAW E b G nL cells slots pc ls st t h := by
  obtain ⟨p, l, e, R, s, m, args, below, meth, c, Q⟩ := G
  intro H locs la hH hS hl
  refine kk H locs la ⟨⟨hH.1.1, fun z => by cases z⟩, hH.2.1, hH.2.2⟩ hS hl
end LZ
