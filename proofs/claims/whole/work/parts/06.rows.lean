/-! ===== a method's body on the abstract machine ===== -/
abbrev zG : Type := Program × Launch × Env × Room × State × MethodId × Array Value × List Frame × Method × Code × (State → Prop)
/-- locals by their places -/
def zAs : Nat → List (Option Value) → List (Nat × Value)
  | _, [] => []
  | i, none :: r => zAs (i + 1) r
  | i, some v :: r => (i, v) :: zAs (i + 1) r
theorem zAs_mem : ∀ (ls : List (Option Value)) (i j : Nat) (v : Value), (j, v) ∈ zAs i ls ↔ ∃ k, j = i + k ∧ ls[k]? = some (some v)
  | [], i, j, v => by simp [zAs]
  | none :: r, i, j, v => by
    show (j, v) ∈ zAs (i + 1) r ↔ _
    rw [zAs_mem r (i + 1) j v]
    constructor
    · rintro ⟨k, h1, h2⟩
      exact ⟨k + 1, by omega, by simpa using h2⟩
    · rintro ⟨k, h1, h2⟩
      cases k with
      | zero => simp at h2
      | succ k => exact ⟨k, by omega, by simpa using h2⟩
  | some w :: r, i, j, v => by
    show (j, v) ∈ (i, w) :: zAs (i + 1) r ↔ _
    rw [List.mem_cons, zAs_mem r (i + 1) j v]
    constructor
    · rintro (h | ⟨k, h1, h2⟩)
      · cases h
        exact ⟨0, rfl, rfl⟩
      · exact ⟨k + 1, by omega, by simpa using h2⟩
    · rintro ⟨k, h1, h2⟩
      cases k with
      | zero =>
        left
        simp at h2
        rw [h1, h2]
        rfl
      | succ k => exact Or.inr ⟨k, by omega, by simpa using h2⟩
def zLs (la : Array Slot) (nL : Nat) (ls : List (Option Value)) : Prop := lv_has la nL (zAs 0 ls)
theorem zLs_at {la : Array Slot} {nL : Nat} {ls : List (Option Value)} (h : zLs la nL ls) {k : Nat} {v : Value} (hk : ls[k]? = some (some v)) : la[k]? = some (.val v) := h.2.2 (k, v) ((zAs_mem ls 0 k v).mpr ⟨k, by omega, hk⟩)
theorem zLs_sub {la : Array Slot} {nL : Nat} {ls ls' : List (Option Value)} (h : zLs la nL ls) (hs : ∀ (k : Nat) (v : Value), ls'[k]? = some (some v) → ls[k]? = some (some v)) : zLs la nL ls' := by
  refine ⟨h.1, h.2.1, fun q hq => ?_⟩
  obtain ⟨j, v⟩ := q
  obtain ⟨k, h1, h2⟩ := (zAs_mem ls' 0 j v).mp hq
  rw [Nat.zero_add] at h1
  subst h1
  exact zLs_at h (hs _ _ h2)
/-- the slot ahead doesn't hold the first half of what is overwritten -/
def zok (x : Option Value) : Bool := match x with
  | some (.long _) => false
  | some (.double _) => false
  | _ => true
theorem zok_cat {x : Option Value} {v : Value} (h : zok x = true) (hx : x = some v) : v.category ≠ 2 := by
  subst hx
  cases v <;> simp [zok, Value.category] at h ⊢
theorem zLs_st1 {la : Array Slot} {nL i : Nat} {v : Value} {ls : List (Option Value)} (h : lv_has la nL ((i, v) :: (zAs 0 ls).filter (fun q => !(q.1 == i) && !(q.1 + 1 == i && q.2.category == 2)))) (hp : ∀ j x, j + 1 = i → ls[j]? = some x → zok x = true) : zLs la nL (ls.set i (some v)) := by
  refine ⟨h.1, h.2.1, fun q hq => h.2.2 q ?_⟩
  obtain ⟨j, w⟩ := q
  obtain ⟨k, h1, h2⟩ := (zAs_mem _ 0 j w).mp hq
  rw [Nat.zero_add] at h1
  subst h1
  rw [List.getElem?_set] at h2
  by_cases hik : i = j
  · rw [if_pos hik] at h2
    split at h2
    · cases h2
      subst hik
      exact List.mem_cons_self
    · cases h2
  · rw [if_neg hik] at h2
    refine List.mem_cons_of_mem _ (List.mem_filter.mpr ⟨(zAs_mem ls 0 j w).mpr ⟨j, by omega, h2⟩, ?_⟩)
    simp only [Bool.and_eq_true, Bool.not_eq_true', beq_eq_false_iff_ne, Bool.and_eq_false_iff]
    refine ⟨fun q => hik q.symm, ?_⟩
    by_cases hj : j + 1 = i
    · exact Or.inr (zok_cat (hp j _ hj h2) rfl)
    · exact Or.inl hj
theorem zLs_st2 {la : Array Slot} {nL i : Nat} {v : Value} {ls : List (Option Value)} (h : lv_has la nL ((i, v) :: (zAs 0 ls).filter (fun q => !(q.1 == i) && (!(q.1 == i + 1) && !(q.1 + 1 == i && q.2.category == 2))))) (hp : ∀ j x, j + 1 = i → ls[j]? = some x → zok x = true) : zLs la nL ((ls.set i (some v)).set (i + 1) none) := by
  refine ⟨h.1, h.2.1, fun q hq => h.2.2 q ?_⟩
  obtain ⟨j, w⟩ := q
  obtain ⟨k, h1, h2⟩ := (zAs_mem _ 0 j w).mp hq
  rw [Nat.zero_add] at h1
  subst h1
  rw [List.getElem?_set] at h2
  by_cases hi1 : i + 1 = j
  · rw [if_pos hi1] at h2
    split at h2 <;> cases h2
  · rw [if_neg hi1, List.getElem?_set] at h2
    by_cases hik : i = j
    · rw [if_pos hik] at h2
      split at h2
      · cases h2
        subst hik
        exact List.mem_cons_self
      · cases h2
    · rw [if_neg hik] at h2
      refine List.mem_cons_of_mem _ (List.mem_filter.mpr ⟨(zAs_mem ls 0 j w).mpr ⟨j, by omega, h2⟩, ?_⟩)
      simp only [Bool.and_eq_true, Bool.not_eq_true', beq_eq_false_iff_ne, Bool.and_eq_false_iff]
      refine ⟨fun q => hik q.symm, fun q => hi1 q.symm, ?_⟩
      by_cases hj : j + 1 = i
      · exact Or.inr (zok_cat (hp j _ hj h2) rfl)
      · exact Or.inl hj
/-- the nest links of the claim (own class, pool place, method, host) -/
def zS0 (E : zE) : State := E.2.2.2.2.2
def zB (E : zE) (b : Nat) : Prop := b = (zS0 E).heap.size ∧ va_K E.1 vwCl (zTys E) (zS0 E) ∧ ∃ sb : Nat, (∀ w ∈ lw_tbl, w.before #[Value.ref sb] (zS0 E) = true) ∧ (Jvm.Cond.and given_1 narrow_1).before #[Value.ref sb] (zS0 E) = true
def zKs (E : zE) (b : Nat) (U : State) : Prop := zB E b ∧ (zS0 E).WarmedH U.vm ∧ ∀ q, q < b → U.heap[q]? = (zS0 E).heap[q]?
theorem zKs.K {E : zE} {b : Nat} {U : State} (h : zKs E b U) : va_K E.1 vwCl (zTys E) U := va_K.moved h.2.1.alike h.1.2.1
theorem zKs.go {E : zE} {b : Nat} {s U : State} (h : zKs E b s) (hW : s.WarmedH U.vm) (hq : ∀ q, q < b → U.heap[q]? = s.heap[q]?) : zKs E b U := ⟨h.1, State.WarmedH.trans h.2.1 hW, fun q hb => (hq q hb).trans (h.2.2 q hb)⟩
/-- what a method's body stands on -/
def zCx (E : zE) (b : Nat) (G : zG) (own : String) (cc : ByteArray) (nL : Nat) (rt : Option FieldType) : Prop := match G with
  | (p, _, _, _, s, m, args, _, meth, c, _) => p.tables.exec = Jvm.exec ∧ c.code = cc ∧ c.maxLocals = nL ∧ s.vm.findClass own = some m.cls ∧ (∀ w ∈ zW, w.before args s = true) ∧ meth.sig.returnType = rt ∧ meth.locks = false ∧ zKs E b s ∧ b ≤ s.heap.size
def zAW (E : zE) (b : Nat) (G : zG) (nL cells slots pc : Nat) (ls : List (Option Value)) (st : List Value) (t : zT) (h : zH) : Prop := match G with
  | (p, l, e, R, s, m, args, below, meth, c, Q) => ∀ (H : Heap) (locs : List Loc) (la : Array Slot), zHp E b t h H → va_S (fun q => b ≤ q) s.heap H locs → zLs la nL ls → W p l e R s m args below meth c H locs cells slots Q (F0 m pc la st)
