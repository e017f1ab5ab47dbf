/-! ===== more rows of the abstract machine: Math.min and max, System.arraycopy, stores of references, loops ===== -/
theorem zLoop {P : Nat → Prop} (n : Nat) (body : ∀ k, k ≤ n → (k < n → P (k + 1)) → P k) (k : Nat) (hk : k ≤ n) : P k := by
  have key : ∀ (m k : Nat), k + m = n → P k := by
    intro m
    induction m with
    | zero => intro k hk; exact body k (by omega) (fun q => absurd q (by omega))
    | succ m ih => intro k hk; exact body k (by omega) (fun _ => ih (k + 1) (by omega))
  exact key (n - k) k (by omega)
theorem zEnt_rI {E : zE} {b : Nat} {t : zT} {h : zH} {i j : Nat} {f : Nat → Int32} (hj : j ≠ i) : zEnt E b t (zrI h i f) j = zEnt E b t h j := by
  have hI : ∀ q, zI (zrI h i f) j q = zI h j q := fun q => by rw [zI_rI, if_neg hj]
  have hF : ∀ q ty, zFv b t (zrI h i f) j q ty = zFv b t h j q ty := fun q ty => by
    unfold zFv
    split <;> first | rfl | rw [hI]
  unfold zEnt zFs
  simp only [hI, hF]
  rfl
section ZX
variable {E : zE} {b : Nat} {G : zG} {own : String} {cc : ByteArray} {nL : Nat} {rt : Option FieldType} {cells slots pc D MC MS idx : Nat} {t : zT} {h : zH} {ls : List (Option Value)} {st rest : List Value}
theorem zz_mmin (C : zCx E b G own cc nL rt) (hR : zRoom G D MC MS) (hD : 1 ≤ D) (hL : zLM own idx Lib.Math.min.name Lib.Math.min.code) {x y : Int32} (hc : cells ≤ MC) (hs : slots ≤ MS) (hcat : (rest.map fun v => v.category).sum ≤ 8) (hd : decode cc pc = .ok (.invokestatic idx, 3)) (kk : zAW E b G nL cells slots (pc + 3) ls (.int (if y < x then y else x) :: rest) t h) : zAW E b G nL cells slots pc ls (.int y :: .int x :: rest) t h := by
  obtain ⟨p, l, e, R, s, m, args, below, meth, c, Q⟩ := G
  intro H locs la hH hS hl
  have hR1 : D ≤ R.frames := hR.1
  have hR2 : 64 * D ≤ R.locals := hR.2.1
  have hR3 : MC ≤ R.cells := hR.2.2.1
  have hR4 : MS ≤ R.slots := hR.2.2.2
  have hts := C.2.2.2.2.1
  exact va_mmin C.1 C.2.1 (by rw [C.2.2.1]; exact hl.1.symm) C.2.2.2.1 (hts _ hL.1) (hts _ hL.2.1) (hts _ hL.2.2.1) (hts _ hL.2.2.2) (by omega) (by omega) (by omega) (by omega) hd (kk H locs la hH hS hl)
theorem zz_mmax (C : zCx E b G own cc nL rt) (hR : zRoom G D MC MS) (hD : 1 ≤ D) (hL : zLM own idx Lib.Math.max.name Lib.Math.max.code) {x y : Int32} (hc : cells ≤ MC) (hs : slots ≤ MS) (hcat : (rest.map fun v => v.category).sum ≤ 8) (hd : decode cc pc = .ok (.invokestatic idx, 3)) (kk : zAW E b G nL cells slots (pc + 3) ls (.int (if x < y then y else x) :: rest) t h) : zAW E b G nL cells slots pc ls (.int y :: .int x :: rest) t h := by
  obtain ⟨p, l, e, R, s, m, args, below, meth, c, Q⟩ := G
  intro H locs la hH hS hl
  have hR1 : D ≤ R.frames := hR.1
  have hR2 : 64 * D ≤ R.locals := hR.2.1
  have hR3 : MC ≤ R.cells := hR.2.2.1
  have hR4 : MS ≤ R.slots := hR.2.2.2
  have hts := C.2.2.2.2.1
  exact va_mmax C.1 C.2.1 (by rw [C.2.2.1]; exact hl.1.symm) C.2.2.2.1 (hts _ hL.1) (hts _ hL.2.1) (hts _ hL.2.2.1) (hts _ hL.2.2.2) (by omega) (by omega) (by omega) (by omega) hd (kk H locs la hH hS hl)
/-- a whole row of ints copied -/
theorem zz_copyI (C : zCx E b G own cc nL rt) (hR : zRoom G D MC MS) (hD : 1 ≤ D) (hL : zLA own idx) {i j n : Nat} (hn : n < 2 ^ 31) (hKi : zK t i = (12, n)) (hKj : zK t j = (12, n)) (hcat : (rest.map fun v => v.category).sum ≤ 8) (hd : decode cc pc = .ok (.invokestatic idx, 3)) (kk : zAW E b G nL cells slots (pc + 3) ls rest t (zrI h j (fun k => if k < n then zI h i k else zI h j k))) : zAW E b G nL cells slots pc ls (.int (nI n) :: .int 0 :: .ref (b + j) :: .int 0 :: .ref (b + i) :: rest) t h := by
  obtain ⟨p, l, e, R, s, m, args, below, meth, c, Q⟩ := G
  intro H locs la hH hS hl
  have hR1 : D ≤ R.frames := hR.1
  have hR2 : 64 * D ≤ R.locals := hR.2.1
  have hts := C.2.2.2.2.1
  have hK2 := C.2.2.2.2.2.2.2.1.K
  obtain ⟨qi, hqi⟩ := hH.at hKi (by omega)
  obtain ⟨qj, hqj⟩ := hH.at hKj (by omega)
  have hqi2 := hqi
  have hqj2 := hqj
  rw [zEnt_I hKi] at hqi2
  rw [zEnt_I hKj] at hqj2
  have hci : H[b + i]? = some (vp_cell E.2.1 (n, .inl (fun k => zI h i k))) := hH.2.2 qi _ hqi2
  have hcj : H[b + j]? = some (vp_cell E.2.1 (n, .inl (fun k => zI h j k))) := hH.2.2 qj _ hqj2
  obtain ⟨-, k0, hk0, cm0, hkk0⟩ := (hK2.2 0 _ rfl).1 n (fun k => .int (zI h i k))
  obtain ⟨-, k1, hk1, cm1, hkk1⟩ := (hK2.2 0 _ rfl).1 n (fun k => .int (zI h j k))
  have z0 : (0 : Int32).toNatClampNeg = 0 := rfl
  have zn : (nI n).toNatClampNeg = n := nI_clamp hn
  have zi : (nI n).toInt = (n : Int) := nI_toInt hn
  have hnf : nativeFrameWords "java/lang/System" "arraycopy" 5 ≤ 40 := by decide
  intro T hT X
  obtain ⟨vm', X', step⟩ := X.arraycopy C.1 C.2.2.2.1 (hts _ hL.1) (hts _ hL.2.1) (hts _ hL.2.2.1) (hts _ hL.2.2.2) (src := b + i) (dst := b + j) (cs := vp_cell E.2.1 (n, .inl (fun k => zI h i k))) (cd := vp_cell E.2.1 (n, .inl (fun k => zI h j k))) (srcPos := 0) (destPos := 0) (n := nI n) (by rw [hT]; exact hci) (by rw [hT]; exact hcj)
    (fun _ h => by cases h) (fun _ h => by cases h) (fun h => by cases h) (fun h => by cases h) hk0 hk1 hkk0 hkk1 rfl (by decide) (by decide) (nI_pos hn)
    (by rw [zi]; show ¬ _ > ((arrV E.2.1 n (fun k => .int (zI h i k))).slots.size : Int); rw [arrV_size]; show ¬ (0 : Int) + n > n; omega)
    (by rw [zi]; show ¬ _ > ((arrV E.2.1 n (fun k => .int (zI h j k))).slots.size : Int); rw [arrV_size]; show ¬ (0 : Int) + n > n; omega)
    (fun vm₁ _ q hq => by
      rw [zn] at hq
      have e : (vp_cell E.2.1 (n, .inl (fun k => zI h i k))).slots.getD ((0 : Int32).toNatClampNeg + q) .null = .int (zI h i q) := by
        show (arrV E.2.1 n (fun k => .int (zI h i k))).slots.getD _ _ = _
        rw [z0, Nat.zero_add, Array.getD_eq_getD_getElem?, arrV_read _ _ (by omega)]
        rfl
      rw [e]
      exact ⟨rfl, trivial⟩)
    (g := F0 m pc la (.int (nI n) :: .int 0 :: .ref (b + j) :: .int 0 :: .ref (b + i) :: rest)) rfl (by rw [C.2.2.1]; exact hl.1) (rest := rest) rfl (by rw [C.2.1]; exact hd) (by omega) (by show 2 * 0 + _ + (_ + 11) ≤ _; omega)
  have e1 : copied (vp_cell E.2.1 (n, .inl (fun k => zI h i k))) (vp_cell E.2.1 (n, .inl (fun k => zI h j k))) 0 0 (nI n) = vp_cell E.2.1 (n, .inl (fun k => if k < n then zI h i k else zI h j k)) := by
    have := va_copied (fun z => Value.int z) E.2.1 E.2.1 (n0 := n) (n1 := n) (sp := 0) (dp := 0) (n := n) (fun k => zI h i k) (fun k => zI h j k) (by omega)
    unfold copied
    rw [z0, zn]
    refine this.trans ?_
    rw [vp_cell_i]
    congr 1
    funext k
    show Value.int (va_cpy _ _ 0 0 n k) = _
    unfold va_cpy
    simp
  rw [e1] at X' step
  have hl2 : b + j < H.size := (Array.getElem?_eq_some_iff.mp hcj).1
  have oq : ∀ q : Nat, q ≠ b + j → (H.setIfInBounds (b + j) (vp_cell E.2.1 (n, .inl (fun k => if k < n then zI h i k else zI h j k))))[q]? = H[q]? := fun q hq => by simp [Array.getElem?_setIfInBounds, Ne.symm hq]
  have hz : (H.setIfInBounds (b + j) (vp_cell E.2.1 (n, .inl (fun k => if k < n then zI h i k else zI h j k)))).size = H.size := by simp
  have hheap : ((T.setVm vm').setCell (b + j) (vp_cell E.2.1 (n, .inl (fun k => if k < n then zI h i k else zI h j k)))).heap = H.setIfInBounds (b + j) (vp_cell E.2.1 (n, .inl (fun k => if k < n then zI h i k else zI h j k))) := by rw [← hT]; rfl
  have hee : zEnt E b t (zrI h j (fun k => if k < n then zI h i k else zI h j k)) j = .inl (E.2.1, n, .inl (fun k => if k < n then zI h i k else zI h j k)) := by
    rw [zEnt_I hKj]
    congr 4
    funext k
    rw [zI_rI, if_pos rfl]
  have hp := hH.put hKj (by omega) hqj rfl rfl hee (fun q hq => zEnt_rI hq) (show (H.setIfInBounds (b + j) _)[b + j]? = some _ by simp [Array.getElem?_setIfInBounds, hl2]) hz oq
  obtain ⟨t2, a1, b1⟩ := kk _ _ la hp ⟨by rw [hz]; exact hS.1, fun q g1 g2 => by
      rw [oq q (fun e => g2 (by rw [e]; exact Nat.le_add_right b j))]
      exact hS.2.1 q g1 g2, fun q hq => by
      rcases List.mem_append.mp hq with h | h
      · exact hS.2.2 q h
      · obtain ⟨z, -, hz⟩ := List.mem_map.mp h
        rw [← hz]
        exact Nat.le_add_right b j⟩ hl _ hheap X'
  exact ⟨t2, step t2 a1, b1⟩
/-- a State out of a row of them -/
theorem zc_aaloadS (C : zCx E b G own cc nL rt) {i n j : Nat} {x : Int32} (k : Nat) (hK : zK t i = (14, n)) (hR : zR t i k = some j) (hx : x = nI k ∧ k < 2 ^ 31) (hin : k < n) (hd : decode cc pc = .ok (.aaload, 1)) (kk : zAW E b G nL cells slots (pc + 1) ls (.ref (b + j) :: st) t h) : zAW E b G nL cells slots pc ls (.int x :: .ref (b + i) :: st) t h := by
  have hc : x.toNatClampNeg = k := by rw [hx.1, nI_clamp hx.2]
  refine zz_aaloadS C hK ?_ (by rw [hc]; exact hR) hd kk
  rw [vp_in_iff, hx.1, nI_toInt hx.2]
  omega
end ZX
theorem nI_min {a c : Nat} (ha : a < 2 ^ 31) (hc : c < 2 ^ 31) : (if nI c < nI a then nI c else nI a) = nI (min a c) := by
  by_cases q : c < a
  · rw [if_pos (nI_lt q ha), Nat.min_eq_right (by omega)]
  · rw [if_neg (nI_nlt (by omega) hc), Nat.min_eq_left (by omega)]
theorem nI_max {a c : Nat} (ha : a < 2 ^ 31) (hc : c < 2 ^ 31) : (if nI a < nI c then nI c else nI a) = nI (max a c) := by
  by_cases q : a < c
  · rw [if_pos (nI_lt q hc), Nat.max_eq_right (by omega)]
  · rw [if_neg (nI_nlt (by omega) ha), Nat.max_eq_left (by omega)]
