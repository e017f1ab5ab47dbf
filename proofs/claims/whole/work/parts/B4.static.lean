/-! ===== static arrays that nobody writes ===== -/
/-- a static array of ints, found at sa -/
def zTa (E : zE) (b : Nat) (G : zG) (f : List Nat) (sa : Nat) : Prop := va_T .int sa f.length (fun j => .int (nI (f.getD j 0))) (fun q => b ≤ q) G.2.2.2.2.1 G.2.2.2.2.1.heap
/-- what the start says of one -/
def zSa (n : String) (f : List Nat) : Prop := Cond.laysStatic RX3 n "[I" ∈ lw_tbl ∧ ∀ (args : Array Value) (s : State), (Jvm.Cond.and given_1 narrow_1).before args s = true → (Cond.arrayOf (.static RX3 n "[I") .int).before args s = true ∧ (Cond.eq (.length (.static RX3 n "[I")) (.int (Int32.ofNat f.length))).before args s = true ∧ ∀ j, j < f.length → (Cond.eq (.elem (.static RX3 n "[I") (.int (Int32.ofNat j))) (.int (nI (f.getD j 0)))).before args s = true
theorem zR3_ini : Cond.initialized RX3 ∈ lw_tbl := zCh_in 1 _ (List.mem_of_getElem? (i := 2) rfl)
theorem zKs.ta {E : zE} {b : Nat} {U : State} (h : zKs E b U) {n : String} {f : List Nat} (hN : f.length < 2 ^ 31) (hs : zSa n f) : ∃ sa, va_Z RX3 n "[I" (.ref sa) (fun q => b ≤ q) U U.heap ∧ va_T .int sa f.length (fun j => .int (nI (f.getD j 0))) (fun q => b ≤ q) U U.heap := by
  obtain ⟨⟨hb, -, sb, hts, hgn⟩, hW, hq⟩ := h
  obtain ⟨h1, h2, h3⟩ := hs.2 _ _ hgn
  have hA : ∀ a : Nat, a < (zS0 E).heap.size → ¬ b ≤ a := fun a ha => by omega
  obtain ⟨sa, e1, e2⟩ := va_Tof (A := fun q => b ≤ q) (f := fun j => .int (nI (f.getD j 0))) hN h1 (va_eqt h2) (fun j hj => va_eqt (h3 j hj)) hA
  have e3 := va_Zref (A := fun q => b ≤ q) (hts _ hs.1) (hts _ zR3_ini) e1 hA
  exact ⟨sa, (va_Z.moved hW.alike e3).kept (fun a ha hn => hq a (by omega)), (va_T.moved hW.alike e2).kept (fun a ha hn => hq a (by omega))⟩
section ZST
variable {E : zE} {b : Nat} {G : zG} {cc : ByteArray} {nL : Nat} {rt : Option FieldType} {cells slots pc : Nat} {t : zT} {h : zH} {ls : List (Option Value)} {st : List Value}
theorem zz_gets (C : zCx E b G RX3 cc nL rt) {idx : Nat} {n : String} {f : List Nat} (hN : f.length < 2 ^ 31) (hs : zSa n f) (hw : Cond.fieldLink RX3 idx RX3 n "[I" ∈ zW) (hd : decode cc pc = .ok (.getstatic idx, 3)) (kk : ∀ sa, zTa E b G f sa → zAW E b G nL cells slots (pc + 3) ls (.ref sa :: st) t h) : zAW E b G nL cells slots pc ls st t h := by
  obtain ⟨p, l, e, R, s, m, args, below, meth, cd, Q⟩ := G
  intro H locs la hH hS hl
  obtain ⟨sa, hZ, hT⟩ := C.2.2.2.2.2.2.2.1.ta hN hs
  exact va_gets C.1 C.2.1 hZ hS C.2.2.2.1 (C.2.2.2.2.1 _ hw) (fun x hx => hx) hd (kk sa hT H locs la hH hS hl)
theorem zc_tald {own : String} (C : zCx E b G own cc nL rt) {f : List Nat} {sa : Nat} {x : Int32} (k : Nat) (hT : zTa E b G f sa) (hx : x = nI k ∧ k < 2 ^ 31) (hin : k < f.length) (hd : decode cc pc = .ok (.iaload, 1)) (kk : zAW E b G nL cells slots (pc + 1) ls (.int (nI (f.getD k 0)) :: st) t h) : zAW E b G nL cells slots pc ls (.int x :: .ref sa :: st) t h := by
  obtain ⟨p, l, e, R, s, m, args, below, meth, cd, Q⟩ := G
  intro H locs la hH hS hl
  have hc : x.toNatClampNeg = k := by rw [hx.1, nI_clamp hx.2]
  refine va_ti C.1 C.2.1 hT hS (i := x) ?_ (by rw [hc]) hd (kk H locs la hH hS hl)
  rw [vp_in_iff, hx.1, nI_toInt hx.2]
  omega
end ZST
theorem wX3_70 : Cond.fieldLink RX3 70 RX3 "NUMBERS_OF" "[I" ∈ zW := zW_ix (4, 105) (by decide +kernel)
theorem sX3_70 : zSa "NUMBERS_OF" [1, 5, 5, 4, 2, 2, 1, 1] := by
  refine ⟨zCh_in 4 _ (List.mem_of_getElem? (i := 106) rfl), fun args s hg => ⟨flat_of_before _ hg _ (by decide +kernel), flat_of_before _ hg _ (by decide +kernel), fun j hj => ?_⟩⟩
  have hj : j < 8 := hj
  obtain rfl | rfl | rfl | rfl | rfl | rfl | rfl | rfl : j = 0 ∨ j = 1 ∨ j = 2 ∨ j = 3 ∨ j = 4 ∨ j = 5 ∨ j = 6 ∨ j = 7 := by omega
  all_goals exact flat_of_before _ hg _ (by decide +kernel)
theorem wX3_139 : Cond.fieldLink RX3 139 RX3 "ROAD_LEAST" "[I" ∈ zW := zW_ix (4, 116) (by decide +kernel)
theorem sX3_139 : zSa "ROAD_LEAST" [0, 0, 1, 0, 1] := by
  refine ⟨zCh_in 4 _ (List.mem_of_getElem? (i := 117) rfl), fun args s hg => ⟨flat_of_before _ hg _ (by decide +kernel), flat_of_before _ hg _ (by decide +kernel), fun j hj => ?_⟩⟩
  have hj : j < 5 := hj
  obtain rfl | rfl | rfl | rfl | rfl : j = 0 ∨ j = 1 ∨ j = 2 ∨ j = 3 ∨ j = 4 := by omega
  all_goals exact flat_of_before _ hg _ (by decide +kernel)
theorem wX3_142 : Cond.fieldLink RX3 142 RX3 "GOING_LEAST" "[I" ∈ zW := zW_ix (4, 118) (by decide +kernel)
theorem sX3_142 : zSa "GOING_LEAST" [0, 0, 1, 1] := by
  refine ⟨zCh_in 4 _ (List.mem_of_getElem? (i := 119) rfl), fun args s hg => ⟨flat_of_before _ hg _ (by decide +kernel), flat_of_before _ hg _ (by decide +kernel), fun j hj => ?_⟩⟩
  have hj : j < 4 := hj
  obtain rfl | rfl | rfl | rfl : j = 0 ∨ j = 1 ∨ j = 2 ∨ j = 3 := by omega
  all_goals exact flat_of_before _ hg _ (by decide +kernel)
theorem wX3_147 : Cond.fieldLink RX3 147 RX3 "ROAD_MOST" "[I" ∈ zW := zW_ix (4, 124) (by decide +kernel)
theorem sX3_147 : zSa "ROAD_MOST" [0, 0, 99, 9, 30] := by
  refine ⟨zCh_in 4 _ (List.mem_of_getElem? (i := 125) rfl), fun args s hg => ⟨flat_of_before _ hg _ (by decide +kernel), flat_of_before _ hg _ (by decide +kernel), fun j hj => ?_⟩⟩
  have hj : j < 5 := hj
  obtain rfl | rfl | rfl | rfl | rfl : j = 0 ∨ j = 1 ∨ j = 2 ∨ j = 3 ∨ j = 4 := by omega
  all_goals exact flat_of_before _ hg _ (by decide +kernel)
theorem wX3_150 : Cond.fieldLink RX3 150 RX3 "GOING_MOST" "[I" ∈ zW := zW_ix (4, 126) (by decide +kernel)
theorem sX3_150 : zSa "GOING_MOST" [0, 0, 127, 9] := by
  refine ⟨zCh_in 4 _ (List.mem_of_getElem? (i := 127) rfl), fun args s hg => ⟨flat_of_before _ hg _ (by decide +kernel), flat_of_before _ hg _ (by decide +kernel), fun j hj => ?_⟩⟩
  have hj : j < 4 := hj
  obtain rfl | rfl | rfl | rfl : j = 0 ∨ j = 1 ∨ j = 2 ∨ j = 3 := by omega
  all_goals exact flat_of_before _ hg _ (by decide +kernel)
