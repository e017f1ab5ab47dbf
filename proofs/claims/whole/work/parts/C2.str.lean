/-! ===== String constants ===== -/
theorem mapD (w : List Nat) (j : Nat) : (w.map nI).getD j 0 = nI (w.getD j 0) := by
  rw [List.getD_eq_getElem?_getD, List.getD_eq_getElem?_getD, List.getElem?_map]
  cases w[j]? <;> rfl
/-- a String constant's bytes, at va -/
def zSv (E : zE) (b : Nat) (w : List Nat) (va : Nat) : Prop := va_T .byte va w.length (fun j => .int (nI (w.getD j 0))) (fun q => b ≤ q) (zS0 E) (zS0 E).heap
/-- a String constant, at sa -/
def zSg (E : zE) (b : Nat) (w : List Nat) (sa : Nat) : Prop := va_O "java/lang/String" sa (fun q => b ≤ q) (zS0 E) (zS0 E).heap ∧ va_OF "java/lang/String" "coder" "B" (.int 0) sa (fun q => b ≤ q) (zS0 E) (zS0 E).heap ∧ ∃ va, va_OF "java/lang/String" "value" "[B" (.ref va) sa (fun q => b ≤ q) (zS0 E) (zS0 E).heap ∧ zSv E b w va
/-- what the start says of one -/
def zLd (idx : Nat) (tx : String) (w : List Nat) : Prop := Cond.stringRef RX3 idx tx ∈ lw_tbl ∧ w.length < 2 ^ 31 ∧ ∀ (args : Array Value) (s : State), (Jvm.Cond.and given_1 narrow_1).before args s = true → (Cond.exactly (.string RX3 idx) "java/lang/String").before args s = true ∧ (Cond.eq (.field (.string RX3 idx) "java/lang/String" "coder" "B") (.int 0)).before args s = true ∧ (Cond.arrayOf (.field (.string RX3 idx) "java/lang/String" "value" "[B") .byte).before args s = true ∧ (Cond.eq (.length (.field (.string RX3 idx) "java/lang/String" "value" "[B")) (.int (Int32.ofNat w.length))).before args s = true ∧ ∀ j, j < w.length → (Cond.eq (.elem (.field (.string RX3 idx) "java/lang/String" "value" "[B") (.int (Int32.ofNat j))) (.int (nI (w.getD j 0)))).before args s = true
theorem zKs.ldc {E : zE} {b : Nat} {U : State} (h : zKs E b U) {idx : Nat} {tx : String} {w : List Nat} (hs : zLd idx tx w) : ∃ sa, vk_R RX3 idx tx sa U ∧ zSg E b w sa := by
  obtain ⟨⟨hb, -, sb, hts, hgn⟩, hW, hq⟩ := h
  obtain ⟨h1, h2, h3, h4, h5⟩ := hs.2.2 _ _ hgn
  have hA : ∀ a : Nat, a < (zS0 E).heap.size → ¬ b ≤ a := fun a ha => by omega
  obtain ⟨adK, adV, hS, hev⟩ := vk_Sof (N := 1) (tm := fun _ => .string RX3 idx) (len := [w.length]) (byt := [w.map nI]) (A := fun q => b ≤ q) (args := #[Value.ref sb]) (s := zS0 E)
    (fun i hi => by rw [show i = 0 by omega]; exact hs.2.1) (fun _ _ => h1) (fun _ _ => h2) (fun _ _ => h3) (fun i hi => by rw [show i = 0 by omega]; exact h4)
    (fun i hi j hj => by
      rw [show i = 0 by omega] at hj ⊢
      show (Cond.eq _ (.int ((w.map nI).getD j 0))).before _ _ = true
      rw [mapD]
      exact h5 j hj)
    (fun i j hi hj hne => absurd (show i = j by omega) hne) hA
  obtain ⟨k1, k2, k3, k4⟩ := hS.1 0 (by omega)
  refine ⟨adK 0, vk_R.warm hW (vk_R.of (hts _ hs.1) (hev 0 (by omega))), k1, k2, adV 0, k3, ?_⟩
  have e : (fun j => Value.int (([w.map nI].getD 0 []).getD j 0)) = fun j => Value.int (nI (w.getD j 0)) := funext fun j => by
    show Value.int ((w.map nI).getD j 0) = _
    rw [mapD]
  have k5 : va_T .byte (adV 0) w.length (fun j => Value.int (([w.map nI].getD 0 []).getD j 0)) (fun q => b ≤ q) (zS0 E) (zS0 E).heap := k4
  rw [e] at k5
  exact k5
section ZSG
variable {E : zE} {b : Nat} {G : zG} {own : String} {cc : ByteArray} {nL : Nat} {rt : Option FieldType} {cells slots pc : Nat} {t : zT} {h : zH} {ls : List (Option Value)} {st : List Value} {w : List Nat} {sa va : Nat}
theorem zz_ldcS (C : zCx E b G RX3 cc nL rt) {idx : Nat} {tx : String} (hs : zLd idx tx w) (hd : decode cc pc = .ok (.ldc idx, 2)) (kk : ∀ sa, zSg E b w sa → zAW E b G nL cells slots (pc + 2) ls (.ref sa :: st) t h) : zAW E b G nL cells slots pc ls st t h := by
  obtain ⟨p, l, e, R, s, m, args, below, meth, cd, Q⟩ := G
  intro H locs la hH hS hl
  obtain ⟨sa, hR, hg⟩ := C.2.2.2.2.2.2.2.1.ldc hs
  exact va_ldcS C.1 C.2.1 C.2.2.2.1 hR hd (kk sa hg H locs la hH hS hl)
theorem zz_sval (C : zCx E b G RJ0 cc nL rt) (hw : Cond.fieldLink RJ0 9 RJ0 "value" "[B" ∈ zW) (hg : zSg E b w sa) (hd : decode cc pc = .ok (.getfield 9, 3)) (kk : ∀ va, zSv E b w va → zAW E b G nL cells slots (pc + 3) ls (.ref va :: st) t h) : zAW E b G nL cells slots pc ls (.ref sa :: st) t h := by
  obtain ⟨p, l, e, R, s, m, args, below, meth, cd, Q⟩ := G
  intro H locs la hH hS hl
  obtain ⟨-, -, va, k1, k2⟩ := hg
  have hk := C.2.2.2.2.2.2.2.1
  have hb := hk.1.1
  exact vk_getf C.1 C.2.1 ((va_OF.moved hk.2.1.alike k1).kept (fun a ha hn => hk.2.2 a (by omega))) hS C.2.2.2.1 (C.2.2.2.2.1 _ hw) (fun x hx => hx) hd (kk va k2 H locs la hH hS hl)
theorem zz_scod (C : zCx E b G RJ0 cc nL rt) (hw : Cond.fieldLink RJ0 15 RJ0 "coder" "B" ∈ zW) (hg : zSg E b w sa) (hd : decode cc pc = .ok (.getfield 15, 3)) (kk : zAW E b G nL cells slots (pc + 3) ls (.int 0 :: st) t h) : zAW E b G nL cells slots pc ls (.ref sa :: st) t h := by
  obtain ⟨p, l, e, R, s, m, args, below, meth, cd, Q⟩ := G
  intro H locs la hH hS hl
  obtain ⟨-, k1, -⟩ := hg
  have hk := C.2.2.2.2.2.2.2.1
  have hb := hk.1.1
  exact vk_getf C.1 C.2.1 ((va_OF.moved hk.2.1.alike k1).kept (fun a ha hn => hk.2.2 a (by omega))) hS C.2.2.2.1 (C.2.2.2.2.1 _ hw) (fun x hx => hx) hd (kk H locs la hH hS hl)
theorem zSv.at {s : State} (hv : zSv E b w va) (hk : zKs E b s) : va_T .byte va w.length (fun j => .int (nI (w.getD j 0))) (fun q => b ≤ q) s s.heap := by
  have hb := hk.1.1
  exact (va_T.moved hk.2.1.alike hv).kept (fun a ha hn => hk.2.2 a (by omega))
theorem zz_slen (C : zCx E b G own cc nL rt) (hv : zSv E b w va) (hd : decode cc pc = .ok (.arraylength, 1)) (kk : zAW E b G nL cells slots (pc + 1) ls (.int (nI w.length) :: st) t h) : zAW E b G nL cells slots pc ls (.ref va :: st) t h := by
  obtain ⟨p, l, e, R, s, m, args, below, meth, cd, Q⟩ := G
  intro H locs la hH hS hl
  exact va_tlen C.1 C.2.1 (hv.at C.2.2.2.2.2.2.2.1) hS rfl hd (kk H locs la hH hS hl)
theorem zz_sbld (C : zCx E b G own cc nL rt) (hv : zSv E b w va) (k : Nat) (hk : k < w.length) (hk2 : k < 2 ^ 31) (hd : decode cc pc = .ok (.baload, 1)) (kk : zAW E b G nL cells slots (pc + 1) ls (.int (nI (w.getD k 0)) :: st) t h) : zAW E b G nL cells slots pc ls (.int (nI k) :: .ref va :: st) t h := by
  obtain ⟨p, l, e, R, s, m, args, below, meth, cd, Q⟩ := G
  intro H locs la hH hS hl
  refine va_tb C.1 C.2.1 (hv.at C.2.2.2.2.2.2.2.1) hS (i := nI k) ?_ (by rw [nI_clamp hk2]) hd (kk H locs la hH hS hl)
  rw [vp_in_iff, nI_toInt hk2]
  omega
end ZSG
theorem gX3_83 : zLd 83 "places" [112, 108, 97, 99, 101, 115] := by
  refine ⟨zCh_in 4 _ (List.mem_of_getElem? (i := 33) rfl), by decide, fun args s hg => ⟨flat_of_before _ hg _ (by decide +kernel), flat_of_before _ hg _ (by decide +kernel), flat_of_before _ hg _ (by decide +kernel), flat_of_before _ hg _ (by decide +kernel), fun j hj => ?_⟩⟩
  have hj : j < 6 := hj
  obtain rfl | rfl | rfl | rfl | rfl | rfl : j = 0 ∨ j = 1 ∨ j = 2 ∨ j = 3 ∨ j = 4 ∨ j = 5 := by omega
  all_goals exact flat_of_before _ hg _ (by decide +kernel)
theorem gX3_89 : zLd 89 "road" [114, 111, 97, 100] := by
  refine ⟨zCh_in 4 _ (List.mem_of_getElem? (i := 86) rfl), by decide, fun args s hg => ⟨flat_of_before _ hg _ (by decide +kernel), flat_of_before _ hg _ (by decide +kernel), flat_of_before _ hg _ (by decide +kernel), flat_of_before _ hg _ (by decide +kernel), fun j hj => ?_⟩⟩
  have hj : j < 4 := hj
  obtain rfl | rfl | rfl | rfl : j = 0 ∨ j = 1 ∨ j = 2 ∨ j = 3 := by omega
  all_goals exact flat_of_before _ hg _ (by decide +kernel)
theorem gX3_91 : zLd 91 "new" [110, 101, 119] := by
  refine ⟨zCh_in 4 _ (List.mem_of_getElem? (i := 87) rfl), by decide, fun args s hg => ⟨flat_of_before _ hg _ (by decide +kernel), flat_of_before _ hg _ (by decide +kernel), flat_of_before _ hg _ (by decide +kernel), flat_of_before _ hg _ (by decide +kernel), fun j hj => ?_⟩⟩
  have hj : j < 3 := hj
  obtain rfl | rfl | rfl : j = 0 ∨ j = 1 ∨ j = 2 := by omega
  all_goals exact flat_of_before _ hg _ (by decide +kernel)
theorem gX3_93 : zLd 93 "going" [103, 111, 105, 110, 103] := by
  refine ⟨zCh_in 4 _ (List.mem_of_getElem? (i := 88) rfl), by decide, fun args s hg => ⟨flat_of_before _ hg _ (by decide +kernel), flat_of_before _ hg _ (by decide +kernel), flat_of_before _ hg _ (by decide +kernel), flat_of_before _ hg _ (by decide +kernel), fun j hj => ?_⟩⟩
  have hj : j < 5 := hj
  obtain rfl | rfl | rfl | rfl | rfl : j = 0 ∨ j = 1 ∨ j = 2 ∨ j = 3 ∨ j = 4 := by omega
  all_goals exact flat_of_before _ hg _ (by decide +kernel)
theorem gX3_95 : zLd 95 "chance" [99, 104, 97, 110, 99, 101] := by
  refine ⟨zCh_in 4 _ (List.mem_of_getElem? (i := 89) rfl), by decide, fun args s hg => ⟨flat_of_before _ hg _ (by decide +kernel), flat_of_before _ hg _ (by decide +kernel), flat_of_before _ hg _ (by decide +kernel), flat_of_before _ hg _ (by decide +kernel), fun j hj => ?_⟩⟩
  have hj : j < 6 := hj
  obtain rfl | rfl | rfl | rfl | rfl | rfl : j = 0 ∨ j = 1 ∨ j = 2 ∨ j = 3 ∨ j = 4 ∨ j = 5 := by omega
  all_goals exact flat_of_before _ hg _ (by decide +kernel)
theorem gX3_97 : zLd 97 "wait" [119, 97, 105, 116] := by
  refine ⟨zCh_in 4 _ (List.mem_of_getElem? (i := 90) rfl), by decide, fun args s hg => ⟨flat_of_before _ hg _ (by decide +kernel), flat_of_before _ hg _ (by decide +kernel), flat_of_before _ hg _ (by decide +kernel), flat_of_before _ hg _ (by decide +kernel), fun j hj => ?_⟩⟩
  have hj : j < 4 := hj
  obtain rfl | rfl | rfl | rfl : j = 0 ∨ j = 1 ∨ j = 2 ∨ j = 3 := by omega
  all_goals exact flat_of_before _ hg _ (by decide +kernel)
theorem gX3_99 : zLd 99 "wet" [119, 101, 116] := by
  refine ⟨zCh_in 4 _ (List.mem_of_getElem? (i := 91) rfl), by decide, fun args s hg => ⟨flat_of_before _ hg _ (by decide +kernel), flat_of_before _ hg _ (by decide +kernel), flat_of_before _ hg _ (by decide +kernel), flat_of_before _ hg _ (by decide +kernel), fun j hj => ?_⟩⟩
  have hj : j < 3 := hj
  obtain rfl | rfl | rfl : j = 0 ∨ j = 1 ∨ j = 2 := by omega
  all_goals exact flat_of_before _ hg _ (by decide +kernel)
theorem gX3_101 : zLd 101 "law" [108, 97, 119] := by
  refine ⟨zCh_in 4 _ (List.mem_of_getElem? (i := 92) rfl), by decide, fun args s hg => ⟨flat_of_before _ hg _ (by decide +kernel), flat_of_before _ hg _ (by decide +kernel), flat_of_before _ hg _ (by decide +kernel), flat_of_before _ hg _ (by decide +kernel), fun j hj => ?_⟩⟩
  have hj : j < 3 := hj
  obtain rfl | rfl | rfl : j = 0 ∨ j = 1 ∨ j = 2 := by omega
  all_goals exact flat_of_before _ hg _ (by decide +kernel)
theorem wJ0_9 : Cond.fieldLink RJ0 9 RJ0 "value" "[B" ∈ zW := zW_ix (8, 149) (by decide +kernel)
theorem wJ0_15 : Cond.fieldLink RJ0 15 RJ0 "coder" "B" ∈ zW := zW_ix (8, 150) (by decide +kernel)
