/-! ===== the throw itself ===== -/
def vnO (own : String) (ic : Nat) (X : String) : List Cond := (vnAt own ic X).filter vx_no
abbrev zXl_N : List Cond := Cond.classLink RX10 351 "java/util/NoSuchElementException" :: Cond.initialized "java/util/NoSuchElementException" :: vnO RX10 355 "java/util/NoSuchElementException"
theorem zXw_N : ∀ w ∈ zXl_N.filter goodWord, w ∈ zW := zW_is [(4, 201), (1, 23), (1, 13), (3, 208), (3, 217), (3, 222), (3, 225), (3, 227), (3, 209), (3, 210), (1, 32), (1, 33), (3, 211), (3, 216), (3, 223), (4, 3), (3, 198), (4, 4), (3, 200), (4, 5), (3, 202), (3, 212), (3, 214), (3, 204), (3, 239), (4, 0), (4, 2), (3, 204), (4, 212), (4, 213), (4, 214), (3, 233), (3, 233), (3, 234), (3, 235), (3, 236), (3, 236), (3, 237), (3, 238), (3, 239), (4, 211), (4, 202), (4, 204), (3, 221), (4, 205), (4, 206), (4, 207), (4, 208), (3, 207), (3, 206), (4, 209)] (by decide +kernel)
theorem zXb_N : ∀ w ∈ zXl_N.filter (fun w => !goodWord w), w ∈ ([.declares (Bundle.initS "java/lang/RuntimeException"), .declares (Bundle.initS "java/lang/Exception"), .declares (Bundle.initS "java/lang/Throwable"), .castable "java/util/NoSuchElementException" "java/util/NoSuchElementException"] : List Cond) := zXall (by decide +kernel)
theorem zXf_N : ∀ w ∈ ([.declares (Bundle.initS "java/lang/RuntimeException"), .declares (Bundle.initS "java/lang/Exception"), .declares (Bundle.initS "java/lang/Throwable"), .castable "java/util/NoSuchElementException" "java/util/NoSuchElementException"] : List Cond), w ∈ lw_tbl ∧ w.faceAtom = true ∧ w.onTables = true := zXfa [(3, 190), (3, 192), (3, 194), (4, 203)] (by decide +kernel)
theorem zXo_N : ∀ w ∈ zXl_N, vx_ot w = true := fun w h => List.all_eq_true.mp (show zXl_N.all vx_ot = true by decide +kernel) w h
theorem zXs_N : Cond.stringRef RX10 353 "no such going" ∈ lw_tbl := zCh_in 4 _ (List.mem_of_getElem? (i := 210) rfl)
section ZN
variable {E : zE} {b : Nat} {G : zG} {own : String} {cc : ByteArray} {nL : Nat} {rt : Option FieldType} {cells slots pc D MC MS mc ms : Nat} {t : zT} {h : zH} {ls : List (Option Value)} {rest : List Value} {XN : String}
def zXkN (own : String) (ik is ic : Nat) (XN text : String) : Prop := Bundle.fit XN = true ∧ (∃ B : List Cond, (∀ w ∈ (Cond.classLink own ik XN :: Cond.initialized XN :: vnO own ic XN).filter goodWord, w ∈ zW) ∧ (∀ w ∈ (Cond.classLink own ik XN :: Cond.initialized XN :: vnO own ic XN).filter (fun w => !goodWord w), w ∈ B) ∧ ∀ w ∈ B, w ∈ lw_tbl ∧ w.faceAtom = true ∧ w.onTables = true) ∧ (∀ w ∈ Cond.classLink own ik XN :: Cond.initialized XN :: vnO own ic XN, vx_ot w = true) ∧ Cond.stringRef own is text ∈ lw_tbl
theorem zXk_N : zXkN RX10 351 353 355 "java/util/NoSuchElementException" "no such going" := ⟨by decide +kernel, ⟨_, zXw_N, zXb_N, zXf_N⟩, zXo_N, zXs_N⟩
theorem zx_throwN (C : zCx E b G own cc nL rt) (hR : zRoom G D MC MS) (hE : zEndX E b G mc ms XN t h) (hf : t.1.2 = false) {ik is ic : Nat} {text : String} (hx : zXkN own ik is ic XN text) (hD : 6 ≤ D) (hcat : (rest.map fun v => v.category).sum ≤ 8) (hc1 : cells + 1 ≤ MC) (hc2 : slots + 6 ≤ MS) (hm1 : cells + 1 ≤ mc) (hm2 : slots + 6 ≤ ms) (d0 : decode cc pc = .ok (.new ik, 3)) (d3 : decode cc (pc + 3) = .ok (.dup, 1)) (d4 : decode cc (pc + 4) = .ok (.ldc_w is, 3)) (d7 : decode cc (pc + 7) = .ok (.invokespecial ic, 3)) (d10 : decode cc (pc + 10) = .ok (.athrow, 1)) : zAW E b G nL cells slots pc ls rest t h := by
  obtain ⟨p, l, e, R, s, m, args, below, meth, c, Q⟩ := G
  intro H locs la hH hS hl
  have hR1 : D ≤ R.frames := hR.1
  have hR2 : 64 * D ≤ R.locals := hR.2.1
  have hR3 : MC ≤ R.cells := hR.2.2.1
  have hR4 : MS ≤ R.slots := hR.2.2.2
  have hts := C.2.2.2.2.1
  have hKs := C.2.2.2.2.2.2.2.1
  have hexec := C.1
  have hb := C.2.1
  have hown := C.2.2.2.1
  have hsize : la.size = c.maxLocals := by rw [C.2.2.1]; exact hl.1
  obtain ⟨rfl, htab, hlt⟩ := hE
  obtain ⟨hcls, ⟨B, hw1, hw2, hw3⟩, hot, hs⟩ := hx
  obtain ⟨sa, hstr⟩ := hKs.str C.2.2.2.1 hs
  have hw := vx_hat (args := args) (s := s) (fun w hq => hts _ (hw1 w hq)) hw2 (fun w hq => hKs.face (hw3 w hq))
  intro T hT X
  have htr : e.platform.stackTraces = false := (show e.platform.stackTraces = l.stackTraces by rw [X.admits.platform]).trans hlt
  have Y := vx_rebase X (R' := { frames := R.frames, locals := R.locals, cells := 1, slots := 6 }) (Nat.le_refl _) (Nat.le_refl _) (Nat.le_trans hc1 hR3) (Nat.le_trans hc2 hR4)
  obtain ⟨s', hA⟩ : ∃ z, z = (T.setVm s.vm).setFrames (.invoking m args :: below) := ⟨_, rfl⟩
  rw [← hA] at Y
  have hvm : s'.vm = s.vm := by rw [hA]; rfl
  have hhp : s'.heap = H := by rw [hA]; exact hT
  have hW0 : s.WarmedH s'.vm := by rw [hvm]; exact State.WarmedH.refl s
  have hq : ∀ w ∈ Cond.classLink own ik XN :: Cond.initialized XN :: vnO own ic XN, w.before args s' = true := fun w hz => vx_ot_at hW0 hvm.symm (hot w hz) (hw w hz)
  have hU' : vx_Zq Bundle.tN "UNASSIGNED_STACK" Bundle.steD (fun q => b ≤ q) s' s'.heap := by rw [hhp]; exact vx_Zq.moved hW0.alike (hKs.zU.kept hS.2.1)
  have hN' : vx_Zq Bundle.tN "SUPPRESSED_SENTINEL" Bundle.listD (fun q => b ≤ q) s' s'.heap := by rw [hhp]; exact vx_Zq.moved hW0.alike (hKs.zN.kept hS.2.1)
  have hall1 : ∀ w ∈ vnAt own ic XN, w.before args s' = true := vx_own (fun w hz => hq w (List.mem_cons_of_mem _ (List.mem_cons_of_mem _ hz))) (vx_isRefq hU'.1) (vx_isRefq hN'.1) hU'.2.word hN'.2.word
  have hown' : s'.vm.findClass own = some m.cls := by rw [hvm]; exact hown
  have hins : (Cond.instantiable XN 6).before args s' = true := hall1 _ (by simp [vnAt])
  obtain ⟨vm₁, cX, kX, hfX, hkX, -, -, X₁, st1⟩ := Y.newCold hexec (own := own) (C := XN) (index := ik) (n := 6) hown' (hq _ List.mem_cons_self) hins (hq _ (List.mem_cons_of_mem _ List.mem_cons_self))
    (g := F0 m pc la rest) rfl (by rw [hb]; exact d0) (Nat.le_refl _) (Nat.le_refl _)
  generalize hT1 : (T.setVm vm₁).pushCell { cls := cX, slots := kX.instanceTypes.map defaultValue, vm := .none } = T1 at X₁ st1
  have hc9 : (Value.ref T.heap.size).category = 1 := rfl
  have hcellA : T1.heap[T.heap.size]? = some (freshCell cX kX) := by rw [← hT1]; exact State.heap_pushCell_size _ _
  have d3' : decode c.code (pc + 3) = .ok (.dup, 1) := by rw [hb]; exact d3
  have d4' : decode c.code (pc + 4) = .ok (.ldc_w is, 3) := by rw [hb]; exact d4
  have hstr' : vk_R own is text sa s' := vk_R.warm hW0 hstr
  obtain ⟨U, hsteps, hrun, hend, hW, hsame, ce, hce, hcv, hcl0⟩ := vn_ctor X₁ hexec htr (own := own) (cls := XN) (ic := ic) hown' hcls hall1 (fun x hx => nomatch hx) hfX hkX hcellA (by rw [hhp, hT]; exact Nat.le_refl _) (msg := .ref sa) rfl
    (g := { method := m, pc := pc + 7, locals := la, stack := .ref sa :: .ref T.heap.size :: .ref T.heap.size :: rest, locked := none }) rfl hsize rfl rfl (rest := rest) rfl
    (by rw [hb]; exact d7) (by rw [hb]; exact d10) (fun x hx => (htab x hx).elim) (by show 5 < R.frames; omega) (by
      simp only [List.map_cons, List.sum_cons, hc9]
      show 2 * 0 + _ + _ ≤ R.locals
      omega) C.2.2.2.2.2.2.1
  obtain ⟨f1, f2⟩ := vx_frame hsame
  rw [hhp] at f1 f2
  have hWs : s.WarmedH U.vm := State.WarmedH.trans hW0 hW
  have hcl : s.vm.findClass XN = some ce.cls := by rw [hvm] at hcl0; exact hcl0
  have hall : s.sameButNew ({ U with vm := s.vm } : State) locs mc ms := by
    subst hA
    obtain ⟨e1, e2⟩ := hsame
    rw [State.setFrames_setFrames] at e1
    have h2 : (T.setVm s.vm).sameButNew ({ U with vm := s.vm } : State) [] (0 + 1) (0 + 6) := ⟨e1, e2⟩
    have h3 := X.same.trans h2
    rw [List.append_nil] at h3
    exact h3.mono hm1 hm2
  have hkp : ∀ q : Nat, q < H.size → U.heap[q]? = H[q]? := fun q hq => f2 q hq (fun z hz => nomatch hz)
  refine ⟨U, ?_, .threw T.heap.size, hrun, hend, Or.inr ⟨T.heap.size, rfl, XN, ce, locs, ⟨rfl, hH.ext hf f1 hkp, Nat.le_trans hS.1 f1, fun q g1 g2 => by rw [hkp q (Nat.lt_of_lt_of_le g1 hS.1)]; exact hS.2.1 q g1 g2⟩, hce, hcv, hcl, hWs, hall, hS.2.2⟩⟩
  refine st1 _ ?_
  show Steps p.tables e below (T1.setTop { method := m, pc := pc + 3, locals := la, stack := .ref T.heap.size :: rest, locked := none }) _
  jvm_step X₁.here [X₁.here.top, hexec, d3', Value.category]
  exact X₁.ldcStringW hexec (own := own) (text := text) (index := is) (a := sa) hown' hstr'.1 hstr'.2
    (g := { method := m, pc := pc + 4, locals := la, stack := .ref T.heap.size :: .ref T.heap.size :: rest, locked := none }) rfl d4' _ hsteps
end ZN
