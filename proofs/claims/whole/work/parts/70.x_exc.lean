/-! ===== methods that throw: contracts on the abstract machine ===== -/
abbrev zNm : List String := ["java/lang/RuntimeException", "java/lang/Exception"]
theorem zXall {l B : List Cond} (h : l.all (fun w => decide (w ∈ B)) = true) : ∀ w ∈ l, w ∈ B := fun w hw => of_decide_eq_true (List.all_eq_true.mp h w hw)
def zFs2 : List Cond → List (Nat × Nat) → Bool
  | [], [] => true
  | w :: l, i :: is => (decide ((zCh i.1)[i.2]? = some w) && (w.faceAtom && w.onTables)) && zFs2 l is
  | _, _ => false
theorem zXfa : ∀ {l : List Cond} (is : List (Nat × Nat)), zFs2 l is = true → ∀ w ∈ l, w ∈ lw_tbl ∧ w.faceAtom = true ∧ w.onTables = true
  | [], _, _, w, hw => absurd hw List.not_mem_nil
  | v :: l, [], h, w, hw => by simp [zFs2] at h
  | v :: l, i :: is, h, w, hw => by
    unfold zFs2 at h
    rw [Bool.and_eq_true, Bool.and_eq_true, Bool.and_eq_true] at h
    rcases List.mem_cons.mp hw with rfl | hw
    · exact ⟨zCh_in i.1 _ (List.mem_of_getElem? (of_decide_eq_true h.1.1)), h.1.2⟩
    · exact zXfa is h.2 w hw
abbrev zXl_A : List Cond := Cond.classLink RX10 339 "java/lang/IllegalArgumentException" :: Cond.initialized "java/lang/IllegalArgumentException" :: vx_atS RX10 343 "java/lang/IllegalArgumentException" zNm
theorem zXw_A : ∀ w ∈ zXl_A.filter goodWord, w ∈ zW := zW_is [(3, 186), (1, 16), (1, 13), (3, 208), (3, 217), (3, 222), (3, 225), (3, 227), (3, 209), (3, 210), (1, 32), (1, 33), (3, 211), (3, 216), (3, 223), (4, 3), (3, 198), (4, 4), (3, 200), (4, 5), (3, 202), (3, 212), (3, 214), (3, 204), (3, 239), (4, 0), (4, 2), (3, 204), (3, 230), (3, 231), (3, 232), (3, 233), (3, 233), (3, 234), (3, 235), (3, 236), (3, 236), (3, 237), (3, 238), (3, 239), (3, 229), (3, 187), (3, 195), (3, 196), (3, 197), (3, 199), (3, 201), (3, 203), (3, 207), (3, 206), (3, 205)] (by decide +kernel)
theorem zXb_A : ∀ w ∈ zXl_A.filter (fun w => !goodWord w), w ∈ ([.declares (Bundle.initS "java/lang/RuntimeException"), .declares (Bundle.initS "java/lang/Exception"), .declares (Bundle.initS "java/lang/Throwable"), .castable "java/lang/IllegalArgumentException" "java/lang/IllegalArgumentException"] : List Cond) := zXall (by decide +kernel)
theorem zXf_A : ∀ w ∈ ([.declares (Bundle.initS "java/lang/RuntimeException"), .declares (Bundle.initS "java/lang/Exception"), .declares (Bundle.initS "java/lang/Throwable"), .castable "java/lang/IllegalArgumentException" "java/lang/IllegalArgumentException"] : List Cond), w ∈ lw_tbl ∧ w.faceAtom = true ∧ w.onTables = true := zXfa [(3, 190), (3, 192), (3, 194), (3, 188)] (by decide +kernel)
theorem zXo_A : ∀ w ∈ zXl_A, vx_ot w = true := fun w h => List.all_eq_true.mp (show zXl_A.all vx_ot = true by decide +kernel) w h
theorem zXs_A : Cond.stringRef RX10 341 "no such number here" ∈ lw_tbl := zCh_in 3 _ (List.mem_of_getElem? (i := 228) rfl)
abbrev zXl_R : List Cond := Cond.classLink RX10 346 "java/lang/IndexOutOfBoundsException" :: Cond.initialized "java/lang/IndexOutOfBoundsException" :: vx_atS RX10 350 "java/lang/IndexOutOfBoundsException" zNm
theorem zXw_R : ∀ w ∈ zXl_R.filter goodWord, w ∈ zW := zW_is [(4, 172), (1, 22), (1, 13), (3, 208), (3, 217), (3, 222), (3, 225), (3, 227), (3, 209), (3, 210), (1, 32), (1, 33), (3, 211), (3, 216), (3, 223), (4, 3), (3, 198), (4, 4), (3, 200), (4, 5), (3, 202), (3, 212), (3, 214), (3, 204), (3, 239), (4, 0), (4, 2), (3, 204), (4, 183), (4, 184), (4, 185), (3, 233), (3, 233), (3, 234), (3, 235), (3, 236), (3, 236), (3, 237), (3, 238), (3, 239), (4, 182), (4, 173), (4, 175), (3, 220), (4, 176), (4, 177), (4, 178), (4, 179), (3, 207), (3, 206), (4, 180)] (by decide +kernel)
theorem zXb_R : ∀ w ∈ zXl_R.filter (fun w => !goodWord w), w ∈ ([.declares (Bundle.initS "java/lang/RuntimeException"), .declares (Bundle.initS "java/lang/Exception"), .declares (Bundle.initS "java/lang/Throwable"), .castable "java/lang/IndexOutOfBoundsException" "java/lang/IndexOutOfBoundsException"] : List Cond) := zXall (by decide +kernel)
theorem zXf_R : ∀ w ∈ ([.declares (Bundle.initS "java/lang/RuntimeException"), .declares (Bundle.initS "java/lang/Exception"), .declares (Bundle.initS "java/lang/Throwable"), .castable "java/lang/IndexOutOfBoundsException" "java/lang/IndexOutOfBoundsException"] : List Cond), w ∈ lw_tbl ∧ w.faceAtom = true ∧ w.onTables = true := zXfa [(3, 190), (3, 192), (3, 194), (4, 174)] (by decide +kernel)
theorem zXo_R : ∀ w ∈ zXl_R, vx_ot w = true := fun w h => List.all_eq_true.mp (show zXl_R.all vx_ot = true by decide +kernel) w h
theorem zXs_R : Cond.stringRef RX10 348 "no such road" ∈ lw_tbl := zCh_in 4 _ (List.mem_of_getElem? (i := 181) rfl)
abbrev zXl_S : List Cond := Cond.classLink RX10 356 "java/lang/IllegalStateException" :: Cond.initialized "java/lang/IllegalStateException" :: vx_atS RX10 360 "java/lang/IllegalStateException" zNm
theorem zXw_S : ∀ w ∈ zXl_S.filter goodWord, w ∈ zW := zW_is [(5, 39), (1, 25), (1, 13), (3, 208), (3, 217), (3, 222), (3, 225), (3, 227), (3, 209), (3, 210), (1, 32), (1, 33), (3, 211), (3, 216), (3, 223), (4, 3), (3, 198), (4, 4), (3, 200), (4, 5), (3, 202), (3, 212), (3, 214), (3, 204), (3, 239), (4, 0), (4, 2), (3, 204), (5, 50), (5, 51), (5, 52), (3, 233), (3, 233), (3, 234), (3, 235), (3, 236), (3, 236), (3, 237), (3, 238), (3, 239), (5, 49), (5, 40), (5, 42), (3, 219), (5, 43), (5, 44), (5, 45), (5, 46), (3, 207), (3, 206), (5, 47)] (by decide +kernel)
theorem zXb_S : ∀ w ∈ zXl_S.filter (fun w => !goodWord w), w ∈ ([.declares (Bundle.initS "java/lang/RuntimeException"), .declares (Bundle.initS "java/lang/Exception"), .declares (Bundle.initS "java/lang/Throwable"), .castable "java/lang/IllegalStateException" "java/lang/IllegalStateException"] : List Cond) := zXall (by decide +kernel)
theorem zXf_S : ∀ w ∈ ([.declares (Bundle.initS "java/lang/RuntimeException"), .declares (Bundle.initS "java/lang/Exception"), .declares (Bundle.initS "java/lang/Throwable"), .castable "java/lang/IllegalStateException" "java/lang/IllegalStateException"] : List Cond), w ∈ lw_tbl ∧ w.faceAtom = true ∧ w.onTables = true := zXfa [(3, 190), (3, 192), (3, 194), (5, 41)] (by decide +kernel)
theorem zXo_S : ∀ w ∈ zXl_S, vx_ot w = true := fun w h => List.all_eq_true.mp (show zXl_S.all vx_ot = true by decide +kernel) w h
theorem zXs_S : Cond.stringRef RX10 358 "a ring without a row" ∈ lw_tbl := zCh_in 5 _ (List.mem_of_getElem? (i := 48) rfl)
theorem zKs.face {E : zE} {b : Nat} {U : State} (h : zKs E b U) {w : Cond} {a : Array Value} (hw : w ∈ lw_tbl ∧ w.faceAtom = true ∧ w.onTables = true) : w.before a U = true := by
  obtain ⟨⟨-, -, sb, hts, -⟩, hW, -⟩ := h
  exact va_tabs hw.2.2 (show ((zS0 E).setVm U.vm).vm = U.vm from rfl) (Cond.faceAtom_setVm hW.alike w hw.2.1 (hts _ hw.1))
theorem zKs.str {E : zE} {b : Nat} {U : State} (h : zKs E b U) {own text : String} {k : Nat} {c : ClassId} (hown : U.vm.findClass own = some c) (hw : Cond.stringRef own k text ∈ lw_tbl) : ∃ sa, vk_R own k text sa U := by
  obtain ⟨⟨-, -, sb, hts, -⟩, hW, -⟩ := h
  have h0 := hts _ hw
  obtain ⟨-, -, -, sa, -, -, -, -, -, hev⟩ := Cond.stringRef_spec (show (zS0 E).vm.findClass own = some c by rw [← hW.alike.findClass]; exact hown) h0
  exact ⟨sa, vk_R.warm hW (vk_R.of h0 hev)⟩
/-- the words of a throw -/
def zXk (own : String) (ik is ic : Nat) (XN text : String) : Prop := Bundle.fit XN = true ∧ (∃ B : List Cond, (∀ w ∈ (Cond.classLink own ik XN :: Cond.initialized XN :: vx_atS own ic XN zNm).filter goodWord, w ∈ zW) ∧ (∀ w ∈ (Cond.classLink own ik XN :: Cond.initialized XN :: vx_atS own ic XN zNm).filter (fun w => !goodWord w), w ∈ B) ∧ ∀ w ∈ B, w ∈ lw_tbl ∧ w.faceAtom = true ∧ w.onTables = true) ∧ (∀ w ∈ Cond.classLink own ik XN :: Cond.initialized XN :: vx_atS own ic XN zNm, vx_ot w = true) ∧ Cond.stringRef own is text ∈ lw_tbl
theorem zXk_A : zXk RX10 339 341 343 "java/lang/IllegalArgumentException" "no such number here" := ⟨by decide +kernel, ⟨_, zXw_A, zXb_A, zXf_A⟩, zXo_A, zXs_A⟩
theorem zXk_R : zXk RX10 346 348 350 "java/lang/IndexOutOfBoundsException" "no such road" := ⟨by decide +kernel, ⟨_, zXw_R, zXb_R, zXf_R⟩, zXo_R, zXs_R⟩
theorem zXk_S : zXk RX10 356 358 360 "java/lang/IllegalStateException" "a ring without a row" := ⟨by decide +kernel, ⟨_, zXw_S, zXb_S, zXf_S⟩, zXo_S, zXs_S⟩
/-- the world is the same, but for cells that nobody names -/
theorem zHp.ext {E : zE} {b : Nat} {t : zT} {h : zH} {H H1 : Heap} (hH : zHp E b t h H) (hf : t.1.2 = false) (h1 : H.size ≤ H1.size) (h2 : ∀ q : Nat, q < H.size → H1[q]? = H[q]?) : zHp E b t h H1 := by
  refine ⟨⟨Nat.le_trans hH.1.1 h1, fun z => by rw [hf] at z; cases z⟩, hH.2.1, hH.2.2.kept (fun k q hk => h2 _ (hH.2.2 k q hk).lt)⟩
/-- what an exception leaves: its class, the world as it was -/
def zXc (E : zE) (b : Nat) (XN : String) (t : zT) (h : zH) : String → State → State → Prop := fun X st u => X = XN ∧ zHp E b t h u.heap ∧ va_F (fun q => b ≤ q) st u
def zNo : Array Value → State → Outcome → State → Prop := fun _ _ _ _ => False
/-- from (t, h) the method throws an XN, and the world is as it was -/
def zMetX (E : zE) (b : Nat) (l : Launch) (y : MethodName) (cc : ByteArray) (ml : Nat) (rt : Option FieldType) (d mc ms : Nat) (av : List Value) (t : zT) (h : zH) (XN : String) : Prop :=
  vx_Met l y (zWs y cc ml rt) (zRm d mc ms) (va_Pc av (zPre E b t h)) zNo (zXc E b XN t h) mc ms (fun q => b ≤ q)
def zEndX (E : zE) (b : Nat) (G : zG) (mc ms : Nat) (XN : String) (t : zT) (h : zH) : Prop := match G with
  | (_, l, _, _, s, _, args, below, _, c, Q) => Q = vx_MQ below zNo (zXc E b XN t h) args s mc ms (fun q => b ≤ q) ∧ (∀ x ∈ c.exceptionTable.toList, False) ∧ l.stackTraces = false
theorem zMetX.of {E : zE} {b : Nat} {l : Launch} {y : MethodName} {cc : ByteArray} {ml : Nat} {rt : Option FieldType} {d mc ms : Nat} {av : List Value} {t : zT} {h : zH} {XN : String} {ls : List (Option Value)} (hlt : l.stackTraces = false) (hy : plainName y.cls = true) (hlen : (lg_sl av).length ≤ ml) (n : Nat) (hls : zLa av ++ List.replicate n none = ls)
    (body : ∀ G : zG, G.2.1 = l → zCx E b G y.cls cc ml rt → zRoom G d mc ms → zEndX E b G mc ms XN t h → zAW E b G ml 0 0 0 ls [] t h) : zMetX E b l y cc ml rt d mc ms av t h XN := by
  refine vx_ofW (cc := cc) (maxL := ml) (ret := rt) hy rfl ?_
  intro p e s m args below meth c s₁ B hml htab hv
  obtain ⟨rfl, hH, hKs, hbs⟩ := hv
  have hts := atoms_spec (ws := zWs y cc ml rt) B.pre
  have hown : s.vm.findClass y.cls = some m.cls := findClass_of_methodNamed B.named
  have hl := lv_entry av (n := ml) hlen
  rw [lg_entry_eq]
  generalize (lg_sl av ++ List.replicate (ml - (lg_sl av).length) Slot.unset).toArray = la at hl ⊢
  have hl2 : zLs la ml ls := by rw [← hls]; exact zLs_entry hl
  exact body (p, l, e, zRm d mc ms, s, m, av.toArray, below, meth, c, vx_MQ below zNo (zXc E b XN t h) av.toArray s mc ms (fun q => b ≤ q)) rfl ⟨B.exec, B.bytes, hml, hown, fun w hw => hts w (List.mem_cons_of_mem _ hw), B.returns, B.notSynchronized, hKs, hbs⟩ ⟨Nat.le_refl _, Nat.le_refl _, Nat.le_refl _, Nat.le_refl _⟩ ⟨rfl, htab, hlt⟩ s.heap [] la hH va_S.rf hl2
theorem zKs.zq {E : zE} {b : Nat} {U : State} (h : zKs E b U) {C n d : String} (hl : Cond.laysStatic C n d ∈ lw_tbl) (hi : Cond.initialized C ∈ lw_tbl) (hr : ∀ sb, (Jvm.Cond.and given_1 narrow_1).before #[Value.ref sb] (zS0 E) = true → (Cond.isRef (.static C n d)).before #[Value.ref sb] (zS0 E) = true) : vx_Zq C n d (fun q => b ≤ q) U U.heap := by
  obtain ⟨⟨hb, -, sb, hts, hgn⟩, hW, hq⟩ := h
  have h0 : vx_Zq C n d (fun q => b ≤ q) (zS0 E) (zS0 E).heap := vx_Zqof (hts _ hl) (hts _ hi) (hr sb hgn) (fun a ha => by omega)
  exact (vx_Zq.moved hW.alike h0).kept (fun a ha hn => hq a (by omega))
theorem zKs.zU {E : zE} {b : Nat} {U : State} (h : zKs E b U) : vx_Zq Bundle.tN "UNASSIGNED_STACK" Bundle.steD (fun q => b ≤ q) U U.heap := h.zq (zCh_in 3 _ (List.mem_of_getElem? (i := 213) rfl)) (zCh_in 1 _ (List.mem_of_getElem? (i := 13) rfl)) (fun sb hg => flat_of_before _ hg _ (by decide +kernel))
theorem zKs.zN {E : zE} {b : Nat} {U : State} (h : zKs E b U) : vx_Zq Bundle.tN "SUPPRESSED_SENTINEL" Bundle.listD (fun q => b ≤ q) U U.heap := h.zq (zCh_in 3 _ (List.mem_of_getElem? (i := 215) rfl)) (zCh_in 1 _ (List.mem_of_getElem? (i := 13) rfl)) (fun sb hg => flat_of_before _ hg _ (by decide +kernel))
section ZX
variable {E : zE} {b : Nat} {G : zG} {own : String} {cc : ByteArray} {nL : Nat} {rt : Option FieldType} {cells slots pc D MC MS mc ms : Nat} {t : zT} {h : zH} {ls : List (Option Value)} {rest : List Value} {XN : String}
/-- new; dup; ldc_w; invokespecial; athrow -/
theorem zx_throw (C : zCx E b G own cc nL rt) (hR : zRoom G D MC MS) (hE : zEndX E b G mc ms XN t h) (hf : t.1.2 = false) {ik is ic : Nat} {text : String} (hx : zXk own ik is ic XN text) (hD : 6 ≤ D) (hcat : (rest.map fun v => v.category).sum ≤ 8) (hc1 : cells + 1 ≤ MC) (hc2 : slots + 6 ≤ MS) (hm1 : cells + 1 ≤ mc) (hm2 : slots + 6 ≤ ms) (d0 : decode cc pc = .ok (.new ik, 3)) (d3 : decode cc (pc + 3) = .ok (.dup, 1)) (d4 : decode cc (pc + 4) = .ok (.ldc_w is, 3)) (d7 : decode cc (pc + 7) = .ok (.invokespecial ic, 3)) (d10 : decode cc (pc + 10) = .ok (.athrow, 1)) : zAW E b G nL cells slots pc ls rest t h := by
  obtain ⟨p, l, e, R, s, m, args, below, meth, c, Q⟩ := G
  intro H locs la hH hS hl
  have hR1 : D ≤ R.frames := hR.1
  have hR2 : 64 * D ≤ R.locals := hR.2.1
  have hR3 : MC ≤ R.cells := hR.2.2.1
  have hR4 : MS ≤ R.slots := hR.2.2.2
  have hts := C.2.2.2.2.1
  have hKs := C.2.2.2.2.2.2.2.1
  obtain ⟨rfl, htab, hlt⟩ := hE
  obtain ⟨hcls, ⟨B, hw1, hw2, hw3⟩, hot, hs⟩ := hx
  obtain ⟨sa, hsr⟩ := hKs.str C.2.2.2.1 hs
  have hw := vx_hat (args := args) (s := s) (fun w hq => hts _ (hw1 w hq)) hw2 (fun w hq => hKs.face (hw3 w hq))
  refine vx_throwSW (names := zNm) (A := fun q => b ≤ q) C.1 C.2.1 hlt C.2.2.2.1 hcls (by decide) (hw _ List.mem_cons_self) (hw _ (List.mem_cons_of_mem _ List.mem_cons_self)) hsr (fun w hq => hw _ (List.mem_cons_of_mem _ (List.mem_cons_of_mem _ hq))) hot hKs.zU hKs.zN hS (by rw [C.2.2.1]; exact hl.1) d0 d3 d4 d7 d10 (fun x hx => (htab x hx).elim) (by show 2 + 3 < _; omega) (by show _ + (13 * (2 + 1) + 43) ≤ _; omega) (by omega) (by omega) C.2.2.2.2.2.2.1 (fun u hal hz hq => ⟨rfl, hH.ext hf hz hq, Nat.le_trans hS.1 hz, fun q g1 g2 => by rw [hq q (Nat.lt_of_lt_of_le g1 hS.1)]; exact hS.2.1 q g1 g2⟩) hS.2.2 hm1 hm2
/-- what a callee throws goes on -/
theorem zk_out {p : Program} {l : Launch} {e : Env} {R : Room} {s : State} {m : MethodId} {args : Array Value} {below : List Frame} {meth : Method} {c : Code} {Q : State → Prop} (C : zCx E b (p, l, e, R, s, m, args, below, meth, c, Q) own cc nL rt) (hE : zEndX E b (p, l, e, R, s, m, args, below, meth, c, Q) mc ms XN t h) {H : Heap} {locs : List Loc} {la : Array Slot} {st0 : List Value} {mc1 ms1 : Nat} {a : Array Value} (hr : vx_Run p l e R s m args below meth c H locs cells slots mc1 ms1 (F0 m pc la st0) rest (zNo a) (zXc E b XN t h) (fun q => b ≤ q)) (hS : va_S (fun q => b ≤ q) s.heap H locs) (hm1 : cells + mc1 ≤ mc) (hm2 : slots + ms1 ≤ ms) : W p l e R s m args below meth c H locs cells slots Q (F0 m pc la st0) := by
  obtain ⟨rfl, htab, hlt⟩ := hE
  intro T hT X
  rcases hr T hT X with ⟨v, st₀, u, T', L, h0, X', hL, e1, e2, hno, st⟩ | ⟨q, st₀, u, T', L, X9, ce, h0, X', hL, e1, e2, ⟨rfl, hh, hF⟩, hce, hcv, hcl, st⟩
  · exact hno.elim
  · have hS1 : va_S (fun q => b ≤ q) s.heap T'.heap (locs ++ L) := by
      refine ⟨?_, fun q g1 g2 => ?_, fun z hz => ?_⟩
      · rw [e1]; exact Nat.le_trans hS.1 (by rw [← h0]; exact hF.1)
      · rw [e1, hF.2 q (by rw [h0]; exact Nat.lt_of_lt_of_le g1 hS.1) g2, h0]; exact hS.2.1 q g1 g2
      · rcases List.mem_append.mp hz with z1 | z1
        · exact hS.2.2 z z1
        · exact hL z z1
    obtain ⟨t2, a1, b1⟩ := vx_out (Qc := zNo) (XC := zXc E b X9 t h) (mc := mc) (ms := ms) (free := fun q => b ≤ q) (pc := pc) (rest := rest) (ls := la) (fun x hx => (htab x hx).elim) C.2.2.2.2.2.2.1 (H := T'.heap) (by rw [e1]; exact hce) hcv hcl (fun u2 hu2 _ => ⟨rfl, by rw [hu2, e1]; exact hh, hS1.F hu2⟩) hS1.2.2 hm1 hm2 T' rfl X'
    exact ⟨t2, st.trans a1, b1⟩
theorem zx_callS (C : zCx E b G own cc nL rt) (hR : zRoom G D MC MS) (hE : zEndX E b G mc ms XN t h) (As : List Value) {y : MethodName} {cy : ByteArray} {mly d mc1 ms1 na idx : Nat} {rty : Option FieldType} (hM : zMetX E b G.2.1 y cy mly rty d mc1 ms1 As t h XN) (hL : zLS own idx y cy mly rty na) (hna : As.length = na) (hfit : zFitB d mly D cells mc1 MC slots ms1 MS) (hm1 : cells + mc1 ≤ mc) (hm2 : slots + ms1 ≤ ms) (hcat : (rest.map fun v => v.category).sum ≤ 8) (hd : decode cc pc = .ok (.invokestatic idx, 3)) : zAW E b G nL cells slots pc ls (As.reverse ++ rest) t h := by
  obtain ⟨p, l, e, R, s, m, args, below, meth, c, Q⟩ := G
  intro H locs la hH hS hl
  obtain ⟨hw, hy1, hy2, hy3⟩ := hL
  have hR1 : D ≤ R.frames := hR.1
  have hR2 : 64 * D ≤ R.locals := hR.2.1
  have hR3 : MC ≤ R.cells := hR.2.2.1
  have hR4 : MS ≤ R.slots := hR.2.2.2
  have hts := C.2.2.2.2.1
  exact zk_out C hE (vx_runS (Ts := zW) (As := As) (rest := rest) ⟨C.1, C.2.1, C.2.2.1, C.2.2.2.1, hts⟩ hM (bytes := cy) (maxL := mly) (ret := rty) (n := na) ⟨callB_of na hts (zGood (fun w hw => hw) (hw _ (by simp))) rfl rfl rfl (hts _ (hw _ (by simp))) (hts _ (hw _ (by simp))) ⟨hy1, hy2, hy3⟩ ⟨Nat.le_trans hfit.1 hR1, Nat.le_trans hfit.2.1 hR2⟩, hts _ (hw _ (by simp))⟩ ⟨zk_blind, zk_pre C hH hS _⟩ rfl hna hl.1 rfl (lv_room hcat) hd ⟨Nat.le_trans hfit.2.2.1 hR3, Nat.le_trans hfit.2.2.2 hR4⟩) hS hm1 hm2
theorem zx_callV (C : zCx E b G own cc nL rt) (hR : zRoom G D MC MS) (hE : zEndX E b G mc ms XN t h) (As : List Value) {i c0 n0 : Nat} {y : MethodName} {cy : ByteArray} {mly d mc1 ms1 na idx : Nat} {rty : Option FieldType} (hM : zMetX E b G.2.1 y cy mly rty d mc1 ms1 (.ref (b + i) :: As) t h XN) (hL : zLV own idx y cy mly rty na) (hna : As.length = na) (hK : zK t i = (c0, n0)) (hc0 : c0 < zNc) (hcls : zRn c0 = y.cls) (hfit : zFitB d mly D cells mc1 MC slots ms1 MS) (hm1 : cells + mc1 ≤ mc) (hm2 : slots + ms1 ≤ ms) (hcat : (rest.map fun v => v.category).sum ≤ 8) (hd : decode cc pc = .ok (.invokevirtual idx, 3)) : zAW E b G nL cells slots pc ls (As.reverse ++ .ref (b + i) :: rest) t h := by
  obtain ⟨p, l, e, R, s, m, args, below, meth, c, Q⟩ := G
  intro H locs la hH hS hl
  obtain ⟨hw, hy1, hy2, hy3⟩ := hL
  have hR1 : D ≤ R.frames := hR.1
  have hR2 : 64 * D ≤ R.locals := hR.2.1
  have hR3 : MC ≤ R.cells := hR.2.2.1
  have hR4 : MS ≤ R.slots := hR.2.2.2
  have hts := C.2.2.2.2.1
  refine zk_out C hE (vx_runV (Ts := zW) (As := As) (rest := rest) (b := b + i) ⟨C.1, C.2.1, C.2.2.1, C.2.2.2.1, hts⟩ hM (C := y.cls) (bytes := cy) (maxL := mly) (ret := rty) (n := na) ⟨callB_of na hts (zGood (fun w hw => hw) (hw _ (by simp))) rfl rfl rfl (hts _ (hw _ (by simp))) (hts _ (hw _ (by simp))) ⟨hy1, hy2, hy3⟩ ⟨Nat.le_trans hfit.1 hR1, Nat.le_trans hfit.2.1 hR2⟩, hts _ (hw _ (by simp)), hts _ (hw _ (by simp))⟩ ⟨zk_blind, ?_, zk_pre C hH hS _⟩ rfl hna hl.1 rfl (lv_room hcat) hd ⟨Nat.le_trans hfit.2.2.1 hR3, Nat.le_trans hfit.2.2.2 hR4⟩) hS hm1 hm2
  rw [← hcls]
  exact zk_recv C.2.2.2.2.2.2.2.1 hH hK hc0
end ZX
