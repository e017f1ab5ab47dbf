/-! ===== methods with a table of handlers ===== -/
def zMetW (E : zE) (b : Nat) (l : Launch) (y : MethodName) (cc : ByteArray) (ml : Nat) (rt : Option FieldType) (hh : List (Nat × Nat × Nat × Nat)) (d mc ms : Nat) (av : List Value) (t : zT) (h : zH) (post : Option Value → zT → zH → Prop) : Prop :=
  Met l y (Cond.codeWith y cc ml rt hh :: zW) (zRm d mc ms) (va_Pc av (zPre E b t h)) (zQc E b post) mc ms (fun q => b ≤ q)
theorem zMetW.mono {E : zE} {b : Nat} {l : Launch} {y : MethodName} {cc : ByteArray} {ml : Nat} {rt : Option FieldType} {hh : List (Nat × Nat × Nat × Nat)} {d mc ms : Nat} {av : List Value} {t : zT} {h : zH} {post post' : Option Value → zT → zH → Prop} (hM : zMetW E b l y cc ml rt hh d mc ms av t h post) (hp : ∀ v t' h', post v t' h' → post' v t' h') : zMetW E b l y cc ml rt hh d mc ms av t h post' := by
  intro p e ha hc hk s m args below hf happ hP hK
  obtain ⟨k, o, h1, h2, h3, ⟨⟨⟨v, t', h', a1, a2, a3⟩, a4⟩, hL⟩⟩ := hM p e ha hc hk s m args below hf happ hP hK
  exact ⟨k, o, h1, h2, h3, ⟨⟨v, t', h', a1, hp _ _ _ a2, a3⟩, a4⟩, hL⟩
def zTab (G : zG) (hh : List (Nat × Nat × Nat × Nat)) : Prop := G.2.2.2.2.2.2.2.2.2.1.exceptionTable.toList = tableOf hh
theorem zMetW.of {E : zE} {b : Nat} {l : Launch} {y : MethodName} {cc : ByteArray} {ml : Nat} {rt : Option FieldType} {hh : List (Nat × Nat × Nat × Nat)} {d mc ms : Nat} {av : List Value} {t : zT} {h : zH} {post : Option Value → zT → zH → Prop} {ls : List (Option Value)} (hy : plainName y.cls = true) (hlen : (lg_sl av).length ≤ ml) (n : Nat) (hls : zLa av ++ List.replicate n none = ls)
    (body : ∀ G : zG, G.2.1 = l → zCx E b G y.cls cc ml rt → zRoom G d mc ms → zEnd E b G mc ms post → zTab G hh → zAW E b G ml 0 0 0 ls [] t h) : zMetW E b l y cc ml rt hh d mc ms av t h post := by
  refine va_MetW (cc := cc) (maxL := ml) (ret := rt) (hh := hh) hy rfl ?_
  intro p e s m args below meth c s₁ B hml hv
  obtain ⟨rfl, hH, hKs, hbs⟩ := hv
  have hts := atoms_spec (ws := Cond.codeWith y cc ml rt hh :: zW) B.pre
  have htab := vx_table (x := y) B (hts _ List.mem_cons_self)
  have hown : s.vm.findClass y.cls = some m.cls := findClass_of_methodNamed B.named
  have hl := lv_entry av (n := ml) hlen
  rw [lg_entry_eq]
  generalize (lg_sl av ++ List.replicate (ml - (lg_sl av).length) Slot.unset).toArray = la at hl ⊢
  have hl2 : zLs la ml ls := by rw [← hls]; exact zLs_entry hl
  exact body (p, l, e, zRm d mc ms, s, m, av.toArray, below, meth, c, MQ below (zQc E b post) av.toArray s mc ms (fun q => b ≤ q)) rfl ⟨B.exec, B.bytes, hml, hown, fun w hw => hts w (List.mem_cons_of_mem _ hw), B.returns, B.notSynchronized, hKs, hbs⟩ ⟨Nat.le_refl _, Nat.le_refl _, Nat.le_refl _, Nat.le_refl _⟩ (fun H locs cells slots g k => k) htab s.heap [] la hH va_S.rf hl2
section ZCW
variable {E : zE} {b : Nat} {G : zG} {own : String} {cc : ByteArray} {nL : Nat} {rt : Option FieldType} {cells slots pc D MC MS : Nat} {t : zT} {h : zH} {ls : List (Option Value)} {y : MethodName} {cy : ByteArray} {mly : Nat} {rty : Option FieldType} {hh : List (Nat × Nat × Nat × Nat)} {d mc ms na idx : Nat} {rest : List Value}
theorem zz_callSW {post : Option Value → zT → zH → Prop} (C : zCx E b G own cc nL rt) (hR : zRoom G D MC MS) (As : List Value) (hM : zMetW E b G.2.1 y cy mly rty hh d mc ms As t h post) (hL : zLSW own idx y cy mly rty hh na) (hna : As.length = na) (hfit : zFitB d mly D cells mc MC slots ms MS) (hcat : (rest.map fun v => v.category).sum ≤ 8) (hd : decode cc pc = .ok (.invokestatic idx, 3))
    (kk : ∀ (v : Option Value) (t' : zT) (h' : zH), post v t' h' → zAW E b G nL (cells + mc) (slots + ms) (pc + 3) ls (v.toList ++ rest) t' h') : zAW E b G nL cells slots pc ls (As.reverse ++ rest) t h := by
  obtain ⟨p, l, e, R, s, m, args, below, meth, c, Q⟩ := G
  intro H locs la hH hS hl
  obtain ⟨hw, hy1, hy2, hy3⟩ := hL
  have hR1 : D ≤ R.frames := hR.1
  have hR2 : 64 * D ≤ R.locals := hR.2.1
  have hR3 : MC ≤ R.cells := hR.2.2.1
  have hR4 : MS ≤ R.slots := hR.2.2.2
  have hts := C.2.2.2.2.1
  have hG : GoodIn zW (va_wsS own idx y (Cond.codeWith y cy mly rty hh :: zW)) := fun w hq => by
    have h9 : w ∈ zW := by
      unfold va_wsS at hq
      rcases List.mem_append.mp hq with z | z
      · exact hw w (by simp at z ⊢; rcases z with z | z | z <;> simp [z])
      · rcases List.mem_cons.mp z with z | z
        · exact hw w (by simp [z])
        · exact z
    exact ⟨h9, good_of_word (zW_good _ h9)⟩
  exact zk_after (vx_runSW (Ts := zW) (As := As) (rest := rest) ⟨C.1, C.2.1, C.2.2.1, C.2.2.2.1, hts⟩ hM (bytes := cy) (maxL := mly) (ret := rty) (n := na) (vx_cwSW na hts hG rfl rfl rfl ⟨hy1, hy2, hy3⟩ ⟨Nat.le_trans hfit.1 hR1, Nat.le_trans hfit.2.1 hR2⟩) ⟨zk_blind, zk_pre C hH hS _⟩ rfl hna hl.1 rfl (lv_room hcat) hd ⟨Nat.le_trans hfit.2.2.1 hR3, Nat.le_trans hfit.2.2.2 hR4⟩) hS (fun v t' h' hp H1 locs1 hH1 hS1 => kk v t' h' hp H1 locs1 la hH1 hS1 hl)
theorem zy_callSW {post : Int32 → zT → zH → Prop} (C : zCx E b G own cc nL rt) (hR : zRoom G D MC MS) (As : List Value) (hM : zMetW E b G.2.1 y cy mly rty hh d mc ms As t h (qI post)) (hL : zLSW own idx y cy mly rty hh na) (hna : As.length = na) (hfit : zFitB d mly D cells mc MC slots ms MS) (hcat : (rest.map fun v => v.category).sum ≤ 8) (hd : decode cc pc = .ok (.invokestatic idx, 3))
    (kk : ∀ (r : Int32) (t' : zT) (h' : zH), post r t' h' → zAW E b G nL (cells + mc) (slots + ms) (pc + 3) ls (.int r :: rest) t' h') : zAW E b G nL cells slots pc ls (As.reverse ++ rest) t h := zz_callSW C hR As hM hL hna hfit hcat hd (fun v t' h' hp => by obtain ⟨r, rfl, hq⟩ := hp; exact kk r t' h' hq)
/-- what the callee throws is taken by the row x of this method's table -/
theorem zx_catchV {XN : String} (C : zCx E b G own cc nL rt) (hR : zRoom G D MC MS) (As : List Value) {i c0 n0 : Nat} (hM : zMetX E b G.2.1 y cy mly rty d mc ms (.ref (b + i) :: As) t h XN) (hL : zLV own idx y cy mly rty na) (hna : As.length = na) (hK : zK t i = (c0, n0)) (hc0 : c0 < zNc) (hcls : zRn c0 = y.cls) (hfit : zFitB d mly D cells mc MC slots ms MS) (hcat : (rest.map fun v => v.category).sum ≤ 8)
    (htab : zTab G hh) (pre : List ExceptionTableEntry) (x : ExceptionTableEntry) (suf : List ExceptionTableEntry) (hsplit : tableOf hh = pre ++ x :: suf) (hpass : ∀ z ∈ pre, z.catchType ≠ 0 ∧ ∃ nm : String, Cond.classLink own z.catchType nm ∈ zW ∧ ∀ U, zKs E b U → va_Nc XN nm U) (hx : covers x pc = true) (h0 : x.catchType ≠ 0) (hlink : Cond.classLink own x.catchType XN ∈ zW) (hcast : Cond.castable XN XN ∈ lw_tbl ∧ (Cond.castable XN XN).faceAtom = true ∧ (Cond.castable XN XN).onTables = true)
    (hd : decode cc pc = .ok (.invokevirtual idx, 3)) (kk : ∀ q : Nat, zAW E b G nL (cells + mc) (slots + ms) x.handlerPc ls [.ref q] t h) : zAW E b G nL cells slots pc ls (As.reverse ++ .ref (b + i) :: rest) t h := by
  obtain ⟨p, l, e, R, s, m, args, below, meth, c, Q⟩ := G
  intro H locs la hH hS hl
  obtain ⟨hw, hy1, hy2, hy3⟩ := hL
  have hR1 : D ≤ R.frames := hR.1
  have hR2 : 64 * D ≤ R.locals := hR.2.1
  have hR3 : MC ≤ R.cells := hR.2.2.1
  have hR4 : MS ≤ R.slots := hR.2.2.2
  have hts := C.2.2.2.2.1
  have hKs := C.2.2.2.2.2.2.2.1
  have hrecv := zk_recv hKs hH hK hc0
  rw [hcls] at hrecv
  have hr : vx_Run p l e R s m args below meth c H locs cells slots mc ms (F0 m pc la (As.reverse ++ .ref (b + i) :: rest)) rest (zNo (Value.ref (b + i) :: As).toArray) (zXc E b XN t h) (fun q => b ≤ q) := vx_runV (Ts := zW) (As := As) (rest := rest) (b := b + i) ⟨C.1, C.2.1, C.2.2.1, C.2.2.2.1, hts⟩ hM (C := y.cls) (bytes := cy) (maxL := mly) (ret := rty) (n := na) ⟨callB_of na hts (zGood (fun w hw => hw) (hw _ (by simp))) rfl rfl rfl (hts _ (hw _ (by simp))) (hts _ (hw _ (by simp))) ⟨hy1, hy2, hy3⟩ ⟨Nat.le_trans hfit.1 hR1, Nat.le_trans hfit.2.1 hR2⟩, hts _ (hw _ (by simp)), hts _ (hw _ (by simp))⟩ ⟨zk_blind, hrecv, zk_pre C hH hS _⟩ rfl hna hl.1 rfl (lv_room hcat) hd ⟨Nat.le_trans hfit.2.2.1 hR3, Nat.le_trans hfit.2.2.2 hR4⟩
  intro T hT X
  rcases hr T hT X with ⟨v, st₀, u, T', L, h9, X', hL, e1, e2, hno, st⟩ | ⟨q, st₀, u, T', L, X9, ce, h9, X', hL, e1, e2, ⟨rfl, hh9, hF⟩, hce, hcv, hcl, st⟩
  · exact hno.elim
  · have hS1 : va_S (fun q => b ≤ q) s.heap T'.heap (locs ++ L) := by
      refine ⟨?_, fun q g1 g2 => ?_, fun z hz => ?_⟩
      · rw [e1]; exact Nat.le_trans hS.1 (by rw [← h9]; exact hF.1)
      · rw [e1, hF.2 q (by rw [h9]; exact Nat.lt_of_lt_of_le g1 hS.1) g2, h9]; exact hS.2.1 q g1 g2
      · rcases List.mem_append.mp hz with z1 | z1
        · exact hS.2.2 z z1
        · exact hL z z1
    obtain ⟨t2, a1, b1⟩ := vx_catch (pc := pc) (rest := rest) (ls := la) (H := T'.heap) C.2.2.2.1 pre x suf (Eq.trans htab hsplit) (fun z hz => by
      obtain ⟨z0, nm, z1, z2⟩ := hpass z hz
      exact Or.inr ⟨z0, nm, hts _ z1, z2 _ hKs⟩) hx h0 (hts _ hlink) (hKs.face hcast) (by rw [e1]; exact hce) hcv hcl (kk q T'.heap (locs ++ L) la (by rw [e1]; exact hh9) hS1 hl) T' rfl X'
    exact ⟨t2, st.trans a1, b1⟩
end ZCW
