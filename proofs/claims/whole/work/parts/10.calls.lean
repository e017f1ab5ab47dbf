/-! ===== contracts on the abstract machine, calls, returns ===== -/
def zRm (d mc ms : Nat) : Room := { frames := d, cells := mc, slots := ms, locals := 64 * d }
def zWs (y : MethodName) (cc : ByteArray) (ml : Nat) (rt : Option FieldType) : List Cond := Cond.code y cc ml rt :: zW
def zA (b : Nat) : Nat → Prop := fun q => b ≤ q
def zPre (E : zE) (b : Nat) (t : zT) (h : zH) (U : State) : Prop := zHp E b t h U.heap ∧ zKs E b U ∧ b ≤ U.heap.size
def zQc (E : zE) (b : Nat) (post : Option Value → zT → zH → Prop) : Array Value → State → Outcome → State → Prop := fun _ st o u => (∃ (v : Option Value) (t' : zT) (h' : zH), o = .returned v ∧ post v t' h' ∧ zHp E b t' h' u.heap) ∧ va_F (fun q => b ≤ q) st u
/-- from the abstract state (t, h) with the arguments av, the method returns, and post holds of its answer and of the abstract state behind it -/
def zMet (E : zE) (b : Nat) (l : Launch) (y : MethodName) (cc : ByteArray) (ml : Nat) (rt : Option FieldType) (d mc ms : Nat) (av : List Value) (t : zT) (h : zH) (post : Option Value → zT → zH → Prop) : Prop :=
  Met l y (zWs y cc ml rt) (zRm d mc ms) (va_Pc av (zPre E b t h)) (zQc E b post) mc ms (fun q => b ≤ q)
theorem zMet.mono {E : zE} {b : Nat} {l : Launch} {y : MethodName} {cc : ByteArray} {ml : Nat} {rt : Option FieldType} {d mc ms : Nat} {av : List Value} {t : zT} {h : zH} {post post' : Option Value → zT → zH → Prop} (hM : zMet E b l y cc ml rt d mc ms av t h post) (hp : ∀ v t' h', post v t' h' → post' v t' h') : zMet E b l y cc ml rt d mc ms av t h post' := by
  intro p e ha hc hk s m args below hf happ hP hK
  obtain ⟨k, o, h1, h2, h3, ⟨⟨⟨v, t', h', a1, a2, a3⟩, a4⟩, hL⟩⟩ := hM p e ha hc hk s m args below hf happ hP hK
  exact ⟨k, o, h1, h2, h3, ⟨⟨v, t', h', a1, hp _ _ _ a2, a3⟩, a4⟩, hL⟩
/-- the room that a body has -/
def zRoom (G : zG) (d mc ms : Nat) : Prop := d ≤ G.2.2.2.1.frames ∧ 64 * d ≤ G.2.2.2.1.locals ∧ mc ≤ G.2.2.2.1.cells ∧ ms ≤ G.2.2.2.1.slots
/-- what a body owes at its end -/
def zEnd (E : zE) (b : Nat) (G : zG) (mc ms : Nat) (post : Option Value → zT → zH → Prop) : Prop := match G with
  | (p, l, e, R, s, m, args, below, meth, c, Q) => ∀ (H : Heap) (locs : List Loc) (cells slots : Nat) (g : JFrame), W p l e R s m args below meth c H locs cells slots (MQ below (zQc E b post) args s mc ms (fun q => b ≤ q)) g → W p l e R s m args below meth c H locs cells slots Q g
def zLa : List Value → List (Option Value)
  | [] => []
  | v :: r => if v.category = 2 then some v :: none :: zLa r else some v :: zLa r
theorem zLa_args : ∀ (av : List Value) (i k : Nat) (v : Value), (zLa av)[k]? = some (some v) → (i + k, v) ∈ lv_args i av
  | [], i, k, v, h => by simp [zLa] at h
  | w :: r, i, k, v, h => by
    unfold zLa at h
    unfold lv_args
    by_cases hc : w.category = 2
    · rw [if_pos hc] at h ⊢
      match k, h with
      | 0, h => simp at h; rw [h]; exact List.mem_cons_self
      | 1, h => simp at h
      | k + 2, h =>
        have := zLa_args r (i + 2) k v (by simpa using h)
        rw [show i + (k + 2) = i + 2 + k by omega]
        exact List.mem_cons_of_mem _ this
    · rw [if_neg hc] at h ⊢
      match k, h with
      | 0, h => simp at h; rw [h]; exact List.mem_cons_self
      | k + 1, h =>
        have := zLa_args r (i + 1) k v (by simpa using h)
        rw [show i + (k + 1) = i + 1 + k by omega]
        exact List.mem_cons_of_mem _ this
theorem zLs_entry {la : Array Slot} {ml n : Nat} {av : List Value} (h : lv_has la ml (lv_args 0 av)) : zLs la ml (zLa av ++ List.replicate n none) := by
  refine ⟨h.1, h.2.1, fun q hq => ?_⟩
  obtain ⟨j, v⟩ := q
  obtain ⟨k, h1, h2⟩ := (zAs_mem _ 0 j v).mp hq
  rw [Nat.zero_add] at h1
  subst h1
  refine h.2.2 (j, v) ?_
  by_cases hj : j < (zLa av).length
  · rw [List.getElem?_append_left hj] at h2
    have := zLa_args av 0 j v h2
    rwa [Nat.zero_add] at this
  · rw [List.getElem?_append_right (by omega), List.getElem?_replicate] at h2
    split at h2 <;> cases h2
theorem zMet.of {E : zE} {b : Nat} {l : Launch} {y : MethodName} {cc : ByteArray} {ml : Nat} {rt : Option FieldType} {d mc ms : Nat} {av : List Value} {t : zT} {h : zH} {post : Option Value → zT → zH → Prop} {ls : List (Option Value)} (hy : plainName y.cls = true) (hlen : (lg_sl av).length ≤ ml) (n : Nat) (hls : zLa av ++ List.replicate n none = ls)
    (body : ∀ G : zG, G.2.1 = l → zCx E b G y.cls cc ml rt → zRoom G d mc ms → zEnd E b G mc ms post → (y.name = "<init>" → G.2.2.2.2.2.2.2.2.1.name = "<init>") → zAW E b G ml 0 0 0 ls [] t h) : zMet E b l y cc ml rt d mc ms av t h post := by
  refine Met.ofW (cc := cc) (maxL := ml) (ret := rt) hy rfl ?_
  intro p e s m args below meth c s₁ B hml hv
  obtain ⟨rfl, hH, hKs, hbs⟩ := hv
  have hts := atoms_spec (ws := zWs y cc ml rt) B.pre
  have hown : s.vm.findClass y.cls = some m.cls := findClass_of_methodNamed B.named
  have hl := lv_entry av (n := ml) hlen
  rw [lg_entry_eq]
  generalize (lg_sl av ++ List.replicate (ml - (lg_sl av).length) Slot.unset).toArray = la at hl ⊢
  have hl2 : zLs la ml ls := by rw [← hls]; exact zLs_entry hl
  exact body (p, l, e, zRm d mc ms, s, m, av.toArray, below, meth, c, MQ below (zQc E b post) av.toArray s mc ms (fun q => b ≤ q)) rfl ⟨B.exec, B.bytes, hml, hown, fun w hw => hts w (List.mem_cons_of_mem _ hw), B.returns, B.notSynchronized, hKs, hbs⟩ ⟨Nat.le_refl _, Nat.le_refl _, Nat.le_refl _, Nat.le_refl _⟩ (fun H locs cells slots g k => k) (fun hn => (name_of_methodNamed B.named B.method).1.trans hn) s.heap [] la hH va_S.rf hl2
section ZR
variable {E : zE} {b : Nat} {G : zG} {own : String} {cc : ByteArray} {nL : Nat} {cells slots pc mc ms : Nat} {t : zT} {h : zH} {ls : List (Option Value)} {st : List Value} {post : Option Value → zT → zH → Prop}
theorem zk_q {s u : State} {H : Heap} {locs : List Loc} {v : Option Value} (hH : zHp E b t h H) (hS : va_S (fun q => b ≤ q) s.heap H locs) (hp : post v t h) (a : Array Value) (hu : u.heap = H) : zQc E b post a s (.returned v) u := ⟨⟨v, t, h, rfl, hp, by rw [hu]; exact hH⟩, hS.F hu⟩
theorem zz_ireturn (C : zCx E b G own cc nL (some .int)) {v : Int32} (hE : zEnd E b G mc ms post) (hc : cells ≤ mc) (hs : slots ≤ ms) (hd : decode cc pc = .ok (.ireturn, 1)) (hp : post (some (.int v)) t h) : zAW E b G nL cells slots pc ls [.int v] t h := by
  obtain ⟨p, l, e, R, s, m, args, below, meth, c, Q⟩ := G
  intro H locs la hH hS hl
  exact hE _ _ _ _ _ (W.widen hc hs (W.iret C.1 C.2.1 C.2.2.2.2.2.1 (fun u hu hW => zk_q hH hS hp args hu) hS.2.2 hd C.2.2.2.2.2.2.1))
theorem zz_zreturn (C : zCx E b G own cc nL (some .boolean)) {v : Int32} (hE : zEnd E b G mc ms post) (hc : cells ≤ mc) (hs : slots ≤ ms) (hd : decode cc pc = .ok (.ireturn, 1)) (hv : v = 0 ∨ v = 1) (hp : post (some (.int v)) t h) : zAW E b G nL cells slots pc ls [.int v] t h := by
  obtain ⟨p, l, e, R, s, m, args, below, meth, c, Q⟩ := G
  intro H locs la hH hS hl
  exact hE _ _ _ _ _ (W.widen hc hs (W.zret C.1 C.2.1 C.2.2.2.2.2.1 (by rcases hv with rfl | rfl <;> rfl) (fun u hu hW => zk_q hH hS hp args hu) hS.2.2 hd C.2.2.2.2.2.2.1))
theorem zz_lreturn (C : zCx E b G own cc nL (some .long)) {v : Int64} (hE : zEnd E b G mc ms post) (hc : cells ≤ mc) (hs : slots ≤ ms) (hd : decode cc pc = .ok (.lreturn, 1)) (hp : post (some (.long v)) t h) : zAW E b G nL cells slots pc ls [.long v] t h := by
  obtain ⟨p, l, e, R, s, m, args, below, meth, c, Q⟩ := G
  intro H locs la hH hS hl
  exact hE _ _ _ _ _ (W.widen hc hs (W.lret C.1 C.2.1 C.2.2.2.2.2.1 (fun u hu hW => zk_q hH hS hp args hu) hS.2.2 hd C.2.2.2.2.2.2.1))
theorem zz_return (C : zCx E b G own cc nL none) (hE : zEnd E b G mc ms post) (hc : cells ≤ mc) (hs : slots ≤ ms) (hd : decode cc pc = .ok (.return_, 1)) (hp : post none t h) : zAW E b G nL cells slots pc ls [] t h := by
  obtain ⟨p, l, e, R, s, m, args, below, meth, c, Q⟩ := G
  intro H locs la hH hS hl
  exact hE _ _ _ _ _ (W.widen hc hs (W.vret C.1 C.2.1 C.2.2.2.2.2.1 (fun u hu hW => zk_q hH hS hp args hu) hS.2.2 hd C.2.2.2.2.2.2.1))
theorem zz_areturn {ty : FieldType} (C : zCx E b G own cc nL (some (.array ty))) {a : Nat} (hE : zEnd E b G mc ms post) (hc : cells ≤ mc) (hs : slots ≤ ms) (hd : decode cc pc = .ok (.areturn, 1)) (hp : post (some (.ref a)) t h) : zAW E b G nL cells slots pc ls [.ref a] t h := by
  obtain ⟨p, l, e, R, s, m, args, below, meth, c, Q⟩ := G
  intro H locs la hH hS hl
  exact hE _ _ _ _ _ (W.widen hc hs (W.aret C.1 C.2.1 C.2.2.2.2.2.1 (Or.inr ⟨_, rfl⟩) (Or.inr ⟨_, rfl⟩) (fun u hu hW => zk_q hH hS hp args hu) hS.2.2 hd C.2.2.2.2.2.2.1))
end ZR
/-- a method's words are among any list that holds the tables' good ones -/
theorem zGood {big : List Cond} {y : MethodName} {cc : ByteArray} {ml : Nat} {rt : Option FieldType} (hb : ∀ w ∈ zW, w ∈ big) (hc : Cond.code y cc ml rt ∈ zW) : GoodIn big (zWs y cc ml rt) := fun w hw => by
  rcases List.mem_cons.mp hw with rfl | hw
  · exact ⟨hb _ hc, good_of_word (zW_good _ hc)⟩
  · exact ⟨hb _ hw, good_of_word (zW_good _ hw)⟩
def zHd (y : MethodName) (n : Nat) : Prop := y.cls ≠ "java/lang/invoke/MethodHandle" ∧ y.cls ≠ "java/lang/invoke/VarHandle" ∧ (parseMethodDescriptor y.desc).map (fun d => d.parameters.length) = some n
/-- a call's words by its pool place: virtual, static, special -/
def zLV (own : String) (idx : Nat) (y : MethodName) (cy : ByteArray) (ml : Nat) (rt : Option FieldType) (n : Nat) : Prop := (∀ w ∈ ([.methodLink own idx y, .instanceMethod y, .selects y.cls y y, .initialized y.cls, .code y cy ml rt] : List Cond), w ∈ zW) ∧ zHd y n
def zLS (own : String) (idx : Nat) (y : MethodName) (cy : ByteArray) (ml : Nat) (rt : Option FieldType) (n : Nat) : Prop := (∀ w ∈ ([.methodLink own idx y, .static y, .initialized y.cls, .code y cy ml rt] : List Cond), w ∈ zW) ∧ zHd y n
def zLI (own : String) (idx : Nat) (y : MethodName) (cy : ByteArray) (ml : Nat) (n : Nat) : Prop := (∀ w ∈ ([.methodLink own idx y, .instanceMethod y, .initialized y.cls, .code y cy ml none] : List Cond), w ∈ zW) ∧ zHd y n ∧ y.name = "<init>"
/-- .. of a nest mate -/
def zLIN (own : String) (idx : Nat) (y : MethodName) (host : String) (cy : ByteArray) (ml : Nat) (n : Nat) : Prop := (∀ w ∈ ([.instanceMethod y, .initialized y.cls, .code y cy ml none] : List Cond), w ∈ zW) ∧ zHd y n ∧ y.name = "<init>" ∧ Cond.methodLinkNest own idx y host ∈ lw_tbl
def zLVN (own : String) (idx : Nat) (y : MethodName) (host : String) (cy : ByteArray) (ml : Nat) (rt : Option FieldType) (n : Nat) : Prop := (∀ w ∈ ([.instanceMethod y, .selects y.cls y y, .initialized y.cls, .code y cy ml rt] : List Cond), w ∈ zW) ∧ zHd y n ∧ Cond.methodLinkNest own idx y host ∈ lw_tbl
theorem zKs.nest {E : zE} {b : Nat} {U : State} (h : zKs E b U) {own : String} {idx : Nat} {y : MethodName} {host : String} (hw : Cond.methodLinkNest own idx y host ∈ lw_tbl) : va_Nw (.methodLinkNest own idx y host) U := by
  obtain ⟨⟨-, -, sb, hts, -⟩, hW, -⟩ := h
  exact va_Nw.warmM hW (va_Nw.of rfl (hts _ hw))
section ZC
variable {E : zE} {b : Nat} {own : String} {cc : ByteArray} {nL : Nat} {rt : Option FieldType} {cells slots pc : Nat} {t : zT} {h : zH} {ls : List (Option Value)} {post : Option Value → zT → zH → Prop}
variable {p : Program} {l : Launch} {e : Env} {R : Room} {s : State} {m : MethodId} {args : Array Value} {below : List Frame} {meth : Method} {c : Code} {Q : State → Prop} {H : Heap} {locs : List Loc} {la : Array Slot}
/-- behind a call -/
theorem zk_after {st0 rest : List Value} {mc ms : Nat} {a : Array Value} (hr : va_Run p l e R s m args below meth c H locs cells slots mc ms (F0 m pc la st0) rest (zQc E b post a) (fun q => b ≤ q)) (hS : va_S (fun q => b ≤ q) s.heap H locs)
    (kk : ∀ (v : Option Value) (t' : zT) (h' : zH), post v t' h' → ∀ (H1 : Heap) (locs1 : List Loc), zHp E b t' h' H1 → va_S (fun q => b ≤ q) s.heap H1 locs1 → W p l e R s m args below meth c H1 locs1 (cells + mc) (slots + ms) Q (F0 m (pc + 3) la (v.toList ++ rest))) : W p l e R s m args below meth c H locs cells slots Q (F0 m pc la st0) := by
  intro T hT X
  obtain ⟨v, st₀, u, T', L, h0, X', hL, e1, e2, ⟨⟨v', t', h', ho, hp, hh⟩, hF⟩, st⟩ := hr T hT X
  cases ho
  rw [← h0] at hS
  obtain ⟨t2, a1, b1⟩ := kk v t' h' hp T'.heap (locs ++ L) (by rw [e1]; exact hh) ⟨Nat.le_trans hS.1 (by rw [e1]; exact hF.1), fun q h1 h2 => by rw [e1, hF.2 q (Nat.lt_of_lt_of_le h1 hS.1) h2]; exact hS.2.1 q h1 h2, fun q hq => by
    rcases List.mem_append.mp hq with h | h
    · exact hS.2.2 q h
    · exact hL q h⟩ T' rfl X'
  exact ⟨t2, st t2 a1, b1⟩
theorem zk_pre (C : zCx E b (p, l, e, R, s, m, args, below, meth, c, Q) own cc nL rt) (hH : zHp E b t h H) (hS : va_S (fun q => b ≤ q) s.heap H locs) (av : List Value) : ∀ U : State, U.heap = H → s.WarmedH U.vm → va_Pc av (zPre E b t h) av.toArray U := fun U hU hW => by
  have hbs := C.2.2.2.2.2.2.2.2
  refine ⟨rfl, by rw [hU]; exact hH, C.2.2.2.2.2.2.2.1.go hW (fun q hq => ?_), by rw [hU]; exact Nat.le_trans hbs hS.1⟩
  rw [hU]
  exact hS.2.1 q (Nat.lt_of_lt_of_le hq hbs) (Nat.not_le.mpr hq)
end ZC
theorem zk_blind {E : zE} {b : Nat} {t : zT} {h : zH} {av : List Value} : FrameBlind (va_Pc av (zPre E b t h)) := fun a U g mk q => q
section ZC2
variable {E : zE} {b : Nat} {G : zG} {own : String} {cc : ByteArray} {nL : Nat} {rt : Option FieldType} {cells slots pc D MC MS : Nat} {t : zT} {h : zH} {ls : List (Option Value)} {post : Option Value → zT → zH → Prop} {y : MethodName} {cy : ByteArray} {mly : Nat} {rty : Option FieldType} {d mc ms na idx : Nat} {rest : List Value}
theorem zk_recv {s : State} {H : Heap} {i c0 n0 : Nat} (hKs : zKs E b s) (hH : zHp E b t h H) (hK : zK t i = (c0, n0)) (hc0 : c0 < zNc) : ∃ cell : Cell, H[b + i]? = some cell ∧ cell.vm.isStatics = false ∧ s.vm.findClass (zRn c0) = some cell.cls := by
  obtain ⟨q, hq⟩ := hH.at hK (by unfold zNc at hc0; omega)
  rw [zEnt_obj hK hc0] at hq
  exact va_recv hKs.K hH.2.2 (zCl_at c0 hc0) hq
/-- room for a callee of depth d, in a body of depth D -/
def zFitB (d mly D cells mc MC slots ms MS : Nat) : Prop := d + 1 ≤ D ∧ 8 + (mly + 11) + 64 * d ≤ 64 * D ∧ cells + mc ≤ MC ∧ slots + ms ≤ MS
theorem zz_callV (C : zCx E b G own cc nL rt) (hR : zRoom G D MC MS) (As : List Value) {i c0 n0 : Nat} (hM : zMet E b G.2.1 y cy mly rty d mc ms (.ref (b + i) :: As) t h post) (hL : zLV own idx y cy mly rty na) (hna : As.length = na) (hK : zK t i = (c0, n0)) (hc0 : c0 < zNc) (hcls : zRn c0 = y.cls) (hfit : zFitB d mly D cells mc MC slots ms MS) (hcat : (rest.map fun v => v.category).sum ≤ 8) (hd : decode cc pc = .ok (.invokevirtual idx, 3))
    (kk : ∀ (v : Option Value) (t' : zT) (h' : zH), post v t' h' → zAW E b G nL (cells + mc) (slots + ms) (pc + 3) ls (v.toList ++ rest) t' h') : zAW E b G nL cells slots pc ls (As.reverse ++ .ref (b + i) :: rest) t h := by
  obtain ⟨p, l, e, R, s, m, args, below, meth, c, Q⟩ := G
  intro H locs la hH hS hl
  obtain ⟨hw, hy1, hy2, hy3⟩ := hL
  have hR1 : D ≤ R.frames := hR.1
  have hR2 : 64 * D ≤ R.locals := hR.2.1
  have hR3 : MC ≤ R.cells := hR.2.2.1
  have hR4 : MS ≤ R.slots := hR.2.2.2
  have hts := C.2.2.2.2.1
  refine zk_after (va_runV (Ts := zW) (As := As) (rest := rest) (b := b + i) ⟨C.1, C.2.1, C.2.2.1, C.2.2.2.1, hts⟩ hM (C := y.cls) (bytes := cy) (maxL := mly) (ret := rty) (n := na) ⟨callB_of na hts (zGood (fun w hw => hw) (hw _ (by simp))) rfl rfl rfl (hts _ (hw _ (by simp))) (hts _ (hw _ (by simp))) ⟨hy1, hy2, hy3⟩ ⟨Nat.le_trans hfit.1 hR1, Nat.le_trans hfit.2.1 hR2⟩, hts _ (hw _ (by simp)), hts _ (hw _ (by simp))⟩ ⟨zk_blind, ?_, zk_pre C hH hS _⟩ rfl hna hl.1 rfl (lv_room hcat) hd ⟨Nat.le_trans hfit.2.2.1 hR3, Nat.le_trans hfit.2.2.2 hR4⟩) hS (fun v t' h' hp H1 locs1 hH1 hS1 => kk v t' h' hp H1 locs1 la hH1 hS1 hl)
  rw [← hcls]
  exact zk_recv C.2.2.2.2.2.2.2.1 hH hK hc0
theorem zz_callS (C : zCx E b G own cc nL rt) (hR : zRoom G D MC MS) (As : List Value) (hM : zMet E b G.2.1 y cy mly rty d mc ms As t h post) (hL : zLS own idx y cy mly rty na) (hna : As.length = na) (hfit : zFitB d mly D cells mc MC slots ms MS) (hcat : (rest.map fun v => v.category).sum ≤ 8) (hd : decode cc pc = .ok (.invokestatic idx, 3))
    (kk : ∀ (v : Option Value) (t' : zT) (h' : zH), post v t' h' → zAW E b G nL (cells + mc) (slots + ms) (pc + 3) ls (v.toList ++ rest) t' h') : zAW E b G nL cells slots pc ls (As.reverse ++ rest) t h := by
  obtain ⟨p, l, e, R, s, m, args, below, meth, c, Q⟩ := G
  intro H locs la hH hS hl
  obtain ⟨hw, hy1, hy2, hy3⟩ := hL
  have hR1 : D ≤ R.frames := hR.1
  have hR2 : 64 * D ≤ R.locals := hR.2.1
  have hR3 : MC ≤ R.cells := hR.2.2.1
  have hR4 : MS ≤ R.slots := hR.2.2.2
  have hts := C.2.2.2.2.1
  exact zk_after (va_runS (Ts := zW) (As := As) (rest := rest) ⟨C.1, C.2.1, C.2.2.1, C.2.2.2.1, hts⟩ hM (bytes := cy) (maxL := mly) (ret := rty) (n := na) ⟨callB_of na hts (zGood (fun w hw => hw) (hw _ (by simp))) rfl rfl rfl (hts _ (hw _ (by simp))) (hts _ (hw _ (by simp))) ⟨hy1, hy2, hy3⟩ ⟨Nat.le_trans hfit.1 hR1, Nat.le_trans hfit.2.1 hR2⟩, hts _ (hw _ (by simp))⟩ ⟨zk_blind, zk_pre C hH hS _⟩ rfl hna hl.1 rfl (lv_room hcat) hd ⟨Nat.le_trans hfit.2.2.1 hR3, Nat.le_trans hfit.2.2.2 hR4⟩) hS (fun v t' h' hp H1 locs1 hH1 hS1 => kk v t' h' hp H1 locs1 la hH1 hS1 hl)
theorem zz_callI (C : zCx E b G own cc nL rt) (hR : zRoom G D MC MS) (As : List Value) {i : Nat} (hM : zMet E b G.2.1 y cy mly none d mc ms (.ref (b + i) :: As) t h post) (hL : zLI own idx y cy mly na) (hna : As.length = na) (hfit : zFitB d mly D cells mc MC slots ms MS) (hcat : (rest.map fun v => v.category).sum ≤ 8) (hd : decode cc pc = .ok (.invokespecial idx, 3))
    (kk : ∀ (v : Option Value) (t' : zT) (h' : zH), post v t' h' → zAW E b G nL (cells + mc) (slots + ms) (pc + 3) ls (v.toList ++ rest) t' h') : zAW E b G nL cells slots pc ls (As.reverse ++ .ref (b + i) :: rest) t h := by
  obtain ⟨p, l, e, R, s, m, args, below, meth, c, Q⟩ := G
  intro H locs la hH hS hl
  obtain ⟨hw, ⟨hy1, hy2, hy3⟩, hin⟩ := hL
  have hR1 : D ≤ R.frames := hR.1
  have hR2 : 64 * D ≤ R.locals := hR.2.1
  have hR3 : MC ≤ R.cells := hR.2.2.1
  have hR4 : MS ≤ R.slots := hR.2.2.2
  have hts := C.2.2.2.2.1
  exact zk_after (va_runI (Ts := zW) (As := As) (rest := rest) (b := b + i) ⟨C.1, C.2.1, C.2.2.1, C.2.2.2.1, hts⟩ hM (bytes := cy) (maxL := mly) (n := na) ⟨callB_of na hts (zGood (fun w hw => hw) (hw _ (by simp))) rfl rfl rfl (hts _ (hw _ (by simp))) (hts _ (hw _ (by simp))) ⟨hy1, hy2, hy3⟩ ⟨Nat.le_trans hfit.1 hR1, Nat.le_trans hfit.2.1 hR2⟩, hin, hts _ (hw _ (by simp))⟩ ⟨zk_blind, zk_pre C hH hS _⟩ rfl hna hl.1 rfl (lv_room hcat) hd ⟨Nat.le_trans hfit.2.2.1 hR3, Nat.le_trans hfit.2.2.2 hR4⟩) hS (fun v t' h' hp H1 locs1 hH1 hS1 => kk v t' h' hp H1 locs1 la hH1 hS1 hl)
theorem zz_callIN {host : String} (C : zCx E b G own cc nL rt) (hR : zRoom G D MC MS) (As : List Value) {i : Nat} (hM : zMet E b G.2.1 y cy mly none d mc ms (.ref (b + i) :: As) t h post) (hL : zLIN own idx y host cy mly na) (hna : As.length = na) (hfit : zFitB d mly D cells mc MC slots ms MS) (hcat : (rest.map fun v => v.category).sum ≤ 8) (hd : decode cc pc = .ok (.invokespecial idx, 3))
    (kk : ∀ (v : Option Value) (t' : zT) (h' : zH), post v t' h' → zAW E b G nL (cells + mc) (slots + ms) (pc + 3) ls (v.toList ++ rest) t' h') : zAW E b G nL cells slots pc ls (As.reverse ++ .ref (b + i) :: rest) t h := by
  obtain ⟨p, l, e, R, s, m, args, below, meth, c, Q⟩ := G
  intro H locs la hH hS hl
  obtain ⟨hw, hy, hin, hnest⟩ := hL
  have hR1 : D ≤ R.frames := hR.1
  have hR2 : 64 * D ≤ R.locals := hR.2.1
  have hR3 : MC ≤ R.cells := hR.2.2.1
  have hR4 : MS ≤ R.slots := hR.2.2.2
  have hts := C.2.2.2.2.1
  exact zk_after (va_runIN (Ts := zW) (As := As) (rest := rest) (b := b + i) ⟨C.1, C.2.1, C.2.2.1, C.2.2.2.1, hts⟩ hM (bytes := cy) (maxL := mly) (n := na) ⟨va_cnB na hts (zGood (fun w hw => hw) (hw _ (by simp))) rfl rfl rfl (C.2.2.2.2.2.2.2.1.nest hnest) (hts _ (hw _ (by simp))) hy ⟨Nat.le_trans hfit.1 hR1, Nat.le_trans hfit.2.1 hR2⟩, hin, hts _ (hw _ (by simp))⟩ ⟨zk_blind, zk_pre C hH hS _⟩ rfl hna hl.1 rfl (lv_room hcat) hd ⟨Nat.le_trans hfit.2.2.1 hR3, Nat.le_trans hfit.2.2.2 hR4⟩) hS (fun v t' h' hp H1 locs1 hH1 hS1 => kk v t' h' hp H1 locs1 la hH1 hS1 hl)
theorem zz_callVN {host : String} (C : zCx E b G own cc nL rt) (hR : zRoom G D MC MS) (As : List Value) {i c0 n0 : Nat} (hM : zMet E b G.2.1 y cy mly rty d mc ms (.ref (b + i) :: As) t h post) (hL : zLVN own idx y host cy mly rty na) (hna : As.length = na) (hK : zK t i = (c0, n0)) (hc0 : c0 < zNc) (hcls : zRn c0 = y.cls) (hfit : zFitB d mly D cells mc MC slots ms MS) (hcat : (rest.map fun v => v.category).sum ≤ 8) (hd : decode cc pc = .ok (.invokevirtual idx, 3))
    (kk : ∀ (v : Option Value) (t' : zT) (h' : zH), post v t' h' → zAW E b G nL (cells + mc) (slots + ms) (pc + 3) ls (v.toList ++ rest) t' h') : zAW E b G nL cells slots pc ls (As.reverse ++ .ref (b + i) :: rest) t h := by
  obtain ⟨p, l, e, R, s, m, args, below, meth, c, Q⟩ := G
  intro H locs la hH hS hl
  obtain ⟨hw, hy, hnest⟩ := hL
  have hR1 : D ≤ R.frames := hR.1
  have hR2 : 64 * D ≤ R.locals := hR.2.1
  have hR3 : MC ≤ R.cells := hR.2.2.1
  have hR4 : MS ≤ R.slots := hR.2.2.2
  have hts := C.2.2.2.2.1
  refine zk_after (va_runVN (Ts := zW) (As := As) (rest := rest) (b := b + i) ⟨C.1, C.2.1, C.2.2.1, C.2.2.2.1, hts⟩ hM (C := y.cls) (bytes := cy) (maxL := mly) (ret := rty) (n := na) ⟨va_cnB na hts (zGood (fun w hw => hw) (hw _ (by simp))) rfl rfl rfl (C.2.2.2.2.2.2.2.1.nest hnest) (hts _ (hw _ (by simp))) hy ⟨Nat.le_trans hfit.1 hR1, Nat.le_trans hfit.2.1 hR2⟩, hts _ (hw _ (by simp)), hts _ (hw _ (by simp))⟩ ⟨zk_blind, ?_, zk_pre C hH hS _⟩ rfl hna hl.1 rfl (lv_room hcat) hd ⟨Nat.le_trans hfit.2.2.1 hR3, Nat.le_trans hfit.2.2.2 hR4⟩) hS (fun v t' h' hp H1 locs1 hH1 hS1 => kk v t' h' hp H1 locs1 la hH1 hS1 hl)
  rw [← hcls]
  exact zk_recv C.2.2.2.2.2.2.2.1 hH hK hc0
end ZC2
