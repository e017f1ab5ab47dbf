/-! ===== fields and arrays ===== -/
def zFc (ty : FieldType) : Nat := match ty with
  | .long => 1
  | .object _ => 2
  | .array _ => 2
  | _ => 0
/-- a field by its pool place: class c, slot k, its kind f -/
def zFd (own : String) (idx c k f : Nat) : Prop := c < zNc ∧ k < zNf c ∧ Cond.fieldLink own idx (zTb c k).1 (zTb c k).2.1 (zTb c k).2.2.1 ∈ zW ∧ zFc (zTy c k) = f
theorem zFv_0 {b : Nat} {t : zT} {h : zH} {i k : Nat} {ty : FieldType} (hf : zFc ty = 0) : zFv b t h i k ty = .int (zI h i k) := by
  cases ty <;> first | rfl | (simp [zFc] at hf)
theorem zFv_1 {b : Nat} {t : zT} {h : zH} {i k : Nat} {ty : FieldType} (hf : zFc ty = 1) : zFv b t h i k ty = .long (zL h i k) := by
  cases ty <;> first | rfl | (simp [zFc] at hf)
theorem zFv_2 {b : Nat} {t : zT} {h : zH} {i k : Nat} {ty : FieldType} (hf : zFc ty = 2) : zFv b t h i k ty = va_rf (zRv b (zR t i k)) := by
  cases ty <;> first | rfl | (simp [zFc] at hf)
theorem zHp.lt {E : zE} {b : Nat} {t : zT} {h : zH} {H : Heap} (hH : zHp E b t h H) {i c n : Nat} (hK : zK t i = (c, n)) (hc : c < 16) : i < t.1.1 := hH.2.1 i (by rw [hK]; exact hc)
theorem zHp.at {E : zE} {b : Nat} {t : zT} {h : zH} {H : Heap} (hH : zHp E b t h H) {i c n : Nat} (hK : zK t i = (c, n)) (hc : c < 16) : ∃ k : Nat, (zWd E b t h)[k]? = some (b + i, zEnt E b t h i) := zWd_get (hH.lt hK hc) (by rw [hK]; exact hc)
/-- a store into the cell of i: what comes of the world -/
theorem zHp.put {E : zE} {b : Nat} {t t' : zT} {h h' : zH} {H H1 : Heap} {i c n k : Nat} {e : va_E} (hH : zHp E b t h H) (hK : zK t i = (c, n)) (hc : c < 16) (hg : (zWd E b t h)[k]? = some (b + i, zEnt E b t h i)) (ht : t'.1 = t.1) (htk : t'.2.1 = t.2.1) (he : zEnt E b t' h' i = e) (ho : ∀ j, j ≠ i → zEnt E b t' h' j = zEnt E b t h j) (hat : va_at E.1 vwCl (b + i, e) H1) (hz : H1.size = H.size) (oq : ∀ q : Nat, q ≠ b + i → H1[q]? = H[q]?) : zHp E b t' h' H1 := by
  refine ⟨by rw [hz, ht]; exact hH.1, fun j hj => ?_, ?_⟩
  · rw [ht]
    exact hH.2.1 j (by unfold zK at hj ⊢; rw [htk] at hj; exact hj)
  · have hD := zWd_D E b t h
    have h1 := hH.2.2.set hD hg hat oq
    rw [zWd_set (hH.lt hK hc) (by rw [hK]; exact hc) hg (by rw [ht]) htk he ho] at h1
    exact h1
section ZR
variable {E : zE} {b : Nat} {G : zG} {own : String} {cc : ByteArray} {nL : Nat} {rt : Option FieldType} {cells slots pc : Nat} {t : zT} {h : zH} {ls : List (Option Value)} {st : List Value}
theorem zz_getI (C : zCx E b G own cc nL rt) {idx c k i n : Nat} (F : zFd own idx c k 0) (hK : zK t i = (c, n)) (hd : decode cc pc = .ok (.getfield idx, 3)) (kk : zAW E b G nL cells slots (pc + 3) ls (.int (zI h i k) :: st) t h) : zAW E b G nL cells slots pc ls (.ref (b + i) :: st) t h := by
  obtain ⟨p, l, e, R, s, m, args, below, meth, cd, Q⟩ := G
  intro H locs la hH hS hl
  obtain ⟨hc, hk, hw, hf⟩ := F
  obtain ⟨q, hq⟩ := hH.at hK (by unfold zNc at hc; omega)
  rw [zEnt_obj hK hc] at hq
  have hv := zFs_at (b := b) (t := t) (h := h) (i := i) hk
  rw [zFv_0 hf] at hv
  exact va_get (C := zRn c) (T := zTb c) (N := zNf c) (ci := c) C.1 C.2.1 C.2.2.2.2.1 (zCl_ws c hc) C.2.2.2.1 C.2.2.2.2.2.2.2.1.K hH.2.2 q hq (zCl_at c hc) k hk (C.2.2.2.2.1 _ hw) (fun _ h9 => h9) hv hd (kk H locs la hH hS hl)
theorem zz_getL (C : zCx E b G own cc nL rt) {idx c k i n : Nat} (F : zFd own idx c k 1) (hK : zK t i = (c, n)) (hd : decode cc pc = .ok (.getfield idx, 3)) (kk : zAW E b G nL cells slots (pc + 3) ls (.long (zL h i k) :: st) t h) : zAW E b G nL cells slots pc ls (.ref (b + i) :: st) t h := by
  obtain ⟨p, l, e, R, s, m, args, below, meth, cd, Q⟩ := G
  intro H locs la hH hS hl
  obtain ⟨hc, hk, hw, hf⟩ := F
  obtain ⟨q, hq⟩ := hH.at hK (by unfold zNc at hc; omega)
  rw [zEnt_obj hK hc] at hq
  have hv := zFs_at (b := b) (t := t) (h := h) (i := i) hk
  rw [zFv_1 hf] at hv
  exact va_get (C := zRn c) (T := zTb c) (N := zNf c) (ci := c) C.1 C.2.1 C.2.2.2.2.1 (zCl_ws c hc) C.2.2.2.1 C.2.2.2.2.2.2.2.1.K hH.2.2 q hq (zCl_at c hc) k hk (C.2.2.2.2.1 _ hw) (fun _ h9 => h9) hv hd (kk H locs la hH hS hl)
theorem zz_getR (C : zCx E b G own cc nL rt) {idx c k i n j : Nat} (F : zFd own idx c k 2) (hK : zK t i = (c, n)) (hR : zR t i k = some j) (hd : decode cc pc = .ok (.getfield idx, 3)) (kk : zAW E b G nL cells slots (pc + 3) ls (.ref (b + j) :: st) t h) : zAW E b G nL cells slots pc ls (.ref (b + i) :: st) t h := by
  obtain ⟨p, l, e, R, s, m, args, below, meth, cd, Q⟩ := G
  intro H locs la hH hS hl
  obtain ⟨hc, hk, hw, hf⟩ := F
  obtain ⟨q, hq⟩ := hH.at hK (by unfold zNc at hc; omega)
  rw [zEnt_obj hK hc] at hq
  have hv := zFs_at (b := b) (t := t) (h := h) (i := i) hk
  rw [zFv_2 hf, hR] at hv
  exact va_get (C := zRn c) (T := zTb c) (N := zNf c) (ci := c) C.1 C.2.1 C.2.2.2.2.1 (zCl_ws c hc) C.2.2.2.1 C.2.2.2.2.2.2.2.1.K hH.2.2 q hq (zCl_at c hc) k hk (C.2.2.2.2.1 _ hw) (fun _ h9 => h9) hv hd (kk H locs la hH hS hl)
/-- the machine's part of a store into a field that isn't final -/
theorem zk_put {p : Program} {l : Launch} {e : Env} {R : Room} {s : State} {m : MethodId} {args : Array Value} {below : List Frame} {meth : Method} {cd : Code} {Q : State → Prop} (C : zCx E b (p, l, e, R, s, m, args, below, meth, cd, Q) own cc nL rt) {H : Heap} {locs : List Loc} {la : Array Slot} (hH : zHp E b t h H) (hS : va_S (fun q => b ≤ q) s.heap H locs) {idx c k i n f : Nat} {v : Value} (F : zFd own idx c k f) (hfin : (zTb c k).2.2.2 = false) (hK : zK t i = (c, n)) (hn : narrow (zTy c k) v = v) (hfit : fits (zTy c k) v = true) {t' : zT} {h' : zH} (ht : t'.1 = t.1) (htk : t'.2.1 = t.2.1) (hv : zFv b t' h' i k (zTy c k) = v) (hvo : ∀ j, j ≠ k → zFv b t' h' i j (zTy c j) = zFv b t h i j (zTy c j)) (ho : ∀ j, j ≠ i → zEnt E b t' h' j = zEnt E b t h j) (hd : decode cc pc = .ok (.putfield idx, 3)) (kk : ∀ (H1 : Heap) (locs1 : List Loc), zHp E b t' h' H1 → va_S (fun q => b ≤ q) s.heap H1 locs1 → W p l e R s m args below meth cd H1 locs1 cells slots Q (F0 m (pc + 3) la st)) : W p l e R s m args below meth cd H locs cells slots Q (F0 m pc la (v :: .ref (b + i) :: st)) := by
  obtain ⟨hc, hk, hw, hf⟩ := F
  have hc16 : c < 16 := by unfold zNc at hc; omega
  obtain ⟨q, hq⟩ := hH.at hK hc16
  have hq2 := hq
  rw [zEnt_obj hK hc] at hq2
  have hKs := C.2.2.2.2.2.2.2.1.K
  have hts := C.2.2.2.2.1
  have hcl := zCl_at c hc
  have hap := va_apart (own := own) hts (zCl_ws c hc) (zTy c) (zCl_ty c hc) (zCl_nm c hc) hKs hcl
  obtain ⟨r, h1, cell, q1, q2, q3, q4⟩ := hH.2.2 q _ hq2
  have hr : r = (zRn c, zTb c, zNf c) := Option.some.inj (h1.symm.trans hcl)
  subst hr
  obtain ⟨hSl, hfc, kC, hkC, hkind⟩ := hKs.1 c _ hcl
  obtain ⟨cf, kf, fi, fd, hi, hsl⟩ := hSl k hk
  have hlay := hts _ (zCl_ws c hc _ (u_in_lay hk))
  unfold u_lay at hlay
  rw [if_neg (by rw [hfin]; decide)] at hlay
  have hst := (u_facts hfc hkC (u_lays hts (zCl_ws c hc) hk) hi).1
  have h6 := u_store hfc hkC hkind hlay hi (zCl_ty c hc k hk) hn hfit
  refine W.putK C.1 C.2.1 (f := fd) ⟨C.2.2.2.1, hts _ hw, ⟨_, _, _, hi⟩, hst⟩ (by rw [q2]; exact h6) q1 q3 (by rw [hsl]; exact k2_hasslot (q4 k hk)) rfl rfl hd fun H1 e1 e2 e3 => ?_
  rw [hsl] at e1 ⊢
  have hK' : zK t' i = (c, n) := by unfold zK at hK ⊢; rw [htk]; exact hK
  refine kk H1 _ (hH.put hK hc16 hq ht htk (zEnt_obj hK' hc) ho ⟨_, hcl, t_OB.to (V := updV (vp_V (zFs b t h i c)) k v) ⟨_, e1, q2, q3, t_set q4 hap hk v⟩ (fun j hj => ?_)⟩ e2 e3) (hS.put e2 e3 (Nat.le_add_right b i))
  rw [← zFs_set hv hvo]
  exact vp_updV_set (by rw [zFs_len]; exact hk) v j
/-- the machine's part of a constructor's store into a final field of its own class -/
theorem zk_putF {p : Program} {l : Launch} {e : Env} {R : Room} {s : State} {m : MethodId} {args : Array Value} {below : List Frame} {meth : Method} {cd : Code} {Q : State → Prop} (C : zCx E b (p, l, e, R, s, m, args, below, meth, cd, Q) own cc nL rt) (hin2 : meth.name = "<init>") {H : Heap} {locs : List Loc} {la : Array Slot} (hH : zHp E b t h H) (hS : va_S (fun q => b ≤ q) s.heap H locs) {idx c k i n f : Nat} {v : Value} (F : zFd own idx c k f) (hfin : (zTb c k).2.2.2 = true) (hdecl : (zTb c k).1 = own) (hK : zK t i = (c, n)) (hn : narrow (zTy c k) v = v) (hfit : fits (zTy c k) v = true) {t' : zT} {h' : zH} (ht : t'.1 = t.1) (htk : t'.2.1 = t.2.1) (hv : zFv b t' h' i k (zTy c k) = v) (hvo : ∀ j, j ≠ k → zFv b t' h' i j (zTy c j) = zFv b t h i j (zTy c j)) (ho : ∀ j, j ≠ i → zEnt E b t' h' j = zEnt E b t h j) (hd : decode cc pc = .ok (.putfield idx, 3)) (kk : ∀ (H1 : Heap) (locs1 : List Loc), zHp E b t' h' H1 → va_S (fun q => b ≤ q) s.heap H1 locs1 → W p l e R s m args below meth cd H1 locs1 cells slots Q (F0 m (pc + 3) la st)) : W p l e R s m args below meth cd H locs cells slots Q (F0 m pc la (v :: .ref (b + i) :: st)) := by
  obtain ⟨hc, hk, hw, hf⟩ := F
  have hc16 : c < 16 := by unfold zNc at hc; omega
  obtain ⟨q, hq⟩ := hH.at hK hc16
  have hq2 := hq
  rw [zEnt_obj hK hc] at hq2
  have hKs := C.2.2.2.2.2.2.2.1.K
  have hts := C.2.2.2.2.1
  have hcl := zCl_at c hc
  have hap := va_apart (own := own) hts (zCl_ws c hc) (zTy c) (zCl_ty c hc) (zCl_nm c hc) hKs hcl
  obtain ⟨r, h1, cell, q1, q2, q3, q4⟩ := hH.2.2 q _ hq2
  have hr : r = (zRn c, zTb c, zNf c) := Option.some.inj (h1.symm.trans hcl)
  subst hr
  obtain ⟨hSl, hfc, kC, hkC, hkind⟩ := hKs.1 c _ hcl
  obtain ⟨cf, kf, fi, fd, hi, hsl⟩ := hSl k hk
  have hlay := hts _ (zCl_ws c hc _ (u_in_lay hk))
  unfold u_lay at hlay
  rw [if_pos hfin] at hlay
  have hst := (u_facts hfc hkC (u_lays hts (zCl_ws c hc) hk) hi).1
  have hcf : m.cls = cf := by
    obtain ⟨_, _, c', _, _, _, -, -, hf', -, -, -, hown2, -⟩ := Cond.laysFinal_spec hlay
    have e1 : c' = cf := by have := hi.symm.trans hf'; simp at this; exact this.1.symm
    rw [hdecl] at hown2
    rw [← e1]; exact Option.some.inj (C.2.2.2.1.symm.trans hown2)
  have h6 := u_fits hfc hkC hkind (Or.inr hlay) hi (zCl_ty c hc k hk) hn hfit
  refine W.putFinK C.1 C.2.1 C.2.2.2.1 (hts _ hw) hi hst hcf hin2 (by rw [q2]; exact h6) q1 q3 (by rw [hsl]; exact k2_hasslot (q4 k hk)) rfl rfl hd fun H1 e1 e2 e3 => ?_
  rw [hsl] at e1 ⊢
  have hK' : zK t' i = (c, n) := by unfold zK at hK ⊢; rw [htk]; exact hK
  refine kk H1 _ (hH.put hK hc16 hq ht htk (zEnt_obj hK' hc) ho ⟨_, hcl, t_OB.to (V := updV (vp_V (zFs b t h i c)) k v) ⟨_, e1, q2, q3, t_set q4 hap hk v⟩ (fun j hj => ?_)⟩ e2 e3) (hS.put e2 e3 (Nat.le_add_right b i))
  rw [← zFs_set hv hvo]
  exact vp_updV_set (by rw [zFs_len]; exact hk) v j
end ZR
