/-! ===== what a store leaves, by lookups ===== -/
theorem zFv_sI {b : Nat} {t : zT} {h : zH} {i k j : Nat} {v : Int32} {ty : FieldType} (hj : j ≠ k) : zFv b t (zsI h i k v) i j ty = zFv b t h i j ty := by
  have hI : zI (zsI h i k v) i j = zI h i j := by
    show (if i = i ∧ j = k then v else h.1 i j) = h.1 i j
    rw [if_neg (fun x => hj x.2)]
  unfold zFv
  split <;> first | rfl | rw [hI]
theorem zFv_sL {b : Nat} {t : zT} {h : zH} {i k j : Nat} {v : Int64} {ty : FieldType} (hj : j ≠ k) : zFv b t (zsL h i k v) i j ty = zFv b t h i j ty := by
  have hI : zL (zsL h i k v) i j = zL h i j := by
    show (if i = i ∧ j = k then v else h.2 i j) = h.2 i j
    rw [if_neg (fun x => hj x.2)]
  unfold zFv
  split <;> first | rfl | rw [hI]
theorem zFv_sR {b : Nat} {t : zT} {h : zH} {i k j : Nat} {v : Option Nat} {ty : FieldType} (hj : j ≠ k) : zFv b (zsR t i k v) h i j ty = zFv b t h i j ty := by
  have hI : zR (zsR t i k v) i j = zR t i j := by
    show (if i = i ∧ j = k then v else t.2.2 i j) = t.2.2 i j
    rw [if_neg (fun x => hj x.2)]
  unfold zFv
  split <;> first | rfl | rw [hI]
theorem zI_self (h : zH) (i k : Nat) (v : Int32) : zI (zsI h i k v) i k = v := by
  show (if i = i ∧ k = k then v else h.1 i k) = v
  rw [if_pos ⟨rfl, rfl⟩]
theorem zL_self (h : zH) (i k : Nat) (v : Int64) : zL (zsL h i k v) i k = v := by
  show (if i = i ∧ k = k then v else h.2 i k) = v
  rw [if_pos ⟨rfl, rfl⟩]
theorem zR_self (t : zT) (i k : Nat) (v : Option Nat) : zR (zsR t i k v) i k = v := by
  show (if i = i ∧ k = k then v else t.2.2 i k) = v
  rw [if_pos ⟨rfl, rfl⟩]
theorem zI_sI (h : zH) (i k j q : Nat) (v : Int32) : zI (zsI h i k v) j q = if j = i ∧ q = k then v else zI h j q := rfl
theorem zL_sL (h : zH) (i k j q : Nat) (v : Int64) : zL (zsL h i k v) j q = if j = i ∧ q = k then v else zL h j q := rfl
theorem zR_sR (t : zT) (i k j q : Nat) (v : Option Nat) : zR (zsR t i k v) j q = if j = i ∧ q = k then v else zR t j q := rfl
theorem zI_sL (h : zH) (i k j q : Nat) (v : Int64) : zI (zsL h i k v) j q = zI h j q := rfl
theorem zL_sI (h : zH) (i k j q : Nat) (v : Int32) : zL (zsI h i k v) j q = zL h j q := rfl
theorem zK_sR (t : zT) (i k j : Nat) (v : Option Nat) : zK (zsR t i k v) j = zK t j := rfl
theorem zI_rI (h : zH) (i j q : Nat) (f : Nat → Int32) : zI (zrI h i f) j q = if j = i then f q else zI h j q := by
  show (if j = i then f else h.1 j) q = _
  split <;> rfl
theorem zL_rI (h : zH) (i j q : Nat) (f : Nat → Int32) : zL (zrI h i f) j q = zL h j q := rfl
theorem zI_rL (h : zH) (i j q : Nat) (f : Nat → Int64) : zI (zrL h i f) j q = zI h j q := rfl
theorem zL_rL (h : zH) (i j q : Nat) (f : Nat → Int64) : zL (zrL h i f) j q = if j = i then f q else zL h j q := by
  show (if j = i then f else h.2 j) q = _
  split <;> rfl
section ZR
variable {E : zE} {b : Nat} {G : zG} {own : String} {cc : ByteArray} {nL : Nat} {rt : Option FieldType} {cells slots pc : Nat} {t : zT} {h : zH} {ls : List (Option Value)} {st : List Value}
/-- a store into an int field -/
theorem zz_putI (C : zCx E b G own cc nL rt) {idx c k i n : Nat} {v : Int32} (F : zFd own idx c k 0) (hfin : (zTb c k).2.2.2 = false) (hty : zTy c k = .int) (hK : zK t i = (c, n)) (hd : decode cc pc = .ok (.putfield idx, 3)) (kk : zAW E b G nL cells slots (pc + 3) ls st t (zsI h i k v)) : zAW E b G nL cells slots pc ls (.int v :: .ref (b + i) :: st) t h := by
  obtain ⟨p, l, e, R, s, m, args, below, meth, cd, Q⟩ := G
  intro H locs la hH hS hl
  exact zk_put C hH hS F hfin hK (by rw [hty]; rfl) (by rw [hty]; rfl) rfl rfl (by rw [zFv_0 F.2.2.2, zI_self]) (fun j hj => zFv_sI hj) (fun j hj => zEnt_sI hj) hd (fun H1 locs1 hH1 hS1 => kk H1 locs1 la hH1 hS1 hl)
/-- a store into a boolean field -/
theorem zz_putZ (C : zCx E b G own cc nL rt) {idx c k i n : Nat} {v : Int32} (F : zFd own idx c k 0) (hfin : (zTb c k).2.2.2 = false) (hty : zTy c k = .boolean) (hv : v = 0 ∨ v = 1) (hK : zK t i = (c, n)) (hd : decode cc pc = .ok (.putfield idx, 3)) (kk : zAW E b G nL cells slots (pc + 3) ls st t (zsI h i k v)) : zAW E b G nL cells slots pc ls (.int v :: .ref (b + i) :: st) t h := by
  obtain ⟨p, l, e, R, s, m, args, below, meth, cd, Q⟩ := G
  intro H locs la hH hS hl
  exact zk_put C hH hS F hfin hK (by rw [hty]; rcases hv with rfl | rfl <;> rfl) (by rw [hty]; rcases hv with rfl | rfl <;> rfl) rfl rfl (by rw [zFv_0 F.2.2.2, zI_self]) (fun j hj => zFv_sI hj) (fun j hj => zEnt_sI hj) hd (fun H1 locs1 hH1 hS1 => kk H1 locs1 la hH1 hS1 hl)
theorem zz_putL (C : zCx E b G own cc nL rt) {idx c k i n : Nat} {v : Int64} (F : zFd own idx c k 1) (hfin : (zTb c k).2.2.2 = false) (hty : zTy c k = .long) (hK : zK t i = (c, n)) (hd : decode cc pc = .ok (.putfield idx, 3)) (kk : zAW E b G nL cells slots (pc + 3) ls st t (zsL h i k v)) : zAW E b G nL cells slots pc ls (.long v :: .ref (b + i) :: st) t h := by
  obtain ⟨p, l, e, R, s, m, args, below, meth, cd, Q⟩ := G
  intro H locs la hH hS hl
  exact zk_put C hH hS F hfin hK (by rw [hty]; rfl) (by rw [hty]; rfl) rfl rfl (by rw [zFv_1 F.2.2.2, zL_self]) (fun j hj => zFv_sL hj) (fun j hj => zEnt_sL hj) hd (fun H1 locs1 hH1 hS1 => kk H1 locs1 la hH1 hS1 hl)
theorem zRef_narrow {ty : FieldType} (hf : zFc ty = 2) (a : Nat) : narrow ty (.ref a) = .ref a ∧ fits ty (.ref a) = true := by
  cases ty <;> first | exact ⟨rfl, rfl⟩ | (simp [zFc] at hf)
theorem zz_putR (C : zCx E b G own cc nL rt) {idx c k i n j : Nat} (F : zFd own idx c k 2) (hfin : (zTb c k).2.2.2 = false) (hK : zK t i = (c, n)) (hd : decode cc pc = .ok (.putfield idx, 3)) (kk : zAW E b G nL cells slots (pc + 3) ls st (zsR t i k (some j)) h) : zAW E b G nL cells slots pc ls (.ref (b + j) :: .ref (b + i) :: st) t h := by
  obtain ⟨p, l, e, R, s, m, args, below, meth, cd, Q⟩ := G
  intro H locs la hH hS hl
  exact zk_put (t' := zsR t i k (some j)) C hH hS F hfin hK (zRef_narrow F.2.2.2 _).1 (zRef_narrow F.2.2.2 _).2 rfl rfl (by rw [zFv_2 F.2.2.2, zR_self]; rfl) (fun j hj => zFv_sR hj) (fun j hj => zEnt_sR hj) hd (fun H1 locs1 hH1 hS1 => kk H1 locs1 la hH1 hS1 hl)
/-- a constructor's store into a final field -/
theorem zz_putRF (C : zCx E b G own cc nL rt) {idx c k i n j : Nat} (hin : G.2.2.2.2.2.2.2.2.1.name = "<init>") (F : zFd own idx c k 2) (hfin : (zTb c k).2.2.2 = true) (hdecl : (zTb c k).1 = own) (hK : zK t i = (c, n)) (hd : decode cc pc = .ok (.putfield idx, 3)) (kk : zAW E b G nL cells slots (pc + 3) ls st (zsR t i k (some j)) h) : zAW E b G nL cells slots pc ls (.ref (b + j) :: .ref (b + i) :: st) t h := by
  obtain ⟨p, l, e, R, s, m, args, below, meth, cd, Q⟩ := G
  intro H locs la hH hS hl
  exact zk_putF (t' := zsR t i k (some j)) C hin hH hS F hfin hdecl hK (zRef_narrow F.2.2.2 _).1 (zRef_narrow F.2.2.2 _).2 rfl rfl (by rw [zFv_2 F.2.2.2, zR_self]; rfl) (fun j hj => zFv_sR hj) (fun j hj => zEnt_sR hj) hd (fun H1 locs1 hH1 hS1 => kk H1 locs1 la hH1 hS1 hl)
/-- arrays -/
theorem zz_iaload (C : zCx E b G own cc nL rt) {i n : Nat} {x : Int32} (hK : zK t i = (12, n)) (hin : vp_in x n) (hd : decode cc pc = .ok (.iaload, 1)) (kk : zAW E b G nL cells slots (pc + 1) ls (.int (zI h i x.toNatClampNeg) :: st) t h) : zAW E b G nL cells slots pc ls (.int x :: .ref (b + i) :: st) t h := by
  obtain ⟨p, l, e, R, s, m, args, below, meth, cd, Q⟩ := G
  intro H locs la hH hS hl
  obtain ⟨q, hq⟩ := hH.at hK (by omega)
  rw [zEnt_I hK] at hq
  exact va_iald C.1 C.2.1 C.2.2.2.2.2.2.2.1.K hH.2.2 q 0 hq rfl hin hd (kk H locs la hH hS hl)
theorem zz_laload (C : zCx E b G own cc nL rt) {i n : Nat} {x : Int32} (hK : zK t i = (13, n)) (hin : vp_in x n) (hd : decode cc pc = .ok (.laload, 1)) (kk : zAW E b G nL cells slots (pc + 1) ls (.long (zL h i x.toNatClampNeg) :: st) t h) : zAW E b G nL cells slots pc ls (.int x :: .ref (b + i) :: st) t h := by
  obtain ⟨p, l, e, R, s, m, args, below, meth, cd, Q⟩ := G
  intro H locs la hH hS hl
  obtain ⟨q, hq⟩ := hH.at hK (by omega)
  rw [zEnt_L hK] at hq
  exact va_lald C.1 C.2.1 C.2.2.2.2.2.2.2.1.K hH.2.2 q 1 hq rfl hin hd (kk H locs la hH hS hl)
/-- State[] and int[][] -/
theorem zz_aaloadS (C : zCx E b G own cc nL rt) {i n j : Nat} {x : Int32} (hK : zK t i = (14, n)) (hin : vp_in x n) (hR : zR t i x.toNatClampNeg = some j) (hd : decode cc pc = .ok (.aaload, 1)) (kk : zAW E b G nL cells slots (pc + 1) ls (.ref (b + j) :: st) t h) : zAW E b G nL cells slots pc ls (.int x :: .ref (b + i) :: st) t h := by
  obtain ⟨p, l, e, R, s, m, args, below, meth, cd, Q⟩ := G
  intro H locs la hH hS hl
  obtain ⟨q, hq⟩ := hH.at hK (by omega)
  rw [zEnt_S hK] at hq
  have hlt : x.toNatClampNeg < n := Nat.not_le.mp fun q => hin (Or.inr q)
  have hK2 := C.2.2.2.2.2.2.2.1.K
  exact W.aald (v := .ref (b + j)) (ty := .object "MendingRoads$State") C.1 C.2.1 (hH.2.2 q _ hq) ((hK2.2 2 _ rfl).1 n (fun j => va_rf (zRv b (zR t i j)))) rfl (fun q => by cases q) (by show ¬ (x < 0 ∨ (arrV _ _ _).slots.size ≤ _); rw [arrV_size]; exact hin) (by show (arrV _ _ _).slots[_]? = _; rw [arrV_read _ _ hlt]; show some (va_rf (zRv b (zR t i x.toNatClampNeg))) = _; rw [hR]; rfl) rfl rfl hd (kk H locs la hH hS hl)
theorem zz_aaloadA (C : zCx E b G own cc nL rt) {i n j : Nat} {x : Int32} (hK : zK t i = (15, n)) (hin : vp_in x n) (hR : zR t i x.toNatClampNeg = some j) (hd : decode cc pc = .ok (.aaload, 1)) (kk : zAW E b G nL cells slots (pc + 1) ls (.ref (b + j) :: st) t h) : zAW E b G nL cells slots pc ls (.int x :: .ref (b + i) :: st) t h := by
  obtain ⟨p, l, e, R, s, m, args, below, meth, cd, Q⟩ := G
  intro H locs la hH hS hl
  obtain ⟨q, hq⟩ := hH.at hK (by omega)
  rw [zEnt_A hK] at hq
  have hlt : x.toNatClampNeg < n := Nat.not_le.mp fun q => hin (Or.inr q)
  have hK2 := C.2.2.2.2.2.2.2.1.K
  exact W.aald (v := .ref (b + j)) (ty := .array .int) C.1 C.2.1 (hH.2.2 q _ hq) ((hK2.2 3 _ rfl).1 n (fun j => va_rf (zRv b (zR t i j)))) rfl (fun q => by cases q) (by show ¬ (x < 0 ∨ (arrV _ _ _).slots.size ≤ _); rw [arrV_size]; exact hin) (by show (arrV _ _ _).slots[_]? = _; rw [arrV_read _ _ hlt]; show some (va_rf (zRv b (zR t i x.toNatClampNeg))) = _; rw [hR]; rfl) rfl rfl hd (kk H locs la hH hS hl)
theorem zz_iastore (C : zCx E b G own cc nL rt) {i n : Nat} {x v : Int32} (hK : zK t i = (12, n)) (hin : vp_in x n) (hd : decode cc pc = .ok (.iastore, 1)) (kk : zAW E b G nL cells slots (pc + 1) ls st t (zsI h i x.toNatClampNeg v)) : zAW E b G nL cells slots pc ls (.int v :: .int x :: .ref (b + i) :: st) t h := by
  obtain ⟨p, l, e, R, s, m, args, below, meth, cd, Q⟩ := G
  intro H locs la hH hS hl
  obtain ⟨q, hq⟩ := hH.at hK (by omega)
  have hq2 := hq
  rw [zEnt_I hK] at hq2
  refine W.iast C.1 C.2.1 (hH.2.2 q _ hq2) ((C.2.2.2.2.2.2.2.1.K.2 0 _ rfl).1 n (fun j => .int (zI h i j))) (fun q => by cases q) (by show ¬ (x < 0 ∨ (arrV _ _ _).slots.size ≤ _); rw [arrV_size]; exact hin) rfl rfl hd fun H1 e1 z oq => ?_
  refine kk H1 _ la (hH.put hK (by omega) hq rfl rfl (zEnt_I (E := E) (h := zsI h i x.toNatClampNeg v) hK) (fun j hj => zEnt_sI hj) ?_ z oq) (hS.put z oq (Nat.le_add_right b i)) hl
  show H1[b + i]? = some (vp_cell _ _)
  rw [e1, vp_cell_i, vp_cell_i, arrV_store]
  congr 2
  funext q
  by_cases hq : q = x.toNatClampNeg
  · subst hq
    simp [updV, zI_self]
  · simp [updV, zI_sI, hq]
theorem zz_lastore (C : zCx E b G own cc nL rt) {i n : Nat} {x : Int32} {v : Int64} (hK : zK t i = (13, n)) (hin : vp_in x n) (hd : decode cc pc = .ok (.lastore, 1)) (kk : zAW E b G nL cells slots (pc + 1) ls st t (zsL h i x.toNatClampNeg v)) : zAW E b G nL cells slots pc ls (.long v :: .int x :: .ref (b + i) :: st) t h := by
  obtain ⟨p, l, e, R, s, m, args, below, meth, cd, Q⟩ := G
  intro H locs la hH hS hl
  obtain ⟨q, hq⟩ := hH.at hK (by omega)
  have hq2 := hq
  rw [zEnt_L hK] at hq2
  refine W.last C.1 C.2.1 (hH.2.2 q _ hq2) ((C.2.2.2.2.2.2.2.1.K.2 1 _ rfl).1 n (fun j => .long (zL h i j))) (fun q => by cases q) (by show ¬ (x < 0 ∨ (arrV _ _ _).slots.size ≤ _); rw [arrV_size]; exact hin) rfl rfl hd fun H1 e1 z oq => ?_
  refine kk H1 _ la (hH.put hK (by omega) hq rfl rfl (zEnt_L (E := E) (h := zsL h i x.toNatClampNeg v) hK) (fun j hj => zEnt_sL hj) ?_ z oq) (hS.put z oq (Nat.le_add_right b i)) hl
  show H1[b + i]? = some (vp_cell _ _)
  rw [e1, vp_cell_l, vp_cell_l, arrV_store]
  congr 2
  funext q
  by_cases hq : q = x.toNatClampNeg
  · subst hq
    simp [updV, zL_self]
  · simp [updV, zL_sL, hq]
/-- a length -/
theorem zz_alenI (C : zCx E b G own cc nL rt) {i n : Nat} (hK : zK t i = (12, n)) (hd : decode cc pc = .ok (.arraylength, 1)) (kk : zAW E b G nL cells slots (pc + 1) ls (.int (Int32.ofNat n) :: st) t h) : zAW E b G nL cells slots pc ls (.ref (b + i) :: st) t h := by
  obtain ⟨p, l, e, R, s, m, args, below, meth, cd, Q⟩ := G
  intro H locs la hH hS hl
  obtain ⟨q, hq⟩ := hH.at hK (by omega)
  rw [zEnt_I hK] at hq
  exact va_alen C.1 C.2.1 C.2.2.2.2.2.2.2.1.K hH.2.2 q 0 hq (ty := .int) rfl rfl hd (kk H locs la hH hS hl)
theorem zz_alenS (C : zCx E b G own cc nL rt) {i n : Nat} (hK : zK t i = (14, n)) (hd : decode cc pc = .ok (.arraylength, 1)) (kk : zAW E b G nL cells slots (pc + 1) ls (.int (Int32.ofNat n) :: st) t h) : zAW E b G nL cells slots pc ls (.ref (b + i) :: st) t h := by
  obtain ⟨p, l, e, R, s, m, args, below, meth, cd, Q⟩ := G
  intro H locs la hH hS hl
  obtain ⟨q, hq⟩ := hH.at hK (by omega)
  rw [zEnt_S hK] at hq
  exact va_alen C.1 C.2.1 C.2.2.2.2.2.2.2.1.K hH.2.2 q 2 hq (ty := .object "MendingRoads$State") rfl rfl hd (kk H locs la hH hS hl)
end ZR
