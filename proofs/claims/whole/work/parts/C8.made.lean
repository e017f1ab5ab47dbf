/-! ===== what is made, its place told ===== -/
/-- one cell more at n, of kind k and size z -/
def zA1 (t : zT) (n k z : Nat) : zT := ((n + 1, true), (fun i => if i = n then (k, z) else t.2.1 i), fun i q => if i = n then none else t.2.2 i q)
/-- int[N][z] at n, its rows behind it -/
def zA2 (t : zT) (n N z : Nat) : zT := ((n + 1 + N, true), (fun i => if i = n then (15, N) else if n < i ∧ i ≤ n + N then (12, z) else t.2.1 i), fun i q => if i = n then (if q < N then some (n + 1 + q) else none) else if n < i ∧ i ≤ n + N then none else t.2.2 i q)
/-- the table ends at n, where the heap ends; what is to come holds 0 -/
def zGd (t : zT) (h : zH) (n : Nat) : Prop := t.1 = (n, true) ∧ ∀ i q, n ≤ i → h.1 i q = 0 ∧ h.2 i q = 0
def zIn (t : zT) (i c z : Nat) : Prop := i < t.1.1 ∧ zK t i = (c, z)
theorem zIn.K {t : zT} {i c z : Nat} (h : zIn t i c z) : zK t i = (c, z) := h.2
theorem zIn_1 {t : zT} {h : zH} {n i c z k y : Nat} (hG : zGd t h n) (hI : zIn t i c z) : zIn (zA1 t n k y) i c z := by
  have h1 : i < n := by have := hI.1; rw [hG.1] at this; exact this
  refine ⟨by show i < n + 1; omega, ?_⟩
  show (if i = n then (k, y) else t.2.1 i) = _
  rw [if_neg (by omega)]
  exact hI.2
theorem zIn_2 {t : zT} {h : zH} {n i c z k y : Nat} (hG : zGd t h n) (hI : zIn t i c z) : zIn (zA2 t n k y) i c z := by
  have h1 : i < n := by have := hI.1; rw [hG.1] at this; exact this
  refine ⟨by show i < n + 1 + k; omega, ?_⟩
  show (if i = n then (15, k) else if n < i ∧ i ≤ n + k then (12, y) else t.2.1 i) = _
  rw [if_neg (by omega), if_neg (by omega)]
  exact hI.2
theorem zIn_R {t : zT} {i c z j k : Nat} {v : Option Nat} (hI : zIn t i c z) : zIn (zsR t j k v) i c z := hI
theorem zIn_n {t : zT} {n k z : Nat} : zIn (zA1 t n k z) n k z := ⟨Nat.lt_succ_self n, by show (if n = n then (k, z) else t.2.1 n) = _; rw [if_pos rfl]⟩
theorem zIn_m {t : zT} {n k z : Nat} : zIn (zA2 t n k z) n 15 k := ⟨by show n < n + 1 + k; omega, by show (if n = n then (15, k) else _) = _; rw [if_pos rfl]⟩
theorem zGd_1 {t : zT} {h : zH} {n k z : Nat} (hG : zGd t h n) : zGd (zA1 t n k z) h (n + 1) := ⟨rfl, fun i q hi => hG.2 i q (by omega)⟩
theorem zGd_2 {t : zT} {h : zH} {n k z : Nat} (hG : zGd t h n) : zGd (zA2 t n k z) h (n + 1 + k) := ⟨rfl, fun i q hi => hG.2 i q (by omega)⟩
theorem zGd_R {t : zT} {h : zH} {n j k : Nat} {v : Option Nat} (hG : zGd t h n) : zGd (zsR t j k v) h n := hG
theorem zGd_I {t : zT} {h : zH} {n j k : Nat} {v : Int32} (hj : j < n) (hG : zGd t h n) : zGd t (zsI h j k v) n := ⟨hG.1, fun i q hi => by
  refine ⟨?_, (hG.2 i q hi).2⟩
  show (if i = j ∧ q = k then v else h.1 i q) = 0
  rw [if_neg (by omega)]
  exact (hG.2 i q hi).1⟩
theorem zA1_nw {t : zT} {h : zH} {n : Nat} (hG : zGd t h n) (k z : Nat) : zNw t k z = zA1 t n k z := by
  obtain ⟨⟨t1, t2⟩, t3⟩ := t
  obtain ⟨h1, -⟩ := hG
  cases h1
  rfl
theorem zNh_gd {t : zT} {h : zH} {n : Nat} (hG : zGd t h n) : zNh t h = h := by
  obtain ⟨h1, h2⟩ := h
  have e : t.1.1 = n := by rw [hG.1]
  unfold zNh
  rw [e]
  refine Prod.ext (funext fun i => funext fun q => ?_) (funext fun i => funext fun q => ?_)
  · show (if i = n then 0 else h1 i q) = h1 i q
    by_cases z : i = n
    · rw [if_pos z]
      exact ((hG.2 i q (by omega)).1).symm
    · rw [if_neg z]
  · show (if i = n then 0 else h2 i q) = h2 i q
    by_cases z : i = n
    · rw [if_pos z]
      exact ((hG.2 i q (by omega)).2).symm
    · rw [if_neg z]
def zNF (ty : FieldType) : Bool := match ty with
  | .float => false
  | .double => false
  | _ => true
theorem zCl_nf : ∀ c, c < zNc → ∀ k, k < zNf c → zNF (zTy c k) = true := by decide +kernel
theorem zFv_new {b n k : Nat} {t : zT} {h : zH} {ty : FieldType} (hn : zNF ty = true) (h1 : zI h n k = 0) (h2 : zL h n k = 0) (h3 : zR t n k = none) : zFv b t h n k ty = defaultValue ty := by
  unfold zFv
  cases ty <;> first | (simp [zNF] at hn; done) | (simp only [h1, h2, h3]; rfl)
/-- words of a new object by its pool place -/
def zLN (own : String) (idx c : Nat) : Prop := Cond.classLink own idx (zRn c) ∈ zW ∧ Cond.instantiable (zRn c) (zNf c) ∈ zW ∧ Cond.initialized (zRn c) ∈ zW
section ZNB
variable {E : zE} {b : Nat} {G : zG} {own : String} {cc : ByteArray} {nL : Nat} {rt : Option FieldType} {cells slots pc D MC MS : Nat} {t : zT} {h : zH} {ls : List (Option Value)} {st : List Value} {n : Nat}
theorem zn_newI (C : zCx E b G own cc nL rt) (hR : zRoom G D MC MS) (hG : zGd t h n) {x : Int32} (z : Nat) (hxn : x = nI z ∧ z < 2 ^ 20) (hc : cells + 1 ≤ MC) (hs : slots + z ≤ MS) (hw : Cond.arrayClass .int ∈ zW) (hd : decode cc pc = .ok (.newarray .int, 2)) (kk : zAW E b G nL (cells + 1) (slots + z) (pc + 2) ls (.ref (b + n) :: st) (zA1 t n 12 z) h) : zAW E b G nL cells slots pc ls (.int x :: st) t h := by
  have e : t.1.1 = n := by rw [hG.1]
  refine zz_newI C hR (by rw [hG.1]) z hxn hc hs hw hd ?_
  rw [zA1_nw hG, zNh_gd hG, e]
  exact kk
theorem zn_newL (C : zCx E b G own cc nL rt) (hR : zRoom G D MC MS) (hG : zGd t h n) {x : Int32} (z : Nat) (hxn : x = nI z ∧ z < 2 ^ 20) (hc : cells + 1 ≤ MC) (hs : slots + z ≤ MS) (hw : Cond.arrayClass .long ∈ zW) (hd : decode cc pc = .ok (.newarray .long, 2)) (kk : zAW E b G nL (cells + 1) (slots + z) (pc + 2) ls (.ref (b + n) :: st) (zA1 t n 13 z) h) : zAW E b G nL cells slots pc ls (.int x :: st) t h := by
  obtain ⟨p, l, e, R, s, m, args, below, meth, c, Q⟩ := G
  intro H locs la hH hS hl
  have hx : t.1.2 = true := by rw [hG.1]
  have en : t.1.1 = n := by rw [hG.1]
  have hsz := hH.1.2 hx
  have hR3 : MC ≤ R.cells := hR.2.2.1
  have hR4 : MS ≤ R.slots := hR.2.2.2
  obtain ⟨rfl, hn⟩ := hxn
  refine va_newaK (atype := .long) C.1 C.2.1 (C.2.2.2.2.1 _ hw) rfl hd rfl (nI_pos (by omega)) (nI_clamp (by omega)) (by show z * 8 ≤ _; omega) (by omega) (by omega) hsz fun H1 cA e1 z1 o1 hAr hNm => ?_
  have hK := C.2.2.2.2.2.2.2.1.K
  have hcA : cA = E.2.2.1 := by
    have := (hK.2 1 _ rfl).2
    exact Option.some.inj (hNm.symm.trans this)
  subst hcA
  have eK : zK (zNw t 13 z) t.1.1 = (13, z) := by rw [zK_nw, if_pos rfl]
  rw [← zA1_nw hG, ← zNh_gd hG, ← en] at kk
  refine kk H1 locs la (hH.nw hx (by omega) ?_ (by omega) (fun q hq => o1 q (by omega))) ⟨Nat.le_trans hS.1 (by omega), fun q h1 h2 => (o1 q (by have := hS.1; omega)).trans (hS.2.1 q h1 h2), hS.2.2⟩ hl
  rw [zEnt_L eK]
  show H1[b + t.1.1]? = some (vp_cell _ _)
  rw [e1, vp_cell_l]
  have e0 : ∀ j, zL (zNh t h) t.1.1 j = 0 := fun j => by rw [zL_nh, if_pos rfl]
  simp only [e0]
  rfl
theorem zn_new (C : zCx E b G own cc nL rt) (hR : zRoom G D MC MS) (hG : zGd t h n) {idx : Nat} (c0 : Nat) (hc0 : c0 < zNc) (hL : zLN own idx c0) (hc : cells + 1 ≤ MC) (hs : slots + zNf c0 ≤ MS) (hd : decode cc pc = .ok (.new idx, 3)) (kk : zAW E b G nL (cells + 1) (slots + zNf c0) (pc + 3) ls (.ref (b + n) :: st) (zA1 t n c0 0) h) : zAW E b G nL cells slots pc ls st t h := by
  obtain ⟨p, l, e, R, s, m, args, below, meth, c, Q⟩ := G
  intro H locs la hH hS hl
  have hx : t.1.2 = true := by rw [hG.1]
  have en : t.1.1 = n := by rw [hG.1]
  have hsz := hH.1.2 hx
  have hR3 : MC ≤ R.cells := hR.2.2.1
  have hR4 : MS ≤ R.slots := hR.2.2.2
  have hK := C.2.2.2.2.2.2.2.1.K
  have hts := C.2.2.2.2.1
  have hcl := zCl_at c0 hc0
  have hKn := hK.1 c0 _ hcl
  refine W.newcK C.1 C.2.1 C.2.2.2.1 (hts _ hL.1) (hts _ hL.2.1) (hts _ hL.2.2) rfl hd (by omega) (by omega) hKn.2.1 hsz fun H1 kC hkC e1 z1 o1 => ?_
  have eK : zK (zNw t c0 0) t.1.1 = (c0, 0) := by rw [zK_nw, if_pos rfl]
  rw [← zA1_nw hG, ← zNh_gd hG, ← en] at kk
  refine kk H1 locs la (hH.nw hx (by unfold zNc at hc0; omega) ?_ (by omega) (fun q hq => o1 q (by omega))) ⟨Nat.le_trans hS.1 (by omega), fun q h1 h2 => (o1 q (by have := hS.1; omega)).trans (hS.2.1 q h1 h2), hS.2.2⟩ hl
  rw [zEnt_obj eK hc0]
  refine ⟨_, hcl, (u_born (zTy c0) hts (zCl_ws c0 hc0) hKn hkC e1 (zCl_ty c0 hc0)).to (fun j hj => ?_)⟩
  show _ = (zFs b (zNw t c0 0) (zNh t h) t.1.1 c0).getD j .null
  rw [List.getD_eq_getElem?_getD, zFs_at hj]
  exact (zFv_new (zCl_nf c0 hc0 j hj) (by rw [zI_nh, if_pos rfl]) (by rw [zL_nh, if_pos rfl]) (by rw [zR_nw, if_pos rfl])).symm
theorem zKs.AO {U : State} (h : zKs E b U) (hw : Cond.arrayOver (.object "MendingRoads$State") ∈ lw_tbl) : va_AO "MendingRoads$State" U := by
  obtain ⟨⟨-, -, sb, hts, -⟩, hW, -⟩ := h
  exact va_AO.moved hW.alike (va_AO.of (hts _ hw))
theorem zn_newS (C : zCx E b G own cc nL rt) (hR : zRoom G D MC MS) (hG : zGd t h n) {x : Int32} (z : Nat) (hxn : x = nI z ∧ z < 2 ^ 20) {idx : Nat} (hL : zLN own idx 6) (hw : Cond.arrayOver (.object "MendingRoads$State") ∈ lw_tbl) (hc : cells + 1 ≤ MC) (hs : slots + z ≤ MS) (hd : decode cc pc = .ok (.anewarray idx, 3)) (kk : zAW E b G nL (cells + 1) (slots + z) (pc + 3) ls (.ref (b + n) :: st) (zA1 t n 14 z) h) : zAW E b G nL cells slots pc ls (.int x :: st) t h := by
  obtain ⟨p, l, e, R, s, m, args, below, meth, c, Q⟩ := G
  intro H locs la hH hS hl
  have hx : t.1.2 = true := by rw [hG.1]
  have en : t.1.1 = n := by rw [hG.1]
  have hsz := hH.1.2 hx
  have hR3 : MC ≤ R.cells := hR.2.2.1
  have hR4 : MS ≤ R.slots := hR.2.2.2
  have hK := C.2.2.2.2.2.2.2.1.K
  obtain ⟨rfl, hn⟩ := hxn
  have hcz : (nI z).toNatClampNeg = z := nI_clamp (by omega)
  refine W.anew C.1 C.2.1 C.2.2.2.1 (C.2.2.2.2.1 _ hL.1) (va_AO.use (C.2.2.2.2.2.2.2.1.AO hw)) rfl hd rfl (nI_pos (by omega)) (by rw [hcz]; omega) (by omega) (by rw [hcz]; omega) fun cA kA comp f1 f2 f3 f4 => ?_
  rw [hcz]
  have hcA : cA = E.2.2.2.1 := by
    obtain ⟨_, _, -, -, -, h5⟩ := (hK.2 2 _ rfl).2
    exact Option.some.inj (f1.symm.trans h5)
  subst hcA
  generalize hH1 : H.push ({ cls := E.2.2.2.1, slots := Array.replicate z .null, vm := .none } : Cell) = H1
  have z1 : H1.size = H.size + 1 := by rw [← hH1, Array.size_push]
  have e1 : H1[H.size]? = some (arrV E.2.2.2.1 z (fun _ => .null)) := by rw [← hH1, Array.getElem?_push_size, ← arrV_new]
  have o1 : ∀ q : Nat, q < H.size → H1[q]? = H[q]? := fun q hq => by rw [← hH1, Array.getElem?_push, if_neg (Nat.ne_of_lt hq)]
  rw [hsz] at e1 ⊢
  have eK : zK (zNw t 14 z) t.1.1 = (14, z) := by rw [zK_nw, if_pos rfl]
  rw [← zA1_nw hG, ← zNh_gd hG, ← en] at kk
  refine kk H1 locs la (hH.nw hx (by omega) ?_ (by omega) (fun q hq => o1 q (by omega))) ⟨Nat.le_trans hS.1 (by omega), fun q h1 h2 => (o1 q (by have := hS.1; omega)).trans (hS.2.1 q h1 h2), hS.2.2⟩ hl
  rw [zEnt_S eK]
  show H1[b + t.1.1]? = some (vp_cell _ _)
  rw [e1, vp_cell_q]
  have e0 : ∀ j, zR (zNw t 14 z) t.1.1 j = none := fun j => by rw [zR_nw, if_pos rfl]
  simp only [e0]
  rfl
/-- a State put into a row of States -/
theorem zn_aast (C : zCx E b G own cc nL rt) {i j z z' : Nat} {x : Int32} (k : Nat) (hK : zK t i = (14, z)) (hJ : zK t j = (6, z')) (hx : x = nI k ∧ k < 2 ^ 31) (hk : k < z) (hd : decode cc pc = .ok (.aastore, 1)) (kk : zAW E b G nL cells slots (pc + 1) ls st (zsR t i k (some j)) h) : zAW E b G nL cells slots pc ls (.ref (b + j) :: .int x :: .ref (b + i) :: st) t h := by
  obtain ⟨p, l, e, R, s, m, args, below, meth, c, Q⟩ := G
  intro H locs la hH hS hl
  obtain ⟨rfl, hn⟩ := hx
  have hcz : (nI k).toNatClampNeg = k := nI_clamp (by omega)
  have h0 : ¬ nI k < 0 := nI_pos (by omega)
  obtain ⟨q, hq⟩ := hH.at hK (by omega)
  have hq2 := hq
  rw [zEnt_S hK] at hq2
  obtain ⟨q', hq'⟩ := hH.at hJ (by omega)
  rw [zEnt_obj hJ (by decide)] at hq'
  have hKK := C.2.2.2.2.2.2.2.1.K
  obtain ⟨r', hr', cellV, g1, g2, g3, -⟩ := hH.2.2 q' _ hq'
  have hcls := (hKK.1 6 _ (zCl_at 6 (by decide))).2
  obtain ⟨kA, comp, k1, k2, k3, -⟩ := (hKK.2 2 _ rfl).2
  have hcomp : comp = E.1.1 6 := Option.some.inj (k3.symm.trans hcls.1)
  subst hcomp
  obtain ⟨kC, hkC, -⟩ := hcls.2
  refine W.aast C.1 C.2.1 (hH.2.2 q _ hq2) (fun q h => by cases h) (fun h => by cases h) k1 k2 rfl hkC ⟨h0, by show _ < (arrV _ _ _).slots.size; rw [arrV_size, hcz]; exact hk⟩ g1 (fun q h => by rw [g3] at h; cases h) (by rw [g2]; exact hkC) (by rw [g2]; exact va_assign hcls) rfl rfl hd fun H1 e1 z1 oq => ?_
  refine kk H1 _ la (hH.put (t' := zsR t i k (some j)) hK (by omega) hq rfl rfl (zEnt_S (E := E) (h := h) (t := zsR t i k (some j)) hK) (fun j' hj => zEnt_sR hj) ?_ z1 oq) (hS.put z1 oq (Nat.le_add_right b i)) hl
  show H1[b + i]? = some (vp_cell _ _)
  rw [e1, vp_cell_q, vp_cell_q, hcz, arrV_store]
  congr 2
  funext q
  by_cases hq : q = k
  · subst hq
    simp [updV, zR_sR, zRv, va_rf]
  · simp [updV, zR_sR, hq]
/-- Object's constructor -/
def zLO (own : String) (idx : Nat) : Prop := Cond.methodLink own idx Lib.objectInit ∈ zW ∧ Cond.instanceMethod Lib.objectInit ∈ zW ∧ Cond.code Lib.objectInit ⟨#[0xb1]⟩ 1 none ∈ zW
theorem zn_obj (C : zCx E b G own cc nL rt) (hR : zRoom G D MC MS) (hD : 1 ≤ D) {idx : Nat} (hL : zLO own idx) {i : Nat} (hcat : (st.map fun v => v.category).sum ≤ 8) (hd : decode cc pc = .ok (.invokespecial idx, 3)) (kk : zAW E b G nL cells slots (pc + 3) ls st t h) : zAW E b G nL cells slots pc ls (.ref (b + i) :: st) t h := by
  obtain ⟨p, l, e, R, s, m, args, below, meth, c, Q⟩ := G
  intro H locs la hH hS hl
  have hR1 : D ≤ R.frames := hR.1
  have hR2 : 64 * D ≤ R.locals := hR.2.1
  have hts := C.2.2.2.2.1
  refine W.objInit C.1 C.2.1 C.2.2.2.1 (hts _ hL.1) (hts _ hL.2.1) (hts _ hL.2.2) rfl (by show la.size = _; rw [C.2.2.1]; exact hl.1) rfl hd (by omega) ?_ (kk H locs la hH hS hl)
  have : (F0 m pc la (.ref (b + i) :: st)).monitorRoom = 0 := rfl
  omega
end ZNB
