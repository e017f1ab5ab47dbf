/-! ===== multianewarray ===== -/
theorem va_AOA.moved {ty : FieldType} {u U : State} (hvm : u.vm.Alike U.vm) (h : va_AOA ty u) : va_AOA ty U := by
  obtain ⟨comp, c, k, h1, h2, h3, h4, h5⟩ := arrayOverA_spec h
  obtain ⟨k', hk', he⟩ := hvm.2.2 _ _ h3
  have hi : (U.vm.classes.findIdx? fun (x : Class) => match x.kind with | .array component _ => component == comp | _ => false) = some c := by
    rw [hvm.findIdx?_eq _ (fun _ => rfl)]
    exact h2
  have hkind : k'.kind = .array comp (.array ty) := by rw [he]; exact h4
  have f1 : U.vm.findClass (FieldType.array ty).toString = some comp := by rw [hvm.findClass]; exact h1
  have f2 : U.vm.findClass ("[" ++ (FieldType.array ty).toString) = some c := by rw [hvm.findClass]; exact h5
  unfold va_AOA Cond.before Cond.holds
  simp only [Cond.value]
  rw [f1, Option.bind_some]
  refine (congrArg (fun o : Option Nat => (o.bind (fun c => (U.vm.classes[c]?).map fun (k : Class) => match k.kind with | .array _ t9 => decide (t9 = FieldType.array ty) && decide (U.vm.findClass ("[" ++ (FieldType.array ty).toString) = some c) | _ => false) == some true)) hi).trans ?_
  simp [hk', hkind, f2]
theorem zKs.AOA {E : zE} {b : Nat} {U : State} (h : zKs E b U) (hw : Cond.arrayOver (.array .int) ∈ lw_tbl) : va_AOA .int U := by
  obtain ⟨⟨-, -, sb, hts, -⟩, hW, -⟩ := h
  exact va_AOA.moved hW.alike (hts _ hw)
section ZMW
variable {p : Program} {l : Launch} {e : Env} {R : Room} {s : State} {m : MethodId} {args : Array Value} {below : List Frame} {meth : Method} {c : Code} {H : Heap} {locs : List Loc} {cells slots : Nat} {Q : State → Prop} {cc : ByteArray} {pc : Nat} {ls : Array Slot} {rest : List Value}
theorem zW_mna (hexec : p.tables.exec = Jvm.exec) (hb : c.code = cc) {own : String} {index : Nat} (hown : s.vm.findClass own = some m.cls) (hclink : (Cond.classLink own index "[[I").before args s = true) (hover : va_AOA .int s) (harr : (Cond.arrayClass .int).before args s = true) {n k : Int32} {N' K' : Nat} (hn : ¬ n < 0) (hk : ¬ k < 0) (hN : n.toNatClampNeg = N') (hM : k.toNatClampNeg = K')
    (hb1 : N' * 4 ≤ 536870912) (hb2 : K' * 4 ≤ 536870912) (hcells : cells + (1 + N') ≤ R.cells) (hslots : slots + (N' + N' * K') ≤ R.slots) (hdg : decode cc pc = .ok (.multianewarray index 2, 4))
    (kk : ∀ (cA cy : ClassId) (H1 : Heap), s.vm.findClass "[[I" = some cA → s.vm.findClass "[I" = some cy → H1.size = H.size + 1 + N' → (∀ x : Nat, x < H.size → H1[x]? = H[x]?) → H1[H.size]? = some (arrV cA N' (fun j => va_rf (if j < N' then some (H.size + 1 + j) else none))) → (∀ j : Nat, j < N' → H1[H.size + 1 + j]? = some (arrV cy K' (fun _ => .int 0))) →
      W p l e R s m args below meth c H1 locs (cells + 1 + N') (slots + N' + N' * K') Q (F0 m (pc + 4) ls (.ref H.size :: rest))) : W p l e R s m args below meth c H locs cells slots Q (F0 m pc ls (.int k :: .int n :: rest)) := by
  subst hN
  subst hM
  intro T hT Xs
  obtain ⟨vm₁, cA, comp, -, fA, fC, hO, -, X', step⟩ := Xs.multianewarray2F (ty := .int) hexec hown hclink (va_AOA.use hover) harr (g := F0 m pc ls (.int k :: .int n :: rest)) rfl (by rw [hb]; exact hdg) rfl hn hk hb1 hb2 (by omega) rfl rfl hcells hslots
  generalize hF : Jvm.Free.Multi.fill (T.setVm vm₁) cA comp n.toNatClampNeg k.toNatClampNeg (defaultValue .int) n.toNatClampNeg = F at X' step
  have hTh : (T.setVm vm₁).heap = H := hT
  obtain ⟨f1, f2, -, -⟩ := Jvm.Free.Multi.fill_facts (T.setVm vm₁) cA comp n.toNatClampNeg k.toNatClampNeg (defaultValue .int) n.toNatClampNeg
  rw [hF, hTh] at f1 f2
  have hold : ∀ x : Nat, x < H.size → F.heap[x]? = H[x]? := fun x hx => by
    have := Jvm.Free.Multi.fill_old (T.setVm vm₁) cA comp n.toNatClampNeg k.toNatClampNeg (defaultValue .int) (a := x) (by rw [hTh]; exact hx) n.toNatClampNeg
    rw [hF, hTh] at this
    exact this
  have hrow : ∀ j : Nat, j < n.toNatClampNeg → F.heap[H.size + 1 + j]? = some (arrV comp k.toNatClampNeg (fun _ => .int 0)) := fun j hj => by
    have := Jvm.Free.Multi.fill_inner (T.setVm vm₁) cA comp n.toNatClampNeg k.toNatClampNeg (defaultValue .int) n.toNatClampNeg j hj
    rw [hF, hTh] at this
    rw [this, ← arrV_new]
    rfl
  rw [vr_outer cA n.toNatClampNeg H.size n.toNatClampNeg] at f2
  obtain ⟨t, a1, b1⟩ := kk cA comp F.heap fA fC f1 hold f2 hrow F rfl X'
  refine ⟨t, step t ?_, b1⟩
  have e : T.heap.size = H.size := by rw [hT]
  rw [e]
  exact a1
end ZMW
theorem zK_a2 (t : zT) (n N z i : Nat) : zK (zA2 t n N z) i = if i = n then (15, N) else if n < i ∧ i ≤ n + N then (12, z) else zK t i := rfl
theorem zR_a2 (t : zT) (n N z i q : Nat) : zR (zA2 t n N z) i q = if i = n then (if q < N then some (n + 1 + q) else none) else if n < i ∧ i ≤ n + N then none else zR t i q := rfl
theorem zK_a1 (t : zT) (n k z i : Nat) : zK (zA1 t n k z) i = if i = n then (k, z) else zK t i := rfl
theorem zR_a1 (t : zT) (n k z i q : Nat) : zR (zA1 t n k z) i q = if i = n then none else zR t i q := rfl
theorem zEnt_a2 {E : zE} {b : Nat} {t : zT} {h : zH} {n N z i : Nat} (hi : i < n) : zEnt E b (zA2 t n N z) h i = zEnt E b t h i := by
  have hK : zK (zA2 t n N z) i = zK t i := by rw [zK_a2, if_neg (by omega), if_neg (by omega)]
  have hR : ∀ q, zR (zA2 t n N z) i q = zR t i q := fun q => by rw [zR_a2, if_neg (by omega), if_neg (by omega)]
  have hF : ∀ q ty, zFv b (zA2 t n N z) h i q ty = zFv b t h i q ty := fun q ty => by
    unfold zFv
    split <;> first | rfl | rw [hR]
  unfold zEnt zFs
  simp only [hR, hF, hK]
theorem zP_mem {D : va_G} {cl : List vw_C} {L : List Nat} {f : Nat → va_E} {H : Heap} (h : ∀ a ∈ L, va_at D cl (a, f a) H) : va_P D cl (va_pl L f) H := fun k q hk => by
  simp only [va_pl, List.getElem?_map, Option.map_eq_some_iff] at hk
  obtain ⟨u, hu, rfl⟩ := hk
  exact h u (List.mem_of_getElem? hu)
theorem zHp.at2 {E : zE} {b : Nat} {t : zT} {h : zH} {H : Heap} (hH : zHp E b t h H) {i : Nat} (hk : (zK t i).1 < 16) : va_at E.1 vwCl (b + i, zEnt E b t h i) H := by
  obtain ⟨k, hq⟩ := zWd_get (E := E) (b := b) (h := h) (hH.2.1 i hk) hk
  exact hH.2.2 k _ hq
theorem zHp.mn {E : zE} {b : Nat} {t : zT} {h : zH} {H H1 : Heap} {n N z : Nat} (hH : zHp E b t h H) (hG : zGd t h n) (z1 : H1.size = H.size + 1 + N) (o1 : ∀ q, q < H.size → H1[q]? = H[q]?) (eO : H1[b + n]? = some (arrV E.2.2.2.2.1 N (fun j => va_rf (if j < N then some (b + n + 1 + j) else none)))) (eI : ∀ j, j < N → H1[b + n + 1 + j]? = some (arrV E.2.1 z (fun _ => .int 0))) : zHp E b (zA2 t n N z) h H1 := by
  have hx : t.1.2 = true := by rw [hG.1]
  have en : t.1.1 = n := by rw [hG.1]
  have hs := hH.1.2 hx
  rw [en] at hs
  refine ⟨⟨by show b + (n + 1 + N) ≤ _; omega, fun _ => by show _ = b + (n + 1 + N); omega⟩, fun i hi => ?_, ?_⟩
  · show i < n + 1 + N
    rw [zK_a2] at hi
    split at hi
    · omega
    · split at hi
      · omega
      · have := hH.2.1 i hi
        omega
  · refine zP_mem (fun a ha => ?_)
    obtain ⟨i, hi, rfl⟩ := List.mem_map.mp ha
    obtain ⟨hi1, hi2⟩ := List.mem_filter.mp hi
    have hi3 : i < n + 1 + N := List.mem_range.mp hi1
    have hi4 := of_decide_eq_true hi2
    rw [zEf_at]
    by_cases c1 : i = n
    · subst c1
      rw [zEnt_A (n := N) (by rw [zK_a2, if_pos rfl])]
      show H1[b + i]? = some (vp_cell _ _)
      rw [eO, vp_cell_q]
      congr 2
      funext j
      rw [zR_a2, if_pos rfl]
      by_cases c2 : j < N
      · rw [if_pos c2, if_pos c2]
        show va_rf _ = va_rf (some (b + (i + 1 + j)))
        congr 2
        omega
      · rw [if_neg c2, if_neg c2]
        rfl
    · by_cases c2 : n < i
      · rw [zEnt_I (n := z) (by rw [zK_a2, if_neg c1, if_pos (by omega)])]
        show H1[b + i]? = some (vp_cell _ _)
        have := eI (i - n - 1) (by omega)
        rw [show b + n + 1 + (i - n - 1) = b + i by omega] at this
        rw [this, vp_cell_i]
        have e0 : ∀ j, zI h i j = 0 := fun j => (hG.2 i j (by omega)).1
        simp only [e0]
      · have hin : i < n := by omega
        rw [zK_a2, if_neg c1, if_neg (by omega)] at hi4
        rw [zEnt_a2 hin]
        have hv := hH.at2 hi4
        have hP : va_P E.1 vwCl [(b + i, zEnt E b t h i)] H := fun k9 x hx9 => by
          have h0 : k9 < 1 := (List.getElem?_eq_some_iff.mp hx9).1
          rw [show k9 = 0 by omega] at hx9
          cases hx9
          exact hv
        exact (hP.kept (H1 := H1) (fun k9 x hx9 => o1 x.1 ((hP k9 x hx9).lt))) 0 _ rfl
section ZNM
variable {E : zE} {b : Nat} {G : zG} {own : String} {cc : ByteArray} {nL : Nat} {rt : Option FieldType} {cells slots pc D MC MS : Nat} {t : zT} {h : zH} {ls : List (Option Value)} {st : List Value} {n : Nat}
theorem zn_mna (C : zCx E b G own cc nL rt) (hR : zRoom G D MC MS) (hG : zGd t h n) {x y : Int32} (N z : Nat) (hx : x = nI N ∧ N < 2 ^ 20) (hy : y = nI z ∧ z < 2 ^ 20) {idx : Nat} (hw : Cond.classLink own idx "[[I" ∈ zW) (hw2 : Cond.arrayOver (.array .int) ∈ lw_tbl) (hw3 : Cond.arrayClass .int ∈ zW) (hc : cells + 1 + N ≤ MC) (hs : slots + N + N * z ≤ MS) (hd : decode cc pc = .ok (.multianewarray idx 2, 4)) (kk : zAW E b G nL (cells + 1 + N) (slots + N + N * z) (pc + 4) ls (.ref (b + n) :: st) (zA2 t n N z) h) : zAW E b G nL cells slots pc ls (.int y :: .int x :: st) t h := by
  obtain ⟨p, l, e, R, s, m, args, below, meth, c, Q⟩ := G
  intro H locs la hH hS hl
  have hx9 : t.1.2 = true := by rw [hG.1]
  have en : t.1.1 = n := by rw [hG.1]
  have hsz := hH.1.2 hx9
  rw [en] at hsz
  have hR3 : MC ≤ R.cells := hR.2.2.1
  have hR4 : MS ≤ R.slots := hR.2.2.2
  have hK := C.2.2.2.2.2.2.2.1.K
  have hts := C.2.2.2.2.1
  obtain ⟨rfl, hn⟩ := hx
  obtain ⟨rfl, hz⟩ := hy
  refine zW_mna C.1 C.2.1 C.2.2.2.1 (hts _ hw) (C.2.2.2.2.2.2.2.1.AOA hw2) (hts _ hw3) (nI_pos (by omega)) (nI_pos (by omega)) (nI_clamp (by omega)) (nI_clamp (by omega)) (by omega) (by omega) (by omega) (by omega) hd fun cA cy H1 q1 q2 q3 q4 q5 q6 => ?_
  have e1 : cA = E.2.2.2.2.1 := Option.some.inj (q1.symm.trans (hK.2 3 _ rfl).2)
  have e2 : cy = E.2.1 := Option.some.inj (q2.symm.trans (hK.2 0 _ rfl).2)
  subst e1
  subst e2
  rw [hsz] at q5 q6 ⊢
  exact kk H1 locs la (hH.mn hG q3 q4 q5 q6) ⟨Nat.le_trans hS.1 (by omega), fun q h1 h2 => (q4 q (by have := hS.1; omega)).trans (hS.2.1 q h1 h2), hS.2.2⟩ hl
end ZNM
/-! ===== the same rows, the new table under a name ===== -/
theorem wAI : Cond.arrayClass .int ∈ zW := zW_ir (1, 109) rfl rfl
theorem wAL : Cond.arrayClass .long ∈ zW := zW_ir (2, 190) rfl rfl
theorem wAO : Cond.arrayOver (.object "MendingRoads$State") ∈ lw_tbl := zCh_in 1 _ (List.mem_of_getElem? (i := 181) rfl)
theorem wAA : Cond.arrayOver (.array .int) ∈ lw_tbl := zCh_in 1 _ (List.mem_of_getElem? (i := 47) rfl)
/-- what stood still stands -/
def zMo (t t' : zT) : Prop := ∀ i c y, zIn t i c y → zIn t' i c y
theorem zMo.tr {t t' t'' : zT} (h1 : zMo t t') (h2 : zMo t' t'') : zMo t t'' := fun i c y h => h2 i c y (h1 i c y h)
section ZMR
variable {E : zE} {b : Nat} {G : zG} {own : String} {cc : ByteArray} {nL : Nat} {rt : Option FieldType} {cells slots pc D MC MS : Nat} {t : zT} {h : zH} {ls : List (Option Value)} {st : List Value} {n : Nat}
theorem zm_newI (C : zCx E b G own cc nL rt) (hR : zRoom G D MC MS) (hG : zGd t h n) {x : Int32} (z : Nat) (hxn : x = nI z ∧ z < 2 ^ 20) (hc : cells + 1 ≤ MC) (hs : slots + z ≤ MS) (hd : decode cc pc = .ok (.newarray .int, 2)) (kk : ∀ t', t' = zA1 t n 12 z → zGd t' h (n + 1) → zMo t t' → zIn t' n 12 z → zAW E b G nL (cells + 1) (slots + z) (pc + 2) ls (.ref (b + n) :: st) t' h) : zAW E b G nL cells slots pc ls (.int x :: st) t h := zn_newI C hR hG z hxn hc hs wAI hd (kk _ rfl (zGd_1 hG) (fun _ _ _ hi => zIn_1 hG hi) zIn_n)
theorem zm_newL (C : zCx E b G own cc nL rt) (hR : zRoom G D MC MS) (hG : zGd t h n) {x : Int32} (z : Nat) (hxn : x = nI z ∧ z < 2 ^ 20) (hc : cells + 1 ≤ MC) (hs : slots + z ≤ MS) (hd : decode cc pc = .ok (.newarray .long, 2)) (kk : ∀ t', t' = zA1 t n 13 z → zGd t' h (n + 1) → zMo t t' → zIn t' n 13 z → zAW E b G nL (cells + 1) (slots + z) (pc + 2) ls (.ref (b + n) :: st) t' h) : zAW E b G nL cells slots pc ls (.int x :: st) t h := zn_newL C hR hG z hxn hc hs wAL hd (kk _ rfl (zGd_1 hG) (fun _ _ _ hi => zIn_1 hG hi) zIn_n)
theorem zm_new (C : zCx E b G own cc nL rt) (hR : zRoom G D MC MS) (hG : zGd t h n) {idx : Nat} (c0 : Nat) (hc0 : c0 < zNc) (hL : zLN own idx c0) (hc : cells + 1 ≤ MC) (hs : slots + zNf c0 ≤ MS) (hd : decode cc pc = .ok (.new idx, 3)) (kk : ∀ t', t' = zA1 t n c0 0 → zGd t' h (n + 1) → zMo t t' → zIn t' n c0 0 → zAW E b G nL (cells + 1) (slots + zNf c0) (pc + 3) ls (.ref (b + n) :: st) t' h) : zAW E b G nL cells slots pc ls st t h := zn_new C hR hG c0 hc0 hL hc hs hd (kk _ rfl (zGd_1 hG) (fun _ _ _ hi => zIn_1 hG hi) zIn_n)
theorem zm_newS (C : zCx E b G own cc nL rt) (hR : zRoom G D MC MS) (hG : zGd t h n) {x : Int32} (z : Nat) (hxn : x = nI z ∧ z < 2 ^ 20) {idx : Nat} (hL : zLN own idx 6) (hc : cells + 1 ≤ MC) (hs : slots + z ≤ MS) (hd : decode cc pc = .ok (.anewarray idx, 3)) (kk : ∀ t', t' = zA1 t n 14 z → zGd t' h (n + 1) → zMo t t' → zIn t' n 14 z → zAW E b G nL (cells + 1) (slots + z) (pc + 3) ls (.ref (b + n) :: st) t' h) : zAW E b G nL cells slots pc ls (.int x :: st) t h := zn_newS C hR hG z hxn hL wAO hc hs hd (kk _ rfl (zGd_1 hG) (fun _ _ _ hi => zIn_1 hG hi) zIn_n)
theorem zm_mna (C : zCx E b G own cc nL rt) (hR : zRoom G D MC MS) (hG : zGd t h n) {x y : Int32} (N z : Nat) (hx : x = nI N ∧ N < 2 ^ 20) (hy : y = nI z ∧ z < 2 ^ 20) {idx : Nat} (hw : Cond.classLink own idx "[[I" ∈ zW) (hc : cells + 1 + N ≤ MC) (hs : slots + N + N * z ≤ MS) (hd : decode cc pc = .ok (.multianewarray idx 2, 4)) (kk : ∀ t', t' = zA2 t n N z → zGd t' h (n + 1 + N) → zMo t t' → zIn t' n 15 N → zAW E b G nL (cells + 1 + N) (slots + N + N * z) (pc + 4) ls (.ref (b + n) :: st) t' h) : zAW E b G nL cells slots pc ls (.int y :: .int x :: st) t h := zn_mna C hR hG N z hx hy hw wAA wAI hc hs hd (kk _ rfl (zGd_2 hG) (fun _ _ _ hi => zIn_2 hG hi) zIn_m)
theorem zm_putRF (C : zCx E b G own cc nL rt) (hin : G.2.2.2.2.2.2.2.2.1.name = "<init>") {idx c k i z j : Nat} (F : zFd own idx c k 2) (hfin : (zTb c k).2.2.2 = true) (hdecl : (zTb c k).1 = own) (hK : zIn t i c z) (hG : zGd t h n) (hd : decode cc pc = .ok (.putfield idx, 3)) (kk : ∀ t', t' = zsR t i k (some j) → zGd t' h n → zMo t t' → zAW E b G nL cells slots (pc + 3) ls st t' h) : zAW E b G nL cells slots pc ls (.ref (b + j) :: .ref (b + i) :: st) t h := zz_putRF C hin F hfin hdecl hK.2 hd (kk _ rfl hG (fun _ _ _ hi => hi))
theorem zm_putR (C : zCx E b G own cc nL rt) {idx c k i z j : Nat} (F : zFd own idx c k 2) (hfin : (zTb c k).2.2.2 = false) (hK : zIn t i c z) (hG : zGd t h n) (hd : decode cc pc = .ok (.putfield idx, 3)) (kk : ∀ t', t' = zsR t i k (some j) → zGd t' h n → zMo t t' → zAW E b G nL cells slots (pc + 3) ls st t' h) : zAW E b G nL cells slots pc ls (.ref (b + j) :: .ref (b + i) :: st) t h := zz_putR C F hfin hK.2 hd (kk _ rfl hG (fun _ _ _ hi => hi))
theorem zm_aast (C : zCx E b G own cc nL rt) {i j z z' : Nat} {x : Int32} (k : Nat) (hK : zIn t i 14 z) (hJ : zIn t j 6 z') (hG : zGd t h n) (hx : x = nI k ∧ k < 2 ^ 31) (hk : k < z) (hd : decode cc pc = .ok (.aastore, 1)) (kk : ∀ t', t' = zsR t i k (some j) → zGd t' h n → zMo t t' → zAW E b G nL cells slots (pc + 1) ls st t' h) : zAW E b G nL cells slots pc ls (.ref (b + j) :: .int x :: .ref (b + i) :: st) t h := zn_aast C k hK.2 hJ.2 hx hk hd (kk _ rfl hG (fun _ _ _ hi => hi))
theorem zm_putI (C : zCx E b G own cc nL rt) {idx c k i z : Nat} {v : Int32} (F : zFd own idx c k 0) (P : zFp c k .int) (hK : zIn t i c z) (hG : zGd t h n) (hd : decode cc pc = .ok (.putfield idx, 3)) (kk : zGd t (zsI h i k v) n → zAW E b G nL cells slots (pc + 3) ls st t (zsI h i k v)) : zAW E b G nL cells slots pc ls (.int v :: .ref (b + i) :: st) t h := zy_putI C F P hK.2 hd (kk (zGd_I (by have := hK.1; rw [hG.1] at this; exact this) hG))
theorem zlt2 {x : Int32} (k : Nat) (h : (decide (x = nI k) && decide (k < 2 ^ 20)) = true) : x = nI k ∧ k < 2 ^ 20 := by
  rw [Bool.and_eq_true] at h
  exact ⟨of_decide_eq_true h.1, of_decide_eq_true h.2⟩
end ZMR
theorem zm_iast {E : zE} {b : Nat} {G : zG} {own : String} {cc : ByteArray} {nL : Nat} {rt : Option FieldType} {cells slots pc : Nat} {t : zT} {h : zH} {ls : List (Option Value)} {st : List Value} {n : Nat} (C : zCx E b G own cc nL rt) {i z : Nat} {x v : Int32} (k : Nat) (hK : zIn t i 12 z) (hG : zGd t h n) (hx : x = nI k ∧ k < 2 ^ 31) (hin : k < z) (hd : decode cc pc = .ok (.iastore, 1)) (kk : zGd t (zsI h i k v) n → zAW E b G nL cells slots (pc + 1) ls st t (zsI h i k v)) : zAW E b G nL cells slots pc ls (.int v :: .int x :: .ref (b + i) :: st) t h := zc_iastore C k hK.2 hx hin hd (kk (zGd_I (by have := hK.1; rw [hG.1] at this; exact this) hG))
