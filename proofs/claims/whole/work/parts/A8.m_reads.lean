/-! ===== the reference: the numbers of a clause ===== -/
def zAgW (h : zH) (rid : Nat) (h' : zH) : Prop := (∀ i j, ¬ (i = rid ∨ (i = 157 ∧ (j = 4 ∨ j = 5 ∨ j = 6))) → zI h' i j = zI h i j) ∧ ∀ i j, zL h' i j = zL h i j
theorem numR_v {B : Nat → Nat} {n : Nat} {st : yT} {lo u : Nat} {no : Option Nat} : rV (numR B n st lo u no) ≤ 100000 := by
  cases st with
  | inl f => exact Nat.zero_le _
  | inr k =>
    unfold numR
    split
    · cases ‹_›
    · rename_i q e
      cases e
      split
      · exact Nat.zero_le _
      · split
        · exact Nat.zero_le _
        · exact dg_le _ _ _ rfl (by omega)
theorem nms_v {B : Nat → Nat} {n k : Nat} {lo u : Nat → Nat} {sm : Bool} : ∀ (i j : Nat), (nms B n k lo u sm i).2 j ≤ 100000
  | 0, _ => Nat.zero_le _
  | i + 1, j => by
    show nUp (nms B n k lo u sm i).2 i _ j ≤ _
    unfold nUp
    split
    · exact numR_v
    · exact nms_v i j
theorem numR_ok {B : Nat → Nat} {n : Nat} {st : yT} {lo u : Nat} {no : Option Nat} {x : Nat × Nat} (h : numR B n st lo u no = .inr x) : lo ≤ x.1 ∧ x.1 < u ∧ ¬ no = some x.1 := by
  cases st with
  | inl f => cases h
  | inr k =>
    have h : (if sc (isDg B) n (sc (isBl B) n k) = sc (isBl B) n k then (.inl (1, sc (isBl B) n k) : (Nat × Nat) ⊕ (Nat × Nat)) else if dg B n (sc (isBl B) n k) 0 < lo ∨ u ≤ dg B n (sc (isBl B) n k) 0 ∨ no = some (dg B n (sc (isBl B) n k) 0) then .inl (2, sc (isBl B) n k) else .inr (dg B n (sc (isBl B) n k) 0, sc (isDg B) n (sc (isBl B) n k))) = .inr x := h
    split at h
    · cases h
    · split at h
      · cases h
      · rename_i z
        cases h
        exact ⟨by omega, by omega, fun y => z (Or.inr (Or.inr y))⟩
/-- numbers that were all read are as they must be -/
theorem nms_ok {B : Nat → Nat} {n k : Nat} {lo u : Nat → Nat} {sm : Bool} : ∀ (i : Nat) {p : Nat}, (nms B n k lo u sm i).1 = .inr p → (∀ j, j < i → lo j ≤ (nms B n k lo u sm i).2 j ∧ (nms B n k lo u sm i).2 j < u j) ∧ (sm = true → 1 < i → ¬ (nms B n k lo u sm i).2 1 = (nms B n k lo u sm i).2 0)
  | 0, _, _ => ⟨fun j hj => absurd hj (by omega), fun _ h => absurd h (by omega)⟩
  | i + 1, p, h => by
    obtain ⟨no, eno⟩ : ∃ no, no = (if sm = true ∧ i = 1 then some ((nms B n k lo u sm i).2 0) else none) := ⟨_, rfl⟩
    have h : rP (numR B n (nms B n k lo u sm i).1 (lo i) (u i) (if sm = true ∧ i = 1 then some ((nms B n k lo u sm i).2 0) else none)) = .inr p := h
    rw [← eno] at h
    have e2 : (nms B n k lo u sm (i + 1)).2 = nUp (nms B n k lo u sm i).2 i (rV (numR B n (nms B n k lo u sm i).1 (lo i) (u i) no)) := by rw [eno]; rfl
    cases e : numR B n (nms B n k lo u sm i).1 (lo i) (u i) no with
    | inl f => rw [e] at h; cases h
    | inr x =>
      have ok := numR_ok e
      have es : ∃ q, (nms B n k lo u sm i).1 = .inr q := by
        cases e9 : (nms B n k lo u sm i).1 with
        | inl f => rw [e9] at e; cases e
        | inr q => exact ⟨q, rfl⟩
      obtain ⟨q, es⟩ := es
      have ih := nms_ok i es
      rw [e2, e]
      refine ⟨fun j hj => ?_, fun hs hi => ?_⟩
      · unfold nUp
        by_cases z : j = i
        · rw [if_pos z, z]; exact ⟨ok.1, ok.2.1⟩
        · rw [if_neg z]; exact ih.1 j (by omega)
      · unfold nUp
        by_cases z : i = 1
        · rw [if_pos z.symm, if_neg (by omega)]
          have e8 : ¬ no = some x.1 := ok.2.2
          rw [eno, if_pos ⟨hs, z⟩] at e8
          exact fun y => e8 (by rw [← y]; rfl)
        · rw [if_neg (by omega), if_neg (by omega)]
          exact ih.2 hs (by omega)
section MRS
variable {E : zE} {b : Nat} {G : zG} {t : zT} {h : zH} {l : Launch} {B : Nat → Nat} {n k rid : Nat} {lo u : Nat → Nat} {sm : Bool}
def mNs (h : zH) (n rid : Nat) (ns : yT × (Nat → Nat)) (i : Nat) (hc : zH) : Prop := zAgW h rid hc ∧ mAt hc ns.1 n ∧ ∀ j, j < i → zI hc rid j = nI (ns.2 j)
theorem mNs.step {i : Nat} {hc h1 : zH} {no : Option Nat} (hr : 163 < rid ∧ rid < 211) (x : mNs h n rid (nms B n k lo u sm i) i hc) (a : zAgR hc h1) {v : Int32} (ev : v = nI (rV (numR B n (nms B n k lo u sm i).1 (lo i) (u i) no))) (m : mAt h1 (rP (numR B n (nms B n k lo u sm i).1 (lo i) (u i) no)) n) (hno : no = if sm = true ∧ i = 1 then some ((nms B n k lo u sm i).2 0) else none) : mNs h n rid (nms B n k lo u sm (i + 1)) (i + 1) (zsI h1 rid i v) := by
  subst ev
  obtain ⟨x1, x2, x3⟩ := x
  have e2 : (nms B n k lo u sm (i + 1)).2 = nUp (nms B n k lo u sm i).2 i (rV (numR B n (nms B n k lo u sm i).1 (lo i) (u i) no)) := by rw [hno]; rfl
  have e1 : (nms B n k lo u sm (i + 1)).1 = rP (numR B n (nms B n k lo u sm i).1 (lo i) (u i) no) := by rw [hno]; rfl
  refine ⟨⟨fun i' j' z => ?_, fun i' j' => (a.2 i' j').trans (x1.2 i' j')⟩, ?_, fun j hj => ?_⟩
  · rw [zI_sI, if_neg (by omega), a.1 _ _ (by omega)]; exact x1.1 i' j' z
  · rw [e1]
    have q : ∀ j' v', zI h1 157 j' = v' → zI (zsI h1 rid i (nI (rV (numR B n (nms B n k lo u sm i).1 (lo i) (u i) no)))) 157 j' = v' := fun j' v' e => by rw [zI_sI, if_neg (by omega)]; exact e
    generalize rP (numR B n (nms B n k lo u sm i).1 (lo i) (u i) no) = st at m
    cases st with
    | inl f =>
      obtain ⟨m1, m2, m3, m4, k', m5, m6⟩ := m
      exact ⟨q _ _ m1, m2, m3, q _ _ m4, k', m5, q _ _ m6⟩
    | inr k' => exact ⟨q _ _ m.1, q _ _ m.2.1, m.2.2.1, q _ _ m.2.2.2⟩
  · rw [zI_sI, e2]
    unfold nUp
    by_cases z : j = i
    · rw [if_pos ⟨rfl, z⟩, if_pos z]
    · rw [if_neg (by omega), if_neg z, a.1 _ _ (by omega)]; exact x3 j (by omega)
theorem mNs.tx {i : Nat} {ns : yT × (Nat → Nat)} {hc : zH} (hr : 163 < rid ∧ rid < 211) (hx : mTx h B n) (x : mNs h n rid ns i hc) : mTx hc B n := ⟨by rw [x.1.1 _ _ (by omega)]; exact hx.1, fun i hi => by rw [x.1.1 _ _ (by omega)]; exact hx.2 i hi⟩
theorem c_readsRoad (hT : zTM t) (ht : txOk B n) (hx : mTx h B n) (hr : 163 < rid ∧ rid < 211) (hK : zK t rid = (12, 5)) (P ng : Nat) (hP : zI h 159 0 = nI P) (hP2 : P ≤ 12) (k : Nat) (hs : mAt h (.inr k) n) : zMet E b l yX11_readsRoad cX11_readsRoad 2 none 4 0 0 [.ref (b + 157), .ref (b + rid)] t h (qV (fun t' h' => t' = t ∧ mNs h n rid (nms B n k (kLo 1) (kUp 1 P ng) true 5) 5 h')) := by
  have x0 : mNs h n rid (nms B n k (kLo 1) (kUp 1 P ng) true 0) 0 h := ⟨⟨fun _ _ _ => rfl, fun _ _ => rfl⟩, hs, fun j hj => absurd hj (by omega)⟩
  have hPc : ∀ {ns : yT × (Nat → Nat)} {i : Nat} {hc : zH}, mNs h n rid ns i hc → zI hc 159 0 = nI P := fun x => (x.1.1 _ _ (by omega)).trans hP
  refine zMet.of (ls := [some (.ref (b + 157)), some (.ref (b + rid))]) (by decide) (zle rfl) 0 rfl ?_
  intro G hlG C hR hE hin
  refine zz_aload_1 C dX11_readsRoad_0 <| zz_iconst_0 C dX11_readsRoad_1 <| zz_aload_0 C dX11_readsRoad_2 <| zz_iconst_0 C dX11_readsRoad_3 <| zz_aload_0 C dX11_readsRoad_4 <| zz_getR C fX11_17 (tM_K hT) (tM_R_readTold hT) dX11_readsRoad_5 <| zz_iconst_0 C dX11_readsRoad_8 <| zc_iaload C 0 (tM_K_readTold hT) (zlit _ (by decide)) (by decide) dX11_readsRoad_9 <| zpc 10 rfl <| ?_
  rw [hP]
  refine zz_iconst_1 C dX11_readsRoad_10 <| zz_isub C dX11_readsRoad_11 <| zz_iconst_m1 C dX11_readsRoad_12 <| zpc 13 rfl <| ?_
  refine zy_callVI C hR [_, _, _] (c_number hT ht hx _ x0.2.1 0 P _ none (by omega) (by omega) rfl (fun x z => by cases z)) lX11_163 rfl (tM_K hT) (by decide) rfl ⟨zle rfl, zle rfl, zle rfl, zle rfl⟩ (zle rfl) dX11_readsRoad_13 ?_
  intro v1 t1 h1 hv; obtain ⟨ev1, rfl, a1, m1⟩ := hv; have x1 := x0.step (lo := kLo 1) (u := kUp 1 P ng) hr a1 ev1 m1 rfl
  refine zc_iastore C 0 hK (zlit _ (by decide)) (by decide) dX11_readsRoad_16 <| zz_aload_1 C dX11_readsRoad_17 <| zz_iconst_1 C dX11_readsRoad_18 <| zz_aload_0 C dX11_readsRoad_19 <| zz_iconst_0 C dX11_readsRoad_20 <| zz_aload_0 C dX11_readsRoad_21 <| zz_getR C fX11_17 (tM_K hT) (tM_R_readTold hT) dX11_readsRoad_22 <| zz_iconst_0 C dX11_readsRoad_25 <| zc_iaload C 0 (tM_K_readTold hT) (zlit _ (by decide)) (by decide) dX11_readsRoad_26 <| zpc 27 rfl <| ?_
  rw [show zI (zsI h1 rid 0 v1) 159 0 = nI P from hPc x1]
  refine zz_iconst_1 C dX11_readsRoad_27 <| zz_isub C dX11_readsRoad_28 <| zz_aload_1 C dX11_readsRoad_29 <| zz_iconst_0 C dX11_readsRoad_30 <| zc_iaload C 0 hK (zlit _ (by decide)) (by decide) dX11_readsRoad_31 <| zpc 32 rfl <| ?_
  rw [show zI (zsI h1 rid 0 v1) rid 0 = nI ((nms B n k (kLo 1) (kUp 1 P ng) true 1).2 0) from x1.2.2 0 (by omega)]
  refine zy_callVI C hR [_, _, _] (c_number hT ht (x1.tx hr hx) _ x1.2.1 0 P _ (some ((nms B n k (kLo 1) (kUp 1 P ng) true 1).2 0)) (by omega) (by omega) rfl (fun x z => by cases z; have := nms_v (B := B) (n := n) (k := k) (lo := kLo 1) (u := kUp 1 P ng) (sm := true) 1 0; omega)) lX11_163 rfl (tM_K hT) (by decide) rfl ⟨zle rfl, zle rfl, zle rfl, zle rfl⟩ (zle rfl) dX11_readsRoad_32 ?_
  intro v2 t1 h2 hv; obtain ⟨ev2, rfl, a2, m2⟩ := hv; have x2 := x1.step (lo := kLo 1) (u := kUp 1 P ng) hr a2 ev2 m2 rfl
  refine zc_iastore C 1 hK (zlit _ (by decide)) (by decide) dX11_readsRoad_35 <| zz_aload_1 C dX11_readsRoad_36 <| zz_iconst_2 C dX11_readsRoad_37 <| zz_aload_0 C dX11_readsRoad_38 <| zz_iconst_1 C dX11_readsRoad_39 <| zz_bipush C 99 dX11_readsRoad_40 (by decide) <| zz_iconst_m1 C dX11_readsRoad_42 <| zpc 43 rfl <| ?_
  refine zy_callVI C hR [_, _, _] (c_number hT ht (x2.tx hr hx) _ x2.2.1 1 100 _ none (by omega) (by omega) rfl (fun x z => by cases z)) lX11_163 rfl (tM_K hT) (by decide) rfl ⟨zle rfl, zle rfl, zle rfl, zle rfl⟩ (zle rfl) dX11_readsRoad_43 ?_
  intro v3 t1 h3 hv; obtain ⟨ev3, rfl, a3, m3⟩ := hv; have x3 := x2.step (lo := kLo 1) (u := kUp 1 P ng) hr a3 ev3 m3 rfl
  refine zc_iastore C 2 hK (zlit _ (by decide)) (by decide) dX11_readsRoad_46 <| zz_aload_1 C dX11_readsRoad_47 <| zz_iconst_3 C dX11_readsRoad_48 <| zz_aload_0 C dX11_readsRoad_49 <| zz_iconst_0 C dX11_readsRoad_50 <| zz_bipush C 9 dX11_readsRoad_51 (by decide) <| zz_iconst_m1 C dX11_readsRoad_53 <| zpc 54 rfl <| ?_
  refine zy_callVI C hR [_, _, _] (c_number hT ht (x3.tx hr hx) _ x3.2.1 0 10 _ none (by omega) (by omega) rfl (fun x z => by cases z)) lX11_163 rfl (tM_K hT) (by decide) rfl ⟨zle rfl, zle rfl, zle rfl, zle rfl⟩ (zle rfl) dX11_readsRoad_54 ?_
  intro v4 t1 h4 hv; obtain ⟨ev4, rfl, a4, m4⟩ := hv; have x4 := x3.step (lo := kLo 1) (u := kUp 1 P ng) hr a4 ev4 m4 rfl
  refine zc_iastore C 3 hK (zlit _ (by decide)) (by decide) dX11_readsRoad_57 <| zz_aload_1 C dX11_readsRoad_58 <| zz_iconst_4 C dX11_readsRoad_59 <| zz_aload_0 C dX11_readsRoad_60 <| zz_iconst_1 C dX11_readsRoad_61 <| zz_bipush C 30 dX11_readsRoad_62 (by decide) <| zz_iconst_m1 C dX11_readsRoad_64 <| zpc 65 rfl <| ?_
  refine zy_callVI C hR [_, _, _] (c_number hT ht (x4.tx hr hx) _ x4.2.1 1 31 _ none (by omega) (by omega) rfl (fun x z => by cases z)) lX11_163 rfl (tM_K hT) (by decide) rfl ⟨zle rfl, zle rfl, zle rfl, zle rfl⟩ (zle rfl) dX11_readsRoad_65 ?_
  intro v5 t1 h5 hv; obtain ⟨ev5, rfl, a5, m5⟩ := hv; have x5 := x4.step (lo := kLo 1) (u := kUp 1 P ng) hr a5 ev5 m5 rfl
  refine zc_iastore C 4 hK (zlit _ (by decide)) (by decide) dX11_readsRoad_68 <| zpc 69 rfl <| ?_
  refine zy_return C hE (zle rfl) (zle rfl) dX11_readsRoad_69 ?_
  exact ⟨rfl, x5⟩
theorem c_readsGoing (hT : zTM t) (ht : txOk B n) (hx : mTx h B n) (hr : 163 < rid ∧ rid < 211) (hK : zK t rid = (12, 6)) (P ng : Nat) (hP : zI h 159 0 = nI P) (hP2 : P ≤ 12) (k : Nat) (hs : mAt h (.inr k) n) : zMet E b l yX11_readsGoing cX11_readsGoing 2 none 4 0 0 [.ref (b + 157), .ref (b + rid)] t h (qV (fun t' h' => t' = t ∧ mNs h n rid (nms B n k (kLo 3) (kUp 3 P ng) true 4) 4 h' ∧ zI h' rid 4 = 8 ∧ zI h' rid 5 = 0)) := by
  have x0 : mNs h n rid (nms B n k (kLo 3) (kUp 3 P ng) true 0) 0 h := ⟨⟨fun _ _ _ => rfl, fun _ _ => rfl⟩, hs, fun j hj => absurd hj (by omega)⟩
  have hPc : ∀ {ns : yT × (Nat → Nat)} {i : Nat} {hc : zH}, mNs h n rid ns i hc → zI hc 159 0 = nI P := fun x => (x.1.1 _ _ (by omega)).trans hP
  have fin : ∀ {ns : yT × (Nat → Nat)} {hc : zH}, mNs h n rid ns 4 hc → mNs h n rid ns 4 (zsI (zsI hc rid 4 8) rid 5 0) := fun {ns hc} x => by
    obtain ⟨x1, x2, x3⟩ := x
    have q : ∀ j' v', zI hc 157 j' = v' → zI (zsI (zsI hc rid 4 8) rid 5 0) 157 j' = v' := fun j' v' e => by rw [zI_sI, if_neg (by omega), zI_sI, if_neg (by omega)]; exact e
    refine ⟨⟨fun i' j' z => ?_, x1.2⟩, ?_, fun j hj => ?_⟩
    · rw [zI_sI, if_neg (by omega), zI_sI, if_neg (by omega)]; exact x1.1 i' j' z
    · generalize ns.1 = st at x2
      cases st with
      | inl f =>
        obtain ⟨m1, m2, m3, m4, k', m5, m6⟩ := x2
        exact ⟨q _ _ m1, m2, m3, q _ _ m4, k', m5, q _ _ m6⟩
      | inr k' => exact ⟨q _ _ x2.1, q _ _ x2.2.1, x2.2.2.1, q _ _ x2.2.2.2⟩
    · rw [zI_sI, if_neg (by omega), zI_sI, if_neg (by omega)]; exact x3 j hj
  refine zMet.of (ls := [some (.ref (b + 157)), some (.ref (b + rid))]) (by decide) (zle rfl) 0 rfl ?_
  intro G hlG C hR hE hin
  refine zz_aload_1 C dX11_readsGoing_0 <| zz_iconst_0 C dX11_readsGoing_1 <| zz_aload_0 C dX11_readsGoing_2 <| zz_iconst_0 C dX11_readsGoing_3 <| zz_aload_0 C dX11_readsGoing_4 <| zz_getR C fX11_17 (tM_K hT) (tM_R_readTold hT) dX11_readsGoing_5 <| zz_iconst_0 C dX11_readsGoing_8 <| zc_iaload C 0 (tM_K_readTold hT) (zlit _ (by decide)) (by decide) dX11_readsGoing_9 <| zpc 10 rfl <| ?_
  rw [hP]
  refine zz_iconst_1 C dX11_readsGoing_10 <| zz_isub C dX11_readsGoing_11 <| zz_iconst_m1 C dX11_readsGoing_12 <| zpc 13 rfl <| ?_
  refine zy_callVI C hR [_, _, _] (c_number hT ht hx _ x0.2.1 0 P _ none (by omega) (by omega) rfl (fun x z => by cases z)) lX11_163 rfl (tM_K hT) (by decide) rfl ⟨zle rfl, zle rfl, zle rfl, zle rfl⟩ (zle rfl) dX11_readsGoing_13 ?_
  intro v1 t1 h1 hv; obtain ⟨ev1, rfl, a1, m1⟩ := hv; have x1 := x0.step (lo := kLo 3) (u := kUp 3 P ng) hr a1 ev1 m1 rfl
  refine zc_iastore C 0 hK (zlit _ (by decide)) (by decide) dX11_readsGoing_16 <| zz_aload_1 C dX11_readsGoing_17 <| zz_iconst_1 C dX11_readsGoing_18 <| zz_aload_0 C dX11_readsGoing_19 <| zz_iconst_0 C dX11_readsGoing_20 <| zz_aload_0 C dX11_readsGoing_21 <| zz_getR C fX11_17 (tM_K hT) (tM_R_readTold hT) dX11_readsGoing_22 <| zz_iconst_0 C dX11_readsGoing_25 <| zc_iaload C 0 (tM_K_readTold hT) (zlit _ (by decide)) (by decide) dX11_readsGoing_26 <| zpc 27 rfl <| ?_
  rw [show zI (zsI h1 rid 0 v1) 159 0 = nI P from hPc x1]
  refine zz_iconst_1 C dX11_readsGoing_27 <| zz_isub C dX11_readsGoing_28 <| zz_aload_1 C dX11_readsGoing_29 <| zz_iconst_0 C dX11_readsGoing_30 <| zc_iaload C 0 hK (zlit _ (by decide)) (by decide) dX11_readsGoing_31 <| zpc 32 rfl <| ?_
  rw [show zI (zsI h1 rid 0 v1) rid 0 = nI ((nms B n k (kLo 3) (kUp 3 P ng) true 1).2 0) from x1.2.2 0 (by omega)]
  refine zy_callVI C hR [_, _, _] (c_number hT ht (x1.tx hr hx) _ x1.2.1 0 P _ (some ((nms B n k (kLo 3) (kUp 3 P ng) true 1).2 0)) (by omega) (by omega) rfl (fun x z => by cases z; have := nms_v (B := B) (n := n) (k := k) (lo := kLo 3) (u := kUp 3 P ng) (sm := true) 1 0; omega)) lX11_163 rfl (tM_K hT) (by decide) rfl ⟨zle rfl, zle rfl, zle rfl, zle rfl⟩ (zle rfl) dX11_readsGoing_32 ?_
  intro v2 t1 h2 hv; obtain ⟨ev2, rfl, a2, m2⟩ := hv; have x2 := x1.step (lo := kLo 3) (u := kUp 3 P ng) hr a2 ev2 m2 rfl
  refine zc_iastore C 1 hK (zlit _ (by decide)) (by decide) dX11_readsGoing_35 <| zz_aload_1 C dX11_readsGoing_36 <| zz_iconst_2 C dX11_readsGoing_37 <| zz_aload_0 C dX11_readsGoing_38 <| zz_iconst_1 C dX11_readsGoing_39 <| zz_bipush C 127 dX11_readsGoing_40 (by decide) <| zz_iconst_m1 C dX11_readsGoing_42 <| zpc 43 rfl <| ?_
  refine zy_callVI C hR [_, _, _] (c_number hT ht (x2.tx hr hx) _ x2.2.1 1 128 _ none (by omega) (by omega) rfl (fun x z => by cases z)) lX11_163 rfl (tM_K hT) (by decide) rfl ⟨zle rfl, zle rfl, zle rfl, zle rfl⟩ (zle rfl) dX11_readsGoing_43 ?_
  intro v3 t1 h3 hv; obtain ⟨ev3, rfl, a3, m3⟩ := hv; have x3 := x2.step (lo := kLo 3) (u := kUp 3 P ng) hr a3 ev3 m3 rfl
  refine zc_iastore C 2 hK (zlit _ (by decide)) (by decide) dX11_readsGoing_46 <| zz_aload_1 C dX11_readsGoing_47 <| zz_iconst_3 C dX11_readsGoing_48 <| zz_aload_0 C dX11_readsGoing_49 <| zz_iconst_1 C dX11_readsGoing_50 <| zz_bipush C 9 dX11_readsGoing_51 (by decide) <| zz_iconst_m1 C dX11_readsGoing_53 <| zpc 54 rfl <| ?_
  refine zy_callVI C hR [_, _, _] (c_number hT ht (x3.tx hr hx) _ x3.2.1 1 10 _ none (by omega) (by omega) rfl (fun x z => by cases z)) lX11_163 rfl (tM_K hT) (by decide) rfl ⟨zle rfl, zle rfl, zle rfl, zle rfl⟩ (zle rfl) dX11_readsGoing_54 ?_
  intro v4 t1 h4 hv; obtain ⟨ev4, rfl, a4, m4⟩ := hv; have x4 := x3.step (lo := kLo 3) (u := kUp 3 P ng) hr a4 ev4 m4 rfl
  refine zc_iastore C 3 hK (zlit _ (by decide)) (by decide) dX11_readsGoing_57 <| zz_aload_1 C dX11_readsGoing_58 <| zz_iconst_4 C dX11_readsGoing_59 <| zz_bipush C 8 dX11_readsGoing_60 (by decide) <| zc_iastore C 4 hK (zlit _ (by decide)) (by decide) dX11_readsGoing_62 <| zz_aload_1 C dX11_readsGoing_63 <| zz_iconst_5 C dX11_readsGoing_64 <| zz_iconst_0 C dX11_readsGoing_65 <| zc_iastore C 5 hK (zlit _ (by decide)) (by decide) dX11_readsGoing_66 <| zpc 67 rfl <| ?_
  refine zy_return C hE (zle rfl) (zle rfl) dX11_readsGoing_67 ?_
  exact ⟨rfl, fin x4, by rw [zI_sI, if_neg (by omega)]; exact zI_self _ _ _ _, zI_self _ _ _ _⟩
/-- a wet day read -/
def mWt (h : zH) (nw : Nat) (Wt : Nat → Nat) (n : Nat) (ns : yT × (Nat → Nat)) (hc : zH) : Prop := (∀ i j, ¬ (i = 161 ∨ (i = 159 ∧ j = 4) ∨ (i = 157 ∧ (j = 4 ∨ j = 5 ∨ j = 6))) → zI hc i j = zI h i j) ∧ (∀ i j, zL hc i j = zL h i j) ∧ mAt hc ns.1 n ∧ (∀ p, ns.1 = .inr p → (∃ j, j < nw ∧ Wt j = ns.2 0) → zI hc 159 4 = nI nw ∧ ∀ j, j < nw → zI hc 161 j = nI (Wt j)) ∧ (∀ p, ns.1 = .inr p → ¬ (∃ j, j < nw ∧ Wt j = ns.2 0) → zI hc 159 4 = nI (nw + 1) ∧ ∀ j, j < nw + 1 → zI hc 161 j = nI (nUp Wt nw (ns.2 0) j))
theorem c_readsWet (hT : zTM t) (ht : txOk B n) (hx : mTx h B n) (P ng nw : Nat) (Wt : Nat → Nat) (hnw : nw < 8) (hw4 : zI h 159 4 = nI nw) (hwt : ∀ j, j < nw → zI h 161 j = nI (Wt j) ∧ Wt j < 1000) (k : Nat) (hs : mAt h (.inr k) n) : zMet E b l yX11_readsWet cX11_readsWet 4 none 4 0 0 [.ref (b + 157)] t h (qV (fun t' h' => t' = t ∧ mWt h nw Wt n (nms B n k (kLo 6) (kUp 6 P ng) false 1) h')) := by
  obtain ⟨ns, ens⟩ : ∃ ns, ns = nms B n k (kLo 6) (kUp 6 P ng) false 1 := ⟨_, rfl⟩
  have hv1 : ns.2 0 ≤ 100000 := by rw [ens]; exact nms_v 1 0
  refine zMet.of (ls := [some (.ref (b + 157)), none, none, none]) (by decide) (zle rfl) 3 rfl ?_
  intro G hlG C hR hE hin
  have lp : ∀ h1, zAgR h h1 → mAt h1 ns.1 n → ∀ j, j ≤ nw → ∀ (a : Int32), (a = 1 ∧ (∃ i, i < j ∧ Wt i = ns.2 0) ∨ a = 0 ∧ ¬ ∃ i, i < j ∧ Wt i = ns.2 0) → zAW E b G 4 0 0 14 [some (.ref (b + 157)), some (.int (nI ((ns.2 0)))), some (.int a), some (.int (nI j))] [] t h1 := by
    intro h1 a1 m1
    have e4 : zI h1 159 4 = nI nw := (a1.1 _ _ (by omega)).trans hw4
    have ew : ∀ j, j < nw → zI h1 161 j = nI (Wt j) := fun j hj => (a1.1 _ _ (by omega)).trans (hwt j hj).1
    refine zLoop nw fun j hj ih a ha => ?_
    have hwj : j < nw → Wt j < 1000 := fun z => (hwt j z).2
    have yes : ¬ a = 0 → ∃ i, i < j ∧ Wt i = ns.2 0 := fun z => by
      rcases ha with ⟨-, y⟩ | ⟨y, -⟩
      · exact y
      · exact absurd y z
    have nay : a = 0 → ¬ ∃ i, i < j ∧ Wt i = ns.2 0 := fun z => by
      rcases ha with ⟨y, -⟩ | ⟨-, y⟩
      · rw [y] at z; exact absurd z (by decide)
      · exact y
    have k1 : ¬ a = 0 → ∃ i, i < j + 1 ∧ Wt i = ns.2 0 := fun z => by
      obtain ⟨i, hi, e⟩ := yes z
      exact ⟨i, by omega, e⟩
    have k2 : a = 0 → ¬ Wt j = ns.2 0 → ¬ ∃ i, i < j + 1 ∧ Wt i = ns.2 0 := fun z y => by
      rintro ⟨i, hi, e⟩
      by_cases q : i = j
      · rw [q] at e; exact y e
      · exact nay z ⟨i, by omega, e⟩
    have fault : ∀ f, ns.1 = .inl f → ¬ zI h1 157 5 = 0 := fun f e => by
      rw [e] at m1
      rw [m1.1]
      have := m1.2
      exact nI_ne0 (by omega) (by omega)
    have nofault : ∀ p, ns.1 = .inr p → zI h1 157 5 = 0 := fun p e => by
      rw [e] at m1
      exact m1.1
    have endA : (j = nw → ¬ a = 0 ∨ ¬ zI h1 157 5 = 0 → mWt h nw Wt n ns h1) := fun e9 z => by
      refine ⟨fun i q y => a1.1 _ _ (by omega), a1.2, m1, fun p ep ex => ⟨e4, ew⟩, fun p ep ex => ?_⟩
      exfalso
      rcases z with z | z
      · rw [← e9] at ex; exact ex (yes z)
      · exact z (nofault p ep)
    have endB : j = nw → a = 0 → zI h1 157 5 = 0 → mWt h nw Wt n ns (zsI (zsI h1 161 nw (nI (ns.2 0))) 159 4 (nI (nw + 1))) := fun e9 z1 z2 => by
      refine ⟨fun i q y => ?_, a1.2, ?_, fun p ep ex => ?_, fun p ep ex => ⟨zI_self _ _ _ _, fun i hi => ?_⟩⟩
      · rw [zI_sI, if_neg (by omega), zI_sI, if_neg (by omega)]; exact a1.1 _ _ (by omega)
      · have q : ∀ j' v', zI h1 157 j' = v' → zI (zsI (zsI h1 161 nw (nI (ns.2 0))) 159 4 (nI (nw + 1))) 157 j' = v' := fun j' v' e => by rw [zI_sI, if_neg (by omega), zI_sI, if_neg (by omega)]; exact e
        generalize ns.1 = st at m1
        cases st with
        | inl f =>
          obtain ⟨m1, m2, m3, m4, k', m5, m6⟩ := m1
          exact ⟨q _ _ m1, m2, m3, q _ _ m4, k', m5, q _ _ m6⟩
        | inr k' => exact ⟨q _ _ m1.1, q _ _ m1.2.1, m1.2.2.1, q _ _ m1.2.2.2⟩
      · rw [← e9] at ex; exact absurd ex (nay z1)
      · rw [zI_sI, if_neg (by omega), zI_sI]
        unfold nUp
        by_cases y : i = nw
        · rw [if_pos ⟨rfl, y⟩, if_pos y]
        · rw [if_neg (by omega), if_neg y]; exact ew i (by omega)
    refine zz_iload_3 C dX11_readsWet_14 <| zz_aload_0 C dX11_readsWet_15 <| zz_getR C fX11_17 (tM_K hT) (tM_R_readTold hT) dX11_readsWet_16 <| zz_iconst_4 C dX11_readsWet_19 <| zc_iaload C 4 (tM_K_readTold hT) (zlit _ (by decide)) (by decide) dX11_readsWet_20 <| zpc 21 rfl <| ?_
    rw [e4]
    refine zz_icmp_ge C 50 dX11_readsWet_21 (by decide) (fun c21 => ?_) (fun c21 => ?_)
    · rw [nI_leI (by omega) (by omega)] at c21
      refine zz_iload_2 C dX11_readsWet_50 <| zpc 51 rfl <| ?_
      refine zz_if_ne C 61 dX11_readsWet_51 (by decide) (fun c51 => ?_) (fun c51 => ?_)
      · refine zy_return C hE (zle rfl) (zle rfl) dX11_readsWet_61 ?_
        rw [← ens]; first
        | exact ⟨rfl, endA (by omega) (Or.inl c51)⟩
        | exact ⟨rfl, endA (by omega) (Or.inr c58)⟩
      · refine zz_aload_0 C dX11_readsWet_54 <| zz_getI C fX11_120 (tM_K hT) dX11_readsWet_55 <| zpc 58 rfl <| ?_
        refine zz_if_eq C 62 dX11_readsWet_58 (by decide) (fun c58 => ?_) (fun c58 => ?_)
        · refine zz_aload_0 C dX11_readsWet_62 <| zz_getR C fX11_23 (tM_K hT) (tM_R_readWet hT) dX11_readsWet_63 <| zz_aload_0 C dX11_readsWet_66 <| zz_getR C fX11_17 (tM_K hT) (tM_R_readTold hT) dX11_readsWet_67 <| zz_iconst_4 C dX11_readsWet_70 <| zc_iaload C 4 (tM_K_readTold hT) (zlit _ (by decide)) (by decide) dX11_readsWet_71 <| zpc 72 rfl <| ?_
          rw [e4]
          refine zz_iload_1 C dX11_readsWet_72 <| zc_iastore C _ (tM_K_readWet hT) (znI (by omega)) (by omega) dX11_readsWet_73 <| zz_aload_0 C dX11_readsWet_74 <| zz_getR C fX11_17 (tM_K hT) (tM_R_readTold hT) dX11_readsWet_75 <| zz_iconst_4 C dX11_readsWet_78 <| zz_dup2 C dX11_readsWet_79 rfl rfl <| zc_iaload C 4 (tM_K_readTold hT) (zlit _ (by decide)) (by decide) dX11_readsWet_80 <| zpc 81 rfl <| ?_
          rw [zI_sI, if_neg (by omega), e4]
          refine zz_iconst_1 C dX11_readsWet_81 <| zz_iadd C dX11_readsWet_82 <| zpc 83 rfl <| ?_
          rw [show (1 : Int32) = nI 1 from rfl, nI_add]
          refine zc_iastore C 4 (tM_K_readTold hT) (zlit _ (by decide)) (by decide) dX11_readsWet_83 <| zpc 84 rfl <| ?_
          refine zy_return C hE (zle rfl) (zle rfl) dX11_readsWet_84 ?_
          rw [← ens]; exact ⟨rfl, endB (by omega) c51 c58⟩
        · refine zy_return C hE (zle rfl) (zle rfl) dX11_readsWet_61 ?_
          rw [← ens]; first
          | exact ⟨rfl, endA (by omega) (Or.inl c51)⟩
          | exact ⟨rfl, endA (by omega) (Or.inr c58)⟩
    · rw [nI_leI (by omega) (by omega)] at c21
      refine zz_iload_2 C dX11_readsWet_24 <| zpc 25 rfl <| ?_
      refine zz_if_ne C 38 dX11_readsWet_25 (by decide) (fun c25 => ?_) (fun c25 => ?_)
      · refine zz_iconst_1 C dX11_readsWet_38 <| zz_goto C 43 dX11_readsWet_39 (by decide) <| zz_istore_2 C (zle rfl) rfl dX11_readsWet_43 <| zz_iinc_3 C _ (zle rfl) rfl dX11_readsWet_44 nI_s <| zz_goto C 14 dX11_readsWet_47 (by decide) <| zpc 14 rfl <| ?_
        first
        | exact ih (by omega) 1 (Or.inl ⟨rfl, k1 c25⟩)
        | exact ih (by omega) 1 (Or.inl ⟨rfl, j, by omega, c35⟩)
        | exact ih (by omega) 0 (Or.inr ⟨rfl, k2 c25 c35⟩)
      · refine zz_aload_0 C dX11_readsWet_28 <| zz_getR C fX11_23 (tM_K hT) (tM_R_readWet hT) dX11_readsWet_29 <| zz_iload_3 C dX11_readsWet_32 <| zc_iaload C _ (tM_K_readWet hT) (znI (by omega)) (by omega) dX11_readsWet_33 <| zpc 34 rfl <| ?_
        rw [ew j (by omega)]
        refine zz_iload_1 C dX11_readsWet_34 <| zpc 35 rfl <| ?_
        refine zz_icmp_ne C 42 dX11_readsWet_35 (by decide) (fun c35 => ?_) (fun c35 => ?_)
        · rw [nI_eq (by have := hwj (by omega); omega) (by omega)] at c35
          refine zz_iconst_0 C dX11_readsWet_42 <| zz_istore_2 C (zle rfl) rfl dX11_readsWet_43 <| zz_iinc_3 C _ (zle rfl) rfl dX11_readsWet_44 nI_s <| zz_goto C 14 dX11_readsWet_47 (by decide) <| zpc 14 rfl <| ?_
          first
          | exact ih (by omega) 1 (Or.inl ⟨rfl, k1 c25⟩)
          | exact ih (by omega) 1 (Or.inl ⟨rfl, j, by omega, c35⟩)
          | exact ih (by omega) 0 (Or.inr ⟨rfl, k2 c25 c35⟩)
        · rw [nI_eq (by have := hwj (by omega); omega) (by omega)] at c35
          refine zz_iconst_1 C dX11_readsWet_38 <| zz_goto C 43 dX11_readsWet_39 (by decide) <| zz_istore_2 C (zle rfl) rfl dX11_readsWet_43 <| zz_iinc_3 C _ (zle rfl) rfl dX11_readsWet_44 nI_s <| zz_goto C 14 dX11_readsWet_47 (by decide) <| zpc 14 rfl <| ?_
          first
          | exact ih (by omega) 1 (Or.inl ⟨rfl, k1 c25⟩)
          | exact ih (by omega) 1 (Or.inl ⟨rfl, j, by omega, c35⟩)
          | exact ih (by omega) 0 (Or.inr ⟨rfl, k2 c25 c35⟩)
  refine zz_aload_0 C dX11_readsWet_0 <| zz_iconst_0 C dX11_readsWet_1 <| zz_sipush C 999 dX11_readsWet_2 (by decide) <| zz_iconst_m1 C dX11_readsWet_5 <| zpc 6 rfl <| ?_
  refine zy_callVI C hR [_, _, _] (c_number hT ht hx _ hs 0 1000 _ none (by omega) (by omega) rfl (fun x z => by cases z)) lX11_163 rfl (tM_K hT) (by decide) rfl ⟨zle rfl, zle rfl, zle rfl, zle rfl⟩ (zle rfl) dX11_readsWet_6 ?_
  intro v t1 h1 hv; obtain ⟨rfl, rfl, a1, m1⟩ := hv
  refine zz_istore_1 C (zle rfl) rfl dX11_readsWet_9 <| zz_iconst_0 C dX11_readsWet_10 <| zz_istore_2 C (zle rfl) rfl dX11_readsWet_11 <| zz_iconst_0 C dX11_readsWet_12 <| zz_istore_3 C (zle rfl) rfl dX11_readsWet_13 <| zpc 14 rfl <| ?_
  have e1 : rP (numR B n (.inr k) 0 1000 none) = ns.1 := by rw [ens]; rfl
  have e2 : rV (numR B n (.inr k) 0 1000 none) = ns.2 0 := by rw [ens]; rfl
  rw [e2]
  rw [e1] at m1
  exact lp h1 a1 m1 0 (by omega) 0 (Or.inr ⟨rfl, fun ⟨i, hi, _⟩ => absurd hi (by omega)⟩)
end MRS
