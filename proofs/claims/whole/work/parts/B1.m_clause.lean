/-! ===== the reference: a clause ===== -/
def sC (i j : Nat) : Prop := i = 159 ∨ i = 161 ∨ (163 < i ∧ i < 174) ∨ (186 < i ∧ i < 191) ∨ (196 < i ∧ i < 211) ∨ (i = 157 ∧ (j = 4 ∨ j = 5 ∨ j = 6 ∨ j = 7))
def zAgC (h h' : zH) : Prop := (∀ i j, ¬ sC i j → zI h' i j = zI h i j) ∧ ∀ i j, zL h' i j = zL h i j
theorem zAgC.rf (h : zH) : zAgC h h := ⟨fun _ _ _ => rfl, fun _ _ => rfl⟩
theorem zAgC.tr {h h1 h2 : zH} (a : zAgC h h1) (c : zAgC h1 h2) : zAgC h h2 := ⟨fun i k q => (c.1 i k q).trans (a.1 i k q), fun i k => (c.2 i k).trans (a.2 i k)⟩
theorem zAgC.ofR {h h' : zH} (a : zAgR h h') : zAgC h h' := ⟨fun i j z => a.1 i j (fun y => z (by unfold sC; omega)), a.2⟩
theorem zAgC.sI {h h' : zH} (a : zAgC h h') {i j : Nat} {v : Int32} (hs : sC i j) : zAgC h (zsI h' i j v) := ⟨fun i' q hn => by
  rw [zI_sI, if_neg (fun z => hn (by rw [z.1, z.2]; exact hs))]
  exact a.1 i' q hn, a.2⟩
theorem mTx.agC {h h' : zH} {B : Nat → Nat} {n : Nat} (a : zAgC h h') (hx : mTx h B n) : mTx h' B n := ⟨by rw [a.1 _ _ (by unfold sC; omega)]; exact hx.1, fun i hi => by rw [a.1 _ _ (by unfold sC; omega)]; exact hx.2 i hi⟩
theorem mAt.eq {h h' : zH} {st : yT} {n : Nat} (q : ∀ j, j = 4 ∨ j = 5 ∨ j = 6 → zI h' 157 j = zI h 157 j) (m : mAt h st n) : mAt h' st n := by
  cases st with
  | inl f =>
    obtain ⟨m1, m2, m3, m4, k', m5, m6⟩ := m
    exact ⟨(q _ (by omega)).trans m1, m2, m3, (q _ (by omega)).trans m4, k', m5, (q _ (by omega)).trans m6⟩
  | inr k' => exact ⟨(q _ (by omega)).trans m.1, (q _ (by omega)).trans m.2.1, m.2.2.1, (q _ (by omega)).trans m.2.2.2⟩
/-- how a clause came out -/
def mRes (h : zH) (n cn : Nat) (x : (Nat × Nat) ⊕ (Nat × yR)) : Prop := match x with
  | .inl f => mAt h (.inl f) n
  | .inr y => mAt h (.inr y.1) n ∧ zI h 157 7 = nI (cn + 1) ∧ mRr h y.2
theorem mAt_ok {h : zH} {st : yT} {n : Nat} (m : mAt h st n) (z : zI h 157 5 = 0) : ∃ p, st = .inr p := by
  cases st with
  | inl f =>
    obtain ⟨m1, m2, m3, -⟩ := m
    rw [m1] at z
    exact absurd z (nI_ne0 (by omega) (by omega))
  | inr p => exact ⟨p, rfl⟩
theorem mAt_z {h : zH} {st : yT} {n p : Nat} (m : mAt h st n) (e : st = .inr p) : zI h 157 5 = 0 := by
  rw [e] at m
  exact m.1
section MCL
variable {E : zE} {b : Nat} {G : zG} {t : zT} {h : zH} {l : Launch} {B : Nat → Nat} {n : Nat}
theorem c_mostV (q v : Int32) (hv : (if q = 1 then 10 else if q = 2 then 4 else if q = 3 then 14 else 8) = v) : zMet E b l yX11_mostOf cX11_mostOf 1 (some .int) 1 0 0 [.int q] t h (qIf v t h) := by
  rw [← hv]; exact c_mostOf q
/-- a clause's end -/
theorem l_cl338 (hT : zTM t) (ht : txOk B n) (hx : mTx h B n) {k cn : Nat} {r : yR} (C : zCx E b G RX11 cX11_clause 4 none) (hR : zRoom G 6 0 0) (hE : zEnd E b G 0 0 (qV (fun t' h' => t' = t ∧ zAgC h h' ∧ mRes h' n cn (clR B n k cn r)))) (hc : zH) (st : yT) (r' : yR) (x1 x2 x3 : Option Value) (ag : zAgC h hc) (m : mAt hc st n) (ecl : zI hc 157 7 = nI (cn + 1)) (hr : ∀ p, st = .inr p → mRr hc r' ∧ rOk (cn + 1) r') (e : clR B n k cn r = clE (endR B n st) r') : zAW E b G 4 0 0 338 [some (.ref (b + 157)), x1, x2, x3] [] t hc := by
  refine zz_aload_0 C dX11_clause_338 <| zz_bipush C 59 dX11_clause_339 (by decide) <| zpc 341 rfl <| ?_
  refine zy_callVV C hR [_] (c_sign hT ht (hx.agC ag) st m) lX11_177 rfl (tM_K hT) (by decide) rfl ⟨zle rfl, zle rfl, zle rfl, zle rfl⟩ (zle rfl) dX11_clause_341 ?_
  intro t1 h1 hv; obtain ⟨rfl, a1, m1⟩ := hv
  refine zy_return C hE (zle rfl) (zle rfl) dX11_clause_344 ?_
  refine ⟨rfl, ag.tr (.ofR a1), ?_⟩
  rw [e]
  cases e2 : endR B n st with
  | inl f => rw [e2] at m1; exact m1
  | inr k' =>
    obtain ⟨p, hp⟩ := endR_in e2
    rw [e2] at m1
    exact ⟨m1, (a1.1 _ _ (by omega)).trans ecl, (hr p hp).1.eq (hr p hp).2 (fun i j z => a1.1 _ _ (by omega))⟩
/-- over the word -/
theorem l_cl93 (hT : zTM t) (ht : txOk B n) (hx : mTx h B n) {k : Nat} (hk : k ≤ n) (f2 : zI h 157 4 = nI k) (C : zCx E b G RX11 cX11_clause 4 none) (hR : zRoom G 6 0 0) (v1 : Int32) (K : ∀ hc, mMv h (sc (isLt B) n k) hc → zAW E b G 4 0 0 132 [some (.ref (b + 157)), some (.int v1), none, none] [] t hc) : zAW E b G 4 0 0 93 [some (.ref (b + 157)), some (.int v1), none, none] [] t h := by
  have hn := ht.1
  have lp : ∀ p, p ≤ n → ∀ hc, mMv h p hc → sc (isLt B) n p = sc (isLt B) n k → zAW E b G 4 0 0 93 [some (.ref (b + 157)), some (.int v1), none, none] [] t hc := by
    refine zLoop n fun p hp ih hc mv ep => ?_
    have hx2 := hx.ag mv.ag
    have fin : ¬ (p < n ∧ isLt B p = true) → zAW E b G 4 0 0 132 [some (.ref (b + 157)), some (.int v1), none, none] [] t hc := fun z => by
      rw [sc_f z] at ep
      rw [ep] at mv
      exact K hc mv
    refine zz_aload_0 C dX11_clause_93 <| zz_aload_0 C dX11_clause_94 <| zz_getI C fX11_113 (tM_K hT) dX11_clause_95 <| zpc 98 rfl <| ?_
    rw [mv.1]
    refine zf_callVI C hR [_] (c_byteAt hT ht hx2 p (by omega)) lX11_116 rfl (tM_K hT) (by decide) rfl ⟨zle rfl, zle rfl, zle rfl, zle rfl⟩ (zle rfl) dX11_clause_98 ?_
    refine zz_bipush C 97 dX11_clause_101 (by decide) <| zpc 103 rfl <| ?_
    refine zz_icmp_lt C 132 dX11_clause_103 (by decide) (fun c103 => ?_) (fun c103 => ?_)
    · rw [show (97 : Int32) = nI 97 from rfl, bA_lt ht (by omega)] at c103
      first
      | exact fin (fun z => c103 ⟨z.1, (isLt_iff.mp z.2).1⟩)
      | exact fin (fun z => by have := (isLt_iff.mp z.2).2; omega)
    · rw [show (97 : Int32) = nI 97 from rfl, bA_lt ht (by omega)] at c103
      have c103 := Classical.not_not.mp c103; have hB := ht.2 _ c103.1
      refine zz_aload_0 C dX11_clause_106 <| zz_aload_0 C dX11_clause_107 <| zz_getI C fX11_113 (tM_K hT) dX11_clause_108 <| zpc 111 rfl <| ?_
      rw [mv.1]
      refine zf_callVI C hR [_] (c_byteAt hT ht hx2 p (by omega)) lX11_116 rfl (tM_K hT) (by decide) rfl ⟨zle rfl, zle rfl, zle rfl, zle rfl⟩ (zle rfl) dX11_clause_111 ?_
      refine zz_bipush C 122 dX11_clause_114 (by decide) <| zpc 116 rfl <| ?_
      refine zz_icmp_gt C 132 dX11_clause_116 (by decide) (fun c116 => ?_) (fun c116 => ?_)
      · rw [bA_in c103.1, show (122 : Int32) = nI 122 from rfl, nI_ltI (by omega) (by omega)] at c116
        first
        | exact fin (fun z => c103 ⟨z.1, (isLt_iff.mp z.2).1⟩)
        | exact fin (fun z => by have := (isLt_iff.mp z.2).2; omega)
      · rw [bA_in c103.1, show (122 : Int32) = nI 122 from rfl, nI_ltI (by omega) (by omega)] at c116
        refine zz_aload_0 C dX11_clause_119 <| zz_dup C dX11_clause_120 rfl <| zz_getI C fX11_113 (tM_K hT) dX11_clause_121 <| zpc 124 rfl <| ?_
        rw [mv.1]
        refine zz_iconst_1 C dX11_clause_124 <| zz_iadd C dX11_clause_125 <| zpc 126 rfl <| ?_
        rw [show (1 : Int32) = nI 1 from rfl, nI_add]
        refine zy_putI C fX11_113 pX11_4 (tM_K hT) dX11_clause_126 <| zz_goto C 93 dX11_clause_129 (by decide) <| zpc 93 rfl <| ?_
        exact ih c103.1 _ (mv.nx (p + 1)) (by rw [← sc_t c103.1 (isLt_iff.mpr ⟨c103.2, by omega⟩)]; exact ep)
  exact lp k hk h ⟨f2, fun _ _ _ => rfl, fun _ _ => rfl⟩ rfl
/-- what stands where a clause's numbers begin -/
def mCb (h : zH) (B : Nat → Nat) (n j cn : Nat) (r : yR) (hd : zH) : Prop := mTx hd B n ∧ mAt hd (.inr j) n ∧ mRr hd r ∧ zAgC h hd ∧ zI hd 157 7 = nI (cn + 1)
theorem c_clause (hT : zTM t) (ht : txOk B n) (hx : mTx h B n) (k cn : Nat) (r : yR) (hs : mAt h (.inr k) n) (hb : sc (isBl B) n k = k) (hcn : zI h 157 7 = nI cn) (hc60 : cn ≤ 60) (hr : mRr h r) (ok : rOk cn r) : zMet E b l yX11_clause cX11_clause 4 none 6 0 0 [.ref (b + 157)] t h (qV (fun t' h' => t' = t ∧ zAgC h h' ∧ mRes h' n cn (clR B n k cn r))) := by
  have hn := ht.1
  obtain ⟨f1, f2, hk, f9⟩ := hs
  obtain ⟨j, ej⟩ : ∃ j, j = sc (isLt B) n k := ⟨_, rfl⟩
  have hj : j ≤ n := by rw [ej]; exact sc_le hk
  obtain ⟨kd, ekd⟩ : ∃ kd, knd B k (sc (isLt B) n k) = kd := ⟨_, rfl⟩
  have bnd := ok
  obtain ⟨⟨b1, b2, b3, b4⟩, ⟨b5, b6, b7, b8⟩, -, -, -, b12, -⟩ := bnd
  refine zMet.of (ls := [some (.ref (b + 157)), none, none, none]) (by decide) (zle rfl) 3 rfl ?_
  intro G hlG C hR hE hin
  have s338 := fun hc st r' x1 x2 x3 ag m ecl hr e => l_cl338 (h := h) (k := k) (cn := cn) (r := r) hT ht hx C hR hE hc st r' x1 x2 x3 ag m ecl hr e
  have fl : ∀ w : Nat, 1 ≤ w → w ≤ 4 → clR B n k cn r = .inl (w, k) → zAgC h (zsI (zsI h 157 5 (nI w)) 157 6 (nI k)) ∧ mRes (zsI (zsI h 157 5 (nI w)) 157 6 (nI k)) n cn (clR B n k cn r) := fun w h1 h4 e => by
    rw [e]
    refine ⟨((zAgC.rf h).sI (by unfold sC; omega)).sI (by unfold sC; omega), ?_, h1, h4, zI_self _ _ _ _, k, hk, ?_⟩
    · rw [zI_sI, if_neg (by omega)]; exact zI_self _ _ _ _
    · rw [zI_sI, if_neg (by omega), zI_sI, if_neg (by omega)]; exact f2
  have fz : ∀ w : Nat, 1 ≤ w → w ≤ 4 → ¬ zI (zsI (zsI h 157 5 (nI w)) 157 6 (nI k)) 157 5 = 0 := fun w h1 h4 => by
    rw [zI_sI, if_neg (by omega), zI_self]
    exact nI_ne0 (by omega) (by omega)
  have s132 : ∀ (v1 : Int32) (hc : zH), mMv h j hc → (∀ hd, mCb h B n j cn r hd → zAW E b G 4 0 0 142 [some (.ref (b + 157)), some (.int v1), none, none] [] t hd) → zAW E b G 4 0 0 132 [some (.ref (b + 157)), some (.int v1), none, none] [] t hc := by
    intro v1 hc mv K
    have e1 : zI hc 157 7 = nI cn := (mv.2.1 _ _ (by omega)).trans hcn
    have k1 : mCb h B n j cn r (zsI hc 157 7 (nI (cn + 1))) := by
      have a1 : zAgC h (zsI hc 157 7 (nI (cn + 1))) := (zAgC.ofR mv.ag).sI (by unfold sC; omega)
      refine ⟨hx.agC a1, ⟨?_, ?_, hj, ?_⟩, hr.eq ok (fun i j z => ?_), a1, zI_self _ _ _ _⟩
      · rw [zI_sI, if_neg (by omega), mv.2.1 _ _ (by omega)]; exact f1
      · rw [zI_sI, if_neg (by omega)]; exact mv.1
      · rw [zI_sI, if_neg (by omega), mv.2.1 _ _ (by omega)]; exact f9
      · rw [zI_sI, if_neg (by omega)]; exact mv.2.1 _ _ (by omega)
    have k2 := K _ k1
    refine zz_aload_0 C dX11_clause_132 <| zz_dup C dX11_clause_133 rfl <| zz_getI C fX11_157 (tM_K hT) dX11_clause_134 <| zpc 137 rfl <| ?_
    rw [e1]
    refine zz_iconst_1 C dX11_clause_137 <| zz_iadd C dX11_clause_138 <| zpc 139 rfl <| ?_
    rw [show (1 : Int32) = nI 1 from rfl, nI_add]
    refine zy_putI C fX11_157 pX11_7 (tM_K hT) dX11_clause_139 <| zpc 142 rfl <| ?_
    exact k2
  have s85 : ∀ (v1 : Int32), (∀ hd, mCb h B n j cn r hd → zAW E b G 4 0 0 142 [some (.ref (b + 157)), some (.int v1), none, none] [] t hd) → zAW E b G 4 0 0 85 [some (.ref (b + 157)), some (.int v1), none, none] [] t h := by
    intro v1 K
    refine zz_aload_0 C dX11_clause_85 <| zz_getI C fX11_120 (tM_K hT) dX11_clause_86 <| zpc 89 rfl <| ?_
    refine zz_if_eq C 93 dX11_clause_89 (by decide) (fun c89 => ?_) (fun c89 => ?_)
    · exact l_cl93 hT ht hx hk f2 C hR v1 (fun hc mv => s132 v1 hc (by rw [ej]; exact mv) K)
    · exact absurd f1 c89
  have s76 : ∀ (v1 : Int32), clR B n k cn r = .inl (4, k) → zAW E b G 4 0 0 76 [some (.ref (b + 157)), some (.int v1), none, none] [] t h := by
    intro v1 e
    refine zz_aload_0 C dX11_clause_76 <| zz_iconst_4 C dX11_clause_77 <| zz_aload_0 C dX11_clause_78 <| zz_getI C fX11_113 (tM_K hT) dX11_clause_79 <| zpc 82 rfl <| ?_
    rw [f2]
    refine zf_callVV C hR [_, _] (c_wrong0 hT _ _ f1) lX11_133 rfl (tM_K hT) (by decide) rfl ⟨zle rfl, zle rfl, zle rfl, zle rfl⟩ (zle rfl) dX11_clause_82 ?_
    refine zz_aload_0 C dX11_clause_85 <| zz_getI C fX11_120 (tM_K hT) dX11_clause_86 <| zpc 89 rfl <| ?_
    refine zz_if_eq C 93 dX11_clause_89 (by decide) (fun c89 => ?_) (fun c89 => ?_)
    · exact absurd c89 (fz 4 (by omega) (by omega))
    · refine zy_return C hE (zle rfl) (zle rfl) dX11_clause_92 ?_
      exact ⟨rfl, fl 4 (by omega) (by omega) e⟩
  have s53 : ∀ (v1 : Int32), clR B n k cn r = .inl (3, k) → zAW E b G 4 0 0 53 [some (.ref (b + 157)), some (.int v1), none, none] [] t h := by
    intro v1 e
    refine zz_aload_0 C dX11_clause_53 <| zz_iconst_3 C dX11_clause_54 <| zz_aload_0 C dX11_clause_55 <| zz_getI C fX11_113 (tM_K hT) dX11_clause_56 <| zpc 59 rfl <| ?_
    rw [f2]
    refine zf_callVV C hR [_, _] (c_wrong0 hT _ _ f1) lX11_133 rfl (tM_K hT) (by decide) rfl ⟨zle rfl, zle rfl, zle rfl, zle rfl⟩ (zle rfl) dX11_clause_59 ?_
    refine zz_goto C 85 dX11_clause_62 (by decide) <| zz_aload_0 C dX11_clause_85 <| zz_getI C fX11_120 (tM_K hT) dX11_clause_86 <| zpc 89 rfl <| ?_
    refine zz_if_eq C 93 dX11_clause_89 (by decide) (fun c89 => ?_) (fun c89 => ?_)
    · exact absurd c89 (fz 3 (by omega) (by omega))
    · refine zy_return C hE (zle rfl) (zle rfl) dX11_clause_92 ?_
      exact ⟨rfl, fl 3 (by omega) (by omega) e⟩
  have K : kd < 8 → ¬ (60 ≤ cn ∨ kFull kd r) → ¬ (kd = 0 ∧ 0 < cn) → clR B n k cn r = clE (endR B n (clN B n j kd r (kCt kd)).1) (tellR kd (clN B n j kd r (kCt kd)).2 r) := fun h1 h2 h3 => by rw [ej]; exact clR_5 ekd h1 h2 h3
  have K2 : kd < 8 → ¬ (60 ≤ cn ∨ kFull kd r) → ¬ (kd = 0 ∧ 0 < cn) → ∀ p, (clN B n j kd r (kCt kd)).1 = .inr p → rOk (cn + 1) (tellR kd (clN B n j kd r (kCt kd)).2 r) := fun h1 h2 h3 p hp => tellR_ok h1 ok (fun z => h2 (Or.inr z)) h3 (clN_ok hp)
  have K3 : kd < 8 → (60 ≤ cn ∨ kFull kd r) → clR B n k cn r = .inl (3, k) := fun h1 h2 => clR_3 (by rw [ekd]; omega) (by rw [ekd]; exact h2)
  rcases knd_lt (B := B) (s := k) (j := sc (isLt B) n k) with ⟨z8, -⟩ | z8
  · rw [ekd] at z8
    have hcall : ∀ (l : Launch), zMet E b l yX11_kindHere cX11_kindHere 1 (some .int) 5 0 0 [.ref (b + 157)] t h (qIf (kRef kd) t h) := fun l => by rw [← ekd]; exact c_kindHere hT ht hx k f1 hk f2 hb
    obtain rfl | rfl | rfl | rfl | rfl | rfl | rfl | rfl : kd = 0 ∨ kd = 1 ∨ kd = 2 ∨ kd = 3 ∨ kd = 4 ∨ kd = 5 ∨ kd = 6 ∨ kd = 7 := by omega
    ·
      have nf : ¬ (60 ≤ cn ∨ kFull 0 r) → ¬ (0 = 0 ∧ 0 < cn) → ∀ hd, mCb h B n j cn r hd → zAW E b G 4 0 0 142 [some (.ref (b + 157)), some (.int 0), none, none] [] t hd := by
        rintro z3 z4 hd ⟨x, m, hrd, ag, ecl⟩
        refine zz_iload_1 C dX11_clause_142 <| zpc 143 rfl <| ?_
        refine zz_if_ne C 163 dX11_clause_143 (by decide) (fun c143 => ?_) (fun c143 => ?_)
        · exact absurd rfl c143
        · refine zz_aload_0 C dX11_clause_146 <| zz_getR C fX11_17 (tM_K hT) (tM_R_readTold hT) dX11_clause_147 <| zz_iconst_0 C dX11_clause_150 <| zz_aload_0 C dX11_clause_151 <| zz_iconst_2 C dX11_clause_152 <| zz_bipush C 12 dX11_clause_153 (by decide) <| zz_iconst_m1 C dX11_clause_155 <| zpc 156 rfl <| ?_
          refine zy_callVI C hR [_, _, _] (c_number hT ht x _ m 2 13 _ none (by omega) (by omega) rfl (fun x z => by cases z)) lX11_163 rfl (tM_K hT) (by decide) rfl ⟨zle rfl, zle rfl, zle rfl, zle rfl⟩ (zle rfl) dX11_clause_156 ?_
          intro v t1 h1 hv; obtain ⟨ev, rfl, a1, m1⟩ := hv
          refine zc_iastore C 0 (tM_K_readTold hT) (zlit _ (by decide)) (by decide) dX11_clause_159 <| zz_goto C 338 dX11_clause_160 (by decide) <| zpc 338 rfl <| ?_
          refine s338 _ (clN B n j 0 r 1).1 (tellR 0 (clN B n j 0 r 1).2 r) _ _ _ ((ag.tr (.ofR a1)).sI (by unfold sC; omega)) (mAt.eq (fun i hi => by rw [zI_sI, if_neg (by omega)]) m1) (by rw [zI_sI, if_neg (by omega), a1.1 _ _ (by omega)]; exact ecl) (fun p hp => ⟨rr0 ok (fun i j z y => by rw [zI_sI, if_neg (by omega)]; exact a1.1 _ _ (by omega)) (by rw [zI_self]; exact ev) hrd, K2 z8 z3 z4 p hp⟩) (K z8 z3 z4)
      have s5 : zAW E b G 4 0 0 5 [some (.ref (b + 157)), some (.int 0), none, none] [] t h := by
        refine zz_iload_1 C dX11_clause_5 <| zz_iconst_m1 C dX11_clause_6 <| zpc 7 rfl <| ?_
        refine zz_icmp_ne C 22 dX11_clause_7 (by decide) (fun c7 => ?_) (fun c7 => ?_)
        · refine zz_aload_0 C dX11_clause_22 <| zz_getI C fX11_157 (tM_K hT) dX11_clause_23 <| zpc 26 rfl <| ?_
          rw [hcn]
          refine zz_bipush C 60 dX11_clause_26 (by decide) <| zpc 28 rfl <| ?_
          refine zz_icmp_eq C 53 dX11_clause_28 (by decide) (fun c28 => ?_) (fun c28 => ?_)
          · rw [show (60 : Int32) = nI 60 from rfl, nI_eq (by omega) (by omega)] at c28
            exact s53 _ (K3 z8 (Or.inl (by omega)))
          · rw [show (60 : Int32) = nI 60 from rfl, nI_eq (by omega) (by omega)] at c28
            refine zz_iload_1 C dX11_clause_31 <| zz_iconst_1 C dX11_clause_32 <| zz_iconst_4 C dX11_clause_33 <| zpc 34 rfl <| ?_
            refine zf_callSI C hR [_, _, _] (c_in _ _ _) lX11_138 rfl ⟨zle rfl, zle rfl, zle rfl, zle rfl⟩ (zle rfl) dX11_clause_34 ?_
            refine zz_if_eq C 65 dX11_clause_37 (by decide) (fun c37 => ?_) (fun c37 => ?_)
            · refine zz_iload_1 C dX11_clause_65 <| zpc 66 rfl <| ?_
              refine zz_if_ne C 85 dX11_clause_66 (by decide) (fun c66 => ?_) (fun c66 => ?_)
              · exact absurd rfl c66
              · refine zz_aload_0 C dX11_clause_69 <| zz_getI C fX11_157 (tM_K hT) dX11_clause_70 <| zpc 73 rfl <| ?_
                rw [hcn]
                refine zz_if_le C 85 dX11_clause_73 (by decide) (fun c73 => ?_) (fun c73 => ?_)
                · rw [show (0 : Int32) = nI 0 from rfl, nI_leI (by omega) (by omega)] at c73
                  exact s85 _ (nf (by unfold kFull; omega) (by omega))
                · rw [show (0 : Int32) = nI 0 from rfl, nI_leI (by omega) (by omega)] at c73
                  exact s76 _ (clR_4 (by rw [ekd]; unfold kFull; omega) ⟨ekd, by omega⟩)
            · exact absurd c37 (by decide)
        · exact absurd c7 (by decide)
      refine zz_aload_0 C dX11_clause_0 <| zpc 1 rfl <| ?_
      refine zf_callVI C hR [] (hcall _) lX11_154 rfl (tM_K hT) (by decide) rfl ⟨zle rfl, zle rfl, zle rfl, zle rfl⟩ (zle rfl) dX11_clause_1 ?_
      refine zz_istore_1 C (zle rfl) rfl dX11_clause_4 <| zpc 5 rfl <| ?_
      exact s5
    ·
      have nf : ¬ (60 ≤ cn ∨ kFull 1 r) → ¬ (1 = 0 ∧ 0 < cn) → ∀ hd, mCb h B n j cn r hd → zAW E b G 4 0 0 142 [some (.ref (b + 157)), some (.int 1), none, none] [] t hd := by
        rintro z3 z4 hd ⟨x, m, hrd, ag, ecl⟩
        have hnr : r.1.2.1 < 10 := by unfold kFull at z3; omega
        refine zz_iload_1 C dX11_clause_142 <| zpc 143 rfl <| ?_
        refine zz_if_ne C 163 dX11_clause_143 (by decide) (fun c143 => ?_) (fun c143 => ?_)
        · refine zz_iload_1 C dX11_clause_163 <| zz_iconst_3 C dX11_clause_164 <| zpc 165 rfl <| ?_
          refine zz_icmp_ge C 208 dX11_clause_165 (by decide) (fun c165 => ?_) (fun c165 => ?_)
          · exact absurd c165 (by decide)
          · refine zz_aload_0 C dX11_clause_168 <| zz_iload_1 C dX11_clause_169 <| zz_iconst_1 C dX11_clause_170 <| zpc 171 rfl <| ?_
            refine zz_icmp_ne C 181 dX11_clause_171 (by decide) (fun c171 => ?_) (fun c171 => ?_)
            · exact absurd rfl c171
            · refine zz_aload_0 C dX11_clause_174 <| zz_getR C fX11_31 (tM_K hT) (tM_R_readRoad hT) dX11_clause_175 <| zz_goto C 185 dX11_clause_178 (by decide) <| zz_aload_0 C dX11_clause_185 <| zz_getR C fX11_17 (tM_K hT) (tM_R_readTold hT) dX11_clause_186 <| zz_iload_1 C dX11_clause_189 <| zc_iaload C 1 (tM_K_readTold hT) (zlit _ (by decide)) (by decide) dX11_clause_190 <| zpc 191 rfl <| ?_
              rw [hrd.1.2.1]
              refine zc_row C _ (tM_K_readRoad hT) (tM_row_readRoad hT) (znI (by omega)) (by omega) dX11_clause_191 <| fun r191 => ?_
              refine zy_callVV C hR [_] (c_readsRoad hT ht x (rid := 163 + 1 + r.1.2.1) (by omega) (tM_KR_readRoad hT _ (by omega)) r.1.1 r.2.1.1 hrd.1.1 b2 j m) lX11_167 rfl (tM_K hT) (by decide) rfl ⟨zle rfl, zle rfl, zle rfl, zle rfl⟩ (zle rfl) dX11_clause_192 ?_
              intro t1 h1 hv; obtain ⟨rfl, x1⟩ := hv
              refine zz_aload_0 C dX11_clause_195 <| zz_getR C fX11_17 (tM_K hT) (tM_R_readTold hT) dX11_clause_196 <| zz_iload_1 C dX11_clause_199 <| zz_dup2 C dX11_clause_200 rfl rfl <| zc_iaload C 1 (tM_K_readTold hT) (zlit _ (by decide)) (by decide) dX11_clause_201 <| zpc 202 rfl <| ?_
              rw [x1.1.1 _ _ (by omega), hrd.1.2.1]
              refine zz_iconst_1 C dX11_clause_202 <| zz_iadd C dX11_clause_203 <| zpc 204 rfl <| ?_
              rw [show (1 : Int32) = nI 1 from rfl, nI_add]
              refine zc_iastore C 1 (tM_K_readTold hT) (zlit _ (by decide)) (by decide) dX11_clause_204 <| zz_goto C 338 dX11_clause_205 (by decide) <| zpc 338 rfl <| ?_
              refine s338 _ (clN B n j 1 r 5).1 (tellR 1 (clN B n j 1 r 5).2 r) _ _ _ (ag.tr ⟨fun i j z => by rw [zI_sI, if_neg (fun y => z (by unfold sC; omega))]; exact x1.1.1 _ _ (fun y => z (by unfold sC; omega)), x1.1.2⟩) (mAt.eq (fun i hi => by rw [zI_sI, if_neg (by omega)]) x1.2.1) (by rw [zI_sI, if_neg (by omega), x1.1.1 _ _ (by omega)]; exact ecl) (fun p hp => ⟨rr1 ok (fun i j z y w => by rw [zI_sI, if_neg (by omega)]; exact x1.1.1 _ _ (by omega)) (zI_self _ _ _ _) hnr (fun i hi => by rw [zI_sI, if_neg (by omega)]; exact x1.2.2 i hi) hrd, K2 z8 z3 z4 p hp⟩) (K z8 z3 z4)
        · exact absurd c143 (by decide)
      have s5 : zAW E b G 4 0 0 5 [some (.ref (b + 157)), some (.int 1), none, none] [] t h := by
        refine zz_iload_1 C dX11_clause_5 <| zz_iconst_m1 C dX11_clause_6 <| zpc 7 rfl <| ?_
        refine zz_icmp_ne C 22 dX11_clause_7 (by decide) (fun c7 => ?_) (fun c7 => ?_)
        · refine zz_aload_0 C dX11_clause_22 <| zz_getI C fX11_157 (tM_K hT) dX11_clause_23 <| zpc 26 rfl <| ?_
          rw [hcn]
          refine zz_bipush C 60 dX11_clause_26 (by decide) <| zpc 28 rfl <| ?_
          refine zz_icmp_eq C 53 dX11_clause_28 (by decide) (fun c28 => ?_) (fun c28 => ?_)
          · rw [show (60 : Int32) = nI 60 from rfl, nI_eq (by omega) (by omega)] at c28
            first
            | exact s53 _ (K3 z8 (Or.inl (by omega)))
            | exact s53 _ (K3 z8 (Or.inr (Or.inl ⟨rfl, by omega⟩)))
          · rw [show (60 : Int32) = nI 60 from rfl, nI_eq (by omega) (by omega)] at c28
            refine zz_iload_1 C dX11_clause_31 <| zz_iconst_1 C dX11_clause_32 <| zz_iconst_4 C dX11_clause_33 <| zpc 34 rfl <| ?_
            refine zf_callSI C hR [_, _, _] (c_in _ _ _) lX11_138 rfl ⟨zle rfl, zle rfl, zle rfl, zle rfl⟩ (zle rfl) dX11_clause_34 ?_
            refine zz_if_eq C 65 dX11_clause_37 (by decide) (fun c37 => ?_) (fun c37 => ?_)
            · exact absurd c37 (by decide)
            · refine zz_aload_0 C dX11_clause_40 <| zz_getR C fX11_17 (tM_K hT) (tM_R_readTold hT) dX11_clause_41 <| zz_iload_1 C dX11_clause_44 <| zc_iaload C 1 (tM_K_readTold hT) (zlit _ (by decide)) (by decide) dX11_clause_45 <| zpc 46 rfl <| ?_
              rw [hr.1.2.1]
              refine zz_iload_1 C dX11_clause_46 <| zpc 47 rfl <| ?_
              refine zf_callSI C hR [_] (c_mostV 1 (nI 10) (by decide)) lX11_160 rfl ⟨zle rfl, zle rfl, zle rfl, zle rfl⟩ (zle rfl) dX11_clause_47 ?_
              refine zz_icmp_ne C 65 dX11_clause_50 (by decide) (fun c50 => ?_) (fun c50 => ?_)
              · rw [nI_eq (by omega) (by omega)] at c50
                refine zz_iload_1 C dX11_clause_65 <| zpc 66 rfl <| ?_
                refine zz_if_ne C 85 dX11_clause_66 (by decide) (fun c66 => ?_) (fun c66 => ?_)
                · exact s85 _ (nf (by unfold kFull; omega) (by omega))
                · exact absurd c66 (by decide)
              · rw [nI_eq (by omega) (by omega)] at c50
                first
                | exact s53 _ (K3 z8 (Or.inl (by omega)))
                | exact s53 _ (K3 z8 (Or.inr (Or.inl ⟨rfl, by omega⟩)))
        · exact absurd c7 (by decide)
      refine zz_aload_0 C dX11_clause_0 <| zpc 1 rfl <| ?_
      refine zf_callVI C hR [] (hcall _) lX11_154 rfl (tM_K hT) (by decide) rfl ⟨zle rfl, zle rfl, zle rfl, zle rfl⟩ (zle rfl) dX11_clause_1 ?_
      refine zz_istore_1 C (zle rfl) rfl dX11_clause_4 <| zpc 5 rfl <| ?_
      exact s5
    ·
      have nf : ¬ (60 ≤ cn ∨ kFull 2 r) → ¬ (2 = 0 ∧ 0 < cn) → ∀ hd, mCb h B n j cn r hd → zAW E b G 4 0 0 142 [some (.ref (b + 157)), some (.int 2), none, none] [] t hd := by
        rintro z3 z4 hd ⟨x, m, hrd, ag, ecl⟩
        have hnr : r.1.2.2 < 4 := by unfold kFull at z3; omega
        refine zz_iload_1 C dX11_clause_142 <| zpc 143 rfl <| ?_
        refine zz_if_ne C 163 dX11_clause_143 (by decide) (fun c143 => ?_) (fun c143 => ?_)
        · refine zz_iload_1 C dX11_clause_163 <| zz_iconst_3 C dX11_clause_164 <| zpc 165 rfl <| ?_
          refine zz_icmp_ge C 208 dX11_clause_165 (by decide) (fun c165 => ?_) (fun c165 => ?_)
          · exact absurd c165 (by decide)
          · refine zz_aload_0 C dX11_clause_168 <| zz_iload_1 C dX11_clause_169 <| zz_iconst_1 C dX11_clause_170 <| zpc 171 rfl <| ?_
            refine zz_icmp_ne C 181 dX11_clause_171 (by decide) (fun c171 => ?_) (fun c171 => ?_)
            · refine zz_aload_0 C dX11_clause_181 <| zz_getR C fX11_37 (tM_K hT) (tM_R_readMore hT) dX11_clause_182 <| zz_aload_0 C dX11_clause_185 <| zz_getR C fX11_17 (tM_K hT) (tM_R_readTold hT) dX11_clause_186 <| zz_iload_1 C dX11_clause_189 <| zc_iaload C 2 (tM_K_readTold hT) (zlit _ (by decide)) (by decide) dX11_clause_190 <| zpc 191 rfl <| ?_
              rw [hrd.1.2.2.1]
              refine zc_row C _ (tM_K_readMore hT) (tM_row_readMore hT) (znI (by omega)) (by omega) dX11_clause_191 <| fun r191 => ?_
              refine zy_callVV C hR [_] (c_readsRoad hT ht x (rid := 186 + 1 + r.1.2.2) (by omega) (tM_KR_readMore hT _ (by omega)) r.1.1 r.2.1.1 hrd.1.1 b2 j m) lX11_167 rfl (tM_K hT) (by decide) rfl ⟨zle rfl, zle rfl, zle rfl, zle rfl⟩ (zle rfl) dX11_clause_192 ?_
              intro t1 h1 hv; obtain ⟨rfl, x1⟩ := hv; have x1 : mNs hd n (186 + 1 + r.1.2.2) (clN B n j 2 r 5) 5 h1 := x1
              refine zz_aload_0 C dX11_clause_195 <| zz_getR C fX11_17 (tM_K hT) (tM_R_readTold hT) dX11_clause_196 <| zz_iload_1 C dX11_clause_199 <| zz_dup2 C dX11_clause_200 rfl rfl <| zc_iaload C 2 (tM_K_readTold hT) (zlit _ (by decide)) (by decide) dX11_clause_201 <| zpc 202 rfl <| ?_
              rw [x1.1.1 _ _ (by omega), hrd.1.2.2.1]
              refine zz_iconst_1 C dX11_clause_202 <| zz_iadd C dX11_clause_203 <| zpc 204 rfl <| ?_
              rw [show (1 : Int32) = nI 1 from rfl, nI_add]
              refine zc_iastore C 2 (tM_K_readTold hT) (zlit _ (by decide)) (by decide) dX11_clause_204 <| zz_goto C 338 dX11_clause_205 (by decide) <| zpc 338 rfl <| ?_
              refine s338 _ (clN B n j 2 r 5).1 (tellR 2 (clN B n j 2 r 5).2 r) _ _ _ (ag.tr ⟨fun i j z => by rw [zI_sI, if_neg (fun y => z (by unfold sC; omega))]; exact x1.1.1 _ _ (fun y => z (by unfold sC; omega)), x1.1.2⟩) (mAt.eq (fun i hi => by rw [zI_sI, if_neg (by omega)]) x1.2.1) (by rw [zI_sI, if_neg (by omega), x1.1.1 _ _ (by omega)]; exact ecl) (fun p hp => ⟨rr2 ok (fun i j z y w => by rw [zI_sI, if_neg (by omega)]; exact x1.1.1 _ _ (by omega)) (zI_self _ _ _ _) hnr (fun i hi => by rw [zI_sI, if_neg (by omega)]; exact x1.2.2 i hi) hrd, K2 z8 z3 z4 p hp⟩) (K z8 z3 z4)
            · exact absurd c171 (by decide)
        · exact absurd c143 (by decide)
      have s5 : zAW E b G 4 0 0 5 [some (.ref (b + 157)), some (.int 2), none, none] [] t h := by
        refine zz_iload_1 C dX11_clause_5 <| zz_iconst_m1 C dX11_clause_6 <| zpc 7 rfl <| ?_
        refine zz_icmp_ne C 22 dX11_clause_7 (by decide) (fun c7 => ?_) (fun c7 => ?_)
        · refine zz_aload_0 C dX11_clause_22 <| zz_getI C fX11_157 (tM_K hT) dX11_clause_23 <| zpc 26 rfl <| ?_
          rw [hcn]
          refine zz_bipush C 60 dX11_clause_26 (by decide) <| zpc 28 rfl <| ?_
          refine zz_icmp_eq C 53 dX11_clause_28 (by decide) (fun c28 => ?_) (fun c28 => ?_)
          · rw [show (60 : Int32) = nI 60 from rfl, nI_eq (by omega) (by omega)] at c28
            first
            | exact s53 _ (K3 z8 (Or.inl (by omega)))
            | exact s53 _ (K3 z8 (Or.inr (Or.inr (Or.inl ⟨rfl, by omega⟩))))
          · rw [show (60 : Int32) = nI 60 from rfl, nI_eq (by omega) (by omega)] at c28
            refine zz_iload_1 C dX11_clause_31 <| zz_iconst_1 C dX11_clause_32 <| zz_iconst_4 C dX11_clause_33 <| zpc 34 rfl <| ?_
            refine zf_callSI C hR [_, _, _] (c_in _ _ _) lX11_138 rfl ⟨zle rfl, zle rfl, zle rfl, zle rfl⟩ (zle rfl) dX11_clause_34 ?_
            refine zz_if_eq C 65 dX11_clause_37 (by decide) (fun c37 => ?_) (fun c37 => ?_)
            · exact absurd c37 (by decide)
            · refine zz_aload_0 C dX11_clause_40 <| zz_getR C fX11_17 (tM_K hT) (tM_R_readTold hT) dX11_clause_41 <| zz_iload_1 C dX11_clause_44 <| zc_iaload C 2 (tM_K_readTold hT) (zlit _ (by decide)) (by decide) dX11_clause_45 <| zpc 46 rfl <| ?_
              rw [hr.1.2.2.1]
              refine zz_iload_1 C dX11_clause_46 <| zpc 47 rfl <| ?_
              refine zf_callSI C hR [_] (c_mostV 2 (nI 4) (by decide)) lX11_160 rfl ⟨zle rfl, zle rfl, zle rfl, zle rfl⟩ (zle rfl) dX11_clause_47 ?_
              refine zz_icmp_ne C 65 dX11_clause_50 (by decide) (fun c50 => ?_) (fun c50 => ?_)
              · rw [nI_eq (by omega) (by omega)] at c50
                refine zz_iload_1 C dX11_clause_65 <| zpc 66 rfl <| ?_
                refine zz_if_ne C 85 dX11_clause_66 (by decide) (fun c66 => ?_) (fun c66 => ?_)
                · exact s85 _ (nf (by unfold kFull; omega) (by omega))
                · exact absurd c66 (by decide)
              · rw [nI_eq (by omega) (by omega)] at c50
                first
                | exact s53 _ (K3 z8 (Or.inl (by omega)))
                | exact s53 _ (K3 z8 (Or.inr (Or.inr (Or.inl ⟨rfl, by omega⟩))))
        · exact absurd c7 (by decide)
      refine zz_aload_0 C dX11_clause_0 <| zpc 1 rfl <| ?_
      refine zf_callVI C hR [] (hcall _) lX11_154 rfl (tM_K hT) (by decide) rfl ⟨zle rfl, zle rfl, zle rfl, zle rfl⟩ (zle rfl) dX11_clause_1 ?_
      refine zz_istore_1 C (zle rfl) rfl dX11_clause_4 <| zpc 5 rfl <| ?_
      exact s5
    ·
      have nf : ¬ (60 ≤ cn ∨ kFull 3 r) → ¬ (3 = 0 ∧ 0 < cn) → ∀ hd, mCb h B n j cn r hd → zAW E b G 4 0 0 142 [some (.ref (b + 157)), some (.int 3), none, none] [] t hd := by
        rintro z3 z4 hd ⟨x, m, hrd, ag, ecl⟩
        have hnr : r.2.1.1 < 14 := by unfold kFull at z3; omega
        refine zz_iload_1 C dX11_clause_142 <| zpc 143 rfl <| ?_
        refine zz_if_ne C 163 dX11_clause_143 (by decide) (fun c143 => ?_) (fun c143 => ?_)
        · refine zz_iload_1 C dX11_clause_163 <| zz_iconst_3 C dX11_clause_164 <| zpc 165 rfl <| ?_
          refine zz_icmp_ge C 208 dX11_clause_165 (by decide) (fun c165 => ?_) (fun c165 => ?_)
          · refine zz_iload_1 C dX11_clause_208 <| zz_iconst_3 C dX11_clause_209 <| zpc 210 rfl <| ?_
            refine zz_icmp_ne C 241 dX11_clause_210 (by decide) (fun c210 => ?_) (fun c210 => ?_)
            · exact absurd rfl c210
            · refine zz_aload_0 C dX11_clause_213 <| zz_aload_0 C dX11_clause_214 <| zz_getR C fX11_43 (tM_K hT) (tM_R_readGoing hT) dX11_clause_215 <| zz_aload_0 C dX11_clause_218 <| zz_getR C fX11_17 (tM_K hT) (tM_R_readTold hT) dX11_clause_219 <| zz_iconst_3 C dX11_clause_222 <| zc_iaload C 3 (tM_K_readTold hT) (zlit _ (by decide)) (by decide) dX11_clause_223 <| zpc 224 rfl <| ?_
              rw [hrd.1.2.2.2.1]
              refine zc_row C _ (tM_K_readGoing hT) (tM_row_readGoing hT) (znI (by omega)) (by omega) dX11_clause_224 <| fun r224 => ?_
              refine zy_callVV C hR [_] (c_readsGoing hT ht x (rid := 196 + 1 + r.2.1.1) (by omega) (tM_KR_readGoing hT _ (by omega)) r.1.1 r.2.1.1 hrd.1.1 b2 j m) lX11_171 rfl (tM_K hT) (by decide) rfl ⟨zle rfl, zle rfl, zle rfl, zle rfl⟩ (zle rfl) dX11_clause_225 ?_
              intro t1 h1 hv; obtain ⟨rfl, x1, w4, w5⟩ := hv
              refine zz_aload_0 C dX11_clause_228 <| zz_getR C fX11_17 (tM_K hT) (tM_R_readTold hT) dX11_clause_229 <| zz_iconst_3 C dX11_clause_232 <| zz_dup2 C dX11_clause_233 rfl rfl <| zc_iaload C 3 (tM_K_readTold hT) (zlit _ (by decide)) (by decide) dX11_clause_234 <| zpc 235 rfl <| ?_
              rw [x1.1.1 _ _ (by omega), hrd.1.2.2.2.1]
              refine zz_iconst_1 C dX11_clause_235 <| zz_iadd C dX11_clause_236 <| zpc 237 rfl <| ?_
              rw [show (1 : Int32) = nI 1 from rfl, nI_add]
              refine zc_iastore C 3 (tM_K_readTold hT) (zlit _ (by decide)) (by decide) dX11_clause_237 <| zz_goto C 338 dX11_clause_238 (by decide) <| zpc 338 rfl <| ?_
              refine s338 _ (clN B n j 3 r 4).1 (tellR 3 (clN B n j 3 r 4).2 r) _ _ _ (ag.tr ⟨fun i j z => by rw [zI_sI, if_neg (fun y => z (by unfold sC; omega))]; exact x1.1.1 _ _ (fun y => z (by unfold sC; omega)), x1.1.2⟩) (mAt.eq (fun i hi => by rw [zI_sI, if_neg (by omega)]) x1.2.1) (by rw [zI_sI, if_neg (by omega), x1.1.1 _ _ (by omega)]; exact ecl) (fun p hp => ⟨rr3 ok (fun i j z y w => by rw [zI_sI, if_neg (by omega)]; exact x1.1.1 _ _ (by omega)) (zI_self _ _ _ _) hnr (fun i hi => by rw [zI_sI, if_neg (by omega)]; exact x1.2.2 i hi) (by rw [zI_sI, if_neg (by omega)]; exact w4) (by rw [zI_sI, if_neg (by omega)]; exact w5) hrd, K2 z8 z3 z4 p hp⟩) (K z8 z3 z4)
          · exact absurd (by decide) c165
        · exact absurd c143 (by decide)
      have s5 : zAW E b G 4 0 0 5 [some (.ref (b + 157)), some (.int 3), none, none] [] t h := by
        refine zz_iload_1 C dX11_clause_5 <| zz_iconst_m1 C dX11_clause_6 <| zpc 7 rfl <| ?_
        refine zz_icmp_ne C 22 dX11_clause_7 (by decide) (fun c7 => ?_) (fun c7 => ?_)
        · refine zz_aload_0 C dX11_clause_22 <| zz_getI C fX11_157 (tM_K hT) dX11_clause_23 <| zpc 26 rfl <| ?_
          rw [hcn]
          refine zz_bipush C 60 dX11_clause_26 (by decide) <| zpc 28 rfl <| ?_
          refine zz_icmp_eq C 53 dX11_clause_28 (by decide) (fun c28 => ?_) (fun c28 => ?_)
          · rw [show (60 : Int32) = nI 60 from rfl, nI_eq (by omega) (by omega)] at c28
            first
            | exact s53 _ (K3 z8 (Or.inl (by omega)))
            | exact s53 _ (K3 z8 (Or.inr (Or.inr (Or.inr (Or.inl ⟨rfl, by omega⟩)))))
          · rw [show (60 : Int32) = nI 60 from rfl, nI_eq (by omega) (by omega)] at c28
            refine zz_iload_1 C dX11_clause_31 <| zz_iconst_1 C dX11_clause_32 <| zz_iconst_4 C dX11_clause_33 <| zpc 34 rfl <| ?_
            refine zf_callSI C hR [_, _, _] (c_in _ _ _) lX11_138 rfl ⟨zle rfl, zle rfl, zle rfl, zle rfl⟩ (zle rfl) dX11_clause_34 ?_
            refine zz_if_eq C 65 dX11_clause_37 (by decide) (fun c37 => ?_) (fun c37 => ?_)
            · exact absurd c37 (by decide)
            · refine zz_aload_0 C dX11_clause_40 <| zz_getR C fX11_17 (tM_K hT) (tM_R_readTold hT) dX11_clause_41 <| zz_iload_1 C dX11_clause_44 <| zc_iaload C 3 (tM_K_readTold hT) (zlit _ (by decide)) (by decide) dX11_clause_45 <| zpc 46 rfl <| ?_
              rw [hr.1.2.2.2.1]
              refine zz_iload_1 C dX11_clause_46 <| zpc 47 rfl <| ?_
              refine zf_callSI C hR [_] (c_mostV 3 (nI 14) (by decide)) lX11_160 rfl ⟨zle rfl, zle rfl, zle rfl, zle rfl⟩ (zle rfl) dX11_clause_47 ?_
              refine zz_icmp_ne C 65 dX11_clause_50 (by decide) (fun c50 => ?_) (fun c50 => ?_)
              · rw [nI_eq (by omega) (by omega)] at c50
                refine zz_iload_1 C dX11_clause_65 <| zpc 66 rfl <| ?_
                refine zz_if_ne C 85 dX11_clause_66 (by decide) (fun c66 => ?_) (fun c66 => ?_)
                · exact s85 _ (nf (by unfold kFull; omega) (by omega))
                · exact absurd c66 (by decide)
              · rw [nI_eq (by omega) (by omega)] at c50
                first
                | exact s53 _ (K3 z8 (Or.inl (by omega)))
                | exact s53 _ (K3 z8 (Or.inr (Or.inr (Or.inr (Or.inl ⟨rfl, by omega⟩)))))
        · exact absurd c7 (by decide)
      refine zz_aload_0 C dX11_clause_0 <| zpc 1 rfl <| ?_
      refine zf_callVI C hR [] (hcall _) lX11_154 rfl (tM_K hT) (by decide) rfl ⟨zle rfl, zle rfl, zle rfl, zle rfl⟩ (zle rfl) dX11_clause_1 ?_
      refine zz_istore_1 C (zle rfl) rfl dX11_clause_4 <| zpc 5 rfl <| ?_
      exact s5
    ·
      have nf : ¬ (60 ≤ cn ∨ kFull 4 r) → ¬ (4 = 0 ∧ 0 < cn) → ∀ hd, mCb h B n j cn r hd → zAW E b G 4 0 0 142 [some (.ref (b + 157)), some (.int 6), none, none] [] t hd := by
        rintro z3 z4 hd ⟨x, m, hrd, ag, ecl⟩
        obtain ⟨g, eg⟩ : ∃ g, g = rV (numR B n (.inr j) 0 r.2.1.1 none) := ⟨_, rfl⟩
        obtain ⟨w, ew⟩ : ∃ w, w = rV (numR B n (rP (numR B n (.inr j) 0 r.2.1.1 none)) 1 9 none) := ⟨_, rfl⟩
        have eg2 : g = (clN B n j 4 r 2).2 0 := by rw [eg]; rfl
        have ew2 : w = (clN B n j 4 r 2).2 1 := by rw [ew]; rfl
        refine zz_iload_1 C dX11_clause_142 <| zpc 143 rfl <| ?_
        refine zz_if_ne C 163 dX11_clause_143 (by decide) (fun c143 => ?_) (fun c143 => ?_)
        · refine zz_iload_1 C dX11_clause_163 <| zz_iconst_3 C dX11_clause_164 <| zpc 165 rfl <| ?_
          refine zz_icmp_ge C 208 dX11_clause_165 (by decide) (fun c165 => ?_) (fun c165 => ?_)
          · refine zz_iload_1 C dX11_clause_208 <| zz_iconst_3 C dX11_clause_209 <| zpc 210 rfl <| ?_
            refine zz_icmp_ne C 241 dX11_clause_210 (by decide) (fun c210 => ?_) (fun c210 => ?_)
            · refine zz_iload_1 C dX11_clause_241 <| zz_iconst_4 C dX11_clause_242 <| zpc 243 rfl <| ?_
              refine zz_icmp_ne C 253 dX11_clause_243 (by decide) (fun c243 => ?_) (fun c243 => ?_)
              · refine zz_iload_1 C dX11_clause_253 <| zz_iconst_5 C dX11_clause_254 <| zpc 255 rfl <| ?_
                refine zz_icmp_ne C 275 dX11_clause_255 (by decide) (fun c255 => ?_) (fun c255 => ?_)
                · refine zz_aload_0 C dX11_clause_275 <| zz_iconst_0 C dX11_clause_276 <| zz_aload_0 C dX11_clause_277 <| zz_getR C fX11_17 (tM_K hT) (tM_R_readTold hT) dX11_clause_278 <| zz_iconst_3 C dX11_clause_281 <| zc_iaload C 3 (tM_K_readTold hT) (zlit _ (by decide)) (by decide) dX11_clause_282 <| zpc 283 rfl <| ?_
                  rw [hrd.1.2.2.2.1]
                  refine zz_iconst_1 C dX11_clause_283 <| zz_isub C dX11_clause_284 <| zz_iconst_m1 C dX11_clause_285 <| zpc 286 rfl <| ?_
                  refine zy_callVI C hR [_, _, _] (c_number hT ht x _ m 0 r.2.1.1 _ none (by omega) (by omega) rfl (fun x z => by cases z)) lX11_163 rfl (tM_K hT) (by decide) rfl ⟨zle rfl, zle rfl, zle rfl, zle rfl⟩ (zle rfl) dX11_clause_286 ?_
                  intro v t1 h1 hv; obtain ⟨ev, rfl, a1, m1⟩ := hv; rw [← eg] at ev; rw [ev]
                  skip
                  refine zz_istore_2 C (zle rfl) rfl dX11_clause_289 <| zz_aload_0 C dX11_clause_290 <| zz_iload_1 C dX11_clause_291 <| zz_bipush C 6 dX11_clause_292 (by decide) <| zpc 294 rfl <| ?_
                  refine zz_icmp_ne C 301 dX11_clause_294 (by decide) (fun c294 => ?_) (fun c294 => ?_)
                  · exact absurd rfl c294
                  · refine zz_iconst_1 C dX11_clause_297 <| zz_goto C 302 dX11_clause_298 (by decide) <| zz_iload_1 C dX11_clause_302 <| zz_bipush C 6 dX11_clause_303 (by decide) <| zpc 305 rfl <| ?_
                    refine zz_icmp_ne C 313 dX11_clause_305 (by decide) (fun c305 => ?_) (fun c305 => ?_)
                    · exact absurd rfl c305
                    · refine zz_bipush C 8 dX11_clause_308 (by decide) <| zz_goto C 315 dX11_clause_310 (by decide) <| zz_iconst_m1 C dX11_clause_315 <| zpc 316 rfl <| ?_
                      refine zy_callVI C hR [_, _, _] (c_number hT ht (x.ag a1) _ m1 1 9 _ none (by omega) (by omega) rfl (fun x z => by cases z)) lX11_163 rfl (tM_K hT) (by decide) rfl ⟨zle rfl, zle rfl, zle rfl, zle rfl⟩ (zle rfl) dX11_clause_316 ?_
                      intro v2 t1 h2 hv; obtain ⟨ev2, rfl, a2, m2⟩ := hv; rw [← ew] at ev2; rw [ev2]; have a12 := a1.tr a2; have m2 : mAt h2 (clN B n j 4 r 2).1 n := m2
                      skip
                      refine zz_istore_3 C (zle rfl) rfl dX11_clause_319 <| zz_aload_0 C dX11_clause_320 <| zz_getI C fX11_120 (tM_K hT) dX11_clause_321 <| zpc 324 rfl <| ?_
                      refine zz_if_ne C 338 dX11_clause_324 (by decide) (fun c324 => ?_) (fun c324 => ?_)
                      · first
                        | exact s338 _ (clN B n j 4 r 2).1 (tellR 4 (clN B n j 4 r 2).2 r) _ _ _ (ag.tr (.ofR a12)) m2 (by rw [a12.1 _ _ (by omega)]; exact ecl) (fun p hp => absurd (mAt_z m2 hp) c324) (K z8 z3 z4)
                        | exact s338 _ (clN B n j 4 r 2).1 (tellR 4 (clN B n j 4 r 2).2 r) _ _ _ ((ag.tr (.ofR a12)).sI (by unfold sC; omega)) (mAt.eq (fun i hi => by rw [zI_sI, if_neg (by omega)]) m2) (by rw [zI_sI, if_neg (by omega), a12.1 _ _ (by omega)]; exact ecl) (fun p hp => ⟨rr45 ok 4 (by omega) (fun i j z y => by rw [← eg2] at y; rw [zI_sI, if_neg (by omega)]; exact a12.1 _ _ (by omega)) hg0.2 (by rw [← eg2, zI_self, ew2]) hrd, K2 z8 z3 z4 p hp⟩) (K z8 z3 z4)
                      · obtain ⟨p, hp⟩ := mAt_ok m2 c324; have hg0 : 0 ≤ (clN B n j 4 r 2).2 0 ∧ (clN B n j 4 r 2).2 0 < r.2.1.1 := (clN_ok (kd := 4) hp).1 0 (by decide); have hg : g < 14 := (by rw [eg2]; omega)
                        refine zz_aload_0 C dX11_clause_327 <| zz_getR C fX11_43 (tM_K hT) (tM_R_readGoing hT) dX11_clause_328 <| zz_iload_2 C dX11_clause_331 <| zc_row C _ (tM_K_readGoing hT) (tM_row_readGoing hT) (znI (by omega)) (by omega) dX11_clause_332 <| fun r332 => ?_
                        refine zz_iload_1 C dX11_clause_333 <| zz_iconst_2 C dX11_clause_334 <| zz_isub C dX11_clause_335 <| zpc 336 rfl <| ?_
                        rw [show (6 : Int32) - 2 = nI 4 from rfl]
                        refine zz_iload_3 C dX11_clause_336 <| zc_iastore C _ (tM_KR_readGoing hT _ r332) (znI (by omega)) (by omega) dX11_clause_337 <| zpc 338 rfl <| ?_
                        first
                        | exact s338 _ (clN B n j 4 r 2).1 (tellR 4 (clN B n j 4 r 2).2 r) _ _ _ (ag.tr (.ofR a12)) m2 (by rw [a12.1 _ _ (by omega)]; exact ecl) (fun p hp => absurd (mAt_z m2 hp) c324) (K z8 z3 z4)
                        | exact s338 _ (clN B n j 4 r 2).1 (tellR 4 (clN B n j 4 r 2).2 r) _ _ _ ((ag.tr (.ofR a12)).sI (by unfold sC; omega)) (mAt.eq (fun i hi => by rw [zI_sI, if_neg (by omega)]) m2) (by rw [zI_sI, if_neg (by omega), a12.1 _ _ (by omega)]; exact ecl) (fun p hp => ⟨rr45 ok 4 (by omega) (fun i j z y => by rw [← eg2] at y; rw [zI_sI, if_neg (by omega)]; exact a12.1 _ _ (by omega)) hg0.2 (by rw [← eg2, zI_self, ew2]) hrd, K2 z8 z3 z4 p hp⟩) (K z8 z3 z4)
                · exact absurd c255 (by decide)
              · exact absurd c243 (by decide)
            · exact absurd c210 (by decide)
          · exact absurd (by decide) c165
        · exact absurd c143 (by decide)
      have s5 : zAW E b G 4 0 0 5 [some (.ref (b + 157)), some (.int 6), none, none] [] t h := by
        refine zz_iload_1 C dX11_clause_5 <| zz_iconst_m1 C dX11_clause_6 <| zpc 7 rfl <| ?_
        refine zz_icmp_ne C 22 dX11_clause_7 (by decide) (fun c7 => ?_) (fun c7 => ?_)
        · refine zz_aload_0 C dX11_clause_22 <| zz_getI C fX11_157 (tM_K hT) dX11_clause_23 <| zpc 26 rfl <| ?_
          rw [hcn]
          refine zz_bipush C 60 dX11_clause_26 (by decide) <| zpc 28 rfl <| ?_
          refine zz_icmp_eq C 53 dX11_clause_28 (by decide) (fun c28 => ?_) (fun c28 => ?_)
          · rw [show (60 : Int32) = nI 60 from rfl, nI_eq (by omega) (by omega)] at c28
            exact s53 _ (K3 z8 (Or.inl (by omega)))
          · rw [show (60 : Int32) = nI 60 from rfl, nI_eq (by omega) (by omega)] at c28
            refine zz_iload_1 C dX11_clause_31 <| zz_iconst_1 C dX11_clause_32 <| zz_iconst_4 C dX11_clause_33 <| zpc 34 rfl <| ?_
            refine zf_callSI C hR [_, _, _] (c_in _ _ _) lX11_138 rfl ⟨zle rfl, zle rfl, zle rfl, zle rfl⟩ (zle rfl) dX11_clause_34 ?_
            refine zz_if_eq C 65 dX11_clause_37 (by decide) (fun c37 => ?_) (fun c37 => ?_)
            · refine zz_iload_1 C dX11_clause_65 <| zpc 66 rfl <| ?_
              refine zz_if_ne C 85 dX11_clause_66 (by decide) (fun c66 => ?_) (fun c66 => ?_)
              · exact s85 _ (nf (by unfold kFull; omega) (by omega))
              · exact absurd c66 (by decide)
            · exact absurd c37 (by decide)
        · exact absurd c7 (by decide)
      refine zz_aload_0 C dX11_clause_0 <| zpc 1 rfl <| ?_
      refine zf_callVI C hR [] (hcall _) lX11_154 rfl (tM_K hT) (by decide) rfl ⟨zle rfl, zle rfl, zle rfl, zle rfl⟩ (zle rfl) dX11_clause_1 ?_
      refine zz_istore_1 C (zle rfl) rfl dX11_clause_4 <| zpc 5 rfl <| ?_
      exact s5
    ·
      have nf : ¬ (60 ≤ cn ∨ kFull 5 r) → ¬ (5 = 0 ∧ 0 < cn) → ∀ hd, mCb h B n j cn r hd → zAW E b G 4 0 0 142 [some (.ref (b + 157)), some (.int 7), none, none] [] t hd := by
        rintro z3 z4 hd ⟨x, m, hrd, ag, ecl⟩
        obtain ⟨g, eg⟩ : ∃ g, g = rV (numR B n (.inr j) 0 r.2.1.1 none) := ⟨_, rfl⟩
        obtain ⟨w, ew⟩ : ∃ w, w = rV (numR B n (rP (numR B n (.inr j) 0 r.2.1.1 none)) 0 7 none) := ⟨_, rfl⟩
        have eg2 : g = (clN B n j 5 r 2).2 0 := by rw [eg]; rfl
        have ew2 : w = (clN B n j 5 r 2).2 1 := by rw [ew]; rfl
        refine zz_iload_1 C dX11_clause_142 <| zpc 143 rfl <| ?_
        refine zz_if_ne C 163 dX11_clause_143 (by decide) (fun c143 => ?_) (fun c143 => ?_)
        · refine zz_iload_1 C dX11_clause_163 <| zz_iconst_3 C dX11_clause_164 <| zpc 165 rfl <| ?_
          refine zz_icmp_ge C 208 dX11_clause_165 (by decide) (fun c165 => ?_) (fun c165 => ?_)
          · refine zz_iload_1 C dX11_clause_208 <| zz_iconst_3 C dX11_clause_209 <| zpc 210 rfl <| ?_
            refine zz_icmp_ne C 241 dX11_clause_210 (by decide) (fun c210 => ?_) (fun c210 => ?_)
            · refine zz_iload_1 C dX11_clause_241 <| zz_iconst_4 C dX11_clause_242 <| zpc 243 rfl <| ?_
              refine zz_icmp_ne C 253 dX11_clause_243 (by decide) (fun c243 => ?_) (fun c243 => ?_)
              · refine zz_iload_1 C dX11_clause_253 <| zz_iconst_5 C dX11_clause_254 <| zpc 255 rfl <| ?_
                refine zz_icmp_ne C 275 dX11_clause_255 (by decide) (fun c255 => ?_) (fun c255 => ?_)
                · refine zz_aload_0 C dX11_clause_275 <| zz_iconst_0 C dX11_clause_276 <| zz_aload_0 C dX11_clause_277 <| zz_getR C fX11_17 (tM_K hT) (tM_R_readTold hT) dX11_clause_278 <| zz_iconst_3 C dX11_clause_281 <| zc_iaload C 3 (tM_K_readTold hT) (zlit _ (by decide)) (by decide) dX11_clause_282 <| zpc 283 rfl <| ?_
                  rw [hrd.1.2.2.2.1]
                  refine zz_iconst_1 C dX11_clause_283 <| zz_isub C dX11_clause_284 <| zz_iconst_m1 C dX11_clause_285 <| zpc 286 rfl <| ?_
                  refine zy_callVI C hR [_, _, _] (c_number hT ht x _ m 0 r.2.1.1 _ none (by omega) (by omega) rfl (fun x z => by cases z)) lX11_163 rfl (tM_K hT) (by decide) rfl ⟨zle rfl, zle rfl, zle rfl, zle rfl⟩ (zle rfl) dX11_clause_286 ?_
                  intro v t1 h1 hv; obtain ⟨ev, rfl, a1, m1⟩ := hv; rw [← eg] at ev; rw [ev]
                  skip
                  refine zz_istore_2 C (zle rfl) rfl dX11_clause_289 <| zz_aload_0 C dX11_clause_290 <| zz_iload_1 C dX11_clause_291 <| zz_bipush C 6 dX11_clause_292 (by decide) <| zpc 294 rfl <| ?_
                  refine zz_icmp_ne C 301 dX11_clause_294 (by decide) (fun c294 => ?_) (fun c294 => ?_)
                  · refine zz_iconst_0 C dX11_clause_301 <| zz_iload_1 C dX11_clause_302 <| zz_bipush C 6 dX11_clause_303 (by decide) <| zpc 305 rfl <| ?_
                    refine zz_icmp_ne C 313 dX11_clause_305 (by decide) (fun c305 => ?_) (fun c305 => ?_)
                    · refine zz_bipush C 6 dX11_clause_313 (by decide) <| zz_iconst_m1 C dX11_clause_315 <| zpc 316 rfl <| ?_
                      refine zy_callVI C hR [_, _, _] (c_number hT ht (x.ag a1) _ m1 0 7 _ none (by omega) (by omega) rfl (fun x z => by cases z)) lX11_163 rfl (tM_K hT) (by decide) rfl ⟨zle rfl, zle rfl, zle rfl, zle rfl⟩ (zle rfl) dX11_clause_316 ?_
                      intro v2 t1 h2 hv; obtain ⟨ev2, rfl, a2, m2⟩ := hv; rw [← ew] at ev2; rw [ev2]; have a12 := a1.tr a2; have m2 : mAt h2 (clN B n j 5 r 2).1 n := m2
                      skip
                      refine zz_istore_3 C (zle rfl) rfl dX11_clause_319 <| zz_aload_0 C dX11_clause_320 <| zz_getI C fX11_120 (tM_K hT) dX11_clause_321 <| zpc 324 rfl <| ?_
                      refine zz_if_ne C 338 dX11_clause_324 (by decide) (fun c324 => ?_) (fun c324 => ?_)
                      · first
                        | exact s338 _ (clN B n j 5 r 2).1 (tellR 5 (clN B n j 5 r 2).2 r) _ _ _ (ag.tr (.ofR a12)) m2 (by rw [a12.1 _ _ (by omega)]; exact ecl) (fun p hp => absurd (mAt_z m2 hp) c324) (K z8 z3 z4)
                        | exact s338 _ (clN B n j 5 r 2).1 (tellR 5 (clN B n j 5 r 2).2 r) _ _ _ ((ag.tr (.ofR a12)).sI (by unfold sC; omega)) (mAt.eq (fun i hi => by rw [zI_sI, if_neg (by omega)]) m2) (by rw [zI_sI, if_neg (by omega), a12.1 _ _ (by omega)]; exact ecl) (fun p hp => ⟨rr45 ok 5 (by omega) (fun i j z y => by rw [← eg2] at y; rw [zI_sI, if_neg (by omega)]; exact a12.1 _ _ (by omega)) hg0.2 (by rw [← eg2, zI_self, ew2]) hrd, K2 z8 z3 z4 p hp⟩) (K z8 z3 z4)
                      · obtain ⟨p, hp⟩ := mAt_ok m2 c324; have hg0 : 0 ≤ (clN B n j 5 r 2).2 0 ∧ (clN B n j 5 r 2).2 0 < r.2.1.1 := (clN_ok (kd := 5) hp).1 0 (by decide); have hg : g < 14 := (by rw [eg2]; omega)
                        refine zz_aload_0 C dX11_clause_327 <| zz_getR C fX11_43 (tM_K hT) (tM_R_readGoing hT) dX11_clause_328 <| zz_iload_2 C dX11_clause_331 <| zc_row C _ (tM_K_readGoing hT) (tM_row_readGoing hT) (znI (by omega)) (by omega) dX11_clause_332 <| fun r332 => ?_
                        refine zz_iload_1 C dX11_clause_333 <| zz_iconst_2 C dX11_clause_334 <| zz_isub C dX11_clause_335 <| zpc 336 rfl <| ?_
                        rw [show (7 : Int32) - 2 = nI 5 from rfl]
                        refine zz_iload_3 C dX11_clause_336 <| zc_iastore C _ (tM_KR_readGoing hT _ r332) (znI (by omega)) (by omega) dX11_clause_337 <| zpc 338 rfl <| ?_
                        first
                        | exact s338 _ (clN B n j 5 r 2).1 (tellR 5 (clN B n j 5 r 2).2 r) _ _ _ (ag.tr (.ofR a12)) m2 (by rw [a12.1 _ _ (by omega)]; exact ecl) (fun p hp => absurd (mAt_z m2 hp) c324) (K z8 z3 z4)
                        | exact s338 _ (clN B n j 5 r 2).1 (tellR 5 (clN B n j 5 r 2).2 r) _ _ _ ((ag.tr (.ofR a12)).sI (by unfold sC; omega)) (mAt.eq (fun i hi => by rw [zI_sI, if_neg (by omega)]) m2) (by rw [zI_sI, if_neg (by omega), a12.1 _ _ (by omega)]; exact ecl) (fun p hp => ⟨rr45 ok 5 (by omega) (fun i j z y => by rw [← eg2] at y; rw [zI_sI, if_neg (by omega)]; exact a12.1 _ _ (by omega)) hg0.2 (by rw [← eg2, zI_self, ew2]) hrd, K2 z8 z3 z4 p hp⟩) (K z8 z3 z4)
                    · exact absurd c305 (by decide)
                  · exact absurd c294 (by decide)
                · exact absurd c255 (by decide)
              · exact absurd c243 (by decide)
            · exact absurd c210 (by decide)
          · exact absurd (by decide) c165
        · exact absurd c143 (by decide)
      have s5 : zAW E b G 4 0 0 5 [some (.ref (b + 157)), some (.int 7), none, none] [] t h := by
        refine zz_iload_1 C dX11_clause_5 <| zz_iconst_m1 C dX11_clause_6 <| zpc 7 rfl <| ?_
        refine zz_icmp_ne C 22 dX11_clause_7 (by decide) (fun c7 => ?_) (fun c7 => ?_)
        · refine zz_aload_0 C dX11_clause_22 <| zz_getI C fX11_157 (tM_K hT) dX11_clause_23 <| zpc 26 rfl <| ?_
          rw [hcn]
          refine zz_bipush C 60 dX11_clause_26 (by decide) <| zpc 28 rfl <| ?_
          refine zz_icmp_eq C 53 dX11_clause_28 (by decide) (fun c28 => ?_) (fun c28 => ?_)
          · rw [show (60 : Int32) = nI 60 from rfl, nI_eq (by omega) (by omega)] at c28
            exact s53 _ (K3 z8 (Or.inl (by omega)))
          · rw [show (60 : Int32) = nI 60 from rfl, nI_eq (by omega) (by omega)] at c28
            refine zz_iload_1 C dX11_clause_31 <| zz_iconst_1 C dX11_clause_32 <| zz_iconst_4 C dX11_clause_33 <| zpc 34 rfl <| ?_
            refine zf_callSI C hR [_, _, _] (c_in _ _ _) lX11_138 rfl ⟨zle rfl, zle rfl, zle rfl, zle rfl⟩ (zle rfl) dX11_clause_34 ?_
            refine zz_if_eq C 65 dX11_clause_37 (by decide) (fun c37 => ?_) (fun c37 => ?_)
            · refine zz_iload_1 C dX11_clause_65 <| zpc 66 rfl <| ?_
              refine zz_if_ne C 85 dX11_clause_66 (by decide) (fun c66 => ?_) (fun c66 => ?_)
              · exact s85 _ (nf (by unfold kFull; omega) (by omega))
              · exact absurd c66 (by decide)
            · exact absurd c37 (by decide)
        · exact absurd c7 (by decide)
      refine zz_aload_0 C dX11_clause_0 <| zpc 1 rfl <| ?_
      refine zf_callVI C hR [] (hcall _) lX11_154 rfl (tM_K hT) (by decide) rfl ⟨zle rfl, zle rfl, zle rfl, zle rfl⟩ (zle rfl) dX11_clause_1 ?_
      refine zz_istore_1 C (zle rfl) rfl dX11_clause_4 <| zpc 5 rfl <| ?_
      exact s5
    ·
      have nf : ¬ (60 ≤ cn ∨ kFull 6 r) → ¬ (6 = 0 ∧ 0 < cn) → ∀ hd, mCb h B n j cn r hd → zAW E b G 4 0 0 142 [some (.ref (b + 157)), some (.int 4), none, none] [] t hd := by
        rintro z3 z4 hd ⟨x, m, hrd, ag, ecl⟩
        have hnr : r.2.1.2.1 < 8 := by unfold kFull at z3; omega
        refine zz_iload_1 C dX11_clause_142 <| zpc 143 rfl <| ?_
        refine zz_if_ne C 163 dX11_clause_143 (by decide) (fun c143 => ?_) (fun c143 => ?_)
        · refine zz_iload_1 C dX11_clause_163 <| zz_iconst_3 C dX11_clause_164 <| zpc 165 rfl <| ?_
          refine zz_icmp_ge C 208 dX11_clause_165 (by decide) (fun c165 => ?_) (fun c165 => ?_)
          · refine zz_iload_1 C dX11_clause_208 <| zz_iconst_3 C dX11_clause_209 <| zpc 210 rfl <| ?_
            refine zz_icmp_ne C 241 dX11_clause_210 (by decide) (fun c210 => ?_) (fun c210 => ?_)
            · refine zz_iload_1 C dX11_clause_241 <| zz_iconst_4 C dX11_clause_242 <| zpc 243 rfl <| ?_
              refine zz_icmp_ne C 253 dX11_clause_243 (by decide) (fun c243 => ?_) (fun c243 => ?_)
              · exact absurd rfl c243
              · refine zz_aload_0 C dX11_clause_246 <| zpc 247 rfl <| ?_
                refine zy_callVV C hR [] (c_readsWet hT ht x r.1.1 r.2.1.1 r.2.1.2.1 r.2.2.2.2.2 hnr hrd.1.2.2.2.2.1 (fun i hi => ⟨hrd.2.2.2.2 i hi, b12 i hi⟩) j m) lX11_174 rfl (tM_K hT) (by decide) rfl ⟨zle rfl, zle rfl, zle rfl, zle rfl⟩ (zle rfl) dX11_clause_247 ?_
                intro t1 h1 hv; obtain ⟨rfl, w1, w2, w3, w4, w5⟩ := hv
                refine zz_goto C 338 dX11_clause_250 (by decide) <| zpc 338 rfl <| ?_
                refine s338 _ (clN B n j 6 r 1).1 (tellR 6 (clN B n j 6 r 1).2 r) _ _ _ (ag.tr ⟨fun i j z => w1 _ _ (fun y => z (by unfold sC; omega)), w2⟩) w3 (by rw [w1 _ _ (by omega)]; exact ecl) (fun p hp => ⟨rr6 ok (fun i j z y w => w1 _ _ (by omega)) (w4 p hp) (w5 p hp) hrd, K2 z8 z3 z4 p hp⟩) (K z8 z3 z4)
            · exact absurd c210 (by decide)
          · exact absurd (by decide) c165
        · exact absurd c143 (by decide)
      have s5 : zAW E b G 4 0 0 5 [some (.ref (b + 157)), some (.int 4), none, none] [] t h := by
        refine zz_iload_1 C dX11_clause_5 <| zz_iconst_m1 C dX11_clause_6 <| zpc 7 rfl <| ?_
        refine zz_icmp_ne C 22 dX11_clause_7 (by decide) (fun c7 => ?_) (fun c7 => ?_)
        · refine zz_aload_0 C dX11_clause_22 <| zz_getI C fX11_157 (tM_K hT) dX11_clause_23 <| zpc 26 rfl <| ?_
          rw [hcn]
          refine zz_bipush C 60 dX11_clause_26 (by decide) <| zpc 28 rfl <| ?_
          refine zz_icmp_eq C 53 dX11_clause_28 (by decide) (fun c28 => ?_) (fun c28 => ?_)
          · rw [show (60 : Int32) = nI 60 from rfl, nI_eq (by omega) (by omega)] at c28
            first
            | exact s53 _ (K3 z8 (Or.inl (by omega)))
            | exact s53 _ (K3 z8 (Or.inr (Or.inr (Or.inr (Or.inr ⟨rfl, by omega⟩)))))
          · rw [show (60 : Int32) = nI 60 from rfl, nI_eq (by omega) (by omega)] at c28
            refine zz_iload_1 C dX11_clause_31 <| zz_iconst_1 C dX11_clause_32 <| zz_iconst_4 C dX11_clause_33 <| zpc 34 rfl <| ?_
            refine zf_callSI C hR [_, _, _] (c_in _ _ _) lX11_138 rfl ⟨zle rfl, zle rfl, zle rfl, zle rfl⟩ (zle rfl) dX11_clause_34 ?_
            refine zz_if_eq C 65 dX11_clause_37 (by decide) (fun c37 => ?_) (fun c37 => ?_)
            · exact absurd c37 (by decide)
            · refine zz_aload_0 C dX11_clause_40 <| zz_getR C fX11_17 (tM_K hT) (tM_R_readTold hT) dX11_clause_41 <| zz_iload_1 C dX11_clause_44 <| zc_iaload C 4 (tM_K_readTold hT) (zlit _ (by decide)) (by decide) dX11_clause_45 <| zpc 46 rfl <| ?_
              rw [hr.1.2.2.2.2.1]
              refine zz_iload_1 C dX11_clause_46 <| zpc 47 rfl <| ?_
              refine zf_callSI C hR [_] (c_mostV 4 (nI 8) (by decide)) lX11_160 rfl ⟨zle rfl, zle rfl, zle rfl, zle rfl⟩ (zle rfl) dX11_clause_47 ?_
              refine zz_icmp_ne C 65 dX11_clause_50 (by decide) (fun c50 => ?_) (fun c50 => ?_)
              · rw [nI_eq (by omega) (by omega)] at c50
                refine zz_iload_1 C dX11_clause_65 <| zpc 66 rfl <| ?_
                refine zz_if_ne C 85 dX11_clause_66 (by decide) (fun c66 => ?_) (fun c66 => ?_)
                · exact s85 _ (nf (by unfold kFull; omega) (by omega))
                · exact absurd c66 (by decide)
              · rw [nI_eq (by omega) (by omega)] at c50
                first
                | exact s53 _ (K3 z8 (Or.inl (by omega)))
                | exact s53 _ (K3 z8 (Or.inr (Or.inr (Or.inr (Or.inr ⟨rfl, by omega⟩)))))
        · exact absurd c7 (by decide)
      refine zz_aload_0 C dX11_clause_0 <| zpc 1 rfl <| ?_
      refine zf_callVI C hR [] (hcall _) lX11_154 rfl (tM_K hT) (by decide) rfl ⟨zle rfl, zle rfl, zle rfl, zle rfl⟩ (zle rfl) dX11_clause_1 ?_
      refine zz_istore_1 C (zle rfl) rfl dX11_clause_4 <| zpc 5 rfl <| ?_
      exact s5
    ·
      have nf : ¬ (60 ≤ cn ∨ kFull 7 r) → ¬ (7 = 0 ∧ 0 < cn) → ∀ hd, mCb h B n j cn r hd → zAW E b G 4 0 0 142 [some (.ref (b + 157)), some (.int 5), none, none] [] t hd := by
        rintro z3 z4 hd ⟨x, m, hrd, ag, ecl⟩
        refine zz_iload_1 C dX11_clause_142 <| zpc 143 rfl <| ?_
        refine zz_if_ne C 163 dX11_clause_143 (by decide) (fun c143 => ?_) (fun c143 => ?_)
        · refine zz_iload_1 C dX11_clause_163 <| zz_iconst_3 C dX11_clause_164 <| zpc 165 rfl <| ?_
          refine zz_icmp_ge C 208 dX11_clause_165 (by decide) (fun c165 => ?_) (fun c165 => ?_)
          · refine zz_iload_1 C dX11_clause_208 <| zz_iconst_3 C dX11_clause_209 <| zpc 210 rfl <| ?_
            refine zz_icmp_ne C 241 dX11_clause_210 (by decide) (fun c210 => ?_) (fun c210 => ?_)
            · refine zz_iload_1 C dX11_clause_241 <| zz_iconst_4 C dX11_clause_242 <| zpc 243 rfl <| ?_
              refine zz_icmp_ne C 253 dX11_clause_243 (by decide) (fun c243 => ?_) (fun c243 => ?_)
              · refine zz_iload_1 C dX11_clause_253 <| zz_iconst_5 C dX11_clause_254 <| zpc 255 rfl <| ?_
                refine zz_icmp_ne C 275 dX11_clause_255 (by decide) (fun c255 => ?_) (fun c255 => ?_)
                · exact absurd rfl c255
                · refine zz_aload_0 C dX11_clause_258 <| zz_getR C fX11_17 (tM_K hT) (tM_R_readTold hT) dX11_clause_259 <| zz_iconst_5 C dX11_clause_262 <| zz_aload_0 C dX11_clause_263 <| zz_iconst_3 C dX11_clause_264 <| zz_bipush C 11 dX11_clause_265 (by decide) <| zz_iconst_m1 C dX11_clause_267 <| zpc 268 rfl <| ?_
                  refine zy_callVI C hR [_, _, _] (c_number hT ht x _ m 3 12 _ none (by omega) (by omega) rfl (fun x z => by cases z)) lX11_163 rfl (tM_K hT) (by decide) rfl ⟨zle rfl, zle rfl, zle rfl, zle rfl⟩ (zle rfl) dX11_clause_268 ?_
                  intro v t1 h1 hv; obtain ⟨ev, rfl, a1, m1⟩ := hv
                  refine zc_iastore C 5 (tM_K_readTold hT) (zlit _ (by decide)) (by decide) dX11_clause_271 <| zz_goto C 338 dX11_clause_272 (by decide) <| zpc 338 rfl <| ?_
                  refine s338 _ (clN B n j 7 r 1).1 (tellR 7 (clN B n j 7 r 1).2 r) _ _ _ ((ag.tr (.ofR a1)).sI (by unfold sC; omega)) (mAt.eq (fun i hi => by rw [zI_sI, if_neg (by omega)]) m1) (by rw [zI_sI, if_neg (by omega), a1.1 _ _ (by omega)]; exact ecl) (fun p hp => ⟨rr7 ok (fun i j z y => by rw [zI_sI, if_neg (by omega)]; exact a1.1 _ _ (by omega)) (by rw [zI_self]; exact ev) hrd, K2 z8 z3 z4 p hp⟩) (K z8 z3 z4)
              · exact absurd c243 (by decide)
            · exact absurd c210 (by decide)
          · exact absurd (by decide) c165
        · exact absurd c143 (by decide)
      have s5 : zAW E b G 4 0 0 5 [some (.ref (b + 157)), some (.int 5), none, none] [] t h := by
        refine zz_iload_1 C dX11_clause_5 <| zz_iconst_m1 C dX11_clause_6 <| zpc 7 rfl <| ?_
        refine zz_icmp_ne C 22 dX11_clause_7 (by decide) (fun c7 => ?_) (fun c7 => ?_)
        · refine zz_aload_0 C dX11_clause_22 <| zz_getI C fX11_157 (tM_K hT) dX11_clause_23 <| zpc 26 rfl <| ?_
          rw [hcn]
          refine zz_bipush C 60 dX11_clause_26 (by decide) <| zpc 28 rfl <| ?_
          refine zz_icmp_eq C 53 dX11_clause_28 (by decide) (fun c28 => ?_) (fun c28 => ?_)
          · rw [show (60 : Int32) = nI 60 from rfl, nI_eq (by omega) (by omega)] at c28
            exact s53 _ (K3 z8 (Or.inl (by omega)))
          · rw [show (60 : Int32) = nI 60 from rfl, nI_eq (by omega) (by omega)] at c28
            refine zz_iload_1 C dX11_clause_31 <| zz_iconst_1 C dX11_clause_32 <| zz_iconst_4 C dX11_clause_33 <| zpc 34 rfl <| ?_
            refine zf_callSI C hR [_, _, _] (c_in _ _ _) lX11_138 rfl ⟨zle rfl, zle rfl, zle rfl, zle rfl⟩ (zle rfl) dX11_clause_34 ?_
            refine zz_if_eq C 65 dX11_clause_37 (by decide) (fun c37 => ?_) (fun c37 => ?_)
            · refine zz_iload_1 C dX11_clause_65 <| zpc 66 rfl <| ?_
              refine zz_if_ne C 85 dX11_clause_66 (by decide) (fun c66 => ?_) (fun c66 => ?_)
              · exact s85 _ (nf (by unfold kFull; omega) (by omega))
              · exact absurd c66 (by decide)
            · exact absurd c37 (by decide)
        · exact absurd c7 (by decide)
      refine zz_aload_0 C dX11_clause_0 <| zpc 1 rfl <| ?_
      refine zf_callVI C hR [] (hcall _) lX11_154 rfl (tM_K hT) (by decide) rfl ⟨zle rfl, zle rfl, zle rfl, zle rfl⟩ (zle rfl) dX11_clause_1 ?_
      refine zz_istore_1 C (zle rfl) rfl dX11_clause_4 <| zpc 5 rfl <| ?_
      exact s5
  ·
    refine zz_aload_0 C dX11_clause_0 <| zpc 1 rfl <| ?_
    refine zf_callVI C hR [] (c_kindHere hT ht hx k f1 hk f2 hb) lX11_154 rfl (tM_K hT) (by decide) rfl ⟨zle rfl, zle rfl, zle rfl, zle rfl⟩ (zle rfl) dX11_clause_1 ?_
    rw [z8, show kRef 8 = -1 from rfl]
    refine zz_istore_1 C (zle rfl) rfl dX11_clause_4 <| zz_iload_1 C dX11_clause_5 <| zz_iconst_m1 C dX11_clause_6 <| zpc 7 rfl <| ?_
    refine zz_icmp_ne C 22 dX11_clause_7 (by decide) (fun c7 => ?_) (fun c7 => ?_)
    · exact absurd rfl c7
    · refine zz_aload_0 C dX11_clause_10 <| zz_iconst_1 C dX11_clause_11 <| zz_aload_0 C dX11_clause_12 <| zz_getI C fX11_113 (tM_K hT) dX11_clause_13 <| zpc 16 rfl <| ?_
      rw [f2]
      refine zf_callVV C hR [_, _] (c_wrong0 hT _ _ f1) lX11_133 rfl (tM_K hT) (by decide) rfl ⟨zle rfl, zle rfl, zle rfl, zle rfl⟩ (zle rfl) dX11_clause_16 ?_
      refine zz_goto C 85 dX11_clause_19 (by decide) <| zz_aload_0 C dX11_clause_85 <| zz_getI C fX11_120 (tM_K hT) dX11_clause_86 <| zpc 89 rfl <| ?_
      refine zz_if_eq C 93 dX11_clause_89 (by decide) (fun c89 => ?_) (fun c89 => ?_)
      · exact absurd c89 (fz 1 (by omega) (by omega))
      · refine zy_return C hE (zle rfl) (zle rfl) dX11_clause_92 ?_
        exact ⟨rfl, fl 1 (by omega) (by omega) (clR_1 z8)⟩
end MCL
