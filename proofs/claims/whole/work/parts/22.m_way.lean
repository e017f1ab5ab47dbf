/-! ===== the reference: the way from one place to another ===== -/
/-- its scratch: least minutes, the path, how long it is, its minutes -/
def mSc (h : zH) (f g : Nat → Int32) (a c : Int32) : zH := zsI (zsI (zrI (zrI h 236 f) 237 g) 157 50 a) 157 51 c
theorem zI_mSc (h : zH) (f g : Nat → Int32) (a c : Int32) (i k : Nat) : zI (mSc h f g a c) i k = if i = 157 ∧ k = 51 then c else if i = 157 ∧ k = 50 then a else if i = 237 then g k else if i = 236 then f k else zI h i k := by
  unfold mSc
  rw [zI_sI, zI_sI, zI_rI, zI_rI]
theorem zL_mSc (h : zH) (f g : Nat → Int32) (a c : Int32) (i k : Nat) : zL (mSc h f g a c) i k = zL h i k := rfl
theorem zH_ext {h h' : zH} (hI : ∀ i k, zI h i k = zI h' i k) (hL : ∀ i k, zL h i k = zL h' i k) : h = h' := Prod.ext (funext fun i => funext fun k => hI i k) (funext fun i => funext fun k => hL i k)
theorem mSc_self (h : zH) : mSc h (fun k => zI h 236 k) (fun k => zI h 237 k) (zI h 157 50) (zI h 157 51) = h := by
  refine zH_ext (fun i k => ?_) (fun i k => rfl)
  rw [zI_mSc]
  split
  · rename_i q; rw [q.1, q.2]
  · split
    · rename_i q; rw [q.1, q.2]
    · split
      · rename_i q; rw [q]
      · split
        · rename_i q; rw [q]
        · rfl
theorem mSc_least (h : zH) (f g : Nat → Int32) (a c : Int32) (k : Nat) (v : Int32) : zsI (mSc h f g a c) 236 k v = mSc h (upd f k v) g a c := by
  refine zH_ext (fun i j => ?_) (fun i k => rfl)
  simp only [zI_sI, zI_mSc, upd]
  grind
theorem mSc_path (h : zH) (f g : Nat → Int32) (a c : Int32) (k : Nat) (v : Int32) : zsI (mSc h f g a c) 237 k v = mSc h f (upd g k v) a c := by
  refine zH_ext (fun i j => ?_) (fun i k => rfl)
  simp only [zI_sI, zI_mSc, upd]
  grind
theorem mSc_long (h : zH) (f g : Nat → Int32) (a c v : Int32) : zsI (mSc h f g a c) 157 50 v = mSc h f g v c := by
  refine zH_ext (fun i j => ?_) (fun i k => rfl)
  simp only [zI_sI, zI_mSc]
  grind
theorem mSc_min (h : zH) (f g : Nat → Int32) (a c v : Int32) : zsI (mSc h f g a c) 157 51 v = mSc h f g a v := by
  refine zH_ext (fun i j => ?_) (fun i k => rfl)
  simp only [zI_sI, zI_mSc]
  grind
theorem mNet_sc {h : zH} {P n tl : Nat} {F : Nat → Nat → Nat} {w : Nat → Nat} (f g : Nat → Int32) (a c : Int32) (hn : n ≤ 11) (hm : mNet h P n tl F w) : mNet (mSc h f g a c) P n tl F w := by
  obtain ⟨h1, h2, h3, h4⟩ := hm
  refine ⟨?_, ?_, ?_, fun k hk => ⟨fun i hi => ?_, ?_⟩⟩
  · rw [zI_mSc]; simpa using h1
  · rw [zI_mSc]; simpa using h2
  · rw [zI_mSc]; simpa using h3
  · rw [zI_mSc, if_neg (by omega), if_neg (by omega), if_neg (by omega), if_neg (by omega)]
    exact (h4 k hk).1 i hi
  · rw [zI_mSc]; simpa using (h4 k hk).2
abbrev mFar : Nat := 1000000000
/-- at first: 0 at the end, far elsewhere -/
def mD0 (to p : Nat) : Nat := if p = to then 0 else mFar
/-! one place known better -/
def nUp (d : Nat → Nat) (b x : Nat) : Nat → Nat := fun q => if q = b then x else d q
def dSum (d : Nat → Nat) : Nat → Nat
  | 0 => 0
  | P + 1 => dSum d P + d P
theorem dSum_le {d e : Nat → Nat} : ∀ P, (∀ q, q < P → e q ≤ d q) → dSum e P ≤ dSum d P
  | 0, _ => Nat.le_refl 0
  | P + 1, h => Nat.add_le_add (dSum_le P (fun q hq => h q (by omega))) (h P (by omega))
theorem dSum_up {d : Nat → Nat} {b x : Nat} (hx : x < d b) : ∀ P, b < P → dSum (nUp d b x) P < dSum d P
  | 0, h => absurd h (by omega)
  | P + 1, h => by
    show dSum (nUp d b x) P + nUp d b x P < dSum d P + d P
    by_cases hb : b = P
    · subst hb
      have h1 : dSum (nUp d b x) b ≤ dSum d b := dSum_le b (fun q hq => by unfold nUp; rw [if_neg (by omega)]; exact Nat.le_refl _)
      have h2 : nUp d b x b = x := if_pos rfl
      omega
    · have h1 := dSum_up hx P (by omega)
      have h2 : nUp d b x P = d P := if_neg (by omega)
      omega
theorem dTight_up {P n : Nat} {op : Nat → Prop} {A B c : Nat → Nat} {to far : Nat} {d : Nat → Nat} (hE : dEnds P n op A B c) (hT : dTight P n op A B c to far d) {k a e : Nat} (hk : k < n) (ho : op k) (hab : (A k = a ∧ B k = e) ∨ (B k = a ∧ A k = e)) (hlt : d a + c k < d e) : dTight P n op A B c to far (nUp d e (d a + c k)) := by
  obtain ⟨h1, h2, h3⟩ := hT
  obtain ⟨e1, e2, e3, e4, e5⟩ := hE k hk ho
  have hae : a ≠ e := by rcases hab with ⟨x, y⟩ | ⟨x, y⟩ <;> omega
  have hte : to ≠ e := fun q => by rw [← q, h1] at hlt; omega
  have hmon : ∀ q, nUp d e (d a + c k) q ≤ d q := fun q => by
    unfold nUp
    split
    · rename_i x; rw [x]; omega
    · exact Nat.le_refl _
  have hep : e < P := by rcases hab with ⟨x, y⟩ | ⟨x, y⟩ <;> omega
  refine ⟨?_, fun p hp => Nat.le_trans (hmon p) (h2 p hp), fun p hp hpt hpf => ?_⟩
  · unfold nUp; rw [if_neg hte]; exact h1
  · by_cases hpe : p = e
    · have v1 : nUp d e (d a + c k) p = d a + c k := if_pos hpe
      have v2 : nUp d e (d a + c k) a = d a := if_neg hae
      refine ⟨k, hk, ho, ?_⟩
      rcases hab with ⟨x, y⟩ | ⟨x, y⟩
      · right
        rw [x, v1, v2]
        exact ⟨by omega, Nat.le_refl _⟩
      · left
        rw [x, v1, v2]
        exact ⟨by omega, Nat.le_refl _⟩
    · have v1 : nUp d e (d a + c k) p = d p := if_neg hpe
      rw [v1] at hpf ⊢
      obtain ⟨j, hj, hoj, hh⟩ := h3 p hp hpt hpf
      refine ⟨j, hj, hoj, ?_⟩
      rcases hh with ⟨x, y⟩ | ⟨x, y⟩
      · left
        have := hmon (B j)
        exact ⟨x, by omega⟩
      · right
        have := hmon (A j)
        exact ⟨x, by omega⟩
theorem dTight_0 {P n : Nat} {op : Nat → Prop} {A B c : Nat → Nat} {to : Nat} (hto : to < P) : dTight P n op A B c to mFar (mD0 to) := by
  refine ⟨if_pos rfl, fun p _ => ?_, fun p _ hpt hf => ?_⟩
  · unfold mD0; split
    · exact Nat.zero_le _
    · exact Nat.le_refl _
  · unfold mD0 at hf
    rw [if_neg hpt] at hf
    exact absurd hf (Nat.lt_irrefl _)
/-- numbers that a row of ints holds -/
def mRep (P : Nat) (f : Nat → Int32) (d : Nat → Nat) : Prop := ∀ q, q < P → f q = nI (d q)
theorem mRep_up {P : Nat} {f : Nat → Int32} {d : Nat → Nat} (h : mRep P f d) (e x : Nat) : mRep P (upd f e (nI x)) (nUp d e x) := by
  intro q hq
  unfold upd nUp
  split
  · rfl
  · exact h q hq
section MW
variable {E : zE} {b : Nat} {G : zG} {t : zT} {h : zH} {P n tl s fr to : Nat} {F : Nat → Nat → Nat} {w : Nat → Nat} {g : Nat → Int32} {a c : Int32} {v4 : Int32} {x4 x5 x6 x7 x8 : Option Value}
theorem l_way1 (hT : zTM t) (hN : nOk P n tl F w) (hm : mNet h P n tl F w) (C : zCx E b G RX11 cX11_findWay 9 (some .boolean)) (hto : to < P)
    (kont : ∀ (f : Nat → Int32) (y : Option Value), (∀ q, q < P → f q = nI (mD0 to q)) → zAW E b G 9 0 0 39 [some (.ref (b + 157)), some (.int (nI fr)), some (.int (nI to)), some (.int (nI s)), y, x5, x6, x7, x8] [] t (mSc h f g a c)) :
    ∀ (m p : Nat) (f : Nat → Int32), p + m = P → (∀ q, q < p → f q = nI (mD0 to q)) → zAW E b G 9 0 0 3 [some (.ref (b + 157)), some (.int (nI fr)), some (.int (nI to)), some (.int (nI s)), some (.int (nI p)), x5, x6, x7, x8] [] t (mSc h f g a c) := by
  intro m
  induction m with
  | zero =>
    intro p f hp hf
    have hm2 := (mNet_sc f g a c hN.2.2.1 hm).1
    have hP := hN.2.1
    refine zz_iload_4 C dX11_findWay_3 <| zz_aload_0 C dX11_findWay_5 <| zz_getR C fX11_20 (tM_K hT) (tM_R_told hT) dX11_findWay_6 <| zz_iconst_0 C dX11_findWay_9 <| zc_iaload C 0 (tM_K_told hT) (zlit _ (by decide)) (by decide) dX11_findWay_10 <| zpc 11 rfl <| ?_
    rw [hm2]
    refine zz_icmp_ge C 39 dX11_findWay_11 (by decide) (fun c11 => ?_) (fun c11 => ?_)
    · exact kont f _ (fun q hq => hf q (by omega))
    · exact absurd (nI_le (by omega) (by omega)) c11
  | succ m ih =>
    intro p f hp hf
    have hm2 := (mNet_sc f g a c hN.2.2.1 hm).1
    have hP := hN.2.1
    refine zz_iload_4 C dX11_findWay_3 <| zz_aload_0 C dX11_findWay_5 <| zz_getR C fX11_20 (tM_K hT) (tM_R_told hT) dX11_findWay_6 <| zz_iconst_0 C dX11_findWay_9 <| zc_iaload C 0 (tM_K_told hT) (zlit _ (by decide)) (by decide) dX11_findWay_10 <| zpc 11 rfl <| ?_
    rw [hm2]
    refine zz_icmp_ge C 39 dX11_findWay_11 (by decide) (fun c11 => ?_) (fun c11 => ?_)
    · exact absurd c11 (nI_ge (by omega) (by omega))
    · refine zz_aload_0 C dX11_findWay_14 <| zz_getR C fX11_82 (tM_K hT) (tM_R_least hT) dX11_findWay_15 <| zz_iload_4 C dX11_findWay_18 <| zz_iload_4 C dX11_findWay_20 <| zz_iload_2 C dX11_findWay_22 <| zpc 23 rfl <| ?_
      refine zz_icmp_ne C 30 dX11_findWay_23 (by decide) (fun c23 => ?_) (fun c23 => ?_)
      · refine zz_ldc C dX11_findWay_30 kX11_203 <| zc_iastore C _ (tM_K_least hT) (znI (by omega)) (by omega) dX11_findWay_32 <| zpc 33 rfl <| ?_
        rw [mSc_least]
        refine zz_iinc_4 C _ (zle rfl) rfl dX11_findWay_33 nI_s <| zz_goto C 3 dX11_findWay_36 (by decide) <| zpc 3 rfl <| ?_
        refine ih (p + 1) _ (by omega) (fun q hq => ?_)
        rw [nI_eq (by omega) (by omega)] at c23
        unfold upd mD0
        by_cases hqp : q = p
        · subst hqp; simp [c23, nI]; try rfl
        · rw [if_neg hqp]; exact hf q (by omega)
      · refine zz_iconst_0 C dX11_findWay_26 <| zz_goto C 32 dX11_findWay_27 (by decide) <| zc_iastore C _ (tM_K_least hT) (znI (by omega)) (by omega) dX11_findWay_32 <| zpc 33 rfl <| ?_
        rw [mSc_least]
        refine zz_iinc_4 C _ (zle rfl) rfl dX11_findWay_33 nI_s <| zz_goto C 3 dX11_findWay_36 (by decide) <| zpc 3 rfl <| ?_
        refine ih (p + 1) _ (by omega) (fun q hq => ?_)
        rw [nI_eq (by omega) (by omega)] at c23
        unfold upd mD0
        by_cases hqp : q = p
        · subst hqp; simp [c23, nI]; try rfl
        · rw [if_neg hqp]; exact hf q (by omega)
/-- the second half of a road's turn -/
theorem l_way2b (hT : zTM t) (hN : nOk P n tl F w) (hm : mNet h P n tl F w) (C : zCx E b G RX11 cX11_findWay 9 (some .boolean)) {k : Nat} (hk : k < n) (ho : nOp s F w k) {f : Nat → Int32} {d d0 : Nat → Nat} {v : Int32} (hf : mRep P f d) (hd : dTight P n (nOp s F w) (fun k => F k 0) (fun k => F k 1) (nCo tl F w) to mFar d) (hv : (v = 0 ∧ d = d0 ∧ d (F k 1) ≤ d (F k 0) + nCo tl F w k) ∨ (v = 1 ∧ dSum d P < dSum d0 P))
    (kont : ∀ (f : Nat → Int32) (d : Nat → Nat) (v' : Int32) (x6 x7 x8 : Option Value), mRep P f d → dTight P n (nOp s F w) (fun k => F k 0) (fun k => F k 1) (nCo tl F w) to mFar d → ((v' = 0 ∧ v = 0 ∧ d = d0 ∧ d (F k 1) ≤ d (F k 0) + nCo tl F w k ∧ d (F k 0) ≤ d (F k 1) + nCo tl F w k) ∨ (v' = 1 ∧ dSum d P < dSum d0 P)) → zAW E b G 9 0 0 53 [some (.ref (b + 157)), some (.int (nI fr)), some (.int (nI to)), some (.int (nI s)), some (.int v'), some (.int (nI (k + 1))), x6, x7, x8] [] t (mSc h f g a c)) :
    zAW E b G 9 0 0 158 [some (.ref (b + 157)), some (.int (nI fr)), some (.int (nI to)), some (.int (nI s)), some (.int v), some (.int (nI k)), some (.int (nI (F k 0))), some (.int (nI (F k 1))), some (.int (nI (nCo tl F w k)))] [] t (mSc h f g a c) := by
  have hE := nEnds (s := s) hN
  obtain ⟨e1, e2, e3, e4, e5⟩ := hE k hk ho
  have hP := hN.2.1
  have hn := hN.2.2.1
  have b0 : d (F k 0) ≤ 1000000000 := hd.2.1 _ e1
  have b1 : d (F k 1) ≤ 1000000000 := hd.2.1 _ e2
  dsimp only at e1 e2 e3
  have r0 : zI (mSc h f g a c) 236 (F k 0) = nI (d (F k 0)) := by rw [zI_mSc]; simpa using hf _ e1
  have r1 : zI (mSc h f g a c) 236 (F k 1) = nI (d (F k 1)) := by rw [zI_mSc]; simpa using hf _ e2
  refine zz_aload_0 C dX11_findWay_158 <| zz_getR C fX11_82 (tM_K hT) (tM_R_least hT) dX11_findWay_159 <| zz_iload_7 C dX11_findWay_162 <| zc_iaload C _ (tM_K_least hT) (znI (by omega)) (by omega) dX11_findWay_164 <| zpc 165 rfl <| ?_
  rw [r1]
  refine zz_iload_8 C dX11_findWay_165 <| zz_iadd C dX11_findWay_167 <| zpc 168 rfl <| ?_
  rw [nI_add]
  refine zz_aload_0 C dX11_findWay_168 <| zz_getR C fX11_82 (tM_K hT) (tM_R_least hT) dX11_findWay_169 <| zz_iload_6 C dX11_findWay_172 <| zc_iaload C _ (tM_K_least hT) (znI (by omega)) (by omega) dX11_findWay_174 <| zpc 175 rfl <| ?_
  rw [r0]
  refine zz_icmp_ge C 198 dX11_findWay_175 (by decide) (fun c175 => ?_) (fun c175 => ?_)
  · refine zz_iinc_5 C _ (zle rfl) rfl dX11_findWay_198 nI_s <| zz_goto C 53 dX11_findWay_201 (by decide) <| zpc 53 rfl <| ?_
    rw [nI_leI (by omega) (by omega)] at c175
    first
      | exact kont _ _ _ _ _ _ hf hd (by rcases hv with ⟨h1, h2, h3⟩ | h1; exact Or.inl ⟨h1, h1, h2, h3, c175⟩; exact Or.inr h1)
      | (have hlt : d (F k 1) + nCo tl F w k < d (F k 0) := by omega
         exact kont _ _ _ _ _ _ (mRep_up hf _ _) (dTight_up hE hd hk ho (Or.inr ⟨rfl, rfl⟩) hlt) (Or.inr ⟨rfl, by have := dSum_up hlt P e1; rcases hv with ⟨h1, h2, h3⟩ | h1; rw [← h2]; exact this; omega⟩))
  · refine zz_aload_0 C dX11_findWay_178 <| zz_getR C fX11_82 (tM_K hT) (tM_R_least hT) dX11_findWay_179 <| zz_iload_6 C dX11_findWay_182 <| zz_aload_0 C dX11_findWay_184 <| zz_getR C fX11_82 (tM_K hT) (tM_R_least hT) dX11_findWay_185 <| zz_iload_7 C dX11_findWay_188 <| zc_iaload C _ (tM_K_least hT) (znI (by omega)) (by omega) dX11_findWay_190 <| zpc 191 rfl <| ?_
    rw [r1]
    refine zz_iload_8 C dX11_findWay_191 <| zz_iadd C dX11_findWay_193 <| zpc 194 rfl <| ?_
    rw [nI_add]
    refine zc_iastore C _ (tM_K_least hT) (znI (by omega)) (by omega) dX11_findWay_194 <| zpc 195 rfl <| ?_
    rw [mSc_least]
    refine zz_iconst_1 C dX11_findWay_195 <| zz_istore_4 C (zle rfl) rfl dX11_findWay_196 <| zz_iinc_5 C _ (zle rfl) rfl dX11_findWay_198 nI_s <| zz_goto C 53 dX11_findWay_201 (by decide) <| zpc 53 rfl <| ?_
    rw [nI_leI (by omega) (by omega)] at c175
    first
      | exact kont _ _ _ _ _ _ hf hd (by rcases hv with ⟨h1, h2, h3⟩ | h1; exact Or.inl ⟨h1, h1, h2, h3, c175⟩; exact Or.inr h1)
      | (have hlt : d (F k 1) + nCo tl F w k < d (F k 0) := by omega
         exact kont _ _ _ _ _ _ (mRep_up hf _ _) (dTight_up hE hd hk ho (Or.inr ⟨rfl, rfl⟩) hlt) (Or.inr ⟨rfl, by have := dSum_up hlt P e1; rcases hv with ⟨h1, h2, h3⟩ | h1; rw [← h2]; exact this; omega⟩))
/-- one turn through all roads -/
theorem l_way2 (hT : zTM t) (hN : nOk P n tl F w) (hm : mNet h P n tl F w) (C : zCx E b G RX11 cX11_findWay 9 (some .boolean)) (hR : zRoom G 2 0 0) (hs : s < 2 ^ 31) {d0 : Nat → Nat}
    (kont : ∀ (f : Nat → Int32) (d : Nat → Nat) (v : Int32) (x5 x6 x7 x8 : Option Value), mRep P f d → dTight P n (nOp s F w) (fun k => F k 0) (fun k => F k 1) (nCo tl F w) to mFar d → ((v = 0 ∧ d = d0 ∧ dFix n (nOp s F w) (fun k => F k 0) (fun k => F k 1) (nCo tl F w) mFar d) ∨ (v = 1 ∧ dSum d P < dSum d0 P)) → zAW E b G 9 0 0 42 [some (.ref (b + 157)), some (.int (nI fr)), some (.int (nI to)), some (.int (nI s)), some (.int v), x5, x6, x7, x8] [] t (mSc h f g a c)) :
    ∀ (m k : Nat) (f : Nat → Int32) (d : Nat → Nat) (v : Int32) (x6 x7 x8 : Option Value), k + m = n → mRep P f d → dTight P n (nOp s F w) (fun k => F k 0) (fun k => F k 1) (nCo tl F w) to mFar d → ((v = 0 ∧ d = d0 ∧ ∀ j, j < k → nOp s F w j → d (F j 1) ≤ d (F j 0) + nCo tl F w j ∧ d (F j 0) ≤ d (F j 1) + nCo tl F w j) ∨ (v = 1 ∧ dSum d P < dSum d0 P)) → zAW E b G 9 0 0 53 [some (.ref (b + 157)), some (.int (nI fr)), some (.int (nI to)), some (.int (nI s)), some (.int v), some (.int (nI k)), x6, x7, x8] [] t (mSc h f g a c) := by
  have hP := hN.2.1
  have hn := hN.2.2.1
  intro m
  induction m with
  | zero =>
    intro k f d v x6 x7 x8 hk hf hd hv
    have hr := (mNet_sc f g a c hn hm).2.1
    refine zz_iload_5 C dX11_findWay_53 <| zz_aload_0 C dX11_findWay_55 <| zz_getI C fX11_204 (tM_K hT) dX11_findWay_56 <| zpc 59 rfl <| ?_
    rw [hr]
    refine zz_icmp_ge C 204 dX11_findWay_59 (by decide) (fun c59 => ?_) (fun c59 => ?_)
    · refine zz_goto C 42 dX11_findWay_204 (by decide) <| zpc 42 rfl <| ?_
      refine kont _ _ _ _ _ _ _ hf hd ?_
      rcases hv with ⟨h1, h2, h3⟩ | h1
      · exact Or.inl ⟨h1, h2, fun j hj ho => h3 j (by omega) ho⟩
      · exact Or.inr h1
    · exact absurd (nI_le (by omega) (by omega)) c59
  | succ m ih =>
    intro k f d v x6 x7 x8 hk hf hd hv
    have hm0 := mNet_sc f g a c hn hm
    have hr := hm0.2.1
    have ht := hm0.2.2.1
    have hkn : k < n := by omega
    have hfk := hm0.2.2.2 k hkn
    have f0 := hfk.1 0 (by omega)
    have f1 := hfk.1 1 (by omega)
    have fw := hfk.2
    have bb := hN.2.2.2.2 k hkn
    have e8 : nI (nMi F w k) + nI tl * nI (w k) = nI (nCo tl F w k) := by rw [pk_mul, nI_add]; rfl
    refine zz_iload_5 C dX11_findWay_53 <| zz_aload_0 C dX11_findWay_55 <| zz_getI C fX11_204 (tM_K hT) dX11_findWay_56 <| zpc 59 rfl <| ?_
    rw [hr]
    refine zz_icmp_ge C 204 dX11_findWay_59 (by decide) (fun c59 => ?_) (fun c59 => ?_)
    · exact absurd c59 (nI_ge (by omega) (by omega))
    · refine zz_aload_0 C dX11_findWay_62 <| zz_iload_5 C dX11_findWay_63 <| zz_iload_3 C dX11_findWay_65 <| zpc 66 rfl <| ?_
      refine zf_callVI C hR [_, _] (c_isOpen hT hN hm0 _ _ hkn hs) lX11_207 rfl (tM_K hT) (by decide) rfl ⟨zle rfl, zle rfl, zle rfl, zle rfl⟩ (zle rfl) dX11_findWay_66 ?_
      refine zz_if_ne C 75 dX11_findWay_69 (by decide) (fun c69 => ?_) (fun c69 => ?_)
      · refine zz_aload_0 C dX11_findWay_75 <| zz_getR C fX11_34 (tM_K hT) (tM_R_road hT) dX11_findWay_76 <| zz_iload_5 C dX11_findWay_79 <| zc_row C _ (tM_K_road hT) (tM_row_road hT) (znI (by omega)) (by omega) dX11_findWay_81 <| fun r81 => ?_
        refine zz_iconst_0 C dX11_findWay_82 <| zc_iaload C 0 (tM_KR_road hT _ r81) (zlit _ (by decide)) (by decide) dX11_findWay_83 <| zpc 84 rfl <| ?_
        rw [f0]
        refine zz_istore_6 C (zle rfl) rfl dX11_findWay_84 <| zz_aload_0 C dX11_findWay_86 <| zz_getR C fX11_34 (tM_K hT) (tM_R_road hT) dX11_findWay_87 <| zz_iload_5 C dX11_findWay_90 <| zc_row C _ (tM_K_road hT) (tM_row_road hT) (znI (by omega)) (by omega) dX11_findWay_92 <| fun r92 => ?_
        refine zz_iconst_1 C dX11_findWay_93 <| zc_iaload C 1 (tM_KR_road hT _ r92) (zlit _ (by decide)) (by decide) dX11_findWay_94 <| zpc 95 rfl <| ?_
        rw [f1]
        refine zz_istore_7 C (zle rfl) rfl dX11_findWay_95 <| zz_aload_0 C dX11_findWay_97 <| zz_iload_5 C dX11_findWay_98 <| zpc 100 rfl <| ?_
        refine zf_callVI C hR [_] (c_minutesOf hT hN hm0 _ hkn) lX11_211 rfl (tM_K hT) (by decide) rfl ⟨zle rfl, zle rfl, zle rfl, zle rfl⟩ (zle rfl) dX11_findWay_100 ?_
        refine zz_aload_0 C dX11_findWay_103 <| zz_getI C fX11_214 (tM_K hT) dX11_findWay_104 <| zz_aload_0 C dX11_findWay_107 <| zz_getR C fX11_61 (tM_K hT) (tM_R_w hT) dX11_findWay_108 <| zz_iload_5 C dX11_findWay_111 <| zc_iaload C _ (tM_K_w hT) (znI (by omega)) (by omega) dX11_findWay_113 <| zz_imul C dX11_findWay_114 <| zz_iadd C dX11_findWay_115 <| zpc 116 rfl <| ?_
        rw [ht, fw, e8]
        refine zz_istore_8 C (zle rfl) rfl dX11_findWay_116 <| zpc 118 rfl <| ?_
        rw [zb_ne0] at c69
        have hE := nEnds (s := s) hN
        obtain ⟨e1, e2, e3, e4, e5⟩ := hE k hkn c69
        have b0 : d (F k 0) ≤ 1000000000 := hd.2.1 _ e1
        have b1 : d (F k 1) ≤ 1000000000 := hd.2.1 _ e2
        dsimp only at e1 e2 e3
        have r0 : zI (mSc h f g a c) 236 (F k 0) = nI (d (F k 0)) := by rw [zI_mSc]; simpa using hf _ e1
        have r1 : zI (mSc h f g a c) 236 (F k 1) = nI (d (F k 1)) := by rw [zI_mSc]; simpa using hf _ e2
        refine zz_aload_0 C dX11_findWay_118 <| zz_getR C fX11_82 (tM_K hT) (tM_R_least hT) dX11_findWay_119 <| zz_iload_6 C dX11_findWay_122 <| zc_iaload C _ (tM_K_least hT) (znI (by omega)) (by omega) dX11_findWay_124 <| zpc 125 rfl <| ?_
        rw [r0]
        refine zz_iload_8 C dX11_findWay_125 <| zz_iadd C dX11_findWay_127 <| zpc 128 rfl <| ?_
        rw [nI_add]
        refine zz_aload_0 C dX11_findWay_128 <| zz_getR C fX11_82 (tM_K hT) (tM_R_least hT) dX11_findWay_129 <| zz_iload_7 C dX11_findWay_132 <| zc_iaload C _ (tM_K_least hT) (znI (by omega)) (by omega) dX11_findWay_134 <| zpc 135 rfl <| ?_
        rw [r1]
        refine zz_icmp_ge C 158 dX11_findWay_135 (by decide) (fun c135 => ?_) (fun c135 => ?_)
        · rw [nI_leI (by omega) (by omega)] at c135
          first
            | (refine l_way2b hT hN hm C hkn c69 hf hd (d0 := d0) ?_ ?_
               · rcases hv with ⟨h1, h2, h3⟩ | h1
                 · exact Or.inl ⟨h1, h2, c135⟩
                 · exact Or.inr h1
               · intro f' d' v' y6 y7 y8 q1 q2 q3
                 refine ih (k + 1) f' d' v' y6 y7 y8 (by omega) q1 q2 ?_
                 rcases q3 with ⟨z1, z0, z2, z3⟩ | z1
                 · rcases hv with ⟨h1, h2, h3⟩ | h1
                   · refine Or.inl ⟨z1, z2, fun j hj ho => ?_⟩
                     by_cases hjk : j = k
                     · rw [hjk]; exact z3
                     · have := h3 j (by omega) ho
                       rw [z2, ← h2]; exact this
                   · rw [h1.1] at z0; exact absurd z0 (by decide)
                 · exact Or.inr z1)
            | (have hlt : d (F k 0) + nCo tl F w k < d (F k 1) := by omega
               refine l_way2b hT hN hm C hkn c69 (mRep_up hf _ _) (dTight_up hE hd hkn c69 (Or.inl ⟨rfl, rfl⟩) hlt) (d0 := d0) (Or.inr ⟨rfl, ?_⟩) ?_
               · have := dSum_up hlt P e2
                 rcases hv with ⟨h1, h2, h3⟩ | h1
                 · rw [← h2]; exact this
                 · omega
               · intro f' d' v' y6 y7 y8 q1 q2 q3
                 refine ih (k + 1) f' d' v' y6 y7 y8 (by omega) q1 q2 ?_
                 rcases q3 with ⟨z1, z0, z2, z3⟩ | z1
                 · exact absurd z0 (by decide)
                 · exact Or.inr z1)
        · refine zz_aload_0 C dX11_findWay_138 <| zz_getR C fX11_82 (tM_K hT) (tM_R_least hT) dX11_findWay_139 <| zz_iload_7 C dX11_findWay_142 <| zz_aload_0 C dX11_findWay_144 <| zz_getR C fX11_82 (tM_K hT) (tM_R_least hT) dX11_findWay_145 <| zz_iload_6 C dX11_findWay_148 <| zc_iaload C _ (tM_K_least hT) (znI (by omega)) (by omega) dX11_findWay_150 <| zpc 151 rfl <| ?_
          rw [r0]
          refine zz_iload_8 C dX11_findWay_151 <| zz_iadd C dX11_findWay_153 <| zpc 154 rfl <| ?_
          rw [nI_add]
          refine zc_iastore C _ (tM_K_least hT) (znI (by omega)) (by omega) dX11_findWay_154 <| zpc 155 rfl <| ?_
          rw [mSc_least]
          refine zz_iconst_1 C dX11_findWay_155 <| zz_istore_4 C (zle rfl) rfl dX11_findWay_156 <| zpc 158 rfl <| ?_
          rw [nI_leI (by omega) (by omega)] at c135
          first
            | (refine l_way2b hT hN hm C hkn c69 hf hd (d0 := d0) ?_ ?_
               · rcases hv with ⟨h1, h2, h3⟩ | h1
                 · exact Or.inl ⟨h1, h2, c135⟩
                 · exact Or.inr h1
               · intro f' d' v' y6 y7 y8 q1 q2 q3
                 refine ih (k + 1) f' d' v' y6 y7 y8 (by omega) q1 q2 ?_
                 rcases q3 with ⟨z1, z0, z2, z3⟩ | z1
                 · rcases hv with ⟨h1, h2, h3⟩ | h1
                   · refine Or.inl ⟨z1, z2, fun j hj ho => ?_⟩
                     by_cases hjk : j = k
                     · rw [hjk]; exact z3
                     · have := h3 j (by omega) ho
                       rw [z2, ← h2]; exact this
                   · rw [h1.1] at z0; exact absurd z0 (by decide)
                 · exact Or.inr z1)
            | (have hlt : d (F k 0) + nCo tl F w k < d (F k 1) := by omega
               refine l_way2b hT hN hm C hkn c69 (mRep_up hf _ _) (dTight_up hE hd hkn c69 (Or.inl ⟨rfl, rfl⟩) hlt) (d0 := d0) (Or.inr ⟨rfl, ?_⟩) ?_
               · have := dSum_up hlt P e2
                 rcases hv with ⟨h1, h2, h3⟩ | h1
                 · rw [← h2]; exact this
                 · omega
               · intro f' d' v' y6 y7 y8 q1 q2 q3
                 refine ih (k + 1) f' d' v' y6 y7 y8 (by omega) q1 q2 ?_
                 rcases q3 with ⟨z1, z0, z2, z3⟩ | z1
                 · exact absurd z0 (by decide)
                 · exact Or.inr z1)
      · refine zz_goto C 198 dX11_findWay_72 (by decide) <| zz_iinc_5 C _ (zle rfl) rfl dX11_findWay_198 nI_s <| zz_goto C 53 dX11_findWay_201 (by decide) <| zpc 53 rfl <| ?_
        rw [zb_eq0] at c69
        refine ih (k + 1) f d v _ _ _ (by omega) hf hd ?_
        rcases hv with ⟨h1, h2, h3⟩ | h1
        · refine Or.inl ⟨h1, h2, fun j hj ho => ?_⟩
          by_cases hjk : j = k
          · rw [hjk] at ho; exact absurd ho c69
          · exact h3 j (by omega) ho
        · exact Or.inr h1
/-- turns until nothing is known better -/
theorem l_way3 (hT : zTM t) (hN : nOk P n tl F w) (hm : mNet h P n tl F w) (C : zCx E b G RX11 cX11_findWay 9 (some .boolean)) (hR : zRoom G 2 0 0) (hs : s < 2 ^ 31)
    (kont : ∀ (f : Nat → Int32) (d : Nat → Nat) (v4 : Int32) (x5 x6 x7 x8 : Option Value), mRep P f d → dTight P n (nOp s F w) (fun k => F k 0) (fun k => F k 1) (nCo tl F w) to mFar d → dFix n (nOp s F w) (fun k => F k 0) (fun k => F k 1) (nCo tl F w) mFar d → zAW E b G 9 0 0 207 [some (.ref (b + 157)), some (.int (nI fr)), some (.int (nI to)), some (.int (nI s)), some (.int v4), x5, x6, x7, x8] [] t (mSc h f g a c)) :
    ∀ (m : Nat) (f : Nat → Int32) (d : Nat → Nat) (v : Int32) (x5 x6 x7 x8 : Option Value), mRep P f d → dTight P n (nOp s F w) (fun k => F k 0) (fun k => F k 1) (nCo tl F w) to mFar d → ((v = 0 ∧ dFix n (nOp s F w) (fun k => F k 0) (fun k => F k 1) (nCo tl F w) mFar d) ∨ (v = 1 ∧ dSum d P < m)) → zAW E b G 9 0 0 42 [some (.ref (b + 157)), some (.int (nI fr)), some (.int (nI to)), some (.int (nI s)), some (.int v), x5, x6, x7, x8] [] t (mSc h f g a c) := by
  intro m
  induction m with
  | zero =>
    intro f d v x5 x6 x7 x8 hf hd hv
    rcases hv with ⟨rfl, hv⟩ | ⟨-, hv⟩
    ·
      refine zz_iload_4 C dX11_findWay_42 <| zpc 44 rfl <| ?_
      refine zz_if_eq C 207 dX11_findWay_44 (by decide) (fun c44 => ?_) (fun c44 => ?_)
      · exact kont _ _ _ _ _ _ _ hf hd hv
      · exact absurd rfl c44
    · omega
  | succ m ih =>
    intro f d v x5 x6 x7 x8 hf hd hv
    rcases hv with ⟨rfl, hv⟩ | ⟨rfl, hv⟩
    ·
      refine zz_iload_4 C dX11_findWay_42 <| zpc 44 rfl <| ?_
      refine zz_if_eq C 207 dX11_findWay_44 (by decide) (fun c44 => ?_) (fun c44 => ?_)
      · exact kont _ _ _ _ _ _ _ hf hd hv
      · exact absurd rfl c44
    ·
      refine zz_iload_4 C dX11_findWay_42 <| zpc 44 rfl <| ?_
      refine zz_if_eq C 207 dX11_findWay_44 (by decide) (fun c44 => ?_) (fun c44 => ?_)
      · exact absurd c44 (by decide)
      · refine zz_iconst_0 C dX11_findWay_47 <| zz_istore_4 C (zle rfl) rfl dX11_findWay_48 <| zz_iconst_0 C dX11_findWay_50 <| zz_istore_5 C (zle rfl) rfl dX11_findWay_51 <| zpc 53 rfl <| ?_
        refine l_way2 hT hN hm C hR hs (d0 := d) ?_ n 0 f d 0 _ _ _ (by omega) hf hd (Or.inl ⟨rfl, rfl, fun j hj => absurd hj (by omega)⟩)
        intro f' d' v' y5 y6 y7 y8 q1 q2 q3
        refine ih f' d' v' y5 y6 y7 y8 q1 q2 ?_
        rcases q3 with ⟨z1, z2, z3⟩ | ⟨z1, z2⟩
        · exact Or.inl ⟨z1, z3⟩
        · exact Or.inr ⟨z1, by omega⟩
/-- there is an edge that leads on, where the minutes are known -/
theorem gEdge_ex {op : Nat → Prop} {A B c : Nat → Nat} {far : Nat} {d : Nat → Nat} (hF : dFix n op A B c far d) (hd : dTight P n op A B c to far d) {p : Nat} (hp : p < P) (hpt : p ≠ to) (hpf : d p < far) : ∃ k, k < n ∧ gEdge op A B c d p k := by
  obtain ⟨k, hk, ho, hh⟩ := hd.2.2 p hp hpt hpf
  obtain ⟨f1, f2⟩ := hF k hk ho
  refine ⟨k, hk, ho, ?_, ?_⟩
  · rcases hh with ⟨x, y⟩ | ⟨x, y⟩
    · exact Or.inl x
    · exact Or.inr x
  · unfold gOther
    rcases hh with ⟨x, y⟩ | ⟨x, y⟩
    · rw [if_pos x]; rw [x] at f2; omega
    · split
      · rename_i z; rw [z] at f2; rw [x] at f1
        have hz : d (A k) = d p := by rw [z]
        rw [x]; omega
      · rw [x] at f1; omega
/-- the first road that leads on -/
theorem l_way4 (hT : zTM t) (hN : nOk P n tl F w) (hm : mNet h P n tl F w) (C : zCx E b G RX11 cX11_findWay 9 (some .boolean)) (hR : zRoom G 2 0 0) (hs : s < 2 ^ 31) {f : Nat → Int32} {d : Nat → Nat} {p : Nat} (hp : p < P) (hf : mRep P f d) (hd : dTight P n (nOp s F w) (fun k => F k 0) (fun k => F k 1) (nCo tl F w) to mFar d) {K : Nat} (hK : K < n) (hKe : gEdge (nOp s F w) (fun k => F k 0) (fun k => F k 1) (nCo tl F w) d p K)
    (kont : ∀ (k : Nat), k < n → gEdge (nOp s F w) (fun k => F k 0) (fun k => F k 1) (nCo tl F w) d p k → (∀ j, j < k → ¬ gEdge (nOp s F w) (fun k => F k 0) (fun k => F k 1) (nCo tl F w) d p j) → zAW E b G 9 0 0 313 [some (.ref (b + 157)), some (.int (nI fr)), some (.int (nI to)), some (.int (nI s)), some (.int v4), some (.int (nI p)), some (.int (nI k)), x7, x8] [] t (mSc h f g a c)) :
    ∀ (m k : Nat), k + m = K + 1 → (∀ j, j < k → ¬ gEdge (nOp s F w) (fun k => F k 0) (fun k => F k 1) (nCo tl F w) d p j) → zAW E b G 9 0 0 242 [some (.ref (b + 157)), some (.int (nI fr)), some (.int (nI to)), some (.int (nI s)), some (.int v4), some (.int (nI p)), some (.int (nI k)), x7, x8] [] t (mSc h f g a c) := by
  have hP := hN.2.1
  have hn := hN.2.2.1
  have hm0 := mNet_sc f g a c hn hm
  intro m
  induction m with
  | zero =>
    intro k hk hno
    exact absurd hKe (hno K (by omega))
  | succ m ih =>
    intro k hk hno
    have hkn : k < n := by omega
    have hfk := hm0.2.2.2 k hkn
    have fw := hfk.2
    have ht := hm0.2.2.1
    have bb := hN.2.2.2.2 k hkn
    have bp : d p ≤ 1000000000 := hd.2.1 _ hp
    have rp : zI (mSc h f g a c) 236 p = nI (d p) := by rw [zI_mSc]; simpa using hf _ hp
    have go : gOther (fun k => F k 0) (fun k => F k 1) k p < P := by
      unfold gOther; split <;> simp <;> omega
    have bo : d (gOther (fun k => F k 0) (fun k => F k 1) k p) ≤ 1000000000 := hd.2.1 _ go
    have ro : zI (mSc h f g a c) 236 (gOther (fun k => F k 0) (fun k => F k 1) k p) = nI (d (gOther (fun k => F k 0) (fun k => F k 1) k p)) := by rw [zI_mSc]; simpa using hf _ go
    have bc := nCo_le hN hkn
    have e8 : nI (d (gOther (fun k => F k 0) (fun k => F k 1) k p)) + nI (nMi F w k) + nI tl * nI (w k) = nI (d (gOther (fun k => F k 0) (fun k => F k 1) k p) + nCo tl F w k) := by
      rw [pk_mul, nI_add, nI_add]; unfold nCo; rw [Nat.add_assoc]
    have hnext : ¬ gEdge (nOp s F w) (fun k => F k 0) (fun k => F k 1) (nCo tl F w) d p k → ∀ j, j < k + 1 → ¬ gEdge (nOp s F w) (fun k => F k 0) (fun k => F k 1) (nCo tl F w) d p j := fun hh j hj => by
      by_cases hjk : j = k
      · rw [hjk]; exact hh
      · exact hno j (by omega)
    refine zz_aload_0 C dX11_findWay_242 <| zz_iload_6 C dX11_findWay_243 <| zz_iload_3 C dX11_findWay_245 <| zpc 246 rfl <| ?_
    refine zf_callVI C hR [_, _] (c_isOpen hT hN hm0 _ _ hkn hs) lX11_207 rfl (tM_K hT) (by decide) rfl ⟨zle rfl, zle rfl, zle rfl, zle rfl⟩ (zle rfl) dX11_findWay_246 ?_
    refine zz_if_eq C 307 dX11_findWay_249 (by decide) (fun c249 => ?_) (fun c249 => ?_)
    · refine zz_iinc_6 C _ (zle rfl) rfl dX11_findWay_307 nI_s <| zz_goto C 242 dX11_findWay_310 (by decide) <| zpc 242 rfl <| ?_
      refine ih (k + 1) (by omega) (hnext ?_)
      first
        | exact fun q => (zb_eq0.mp c249) q.1
        | (intro q
           rw [if_pos q.2.1] at c261
           have := nI_eq (a := gOther (fun k => F k 0) (fun k => F k 1) k p) (b := 4294967295)
           exact absurd c261 (by intro z; have z2 := congrArg Int32.toInt z; rw [nI_toInt (by omega)] at z2; have z3 : ((-1 : Int32)).toInt = -1 := rfl; omega))
        | (intro q
           rw [nI_eq (by omega) (by omega)] at c304
           exact c304 q.2.2)
    · refine zz_aload_0 C dX11_findWay_252 <| zz_iload_6 C dX11_findWay_253 <| zz_iload_5 C dX11_findWay_255 <| zpc 257 rfl <| ?_
      refine zf_callVI C hR [_, _] (c_farEnd hT hN hm0 _ _ hkn hp) lX11_223 rfl (tM_K hT) (by decide) rfl ⟨zle rfl, zle rfl, zle rfl, zle rfl⟩ (zle rfl) dX11_findWay_257 ?_
      rw [zb_eq0, Classical.not_not] at c249
      refine zz_iconst_m1 C dX11_findWay_260 <| zpc 261 rfl <| ?_
      refine zz_icmp_eq C 307 dX11_findWay_261 (by decide) (fun c261 => ?_) (fun c261 => ?_)
      · refine zz_iinc_6 C _ (zle rfl) rfl dX11_findWay_307 nI_s <| zz_goto C 242 dX11_findWay_310 (by decide) <| zpc 242 rfl <| ?_
        refine ih (k + 1) (by omega) (hnext ?_)
        first
          | exact fun q => (zb_eq0.mp c249) q.1
          | (intro q
             rw [if_pos q.2.1] at c261
             have := nI_eq (a := gOther (fun k => F k 0) (fun k => F k 1) k p) (b := 4294967295)
             exact absurd c261 (by intro z; have z2 := congrArg Int32.toInt z; rw [nI_toInt (by omega)] at z2; have z3 : ((-1 : Int32)).toInt = -1 := rfl; omega))
          | (intro q
             rw [nI_eq (by omega) (by omega)] at c304
             exact c304 q.2.2)
      · refine zz_aload_0 C dX11_findWay_264 <| zz_getR C fX11_82 (tM_K hT) (tM_R_least hT) dX11_findWay_265 <| zz_aload_0 C dX11_findWay_268 <| zz_iload_6 C dX11_findWay_269 <| zz_iload_5 C dX11_findWay_271 <| zpc 273 rfl <| ?_
        refine zf_callVI C hR [_, _] (c_farEnd hT hN hm0 _ _ hkn hp) lX11_223 rfl (tM_K hT) (by decide) rfl ⟨zle rfl, zle rfl, zle rfl, zle rfl⟩ (zle rfl) dX11_findWay_273 ?_
        have hend : F k 0 = p ∨ F k 1 = p := by
          rcases Classical.em (F k 0 = p ∨ F k 1 = p) with q | q
          · exact q
          · rw [if_neg q] at c261; exact absurd rfl c261
        rw [if_pos hend]
        refine zc_iaload C _ (tM_K_least hT) (znI (by omega)) (by omega) dX11_findWay_276 <| zpc 277 rfl <| ?_
        rw [ro]
        refine zz_aload_0 C dX11_findWay_277 <| zz_iload_6 C dX11_findWay_278 <| zpc 280 rfl <| ?_
        refine zf_callVI C hR [_] (c_minutesOf hT hN hm0 _ hkn) lX11_211 rfl (tM_K hT) (by decide) rfl ⟨zle rfl, zle rfl, zle rfl, zle rfl⟩ (zle rfl) dX11_findWay_280 ?_
        refine zz_iadd C dX11_findWay_283 <| zz_aload_0 C dX11_findWay_284 <| zz_getI C fX11_214 (tM_K hT) dX11_findWay_285 <| zz_aload_0 C dX11_findWay_288 <| zz_getR C fX11_61 (tM_K hT) (tM_R_w hT) dX11_findWay_289 <| zz_iload_6 C dX11_findWay_292 <| zc_iaload C _ (tM_K_w hT) (znI (by omega)) (by omega) dX11_findWay_294 <| zz_imul C dX11_findWay_295 <| zz_iadd C dX11_findWay_296 <| zpc 297 rfl <| ?_
        rw [ht, fw, e8]
        refine zz_aload_0 C dX11_findWay_297 <| zz_getR C fX11_82 (tM_K hT) (tM_R_least hT) dX11_findWay_298 <| zz_iload_5 C dX11_findWay_301 <| zc_iaload C _ (tM_K_least hT) (znI (by omega)) (by omega) dX11_findWay_303 <| zpc 304 rfl <| ?_
        rw [rp]
        refine zz_icmp_eq C 313 dX11_findWay_304 (by decide) (fun c304 => ?_) (fun c304 => ?_)
        · rw [nI_eq (by omega) (by omega)] at c304
          exact kont k hkn ⟨c249, hend, c304⟩ hno
        · refine zz_iinc_6 C _ (zle rfl) rfl dX11_findWay_307 nI_s <| zz_goto C 242 dX11_findWay_310 (by decide) <| zpc 242 rfl <| ?_
          refine ih (k + 1) (by omega) (hnext ?_)
          first
            | exact fun q => (zb_eq0.mp c249) q.1
            | (intro q
               rw [if_pos q.2.1] at c261
               have := nI_eq (a := gOther (fun k => F k 0) (fun k => F k 1) k p) (b := 4294967295)
               exact absurd c261 (by intro z; have z2 := congrArg Int32.toInt z; rw [nI_toInt (by omega)] at z2; have z3 : ((-1 : Int32)).toInt = -1 := rfl; omega))
            | (intro q
               rw [nI_eq (by omega) (by omega)] at c304
               exact c304 q.2.2)
/-- what is known of a way -/
theorem gPath_facts {op : Nat → Prop} {A B c d : Nat → Nat} (hE : dEnds P n op A B c) : ∀ (l : List Nat) (p : Nat), p < P → gPath n op A B c d to l p → (∀ k ∈ l, k < n) ∧ l.length ≤ dCnt d (d p) P
  | [], p, _, _ => ⟨fun k hk => absurd hk List.not_mem_nil, Nat.zero_le _⟩
  | k :: l, p, hp, hg => by
    obtain ⟨-, a2, a3, -, a5⟩ := hg
    have hq := gOther_lt (p := p) hE a2 a3.1
    obtain ⟨r1, r2⟩ := gPath_facts hE l _ hq a5
    obtain ⟨-, -, -, e4, -⟩ := hE k a2 a3.1
    have hd := a3.2.2
    have := dCnt_lt (d := d) (x := d (gOther A B k p)) (y := d p) (by omega) (q := gOther A B k p) (by omega) (by omega) P hq
    refine ⟨fun j hj => ?_, by rw [List.length_cons]; omega⟩
    rcases List.mem_cons.mp hj with rfl | hj
    · exact a2
    · exact r1 j hj
theorem isWay_facts {op : Nat → Prop} {A B c : Nat → Nat} (hP : P ≤ 12) (hE : dEnds P n op A B c) (hf : fr < P) {o : Option (List Nat)} (h : isWay P n op A B c fr to o) : (∀ k ∈ o.getD [], k < n) ∧ (o.getD []).length ≤ 11 := by
  obtain ⟨far, d, -, -, -, h4⟩ := h
  cases o with
  | none => exact ⟨fun k hk => absurd hk List.not_mem_nil, Nat.zero_le _⟩
  | some l =>
    obtain ⟨r1, r2⟩ := gPath_facts hE l fr hf h4.2
    have := dCnt_self (d := d) (x := d fr) (p := fr) (by omega) P hf
    exact ⟨r1, by show l.length ≤ 11; omega⟩
def mSum (F : Nat → Nat → Nat) (w : Nat → Nat) (l : List Nat) : Nat := (l.map (nMi F w)).sum
theorem mSum_snoc (F : Nat → Nat → Nat) (w : Nat → Nat) (l : List Nat) (k : Nat) : mSum F w (l ++ [k]) = mSum F w l + nMi F w k := by
  unfold mSum
  rw [List.map_append, List.sum_append]
  simp
theorem l_way5b (hT : zTM t) (hN : nOk P n tl F w) (hm : mNet h P n tl F w) (C : zCx E b G RX11 cX11_findWay 9 (some .boolean)) (hR : zRoom G 2 0 0) {f : Nat → Int32} {k p L S : Nat} (hkn : k < n) (hp : p < P) (hend : F k 0 = p ∨ F k 1 = p) (hL : L < 12)
    (kk : zAW E b G 9 0 0 233 [some (.ref (b + 157)), some (.int (nI fr)), some (.int (nI to)), some (.int (nI s)), some (.int v4), some (.int (nI (gOther (fun k => F k 0) (fun k => F k 1) k p))), some (.int (nI k)), x7, x8] [] t (mSc h f (upd g L (nI k)) (nI (L + 1)) (nI (S + nMi F w k)))) :
    zAW E b G 9 0 0 313 [some (.ref (b + 157)), some (.int (nI fr)), some (.int (nI to)), some (.int (nI s)), some (.int v4), some (.int (nI p)), some (.int (nI k)), x7, x8] [] t (mSc h f g (nI L) (nI S)) := by
  have hn := hN.2.2.1
  have rl : zI (mSc h f g (nI L) (nI S)) 157 50 = nI L := by rw [zI_mSc]; rfl
  have rm : zI (mSc h f (upd g L (nI k)) (nI (L + 1)) (nI S)) 157 51 = nI S := by rw [zI_mSc]; rfl
  have rl2 : zI (mSc h f (upd g L (nI k)) (nI L) (nI S)) 157 50 = nI L := by rw [zI_mSc]; rfl
  have rl3 : zI (mSc h f (upd g L (nI k)) (nI (L + 1)) (nI (S + nMi F w k))) 157 50 = nI (L + 1) := by rw [zI_mSc]; rfl
  have rp : zI (mSc h f (upd g L (nI k)) (nI (L + 1)) (nI (S + nMi F w k))) 237 L = nI k := by rw [zI_mSc]; simp [upd]
  have hm2 := mNet_sc f (upd g L (nI k)) (nI (L + 1)) (nI S) hn hm
  have hm3 := mNet_sc f (upd g L (nI k)) (nI (L + 1)) (nI (S + nMi F w k)) hn hm
  refine zz_aload_0 C dX11_findWay_313 <| zz_getR C fX11_85 (tM_K hT) (tM_R_path hT) dX11_findWay_314 <| zz_aload_0 C dX11_findWay_317 <| zz_getI C fX11_217 (tM_K hT) dX11_findWay_318 <| zpc 321 rfl <| ?_
  rw [rl]
  refine zz_iload_6 C dX11_findWay_321 <| zc_iastore C _ (tM_K_path hT) (znI (by omega)) (by omega) dX11_findWay_323 <| zpc 324 rfl <| ?_
  rw [mSc_path]
  refine zz_aload_0 C dX11_findWay_324 <| zz_dup C dX11_findWay_325 rfl <| zz_getI C fX11_217 (tM_K hT) dX11_findWay_326 <| zpc 329 rfl <| ?_
  rw [rl2]
  refine zz_iconst_1 C dX11_findWay_329 <| zz_iadd C dX11_findWay_330 <| zpc 331 rfl <| ?_
  rw [show (1 : Int32) = nI 1 from rfl, nI_add]
  refine zy_putI C fX11_217 pX11_50 (tM_K hT) dX11_findWay_331 <| zpc 334 rfl <| ?_
  rw [mSc_long]
  refine zz_aload_0 C dX11_findWay_334 <| zz_dup C dX11_findWay_335 rfl <| zz_getI C fX11_220 (tM_K hT) dX11_findWay_336 <| zpc 339 rfl <| ?_
  rw [rm]
  refine zz_aload_0 C dX11_findWay_339 <| zz_iload_6 C dX11_findWay_340 <| zpc 342 rfl <| ?_
  refine zf_callVI C hR [_] (c_minutesOf hT hN hm2 _ hkn) lX11_211 rfl (tM_K hT) (by decide) rfl ⟨zle rfl, zle rfl, zle rfl, zle rfl⟩ (zle rfl) dX11_findWay_342 ?_
  refine zz_iadd C dX11_findWay_345 <| zpc 346 rfl <| ?_
  rw [nI_add]
  refine zy_putI C fX11_220 pX11_51 (tM_K hT) dX11_findWay_346 <| zpc 349 rfl <| ?_
  rw [mSc_min]
  refine zz_aload_0 C dX11_findWay_349 <| zz_aload_0 C dX11_findWay_350 <| zz_getR C fX11_85 (tM_K hT) (tM_R_path hT) dX11_findWay_351 <| zz_aload_0 C dX11_findWay_354 <| zz_getI C fX11_217 (tM_K hT) dX11_findWay_355 <| zpc 358 rfl <| ?_
  rw [rl3]
  refine zz_iconst_1 C dX11_findWay_358 <| zz_isub C dX11_findWay_359 <| zpc 360 rfl <| ?_
  rw [nI_pred]
  refine zc_iaload C _ (tM_K_path hT) (znI (by omega)) (by omega) dX11_findWay_360 <| zpc 361 rfl <| ?_
  rw [rp]
  refine zz_iload_5 C dX11_findWay_361 <| zpc 363 rfl <| ?_
  refine zf_callVI C hR [_, _] (c_farEnd hT hN hm3 _ _ hkn hp) lX11_223 rfl (tM_K hT) (by decide) rfl ⟨zle rfl, zle rfl, zle rfl, zle rfl⟩ (zle rfl) dX11_findWay_363 ?_
  rw [if_pos hend]
  refine zz_istore_5 C (zle rfl) rfl dX11_findWay_366 <| zz_goto C 233 dX11_findWay_368 (by decide) <| zpc 233 rfl <| ?_
  exact kk
/-- the roads of the way, one by one -/
theorem l_way5 (hT : zTM t) (hN : nOk P n tl F w) (hm : mNet h P n tl F w) (C : zCx E b G RX11 cX11_findWay 9 (some .boolean)) (hR : zRoom G 2 0 0) (hs : s < 2 ^ 31) (hto : to < P) {f : Nat → Int32} {d : Nat → Nat} (hf : mRep P f d) (hd : dTight P n (nOp s F w) (fun k => F k 0) (fun k => F k 1) (nCo tl F w) to mFar d) (hF : dFix n (nOp s F w) (fun k => F k 0) (fun k => F k 1) (nCo tl F w) mFar d)
    (kont : ∀ (l : List Nat) (g : Nat → Int32) (x5 x6 x7 x8 : Option Value), gPath n (nOp s F w) (fun k => F k 0) (fun k => F k 1) (nCo tl F w) d to l fr → (∀ i, i < l.length → g i = nI (l.getD i 0)) → zAW E b G 9 0 0 371 [some (.ref (b + 157)), some (.int (nI fr)), some (.int (nI to)), some (.int (nI s)), some (.int v4), x5, x6, x7, x8] [] t (mSc h f g (nI l.length) (nI (mSum F w l)))) :
    ∀ (m p : Nat) (pre : List Nat) (g : Nat → Int32) (x6 x7 x8 : Option Value), p < P → d p < mFar → dCnt d (d p) P < m → pre.length + dCnt d (d p) P + 1 ≤ P → mSum F w pre ≤ 990 * pre.length → (∀ rest, gPath n (nOp s F w) (fun k => F k 0) (fun k => F k 1) (nCo tl F w) d to rest p → gPath n (nOp s F w) (fun k => F k 0) (fun k => F k 1) (nCo tl F w) d to (pre ++ rest) fr) → (∀ i, i < pre.length → g i = nI (pre.getD i 0)) → zAW E b G 9 0 0 233 [some (.ref (b + 157)), some (.int (nI fr)), some (.int (nI to)), some (.int (nI s)), some (.int v4), some (.int (nI p)), x6, x7, x8] [] t (mSc h f g (nI pre.length) (nI (mSum F w pre))) := by
  have hP := hN.2.1
  have hn := hN.2.2.1
  have hE := nEnds (s := s) hN
  intro m
  induction m with
  | zero => intro p pre g x6 x7 x8 hp hpf hm; omega
  | succ m ih =>
    intro p pre g x6 x7 x8 hp hpf hcm hlen hsum hpre hg
    refine zz_iload_5 C dX11_findWay_233 <| zz_iload_2 C dX11_findWay_235 <| zpc 236 rfl <| ?_
    refine zz_icmp_eq C 371 dX11_findWay_236 (by decide) (fun c236 => ?_) (fun c236 => ?_)
    · rw [nI_eq (by omega) (by omega)] at c236
      have := hpre [] c236
      rw [List.append_nil] at this
      exact kont pre g _ _ _ _ this hg
    · refine zz_iconst_0 C dX11_findWay_239 <| zz_istore_6 C (zle rfl) rfl dX11_findWay_240 <| zpc 242 rfl <| ?_
      rw [nI_eq (by omega) (by omega)] at c236
      obtain ⟨K, hK, hKe⟩ := gEdge_ex hF hd hp c236 hpf
      refine l_way4 hT hN hm C hR hs hp hf hd hK hKe ?_ (K + 1) 0 (by omega) (fun j hj => absurd hj (by omega))
      intro k hkn hke hkf
      have ho := hke.1
      have hoth := gOther_lt (p := p) hE hkn ho
      obtain ⟨-, -, -, e4, e5⟩ := hE k hkn ho
      have hdq := hke.2.2
      have hcnt := dCnt_lt (d := d) (x := d (gOther (fun k => F k 0) (fun k => F k 1) k p)) (y := d p) (by omega) (q := gOther (fun k => F k 0) (fun k => F k 1) k p) (by omega) (by omega) P hoth
      have hmi := nMi_le hN hkn
      refine l_way5b hT hN hm C hR hkn hp hke.2.1 (by omega) ?_
      have hg2 : ∀ i, i < (pre ++ [k]).length → upd g pre.length (nI k) i = nI ((pre ++ [k]).getD i 0) := by
        intro i hi
        rw [List.length_append, List.length_singleton] at hi
        unfold upd
        by_cases hip : i = pre.length
        · subst hip; simp
        · rw [if_neg hip, hg i (by omega)]
          simp [List.getD, List.getElem?_append_left (show i < pre.length by omega)]
      have := ih (gOther (fun k => F k 0) (fun k => F k 1) k p) (pre ++ [k]) (upd g pre.length (nI k)) (some (.int (nI k))) x7 x8 hoth (by omega) (by omega) (by rw [List.length_append, List.length_singleton]; omega) (by rw [mSum_snoc, List.length_append, List.length_singleton]; omega) (fun rest hr => by rw [List.append_assoc]; exact hpre _ ⟨c236, hkn, hke, hkf, hr⟩) hg2
      rw [mSum_snoc, List.length_append, List.length_singleton] at this
      exact this
/-- what findWay leaves -/
def mWayPost (h : zH) (t : zT) (P n tl s : Nat) (F : Nat → Nat → Nat) (w : Nat → Nat) (fr to : Nat) (r : Int32) (t' : zT) (h' : zH) : Prop := t' = t ∧ r = zb ((nWay P n tl s F w fr to).isSome = true) ∧ ((∀ k ∈ (nWay P n tl s F w fr to).getD [], k < n) ∧ ((nWay P n tl s F w fr to).getD []).length ≤ 11) ∧ isWay P n (nOp s F w) (fun k => F k 0) (fun k => F k 1) (nCo tl F w) fr to (nWay P n tl s F w fr to) ∧ ∃ f g, h' = mSc h f g (nI ((nWay P n tl s F w fr to).getD []).length) (nI (mSum F w ((nWay P n tl s F w fr to).getD []))) ∧ ∀ i, i < ((nWay P n tl s F w fr to).getD []).length → g i = nI (((nWay P n tl s F w fr to).getD []).getD i 0)
theorem l_way8 (hT : zTM t) (C : zCx E b G RX11 cX11_findWay 9 (some .boolean)) (hE : zEnd E b G 0 0 (qI (mWayPost h t P n tl s F w fr to))) {l : List Nat} {f : Nat → Int32} (hN : nOk P n tl F w) (hfr : fr < P) (hiw : isWay P n (nOp s F w) (fun k => F k 0) (fun k => F k 1) (nCo tl F w) fr to (some l)) (hg : ∀ i, i < l.length → g i = nI (l.getD i 0)) : zAW E b G 9 0 0 371 [some (.ref (b + 157)), some (.int (nI fr)), some (.int (nI to)), some (.int (nI s)), some (.int v4), x5, x6, x7, x8] [] t (mSc h f g (nI l.length) (nI (mSum F w l))) := by
  have hw : nWay P n tl s F w fr to = some l := zway_eq hN.2.1 (nEnds hN) hfr hiw
  refine zz_iconst_1 C dX11_findWay_371 <| zpc 372 rfl <| ?_
  refine zy_zreturn C hE (zle rfl) (zle rfl) dX11_findWay_372 (by decide) ?_
  refine ⟨rfl, by rw [hw]; rfl, by rw [hw]; exact isWay_facts hN.2.1 (nEnds hN) hfr hiw, by rw [hw]; exact hiw, f, g, by rw [hw]; rfl, fun i hi => ?_⟩
  rw [hw] at hi ⊢
  exact hg i hi
theorem l_way7 (hT : zTM t) (hN : nOk P n tl F w) (hm : mNet h P n tl F w) (C : zCx E b G RX11 cX11_findWay 9 (some .boolean)) (hR : zRoom G 2 0 0) (hE : zEnd E b G 0 0 (qI (mWayPost h t P n tl s F w fr to))) (hfr : fr < P) (hto : to < P) (hs : s < 2 ^ 31) {f : Nat → Int32} {d : Nat → Nat} (hf : mRep P f d) (hd : dTight P n (nOp s F w) (fun k => F k 0) (fun k => F k 1) (nCo tl F w) to mFar d) (hF : dFix n (nOp s F w) (fun k => F k 0) (fun k => F k 1) (nCo tl F w) mFar d) : zAW E b G 9 0 0 207 [some (.ref (b + 157)), some (.int (nI fr)), some (.int (nI to)), some (.int (nI s)), some (.int v4), x5, x6, x7, x8] [] t (mSc h f g a c) := by
  have hP := hN.2.1
  have hEd := nEnds (s := s) hN
  have bf : d fr ≤ 1000000000 := hd.2.1 _ hfr
  have rf : zI (mSc h f g 0 0) 236 fr = nI (d fr) := by rw [zI_mSc]; simpa using hf _ hfr
  have hfar : (1000000000 : Int32) = nI 1000000000 := rfl
  refine zz_aload_0 C dX11_findWay_207 <| zz_iconst_0 C dX11_findWay_208 <| zy_putI C fX11_217 pX11_50 (tM_K hT) dX11_findWay_209 <| zpc 212 rfl <| ?_
  rw [mSc_long]
  refine zz_aload_0 C dX11_findWay_212 <| zz_iconst_0 C dX11_findWay_213 <| zy_putI C fX11_220 pX11_51 (tM_K hT) dX11_findWay_214 <| zpc 217 rfl <| ?_
  rw [mSc_min]
  refine zz_aload_0 C dX11_findWay_217 <| zz_getR C fX11_82 (tM_K hT) (tM_R_least hT) dX11_findWay_218 <| zz_iload_1 C dX11_findWay_221 <| zc_iaload C _ (tM_K_least hT) (znI (by omega)) (by omega) dX11_findWay_222 <| zpc 223 rfl <| ?_
  rw [rf]
  refine zz_ldc C dX11_findWay_223 kX11_203 <| zpc 225 rfl <| ?_
  rw [hfar]
  refine zz_icmp_lt C 230 dX11_findWay_225 (by decide) (fun c225 => ?_) (fun c225 => ?_)
  · refine zz_iload_1 C dX11_findWay_230 <| zz_istore_5 C (zle rfl) rfl dX11_findWay_231 <| zpc 233 rfl <| ?_
    rw [nI_ltI (by omega) (by omega)] at c225
    have hc := dCnt_self (d := d) (x := d fr) (p := fr) (by omega) P hfr
    refine l_way5 (fr := fr) hT hN hm C hR hs hto hf hd hF ?_ (P + 1) fr [] g _ _ _ hfr c225 (by omega) (by simpa using hc) (by simp [mSum]) (fun rest hr => by rw [List.nil_append]; exact hr) (fun i hi => absurd hi (Nat.not_lt_zero i))
    intro l g' y5 y6 y7 y8 hl hg
    exact l_way8 hT C hE hN hfr ⟨mFar, d, by decide, hF, hd, c225, hl⟩ hg
  · refine zz_iconst_0 C dX11_findWay_228 <| zpc 229 rfl <| ?_
    refine zy_zreturn C hE (zle rfl) (zle rfl) dX11_findWay_229 (by decide) ?_
    rw [nI_ltI (by omega) (by omega)] at c225
    have hiw : isWay P n (nOp s F w) (fun k => F k 0) (fun k => F k 1) (nCo tl F w) fr to none := ⟨mFar, d, by decide, hF, hd, by show mFar ≤ d fr; unfold mFar; omega⟩
    have hw : nWay P n tl s F w fr to = none := zway_eq hP hEd hfr hiw
    refine ⟨rfl, by rw [hw]; rfl, by rw [hw]; exact isWay_facts hP hEd hfr hiw, by rw [hw]; exact hiw, f, g, by rw [hw]; rfl, fun i hi => ?_⟩
    rw [hw] at hi
    exact absurd hi (Nat.not_lt_zero i)
theorem l_way0 (hT : zTM t) (hN : nOk P n tl F w) (hm : mNet h P n tl F w) (C : zCx E b G RX11 cX11_findWay 9 (some .boolean)) (hR : zRoom G 2 0 0) (hE : zEnd E b G 0 0 (qI (mWayPost h t P n tl s F w fr to))) (hfr : fr < P) (hto : to < P) (hs : s < 2 ^ 31) {f : Nat → Int32} (hf : ∀ q, q < P → f q = nI (mD0 to q)) : zAW E b G 9 0 0 39 [some (.ref (b + 157)), some (.int (nI fr)), some (.int (nI to)), some (.int (nI s)), x4, x5, x6, x7, x8] [] t (mSc h f g a c) := by
  refine zz_iconst_1 C dX11_findWay_39 <| zz_istore_4 C (zle rfl) rfl dX11_findWay_40 <| zpc 42 rfl <| ?_
  refine l_way3 (fr := fr) hT hN hm C hR hs ?_ (dSum (mD0 to) P + 1) f (mD0 to) 1 _ _ _ _ hf (dTight_0 hto) (Or.inr ⟨rfl, by omega⟩)
  intro f' d' y4 y5 y6 y7 y8 q1 q2 q3
  exact l_way7 hT hN hm C hR hE hfr hto hs q1 q2 q3
/-- findWay: whether there is a way; the path and its minutes in the scratch -/
theorem c_findWay {l : Launch} (hT : zTM t) (hN : nOk P n tl F w) (hm : mNet h P n tl F w) (fr to s : Nat) (hfr : fr < P) (hto : to < P) (hs : s < 2 ^ 31) : zMet E b l yX11_findWay cX11_findWay 9 (some .boolean) 2 0 0 [.ref (b + 157), .int (nI fr), .int (nI to), .int (nI s)] t h (qI (mWayPost h t P n tl s F w fr to)) := by
  have hP := hN.2.1
  refine zMet.of (ls := [some (.ref (b + 157)), some (.int (nI fr)), some (.int (nI to)), some (.int (nI s)), none, none, none, none, none]) (by decide) (zle rfl) 5 rfl ?_
  intro G hlG C hR hE hin
  rw [show h = mSc h (fun k => zI h 236 k) (fun k => zI h 237 k) (zI h 157 50) (zI h 157 51) from (mSc_self h).symm]
  generalize (fun k => zI h 236 k) = f0
  generalize (fun k => zI h 237 k) = g0
  generalize zI h 157 50 = a0
  generalize zI h 157 51 = c0
  refine zz_iconst_0 C dX11_findWay_0 <| zz_istore_4 C (zle rfl) rfl dX11_findWay_1 <| zpc 3 rfl <| ?_
  refine l_way1 (s := s) (fr := fr) hT hN hm C hto ?_ P 0 f0 (by omega) (fun q hq => absurd hq (by omega))
  intro f y hf
  exact l_way0 hT hN hm C hR hE hfr hto hs hf
end MW
