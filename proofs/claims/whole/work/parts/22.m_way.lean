/-! ===== the reference: the way from one place to another ===== -/
/-- its scratch: least minutes, the path, how long it is, its minutes -/
def mSc (h : zH) (f g : Nat → Int32) (a c : Int32) : zH := zsI (zsI (zrI (zrI h 236 f) 237 g) 157 50 a) 157 51 c
theorem zI_mSc (h : zH) (f g : Nat → Int32) (a c : Int32) (i k : Nat) : zI (mSc h f g a c) i k = if i = 157 ∧ k = 51 then c else if i = 157 ∧ k = 50 then a else if i = 237 then g k else if i = 236 then f k else zI h i k := by
  unfold mSc
  rw [zI_sI, zI_sI, zI_rI, zI_rI]
theorem zL_mSc (h : zH) (f g : Nat → Int32) (a c : Int32) (i k : Nat) : zL (mSc h f g a c) i k = zL h i k := rfl
theorem zH_ext {h h' : zH} (hI : ∀ i k, zI h i k = zI h' i k) (hL : ∀ i k, zL h i k = zL h' i k) : h = h' := Prod.ext (funext fun i => funext fun k => hI i k) (funext fun i => funext fun k => hL i k)
theorem mSc_self (h : zH) : mSc h (fun k => zI h 236 k) (fun k => zI h 237 k) (zI h 157 50) (zI h 157 51) = h := by
  refine zH_ext (fun i k => ?_) (fun i k => rfl)
  rw [zI_mSc]
  split
  · rename_i q; rw [q.1, q.2]
  · split
    · rename_i q; rw [q.1, q.2]
    · split
      · rename_i q; rw [q]
      · split
        · rename_i q; rw [q]
        · rfl
theorem mSc_least (h : zH) (f g : Nat → Int32) (a c : Int32) (k : Nat) (v : Int32) : zsI (mSc h f g a c) 236 k v = mSc h (upd f k v) g a c := by
  refine zH_ext (fun i j => ?_) (fun i k => rfl)
  simp only [zI_sI, zI_mSc, upd]
  grind
theorem mSc_path (h : zH) (f g : Nat → Int32) (a c : Int32) (k : Nat) (v : Int32) : zsI (mSc h f g a c) 237 k v = mSc h f (upd g k v) a c := by
  refine zH_ext (fun i j => ?_) (fun i k => rfl)
  simp only [zI_sI, zI_mSc, upd]
  grind
theorem mSc_long (h : zH) (f g : Nat → Int32) (a c v : Int32) : zsI (mSc h f g a c) 157 50 v = mSc h f g v c := by
  refine zH_ext (fun i j => ?_) (fun i k => rfl)
  simp only [zI_sI, zI_mSc]
  grind
theorem mSc_min (h : zH) (f g : Nat → Int32) (a c v : Int32) : zsI (mSc h f g a c) 157 51 v = mSc h f g a v := by
  refine zH_ext (fun i j => ?_) (fun i k => rfl)
  simp only [zI_sI, zI_mSc]
  grind
theorem mNet_sc {h : zH} {P n tl : Nat} {F : Nat → Nat → Nat} {w : Nat → Nat} (f g : Nat → Int32) (a c : Int32) (hn : n ≤ 11) (hm : mNet h P n tl F w) : mNet (mSc h f g a c) P n tl F w := by
  obtain ⟨h1, h2, h3, h4⟩ := hm
  refine ⟨?_, ?_, ?_, fun k hk => ⟨fun i hi => ?_, ?_⟩⟩
  · rw [zI_mSc]; simpa using h1
  · rw [zI_mSc]; simpa using h2
  · rw [zI_mSc]; simpa using h3
  · rw [zI_mSc, if_neg (by omega), if_neg (by omega), if_neg (by omega), if_neg (by omega)]
    exact (h4 k hk).1 i hi
  · rw [zI_mSc]; simpa using (h4 k hk).2
abbrev mFar : Nat := 1000000000
/-- at first: 0 at the end, far elsewhere -/
def mD0 (to p : Nat) : Nat := if p = to then 0 else mFar
/-! one place known better -/
def nUp (d : Nat → Nat) (b x : Nat) : Nat → Nat := fun q => if q = b then x else d q
def dSum (d : Nat → Nat) : Nat → Nat
  | 0 => 0
  | P + 1 => dSum d P + d P
theorem dSum_le {d e : Nat → Nat} : ∀ P, (∀ q, q < P → e q ≤ d q) → dSum e P ≤ dSum d P
  | 0, _ => Nat.le_refl 0
  | P + 1, h => Nat.add_le_add (dSum_le P (fun q hq => h q (by omega))) (h P (by omega))
theorem dSum_up {d : Nat → Nat} {b x : Nat} (hx : x < d b) : ∀ P, b < P → dSum (nUp d b x) P < dSum d P
  | 0, h => absurd h (by omega)
  | P + 1, h => by
    show dSum (nUp d b x) P + nUp d b x P < dSum d P + d P
    by_cases hb : b = P
    · subst hb
      have h1 : dSum (nUp d b x) b ≤ dSum d b := dSum_le b (fun q hq => by unfold nUp; rw [if_neg (by omega)]; exact Nat.le_refl _)
      have h2 : nUp d b x b = x := if_pos rfl
      omega
    · have h1 := dSum_up hx P (by omega)
      have h2 : nUp d b x P = d P := if_neg (by omega)
      omega
theorem dTight_up {P n : Nat} {op : Nat → Prop} {A B c : Nat → Nat} {to far : Nat} {d : Nat → Nat} (hE : dEnds P n op A B c) (hT : dTight P n op A B c to far d) {k a e : Nat} (hk : k < n) (ho : op k) (hab : (A k = a ∧ B k = e) ∨ (B k = a ∧ A k = e)) (hlt : d a + c k < d e) : dTight P n op A B c to far (nUp d e (d a + c k)) := by
  obtain ⟨h1, h2, h3⟩ := hT
  obtain ⟨e1, e2, e3, e4, e5⟩ := hE k hk ho
  have hae : a ≠ e := by rcases hab with ⟨x, y⟩ | ⟨x, y⟩ <;> omega
  have hte : to ≠ e := fun q => by rw [← q, h1] at hlt; omega
  have hmon : ∀ q, nUp d e (d a + c k) q ≤ d q := fun q => by
    unfold nUp
    split
    · rename_i x; rw [x]; omega
    · exact Nat.le_refl _
  have hep : e < P := by rcases hab with ⟨x, y⟩ | ⟨x, y⟩ <;> omega
  refine ⟨?_, fun p hp => Nat.le_trans (hmon p) (h2 p hp), fun p hp hpt hpf => ?_⟩
  · unfold nUp; rw [if_neg hte]; exact h1
  · by_cases hpe : p = e
    · have v1 : nUp d e (d a + c k) p = d a + c k := if_pos hpe
      have v2 : nUp d e (d a + c k) a = d a := if_neg hae
      refine ⟨k, hk, ho, ?_⟩
      rcases hab with ⟨x, y⟩ | ⟨x, y⟩
      · right
        rw [x, v1, v2]
        exact ⟨by omega, Nat.le_refl _⟩
      · left
        rw [x, v1, v2]
        exact ⟨by omega, Nat.le_refl _⟩
    · have v1 : nUp d e (d a + c k) p = d p := if_neg hpe
      rw [v1] at hpf ⊢
      obtain ⟨j, hj, hoj, hh⟩ := h3 p hp hpt hpf
      refine ⟨j, hj, hoj, ?_⟩
      rcases hh with ⟨x, y⟩ | ⟨x, y⟩
      · left
        have := hmon (B j)
        exact ⟨x, by omega⟩
      · right
        have := hmon (A j)
        exact ⟨x, by omega⟩
theorem dTight_0 {P n : Nat} {op : Nat → Prop} {A B c : Nat → Nat} {to : Nat} (hto : to < P) : dTight P n op A B c to mFar (mD0 to) := by
  refine ⟨if_pos rfl, fun p _ => ?_, fun p _ hpt hf => ?_⟩
  · unfold mD0; split
    · exact Nat.zero_le _
    · exact Nat.le_refl _
  · unfold mD0 at hf
    rw [if_neg hpt] at hf
    exact absurd hf (Nat.lt_irrefl _)
/-- numbers that a row of ints holds -/
def mRep (P : Nat) (f : Nat → Int32) (d : Nat → Nat) : Prop := ∀ q, q < P → f q = nI (d q)
theorem mRep_up {P : Nat} {f : Nat → Int32} {d : Nat → Nat} (h : mRep P f d) (e x : Nat) : mRep P (upd f e (nI x)) (nUp d e x) := by
  intro q hq
  unfold upd nUp
  split
  · rfl
  · exact h q hq
section MW
variable {E : zE} {b : Nat} {G : zG} {t : zT} {h : zH} {P n tl s fr to : Nat} {F : Nat → Nat → Nat} {w : Nat → Nat} {g : Nat → Int32} {a c : Int32} {x5 x6 x7 x8 : Option Value}
theorem l_way1 (hT : zTM t) (hN : nOk P n tl F w) (hm : mNet h P n tl F w) (C : zCx E b G RX11 cX11_findWay 9 (some .boolean)) (hto : to < P)
    (kont : ∀ (f : Nat → Int32) (y : Option Value), (∀ q, q < P → f q = nI (mD0 to q)) → zAW E b G 9 0 0 39 [some (.ref (b + 157)), some (.int (nI fr)), some (.int (nI to)), some (.int (nI s)), y, x5, x6, x7, x8] [] t (mSc h f g a c)) :
    ∀ (m p : Nat) (f : Nat → Int32), p + m = P → (∀ q, q < p → f q = nI (mD0 to q)) → zAW E b G 9 0 0 3 [some (.ref (b + 157)), some (.int (nI fr)), some (.int (nI to)), some (.int (nI s)), some (.int (nI p)), x5, x6, x7, x8] [] t (mSc h f g a c) := by
  intro m
  induction m with
  | zero =>
    intro p f hp hf
    have hm2 := (mNet_sc f g a c hN.2.2.1 hm).1
    have hP := hN.2.1
    refine zz_iload_4 C dX11_findWay_3 <| zz_aload_0 C dX11_findWay_5 <| zz_getR C fX11_20 (tM_K hT) (tM_R_told hT) dX11_findWay_6 <| zz_iconst_0 C dX11_findWay_9 <| zc_iaload C 0 (tM_K_told hT) (zlit _ (by decide)) (by decide) dX11_findWay_10 <| zpc 11 rfl <| ?_
    rw [hm2]
    refine zz_icmp_ge C 39 dX11_findWay_11 (by decide) (fun c11 => ?_) (fun c11 => ?_)
    · exact kont f _ (fun q hq => hf q (by omega))
    · exact absurd (nI_le (by omega) (by omega)) c11
  | succ m ih =>
    intro p f hp hf
    have hm2 := (mNet_sc f g a c hN.2.2.1 hm).1
    have hP := hN.2.1
    refine zz_iload_4 C dX11_findWay_3 <| zz_aload_0 C dX11_findWay_5 <| zz_getR C fX11_20 (tM_K hT) (tM_R_told hT) dX11_findWay_6 <| zz_iconst_0 C dX11_findWay_9 <| zc_iaload C 0 (tM_K_told hT) (zlit _ (by decide)) (by decide) dX11_findWay_10 <| zpc 11 rfl <| ?_
    rw [hm2]
    refine zz_icmp_ge C 39 dX11_findWay_11 (by decide) (fun c11 => ?_) (fun c11 => ?_)
    · exact absurd c11 (nI_ge (by omega) (by omega))
    · refine zz_aload_0 C dX11_findWay_14 <| zz_getR C fX11_82 (tM_K hT) (tM_R_least hT) dX11_findWay_15 <| zz_iload_4 C dX11_findWay_18 <| zz_iload_4 C dX11_findWay_20 <| zz_iload_2 C dX11_findWay_22 <| zpc 23 rfl <| ?_
      refine zz_icmp_ne C 30 dX11_findWay_23 (by decide) (fun c23 => ?_) (fun c23 => ?_)
      · refine zz_ldc C dX11_findWay_30 kX11_203 <| zc_iastore C _ (tM_K_least hT) (znI (by omega)) (by omega) dX11_findWay_32 <| zpc 33 rfl <| ?_
        rw [mSc_least]
        refine zz_iinc_4 C _ (zle rfl) rfl dX11_findWay_33 nI_s <| zz_goto C 3 dX11_findWay_36 (by decide) <| zpc 3 rfl <| ?_
        refine ih (p + 1) _ (by omega) (fun q hq => ?_)
        rw [nI_eq (by omega) (by omega)] at c23
        unfold upd mD0
        by_cases hqp : q = p
        · subst hqp; simp [c23, nI]; try rfl
        · rw [if_neg hqp]; exact hf q (by omega)
      · refine zz_iconst_0 C dX11_findWay_26 <| zz_goto C 32 dX11_findWay_27 (by decide) <| zc_iastore C _ (tM_K_least hT) (znI (by omega)) (by omega) dX11_findWay_32 <| zpc 33 rfl <| ?_
        rw [mSc_least]
        refine zz_iinc_4 C _ (zle rfl) rfl dX11_findWay_33 nI_s <| zz_goto C 3 dX11_findWay_36 (by decide) <| zpc 3 rfl <| ?_
        refine ih (p + 1) _ (by omega) (fun q hq => ?_)
        rw [nI_eq (by omega) (by omega)] at c23
        unfold upd mD0
        by_cases hqp : q = p
        · subst hqp; simp [c23, nI]; try rfl
        · rw [if_neg hqp]; exact hf q (by omega)
/-- the second half of a road's turn -/
theorem l_way2b (hT : zTM t) (hN : nOk P n tl F w) (hm : mNet h P n tl F w) (C : zCx E b G RX11 cX11_findWay 9 (some .boolean)) {k : Nat} (hk : k < n) (ho : nOp s F w k) {f : Nat → Int32} {d d0 : Nat → Nat} {v : Int32} (hf : mRep P f d) (hd : dTight P n (nOp s F w) (fun k => F k 0) (fun k => F k 1) (nCo tl F w) to mFar d) (hv : (v = 0 ∧ d = d0 ∧ d (F k 1) ≤ d (F k 0) + nCo tl F w k) ∨ (v = 1 ∧ dSum d P < dSum d0 P))
    (kont : ∀ (f : Nat → Int32) (d : Nat → Nat) (v' : Int32) (x6 x7 x8 : Option Value), mRep P f d → dTight P n (nOp s F w) (fun k => F k 0) (fun k => F k 1) (nCo tl F w) to mFar d → ((v' = 0 ∧ v = 0 ∧ d = d0 ∧ d (F k 1) ≤ d (F k 0) + nCo tl F w k ∧ d (F k 0) ≤ d (F k 1) + nCo tl F w k) ∨ (v' = 1 ∧ dSum d P < dSum d0 P)) → zAW E b G 9 0 0 53 [some (.ref (b + 157)), some (.int (nI fr)), some (.int (nI to)), some (.int (nI s)), some (.int v'), some (.int (nI (k + 1))), x6, x7, x8] [] t (mSc h f g a c)) :
    zAW E b G 9 0 0 158 [some (.ref (b + 157)), some (.int (nI fr)), some (.int (nI to)), some (.int (nI s)), some (.int v), some (.int (nI k)), some (.int (nI (F k 0))), some (.int (nI (F k 1))), some (.int (nI (nCo tl F w k)))] [] t (mSc h f g a c) := by
  have hE := nEnds (s := s) hN
  obtain ⟨e1, e2, e3, e4, e5⟩ := hE k hk ho
  have hP := hN.2.1
  have hn := hN.2.2.1
  have b0 : d (F k 0) ≤ 1000000000 := hd.2.1 _ e1
  have b1 : d (F k 1) ≤ 1000000000 := hd.2.1 _ e2
  dsimp only at e1 e2 e3
  have r0 : zI (mSc h f g a c) 236 (F k 0) = nI (d (F k 0)) := by rw [zI_mSc]; simpa using hf _ e1
  have r1 : zI (mSc h f g a c) 236 (F k 1) = nI (d (F k 1)) := by rw [zI_mSc]; simpa using hf _ e2
  refine zz_aload_0 C dX11_findWay_158 <| zz_getR C fX11_82 (tM_K hT) (tM_R_least hT) dX11_findWay_159 <| zz_iload_7 C dX11_findWay_162 <| zc_iaload C _ (tM_K_least hT) (znI (by omega)) (by omega) dX11_findWay_164 <| zpc 165 rfl <| ?_
  rw [r1]
  refine zz_iload_8 C dX11_findWay_165 <| zz_iadd C dX11_findWay_167 <| zpc 168 rfl <| ?_
  rw [nI_add]
  refine zz_aload_0 C dX11_findWay_168 <| zz_getR C fX11_82 (tM_K hT) (tM_R_least hT) dX11_findWay_169 <| zz_iload_6 C dX11_findWay_172 <| zc_iaload C _ (tM_K_least hT) (znI (by omega)) (by omega) dX11_findWay_174 <| zpc 175 rfl <| ?_
  rw [r0]
  refine zz_icmp_ge C 198 dX11_findWay_175 (by decide) (fun c175 => ?_) (fun c175 => ?_)
  · refine zz_iinc_5 C _ (zle rfl) rfl dX11_findWay_198 nI_s <| zz_goto C 53 dX11_findWay_201 (by decide) <| zpc 53 rfl <| ?_
    rw [nI_leI (by omega) (by omega)] at c175
    first
      | exact kont _ _ _ _ _ _ hf hd (by rcases hv with ⟨h1, h2, h3⟩ | h1; exact Or.inl ⟨h1, h1, h2, h3, c175⟩; exact Or.inr h1)
      | (have hlt : d (F k 1) + nCo tl F w k < d (F k 0) := by omega
         exact kont _ _ _ _ _ _ (mRep_up hf _ _) (dTight_up hE hd hk ho (Or.inr ⟨rfl, rfl⟩) hlt) (Or.inr ⟨rfl, by have := dSum_up hlt P e1; rcases hv with ⟨h1, h2, h3⟩ | h1; rw [← h2]; exact this; omega⟩))
  · refine zz_aload_0 C dX11_findWay_178 <| zz_getR C fX11_82 (tM_K hT) (tM_R_least hT) dX11_findWay_179 <| zz_iload_6 C dX11_findWay_182 <| zz_aload_0 C dX11_findWay_184 <| zz_getR C fX11_82 (tM_K hT) (tM_R_least hT) dX11_findWay_185 <| zz_iload_7 C dX11_findWay_188 <| zc_iaload C _ (tM_K_least hT) (znI (by omega)) (by omega) dX11_findWay_190 <| zpc 191 rfl <| ?_
    rw [r1]
    refine zz_iload_8 C dX11_findWay_191 <| zz_iadd C dX11_findWay_193 <| zpc 194 rfl <| ?_
    rw [nI_add]
    refine zc_iastore C _ (tM_K_least hT) (znI (by omega)) (by omega) dX11_findWay_194 <| zpc 195 rfl <| ?_
    rw [mSc_least]
    refine zz_iconst_1 C dX11_findWay_195 <| zz_istore_4 C (zle rfl) rfl dX11_findWay_196 <| zz_iinc_5 C _ (zle rfl) rfl dX11_findWay_198 nI_s <| zz_goto C 53 dX11_findWay_201 (by decide) <| zpc 53 rfl <| ?_
    rw [nI_leI (by omega) (by omega)] at c175
    first
      | exact kont _ _ _ _ _ _ hf hd (by rcases hv with ⟨h1, h2, h3⟩ | h1; exact Or.inl ⟨h1, h1, h2, h3, c175⟩; exact Or.inr h1)
      | (have hlt : d (F k 1) + nCo tl F w k < d (F k 0) := by omega
         exact kont _ _ _ _ _ _ (mRep_up hf _ _) (dTight_up hE hd hk ho (Or.inr ⟨rfl, rfl⟩) hlt) (Or.inr ⟨rfl, by have := dSum_up hlt P e1; rcases hv with ⟨h1, h2, h3⟩ | h1; rw [← h2]; exact this; omega⟩))
/-- one turn through all roads -/
theorem l_way2 (hT : zTM t) (hN : nOk P n tl F w) (hm : mNet h P n tl F w) (C : zCx E b G RX11 cX11_findWay 9 (some .boolean)) (hR : zRoom G 2 0 0) (hs : s < 2 ^ 31) {d0 : Nat → Nat}
    (kont : ∀ (f : Nat → Int32) (d : Nat → Nat) (v : Int32) (x5 x6 x7 x8 : Option Value), mRep P f d → dTight P n (nOp s F w) (fun k => F k 0) (fun k => F k 1) (nCo tl F w) to mFar d → ((v = 0 ∧ d = d0 ∧ dFix n (nOp s F w) (fun k => F k 0) (fun k => F k 1) (nCo tl F w) mFar d) ∨ (v = 1 ∧ dSum d P < dSum d0 P)) → zAW E b G 9 0 0 42 [some (.ref (b + 157)), some (.int (nI fr)), some (.int (nI to)), some (.int (nI s)), some (.int v), x5, x6, x7, x8] [] t (mSc h f g a c)) :
    ∀ (m k : Nat) (f : Nat → Int32) (d : Nat → Nat) (v : Int32) (x6 x7 x8 : Option Value), k + m = n → mRep P f d → dTight P n (nOp s F w) (fun k => F k 0) (fun k => F k 1) (nCo tl F w) to mFar d → ((v = 0 ∧ d = d0 ∧ ∀ j, j < k → nOp s F w j → d (F j 1) ≤ d (F j 0) + nCo tl F w j ∧ d (F j 0) ≤ d (F j 1) + nCo tl F w j) ∨ (v = 1 ∧ dSum d P < dSum d0 P)) → zAW E b G 9 0 0 53 [some (.ref (b + 157)), some (.int (nI fr)), some (.int (nI to)), some (.int (nI s)), some (.int v), some (.int (nI k)), x6, x7, x8] [] t (mSc h f g a c) := by
  have hP := hN.2.1
  have hn := hN.2.2.1
  intro m
  induction m with
  | zero =>
    intro k f d v x6 x7 x8 hk hf hd hv
    have hr := (mNet_sc f g a c hn hm).2.1
    refine zz_iload_5 C dX11_findWay_53 <| zz_aload_0 C dX11_findWay_55 <| zz_getI C fX11_204 (tM_K hT) dX11_findWay_56 <| zpc 59 rfl <| ?_
    rw [hr]
    refine zz_icmp_ge C 204 dX11_findWay_59 (by decide) (fun c59 => ?_) (fun c59 => ?_)
    · refine zz_goto C 42 dX11_findWay_204 (by decide) <| zpc 42 rfl <| ?_
      refine kont _ _ _ _ _ _ _ hf hd ?_
      rcases hv with ⟨h1, h2, h3⟩ | h1
      · exact Or.inl ⟨h1, h2, fun j hj ho => h3 j (by omega) ho⟩
      · exact Or.inr h1
    · exact absurd (nI_le (by omega) (by omega)) c59
  | succ m ih =>
    intro k f d v x6 x7 x8 hk hf hd hv
    have hm0 := mNet_sc f g a c hn hm
    have hr := hm0.2.1
    have ht := hm0.2.2.1
    have hkn : k < n := by omega
    have hfk := hm0.2.2.2 k hkn
    have f0 := hfk.1 0 (by omega)
    have f1 := hfk.1 1 (by omega)
    have fw := hfk.2
    have bb := hN.2.2.2.2 k hkn
    have e8 : nI (nMi F w k) + nI tl * nI (w k) = nI (nCo tl F w k) := by rw [pk_mul, nI_add]; rfl
    refine zz_iload_5 C dX11_findWay_53 <| zz_aload_0 C dX11_findWay_55 <| zz_getI C fX11_204 (tM_K hT) dX11_findWay_56 <| zpc 59 rfl <| ?_
    rw [hr]
    refine zz_icmp_ge C 204 dX11_findWay_59 (by decide) (fun c59 => ?_) (fun c59 => ?_)
    · exact absurd c59 (nI_ge (by omega) (by omega))
    · refine zz_aload_0 C dX11_findWay_62 <| zz_iload_5 C dX11_findWay_63 <| zz_iload_3 C dX11_findWay_65 <| zpc 66 rfl <| ?_
      refine zf_callVI C hR [_, _] (c_isOpen hT hN hm0 _ _ hkn hs) lX11_207 rfl (tM_K hT) (by decide) rfl ⟨zle rfl, zle rfl, zle rfl, zle rfl⟩ (zle rfl) dX11_findWay_66 ?_
      refine zz_if_ne C 75 dX11_findWay_69 (by decide) (fun c69 => ?_) (fun c69 => ?_)
      · refine zz_aload_0 C dX11_findWay_75 <| zz_getR C fX11_34 (tM_K hT) (tM_R_road hT) dX11_findWay_76 <| zz_iload_5 C dX11_findWay_79 <| zc_row C _ (tM_K_road hT) (tM_row_road hT) (znI (by omega)) (by omega) dX11_findWay_81 <| fun r81 => ?_
        refine zz_iconst_0 C dX11_findWay_82 <| zc_iaload C 0 (tM_KR_road hT _ r81) (zlit _ (by decide)) (by decide) dX11_findWay_83 <| zpc 84 rfl <| ?_
        rw [f0]
        refine zz_istore_6 C (zle rfl) rfl dX11_findWay_84 <| zz_aload_0 C dX11_findWay_86 <| zz_getR C fX11_34 (tM_K hT) (tM_R_road hT) dX11_findWay_87 <| zz_iload_5 C dX11_findWay_90 <| zc_row C _ (tM_K_road hT) (tM_row_road hT) (znI (by omega)) (by omega) dX11_findWay_92 <| fun r92 => ?_
        refine zz_iconst_1 C dX11_findWay_93 <| zc_iaload C 1 (tM_KR_road hT _ r92) (zlit _ (by decide)) (by decide) dX11_findWay_94 <| zpc 95 rfl <| ?_
        rw [f1]
        refine zz_istore_7 C (zle rfl) rfl dX11_findWay_95 <| zz_aload_0 C dX11_findWay_97 <| zz_iload_5 C dX11_findWay_98 <| zpc 100 rfl <| ?_
        refine zf_callVI C hR [_] (c_minutesOf hT hN hm0 _ hkn) lX11_211 rfl (tM_K hT) (by decide) rfl ⟨zle rfl, zle rfl, zle rfl, zle rfl⟩ (zle rfl) dX11_findWay_100 ?_
        refine zz_aload_0 C dX11_findWay_103 <| zz_getI C fX11_214 (tM_K hT) dX11_findWay_104 <| zz_aload_0 C dX11_findWay_107 <| zz_getR C fX11_61 (tM_K hT) (tM_R_w hT) dX11_findWay_108 <| zz_iload_5 C dX11_findWay_111 <| zc_iaload C _ (tM_K_w hT) (znI (by omega)) (by omega) dX11_findWay_113 <| zz_imul C dX11_findWay_114 <| zz_iadd C dX11_findWay_115 <| zpc 116 rfl <| ?_
        rw [ht, fw, e8]
        refine zz_istore_8 C (zle rfl) rfl dX11_findWay_116 <| zpc 118 rfl <| ?_
        rw [zb_ne0] at c69
        have hE := nEnds (s := s) hN
        obtain ⟨e1, e2, e3, e4, e5⟩ := hE k hkn c69
        have b0 : d (F k 0) ≤ 1000000000 := hd.2.1 _ e1
        have b1 : d (F k 1) ≤ 1000000000 := hd.2.1 _ e2
        dsimp only at e1 e2 e3
        have r0 : zI (mSc h f g a c) 236 (F k 0) = nI (d (F k 0)) := by rw [zI_mSc]; simpa using hf _ e1
        have r1 : zI (mSc h f g a c) 236 (F k 1) = nI (d (F k 1)) := by rw [zI_mSc]; simpa using hf _ e2
        refine zz_aload_0 C dX11_findWay_118 <| zz_getR C fX11_82 (tM_K hT) (tM_R_least hT) dX11_findWay_119 <| zz_iload_6 C dX11_findWay_122 <| zc_iaload C _ (tM_K_least hT) (znI (by omega)) (by omega) dX11_findWay_124 <| zpc 125 rfl <| ?_
        rw [r0]
        refine zz_iload_8 C dX11_findWay_125 <| zz_iadd C dX11_findWay_127 <| zpc 128 rfl <| ?_
        rw [nI_add]
        refine zz_aload_0 C dX11_findWay_128 <| zz_getR C fX11_82 (tM_K hT) (tM_R_least hT) dX11_findWay_129 <| zz_iload_7 C dX11_findWay_132 <| zc_iaload C _ (tM_K_least hT) (znI (by omega)) (by omega) dX11_findWay_134 <| zpc 135 rfl <| ?_
        rw [r1]
        refine zz_icmp_ge C 158 dX11_findWay_135 (by decide) (fun c135 => ?_) (fun c135 => ?_)
        · rw [nI_leI (by omega) (by omega)] at c135
          first
            | (refine l_way2b hT hN hm C hkn c69 hf hd (d0 := d0) ?_ ?_
               · rcases hv with ⟨h1, h2, h3⟩ | h1
                 · exact Or.inl ⟨h1, h2, c135⟩
                 · exact Or.inr h1
               · intro f' d' v' y6 y7 y8 q1 q2 q3
                 refine ih (k + 1) f' d' v' y6 y7 y8 (by omega) q1 q2 ?_
                 rcases q3 with ⟨z1, z0, z2, z3⟩ | z1
                 · rcases hv with ⟨h1, h2, h3⟩ | h1
                   · refine Or.inl ⟨z1, z2, fun j hj ho => ?_⟩
                     by_cases hjk : j = k
                     · rw [hjk]; exact z3
                     · have := h3 j (by omega) ho
                       rw [z2, ← h2]; exact this
                   · rw [h1.1] at z0; exact absurd z0 (by decide)
                 · exact Or.inr z1)
            | (have hlt : d (F k 0) + nCo tl F w k < d (F k 1) := by omega
               refine l_way2b hT hN hm C hkn c69 (mRep_up hf _ _) (dTight_up hE hd hkn c69 (Or.inl ⟨rfl, rfl⟩) hlt) (d0 := d0) (Or.inr ⟨rfl, ?_⟩) ?_
               · have := dSum_up hlt P e2
                 rcases hv with ⟨h1, h2, h3⟩ | h1
                 · rw [← h2]; exact this
                 · omega
               · intro f' d' v' y6 y7 y8 q1 q2 q3
                 refine ih (k + 1) f' d' v' y6 y7 y8 (by omega) q1 q2 ?_
                 rcases q3 with ⟨z1, z0, z2, z3⟩ | z1
                 · exact absurd z0 (by decide)
                 · exact Or.inr z1)
        · refine zz_aload_0 C dX11_findWay_138 <| zz_getR C fX11_82 (tM_K hT) (tM_R_least hT) dX11_findWay_139 <| zz_iload_7 C dX11_findWay_142 <| zz_aload_0 C dX11_findWay_144 <| zz_getR C fX11_82 (tM_K hT) (tM_R_least hT) dX11_findWay_145 <| zz_iload_6 C dX11_findWay_148 <| zc_iaload C _ (tM_K_least hT) (znI (by omega)) (by omega) dX11_findWay_150 <| zpc 151 rfl <| ?_
          rw [r0]
          refine zz_iload_8 C dX11_findWay_151 <| zz_iadd C dX11_findWay_153 <| zpc 154 rfl <| ?_
          rw [nI_add]
          refine zc_iastore C _ (tM_K_least hT) (znI (by omega)) (by omega) dX11_findWay_154 <| zpc 155 rfl <| ?_
          rw [mSc_least]
          refine zz_iconst_1 C dX11_findWay_155 <| zz_istore_4 C (zle rfl) rfl dX11_findWay_156 <| zpc 158 rfl <| ?_
          rw [nI_leI (by omega) (by omega)] at c135
          first
            | (refine l_way2b hT hN hm C hkn c69 hf hd (d0 := d0) ?_ ?_
               · rcases hv with ⟨h1, h2, h3⟩ | h1
                 · exact Or.inl ⟨h1, h2, c135⟩
                 · exact Or.inr h1
               · intro f' d' v' y6 y7 y8 q1 q2 q3
                 refine ih (k + 1) f' d' v' y6 y7 y8 (by omega) q1 q2 ?_
                 rcases q3 with ⟨z1, z0, z2, z3⟩ | z1
                 · rcases hv with ⟨h1, h2, h3⟩ | h1
                   · refine Or.inl ⟨z1, z2, fun j hj ho => ?_⟩
                     by_cases hjk : j = k
                     · rw [hjk]; exact z3
                     · have := h3 j (by omega) ho
                       rw [z2, ← h2]; exact this
                   · rw [h1.1] at z0; exact absurd z0 (by decide)
                 · exact Or.inr z1)
            | (have hlt : d (F k 0) + nCo tl F w k < d (F k 1) := by omega
               refine l_way2b hT hN hm C hkn c69 (mRep_up hf _ _) (dTight_up hE hd hkn c69 (Or.inl ⟨rfl, rfl⟩) hlt) (d0 := d0) (Or.inr ⟨rfl, ?_⟩) ?_
               · have := dSum_up hlt P e2
                 rcases hv with ⟨h1, h2, h3⟩ | h1
                 · rw [← h2]; exact this
                 · omega
               · intro f' d' v' y6 y7 y8 q1 q2 q3
                 refine ih (k + 1) f' d' v' y6 y7 y8 (by omega) q1 q2 ?_
                 rcases q3 with ⟨z1, z0, z2, z3⟩ | z1
                 · exact absurd z0 (by decide)
                 · exact Or.inr z1)
      · refine zz_goto C 198 dX11_findWay_72 (by decide) <| zz_iinc_5 C _ (zle rfl) rfl dX11_findWay_198 nI_s <| zz_goto C 53 dX11_findWay_201 (by decide) <| zpc 53 rfl <| ?_
        rw [zb_eq0] at c69
        refine ih (k + 1) f d v _ _ _ (by omega) hf hd ?_
        rcases hv with ⟨h1, h2, h3⟩ | h1
        · refine Or.inl ⟨h1, h2, fun j hj ho => ?_⟩
          by_cases hjk : j = k
          · rw [hjk] at ho; exact absurd ho c69
          · exact h3 j (by omega) ho
        · exact Or.inr h1
/-- turns until nothing is known better -/
theorem l_way3 (hT : zTM t) (hN : nOk P n tl F w) (hm : mNet h P n tl F w) (C : zCx E b G RX11 cX11_findWay 9 (some .boolean)) (hR : zRoom G 2 0 0) (hs : s < 2 ^ 31)
    (kont : ∀ (f : Nat → Int32) (d : Nat → Nat) (x4 x5 x6 x7 x8 : Option Value), mRep P f d → dTight P n (nOp s F w) (fun k => F k 0) (fun k => F k 1) (nCo tl F w) to mFar d → dFix n (nOp s F w) (fun k => F k 0) (fun k => F k 1) (nCo tl F w) mFar d → zAW E b G 9 0 0 207 [some (.ref (b + 157)), some (.int (nI fr)), some (.int (nI to)), some (.int (nI s)), x4, x5, x6, x7, x8] [] t (mSc h f g a c)) :
    ∀ (m : Nat) (f : Nat → Int32) (d : Nat → Nat) (v : Int32) (x5 x6 x7 x8 : Option Value), mRep P f d → dTight P n (nOp s F w) (fun k => F k 0) (fun k => F k 1) (nCo tl F w) to mFar d → ((v = 0 ∧ dFix n (nOp s F w) (fun k => F k 0) (fun k => F k 1) (nCo tl F w) mFar d) ∨ (v = 1 ∧ dSum d P < m)) → zAW E b G 9 0 0 42 [some (.ref (b + 157)), some (.int (nI fr)), some (.int (nI to)), some (.int (nI s)), some (.int v), x5, x6, x7, x8] [] t (mSc h f g a c) := by
  intro m
  induction m with
  | zero =>
    intro f d v x5 x6 x7 x8 hf hd hv
    rcases hv with ⟨rfl, hv⟩ | ⟨-, hv⟩
    ·
      refine zz_iload_4 C dX11_findWay_42 <| zpc 44 rfl <| ?_
      refine zz_if_eq C 207 dX11_findWay_44 (by decide) (fun c44 => ?_) (fun c44 => ?_)
      · exact kont _ _ _ _ _ _ _ hf hd hv
      · exact absurd rfl c44
    · omega
  | succ m ih =>
    intro f d v x5 x6 x7 x8 hf hd hv
    rcases hv with ⟨rfl, hv⟩ | ⟨rfl, hv⟩
    ·
      refine zz_iload_4 C dX11_findWay_42 <| zpc 44 rfl <| ?_
      refine zz_if_eq C 207 dX11_findWay_44 (by decide) (fun c44 => ?_) (fun c44 => ?_)
      · exact kont _ _ _ _ _ _ _ hf hd hv
      · exact absurd rfl c44
    ·
      refine zz_iload_4 C dX11_findWay_42 <| zpc 44 rfl <| ?_
      refine zz_if_eq C 207 dX11_findWay_44 (by decide) (fun c44 => ?_) (fun c44 => ?_)
      · exact absurd c44 (by decide)
      · refine zz_iconst_0 C dX11_findWay_47 <| zz_istore_4 C (zle rfl) rfl dX11_findWay_48 <| zz_iconst_0 C dX11_findWay_50 <| zz_istore_5 C (zle rfl) rfl dX11_findWay_51 <| zpc 53 rfl <| ?_
        refine l_way2 hT hN hm C hR hs (d0 := d) ?_ n 0 f d 0 _ _ _ (by omega) hf hd (Or.inl ⟨rfl, rfl, fun j hj => absurd hj (by omega)⟩)
        intro f' d' v' y5 y6 y7 y8 q1 q2 q3
        refine ih f' d' v' y5 y6 y7 y8 q1 q2 ?_
        rcases q3 with ⟨z1, z2, z3⟩ | ⟨z1, z2⟩
        · exact Or.inl ⟨z1, z3⟩
        · exact Or.inr ⟨z1, by omega⟩
end MW
