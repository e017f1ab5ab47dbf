/-! ===== the reference: the way from one place to another ===== -/
/-- its scratch: least minutes, the path, how long it is, its minutes -/
def mSc (h : zH) (f g : Nat → Int32) (a c : Int32) : zH := zsI (zsI (zrI (zrI h 236 f) 237 g) 157 50 a) 157 51 c
theorem zI_mSc (h : zH) (f g : Nat → Int32) (a c : Int32) (i k : Nat) : zI (mSc h f g a c) i k = if i = 157 ∧ k = 51 then c else if i = 157 ∧ k = 50 then a else if i = 237 then g k else if i = 236 then f k else zI h i k := by
  unfold mSc
  rw [zI_sI, zI_sI, zI_rI, zI_rI]
theorem zL_mSc (h : zH) (f g : Nat → Int32) (a c : Int32) (i k : Nat) : zL (mSc h f g a c) i k = zL h i k := rfl
theorem zH_ext {h h' : zH} (hI : ∀ i k, zI h i k = zI h' i k) (hL : ∀ i k, zL h i k = zL h' i k) : h = h' := Prod.ext (funext fun i => funext fun k => hI i k) (funext fun i => funext fun k => hL i k)
theorem mSc_self (h : zH) : mSc h (fun k => zI h 236 k) (fun k => zI h 237 k) (zI h 157 50) (zI h 157 51) = h := by
  refine zH_ext (fun i k => ?_) (fun i k => rfl)
  rw [zI_mSc]
  split
  · rename_i q; rw [q.1, q.2]
  · split
    · rename_i q; rw [q.1, q.2]
    · split
      · rename_i q; rw [q]
      · split
        · rename_i q; rw [q]
        · rfl
theorem mSc_least (h : zH) (f g : Nat → Int32) (a c : Int32) (k : Nat) (v : Int32) : zsI (mSc h f g a c) 236 k v = mSc h (upd f k v) g a c := by
  refine zH_ext (fun i j => ?_) (fun i k => rfl)
  simp only [zI_sI, zI_mSc, upd]
  grind
theorem mSc_path (h : zH) (f g : Nat → Int32) (a c : Int32) (k : Nat) (v : Int32) : zsI (mSc h f g a c) 237 k v = mSc h f (upd g k v) a c := by
  refine zH_ext (fun i j => ?_) (fun i k => rfl)
  simp only [zI_sI, zI_mSc, upd]
  grind
theorem mSc_long (h : zH) (f g : Nat → Int32) (a c v : Int32) : zsI (mSc h f g a c) 157 50 v = mSc h f g v c := by
  refine zH_ext (fun i j => ?_) (fun i k => rfl)
  simp only [zI_sI, zI_mSc]
  grind
theorem mSc_min (h : zH) (f g : Nat → Int32) (a c v : Int32) : zsI (mSc h f g a c) 157 51 v = mSc h f g a v := by
  refine zH_ext (fun i j => ?_) (fun i k => rfl)
  simp only [zI_sI, zI_mSc]
  grind
theorem mNet_sc {h : zH} {P n tl : Nat} {F : Nat → Nat → Nat} {w : Nat → Nat} (f g : Nat → Int32) (a c : Int32) (hn : n ≤ 11) (hm : mNet h P n tl F w) : mNet (mSc h f g a c) P n tl F w := by
  obtain ⟨h1, h2, h3, h4⟩ := hm
  refine ⟨?_, ?_, ?_, fun k hk => ⟨fun i hi => ?_, ?_⟩⟩
  · rw [zI_mSc]; simpa using h1
  · rw [zI_mSc]; simpa using h2
  · rw [zI_mSc]; simpa using h3
  · rw [zI_mSc, if_neg (by omega), if_neg (by omega), if_neg (by omega), if_neg (by omega)]
    exact (h4 k hk).1 i hi
  · rw [zI_mSc]; simpa using (h4 k hk).2
abbrev mFar : Nat := 1000000000
/-- at first: 0 at the end, far elsewhere -/
def mD0 (to p : Nat) : Nat := if p = to then 0 else mFar
section MW
variable {E : zE} {b : Nat} {G : zG} {t : zT} {h : zH} {P n tl s fr to : Nat} {F : Nat → Nat → Nat} {w : Nat → Nat} {g : Nat → Int32} {a c : Int32} {x5 x6 x7 x8 : Option Value}
theorem l_way1 (hT : zTM t) (hN : nOk P n tl F w) (hm : mNet h P n tl F w) (C : zCx E b G RX11 cX11_findWay 9 (some .boolean)) (hto : to < P)
    (kont : ∀ (f : Nat → Int32) (y : Option Value), (∀ q, q < P → f q = nI (mD0 to q)) → zAW E b G 9 0 0 39 [some (.ref (b + 157)), some (.int (nI fr)), some (.int (nI to)), some (.int (nI s)), y, x5, x6, x7, x8] [] t (mSc h f g a c)) :
    ∀ (m p : Nat) (f : Nat → Int32), p + m = P → (∀ q, q < p → f q = nI (mD0 to q)) → zAW E b G 9 0 0 3 [some (.ref (b + 157)), some (.int (nI fr)), some (.int (nI to)), some (.int (nI s)), some (.int (nI p)), x5, x6, x7, x8] [] t (mSc h f g a c) := by
  intro m
  induction m with
  | zero =>
    intro p f hp hf
    have hm2 := (mNet_sc f g a c hN.2.2.1 hm).1
    have hP := hN.2.1
    refine zz_iload_4 C dX11_findWay_3 <| zz_aload_0 C dX11_findWay_5 <| zz_getR C fX11_20 (tM_K hT) (tM_R_told hT) dX11_findWay_6 <| zz_iconst_0 C dX11_findWay_9 <| zc_iaload C 0 (tM_K_told hT) (zlit _ (by decide)) (by decide) dX11_findWay_10 <| zpc 11 rfl <| ?_
    rw [hm2]
    refine zz_icmp_ge C 39 dX11_findWay_11 (by decide) (fun c11 => ?_) (fun c11 => ?_)
    · exact kont f _ (fun q hq => hf q (by omega))
    · exact absurd (nI_le (by omega) (by omega)) c11
  | succ m ih =>
    intro p f hp hf
    have hm2 := (mNet_sc f g a c hN.2.2.1 hm).1
    have hP := hN.2.1
    refine zz_iload_4 C dX11_findWay_3 <| zz_aload_0 C dX11_findWay_5 <| zz_getR C fX11_20 (tM_K hT) (tM_R_told hT) dX11_findWay_6 <| zz_iconst_0 C dX11_findWay_9 <| zc_iaload C 0 (tM_K_told hT) (zlit _ (by decide)) (by decide) dX11_findWay_10 <| zpc 11 rfl <| ?_
    rw [hm2]
    refine zz_icmp_ge C 39 dX11_findWay_11 (by decide) (fun c11 => ?_) (fun c11 => ?_)
    · exact absurd c11 (nI_ge (by omega) (by omega))
    · refine zz_aload_0 C dX11_findWay_14 <| zz_getR C fX11_82 (tM_K hT) (tM_R_least hT) dX11_findWay_15 <| zz_iload_4 C dX11_findWay_18 <| zz_iload_4 C dX11_findWay_20 <| zz_iload_2 C dX11_findWay_22 <| zpc 23 rfl <| ?_
      refine zz_icmp_ne C 30 dX11_findWay_23 (by decide) (fun c23 => ?_) (fun c23 => ?_)
      · refine zz_ldc C dX11_findWay_30 kX11_203 <| zc_iastore C _ (tM_K_least hT) (znI (by omega)) (by omega) dX11_findWay_32 <| zpc 33 rfl <| ?_
        rw [mSc_least]
        refine zz_iinc_4 C _ (zle rfl) rfl dX11_findWay_33 nI_s <| zz_goto C 3 dX11_findWay_36 (by decide) <| zpc 3 rfl <| ?_
        refine ih (p + 1) _ (by omega) (fun q hq => ?_)
        rw [nI_eq (by omega) (by omega)] at c23
        unfold upd mD0
        by_cases hqp : q = p
        · subst hqp; simp [c23, nI]; try rfl
        · rw [if_neg hqp]; exact hf q (by omega)
      · refine zz_iconst_0 C dX11_findWay_26 <| zz_goto C 32 dX11_findWay_27 (by decide) <| zc_iastore C _ (tM_K_least hT) (znI (by omega)) (by omega) dX11_findWay_32 <| zpc 33 rfl <| ?_
        rw [mSc_least]
        refine zz_iinc_4 C _ (zle rfl) rfl dX11_findWay_33 nI_s <| zz_goto C 3 dX11_findWay_36 (by decide) <| zpc 3 rfl <| ?_
        refine ih (p + 1) _ (by omega) (fun q hq => ?_)
        rw [nI_eq (by omega) (by omega)] at c23
        unfold upd mD0
        by_cases hqp : q = p
        · subst hqp; simp [c23, nI]; try rfl
        · rw [if_neg hqp]; exact hf q (by omega)
end MW
