/-! ===== the reference as it stands between calls; a walk begins; a walk stays ===== -/
/-- a land that stands: land, roads, (wear, rested), the day -/
abbrev yD : Type := yL × yN × ((Nat → Nat) × (Nat → Nat)) × Nat
/-- where a walk begins -/
def x0 (D : yD) (sd : Int32) : yS := (D.2.2.1, (D.2.2.2, 0), (sd, (0, 0, 0), (0, 0, none), fun _ => 0))
def mSd (h : zH) (D : yD) (p : yP) : Prop := mLd h D.1 ∧ mPl h p ∧ zI h 160 1 = nI D.2.1.1.1 ∧ zI h 160 5 = nI D.2.1.1.2.2 ∧ zI h 157 39 = nI D.2.1.1.2.1 ∧ (∀ k, k < D.2.1.1.1 → (∀ i, i < 5 → zI h (174 + 1 + k) i = nI (D.2.1.2 k i)) ∧ zI h 226 k = nI (D.2.2.1.1 k) ∧ zI h 227 k = nI (D.2.2.1.2 k)) ∧ zI h 157 19 = nI D.2.2.2
def sdOk (D : yD) (p : yP) : Prop := sOk D.1 D.2.1 p D.2.2.1.1 ∧ 3 ≤ D.2.1.1.2.2 ∧ D.2.1.1.2.2 ≤ 11 ∧ (∀ k, k < D.2.1.1.1 → D.2.2.1.2 k ≤ D.2.1.1.2.2) ∧ D.2.2.2 < 2 ^ 20
theorem sdOk.w {D : yD} {p : yP} (hD : sdOk D p) (sd : Int32) : wOk D.1 D.2.1 p (x0 D sd) := ⟨hD.1, hD.2.1, hD.2.2.1, hD.2.2.2.1⟩
/-- scratch: what walks write -/
def sc3 (i k : Nat) : Prop := sc2 i k ∨ (240 ≤ i ∧ i ≤ 245 + 4) ∨ (i = 157 ∧ (k = 30 ∨ k = 31 ∨ k = 33 ∨ k = 55 ∨ k = 56 ∨ k = 57 ∨ k = 59))
def sl3 (i k : Nat) : Prop := (i = 157 ∧ (k = 43 ∨ k = 44 ∨ k = 58)) ∨ i = 238 ∨ i = 239
def zAg3 (h h' : zH) : Prop := (∀ i k, ¬ sc3 i k → zI h' i k = zI h i k) ∧ ∀ i k, ¬ sl3 i k → zL h' i k = zL h i k
theorem zAg3.rf (h : zH) : zAg3 h h := ⟨fun _ _ _ => rfl, fun _ _ _ => rfl⟩
theorem zAg3.tr {h h1 h2 : zH} (a : zAg3 h h1) (c : zAg3 h1 h2) : zAg3 h h2 := ⟨fun i k q => (c.1 i k q).trans (a.1 i k q), fun i k q => (c.2 i k q).trans (a.2 i k q)⟩
theorem zAg3.of2 {h h' : zH} (a : zAg2 h h') : zAg3 h h' := ⟨fun i k q => a.1 i k (fun z => q (Or.inl z)), fun i k q => a.2 i k (fun z => q (by unfold sl3; omega))⟩
theorem zAg3.sc (h : zH) (f g : Nat → Int32) (x y : Int32) : zAg3 h (mSc h f g x y) := .of2 (.of1 (.sc h f g x y))
theorem zAg3.sI {h h' : zH} (a : zAg3 h h') {i k : Nat} {v : Int32} (hs : sc3 i k) : zAg3 h (zsI h' i k v) := ⟨fun j q hn => by
  rw [zI_sI, if_neg (fun z => hn (by rw [z.1, z.2]; exact hs))]
  exact a.1 j q hn, a.2⟩
theorem zAg3.sL {h h' : zH} (a : zAg3 h h') {i k : Nat} {v : Int64} (hs : sl3 i k) : zAg3 h (zsL h' i k v) := ⟨a.1, fun j q hn => by
  rw [zL_sL, if_neg (fun z => hn (by rw [z.1, z.2]; exact hs))]
  exact a.2 j q hn⟩
theorem zAg3.sd {h h' : zH} {D : yD} {p : yP} (a : zAg3 h h') (hD : sdOk D p) (hm : mSd h D p) : mSd h' D p := by
  obtain ⟨⟨l1, l2, l3, l4, l5⟩, ⟨p1, p2, p3, p4, p5, p6, p7⟩, t1, t5, tl, rd, td⟩ := hm
  have hn := hD.1.1.2.2.1
  have hg := hD.1.2.1.2.2.1
  have q : ∀ i k, ¬ sc3 i k → ∀ v, zI h i k = v → zI h' i k = v := fun i k hn v e => (a.1 i k hn).trans e
  refine ⟨⟨q _ _ ?_ _ l1, q _ _ ?_ _ l2, q _ _ ?_ _ l3, fun g hg i hi => q _ _ ?_ _ (l4 g hg i hi), fun k hk => q _ _ ?_ _ (l5 k hk)⟩, ⟨q _ _ ?_ _ p1, q _ _ ?_ _ p2, fun z => q _ _ ?_ _ (p3 z), q _ _ ?_ _ p4, q _ _ ?_ _ p5, q _ _ ?_ _ p6, q _ _ ?_ _ p7⟩, q _ _ ?_ _ t1, q _ _ ?_ _ t5, q _ _ ?_ _ tl, fun k hk => ⟨fun i hi => q _ _ ?_ _ ((rd k hk).1 i hi), q _ _ ?_ _ (rd k hk).2.1, q _ _ ?_ _ (rd k hk).2.2⟩, q _ _ ?_ _ td⟩ <;> (unfold sc3 sc2 sc1; omega)
theorem mRo.ag3 {h h' : zH} {R : Nat × (Nat → Nat)} (a : zAg3 h h') (hm : mRo h R) : mRo h' R := by
  refine ⟨?_, fun k hk => ?_⟩
  · rw [a.1 _ _ (by unfold sc3 sc2 sc1; omega)]; exact hm.1
  · rw [a.1 _ _ (by unfold sc3 sc2 sc1; omega)]; exact hm.2 k hk
section MLY
variable {E : zE} {b : Nat} {G : zG} {t : zT} {h : zH} {D : yD} {p : yP} {n : Nat}
theorem l_lays (hT : zTM t) (hn : n ≤ 11) (C : zCx E b G RX11 cX11_lays 2 none) (hr : zI h 157 30 = nI n)
    (kont : ∀ (hc : zH) (x1 : Option Value), (∀ i k, ¬ (i = 233 ∨ i = 234) → zI hc i k = zI h i k) → (∀ i k, zL hc i k = zL h i k) → (∀ k, k < n → zI hc 233 k = zI h 226 k ∧ zI hc 234 k = zI h 227 k) → zAW E b G 2 0 0 101 [some (.ref (b + 157)), x1] [] t hc) :
    ∀ (m k : Nat) (hc : zH), k + m = n → (∀ i j, ¬ (i = 233 ∨ i = 234) → zI hc i j = zI h i j) → (∀ i k, zL hc i k = zL h i k) → (∀ j, j < k → zI hc 233 j = zI h 226 j ∧ zI hc 234 j = zI h 227 j) → zAW E b G 2 0 0 63 [some (.ref (b + 157)), some (.int (nI k))] [] t hc := by
  intro m
  induction m with
  | zero =>
    intro k hc hk e1 e2 e3
    have hr2 : zI hc 157 30 = nI n := by rw [e1 _ _ (by omega)]; exact hr
    refine zz_iload_1 C dX11_lays_63 <| zz_aload_0 C dX11_lays_64 <| zz_getI C fX11_204 (tM_K hT) dX11_lays_65 <| zpc 68 rfl <| ?_
    rw [hr2]
    refine zz_icmp_ge C 101 dX11_lays_68 (by decide) (fun c68 => ?_) (fun c68 => ?_)
    · exact kont hc _ e1 e2 (fun j hj => e3 j (by omega))
    · exact absurd (nI_le (by omega) (by omega)) c68
  | succ m ih =>
    intro k hc hk e1 e2 e3
    have hr2 : zI hc 157 30 = nI n := by rw [e1 _ _ (by omega)]; exact hr
    have a1 : zI hc 226 k = zI h 226 k := e1 _ _ (by omega)
    have a2 : ∀ v, zI (zsI hc 233 k v) 227 k = zI h 227 k := fun v => by rw [zI_sI, if_neg (by omega)]; exact e1 _ _ (by omega)
    refine zz_iload_1 C dX11_lays_63 <| zz_aload_0 C dX11_lays_64 <| zz_getI C fX11_204 (tM_K hT) dX11_lays_65 <| zpc 68 rfl <| ?_
    rw [hr2]
    refine zz_icmp_ge C 101 dX11_lays_68 (by decide) (fun c68 => ?_) (fun c68 => ?_)
    · exact absurd c68 (nI_ge (by omega) (by omega))
    · refine zz_aload_0 C dX11_lays_71 <| zz_getR C fX11_61 (tM_K hT) (tM_R_w hT) dX11_lays_72 <| zz_iload_1 C dX11_lays_75 <| zz_aload_0 C dX11_lays_76 <| zz_getR C fX11_49 (tM_K hT) (tM_R_wear hT) dX11_lays_77 <| zz_iload_1 C dX11_lays_80 <| zc_iaload C _ (tM_K_wear hT) (znI (by omega)) (by omega) dX11_lays_81 <| zpc 82 rfl <| ?_
      rw [a1]
      refine zc_iastore C _ (tM_K_w hT) (znI (by omega)) (by omega) dX11_lays_82 <| zz_aload_0 C dX11_lays_83 <| zz_getR C fX11_64 (tM_K hT) (tM_R_r hT) dX11_lays_84 <| zz_iload_1 C dX11_lays_87 <| zz_aload_0 C dX11_lays_88 <| zz_getR C fX11_52 (tM_K hT) (tM_R_rested hT) dX11_lays_89 <| zz_iload_1 C dX11_lays_92 <| zc_iaload C _ (tM_K_rested hT) (znI (by omega)) (by omega) dX11_lays_93 <| zpc 94 rfl <| ?_
      rw [a2]
      refine zc_iastore C _ (tM_K_r hT) (znI (by omega)) (by omega) dX11_lays_94 <| zz_iinc_1 C _ (zle rfl) rfl dX11_lays_95 nI_s <| zz_goto C 63 dX11_lays_98 (by decide) <| zpc 63 rfl <| ?_
      refine ih (k + 1) _ (by omega) (fun i j hij => ?_) e2 (fun j hj => ?_)
      · rw [zI_sI, if_neg (by omega), zI_sI, if_neg (by omega)]; exact e1 i j hij
      · rw [p_end1, p_end1]
        by_cases hjk : j = k
        · subst hjk
          rw [if_pos ⟨rfl, rfl⟩, if_neg (by omega), if_pos ⟨rfl, rfl⟩]
          exact ⟨rfl, rfl⟩
        · rw [if_neg (by omega), if_neg (by omega), if_neg (by omega), if_neg (by omega)]
          exact e3 j (by omega)
def mLay (h : zH) (n N td : Nat) : zH := zsI (zsI (zsL (zsL (zsI (zsI (zsI (zsI (zsI h 157 30 (nI n)) 157 31 (nI N)) 157 32 (nI td)) 157 33 (nI td)) 157 34 0) 157 43 0) 157 44 0) 157 45 0) 157 46 0
theorem zI_mLay (h : zH) (n N td i k : Nat) : zI (mLay h n N td) i k = if i = 157 ∧ k = 46 then 0 else if i = 157 ∧ k = 45 then 0 else if i = 157 ∧ k = 34 then 0 else if i = 157 ∧ k = 33 then nI td else if i = 157 ∧ k = 32 then nI td else if i = 157 ∧ k = 31 then nI N else if i = 157 ∧ k = 30 then nI n else zI h i k := by
  have e5 : ∀ (g : zH) (a c : Int64), zI (zsL (zsL g 157 43 a) 157 44 c) i k = zI g i k := fun _ _ _ => rfl
  unfold mLay
  rw [zI_sI, zI_sI, e5, zI_sI, zI_sI, zI_sI, zI_sI, zI_sI]
theorem zL_mLay (h : zH) (n N td i k : Nat) : zL (mLay h n N td) i k = if i = 157 ∧ k = 44 then 0 else if i = 157 ∧ k = 43 then 0 else zL h i k := by
  rw [← zL_sL h]
  exact zL_sL _ _ _ _ _ _
theorem zAg3.lay (h : zH) (n N td : Nat) : zAg3 h (mLay h n N td) := ⟨fun i k hn => by
  unfold sc3 sc2 at hn
  unfold sc1 at hn
  rw [zI_mLay, if_neg (by omega), if_neg (by omega), if_neg (by omega), if_neg (by omega), if_neg (by omega), if_neg (by omega), if_neg (by omega)], fun i k hn => by
  unfold sl3 at hn
  rw [zL_mLay, if_neg (by omega), if_neg (by omega)]⟩
theorem c_lays {l : Launch} (hT : zTM t) (hD : sdOk D p) (hm : mSd h D p) : zMet E b l yX11_lays cX11_lays 2 none 1 0 0 [.ref (b + 157)] t h (qV (fun t' h' => t' = t ∧ zAg3 h h' ∧ mWk h' D.1 D.2.1 p (x0 D (zI h 157 41)))) := by
  have hm2 := hm
  obtain ⟨hld, hpl, t1, t5, tl, rd, td⟩ := hm
  have hn := hD.1.1.2.2.1
  have hng := hD.1.2.1.2.2.1
  have htd := hD.2.2.2.2
  refine zMet.of (ls := [some (.ref (b + 157)), none]) (by decide) (zle rfl) 1 rfl ?_
  intro G hlG C hR hE hin
  have s101 : ∀ (hc : zH) (x1 : Option Value), (∀ i k, ¬ (i = 233 ∨ i = 234) → zI hc i k = zI (mLay h D.2.1.1.1 D.2.1.1.2.2 D.2.2.2) i k) → (∀ i k, zL hc i k = zL (mLay h D.2.1.1.1 D.2.1.1.2.2 D.2.2.2) i k) → (∀ k, k < D.2.1.1.1 → zI hc 233 k = zI (mLay h D.2.1.1.1 D.2.1.1.2.2 D.2.2.2) 226 k ∧ zI hc 234 k = zI (mLay h D.2.1.1.1 D.2.1.1.2.2 D.2.2.2) 227 k) → zAW E b G 2 0 0 101 [some (.ref (b + 157)), x1] [] t hc := by
    intro hc x1 e1 e2 e3
    have al := zAg3.lay h D.2.1.1.1 D.2.1.1.2.2 D.2.2.2
    have ac : zAg3 (mLay h D.2.1.1.1 D.2.1.1.2.2 D.2.2.2) hc := ⟨fun i k hn => e1 i k (fun z => hn (by unfold sc3 sc2; omega)), fun i k _ => e2 i k⟩
    have aa := al.tr ac
    obtain ⟨hld', hpl', t1', t5', tl', rd', td'⟩ := aa.sd hD hm2
    obtain ⟨-, -, -, -, -, rd2, -⟩ := al.sd hD hm2
    have fM : ∀ k v, zI (mLay h D.2.1.1.1 D.2.1.1.2.2 D.2.2.2) 157 k = v → zI hc 157 k = v := fun k v q => (e1 _ _ (by omega)).trans q
    refine zy_return C hE (zle rfl) (zle rfl) dX11_lays_101 ?_
    refine ⟨rfl, aa, ⟨⟨hld'.1, fM _ _ (by rw [zI_mLay]; simp), tl', fun k hk => ⟨(rd' k hk).1, ?_⟩⟩, hld', hpl', ⟨fM _ _ (by rw [zI_mLay]; simp; rfl), fM _ _ (by rw [zI_mLay]; simp; rfl), Nat.zero_le _, htd⟩⟩, fun k hk => ?_, fM _ _ (by rw [zI_mLay]; simp), fM _ _ (by rw [zI_mLay]; simp; rfl), ?_, ?_, fM _ _ (by rw [zI_mLay]; simp; rfl), fM _ _ (by rw [zI_mLay]; simp; rfl), fM _ _ (by rw [zI_mLay]; simp; rfl)⟩
    · rw [(e3 k hk).1]; exact (rd2 k hk).2.1
    · rw [(e3 k hk).2]; exact (rd2 k hk).2.2
    · rw [e2, zL_mLay]; simp; rfl
    · rw [e2, zL_mLay]; simp; rfl
  refine zz_aload_0 C dX11_lays_0 <| zz_aload_0 C dX11_lays_1 <| zz_getR C fX11_20 (tM_K hT) (tM_R_told hT) dX11_lays_2 <| zz_iconst_1 C dX11_lays_5 <| zc_iaload C 1 (tM_K_told hT) (zlit _ (by decide)) (by decide) dX11_lays_6 <| zpc 7 rfl <| ?_
  rw [t1]
  refine zy_putI C fX11_204 pX11_30 (tM_K hT) dX11_lays_7 <| zz_aload_0 C dX11_lays_10 <| zz_aload_0 C dX11_lays_11 <| zz_getR C fX11_20 (tM_K hT) (tM_R_told hT) dX11_lays_12 <| zz_iconst_5 C dX11_lays_15 <| zc_iaload C 5 (tM_K_told hT) (zlit _ (by decide)) (by decide) dX11_lays_16 <| zpc 17 rfl <| ?_
  first | rw [t5] | rw [zI_sI, if_neg (by omega), t5]
  refine zy_putI C fX11_227 pX11_31 (tM_K hT) dX11_lays_17 <| zz_aload_0 C dX11_lays_20 <| zz_aload_0 C dX11_lays_21 <| zz_getI C fX11_188 (tM_K hT) dX11_lays_22 <| zpc 25 rfl <| ?_
  rw [zI_sI, if_neg (by omega), zI_sI, if_neg (by omega), td]
  refine zy_putI C fX11_230 pX11_32 (tM_K hT) dX11_lays_25 <| zz_aload_0 C dX11_lays_28 <| zz_aload_0 C dX11_lays_29 <| zz_getI C fX11_188 (tM_K hT) dX11_lays_30 <| zpc 33 rfl <| ?_
  rw [zI_sI, if_neg (by omega), zI_sI, if_neg (by omega), zI_sI, if_neg (by omega), td]
  refine zy_putI C fX11_233 pX11_33 (tM_K hT) dX11_lays_33 <| zz_aload_0 C dX11_lays_36 <| zz_iconst_0 C dX11_lays_37 <| zy_putI C fX11_236 pX11_34 (tM_K hT) dX11_lays_38 <| zz_aload_0 C dX11_lays_41 <| zz_lconst_0 C dX11_lays_42 <| zy_putL C fX11_239 pX11_43 (tM_K hT) dX11_lays_43 <| zz_aload_0 C dX11_lays_46 <| zz_lconst_0 C dX11_lays_47 <| zy_putL C fX11_243 pX11_44 (tM_K hT) dX11_lays_48 <| zz_aload_0 C dX11_lays_51 <| zz_iconst_0 C dX11_lays_52 <| zy_putI C fX11_246 pX11_45 (tM_K hT) dX11_lays_53 <| zz_aload_0 C dX11_lays_56 <| ?_
  refine zz_iconst_0 C dX11_lays_57 <| zy_putI C fX11_249 pX11_46 (tM_K hT) dX11_lays_58 <| zz_iconst_0 C dX11_lays_61 <| zz_istore_1 C (zle rfl) rfl dX11_lays_62 <| zpc 63 rfl <| ?_
  refine l_lays (h := mLay h D.2.1.1.1 D.2.1.1.2.2 D.2.2.2) (n := D.2.1.1.1) hT hn C (by rw [zI_mLay]; simp) ?_ D.2.1.1.1 0 _ (by omega) (fun _ _ _ => rfl) (fun _ _ => rfl) (fun j hj => absurd hj (by omega))
  intro hc x1 e1 e2 e3
  exact s101 hc x1 e1 e2 e3
end MLY
