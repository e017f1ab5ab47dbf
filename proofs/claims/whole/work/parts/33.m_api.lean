/-! ===== the reference: a walk stays; calls ===== -/
/-- all that a call may write that neither feeds nor reads nor moves images -/
def sc4 (i k : Nat) : Prop := sc3 i k ∨ i = 226 ∨ i = 227 ∨ (i = 157 ∧ (k = 19 ∨ k = 0 ∨ k = 38))
def zAg4 (h h' : zH) : Prop := (∀ i k, ¬ sc4 i k → zI h' i k = zI h i k) ∧ ∀ i k, ¬ sl3 i k → zL h' i k = zL h i k
theorem zAg4.rf (h : zH) : zAg4 h h := ⟨fun _ _ _ => rfl, fun _ _ _ => rfl⟩
theorem zAg4.tr {h h1 h2 : zH} (a : zAg4 h h1) (c : zAg4 h1 h2) : zAg4 h h2 := ⟨fun i k q => (c.1 i k q).trans (a.1 i k q), fun i k q => (c.2 i k q).trans (a.2 i k q)⟩
theorem zAg4.of3 {h h' : zH} (a : zAg3 h h') : zAg4 h h' := ⟨fun i k q => a.1 i k (fun z => q (Or.inl z)), a.2⟩
theorem zAg4.sI {h h' : zH} (a : zAg4 h h') {i k : Nat} {v : Int32} (hs : sc4 i k) : zAg4 h (zsI h' i k v) := ⟨fun j q hn => by
  rw [zI_sI, if_neg (fun z => hn (by rw [z.1, z.2]; exact hs))]
  exact a.1 j q hn, a.2⟩
theorem zAg4.th (h : zH) (v : Int32) : zAg4 h (zsI h 157 0 v) := (zAg4.rf h).sI (by unfold sc4; omega)
theorem mRo.ag4 {h h' : zH} {R : Nat × (Nat → Nat)} (a : zAg4 h h') (hm : mRo h R) : mRo h' R := by
  refine ⟨?_, fun k hk => ?_⟩
  · rw [a.1 _ _ (by unfold sc4 sc3 sc2 sc1; omega)]; exact hm.1
  · rw [a.1 _ _ (by unfold sc4 sc3 sc2 sc1; omega)]; exact hm.2 k hk
theorem zAg3.th {h h' : zH} (a : zAg3 h h') {v : Int32} (e : zI h 157 0 = v) : zI h' 157 0 = v := by
  rw [a.1 _ _ (by unfold sc3 sc2 sc1; omega)]; exact e
theorem mSd.ex {h h' : zH} {D D' : yD} {p : yP} (hD : sdOk D p) (q : ∀ i k, ¬ sc4 i k → zI h' i k = zI h i k) (hm : mSd h D p) (hh : p.2.1.1 ≠ none → zI h' 157 38 = zI h 157 38) (e1 : D'.1 = D.1) (e2 : D'.2.1 = D.2.1) (e3 : ∀ k, k < D.2.1.1.1 → zI h' 226 k = nI (D'.2.2.1.1 k) ∧ zI h' 227 k = nI (D'.2.2.1.2 k)) (e4 : zI h' 157 19 = nI D'.2.2.2) : mSd h' D' p := by
  obtain ⟨⟨l1, l2, l3, l4, l5⟩, ⟨p1, p2, p3, p4, p5, p6, p7⟩, t1, t5, tl, rd, -⟩ := hm
  have hn := hD.1.1.2.2.1
  have hg := hD.1.2.1.2.2.1
  have q : ∀ i k, ¬ sc4 i k → ∀ v, zI h i k = v → zI h' i k = v := fun i k hn v e => (q i k hn).trans e
  unfold mSd
  rw [e1, e2]
  refine ⟨⟨q _ _ ?_ _ l1, q _ _ ?_ _ l2, q _ _ ?_ _ l3, fun g hg i hi => q _ _ ?_ _ (l4 g hg i hi), fun k hk => q _ _ ?_ _ (l5 k hk)⟩, ⟨q _ _ ?_ _ p1, q _ _ ?_ _ p2, fun z => (hh z).trans (p3 z), q _ _ ?_ _ p4, q _ _ ?_ _ p5, q _ _ ?_ _ p6, q _ _ ?_ _ p7⟩, q _ _ ?_ _ t1, q _ _ ?_ _ t5, q _ _ ?_ _ tl, fun k hk => ⟨fun i hi => q _ _ ?_ _ ((rd k hk).1 i hi), e3 k hk⟩, e4⟩ <;> (unfold sc4 sc3 sc2 sc1; omega)
theorem mSd.th {h : zH} {D : yD} {p : yP} (hD : sdOk D p) (hm : mSd h D p) (v : Int32) : mSd (zsI h 157 0 v) D p := by
  refine hm.ex hD (zAg4.th h v).1 (fun _ => by rw [zI_sI, if_neg (by omega)]) rfl rfl (fun k hk => ?_) ?_
  · rw [zI_sI, if_neg (by omega), zI_sI, if_neg (by omega)]; exact (hm.2.2.2.2.2.1 k hk).2
  · rw [zI_sI, if_neg (by omega)]; exact hm.2.2.2.2.2.2
section MST
variable {E : zE} {b : Nat} {G : zG} {t : zT} {h : zH} {D : yD} {p : yP} {n : Nat} {x : yS} {R : Nat × (Nat → Nat)}
theorem l_stands (hT : zTM t) (hn : n ≤ 11) (C : zCx E b G RX11 cX11_stands 2 none) (hr : zI h 160 1 = nI n)
    (kont : ∀ (hc : zH) (x1 : Option Value), (∀ i k, ¬ (i = 226 ∨ i = 227) → zI hc i k = zI h i k) → (∀ i k, zL hc i k = zL h i k) → (∀ k, k < n → zI hc 226 k = zI h 233 k ∧ zI hc 227 k = zI h 234 k) → zAW E b G 2 0 0 50 [some (.ref (b + 157)), x1] [] t hc) :
    ∀ (m k : Nat) (hc : zH), k + m = n → (∀ i j, ¬ (i = 226 ∨ i = 227) → zI hc i j = zI h i j) → (∀ i k, zL hc i k = zL h i k) → (∀ j, j < k → zI hc 226 j = zI h 233 j ∧ zI hc 227 j = zI h 234 j) → zAW E b G 2 0 0 10 [some (.ref (b + 157)), some (.int (nI k))] [] t hc := by
  intro m
  induction m with
  | zero =>
    intro k hc hk e1 e2 e3
    have hr2 : zI hc 160 1 = nI n := by rw [e1 _ _ (by omega)]; exact hr
    refine zz_iload_1 C dX11_stands_10 <| zz_aload_0 C dX11_stands_11 <| zz_getR C fX11_20 (tM_K hT) (tM_R_told hT) dX11_stands_12 <| zz_iconst_1 C dX11_stands_15 <| zc_iaload C 1 (tM_K_told hT) (zlit _ (by decide)) (by decide) dX11_stands_16 <| zpc 17 rfl <| ?_
    rw [hr2]
    refine zz_icmp_ge C 50 dX11_stands_17 (by decide) (fun c17 => ?_) (fun c17 => ?_)
    · exact kont hc _ e1 e2 (fun j hj => e3 j (by omega))
    · exact absurd (nI_le (by omega) (by omega)) c17
  | succ m ih =>
    intro k hc hk e1 e2 e3
    have hr2 : zI hc 160 1 = nI n := by rw [e1 _ _ (by omega)]; exact hr
    have a1 : zI hc 233 k = zI h 233 k := e1 _ _ (by omega)
    have a2 : ∀ v, zI (zsI hc 226 k v) 234 k = zI h 234 k := fun v => by rw [zI_sI, if_neg (by omega)]; exact e1 _ _ (by omega)
    refine zz_iload_1 C dX11_stands_10 <| zz_aload_0 C dX11_stands_11 <| zz_getR C fX11_20 (tM_K hT) (tM_R_told hT) dX11_stands_12 <| zz_iconst_1 C dX11_stands_15 <| zc_iaload C 1 (tM_K_told hT) (zlit _ (by decide)) (by decide) dX11_stands_16 <| zpc 17 rfl <| ?_
    rw [hr2]
    refine zz_icmp_ge C 50 dX11_stands_17 (by decide) (fun c17 => ?_) (fun c17 => ?_)
    · exact absurd c17 (nI_ge (by omega) (by omega))
    · refine zz_aload_0 C dX11_stands_20 <| zz_getR C fX11_49 (tM_K hT) (tM_R_wear hT) dX11_stands_21 <| zz_iload_1 C dX11_stands_24 <| zz_aload_0 C dX11_stands_25 <| zz_getR C fX11_61 (tM_K hT) (tM_R_w hT) dX11_stands_26 <| zz_iload_1 C dX11_stands_29 <| zc_iaload C _ (tM_K_w hT) (znI (by omega)) (by omega) dX11_stands_30 <| zpc 31 rfl <| ?_
      rw [a1]
      refine zc_iastore C _ (tM_K_wear hT) (znI (by omega)) (by omega) dX11_stands_31 <| zz_aload_0 C dX11_stands_32 <| zz_getR C fX11_52 (tM_K hT) (tM_R_rested hT) dX11_stands_33 <| zz_iload_1 C dX11_stands_36 <| zz_aload_0 C dX11_stands_37 <| zz_getR C fX11_64 (tM_K hT) (tM_R_r hT) dX11_stands_38 <| zz_iload_1 C dX11_stands_41 <| zc_iaload C _ (tM_K_r hT) (znI (by omega)) (by omega) dX11_stands_42 <| zpc 43 rfl <| ?_
      rw [a2]
      refine zc_iastore C _ (tM_K_rested hT) (znI (by omega)) (by omega) dX11_stands_43 <| zz_iinc_1 C _ (zle rfl) rfl dX11_stands_44 nI_s <| zz_goto C 10 dX11_stands_47 (by decide) <| zpc 10 rfl <| ?_
      refine ih (k + 1) _ (by omega) (fun i j hij => ?_) e2 (fun j hj => ?_)
      · rw [zI_sI, if_neg (by omega), zI_sI, if_neg (by omega)]; exact e1 i j hij
      · rw [zI_sI, if_neg (by omega), zI_sI, zI_sI]
        by_cases hjk : j = k
        · subst hjk
          rw [if_pos ⟨rfl, rfl⟩, if_pos ⟨rfl, rfl⟩]
          exact ⟨rfl, rfl⟩
        · rw [if_neg (by omega), if_neg (by omega), zI_sI, if_neg (by omega)]
          exact e3 j (by omega)
/-- a walk stays -/
theorem c_stands {l : Launch} {h0 : zH} (hT : zTM t) (hD : sdOk D p) (hm0 : mSd h0 D p) (a0 : zAg3 h0 h) (hm : mWk h D.1 D.2.1 p x) : zMet E b l yX11_stands cX11_stands 2 none 1 0 0 [.ref (b + 157)] t h (qV (fun t' h' => t' = t ∧ zAg4 h h' ∧ zI h' 157 0 = zI h 157 0 ∧ (∀ i k, zL h' i k = zL h i k) ∧ mSd h' (D.1, D.2.1, x.1, x.2.1.1) p)) := by
  have hsd := a0.sd hD hm0
  have hn := hD.1.1.2.2.1
  have t1 := hsd.2.2.1
  obtain ⟨hst, hr, -⟩ := hm
  refine zMet.of (ls := [some (.ref (b + 157)), none]) (by decide) (zle rfl) 1 rfl ?_
  intro G hlG C hR hE hin
  have s50 : ∀ (hc : zH) (x1 : Option Value), (∀ i k, ¬ (i = 226 ∨ i = 227) → zI hc i k = zI (zsI h 157 19 (nI x.2.1.1)) i k) → (∀ i k, zL hc i k = zL (zsI h 157 19 (nI x.2.1.1)) i k) → (∀ k, k < D.2.1.1.1 → zI hc 226 k = zI (zsI h 157 19 (nI x.2.1.1)) 233 k ∧ zI hc 227 k = zI (zsI h 157 19 (nI x.2.1.1)) 234 k) → zAW E b G 2 0 0 50 [some (.ref (b + 157)), x1] [] t hc := by
    intro hc x1 e1 e2 e3
    have ac : zAg4 h hc := ((zAg4.rf h).sI (i := 157) (k := 19) (v := nI x.2.1.1) (by unfold sc4; omega)).tr ⟨fun i k hn => e1 i k (fun z => hn (by unfold sc4; omega)), fun i k _ => e2 i k⟩
    refine zy_return C hE (zle rfl) (zle rfl) dX11_stands_50 ?_
    refine ⟨rfl, ac, ?_, e2, hsd.ex hD ac.1 (fun _ => by rw [e1 _ _ (by omega), zI_sI, if_neg (by omega)]) rfl rfl (fun k hk => ?_) ?_⟩
    · rw [e1 _ _ (by omega), zI_sI, if_neg (by omega)]
    · rw [(e3 k hk).1, (e3 k hk).2, zI_sI, if_neg (by omega), zI_sI, if_neg (by omega)]
      exact ⟨(hst.1.2.2.2 k hk).2, hr k hk⟩
    · rw [e1 _ _ (by omega), zI_self]
  refine zz_aload_0 C dX11_stands_0 <| zz_aload_0 C dX11_stands_1 <| zz_getI C fX11_230 (tM_K hT) dX11_stands_2 <| zpc 5 rfl <| ?_
  rw [hst.2.2.2.1]
  refine zy_putI C fX11_188 pX11_19 (tM_K hT) dX11_stands_5 <| zz_iconst_0 C dX11_stands_8 <| zz_istore_1 C (zle rfl) rfl dX11_stands_9 <| zpc 10 rfl <| ?_
  refine l_stands (h := zsI h 157 19 (nI x.2.1.1)) (n := D.2.1.1.1) hT hn C (by rw [zI_sI, if_neg (by omega)]; exact t1) s50 D.2.1.1.1 0 _ (by omega) (fun _ _ _ => rfl) (fun _ _ => rfl) (fun j hj => absurd hj (by omega))
end MST
