/-! ===== the reference: land ===== -/
def rD (r : yR) : yD := (((r.1.1, r.2.1.1, r.2.1.2.1), r.2.2.2.2.1, r.2.2.2.2.2), ((r.1.2.1, 0, r.2.1.2.2), r.2.2.1), ((fun _ => 0), fun _ => r.2.1.2.2), 0)
def rMo (r : yR) : Nat × (Nat → Nat → Nat) := (r.1.2.2, r.2.2.2.1)
theorem rD_ok {cn : Nat} {r : yR} (ok : rOk cn r) : dOk (rD r) (rMo r) (0, fun _ => 0) := by
  obtain ⟨⟨b1, b2, b3, b4⟩, ⟨b5, b6, b7, b8⟩, b9, b10, b11, b12, -⟩ := ok
  refine ⟨⟨⟨⟨b1, b2, by show r.1.2.1 ≤ 11; omega, by show 0 ≤ 20; omega, fun k hk => ?_⟩, ⟨b1, b2, b5, b6, b11, b12⟩, ⟨fun x z => (by cases z), fun x z => (by cases z), Nat.zero_le _, fun x z => (by cases z), fun x z => (by cases z)⟩⟩, b7, b8, fun k _ => Nat.le_refl _, by show 0 < 2 ^ 20; omega⟩, rfl, b3, ⟨Nat.zero_le _, fun k hk => absurd hk (Nat.not_lt_zero k)⟩, b4, fun k hk => b10 k hk⟩
  obtain ⟨g1, g2, g3, g4, g5, g6, g7, g8⟩ := b9 k hk
  exact ⟨g1, g2, g3, g4, g5, g6, g8, Nat.zero_le _⟩
abbrev sM3 (i j : Nat) : Prop := i = 157 ∧ (j = 0 ∨ j = 1 ∨ j = 2 ∨ j = 3)
def sLn (i j : Nat) : Prop := sC i j ∨ sM3 i j
def sLm (i j : Nat) : Prop := sLn i j ∨ (159 ≤ i ∧ i ≤ 211 + 14) ∨ i = 226 ∨ i = 227 ∨ (i = 157 ∧ (j = 19 ∨ j = 20 ∨ j = 21))
/-- how land came out -/
def mLnd (h : zH) (x : (Nat × Nat) ⊕ yR) (v : Int32) (h' : zH) : Prop := match x with
  | .inl f => v = nI f.1 - 10 ∧ 1 ≤ f.1 ∧ f.1 ≤ 4 ∧ (∀ i j, ¬ sLn i j → zI h' i j = zI h i j) ∧ (∀ i j, zL h' i j = zL h i j) ∧ zI h' 157 0 = 0 ∧ zI h' 157 1 = 0 ∧ zI h' 157 3 = nI f.2
  | .inr r => v = nI r.1.2.1 ∧ (∃ cn, rOk cn r) ∧ (∀ i j, ¬ sLm i j → zI h' i j = zI h i j) ∧ (∀ i j, zL h' i j = zL h i j) ∧ zI h' 157 0 = 0 ∧ zI h' 157 1 = 0 ∧ zI h' 157 3 = -1 ∧ mSd h' (rD r) yP0 ∧ mMo h' (rMo r) ∧ mRo h' (0, fun _ => 0) ∧ zI h' 157 21 = 0
/-- while the text is read -/
def mB (h : zH) (n : Nat) (hc : zH) : Prop := (∀ i j, ¬ sC i j → ¬ (i = 157 ∧ (j = 0 ∨ j = 1 ∨ j = 2)) → zI hc i j = zI h i j) ∧ (∀ i j, zL hc i j = zL h i j) ∧ zI hc 157 0 = 0 ∧ zI hc 157 1 = 0 ∧ zI hc 157 2 = nI n
theorem mB.agC {h hc h2 : zH} {n : Nat} (m : mB h n hc) (a : zAgC hc h2) : mB h n h2 := ⟨fun i j z y => (a.1 i j z).trans (m.1 i j z y), fun i j => (a.2 i j).trans (m.2.1 i j), (a.1 _ _ (by unfold sC; omega)).trans m.2.2.1, (a.1 _ _ (by unfold sC; omega)).trans m.2.2.2.1, (a.1 _ _ (by unfold sC; omega)).trans m.2.2.2.2⟩
section MLN
variable {E : zE} {b : Nat} {G : zG} {t : zT} {h : zH} {l : Launch} {B : Nat → Nat} {n : Nat} {D : yD}
theorem c_land1 (hT : zTM t) (hD : sdOk D yP0) (h0 : D.2.1.1.2.1 = 0) (hm : mSd h D yP0) {tp : Nat} (htp : tp ≤ 600) (etp : zI h 157 1 = nI tp) (hfed : ∀ i, i < tp → zI h 158 i = nI (B i) ∧ B i < 256) (n : Nat) (hn : n ≤ tp) : zMet E b l yX11_land cX11_land 4 (some .int) 7 0 0 [.ref (b + 157), .int (nI n)] t h (qI (fun v t' h' => t' = t ∧ mLnd h (rdT B n) v h')) := by
  have ht : txOk B n := ⟨by omega, fun i hi => (hfed i (by omega)).2⟩
  have o1 : (0 ≤ nI n ∧ nI n ≤ nI tp) := ⟨by rw [show (0 : Int32) = nI 0 from rfl, nI_leI (by omega) (by omega)]; omega, by rw [nI_leI (by omega) (by omega)]; exact hn⟩
  have e12 : zI (zsI h 157 0 0) 157 1 = nI tp := by rw [zI_sI, if_neg (by omega)]; exact etp
  have txB : ∀ {hc : zH}, mB h n hc → mTx hc B n := fun {hc} m => ⟨m.2.2.2.2, fun i hi => (m.1 _ _ (by unfold sC; omega) (by omega)).trans (hfed i (by omega)).1⟩
  refine zMet.of (ls := [some (.ref (b + 157)), some (.int (nI n)), none, none]) (by decide) (zle rfl) 2 rfl ?_
  intro G hlG C hR hE hin
  have s134f : ∀ (hc : zH) (f : Nat × Nat) (x2 x3 : Option Value), mB h n hc → mAt hc (.inl f) n → rdT B n = .inl f → zAW E b G 4 0 0 134 [some (.ref (b + 157)), some (.int (nI n)), x2, x3] [] t hc := by
    rintro hc f x2 x3 m ⟨m1, m2, m3, m4, -⟩ er
    have e1 : zI (zsI hc 157 3 (nI f.2)) 157 5 = nI f.1 := by rw [zI_sI, if_neg (by omega)]; exact m1
    refine zz_aload_0 C dX11_land_134 <| zz_aload_0 C dX11_land_135 <| zz_getI C fX11_123 (tM_K hT) dX11_land_136 <| zpc 139 rfl <| ?_
    rw [m4]
    refine zy_putI C fX11_9 pX11_3 (tM_K hT) dX11_land_139 <| zz_aload_0 C dX11_land_142 <| zz_getI C fX11_120 (tM_K hT) dX11_land_143 <| zpc 146 rfl <| ?_
    rw [e1]
    refine zz_if_eq C 157 dX11_land_146 (by decide) (fun c146 => ?_) (fun c146 => ?_)
    · exact absurd c146 (nI_ne0 (by omega) (by omega))
    · refine zz_aload_0 C dX11_land_149 <| zz_getI C fX11_120 (tM_K hT) dX11_land_150 <| zpc 153 rfl <| ?_
      rw [e1]
      refine zz_bipush C 10 dX11_land_153 (by decide) <| zz_isub C dX11_land_155 <| zpc 156 rfl <| ?_
      refine zy_ireturn C hE (zle rfl) (zle rfl) dX11_land_156 ?_
      refine ⟨rfl, ?_⟩
      rw [er]
      refine ⟨rfl, m2, m3, fun i j z => ?_, m.2.1, ?_, ?_, zI_self _ _ _ _⟩
      · rw [zI_sI, if_neg (fun y => z (Or.inr ⟨y.1, by omega⟩))]
        exact m.1 i j (fun y => z (Or.inl y)) (fun y => z (Or.inr ⟨y.1, by omega⟩))
      · rw [zI_sI, if_neg (by omega)]; exact m.2.2.1
      · rw [zI_sI, if_neg (by omega)]; exact m.2.2.2.1
  have s134k : ∀ (hc : zH) (k cn : Nat) (r : yR) (x2 x3 : Option Value), mB h n hc → mAt hc (.inr k) n → mRr hc r → rOk cn r → rdT B n = .inr r → zAW E b G 4 0 0 134 [some (.ref (b + 157)), some (.int (nI n)), x2, x3] [] t hc := by
    rintro hc k cn r x2 x3 m ⟨m1, m2, m3, m4⟩ hr ok er
    have e1 : zI (zsI hc 157 3 (-1)) 157 5 = 0 := by rw [zI_sI, if_neg (by omega)]; exact m1
    obtain ⟨⟨b1, b2, b3, b4⟩, ⟨b5, b6, b7, b8⟩, -⟩ := id ok
    have s397 : ∀ (h9 : zH) (y2 y3 : Option Value), (∀ i j, ¬ ((159 ≤ i ∧ i ≤ 211 + 14) ∨ i = 226 ∨ i = 227 ∨ (i = 157 ∧ (j = 3 ∨ j = 19))) → zI h9 i j = zI hc i j) → (∀ i j, zL h9 i j = zL hc i j) → zI h9 157 3 = -1 → zI h9 157 19 = 0 → (∀ k, k < 6 → zI h9 160 k = zI hc 159 k) → (∀ k, k < r.1.2.1 → ∀ i, i < 5 → zI h9 (174 + 1 + k) i = zI hc (163 + 1 + k) i) → (∀ k, k < r.1.2.2 → ∀ i, i < 5 → zI h9 (191 + 1 + k) i = zI hc (186 + 1 + k) i) → (∀ k, k < r.2.1.1 → ∀ i, i < 6 → zI h9 (211 + 1 + k) i = zI hc (196 + 1 + k) i) → (∀ k, k < r.2.1.2.1 → zI h9 162 k = zI hc 161 k) → (∀ k, k < r.1.2.1 → zI h9 226 k = 0 ∧ zI h9 227 k = nI r.2.1.2.2) → zAW E b G 4 0 0 397 [some (.ref (b + 157)), some (.int (nI n)), y2, y3] [] t h9 := by
      intro h9 y2 y3 q1 q2 q3 q4 q5 q6 q7 q8 q9 q10
      have et : ∀ k, zI (zsI (zsI h9 157 20 0) 157 21 0) 160 k = zI h9 160 k := fun k => by rw [zI_sI, if_neg (by omega), zI_sI, if_neg (by omega)]
      have ex : ∀ i j, ¬ (i = 157 ∧ (j = 20 ∨ j = 21)) → zI (zsI (zsI h9 157 20 0) 157 21 0) i j = zI h9 i j := fun i j z => by rw [zI_sI, if_neg (by omega), zI_sI, if_neg (by omega)]
      have eh : ∀ i j, ¬ sLm i j → zI (zsI (zsI h9 157 20 0) 157 21 0) i j = zI h i j := fun i j z => by
        rw [ex _ _ (fun y => z (by unfold sLm; omega)), q1 _ _ (fun y => z (by unfold sLm sLn; omega))]
        exact m.1 i j (fun y => z (Or.inl (Or.inl y))) (fun y => z (Or.inl (Or.inr ⟨y.1, by omega⟩)))
      have eM : ∀ j v, ¬ sLm 157 j → zI h 157 j = v → zI (zsI (zsI h9 157 20 0) 157 21 0) 157 j = v := fun j v z e => (eh _ _ z).trans e
      refine zz_aload_0 C dX11_land_397 <| zz_iconst_0 C dX11_land_398 <| zy_putI C fX11_191 pX11_20 (tM_K hT) dX11_land_399 <| zz_aload_0 C dX11_land_402 <| zz_iconst_0 C dX11_land_403 <| zy_putI C fX11_194 pX11_21 (tM_K hT) dX11_land_404 <| zz_aload_0 C dX11_land_407 <| zz_getR C fX11_20 (tM_K hT) (tM_R_told hT) dX11_land_408 <| zz_iconst_1 C dX11_land_411 <| zc_iaload C 1 (tM_K_told hT) (zlit _ (by decide)) (by decide) dX11_land_412 <| zpc 413 rfl <| ?_
      refine zy_ireturn C hE (zle rfl) (zle rfl) dX11_land_413 ?_
      refine ⟨rfl, ?_⟩
      rw [er]
      obtain ⟨-, ⟨p1, p2, p3, p4, p5, p6, p7⟩, -, -, tl, -⟩ := hm
      refine ⟨?_, ⟨cn, ok⟩, eh, fun i j => (q2 i j).trans (m.2.1 i j), ?_, ?_, ?_, ⟨⟨?_, ?_, ?_, ?_, ?_⟩, ⟨?_, ?_, fun z => absurd rfl z, ?_, ?_, ?_, ?_⟩, ?_, ?_, ?_, ?_, ?_⟩, ⟨?_, ?_⟩, ⟨?_, fun k hk => absurd hk (Nat.not_lt_zero k)⟩, zI_self _ _ _ _⟩
      · rw [et, q5 1 (by omega)]; exact hr.1.2.1
      · rw [ex _ _ (by omega), q1 _ _ (by omega)]; exact m.2.2.1
      · rw [ex _ _ (by omega), q1 _ _ (by omega)]; exact m.2.2.2.1
      · rw [ex _ _ (by omega)]; exact q3
      · rw [et, q5 0 (by omega)]; exact hr.1.1
      · rw [et, q5 3 (by omega)]; exact hr.1.2.2.2.1
      · rw [et, q5 4 (by omega)]; exact hr.1.2.2.2.2.1
      · intro g (hg : g < r.2.1.1) i hi
        rw [ex _ _ (by omega), q8 g hg i hi]; exact hr.2.2.2.1 g hg i hi
      · intro k (hk : k < r.2.1.2.1)
        rw [ex _ _ (by omega), q9 k hk]; exact hr.2.2.2.2 k hk
      · exact eM _ _ (by unfold sLm sLn sC; omega) p1
      · exact eM _ _ (by unfold sLm sLn sC; omega) p2
      · exact eM _ _ (by unfold sLm sLn sC; omega) p4
      · exact eM _ _ (by unfold sLm sLn sC; omega) p5
      · exact eM _ _ (by unfold sLm sLn sC; omega) p6
      · exact eM _ _ (by unfold sLm sLn sC; omega) p7
      · rw [et, q5 1 (by omega)]; exact hr.1.2.1
      · rw [et, q5 5 (by omega)]; exact hr.1.2.2.2.2.2
      · exact eM _ _ (by unfold sLm sLn sC; omega) (by rw [tl, h0]; rfl)
      · intro k (hk : k < r.1.2.1)
        refine ⟨fun i hi => ?_, ?_, ?_⟩
        · rw [ex _ _ (by omega), q6 k hk i hi]; exact hr.2.1 k hk i hi
        · rw [ex _ _ (by omega)]; exact (q10 k hk).1
        · rw [ex _ _ (by omega)]; exact (q10 k hk).2
      · rw [ex _ _ (by omega)]; exact q4
      · rw [et, q5 2 (by omega)]; exact hr.1.2.2.1
      · intro k (hk : k < r.1.2.2) i hi
        rw [ex _ _ (by omega), q7 k hk i hi]; exact hr.2.2.1 k hk i hi
      · rw [zI_sI, if_neg (by omega)]; exact zI_self _ _ _ _
    have s355 : ∀ (h9 : zH) (y2 y3 : Option Value), (∀ i j, ¬ ((159 ≤ i ∧ i ≤ 211 + 14) ∨ (i = 157 ∧ j = 3)) → zI h9 i j = zI hc i j) → (∀ i j, zL h9 i j = zL hc i j) → zI h9 157 3 = -1 → (∀ k, k < 6 → zI h9 160 k = zI hc 159 k) → (∀ k, k < r.1.2.1 → ∀ i, i < 5 → zI h9 (174 + 1 + k) i = zI hc (163 + 1 + k) i) → (∀ k, k < r.1.2.2 → ∀ i, i < 5 → zI h9 (191 + 1 + k) i = zI hc (186 + 1 + k) i) → (∀ k, k < r.2.1.1 → ∀ i, i < 6 → zI h9 (211 + 1 + k) i = zI hc (196 + 1 + k) i) → (∀ k, k < r.2.1.2.1 → zI h9 162 k = zI hc 161 k) → zAW E b G 4 0 0 355 [some (.ref (b + 157)), some (.int (nI n)), y2, y3] [] t h9 := by
      intro h9 y2 y3 q1 q2 q3 q5 q6 q7 q8 q9
      have ez : ∀ i j, ¬ (i = 157 ∧ j = 19) → zI (zsI h9 157 19 0) i j = zI h9 i j := fun i j z => by rw [zI_sI, if_neg z]
      refine zz_aload_0 C dX11_land_355 <| zz_iconst_0 C dX11_land_356 <| zy_putI C fX11_188 pX11_19 (tM_K hT) dX11_land_357 <| zz_iconst_0 C dX11_land_360 <| zz_istore_2 C (zle rfl) rfl dX11_land_361 <| zpc 362 rfl <| ?_
      refine l_cp362 hT C (nI n) r.1.2.1 b3 (by rw [ez _ _ (by omega), q5 1 (by omega)]; exact hr.1.2.1) (nI r.2.1.2.2) (by rw [ez _ _ (by omega), q5 5 (by omega)]; exact hr.1.2.2.2.2.2) (fun ha y2 y3 w1 w2 w3 => ?_) _
      refine s397 ha y2 y3 (fun i j z => ?_) (fun i j => (w2 i j).trans (q2 i j)) ?_ ?_ (fun k hk => ?_) (fun k hk i hi => ?_) (fun k hk i hi => ?_) (fun k hk i hi => ?_) (fun k hk => ?_) w3
      · rw [w1 _ _ (by omega), ez _ _ (by omega)]; exact q1 _ _ (by omega)
      · rw [w1 _ _ (by omega), ez _ _ (by omega)]; exact q3
      · rw [w1 _ _ (by omega)]; exact zI_self _ _ _ _
      · rw [w1 _ _ (by omega), ez _ _ (by omega)]; exact q5 k hk
      · rw [w1 _ _ (by omega), ez _ _ (by omega)]; exact q6 k hk i hi
      · rw [w1 _ _ (by omega), ez _ _ (by omega)]; exact q7 k hk i hi
      · rw [w1 _ _ (by omega), ez _ _ (by omega)]; exact q8 k hk i hi
      · rw [w1 _ _ (by omega), ez _ _ (by omega)]; exact q9 k hk
    have s183 : ∀ (h9 : zH) (y2 y3 : Option Value), (∀ i j, ¬ (i = 160 ∨ (i = 157 ∧ j = 3)) → zI h9 i j = zI hc i j) → (∀ i j, zL h9 i j = zL hc i j) → zI h9 157 3 = -1 → (∀ k, k < 6 → zI h9 160 k = zI hc 159 k) → zAW E b G 4 0 0 183 [some (.ref (b + 157)), some (.int (nI n)), y2, y3] [] t h9 := by
      intro h9 y2 y3 q1 q2 q3 q5
      have t1 : zI h9 160 1 = nI r.1.2.1 := (q5 1 (by omega)).trans hr.1.2.1
      have t2 : zI h9 160 2 = nI r.1.2.2 := (q5 2 (by omega)).trans hr.1.2.2.1
      have t3 : zI h9 160 3 = nI r.2.1.1 := (q5 3 (by omega)).trans hr.1.2.2.2.1
      have t4 : zI h9 160 4 = nI r.2.1.2.1 := (q5 4 (by omega)).trans hr.1.2.2.2.2.1
      have s325 : ∀ (ha : zH) (z2 z3 : Option Value), (∀ i j, ¬ ((174 < i ∧ i ≤ 174 + 10) ∨ (191 < i ∧ i ≤ 191 + 4) ∨ (211 < i ∧ i ≤ 211 + 14)) → zI ha i j = zI h9 i j) → (∀ i j, zL ha i j = zL h9 i j) → (∀ k, k < r.1.2.1 → ∀ i, i < 5 → zI ha (174 + 1 + k) i = zI h9 (163 + 1 + k) i) → (∀ k, k < r.1.2.2 → ∀ i, i < 5 → zI ha (191 + 1 + k) i = zI h9 (186 + 1 + k) i) → (∀ k, k < r.2.1.1 → ∀ i, i < 6 → zI ha (211 + 1 + k) i = zI h9 (196 + 1 + k) i) → zAW E b G 4 0 0 325 [some (.ref (b + 157)), some (.int (nI n)), z2, z3] [] t ha := by
        intro ha z2 z3 w1 w2 w6 w7 w8
        refine zz_iconst_0 C dX11_land_325 <| zz_istore_2 C (zle rfl) rfl dX11_land_326 <| zpc 327 rfl <| ?_
        refine l_cp327 hT C (nI n) r.2.1.2.1 b6 ((w1 _ _ (by omega)).trans t4) (fun hb y2 y3 v1 v2 v3 => ?_) _
        refine s355 hb y2 y3 (fun i j z => ?_) (fun i j => (v2 i j).trans ((w2 i j).trans (q2 i j))) ?_ (fun k hk => ?_) (fun k hk i hi => ?_) (fun k hk i hi => ?_) (fun k hk i hi => ?_) (fun k hk => ?_)
        · rw [v1 _ _ (by omega), w1 _ _ (by omega)]; exact q1 _ _ (by omega)
        · rw [v1 _ _ (by omega), w1 _ _ (by omega)]; exact q3
        · rw [v1 _ _ (by omega), w1 _ _ (by omega)]; exact q5 k hk
        · rw [v1 _ _ (by omega), w6 k hk i hi]; exact q1 _ _ (by omega)
        · rw [v1 _ _ (by omega), w7 k hk i hi]; exact q1 _ _ (by omega)
        · rw [v1 _ _ (by omega), w8 k hk i hi]; exact q1 _ _ (by omega)
        · rw [v3 k hk, w1 _ _ (by omega)]; exact q1 _ _ (by omega)
      have s277 : ∀ (ha : zH) (z2 z3 : Option Value), (∀ i j, ¬ ((174 < i ∧ i ≤ 174 + 10) ∨ (191 < i ∧ i ≤ 191 + 4)) → zI ha i j = zI h9 i j) → (∀ i j, zL ha i j = zL h9 i j) → (∀ k, k < r.1.2.1 → ∀ i, i < 5 → zI ha (174 + 1 + k) i = zI h9 (163 + 1 + k) i) → (∀ k, k < r.1.2.2 → ∀ i, i < 5 → zI ha (191 + 1 + k) i = zI h9 (186 + 1 + k) i) → zAW E b G 4 0 0 277 [some (.ref (b + 157)), some (.int (nI n)), z2, z3] [] t ha := by
        intro ha z2 z3 w1 w2 w6 w7
        refine zz_iconst_0 C dX11_land_277 <| zz_istore_2 C (zle rfl) rfl dX11_land_278 <| zpc 279 rfl <| ?_
        refine l_cp279 hT C (nI n) r.2.1.1 b5 ((w1 _ _ (by omega)).trans t3) (fun hb y2 y3 v1 v2 v3 => ?_) _
        refine s325 hb y2 y3 (fun i j z => ?_) (fun i j => (v2 i j).trans (w2 i j)) (fun k hk i hi => ?_) (fun k hk i hi => ?_) (fun k hk i hi => ?_)
        · rw [v1 _ _ (by omega)]; exact w1 _ _ (by omega)
        · rw [v1 _ _ (by omega)]; exact w6 k hk i hi
        · rw [v1 _ _ (by omega)]; exact w7 k hk i hi
        · rw [v3 k hk i hi]; exact w1 _ _ (by omega)
      have s230 : ∀ (ha : zH) (z2 z3 : Option Value), (∀ i j, ¬ (174 < i ∧ i ≤ 174 + 10) → zI ha i j = zI h9 i j) → (∀ i j, zL ha i j = zL h9 i j) → (∀ k, k < r.1.2.1 → ∀ i, i < 5 → zI ha (174 + 1 + k) i = zI h9 (163 + 1 + k) i) → zAW E b G 4 0 0 230 [some (.ref (b + 157)), some (.int (nI n)), z2, z3] [] t ha := by
        intro ha z2 z3 w1 w2 w6
        refine zz_iconst_0 C dX11_land_230 <| zz_istore_2 C (zle rfl) rfl dX11_land_231 <| zpc 232 rfl <| ?_
        refine l_cp232 hT C (nI n) r.1.2.2 b4 ((w1 _ _ (by omega)).trans t2) (fun hb y2 y3 v1 v2 v3 => ?_) _
        refine s277 hb y2 y3 (fun i j z => ?_) (fun i j => (v2 i j).trans (w2 i j)) (fun k hk i hi => ?_) (fun k hk i hi => ?_)
        · rw [v1 _ _ (by omega)]; exact w1 _ _ (by omega)
        · rw [v1 _ _ (by omega)]; exact w6 k hk i hi
        · rw [v3 k hk i hi]; exact w1 _ _ (by omega)
      refine zz_iconst_0 C dX11_land_183 <| zz_istore_2 C (zle rfl) rfl dX11_land_184 <| zpc 185 rfl <| ?_
      exact l_cp185 hT C (nI n) r.1.2.1 b3 t1 (fun hb y2 y3 v1 v2 v3 => s230 hb y2 y3 v1 v2 v3) _
    refine zz_aload_0 C dX11_land_134 <| zz_aload_0 C dX11_land_135 <| zz_getI C fX11_123 (tM_K hT) dX11_land_136 <| zpc 139 rfl <| ?_
    rw [m4]
    refine zy_putI C fX11_9 pX11_3 (tM_K hT) dX11_land_139 <| zz_aload_0 C dX11_land_142 <| zz_getI C fX11_120 (tM_K hT) dX11_land_143 <| zpc 146 rfl <| ?_
    rw [e1]
    refine zz_if_eq C 157 dX11_land_146 (by decide) (fun c146 => ?_) (fun c146 => ?_)
    · refine zz_iconst_0 C dX11_land_157 <| zz_istore_2 C (zle rfl) rfl dX11_land_158 <| zpc 159 rfl <| ?_
      refine l_cp159 hT C (nI n) (fun hb y2 y3 v1 v2 v3 => ?_) _
      refine s183 hb y2 y3 (fun i j z => ?_) v2 ?_ (fun k hk => ?_)
      · rw [v1 _ _ (by omega), zI_sI, if_neg (by omega)]
      · rw [v1 _ _ (by omega)]; exact zI_self _ _ _ _
      · rw [v3 k hk, zI_sI, if_neg (by omega)]
    · exact absurd rfl c146
  have s105 : ∀ cn, cn ≤ 60 → ∀ (hc : zH) (s : Nat) (r : yR) (x2 x3 : Option Value), mB h n hc → mAt hc (.inr s) n → sc (isBl B) n s = s → zI hc 157 7 = nI cn → mRr hc r → rOk cn r → rdT B n = rdL B n (61 - cn) s cn r → zAW E b G 4 0 0 105 [some (.ref (b + 157)), some (.int (nI n)), x2, x3] [] t hc := by
    refine zLoop 60 fun cn hcn ih hc s r x2 x3 m at1 es ec hr ok er => ?_
    have at0 := at1
    obtain ⟨m1, m2, m3, m4⟩ := at1
    have er2 : rdT B n = if s < n then (match clR B n s cn r with | .inl e => .inl e | .inr x => rdL B n (60 - cn) x.1 (cn + 1) x.2) else .inr r := by
      rw [er, show 61 - cn = (60 - cn) + 1 by omega]
      show (if sc (isBl B) n s < n then (match clR B n (sc (isBl B) n s) cn r with | .inl e => (.inl e : (Nat × Nat) ⊕ yR) | .inr x => rdL B n (60 - cn) x.1 (cn + 1) x.2) else .inr r) = _
      rw [es]
    have s127 : s < n → ∀ h1, zAgC hc h1 → mRes h1 n cn (clR B n s cn r) → zAW E b G 4 0 0 127 [some (.ref (b + 157)), some (.int (nI n)), x2, x3] [] t h1 := by
      intro hsn h1 a1 res
      have mm := m.agC a1
      rw [if_pos hsn] at er2
      cases e9 : clR B n s cn r with
      | inl f =>
        rw [e9] at res er2
        obtain ⟨g1, g2, g3, g4, k', g5, g6⟩ := id res
        refine zz_aload_0 C dX11_land_127 <| zpc 128 rfl <| ?_
        refine zy_callVV C hR [] (c_blanks hT ht (txB mm) k' g5 g6) lX11_126 rfl (tM_K hT) (by decide) rfl ⟨zle rfl, zle rfl, zle rfl, zle rfl⟩ (zle rfl) dX11_land_128 ?_
        intro t2 h2 hv; obtain ⟨rfl, mv⟩ := hv
        refine zz_goto C 105 dX11_land_131 (by decide) <| zz_aload_0 C dX11_land_105 <| zz_getI C fX11_120 (tM_K hT) dX11_land_106 <| zpc 109 rfl <| ?_
        refine zz_if_ne C 134 dX11_land_109 (by decide) (fun c109 => ?_) (fun c109 => ?_)
        · exact s134f h2 f _ _ (mm.agC (.ofR mv.ag)) ⟨(mv.2.1 _ _ (by omega)).trans g1, g2, g3, (mv.2.1 _ _ (by omega)).trans g4, _, sc_le g5, mv.1⟩ er2
        · exact absurd c109 (by rw [mv.2.1 157 5 (by omega), g1]; exact nI_ne0 (by omega) (by omega))
      | inr y =>
        rw [e9] at res er2
        obtain ⟨g0, g1, g2⟩ := res
        obtain ⟨w1, w2, w3, w4⟩ := id g0
        have ok2 := clR_ok ok e9
        refine zz_aload_0 C dX11_land_127 <| zpc 128 rfl <| ?_
        refine zy_callVV C hR [] (c_blanks hT ht (txB mm) y.1 w3 w2) lX11_126 rfl (tM_K hT) (by decide) rfl ⟨zle rfl, zle rfl, zle rfl, zle rfl⟩ (zle rfl) dX11_land_128 ?_
        intro t2 h2 hv; obtain ⟨rfl, mv⟩ := hv
        refine zz_goto C 105 dX11_land_131 (by decide) <| zpc 105 rfl <| ?_
        refine ih ok2.2 h2 (sc (isBl B) n y.1) y.2 _ _ (mm.agC (.ofR mv.ag)) ⟨(mv.2.1 _ _ (by omega)).trans w1, mv.1, sc_le w3, (mv.2.1 _ _ (by omega)).trans w4⟩ (sc_sc _ _ _) ((mv.2.1 _ _ (by omega)).trans g1) (g2.eq ok2.1 (fun i j z => mv.2.1 _ _ (by omega))) ok2.1 ?_
        rw [er2, show 61 - (cn + 1) = 60 - cn by omega]
        cases e8 : 60 - cn with
        | zero => exact absurd ok2.2 (by omega)
        | succ f =>
          show (if sc (isBl B) n y.1 < n then (match clR B n (sc (isBl B) n y.1) (cn + 1) y.2 with | .inl e => (.inl e : (Nat × Nat) ⊕ yR) | .inr x => rdL B n f x.1 (cn + 1 + 1) x.2) else .inr y.2) = (if sc (isBl B) n (sc (isBl B) n y.1) < n then (match clR B n (sc (isBl B) n (sc (isBl B) n y.1)) (cn + 1) y.2 with | .inl e => (.inl e : (Nat × Nat) ⊕ yR) | .inr x => rdL B n f x.1 (cn + 1 + 1) x.2) else .inr y.2)
          rw [sc_sc]
    refine zz_aload_0 C dX11_land_105 <| zz_getI C fX11_120 (tM_K hT) dX11_land_106 <| zpc 109 rfl <| ?_
    refine zz_if_ne C 134 dX11_land_109 (by decide) (fun c109 => ?_) (fun c109 => ?_)
    · exact absurd m1 c109
    · refine zz_aload_0 C dX11_land_112 <| zz_getI C fX11_113 (tM_K hT) dX11_land_113 <| zpc 116 rfl <| ?_
      rw [m2]
      refine zz_aload_0 C dX11_land_116 <| zz_getI C fX11_110 (tM_K hT) dX11_land_117 <| zpc 120 rfl <| ?_
      rw [m.2.2.2.2]
      refine zz_icmp_ge C 134 dX11_land_120 (by decide) (fun c120 => ?_) (fun c120 => ?_)
      · rw [nI_leI (by omega) (by omega)] at c120
        exact s134k hc s cn r _ _ m at0 hr ok (by rw [er2, if_neg (by omega)])
      · rw [nI_leI (by omega) (by omega)] at c120
        refine zz_aload_0 C dX11_land_123 <| zpc 124 rfl <| ?_
        refine zy_callVV C hR [] (c_clause hT ht (txB m) s cn r at0 es ec hcn hr ok) lX11_185 rfl (tM_K hT) (by decide) rfl ⟨zle rfl, zle rfl, zle rfl, zle rfl⟩ (zle rfl) dX11_land_124 ?_
        intro t1 h1 hv; obtain ⟨rfl, a1, res⟩ := hv
        exact s127 (by omega) h1 a1 res
  have s101 : ∀ (hc : zH) (x2 x3 : Option Value), mB h n hc → zI hc 157 4 = 0 → zI hc 157 5 = 0 → zI hc 157 6 = -1 → zI hc 157 7 = 0 → mRr hc r0 → zAW E b G 4 0 0 101 [some (.ref (b + 157)), some (.int (nI n)), x2, x3] [] t hc := by
    intro hc x2 x3 m a1 a2 a3 a4 hr
    refine zz_aload_0 C dX11_land_101 <| zpc 102 rfl <| ?_
    refine zy_callVV C hR [] (c_blanks hT ht (txB m) 0 (by omega) a1) lX11_126 rfl (tM_K hT) (by decide) rfl ⟨zle rfl, zle rfl, zle rfl, zle rfl⟩ (zle rfl) dX11_land_102 ?_
    intro t2 h2 hv; obtain ⟨rfl, mv⟩ := hv
    refine s105 0 (by omega) h2 (sc (isBl B) n 0) r0 _ _ (m.agC (.ofR mv.ag)) ⟨(mv.2.1 _ _ (by omega)).trans a2, mv.1, sc_le (by omega), (mv.2.1 _ _ (by omega)).trans a3⟩ (sc_sc _ _ _) ((mv.2.1 _ _ (by omega)).trans a4) (hr.eq rOk_0 (fun i j z => mv.2.1 _ _ (by omega))) rOk_0 ?_
    show (if sc (isBl B) n 0 < n then (match clR B n (sc (isBl B) n 0) 0 r0 with | .inl e => (.inl e : (Nat × Nat) ⊕ yR) | .inr x => rdL B n 60 x.1 (0 + 1) x.2) else .inr r0) = (if sc (isBl B) n (sc (isBl B) n 0) < n then (match clR B n (sc (isBl B) n (sc (isBl B) n 0)) 0 r0 with | .inl e => (.inl e : (Nat × Nat) ⊕ yR) | .inr x => rdL B n 60 x.1 (0 + 1) x.2) else .inr r0)
    rw [sc_sc]
  have s64 : ∀ k, k ≤ 6 → ∀ (hc : zH), mB h n hc → zI hc 157 4 = 0 → zI hc 157 5 = 0 → zI hc 157 6 = -1 → zI hc 157 7 = 0 → (∀ i, i < k → zI hc 159 i = nI (if i = 0 then 4 else if i = 5 then 9 else 0)) → zAW E b G 4 0 0 64 [some (.ref (b + 157)), some (.int (nI n)), some (.int (nI k)), none] [] t hc := by
    refine zLoop 6 fun k hk ih hc m a1 a2 a3 a4 a5 => ?_
    have nx : k < 6 → ∀ v : Int32, v = nI (if k = 0 then 4 else if k = 5 then 9 else 0) → zAW E b G 4 0 0 64 [some (.ref (b + 157)), some (.int (nI n)), some (.int (nI ((k + 1)))), none] [] t (zsI hc 159 k v) := fun z v ev => by
      have q : ∀ j v', zI hc 157 j = v' → zI (zsI hc 159 k v) 157 j = v' := fun j v' e => by rw [zI_sI, if_neg (by omega)]; exact e
      refine ih z _ ⟨fun i j y w => ?_, m.2.1, q _ _ m.2.2.1, q _ _ m.2.2.2.1, q _ _ m.2.2.2.2⟩ (q _ _ a1) (q _ _ a2) (q _ _ a3) (q _ _ a4) (fun i hi => ?_)
      · rw [zI_sI, if_neg (fun x => y (by unfold sC; omega))]; exact m.1 i j y w
      · rw [zI_sI]
        by_cases y : i = k
        · rw [if_pos ⟨rfl, y⟩, ev, y]
        · rw [if_neg (by omega)]; exact a5 i (by omega)
    refine zz_iload_2 C dX11_land_64 <| zz_bipush C 6 dX11_land_65 (by decide) <| zpc 67 rfl <| ?_
    refine zz_icmp_ge C 101 dX11_land_67 (by decide) (fun c67 => ?_) (fun c67 => ?_)
    · rw [show (6 : Int32) = nI 6 from rfl, nI_leI (by omega) (by omega)] at c67
      exact s101 hc _ _ m a1 a2 a3 a4 ⟨⟨a5 0 (by omega), a5 1 (by omega), a5 2 (by omega), a5 3 (by omega), a5 4 (by omega), a5 5 (by omega)⟩, fun k hk => absurd hk (Nat.not_lt_zero k), fun k hk => absurd hk (Nat.not_lt_zero k), fun k hk => absurd hk (Nat.not_lt_zero k), fun k hk => absurd hk (Nat.not_lt_zero k)⟩
    · rw [show (6 : Int32) = nI 6 from rfl, nI_leI (by omega) (by omega)] at c67
      refine zz_aload_0 C dX11_land_70 <| zz_getR C fX11_17 (tM_K hT) (tM_R_readTold hT) dX11_land_71 <| zz_iload_2 C dX11_land_74 <| zz_iload_2 C dX11_land_75 <| zpc 76 rfl <| ?_
      refine zz_if_ne C 83 dX11_land_76 (by decide) (fun c76 => ?_) (fun c76 => ?_)
      · rw [show (0 : Int32) = nI 0 from rfl, nI_eq (by omega) (by omega)] at c76
        refine zz_iload_2 C dX11_land_83 <| zz_iconst_5 C dX11_land_84 <| zpc 85 rfl <| ?_
        refine zz_icmp_ne C 93 dX11_land_85 (by decide) (fun c85 => ?_) (fun c85 => ?_)
        · rw [show (5 : Int32) = nI 5 from rfl, nI_eq (by omega) (by omega)] at c85
          refine zz_iconst_0 C dX11_land_93 <| zc_iastore C _ (tM_K_readTold hT) (znI (by omega)) (by omega) dX11_land_94 <| zz_iinc_2 C _ (zle rfl) rfl dX11_land_95 nI_s <| zz_goto C 64 dX11_land_98 (by decide) <| zpc 64 rfl <| ?_
          first
          | exact nx (by omega) _ (by rw [if_pos c76]; rfl)
          | exact nx (by omega) _ (by rw [if_neg c76, if_pos c85]; rfl)
          | exact nx (by omega) _ (by rw [if_neg c76, if_neg c85]; rfl)
        · rw [show (5 : Int32) = nI 5 from rfl, nI_eq (by omega) (by omega)] at c85
          refine zz_bipush C 9 dX11_land_88 (by decide) <| zz_goto C 94 dX11_land_90 (by decide) <| zc_iastore C _ (tM_K_readTold hT) (znI (by omega)) (by omega) dX11_land_94 <| zz_iinc_2 C _ (zle rfl) rfl dX11_land_95 nI_s <| zz_goto C 64 dX11_land_98 (by decide) <| zpc 64 rfl <| ?_
          first
          | exact nx (by omega) _ (by rw [if_pos c76]; rfl)
          | exact nx (by omega) _ (by rw [if_neg c76, if_pos c85]; rfl)
          | exact nx (by omega) _ (by rw [if_neg c76, if_neg c85]; rfl)
      · rw [show (0 : Int32) = nI 0 from rfl, nI_eq (by omega) (by omega)] at c76
        refine zz_iconst_4 C dX11_land_79 <| zz_goto C 94 dX11_land_80 (by decide) <| zc_iastore C _ (tM_K_readTold hT) (znI (by omega)) (by omega) dX11_land_94 <| zz_iinc_2 C _ (zle rfl) rfl dX11_land_95 nI_s <| zz_goto C 64 dX11_land_98 (by decide) <| zpc 64 rfl <| ?_
        first
        | exact nx (by omega) _ (by rw [if_pos c76]; rfl)
        | exact nx (by omega) _ (by rw [if_neg c76, if_pos c85]; rfl)
        | exact nx (by omega) _ (by rw [if_neg c76, if_neg c85]; rfl)
  refine zz_aload_0 C dX11_land_0 <| zz_iconst_0 C dX11_land_1 <| zy_putI C fX11_104 pX11_0 (tM_K hT) dX11_land_2 <| zz_aload_0 C dX11_land_5 <| zz_iload_1 C dX11_land_6 <| zz_iconst_0 C dX11_land_7 <| zz_aload_0 C dX11_land_8 <| zz_getI C fX11_107 (tM_K hT) dX11_land_9 <| zpc 12 rfl <| ?_
  rw [e12]
  refine zf_callSI C hR [_, _, _] (c_in _ _ _) lX11_138 rfl ⟨zle rfl, zle rfl, zle rfl, zle rfl⟩ (zle rfl) dX11_land_12 ?_
  refine zz_if_ne C 22 dX11_land_15 (by decide) (fun c15 => ?_) (fun c15 => ?_)
  · refine zz_iconst_0 C dX11_land_22 <| zz_iconst_1 C dX11_land_23 <| zpc 24 rfl <| ?_
    refine zf_callVI C hR [_, _] (c_bad0 hT _ (by decide) (by first | exact zI_self _ _ _ _ | assumption)) lX11_181 rfl (tM_K hT) (by decide) rfl ⟨zle rfl, zle rfl, zle rfl, zle rfl⟩ (zle rfl) dX11_land_24 ?_
    refine zz_if_eq C 32 dX11_land_27 (by decide) (fun c27 => ?_) (fun c27 => ?_)
    · refine zz_aload_0 C dX11_land_32 <| zz_iconst_0 C dX11_land_33 <| zy_putI C fX11_107 pX11_1 (tM_K hT) dX11_land_34 <| zz_aload_0 C dX11_land_37 <| zz_iload_1 C dX11_land_38 <| zy_putI C fX11_110 pX11_2 (tM_K hT) dX11_land_39 <| zz_aload_0 C dX11_land_42 <| zz_iconst_0 C dX11_land_43 <| zy_putI C fX11_113 pX11_4 (tM_K hT) dX11_land_44 <| zz_aload_0 C dX11_land_47 <| zz_iconst_0 C dX11_land_48 <| zy_putI C fX11_120 pX11_5 (tM_K hT) dX11_land_49 <| zz_aload_0 C dX11_land_52 <| zz_iconst_m1 C dX11_land_53 <| ?_
      refine zy_putI C fX11_123 pX11_6 (tM_K hT) dX11_land_54 <| zz_aload_0 C dX11_land_57 <| zz_iconst_0 C dX11_land_58 <| zy_putI C fX11_157 pX11_7 (tM_K hT) dX11_land_59 <| zz_iconst_0 C dX11_land_62 <| zz_istore_2 C (zle rfl) rfl dX11_land_63 <| zpc 64 rfl <| ?_
      refine s64 0 (by omega) _ ⟨fun i j y w => ?_, fun _ _ => rfl, rfl, rfl, rfl⟩ rfl rfl rfl rfl (fun i hi => absurd hi (by omega))
      have y1 : ¬ (i = 157 ∧ (j = 4 ∨ j = 5 ∨ j = 6 ∨ j = 7)) := fun z => y (by unfold sC; omega)
      rw [zI_sI, if_neg (by omega), zI_sI, if_neg (by omega), zI_sI, if_neg (by omega), zI_sI, if_neg (by omega), zI_sI, if_neg (by omega), zI_sI, if_neg (by omega), zI_sI, if_neg (by omega)]
    · exact absurd rfl c27
  · rw [zb_eq0] at c15; exact absurd o1 c15
theorem c_land0 (hT : zTM t) (hD : sdOk D yP0) (hm : mSd h D yP0) {tp : Nat} (htp : tp ≤ 600) (etp : zI h 157 1 = nI tp) (x : Int32) (hno : ¬ ∃ k, k ≤ tp ∧ x = nI k) : zMet E b l yX11_land cX11_land 4 (some .int) 7 0 0 [.ref (b + 157), .int x] t h (qI (fun v t' h' => v = 0 ∧ mCl h t D 1 t' h')) := by
  have e12 : zI (zsI h 157 0 0) 157 1 = nI tp := by rw [zI_sI, if_neg (by omega)]; exact etp
  refine zMet.of (ls := [some (.ref (b + 157)), some (.int x), none, none]) (by decide) (zle rfl) 2 rfl ?_
  intro G hlG C hR hE hin
  refine zz_aload_0 C dX11_land_0 <| zz_iconst_0 C dX11_land_1 <| zy_putI C fX11_104 pX11_0 (tM_K hT) dX11_land_2 <| zz_aload_0 C dX11_land_5 <| zz_iload_1 C dX11_land_6 <| zz_iconst_0 C dX11_land_7 <| zz_aload_0 C dX11_land_8 <| zz_getI C fX11_107 (tM_K hT) dX11_land_9 <| zpc 12 rfl <| ?_
  rw [e12]
  refine zf_callSI C hR [_, _, _] (c_in _ _ _) lX11_138 rfl ⟨zle rfl, zle rfl, zle rfl, zle rfl⟩ (zle rfl) dX11_land_12 ?_
  refine zz_if_ne C 22 dX11_land_15 (by decide) (fun c15 => ?_) (fun c15 => ?_)
  · rw [zb_ne0] at c15; exact absurd ((upTo (nI tp) tp rfl (by omega)).mp c15) hno
  · refine zz_iconst_1 C dX11_land_18 <| zz_goto C 23 dX11_land_19 (by decide) <| zz_iconst_1 C dX11_land_23 <| zpc 24 rfl <| ?_
    refine zf_callVI C hR [_, _] (c_bad1 hT _ (by decide) (by first | exact zI_self _ _ _ _ | assumption)) lX11_181 rfl (tM_K hT) (by decide) rfl ⟨zle rfl, zle rfl, zle rfl, zle rfl⟩ (zle rfl) dX11_land_24 ?_
    refine zz_if_eq C 32 dX11_land_27 (by decide) (fun c27 => ?_) (fun c27 => ?_)
    · exact absurd c27 (by decide)
    · refine zz_iconst_0 C dX11_land_30 <| zpc 31 rfl <| ?_
      refine zy_ireturn C hE (zle rfl) (zle rfl) dX11_land_31 ?_
      exact ⟨rfl, rfl, .of4 ((zAg4.th h 0).tr (zAg4.th _ 1)), zI_self _ _ _ _, (hm.th hD 0).th hD 1⟩
end MLN
