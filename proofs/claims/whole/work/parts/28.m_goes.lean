/-! ===== a way is always decided; loads stay small; a day of the reference ===== -/
theorem dEx {P n : Nat} {op : Nat → Prop} {A B c : Nat → Nat} {to far : Nat} (hE : dEnds P n op A B c) : ∀ (m : Nat) (d : Nat → Nat), dSum d P ≤ m → dTight P n op A B c to far d → ∃ d', dTight P n op A B c to far d' ∧ dFix n op A B c far d'
  | m, d, hm, hd => by
    by_cases hF : dFix n op A B c far d
    · exact ⟨d, hd, hF⟩
    · have : ∃ k, k < n ∧ op k ∧ (d (A k) + c k < d (B k) ∨ d (B k) + c k < d (A k)) := by
        refine Classical.byContradiction (fun hno => hF (fun k hk ho => ?_))
        refine ⟨Nat.not_lt.mp (fun q => hno ⟨k, hk, ho, Or.inl q⟩), Nat.not_lt.mp (fun q => hno ⟨k, hk, ho, Or.inr q⟩)⟩
      obtain ⟨k, hk, ho, hh⟩ := this
      obtain ⟨e1, e2, -⟩ := hE k hk ho
      rcases hh with hh | hh
      · have h1 := dSum_up hh P e2
        match m, hm with
        | 0, hm => omega
        | m + 1, hm => exact dEx hE m _ (by omega) (dTight_up hE hd hk ho (Or.inl ⟨rfl, rfl⟩) hh)
      · have h1 := dSum_up hh P e1
        match m, hm with
        | 0, hm => omega
        | m + 1, hm => exact dEx hE m _ (by omega) (dTight_up hE hd hk ho (Or.inr ⟨rfl, rfl⟩) hh)
theorem gEx {P n : Nat} {op : Nat → Prop} {A B c : Nat → Nat} {to far : Nat} {d : Nat → Nat} (hE : dEnds P n op A B c) (hF : dFix n op A B c far d) (hd : dTight P n op A B c to far d) : ∀ (x p : Nat), d p ≤ x → p < P → d p < far → ∃ l, gPath n op A B c d to l p := by
  intro x
  induction x with
  | zero =>
    intro p hx hp hf
    by_cases hpt : p = to
    · exact ⟨[], hpt⟩
    · obtain ⟨k, hk, he⟩ := gEdge_ex hF hd hp hpt hf
      obtain ⟨-, -, -, e4, -⟩ := hE k hk he.1
      have := he.2.2
      omega
  | succ x ih =>
    intro p hx hp hf
    by_cases hpt : p = to
    · exact ⟨[], hpt⟩
    · obtain ⟨k, hk, hmin⟩ := pk_least (fun k => k < n ∧ gEdge op A B c d p k) (gEdge_ex hF hd hp hpt hf)
      obtain ⟨-, -, -, e4, -⟩ := hE k hk.1 hk.2.1
      have h1 := hk.2.2.2
      obtain ⟨l, hl⟩ := ih (gOther A B k p) (by omega) (gOther_lt hE hk.1 hk.2.1) (by omega)
      exact ⟨k :: l, hpt, hk.1, hk.2, fun j hj he => hmin j hj ⟨by have := hk.1; omega, he⟩, hl⟩
theorem isWay_ex {P n : Nat} {op : Nat → Prop} {A B c : Nat → Nat} {fr to : Nat} (hE : dEnds P n op A B c) (hfr : fr < P) (hto : to < P) : ∃ o, isWay P n op A B c fr to o := by
  obtain ⟨d, hd, hF⟩ := dEx hE (far := mFar) _ (mD0 to) (Nat.le_refl _) (dTight_0 hto)
  by_cases hf : d fr < mFar
  · obtain ⟨l, hl⟩ := gEx hE hF hd _ fr (Nat.le_refl _) hfr hf
    exact ⟨some l, mFar, d, by decide, hF, hd, hf, hl⟩
  · exact ⟨none, mFar, d, by decide, hF, hd, Nat.not_lt.mp hf⟩
theorem nWay_is {P n tl s fr to : Nat} {F : Nat → Nat → Nat} {w : Nat → Nat} (hN : nOk P n tl F w) (hfr : fr < P) (hto : to < P) : isWay P n (nOp s F w) (fun k => F k 0) (fun k => F k 1) (nCo tl F w) fr to (nWay P n tl s F w fr to) :=
  Classical.epsilon_spec (p := fun o => isWay P n (nOp s F w) (fun k => F k 0) (fun k => F k 1) (nCo tl F w) fr to o) (isWay_ex (nEnds hN) hfr hto)
theorem nWay_facts {P n tl s fr to : Nat} {F : Nat → Nat → Nat} {w : Nat → Nat} (hN : nOk P n tl F w) (hfr : fr < P) (hto : to < P) : (∀ k ∈ (nWay P n tl s F w fr to).getD [], k < n) ∧ ((nWay P n tl s F w fr to).getD []).length ≤ 11 := isWay_facts hN.2.1 (nEnds hN) hfr (nWay_is hN hfr hto)
theorem ldWay_le (W : Nat) : ∀ (l : List Nat) (f : Nat → Nat) (k : Nat), ldWay W l f k ≤ f k + W * l.length
  | [], f, k => Nat.le_add_right _ _
  | j :: l, f, k => by
    have h1 := ldWay_le W l (nUp f j (f j + W)) k
    have h2 : nUp f j (f j + W) k ≤ f k + W := by
      unfold nUp; split
      · rename_i q; rw [q]; omega
      · omega
    show ldWay W l (nUp f j (f j + W)) k ≤ _
    rw [List.length_cons, Nat.mul_add]
    omega
theorem gTurns_ld {L : yL} {A : yN} {p : yP} {w : Nat → Nat} (hS : sOk L A p w) (s day gone : Nat) (x0 : yA) (h0 : ∀ k, x0.2.2.2 k = 0) : ∀ (g : Nat), g ≤ L.1.2.1 → ∀ k, (gTurns L A p s w day gone g x0).2.2.2 k ≤ 99 * g
  | 0, _, k => by show x0.2.2.2 k ≤ 0; rw [h0]; omega
  | g + 1, hg, k => by
    have ih := gTurns_ld hS s day gone x0 h0 g (by omega) k
    have hgg := hS.2.1.2.2.2.2.1 g (by omega)
    have key : ∀ (s' : Nat) (mk : Bool) (z : yA), z.2.2.2 k ≤ 99 * g → (gWay A.1.2.1 (L.2.1 g 3) A.2 w mk g (nWay L.1.1 A.1.1 A.1.2.1 s' A.2 w (L.2.1 g 0) (L.2.1 g 1)) z).2.2.2 k ≤ 99 * (g + 1) := by
      intro s' mk z hz
      have hf := (nWay_facts (s := s') hS.1 hgg.1 hgg.2.1).2
      cases ho : nWay L.1.1 A.1.1 A.1.2.1 s' A.2 w (L.2.1 g 0) (L.2.1 g 1) with
      | none => show z.2.2.2 k ≤ _; omega
      | some l =>
        rw [ho] at hf
        show ldWay (L.2.1 g 3) l z.2.2.2 k ≤ _
        have h1 := ldWay_le (L.2.1 g 3) l z.2.2.2 k
        have h2 : L.2.1 g 3 * l.length ≤ 9 * 11 := Nat.mul_le_mul hgg.2.2.2.2.2.2.1 hf
        omega
    show (gTurn L A p s w day gone g (gTurns L A p s w day gone g x0)).2.2.2 k ≤ _
    unfold gTurn
    split
    · split
      · split
        · exact key _ _ (gNext (gTurns L A p s w day gone g x0).1, (gTurns L A p s w day gone g x0).2) ih
        · show (gTurns L A p s w day gone g x0).2.2.2 k ≤ _; omega
      · exact key _ _ _ ih
    · omega
section MY
variable {E : zE} {b : Nat} {t : zT} {h : zH} {L : yL} {A : yN} {p : yP} {x : yS} {s : Nat}
/-- a day of the reference -/
theorem c_goesBy {l : Launch} (hT : zTM t) (hW : wOk L A p x) (hm : mWk h L A p x) (s : Nat) (hs : s < 2 ^ 31) (hday : x.2.1.1 + 1 < 2 ^ 20) : zMet E b l yX11_goesBy cX11_goesBy 5 none 3 0 0 [.ref (b + 157), .int (nI s)] t h (qV (fun t' h' => t' = t ∧ zAg2 h h' ∧ mWk h' L A p (dDay L A p s x) ∧ zI h' 157 47 = oI (dGo L A p s x).2.2.1.2.2)) := by
  obtain ⟨⟨w, r⟩, ⟨day, gone⟩, sd, ⟨co, cm, pa⟩, ⟨st, wn, fs⟩, f0⟩ := x
  obtain ⟨hS, hN3, hN11, hrN⟩ := hW
  obtain ⟨hst, hr, hrl, hp7, hco, hpa, hsts, hwn, hsd⟩ := hm
  dsimp only at hS hrN hst hr hp7 hco hpa hsts hwn hsd hday
  have hn := hS.1.2.2.1
  refine zMet.of (ls := [some (.ref (b + 157)), some (.int (nI s)), none, none, none]) (by decide) (zle rfl) 3 rfl ?_
  intro G hlG C hR hE hin
  have hgo : dGo L A p s ((w, r), (day, gone), sd, (co, cm, pa), (st, wn, fs), f0) = gTurns L A p s w day gone L.1.2.1 (sd, (co, cm, pa), (st, wn, none), fun _ => 0) := rfl
  have hldb := gTurns_ld hS s day gone (sd, (co, cm, pa), (st, wn, none), fun _ => 0) (fun _ => rfl) L.1.2.1 (Nat.le_refl _)
  have hng := hS.2.1.2.2.1
  -- the end of the day
  have s382 : ∀ (rn : Nat) (h3 hc : zH) (x2 : Int32) (x3 x4 : Option Value), rn = rainy L p day (Classical.propDecidable _) → zAg1 h h3 → zI h3 157 34 = nI gone → mDyn h3 A.1.1 (gTurns L A p s w day gone L.1.2.1 (sd, (co, cm, pa), (st, wn, none), fun _ => 0)) → zAg2 h3 hc → (∀ i j, ¬ (i = 233 ∨ i = 234) → zI hc i j = zI h3 i j) → (∀ i j, zL hc i j = zL h3 i j) → (∀ j, j < A.1.1 → zI hc 233 j = nI (eW A.1.2.2 ((gTurns L A p s w day gone L.1.2.1 (sd, (co, cm, pa), (st, wn, none), fun _ => 0)).2.2.2 j) rn (w j) (r j)) ∧ zI hc 234 j = nI (eR A.1.2.2 ((gTurns L A p s w day gone L.1.2.1 (sd, (co, cm, pa), (st, wn, none), fun _ => 0)).2.2.2 j) rn (r j))) → zAW E b G 5 0 0 382 [some (.ref (b + 157)), some (.int (nI s)), some (.int x2), x3, x4] [] t hc := by
    intro rn h3 hc x2 x3 x4 hrn a13 h37 hy a3c e1 e2 e3
    have hst3 := mSt.ag a13 hS hst
    obtain ⟨hnet3, hld3, hpl3, htm3⟩ := hst3
    have hd1 : zI hc 157 32 = nI day := by rw [e1 _ _ (by omega)]; exact htm3.1
    have hp1 : zI (zsI hc 157 32 (nI (day + 1))) 157 34 = nI gone := by rw [zI_sI, if_neg (by omega), e1 _ _ (by omega)]; exact h37
    have ha1 : zAg2 h (zsI (zsI hc 157 32 (nI (day + 1))) 157 34 (nI (gone + 1))) := (((zAg2.of1 a13).tr a3c).sI (by unfold sc2; omega)).sI (by unfold sc2; omega)
    obtain ⟨y1, y2, y3, y4, y5, y6, y7⟩ := hy
    have rd : ∀ i j, ¬ (i = 233 ∨ i = 234) → ¬ (i = 157 ∧ (j = 32 ∨ j = 34)) → zI (zsI (zsI hc 157 32 (nI (day + 1))) 157 34 (nI (gone + 1))) i j = zI h3 i j := fun i j n1 n2 => by
      rw [zI_sI, if_neg (by omega), zI_sI, if_neg (by omega)]; exact e1 i j n1
    have rw1 : ∀ j, zI (zsI (zsI hc 157 32 (nI (day + 1))) 157 34 (nI (gone + 1))) 233 j = zI hc 233 j := fun j => by rw [zI_sI, if_neg (by omega), zI_sI, if_neg (by omega)]
    have rw2 : ∀ j, zI (zsI (zsI hc 157 32 (nI (day + 1))) 157 34 (nI (gone + 1))) 234 j = zI hc 234 j := fun j => by rw [zI_sI, if_neg (by omega), zI_sI, if_neg (by omega)]
    refine zz_aload_0 C dX11_goesBy_382 <| zz_dup C dX11_goesBy_383 rfl <| zz_getI C fX11_230 (tM_K hT) dX11_goesBy_384 <| zpc 387 rfl <| ?_
    rw [hd1]
    refine zz_iconst_1 C dX11_goesBy_387 <| zz_iadd C dX11_goesBy_388 <| zpc 389 rfl <| ?_
    rw [show (1 : Int32) = nI 1 from rfl, nI_add]
    refine zy_putI C fX11_230 pX11_32 (tM_K hT) dX11_goesBy_389 <| zz_aload_0 C dX11_goesBy_392 <| zz_dup C dX11_goesBy_393 rfl <| zz_getI C fX11_236 (tM_K hT) dX11_goesBy_394 <| zpc 397 rfl <| ?_
    rw [hp1]
    refine zz_iconst_1 C dX11_goesBy_397 <| zz_iadd C dX11_goesBy_398 <| zpc 399 rfl <| ?_
    rw [show (1 : Int32) = nI 1 from rfl, nI_add]
    refine zy_putI C fX11_236 pX11_34 (tM_K hT) dX11_goesBy_399 <| zpc 402 rfl <| ?_
    refine zy_return C hE (zle rfl) (zle rfl) dX11_goesBy_402 ?_
    refine ⟨rfl, ha1, ⟨⟨⟨?_, ?_, ?_, fun k hk => ⟨fun i hi => ?_, ?_⟩⟩, ⟨?_, ?_, ?_, fun g hg i hi => ?_, fun k hk => ?_⟩, ⟨?_, ?_, fun q => ?_, ?_, ?_, ?_, ?_⟩, ⟨?_, ?_, ?_, hday⟩⟩, fun k hk => ?_, ?_, ?_, ?_, ?_, ?_, ?_, ?_⟩, ?_⟩
    · rw [rd _ _ (by omega) (by omega)]; exact hnet3.1
    · rw [rd _ _ (by omega) (by omega)]; exact hnet3.2.1
    · rw [rd _ _ (by omega) (by omega)]; exact hnet3.2.2.1
    · rw [rd _ _ (by omega) (by omega)]; exact (hnet3.2.2.2 k hk).1 i hi
    · rw [rw1, (e3 k hk).1, hrn]; rfl
    · rw [rd _ _ (by omega) (by omega)]; exact hld3.1
    · rw [rd _ _ (by omega) (by omega)]; exact hld3.2.1
    · rw [rd _ _ (by omega) (by omega)]; exact hld3.2.2.1
    · rw [rd _ _ (by omega) (by omega)]; exact hld3.2.2.2.1 g hg i hi
    · rw [rd _ _ (by omega) (by omega)]; exact hld3.2.2.2.2 k hk
    · rw [rd _ _ (by omega) (by omega)]; exact hpl3.1
    · rw [rd _ _ (by omega) (by omega)]; exact hpl3.2.1
    · rw [rd _ _ (by omega) (by omega)]; exact hpl3.2.2.1 q
    · rw [rd _ _ (by omega) (by omega)]; exact hpl3.2.2.2.1
    · rw [rd _ _ (by omega) (by omega)]; exact hpl3.2.2.2.2.1
    · rw [rd _ _ (by omega) (by omega)]; exact hpl3.2.2.2.2.2.1
    · rw [rd _ _ (by omega) (by omega)]; exact hpl3.2.2.2.2.2.2
    · rw [zI_sI, if_neg (by omega), zI_self]; rfl
    · rw [rd _ _ (by omega) (by omega), htm3.2.1]
      show nI (day - gone) = nI (day + 1 - (gone + 1))
      rw [Nat.add_sub_add_right]
    · exact Nat.succ_le_succ htm3.2.2.1
    · rw [rw2, (e3 k hk).2, hrn]; rfl
    · rw [rd _ _ (by omega) (by omega), a13.1 _ _ (by unfold sc1; omega)]; exact hrl
    · rw [zI_self]; rfl
    · exact (e2 _ _).trans y2
    · exact (e2 _ _).trans y3
    · rw [rd _ _ (by omega) (by omega)]; exact y4
    · rw [rd _ _ (by omega) (by omega)]; exact y5
    · rw [rd _ _ (by omega) (by omega)]; exact y7
    · rw [rd _ _ (by omega) (by omega)]; exact y6
  have s246 : ∀ (hc : zH) (x2 : Int32) (x3 x4 : Option Value), zAg1 h hc → mDyn hc A.1.1 (gTurns L A p s w day gone L.1.2.1 (sd, (co, cm, pa), (st, wn, none), fun _ => 0)) → zAW E b G 5 0 0 246 [some (.ref (b + 157)), some (.int (nI s)), some (.int x2), x3, x4] [] t hc := by
    intro hc x2 x3 x4 ha hy
    obtain ⟨hnet3, hld3, hpl3, htm3⟩ := mSt.ag ha hS hst
    have hrn1 : rainy L p day (Classical.propDecidable _) ≤ 1 := by unfold rainy; split; omega; split <;> omega
    refine zz_aload_0 C dX11_goesBy_246 <| zpc 247 rfl <| ?_
    refine zf_callVI C hR [] (c_isWet hT hS.2.1 hld3 hpl3 htm3 (Classical.propDecidable _)) lX11_286 rfl (tM_K hT) (by decide) rfl ⟨zle rfl, zle rfl, zle rfl, zle rfl⟩ (zle rfl) dX11_goesBy_247 ?_
    refine zz_istore_2 C (zle rfl) rfl dX11_goesBy_250 <| zz_iconst_0 C dX11_goesBy_251 <| zz_istore_3 C (zle rfl) rfl dX11_goesBy_252 <| zpc 253 rfl <| ?_
    refine l_end3 (w := w) (r := r) (N := A.1.2.2) (ld := (gTurns L A p s w day gone L.1.2.1 (sd, (co, cm, pa), (st, wn, none), fun _ => 0)).2.2.2) hT hn C hN3 hN11 hrn1 (fun k hk => (hS.1.2.2.2.2 k hk).2.2.2.2.2.2.2) hrN (fun k hk => by have := hldb k; omega) ?_ hnet3.2.1 ?_ hy.1 (fun j hj => (hnet3.2.2.2 j hj).2) (fun j hj => ?_) A.1.1 0 hc _ (by omega) (zAg2.rf hc) (fun _ _ _ => rfl) (fun _ _ => rfl) (fun j hj => absurd hj (by omega)) (fun j _ hj => ⟨(hnet3.2.2.2 j hj).2, ?_⟩)
    · intro h4 y3 y4 b1 b2 b3 b4
      exact s382 _ hc h4 _ y3 y4 rfl ha (by rw [ha.1 _ _ (by unfold sc1; omega)]; exact hp7) hy b1 b2 b3 b4
    · rw [ha.1 _ _ (by unfold sc1; omega)]; exact hrl
    · rw [ha.1 _ _ (by unfold sc1; omega)]; exact hr j hj
    · rw [ha.1 _ _ (by unfold sc1; omega)]; exact hr j hj
  have s28 : ∀ (hc : zH) (x2 : Option Value), zAg1 h hc → (∀ i k, ¬ i = 235 → zI hc i k = zI (zsI h 157 47 (-1)) i k) → (∀ i k, zL hc i k = zL (zsI h 157 47 (-1)) i k) → (∀ k, k < A.1.1 → zI hc 235 k = nI 0) → zAW E b G 5 0 0 28 [some (.ref (b + 157)), some (.int (nI s)), x2, none, none] [] t hc := by
    intro hc x2 ha e1 e2 e3
    refine zz_iconst_0 C dX11_goesBy_28 <| zz_istore_2 C (zle rfl) rfl dX11_goesBy_29 <| zpc 30 rfl <| ?_
    refine l_go2 (p := p) (day := day) (gone := gone) (x0 := (sd, (co, cm, pa), (st, wn, none), fun _ => 0)) hT hS (mSt.ag ha hS hst) C hR hs rfl ?_ L.1.2.1 0 hc _ _ (by omega) (zAg1.rf hc) ⟨e3, ?_, ?_, ?_, ?_, ?_, ?_⟩
    · intro h3 x2 x3 x4 a3 hy
      exact s246 h3 x2 x3 x4 (ha.tr a3) hy
    · exact (e2 _ _).trans hco
    · exact (e2 _ _).trans hpa
    · rw [e1 _ _ (by omega), zI_sI, if_neg (by omega)]; exact hsts
    · rw [e1 _ _ (by omega), zI_sI, if_neg (by omega)]; exact hwn
    · rw [e1 _ _ (by omega), zI_self]; rfl
    · rw [e1 _ _ (by omega), zI_sI, if_neg (by omega)]; exact hsd
  refine zz_aload_0 C dX11_goesBy_0 <| zz_iconst_m1 C dX11_goesBy_1 <| zy_putI C fX11_278 pX11_47 (tM_K hT) dX11_goesBy_2 <| zz_iconst_0 C dX11_goesBy_5 <| zz_istore_2 C (zle rfl) rfl dX11_goesBy_6 <| zpc 7 rfl <| ?_
  have a0 : zAg1 h (zsI h 157 47 (-1)) := (zAg1.rf h).sI (by unfold sc1; omega)
  refine l_end1 (s := s) hT hn C (h := zsI h 157 47 (-1)) (by rw [zI_sI, if_neg (by omega)]; exact hst.1.2.1) ?_ A.1.1 0 _ (by omega) (zAg1.rf _) (fun _ _ _ => rfl) (fun _ _ => rfl) (fun j hj => absurd hj (by omega))
  intro hc x2 a1 e1 e2 e3
  exact s28 hc x2 (a0.tr a1) e1 e2 e3
end MY
