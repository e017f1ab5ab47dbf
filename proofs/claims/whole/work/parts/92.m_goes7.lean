/-! ===== the reference: a day, where the place in the row is its own number ===== -/
def mWk7 (h : zH) (L : yL) (A : yN) (p : yP) (x : yS) (z7 : Nat) : Prop := mSt h L A p x.1.1 x.2.1.1 x.2.1.2 ∧ (∀ k, k < A.1.1 → zI h 234 k = nI (x.1.2 k)) ∧ zI h 157 31 = nI A.1.2.2 ∧ zI h 157 34 = nI z7 ∧ zL h 157 43 = lN x.2.2.2.1.1 ∧ zL h 157 44 = lN x.2.2.2.1.2.2 ∧ zI h 157 45 = nI x.2.2.2.2.1.1 ∧ zI h 157 46 = nI x.2.2.2.2.1.2.1 ∧ zI h 157 41 = x.2.2.1
section M7
variable {E : zE} {b : Nat} {t : zT} {h : zH} {L : yL} {A : yN} {p : yP} {x : yS} {s : Nat}
theorem c_goesBy7 {l : Launch} {z7 : Nat} (hT : zTM t) (hW : wOk L A p x) (hm : mWk7 h L A p x z7) (s : Nat) (hs : s < 2 ^ 31) (hday : x.2.1.1 + 1 < 2 ^ 20) : zMet E b l yX11_goesBy cX11_goesBy 5 none 3 0 0 [.ref (b + 157), .int (nI s)] t h (qV (fun t' h' => t' = t ∧ zAg2 h h' ∧ mWk7 h' L A p (dDay L A p s x) (z7 + 1) ∧ zI h' 157 47 = oI (dGo L A p s x).2.2.1.2.2)) := by
  obtain ⟨⟨w, r⟩, ⟨day, gone⟩, sd, ⟨co, cm, pa⟩, ⟨st, wn, fs⟩, f0⟩ := x
  obtain ⟨hS, hN3, hN11, hrN⟩ := hW
  obtain ⟨hst, hr, hrl, hp7, hco, hpa, hsts, hwn, hsd⟩ := hm
  dsimp only at hS hrN hst hr hp7 hco hpa hsts hwn hsd hday
  have hn := hS.1.2.2.1
  refine zMet.of (ls := [some (.ref (b + 157)), some (.int (nI s)), none, none, none]) (by decide) (zle rfl) 3 rfl ?_
  intro G hlG C hR hE hin
  have hgo : dGo L A p s ((w, r), (day, gone), sd, (co, cm, pa), (st, wn, fs), f0) = gTurns L A p s w day gone L.1.2.1 (sd, (co, cm, pa), (st, wn, none), fun _ => 0) := rfl
  have hldb := gTurns_ld hS s day gone (sd, (co, cm, pa), (st, wn, none), fun _ => 0) (fun _ => rfl) L.1.2.1 (Nat.le_refl _)
  have hng := hS.2.1.2.2.1
  -- the end of the day
  have s382 : ∀ (rn : Nat) (h3 hc : zH) (x2 : Int32) (x3 x4 : Option Value), rn = rainy L p day (Classical.propDecidable _) → zAg1 h h3 → zI h3 157 34 = nI z7 → mDyn h3 A.1.1 (gTurns L A p s w day gone L.1.2.1 (sd, (co, cm, pa), (st, wn, none), fun _ => 0)) → zAg2 h3 hc → (∀ i j, ¬ (i = 233 ∨ i = 234) → zI hc i j = zI h3 i j) → (∀ i j, zL hc i j = zL h3 i j) → (∀ j, j < A.1.1 → zI hc 233 j = nI (eW A.1.2.2 ((gTurns L A p s w day gone L.1.2.1 (sd, (co, cm, pa), (st, wn, none), fun _ => 0)).2.2.2 j) rn (w j) (r j)) ∧ zI hc 234 j = nI (eR A.1.2.2 ((gTurns L A p s w day gone L.1.2.1 (sd, (co, cm, pa), (st, wn, none), fun _ => 0)).2.2.2 j) rn (r j))) → zAW E b G 5 0 0 382 [some (.ref (b + 157)), some (.int (nI s)), some (.int x2), x3, x4] [] t hc := by
    intro rn h3 hc x2 x3 x4 hrn a13 h37 hy a3c e1 e2 e3
    have hst3 := mSt.ag a13 hS hst
    obtain ⟨hnet3, hld3, hpl3, htm3⟩ := hst3
    have hd1 : zI hc 157 32 = nI day := by rw [e1 _ _ (by omega)]; exact htm3.1
    have hp1 : zI (zsI hc 157 32 (nI (day + 1))) 157 34 = nI z7 := by rw [zI_sI, if_neg (by omega), e1 _ _ (by omega)]; exact h37
    have ha1 : zAg2 h (zsI (zsI hc 157 32 (nI (day + 1))) 157 34 (nI (z7 + 1))) := (((zAg2.of1 a13).tr a3c).sI (by unfold sc2; omega)).sI (by unfold sc2; omega)
    obtain ⟨y1, y2, y3, y4, y5, y6, y7⟩ := hy
    have rd : ∀ i j, ¬ (i = 233 ∨ i = 234) → ¬ (i = 157 ∧ (j = 32 ∨ j = 34)) → zI (zsI (zsI hc 157 32 (nI (day + 1))) 157 34 (nI (z7 + 1))) i j = zI h3 i j := fun i j n1 n2 => by
      rw [zI_sI, if_neg (by omega), zI_sI, if_neg (by omega)]; exact e1 i j n1
    have rw1 : ∀ j, zI (zsI (zsI hc 157 32 (nI (day + 1))) 157 34 (nI (z7 + 1))) 233 j = zI hc 233 j := fun j => by rw [zI_sI, if_neg (by omega), zI_sI, if_neg (by omega)]
    have rw2 : ∀ j, zI (zsI (zsI hc 157 32 (nI (day + 1))) 157 34 (nI (z7 + 1))) 234 j = zI hc 234 j := fun j => by rw [zI_sI, if_neg (by omega), zI_sI, if_neg (by omega)]
    refine zz_aload_0 C dX11_goesBy_382 <| zz_dup C dX11_goesBy_383 rfl <| zz_getI C fX11_230 (tM_K hT) dX11_goesBy_384 <| zpc 387 rfl <| ?_
    rw [hd1]
    refine zz_iconst_1 C dX11_goesBy_387 <| zz_iadd C dX11_goesBy_388 <| zpc 389 rfl <| ?_
    rw [show (1 : Int32) = nI 1 from rfl, nI_add]
    refine zy_putI C fX11_230 pX11_32 (tM_K hT) dX11_goesBy_389 <| zz_aload_0 C dX11_goesBy_392 <| zz_dup C dX11_goesBy_393 rfl <| zz_getI C fX11_236 (tM_K hT) dX11_goesBy_394 <| zpc 397 rfl <| ?_
    rw [hp1]
    refine zz_iconst_1 C dX11_goesBy_397 <| zz_iadd C dX11_goesBy_398 <| zpc 399 rfl <| ?_
    rw [show (1 : Int32) = nI 1 from rfl, nI_add]
    refine zy_putI C fX11_236 pX11_34 (tM_K hT) dX11_goesBy_399 <| zpc 402 rfl <| ?_
    refine zy_return C hE (zle rfl) (zle rfl) dX11_goesBy_402 ?_
    refine ⟨rfl, ha1, ⟨⟨⟨?_, ?_, ?_, fun k hk => ⟨fun i hi => ?_, ?_⟩⟩, ⟨?_, ?_, ?_, fun g hg i hi => ?_, fun k hk => ?_⟩, ⟨?_, ?_, fun q => ?_, ?_, ?_, ?_, ?_⟩, ⟨?_, ?_, ?_, hday⟩⟩, fun k hk => ?_, ?_, ?_, ?_, ?_, ?_, ?_, ?_⟩, ?_⟩
    · rw [rd _ _ (by omega) (by omega)]; exact hnet3.1
    · rw [rd _ _ (by omega) (by omega)]; exact hnet3.2.1
    · rw [rd _ _ (by omega) (by omega)]; exact hnet3.2.2.1
    · rw [rd _ _ (by omega) (by omega)]; exact (hnet3.2.2.2 k hk).1 i hi
    · rw [rw1, (e3 k hk).1, hrn]; rfl
    · rw [rd _ _ (by omega) (by omega)]; exact hld3.1
    · rw [rd _ _ (by omega) (by omega)]; exact hld3.2.1
    · rw [rd _ _ (by omega) (by omega)]; exact hld3.2.2.1
    · rw [rd _ _ (by omega) (by omega)]; exact hld3.2.2.2.1 g hg i hi
    · rw [rd _ _ (by omega) (by omega)]; exact hld3.2.2.2.2 k hk
    · rw [rd _ _ (by omega) (by omega)]; exact hpl3.1
    · rw [rd _ _ (by omega) (by omega)]; exact hpl3.2.1
    · rw [rd _ _ (by omega) (by omega)]; exact hpl3.2.2.1 q
    · rw [rd _ _ (by omega) (by omega)]; exact hpl3.2.2.2.1
    · rw [rd _ _ (by omega) (by omega)]; exact hpl3.2.2.2.2.1
    · rw [rd _ _ (by omega) (by omega)]; exact hpl3.2.2.2.2.2.1
    · rw [rd _ _ (by omega) (by omega)]; exact hpl3.2.2.2.2.2.2
    · rw [zI_sI, if_neg (by omega), zI_self]; rfl
    · rw [rd _ _ (by omega) (by omega), htm3.2.1]
      show nI (day - gone) = nI (day + 1 - (gone + 1))
      rw [Nat.add_sub_add_right]
    · exact Nat.succ_le_succ htm3.2.2.1
    · rw [rw2, (e3 k hk).2, hrn]; rfl
    · rw [rd _ _ (by omega) (by omega), a13.1 _ _ (by unfold sc1; omega)]; exact hrl
    · rw [zI_self]
    · exact (e2 _ _).trans y2
    · exact (e2 _ _).trans y3
    · rw [rd _ _ (by omega) (by omega)]; exact y4
    · rw [rd _ _ (by omega) (by omega)]; exact y5
    · rw [rd _ _ (by omega) (by omega)]; exact y7
    · rw [rd _ _ (by omega) (by omega)]; exact y6
  have s246 : ∀ (hc : zH) (x2 : Int32) (x3 x4 : Option Value), zAg1 h hc → mDyn hc A.1.1 (gTurns L A p s w day gone L.1.2.1 (sd, (co, cm, pa), (st, wn, none), fun _ => 0)) → zAW E b G 5 0 0 246 [some (.ref (b + 157)), some (.int (nI s)), some (.int x2), x3, x4] [] t hc := by
    intro hc x2 x3 x4 ha hy
    obtain ⟨hnet3, hld3, hpl3, htm3⟩ := mSt.ag ha hS hst
    have hrn1 : rainy L p day (Classical.propDecidable _) ≤ 1 := by unfold rainy; split; omega; split <;> omega
    refine zz_aload_0 C dX11_goesBy_246 <| zpc 247 rfl <| ?_
    refine zf_callVI C hR [] (c_isWet hT hS.2.1 hld3 hpl3 htm3 (Classical.propDecidable _)) lX11_286 rfl (tM_K hT) (by decide) rfl ⟨zle rfl, zle rfl, zle rfl, zle rfl⟩ (zle rfl) dX11_goesBy_247 ?_
    refine zz_istore_2 C (zle rfl) rfl dX11_goesBy_250 <| zz_iconst_0 C dX11_goesBy_251 <| zz_istore_3 C (zle rfl) rfl dX11_goesBy_252 <| zpc 253 rfl <| ?_
    refine l_end3 (w := w) (r := r) (N := A.1.2.2) (ld := (gTurns L A p s w day gone L.1.2.1 (sd, (co, cm, pa), (st, wn, none), fun _ => 0)).2.2.2) hT hn C hN3 hN11 hrn1 (fun k hk => (hS.1.2.2.2.2 k hk).2.2.2.2.2.2.2) hrN (fun k hk => by have := hldb k; omega) ?_ hnet3.2.1 ?_ hy.1 (fun j hj => (hnet3.2.2.2 j hj).2) (fun j hj => ?_) A.1.1 0 hc _ (by omega) (zAg2.rf hc) (fun _ _ _ => rfl) (fun _ _ => rfl) (fun j hj => absurd hj (by omega)) (fun j _ hj => ⟨(hnet3.2.2.2 j hj).2, ?_⟩)
    · intro h4 y3 y4 b1 b2 b3 b4
      exact s382 _ hc h4 _ y3 y4 rfl ha (by rw [ha.1 _ _ (by unfold sc1; omega)]; exact hp7) hy b1 b2 b3 b4
    · rw [ha.1 _ _ (by unfold sc1; omega)]; exact hrl
    · rw [ha.1 _ _ (by unfold sc1; omega)]; exact hr j hj
    · rw [ha.1 _ _ (by unfold sc1; omega)]; exact hr j hj
  have s28 : ∀ (hc : zH) (x2 : Option Value), zAg1 h hc → (∀ i k, ¬ i = 235 → zI hc i k = zI (zsI h 157 47 (-1)) i k) → (∀ i k, zL hc i k = zL (zsI h 157 47 (-1)) i k) → (∀ k, k < A.1.1 → zI hc 235 k = nI 0) → zAW E b G 5 0 0 28 [some (.ref (b + 157)), some (.int (nI s)), x2, none, none] [] t hc := by
    intro hc x2 ha e1 e2 e3
    refine zz_iconst_0 C dX11_goesBy_28 <| zz_istore_2 C (zle rfl) rfl dX11_goesBy_29 <| zpc 30 rfl <| ?_
    refine l_go2 (p := p) (day := day) (gone := gone) (x0 := (sd, (co, cm, pa), (st, wn, none), fun _ => 0)) hT hS (mSt.ag ha hS hst) C hR hs rfl ?_ L.1.2.1 0 hc _ _ (by omega) (zAg1.rf hc) ⟨e3, ?_, ?_, ?_, ?_, ?_, ?_⟩
    · intro h3 x2 x3 x4 a3 hy
      exact s246 h3 x2 x3 x4 (ha.tr a3) hy
    · exact (e2 _ _).trans hco
    · exact (e2 _ _).trans hpa
    · rw [e1 _ _ (by omega), zI_sI, if_neg (by omega)]; exact hsts
    · rw [e1 _ _ (by omega), zI_sI, if_neg (by omega)]; exact hwn
    · rw [e1 _ _ (by omega), zI_self]; rfl
    · rw [e1 _ _ (by omega), zI_sI, if_neg (by omega)]; exact hsd
  refine zz_aload_0 C dX11_goesBy_0 <| zz_iconst_m1 C dX11_goesBy_1 <| zy_putI C fX11_278 pX11_47 (tM_K hT) dX11_goesBy_2 <| zz_iconst_0 C dX11_goesBy_5 <| zz_istore_2 C (zle rfl) rfl dX11_goesBy_6 <| zpc 7 rfl <| ?_
  have a0 : zAg1 h (zsI h 157 47 (-1)) := (zAg1.rf h).sI (by unfold sc1; omega)
  refine l_end1 (s := s) hT hn C (h := zsI h 157 47 (-1)) (by rw [zI_sI, if_neg (by omega)]; exact hst.1.2.1) ?_ A.1.1 0 _ (by omega) (zAg1.rf _) (fun _ _ _ => rfl) (fun _ _ => rfl) (fun j hj => absurd hj (by omega))
  intro hc x2 a1 e1 e2 e3
  exact s28 hc x2 (a0.tr a1) e1 e2 e3
end M7
