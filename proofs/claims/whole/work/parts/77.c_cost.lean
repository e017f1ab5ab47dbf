/-! ===== the class: what would be otherwise ===== -/
/-- the same goings, whoever is set aside: one sum -/
def rA (x y : yA) : Prop := x.1 = y.1 ∧ x.2.1.1 + x.2.1.2.1 = y.2.1.1 + y.2.1.2.1 ∧ x.2.1.2.2 = y.2.1.2.2 ∧ x.2.2 = y.2.2
theorem rA_way {tl W : Nat} {F : Nat → Nat → Nat} {w : Nat → Nat} {mk mk' : Bool} {g : Nat} {o : Option (List Nat)} {x y : yA} (h : rA x y) : rA (gWay tl W F w mk g o x) (gWay tl W F w mk' g o y) := by
  obtain ⟨h1, h2, h3, h4⟩ := h
  cases o with
  | none =>
    refine ⟨h1, ?_, h3, ?_⟩
    · show (if mk = true then x.2.1.1 else x.2.1.1 + 1000) + (if mk = true then x.2.1.2.1 + 1000 else x.2.1.2.1) = (if mk' = true then y.2.1.1 else y.2.1.1 + 1000) + (if mk' = true then y.2.1.2.1 + 1000 else y.2.1.2.1)
      cases mk <;> cases mk' <;> simp <;> omega
    · show ((x.2.2.1.1 + 1, x.2.2.1.2.1, if x.2.2.1.2.2 = none then some g else x.2.2.1.2.2), x.2.2.2) = ((y.2.2.1.1 + 1, y.2.2.1.2.1, if y.2.2.1.2.2 = none then some g else y.2.2.1.2.2), y.2.2.2)
      rw [h4]
  | some l =>
    refine ⟨h1, ?_, ?_, ?_⟩
    · show (if mk = true then x.2.1.1 else x.2.1.1 + mSum F w l) + (if mk = true then x.2.1.2.1 + mSum F w l else x.2.1.2.1) = (if mk' = true then y.2.1.1 else y.2.1.1 + mSum F w l) + (if mk' = true then y.2.1.2.1 + mSum F w l else y.2.1.2.1)
      cases mk <;> cases mk' <;> simp <;> omega
    · show x.2.1.2.2 + pdWay tl w l = y.2.1.2.2 + pdWay tl w l
      rw [h3]
    · show ((x.2.2.1.1, x.2.2.1.2.1 + 1, x.2.2.1.2.2), ldWay W l x.2.2.2) = ((y.2.2.1.1, y.2.2.1.2.1 + 1, y.2.2.1.2.2), ldWay W l y.2.2.2)
      rw [h4]
theorem rA_turns {L : yL} {A : yN} {p : yP} (g0 s : Nat) (w : Nat → Nat) (day gone : Nat) {x y : yA} (h : rA x y) : ∀ g, rA (gTurns L A (pAs p g0) s w day gone g x) (gTurns L A p s w day gone g y)
  | 0 => h
  | g + 1 => by
    have ih := rA_turns (L := L) (A := A) (p := p) g0 s w day gone h g
    show rA (gTurn L A (pAs p g0) s w day gone g (gTurns L A (pAs p g0) s w day gone g x)) (gTurn L A p s w day gone g (gTurns L A p s w day gone g y))
    have e1 := ih.1
    unfold gTurn
    show rA (if gOn L.2.1 day gone p.1 p.2.1.1 p.2.1.2 g then _ else _) _
    by_cases c1 : gOn L.2.1 day gone p.1 p.2.1.1 p.2.1.2 g
    · rw [if_pos c1, if_pos c1]
      show rA (if gLot p (L.2.1 g 4) then _ else _) _
      by_cases c2 : gLot p (L.2.1 g 4)
      · rw [if_pos c2, if_pos c2]
        rw [e1]
        by_cases c3 : gDraw (gNext (gTurns L A p s w day gone g y).1) (L.2.1 g 4)
        · rw [if_pos c3, if_pos c3]
          exact rA_way ⟨rfl, ih.2⟩
        · rw [if_neg c3, if_neg c3]
          exact ⟨rfl, ih.2⟩
      · rw [if_neg c2, if_neg c2]
        exact rA_way ih
    · rw [if_neg c1, if_neg c1]
      exact ih
def rS (x y : yS) : Prop := x.1 = y.1 ∧ x.2.1 = y.2.1 ∧ rA x.2.2 y.2.2
theorem rS_day {L : yL} {A : yN} {p : yP} (g0 s : Nat) {x y : yS} (h : rS x y) : rS (dDay L A (pAs p g0) s x) (dDay L A p s y) := by
  obtain ⟨h1, h2, h3⟩ := h
  have hg : rA (dGo L A (pAs p g0) s x) (dGo L A p s y) := by
    unfold dGo
    rw [h1, h2]
    refine rA_turns (x := (x.2.2.1, x.2.2.2.1, (x.2.2.2.2.1.1, x.2.2.2.2.1.2.1, none), fun _ => 0)) (y := (y.2.2.1, y.2.2.2.1, (y.2.2.2.2.1.1, y.2.2.2.2.1.2.1, none), fun _ => 0)) g0 s _ _ _ ⟨h3.1, h3.2.1, h3.2.2.1, ?_⟩ _
    show ((x.2.2.2.2.1.1, x.2.2.2.2.1.2.1, none), fun _ => 0) = ((y.2.2.2.2.1.1, y.2.2.2.2.1.2.1, none), fun _ => 0)
    rw [h3.2.2.2]
  have hl := hg.2.2.2
  refine ⟨?_, ?_, hg⟩
  · show (_, _) = (_, _)
    rw [hl, h1, h2]
    rfl
  · show (_, _) = (_, _)
    rw [h2]
theorem rS_days {L : yL} {A : yN} {p : yP} (g0 : Nat) (R : Nat × (Nat → Nat)) {x y : yS} (h : rS x y) : ∀ d, rS (dDays L A (pAs p g0) R 0 d x) (dDays L A p R 0 d y)
  | 0 => h
  | d + 1 => rS_day g0 0 (rS_days g0 R h d)
/-- the cost of all together, whoever is set aside -/
theorem dCo_as {D : yD} {p : yP} (hp : p.2.2.2.2.1 = none) (g0 : Nat) (R : Nat × (Nat → Nat)) (d : Nat) (sd : Int32) : (dDays D.1 D.2.1 (pAs p g0) R 0 d (x0 D sd)).2.2.2.1.1 + (dDays D.1 D.2.1 (pAs p g0) R 0 d (x0 D sd)).2.2.2.1.2.1 = dCo D p R 0 d sd := by
  have h := (rS_days (L := D.1) (A := D.2.1) (p := p) g0 R (x := x0 D sd) (y := x0 D sd) ⟨rfl, rfl, rfl, rfl, rfl, rfl⟩ d).2.2.2.1
  rw [h, show (dDays D.1 D.2.1 p R 0 d (x0 D sd)).2.2.2.1.2.1 = 0 from dDays_cm hp _ _ _ _, Nat.add_zero]
  rfl
/-- who never goes costs nothing -/
theorem gTurns_ab {L : yL} {A : yN} {p : yP} {g0 : Nat} (h1 : p.1 = some g0) (h2 : p.2.2.2.2.1 = some g0) (s : Nat) (w : Nat → Nat) (day gone : Nat) (x : yA) : ∀ g, (gTurns L A p s w day gone g x).2.1.2.1 = x.2.1.2.1
  | 0 => rfl
  | g + 1 => by
    have ih := gTurns_ab (L := L) (A := A) h1 h2 s w day gone x g
    show (gTurn L A p s w day gone g (gTurns L A p s w day gone g x)).2.1.2.1 = _
    by_cases hg : g = g0
    · unfold gTurn
      rw [if_neg (fun z => z.1 (by rw [h1, hg]))]
      exact ih
    · have hd : decide (some g = p.2.2.2.2.1) = false := by rw [h2]; simp [hg]
      have key : ∀ (o : Option (List Nat)) (z : yA), (gWay A.1.2.1 (L.2.1 g 3) A.2 w (decide (some g = p.2.2.2.2.1)) g o z).2.1.2.1 = z.2.1.2.1 := by
        intro o z
        rw [hd]
        cases o <;> rfl
      unfold gTurn
      split
      · split
        · split
          · rw [key]; exact ih
          · exact ih
        · rw [key]; exact ih
      · exact ih
theorem dDays_ab {L : yL} {A : yN} {p : yP} {g0 : Nat} (h1 : p.1 = some g0) (h2 : p.2.2.2.2.1 = some g0) (R : Nat × (Nat → Nat)) (rule : Nat) (x : yS) : ∀ d, (dDays L A p R rule d x).2.2.2.1.2.1 = x.2.2.2.1.2.1
  | 0 => rfl
  | d + 1 => (gTurns_ab h1 h2 _ _ _ _ _ _).trans (dDays_ab h1 h2 R rule x d)
section CC
variable {E : zE} {b : Nat} {G : zG} {t : zT} {h : zH} {l : Launch} {a c e : Nat} {D : yD} {Mo : Nat × (Nat → Nat → Nat)} {R : Nat × (Nat → Nat)}
theorem cWk.pl {h h' : zH} {e n0 : Nat} {ex : Option Nat} {L : yL} {A A' : yN} {p p' : yP} {x x' : yS} {N0 : Nat} (hm : cWk h e n0 ex L A p x N0 R) (he : e + 31 < 73) (hg : L.1.2.1 ≤ 14) (q : ∀ i k, ¬ i = 82 → zI h' i k = zI h i k) (ql : ∀ i k, zL h' i k = zL h i k) (e1 : A'.1.1 = A.1.1) (e2 : A'.2 = A.2) (hp : cPl h' p' A' ex) (hl : p'.2.2.1 = true → zI h' 82 9 = x'.2.2.1) (x1 : x'.1 = x.1) (x2 : x'.2.1 = x.2.1) (x3 : x'.2.2.2 = x.2.2.2) : cWk h' e n0 ex L A' p' x' N0 R := by
  obtain ⟨⟨h1, h2, -, h4, h5⟩, ⟨h6, h7, -⟩⟩ := hm
  have ag : cAg 82 82 h h' := ⟨fun i k hi => q i k (by omega), fun i k _ => ql i k⟩
  unfold cWk cSd cTl
  rw [x1, x2, x3, e1]
  refine ⟨⟨h1.ag ag (by omega) hg, ?_, hp, h4.ag ag (by omega), ?_⟩, ⟨?_, ?_, ?_⟩, ⟨?_, ?_, ?_⟩, hl⟩
  · have := h2.ag ag (by omega)
    unfold cRd at this ⊢
    rw [e1, e2]
    exact this
  · rw [q _ _ (by omega)]; exact h5
  · rw [ql]; exact h6.1
  · rw [ql]; exact h6.2.1
  · rw [ql]; exact h6.2.2
  · rw [q _ _ (by omega)]; exact h7.1
  · rw [q _ _ (by omega)]; exact h7.2.1
  · rw [q _ _ (by omega)]; exact h7.2.2
/-- what a cost leaves -/
def cCo (t : zT) (a : Nat) (h : zH) (t' : zT) (h' : zH) : Prop := t' = zsR t 73 6 (some a) ∧ cAg 73 90 h h'
theorem c10_openCost (hX : zTX t a c e) (hO : dOk D Mo R) (hm : cSn h a D Mo R) (sd : Int32) (d : Nat) (hd : d ≤ 366) : zMet E b l yX10_openCost cX10_openCost 2 (some .long) 8 0 0 [.ref (b + 0), .int (nI d)] t h (qJ (fun v t' h' => cCo t a h t' h' ∧ v = lN (dCo D yP0 R 0 d sd))) := by
  have ha := tX_a2 hX
  have htd := hO.1.2.2.2.2
  refine zMet.of (ls := [some (.ref (b + 0)), some (.int (nI d))]) (by decide) (zle rfl) 0 rfl ?_
  intro G hlG C hR hE hin
  refine zz_aload_0 C dX10_openCost_0 <| zz_getR C fX10_41 (tX_K_X hX) (tX_R_walk hX) dX10_openCost_1 <| zz_aload_0 C dX10_openCost_4 <| zz_getR C fX10_19 (tX_K_X hX) (tX_R_land hX) dX10_openCost_5 <| zz_aload_0 C dX10_openCost_8 <| zz_getR C fX10_26 (tX_K_X hX) (tX_R_now hX) dX10_openCost_9 <| zpc 12 rfl <| ?_
  refine zy_callVV C hR [_, _] (c8_beg hX hO hm sd) lX10_155 rfl (tX_K_walk hX) (by decide) rfl ⟨zle rfl, zle rfl, zle rfl, zle rfl⟩ (zle rfl) dX10_openCost_12 ?_
  intro t' h' hv; obtain ⟨rfl, hX, ag, hw, hsn⟩ := hv
  refine zz_aload_0 C dX10_openCost_15 <| zz_getR C fX10_41 (tX_K_X hX) (tX_R_walk hX) dX10_openCost_16 <| zz_iconst_0 C dX10_openCost_19 <| zz_iload_1 C dX10_openCost_20 <| zpc 21 rfl <| ?_
  refine zy_callVJ C hR [_, _] (c8_goOn hX (by omega) (hO.1.w sd) pX0 (Nat.zero_le _) hw hO.2.2.2.1 0 ⟨by omega, fun z => absurd z (by omega), fun z => absurd z (by omega)⟩ d (by omega) (show D.2.2.2 + d < 2 ^ 30 by omega)) lX10_198 rfl (tX_K_walk hX) (by decide) rfl ⟨zle rfl, zle rfl, zle rfl, zle rfl⟩ (zle rfl) dX10_openCost_21 ?_
  intro v t' h2 hv; obtain ⟨rfl, ag2, hw2, rfl⟩ := hv
  refine zy_lreturn C hE (zle rfl) (zle rfl) dX10_openCost_24 ?_
  refine ⟨⟨rfl, ag.tr ag2⟩, ?_⟩
  rw [show (dDays D.1 D.2.1 yP0 R 0 d (x0 D sd)).2.2.2.1.2.1 = 0 from dDays_cm rfl _ _ _ _, Nat.add_zero]
  rfl
theorem c10_tollCost (hX : zTX t a c e) (hO : dOk D Mo R) (hm : cSn h a D Mo R) (sd : Int32) (tl d : Nat) (htl : tl ≤ 20) (hd : d ≤ 366) : zMet E b l yX10_tollCost cX10_tollCost 3 (some .long) 8 0 0 [.ref (b + 0), .int (nI tl), .int (nI d)] t h (qJ (fun v t' h' => cCo t a h t' h' ∧ v = lN (dCo (dTl D tl) yP0 R 0 d sd) ∧ zL h' 83 2 = lN (dDays (dTl D tl).1 (dTl D tl).2.1 yP0 R 0 d (x0 (dTl D tl) sd)).2.2.2.1.2.2)) := by
  have ha := tX_a2 hX
  have htd := hO.1.2.2.2.2
  have hng := hO.1.1.2.1.2.2.1
  have hD1 : sdOk (dTl D tl) yP0 := ⟨⟨⟨hO.1.1.1.1, hO.1.1.1.2.1, hO.1.1.1.2.2.1, htl, hO.1.1.1.2.2.2.2⟩, hO.1.1.2⟩, hO.1.2⟩
  refine zMet.of (ls := [some (.ref (b + 0)), some (.int (nI tl)), some (.int (nI d))]) (by decide) (zle rfl) 0 rfl ?_
  intro G hlG C hR hE hin
  refine zz_aload_0 C dX10_tollCost_0 <| zz_getR C fX10_41 (tX_K_X hX) (tX_R_walk hX) dX10_tollCost_1 <| zz_aload_0 C dX10_tollCost_4 <| zz_getR C fX10_19 (tX_K_X hX) (tX_R_land hX) dX10_tollCost_5 <| zz_aload_0 C dX10_tollCost_8 <| zz_getR C fX10_26 (tX_K_X hX) (tX_R_now hX) dX10_tollCost_9 <| zpc 12 rfl <| ?_
  refine zy_callVV C hR [_, _] (c8_beg hX hO hm sd) lX10_155 rfl (tX_K_walk hX) (by decide) rfl ⟨zle rfl, zle rfl, zle rfl, zle rfl⟩ (zle rfl) dX10_tollCost_12 ?_
  intro t' h' hv; obtain ⟨rfl, hX, ag, hw, hsn⟩ := hv; have hw2 : cWk (zsI h' 82 0 (nI tl)) a D.2.1.1.1 none D.1 (dTl D tl).2.1 yP0 (x0 D sd) D.2.1.1.2.2 R := (hw.pl (by omega) hng (fun i k hi => by rw [zI_sI, if_neg (by omega)]) (fun _ _ => rfl) rfl rfl (by obtain ⟨⟨p0, p1, p2, p3⟩, p4, p5, p6, p7, p8⟩ := hw.1.2.2.1; refine ⟨⟨zI_self _ _ _ _, ?_, ?_, ?_⟩, ?_, ?_, ?_, ?_, ?_⟩ <;> rw [zI_sI, if_neg (by omega)] <;> assumption) (fun z => by cases z) rfl rfl rfl)
  refine zz_aload_0 C dX10_tollCost_15 <| zz_getR C fX10_41 (tX_K_X hX) (tX_R_walk hX) dX10_tollCost_16 <| zz_getR C fX10_234 (tX_K_walk hX) (tX_R_plan hX) dX10_tollCost_19 <| zz_iload_1 C dX10_tollCost_22 <| zy_putI C fX10_281 pX2_0 (tX_K_plan hX) dX10_tollCost_23 <| zz_aload_0 C dX10_tollCost_26 <| zz_getR C fX10_41 (tX_K_X hX) (tX_R_walk hX) dX10_tollCost_27 <| zz_iconst_0 C dX10_tollCost_30 <| zz_iload_2 C dX10_tollCost_31 <| zpc 32 rfl <| ?_
  refine zy_callVJ C hR [_, _] (c8_goOn hX (by omega) (hD1.w sd) pX0 (Nat.zero_le _) hw2 hO.2.2.2.1 0 ⟨by omega, fun z => absurd z (by omega), fun z => absurd z (by omega)⟩ d (by omega) (show D.2.2.2 + d < 2 ^ 30 by omega)) lX10_198 rfl (tX_K_walk hX) (by decide) rfl ⟨zle rfl, zle rfl, zle rfl, zle rfl⟩ (zle rfl) dX10_tollCost_32 ?_
  intro v t' h2 hv; obtain ⟨rfl, ag2, hw3, rfl⟩ := hv
  refine zy_lreturn C hE (zle rfl) (zle rfl) dX10_tollCost_35 ?_
  refine ⟨⟨rfl, ag.tr (((cAg.rf _).sI (by omega) (by omega)).tr ag2)⟩, ?_, hw3.2.1.2.2⟩
  rw [show (dDays (dTl D tl).1 (dTl D tl).2.1 yP0 R 0 d (x0 (dTl D tl) sd)).2.2.2.1.2.1 = 0 from dDays_cm rfl _ _ _ _, Nat.add_zero]
  rfl
theorem c10_toll1 (hX : zTX t a c e) (hO : dOk D Mo R) (hm : cSn h a D Mo R) (sd : Int32) (tl d q : Nat) (htl : tl ≤ 20) (hd1 : 1 ≤ d) (hd : d ≤ 366) (hq : q ≤ 1) : zMet E b l yX10_toll cX10_toll 6 (some .long) 9 0 0 [.ref (b + 0), .int (nI tl), .int (nI d), .int (nI q)] t h (qJ (fun v t' h' => v = lN (if q = 0 then (dDays D.1 (dTl D tl).2.1 yP0 R 0 d (x0 D sd)).2.2.2.1.1 else (dDays D.1 (dTl D tl).2.1 yP0 R 0 d (x0 D sd)).2.2.2.1.2.2) ∧ cAsk t a h t' h')) := by
  refine zMet.of (ls := [some (.ref (b + 0)), some (.int (nI tl)), some (.int (nI d)), some (.int (nI q)), none, none]) (by decide) (zle rfl) 2 rfl ?_
  intro G hlG C hR hE hin
  refine zz_iload_1 C dX10_toll_0 <| zpc 1 rfl <| ?_
  refine zz_if_lt C 14 dX10_toll_1 (by decide) (fun c1 => ?_) (fun c1 => ?_)
  · exact absurd c1 (nI_pos (by omega))
  · refine zz_iload_1 C dX10_toll_4 <| zz_bipush C 20 dX10_toll_5 (by decide) <| zpc 7 rfl <| ?_
    refine zz_icmp_gt C 14 dX10_toll_7 (by decide) (fun c7 => ?_) (fun c7 => ?_)
    · exact absurd c7 (nI_nlt (a := 20) htl (by omega))
    · refine zz_iconst_1 C dX10_toll_10 <| zz_goto C 15 dX10_toll_11 (by decide) <| zpc 15 rfl <| ?_
      refine zf_callSV C hR [_] (c10_demand1 _ (by decide)) lX10_76 rfl ⟨zle rfl, zle rfl, zle rfl, zle rfl⟩ (zle rfl) dX10_toll_15 ?_
      refine zz_iload_2 C dX10_toll_18 <| zpc 19 rfl <| ?_
      refine zf_callSV C hR [_] (c10_days1 d hd1 hd) lX10_192 rfl ⟨zle rfl, zle rfl, zle rfl, zle rfl⟩ (zle rfl) dX10_toll_19 ?_
      refine zz_iload_3 C dX10_toll_22 <| zpc 23 rfl <| ?_
      refine zz_if_eq C 31 dX10_toll_23 (by decide) (fun c23 => ?_) (fun c23 => ?_)
      · rw [show (0 : Int32) = nI 0 from rfl, nI_eq (by omega) (by omega)] at c23
        refine zz_iconst_1 C dX10_toll_31 <| zz_goto C 36 dX10_toll_32 (by decide) <| zpc 36 rfl <| ?_
        refine zf_callSV C hR [_] (c10_demand1 _ (by decide)) lX10_76 rfl ⟨zle rfl, zle rfl, zle rfl, zle rfl⟩ (zle rfl) dX10_toll_36 ?_
        refine zz_aload_0 C dX10_toll_39 <| zz_iload_1 C dX10_toll_40 <| zz_iload_2 C dX10_toll_41 <| zpc 42 rfl <| ?_
        refine zy_callVJ C hR [_, _] (c10_tollCost hX hO hm sd tl d htl hd) lX10_275 rfl (tX_K_X hX) (by decide) rfl ⟨zle rfl, zle rfl, zle rfl, zle rfl⟩ (zle rfl) dX10_toll_42 ?_
        intro v t' h' hv; obtain ⟨⟨rfl, ag⟩, rfl, hpd⟩ := hv; have hX := hX.wl (i := a) (tX_a hX)
        refine zz_lstore_4 C (zle rfl) rfl dX10_toll_45 <| zz_iload_3 C dX10_toll_47 <| zpc 48 rfl <| ?_
        refine zz_if_ne C 56 dX10_toll_48 (by decide) (fun c48 => ?_) (fun c48 => ?_)
        · rw [show (0 : Int32) = nI 0 from rfl, nI_eq (by omega) (by omega)] at c48
          refine zz_aload_0 C dX10_toll_56 <| zz_getR C fX10_41 (tX_K_X hX) (tX_R_walk hX) dX10_toll_57 <| zz_getR C fX10_179 (tX_K_walk hX) (tX_R_tally hX) dX10_toll_60 <| zz_getL C fX10_278 (tX_K_tally hX) dX10_toll_63 <| zpc 66 rfl <| ?_
          skip
          refine zy_lreturn C hE (zle rfl) (zle rfl) dX10_toll_66 ?_
          first
          | (rw [if_pos c48]; exact ⟨rfl, Or.inr rfl, ag.wd (by omega) (by omega)⟩)
          | (rw [if_neg c48, hpd]; exact ⟨rfl, Or.inr rfl, ag.wd (by omega) (by omega)⟩)
        · rw [show (0 : Int32) = nI 0 from rfl, nI_eq (by omega) (by omega)] at c48
          refine zz_lload_4 C dX10_toll_51 <| zz_goto C 66 dX10_toll_53 (by decide) <| zpc 66 rfl <| ?_
          skip
          refine zy_lreturn C hE (zle rfl) (zle rfl) dX10_toll_66 ?_
          first
          | (rw [if_pos c48]; exact ⟨rfl, Or.inr rfl, ag.wd (by omega) (by omega)⟩)
          | (rw [if_neg c48, hpd]; exact ⟨rfl, Or.inr rfl, ag.wd (by omega) (by omega)⟩)
      · rw [show (0 : Int32) = nI 0 from rfl, nI_eq (by omega) (by omega)] at c23
        refine zz_iload_3 C dX10_toll_26 <| zz_iconst_1 C dX10_toll_27 <| zpc 28 rfl <| ?_
        refine zz_icmp_ne C 35 dX10_toll_28 (by decide) (fun c28 => ?_) (fun c28 => ?_)
        · exfalso; rw [show (1 : Int32) = nI 1 from rfl, nI_eq (by omega) (by omega)] at c28; omega
        · refine zz_iconst_1 C dX10_toll_31 <| zz_goto C 36 dX10_toll_32 (by decide) <| zpc 36 rfl <| ?_
          refine zf_callSV C hR [_] (c10_demand1 _ (by decide)) lX10_76 rfl ⟨zle rfl, zle rfl, zle rfl, zle rfl⟩ (zle rfl) dX10_toll_36 ?_
          refine zz_aload_0 C dX10_toll_39 <| zz_iload_1 C dX10_toll_40 <| zz_iload_2 C dX10_toll_41 <| zpc 42 rfl <| ?_
          refine zy_callVJ C hR [_, _] (c10_tollCost hX hO hm sd tl d htl hd) lX10_275 rfl (tX_K_X hX) (by decide) rfl ⟨zle rfl, zle rfl, zle rfl, zle rfl⟩ (zle rfl) dX10_toll_42 ?_
          intro v t' h' hv; obtain ⟨⟨rfl, ag⟩, rfl, hpd⟩ := hv; have hX := hX.wl (i := a) (tX_a hX)
          refine zz_lstore_4 C (zle rfl) rfl dX10_toll_45 <| zz_iload_3 C dX10_toll_47 <| zpc 48 rfl <| ?_
          refine zz_if_ne C 56 dX10_toll_48 (by decide) (fun c48 => ?_) (fun c48 => ?_)
          · rw [show (0 : Int32) = nI 0 from rfl, nI_eq (by omega) (by omega)] at c48
            refine zz_aload_0 C dX10_toll_56 <| zz_getR C fX10_41 (tX_K_X hX) (tX_R_walk hX) dX10_toll_57 <| zz_getR C fX10_179 (tX_K_walk hX) (tX_R_tally hX) dX10_toll_60 <| zz_getL C fX10_278 (tX_K_tally hX) dX10_toll_63 <| zpc 66 rfl <| ?_
            skip
            refine zy_lreturn C hE (zle rfl) (zle rfl) dX10_toll_66 ?_
            first
            | (rw [if_pos c48]; exact ⟨rfl, Or.inr rfl, ag.wd (by omega) (by omega)⟩)
            | (rw [if_neg c48, hpd]; exact ⟨rfl, Or.inr rfl, ag.wd (by omega) (by omega)⟩)
          · rw [show (0 : Int32) = nI 0 from rfl, nI_eq (by omega) (by omega)] at c48
            refine zz_lload_4 C dX10_toll_51 <| zz_goto C 66 dX10_toll_53 (by decide) <| zpc 66 rfl <| ?_
            skip
            refine zy_lreturn C hE (zle rfl) (zle rfl) dX10_toll_66 ?_
            first
            | (rw [if_pos c48]; exact ⟨rfl, Or.inr rfl, ag.wd (by omega) (by omega)⟩)
            | (rw [if_neg c48, hpd]; exact ⟨rfl, Or.inr rfl, ag.wd (by omega) (by omega)⟩)
theorem c10_toll0 (hX : zTX t a c e) (hlt : l.stackTraces = false) (hf : t.1.2 = false) (x d z : Int32) (hno : ¬ ((∃ k, k ≤ 20 ∧ x = nI k) ∧ (∃ k, 1 ≤ k ∧ k ≤ 366 ∧ d = nI k) ∧ ∃ k, k ≤ 1 ∧ z = nI k)) : zMetX E b l yX10_toll cX10_toll 6 (some .long) 9 1 6 [.ref (b + 0), .int x, .int d, .int z] t h xA := by
  refine zMetX.of (ls := [some (.ref (b + 0)), some (.int x), some (.int d), some (.int z), none, none]) hlt (by decide) (zle rfl) 2 rfl ?_
  intro G hlG C hR hE
  rw [← hlG] at hlt
  by_cases hd : ∃ k, 1 ≤ k ∧ k ≤ 366 ∧ d = nI k
  · obtain ⟨n, h1, h2, rfl⟩ := hd
    refine zz_iload_1 C dX10_toll_0 <| zpc 1 rfl <| ?_
    refine zz_if_lt C 14 dX10_toll_1 (by decide) (fun c1 => ?_) (fun c1 => ?_)
    · refine zz_iconst_0 C dX10_toll_14 <| zpc 15 rfl <| ?_
      exact zx_callS C hR hE [_] (c10_demand0 hlt hf) lX10_76 rfl ⟨zle rfl, zle rfl, zle rfl, zle rfl⟩ (zle rfl) (zle rfl) (zle rfl) dX10_toll_15
    · refine zz_iload_1 C dX10_toll_4 <| zz_bipush C 20 dX10_toll_5 (by decide) <| zpc 7 rfl <| ?_
      refine zz_icmp_gt C 14 dX10_toll_7 (by decide) (fun c7 => ?_) (fun c7 => ?_)
      · refine zz_iconst_0 C dX10_toll_14 <| zpc 15 rfl <| ?_
        exact zx_callS C hR hE [_] (c10_demand0 hlt hf) lX10_76 rfl ⟨zle rfl, zle rfl, zle rfl, zle rfl⟩ (zle rfl) (zle rfl) (zle rfl) dX10_toll_15
      · refine zz_iconst_1 C dX10_toll_10 <| zz_goto C 15 dX10_toll_11 (by decide) <| zpc 15 rfl <| ?_
        refine zf_callSV C hR [_] (c10_demand1 _ (by decide)) lX10_76 rfl ⟨zle rfl, zle rfl, zle rfl, zle rfl⟩ (zle rfl) dX10_toll_15 ?_
        refine zz_iload_2 C dX10_toll_18 <| zpc 19 rfl <| ?_
        refine zf_callSV C hR [_] (c10_days1 n h1 h2) lX10_192 rfl ⟨zle rfl, zle rfl, zle rfl, zle rfl⟩ (zle rfl) dX10_toll_19 ?_
        refine zz_iload_3 C dX10_toll_22 <| zpc 23 rfl <| ?_
        refine zz_if_eq C 31 dX10_toll_23 (by decide) (fun c23 => ?_) (fun c23 => ?_)
        · refine zz_iconst_1 C dX10_toll_31 <| zz_goto C 36 dX10_toll_32 (by decide) <| zpc 36 rfl <| ?_
          obtain ⟨j, hj, ej⟩ := nI_of2 (x := x) (n := 20) (M := 20) rfl c1 (Int32.not_lt.mp c7)
          have hz : z = 0 ∨ z = 1 := by first | exact Or.inl c23 | exact Or.inr c28
          rcases hz with ez | ez
          · exact absurd ⟨⟨j, hj, ej⟩, ⟨n, h1, h2, rfl⟩, ⟨0, by omega, ez⟩⟩ hno
          · exact absurd ⟨⟨j, hj, ej⟩, ⟨n, h1, h2, rfl⟩, ⟨1, by omega, ez⟩⟩ hno
        · refine zz_iload_3 C dX10_toll_26 <| zz_iconst_1 C dX10_toll_27 <| zpc 28 rfl <| ?_
          refine zz_icmp_ne C 35 dX10_toll_28 (by decide) (fun c28 => ?_) (fun c28 => ?_)
          · refine zz_iconst_0 C dX10_toll_35 <| zpc 36 rfl <| ?_
            exact zx_callS C hR hE [_] (c10_demand0 hlt hf) lX10_76 rfl ⟨zle rfl, zle rfl, zle rfl, zle rfl⟩ (zle rfl) (zle rfl) (zle rfl) dX10_toll_36
          · refine zz_iconst_1 C dX10_toll_31 <| zz_goto C 36 dX10_toll_32 (by decide) <| zpc 36 rfl <| ?_
            obtain ⟨j, hj, ej⟩ := nI_of2 (x := x) (n := 20) (M := 20) rfl c1 (Int32.not_lt.mp c7)
            have hz : z = 0 ∨ z = 1 := by first | exact Or.inl c23 | exact Or.inr c28
            rcases hz with ez | ez
            · exact absurd ⟨⟨j, hj, ej⟩, ⟨n, h1, h2, rfl⟩, ⟨0, by omega, ez⟩⟩ hno
            · exact absurd ⟨⟨j, hj, ej⟩, ⟨n, h1, h2, rfl⟩, ⟨1, by omega, ez⟩⟩ hno
  ·
    refine zz_iload_1 C dX10_toll_0 <| zpc 1 rfl <| ?_
    refine zz_if_lt C 14 dX10_toll_1 (by decide) (fun c1 => ?_) (fun c1 => ?_)
    · refine zz_iconst_0 C dX10_toll_14 <| zpc 15 rfl <| ?_
      exact zx_callS C hR hE [_] (c10_demand0 hlt hf) lX10_76 rfl ⟨zle rfl, zle rfl, zle rfl, zle rfl⟩ (zle rfl) (zle rfl) (zle rfl) dX10_toll_15
    · refine zz_iload_1 C dX10_toll_4 <| zz_bipush C 20 dX10_toll_5 (by decide) <| zpc 7 rfl <| ?_
      refine zz_icmp_gt C 14 dX10_toll_7 (by decide) (fun c7 => ?_) (fun c7 => ?_)
      · refine zz_iconst_0 C dX10_toll_14 <| zpc 15 rfl <| ?_
        exact zx_callS C hR hE [_] (c10_demand0 hlt hf) lX10_76 rfl ⟨zle rfl, zle rfl, zle rfl, zle rfl⟩ (zle rfl) (zle rfl) (zle rfl) dX10_toll_15
      · refine zz_iconst_1 C dX10_toll_10 <| zz_goto C 15 dX10_toll_11 (by decide) <| zpc 15 rfl <| ?_
        refine zf_callSV C hR [_] (c10_demand1 _ (by decide)) lX10_76 rfl ⟨zle rfl, zle rfl, zle rfl, zle rfl⟩ (zle rfl) dX10_toll_15 ?_
        refine zz_iload_2 C dX10_toll_18 <| zpc 19 rfl <| ?_
        exact zx_callS C hR hE [_] (c10_days0 hlt hf d hd) lX10_192 rfl ⟨zle rfl, zle rfl, zle rfl, zle rfl⟩ (zle rfl) (zle rfl) (zle rfl) dX10_toll_19
theorem c10_othersCost (hX : zTX t a c e) (hO : dOk D Mo R) (hm : cSn h a D Mo R) (sd : Int32) (g rule d : Nat) (hg : g < 14) (h3 : rule ≤ 1) (hr1 : rule = 1 → 0 < R.1) (hd : d ≤ 366) (hl : Bool) : zMet E b l yX10_othersCost cX10_othersCost 5 (some .long) 8 0 0 [.ref (b + 0), .int (nI g), .int (nI rule), .int (nI d), .int (zb (hl = true))] t h (qJ (fun v t' h' => cCo t a h t' h' ∧ v = lN (dCo D (pAs (if hl = true then pCa yP0 g else yP0) g) R rule d sd))) := by
  have ha := tX_a2 hX
  have htd := hO.1.2.2.2.2
  have hng := hO.1.1.2.1.2.2.1
  have hpx : pX (pAs (if hl = true then pCa yP0 g else yP0) g) := by
    cases hl
    · exact ⟨(fun x z => by cases z), (fun x z => by cases z), (fun x z => by cases z)⟩
    · exact ⟨(fun x z => z), (fun x z => by cases z), (fun x z => by cases z)⟩
  have hD1 : sdOk D (pAs (if hl = true then pCa yP0 g else yP0) g) := by
    refine ⟨⟨hO.1.1.1, hO.1.1.2.1, ?_⟩, hO.1.2⟩
    cases hl
    · exact ⟨(fun x z => by cases z), (fun x z => by cases z), (by show 0 ≤ 6; decide), (fun x z => by cases z), (fun x z => by cases z; exact hg)⟩
    · exact ⟨(fun x z => by cases z), (fun x z => by cases z), (by show 0 ≤ 6; decide), (fun x z => by cases z; exact hg), (fun x z => by cases z; exact hg)⟩
  refine zMet.of (ls := [some (.ref (b + 0)), some (.int (nI g)), some (.int (nI rule)), some (.int (nI d)), some (.int (zb (hl = true)))]) (by decide) (zle rfl) 0 rfl ?_
  intro G hlG C hR hE hin
  refine zz_aload_0 C dX10_othersCost_0 <| zz_getR C fX10_41 (tX_K_X hX) (tX_R_walk hX) dX10_othersCost_1 <| zz_aload_0 C dX10_othersCost_4 <| zz_getR C fX10_19 (tX_K_X hX) (tX_R_land hX) dX10_othersCost_5 <| zz_aload_0 C dX10_othersCost_8 <| zz_getR C fX10_26 (tX_K_X hX) (tX_R_now hX) dX10_othersCost_9 <| zpc 12 rfl <| ?_
  refine zy_callVV C hR [_, _] (c8_beg hX hO hm sd) lX10_155 rfl (tX_K_walk hX) (by decide) rfl ⟨zle rfl, zle rfl, zle rfl, zle rfl⟩ (zle rfl) dX10_othersCost_12 ?_
  intro t' h' hv; obtain ⟨rfl, hX, ag, hw, hsn⟩ := hv; have hw2 : cWk (zsI (zsI h' 82 1 (nI g)) 82 2 (zb (hl = true))) a D.2.1.1.1 none D.1 D.2.1 (pAs (if hl = true then pCa yP0 g else yP0) g) (x0 D sd) D.2.1.1.2.2 R := (hw.pl (by omega) hng (fun i k hi => by rw [zI_sI, if_neg (by omega), zI_sI, if_neg (by omega)]) (fun _ _ => rfl) rfl rfl (by obtain ⟨⟨p0, p1, p2, p3⟩, p4, p5, p6, p7, p8⟩ := hw.1.2.2.1; cases hl <;> refine ⟨⟨?_, ?_, zI_self _ _ _ _, ?_⟩, ?_, ?_, ?_, ?_, ?_⟩ <;> rw [zI_sI, if_neg (by omega)] <;> first | exact zI_self _ _ _ _ | (rw [zI_sI, if_neg (by omega)]; assumption)) (fun z => by cases hl <;> cases z) rfl rfl rfl)
  refine zz_aload_0 C dX10_othersCost_15 <| zz_getR C fX10_41 (tX_K_X hX) (tX_R_walk hX) dX10_othersCost_16 <| zz_getR C fX10_234 (tX_K_walk hX) (tX_R_plan hX) dX10_othersCost_19 <| zz_iload_1 C dX10_othersCost_22 <| zy_putI C fX10_288 pX2_1 (tX_K_plan hX) dX10_othersCost_23 <| zz_aload_0 C dX10_othersCost_26 <| zz_getR C fX10_41 (tX_K_X hX) (tX_R_walk hX) dX10_othersCost_27 <| zz_getR C fX10_234 (tX_K_walk hX) (tX_R_plan hX) dX10_othersCost_30 <| zz_iload_4 C dX10_othersCost_33 <| zy_putZ C fX10_291 pX2_2 (by exact zb_01 _) (tX_K_plan hX) dX10_othersCost_35 <| zz_aload_0 C dX10_othersCost_38 <| zz_getR C fX10_41 (tX_K_X hX) (tX_R_walk hX) dX10_othersCost_39 <| zz_iload_2 C dX10_othersCost_42 <| zz_iload_3 C dX10_othersCost_43 <| zpc 44 rfl <| ?_
  refine zy_callVJ C hR [_, _] (c8_goOn hX (by omega) (hD1.w sd) hpx (Nat.zero_le _) hw2 hO.2.2.2.1 rule ⟨by omega, hr1, fun z => absurd z (by omega)⟩ d (by omega) (show D.2.2.2 + d < 2 ^ 30 by omega)) lX10_198 rfl (tX_K_walk hX) (by decide) rfl ⟨zle rfl, zle rfl, zle rfl, zle rfl⟩ (zle rfl) dX10_othersCost_44 ?_
  intro v t' h2 hv; obtain ⟨rfl, ag2, hw3, rfl⟩ := hv
  refine zz_aload_0 C dX10_othersCost_47 <| zz_getR C fX10_41 (tX_K_X hX) (tX_R_walk hX) dX10_othersCost_48 <| zz_getR C fX10_179 (tX_K_walk hX) (tX_R_tally hX) dX10_othersCost_51 <| zz_getL C fX10_294 (tX_K_tally hX) dX10_othersCost_54 <| zpc 57 rfl <| ?_
  rw [hw3.2.1.2.1]
  refine zz_lsub C dX10_othersCost_57 <| zpc 58 rfl <| ?_
  rw [lN_sub (by omega), Nat.add_sub_cancel]
  refine zy_lreturn C hE (zle rfl) (zle rfl) dX10_othersCost_58 ?_
  exact ⟨⟨rfl, ag.tr ((((cAg.rf _).sI (by omega) (by omega)).sI (by omega) (by omega)).tr ag2)⟩, rfl⟩
end CC
