/-! ===== the class: careless, each, hold, men, law ===== -/
theorem zsR_idem (t : zT) (i k : Nat) (v : Option Nat) : zsR (zsR t i k v) i k v = zsR t i k v := by
  unfold zsR
  refine congrArg (fun f => (t.1, t.2.1, f)) ?_
  funext j q
  show (if j = i ∧ q = k then v else if j = i ∧ q = k then v else t.2.2 j q) = _
  split <;> rfl
section CD
variable {E : zE} {b : Nat} {G : zG} {t : zT} {h : zH} {l : Launch} {a c e : Nat} {D : yD} {Mo : Nat × (Nat → Nat → Nat)} {R : Nat × (Nat → Nat)}
theorem cCo.tr {h1 h2 : zH} {t1 t2 : zT} (x : cCo t a h t1 h1) (y : cCo t1 a h1 t2 h2) : cCo t a h t2 h2 := by
  obtain ⟨rfl, x2⟩ := x
  obtain ⟨rfl, y2⟩ := y
  exact ⟨zsR_idem _ _ _ _, x2.tr y2⟩
theorem cCo.ask {h1 : zH} {t1 : zT} (x : cCo t a h t1 h1) : cAsk t a h t1 h1 := ⟨Or.inr x.1, x.2.wd (by omega) (by omega)⟩
theorem cCo.X {h1 : zH} {t1 : zT} (x : cCo t a h t1 h1) (hX : zTX t a c e) : zTX t1 a c a := by
  obtain ⟨rfl, -⟩ := x
  exact hX.wl (tX_a hX)
theorem cCo.sn {h1 : zH} {t1 : zT} (x : cCo t a h t1 h1) (hX : zTX t a c e) (hO : dOk D Mo R) (hm : cSn h a D Mo R) : cSn h1 a D Mo R := cSn.ag x.2 (by omega) (tX_a2 hX) hO hm
theorem cWk.st {h h' : zH} {e n0 : Nat} {ex : Option Nat} {L : yL} {A : yN} {p : yP} {x x' : yS} {N0 : Nat} (hm : cWk h e n0 ex L A p x N0 R) (he : e + 31 < 73) (hg : L.1.2.1 ≤ 14) (hR : R.1 ≤ 30) (q : ∀ i k, ¬ (i = 88 ∨ i = 89) → zI h' i k = zI h i k) (ql : ∀ i k, zL h' i k = zL h i k) (x2 : x'.2.1 = x.2.1) (x3 : x'.2.2 = x.2.2) (e1 : ∀ k, k < A.1.1 → zI h' 88 k = nI (x'.1.1 k) ∧ zI h' 89 k = nI (x'.1.2 k)) (e2 : ∀ k, A.1.1 ≤ k → k < 11 → zI h' 88 k = zI h 88 k ∧ zI h' 89 k = zI h 89 k) : cWk h' e n0 ex L A p x' N0 R := by
  obtain ⟨⟨h1, h2, ⟨⟨p0, p1, p2, p3⟩, p4, p5, p6, p7, p8⟩, ⟨⟨s1, s2⟩, s3, s4, s5⟩, h5⟩, ⟨h6, h7, h8⟩⟩ := hm
  have ag : cAg 88 89 h h' := ⟨fun i k hi => q i k (by omega), fun i k _ => ql i k⟩
  have rd : ∀ {i k : Nat} {v : Int32}, zI h i k = v → ¬ (i = 88 ∨ i = 89) → zI h' i k = v := fun e z => (q _ _ z).trans e
  unfold cWk cSd cTl
  rw [x2, x3]
  refine ⟨⟨h1.ag ag (by omega) hg, h2.ag ag (by omega), ⟨⟨rd p0 (by omega), rd p1 (by omega), rd p2 (by omega), rd p3 (by omega)⟩, rd p4 (by omega), rd p5 (by omega), rd p6 (by omega), rd p7 (by omega), rd p8 (by omega)⟩, ⟨⟨rd s1 (by omega), rd s2 (by omega)⟩, e1, fun k h1 h2 => ⟨(e2 k h1 h2).1.trans (s4 k h1 h2).1, (e2 k h1 h2).2.trans (s4 k h1 h2).2⟩, fun k hk => rd (s5 k hk) (by omega)⟩, rd h5 (by omega)⟩, ⟨(ql _ _).trans h6.1, (ql _ _).trans h6.2.1, (ql _ _).trans h6.2.2⟩, ⟨rd h7.1 (by omega), rd h7.2.1 (by omega), rd h7.2.2 (by omega)⟩, fun z => rd (h8 z) (by omega)⟩
theorem c10_careless1 (hX : zTX t a c e) (hO : dOk D Mo R) (hm : cSn h a D Mo R) (sd : Int32) (g d : Nat) (hg : g < D.1.1.2.1) (hd1 : 1 ≤ d) (hd : d ≤ 366) (hR0 : 0 < R.1) : zMet E b l yX10_careless cX10_careless 5 (some .long) 9 0 0 [.ref (b + 0), .int (nI g), .int (nI d)] t h (qJ (fun v t' h' => v = lN (dCo D (pAs (pCa yP0 g) g) R 1 d sd) - lN (dCo D (pAs yP0 g) R 1 d sd) ∧ cAsk t a h t' h')) := by
  have hng := hO.1.1.2.1.2.2.1
  refine zMet.of (ls := [some (.ref (b + 0)), some (.int (nI g)), some (.int (nI d)), none, none]) (by decide) (zle rfl) 2 rfl ?_
  intro G hlG C hR hE hin
  refine zz_aload_0 C dX10_careless_0 <| zz_iload_1 C dX10_careless_1 <| zpc 2 rfl <| ?_
  refine zf_callVV C hR [_] (c10_going1 hX hng hm.1.1.2.2.1 g hg) lX10_127 rfl (tX_K_X hX) (by decide) rfl ⟨zle rfl, zle rfl, zle rfl, zle rfl⟩ (zle rfl) dX10_careless_2 ?_
  refine zz_iload_2 C dX10_careless_5 <| zpc 6 rfl <| ?_
  refine zf_callSV C hR [_] (c10_days1 d hd1 hd) lX10_192 rfl ⟨zle rfl, zle rfl, zle rfl, zle rfl⟩ (zle rfl) dX10_careless_6 ?_
  refine zz_aload_0 C dX10_careless_9 <| zpc 10 rfl <| ?_
  refine zf_callVV C hR [] (c10_row1 hX hO.2.2.2.1.1 hR0 hm.2.2.2.1.2) lX10_231 rfl (tX_K_X hX) (by decide) rfl ⟨zle rfl, zle rfl, zle rfl, zle rfl⟩ (zle rfl) dX10_careless_10 ?_
  refine zz_aload_0 C dX10_careless_13 <| zz_iload_1 C dX10_careless_14 <| zz_iconst_1 C dX10_careless_15 <| zz_iload_2 C dX10_careless_16 <| zz_iconst_0 C dX10_careless_17 <| zpc 18 rfl <| ?_
  refine zy_callVJ C hR [_, _, _, _] (c10_othersCost hX hO hm sd g 1 d (by omega) (by omega) (fun _ => hR0) hd false) lX10_284 rfl (tX_K_X hX) (by decide) rfl ⟨zle rfl, zle rfl, zle rfl, zle rfl⟩ (zle rfl) dX10_careless_18 ?_
  intro v t' h' hv; obtain ⟨k1, rfl⟩ := hv; have hm := k1.sn hX hO hm; have hX := k1.X hX
  refine zz_lstore_3 C (zle rfl) rfl dX10_careless_21 <| zz_aload_0 C dX10_careless_22 <| zz_iload_1 C dX10_careless_23 <| zz_iconst_1 C dX10_careless_24 <| zz_iload_2 C dX10_careless_25 <| zz_iconst_1 C dX10_careless_26 <| zpc 27 rfl <| ?_
  refine zy_callVJ C hR [_, _, _, _] (c10_othersCost hX hO hm sd g 1 d (by omega) (by omega) (fun _ => hR0) hd true) lX10_284 rfl (tX_K_X hX) (by decide) rfl ⟨zle rfl, zle rfl, zle rfl, zle rfl⟩ (zle rfl) dX10_careless_27 ?_
  intro v t' h2 hv; obtain ⟨k2, rfl⟩ := hv; have hX := k2.X hX
  refine zz_lload_3 C dX10_careless_30 <| zz_lsub C dX10_careless_31 <| zpc 32 rfl <| ?_
  refine zy_lreturn C hE (zle rfl) (zle rfl) dX10_careless_32 ?_
  exact ⟨rfl, (k1.tr k2).ask⟩
theorem c10_careless0 (hX : zTX t a c e) (hlt : l.stackTraces = false) (hf : t.1.2 = false) (hO : dOk D Mo R) (hm : cSn h a D Mo R) (s d : Int32) (hs : ¬ ∃ k, k < D.1.1.2.1 ∧ s = nI k) : zMetX E b l yX10_careless cX10_careless 5 (some .long) 9 1 6 [.ref (b + 0), .int s, .int d] t h xN := by
  refine zMetX.of (ls := [some (.ref (b + 0)), some (.int s), some (.int d), none, none]) hlt (by decide) (zle rfl) 2 rfl ?_
  intro G hlG C hR hE
  rw [← hlG] at hlt
  refine zz_aload_0 C dX10_careless_0 <| zz_iload_1 C dX10_careless_1 <| zpc 2 rfl <| ?_
  exact zx_callV C hR hE [_] (c10_going0 hX hlt hf hO.1.1.2.1.2.2.1 hm.1.1.2.2.1 s hs) lX10_127 rfl (tX_K_X hX) (by decide) rfl ⟨zle rfl, zle rfl, zle rfl, zle rfl⟩ (zle rfl) (zle rfl) (zle rfl) dX10_careless_2
theorem c10_careless2 (hX : zTX t a c e) (hlt : l.stackTraces = false) (hf : t.1.2 = false) (hO : dOk D Mo R) (hm : cSn h a D Mo R) (g : Nat) (hg : g < D.1.1.2.1) (d : Int32) (hd : ¬ ∃ k, 1 ≤ k ∧ k ≤ 366 ∧ d = nI k) : zMetX E b l yX10_careless cX10_careless 5 (some .long) 9 1 6 [.ref (b + 0), .int (nI g), .int d] t h xA := by
  refine zMetX.of (ls := [some (.ref (b + 0)), some (.int (nI g)), some (.int d), none, none]) hlt (by decide) (zle rfl) 2 rfl ?_
  intro G hlG C hR hE
  rw [← hlG] at hlt
  refine zz_aload_0 C dX10_careless_0 <| zz_iload_1 C dX10_careless_1 <| zpc 2 rfl <| ?_
  refine zf_callVV C hR [_] (c10_going1 hX hO.1.1.2.1.2.2.1 hm.1.1.2.2.1 g hg) lX10_127 rfl (tX_K_X hX) (by decide) rfl ⟨zle rfl, zle rfl, zle rfl, zle rfl⟩ (zle rfl) dX10_careless_2 ?_
  refine zz_iload_2 C dX10_careless_5 <| zpc 6 rfl <| ?_
  exact zx_callS C hR hE [_] (c10_days0 hlt hf d hd) lX10_192 rfl ⟨zle rfl, zle rfl, zle rfl, zle rfl⟩ (zle rfl) (zle rfl) (zle rfl) dX10_careless_6
theorem c10_careless3 (hX : zTX t a c e) (hlt : l.stackTraces = false) (hf : t.1.2 = false) (hO : dOk D Mo R) (hm : cSn h a D Mo R) (g d : Nat) (hg : g < D.1.1.2.1) (hd1 : 1 ≤ d) (hd : d ≤ 366) (hR0 : R.1 = 0) : zMetX E b l yX10_careless cX10_careless 5 (some .long) 9 1 6 [.ref (b + 0), .int (nI g), .int (nI d)] t h xS := by
  have hr0 : zI h 68 4 = 0 := by rw [hm.2.2.2.1.2, hR0]; rfl
  refine zMetX.of (ls := [some (.ref (b + 0)), some (.int (nI g)), some (.int (nI d)), none, none]) hlt (by decide) (zle rfl) 2 rfl ?_
  intro G hlG C hR hE
  rw [← hlG] at hlt
  refine zz_aload_0 C dX10_careless_0 <| zz_iload_1 C dX10_careless_1 <| zpc 2 rfl <| ?_
  refine zf_callVV C hR [_] (c10_going1 hX hO.1.1.2.1.2.2.1 hm.1.1.2.2.1 g hg) lX10_127 rfl (tX_K_X hX) (by decide) rfl ⟨zle rfl, zle rfl, zle rfl, zle rfl⟩ (zle rfl) dX10_careless_2 ?_
  refine zz_iload_2 C dX10_careless_5 <| zpc 6 rfl <| ?_
  refine zf_callSV C hR [_] (c10_days1 d hd1 hd) lX10_192 rfl ⟨zle rfl, zle rfl, zle rfl, zle rfl⟩ (zle rfl) dX10_careless_6 ?_
  refine zz_aload_0 C dX10_careless_9 <| zpc 10 rfl <| ?_
  exact zx_callV C hR hE [] (c10_row0 hX hlt hf hr0) lX10_231 rfl (tX_K_X hX) (by decide) rfl ⟨zle rfl, zle rfl, zle rfl, zle rfl⟩ (zle rfl) (zle rfl) (zle rfl) dX10_careless_10
theorem c10_each1 (hX : zTX t a c e) (hO : dOk D Mo R) (hm : cSn h a D Mo R) (sd : Int32) (g d : Nat) (hg : g < D.1.1.2.1) (hd1 : 1 ≤ d) (hd : d ≤ 366) : zMet E b l yX10_each cX10_each 5 (some .long) 9 0 0 [.ref (b + 0), .int (nI g), .int (nI d)] t h (qJ (fun v t' h' => v = lN (dCo D (pAs yP0 g) R 0 d sd) - lN (dCo D (pAs (pAb yP0 g) g) R 0 d sd) ∧ cAsk t a h t' h')) := by
  have ha := tX_a2 hX
  have htd := hO.1.2.2.2.2
  have hng := hO.1.1.2.1.2.2.1
  have hpx : pX (pAs (pAb yP0 g) g) := ⟨(fun x z => by cases z), (fun x z => z), (fun x z => by cases z)⟩
  have hD1 : sdOk D (pAs (pAb yP0 g) g) := ⟨⟨hO.1.1.1, hO.1.1.2.1, (fun x z => by cases z; omega), (fun x z => by cases z), (by show 0 ≤ 6; decide), (fun x z => by cases z), (fun x z => by cases z; omega)⟩, hO.1.2⟩
  refine zMet.of (ls := [some (.ref (b + 0)), some (.int (nI g)), some (.int (nI d)), none, none]) (by decide) (zle rfl) 2 rfl ?_
  intro G hlG C hR hE hin
  refine zz_aload_0 C dX10_each_0 <| zz_iload_1 C dX10_each_1 <| zpc 2 rfl <| ?_
  refine zf_callVV C hR [_] (c10_going1 hX hng hm.1.1.2.2.1 g hg) lX10_127 rfl (tX_K_X hX) (by decide) rfl ⟨zle rfl, zle rfl, zle rfl, zle rfl⟩ (zle rfl) dX10_each_2 ?_
  refine zz_iload_2 C dX10_each_5 <| zpc 6 rfl <| ?_
  refine zf_callSV C hR [_] (c10_days1 d hd1 hd) lX10_192 rfl ⟨zle rfl, zle rfl, zle rfl, zle rfl⟩ (zle rfl) dX10_each_6 ?_
  refine zz_aload_0 C dX10_each_9 <| zz_iload_1 C dX10_each_10 <| zz_iconst_0 C dX10_each_11 <| zz_iload_2 C dX10_each_12 <| zz_iconst_0 C dX10_each_13 <| zpc 14 rfl <| ?_
  refine zy_callVJ C hR [_, _, _, _] (c10_othersCost hX hO hm sd g 0 d (by omega) (by omega) (fun z => absurd z (by omega)) hd false) lX10_284 rfl (tX_K_X hX) (by decide) rfl ⟨zle rfl, zle rfl, zle rfl, zle rfl⟩ (zle rfl) dX10_each_14 ?_
  intro v t' h' hv; obtain ⟨k1, rfl⟩ := hv; have hm := k1.sn hX hO hm; have hX := k1.X hX
  refine zz_lstore_3 C (zle rfl) rfl dX10_each_17 <| zz_aload_0 C dX10_each_18 <| zz_getR C fX10_41 (tX_K_X hX) (tX_R_walk hX) dX10_each_19 <| zz_aload_0 C dX10_each_22 <| zz_getR C fX10_19 (tX_K_X hX) (tX_R_land hX) dX10_each_23 <| zz_aload_0 C dX10_each_26 <| zz_getR C fX10_26 (tX_K_X hX) (tX_R_now hX) dX10_each_27 <| zpc 30 rfl <| ?_
  refine zy_callVV C hR [_, _] (c8_beg hX hO hm sd) lX10_155 rfl (tX_K_walk hX) (by decide) rfl ⟨zle rfl, zle rfl, zle rfl, zle rfl⟩ (zle rfl) dX10_each_30 ?_
  intro t' h2 hv; obtain ⟨et, hX, ag, hw, hsn⟩ := hv; have hw2 : cWk (zsI (zsI h2 82 1 (nI g)) 82 3 1) a D.2.1.1.1 none D.1 D.2.1 (pAs (pAb yP0 g) g) (x0 D sd) D.2.1.1.2.2 R := (hw.pl (by omega) hng (fun i k hi => by rw [zI_sI, if_neg (by omega), zI_sI, if_neg (by omega)]) (fun _ _ => rfl) rfl rfl (by obtain ⟨⟨p0, p1, p2, p3⟩, p4, p5, p6, p7, p8⟩ := hw.1.2.2.1; refine ⟨⟨?_, ?_, ?_, zI_self _ _ _ _⟩, ?_, ?_, ?_, ?_, ?_⟩ <;> rw [zI_sI, if_neg (by omega)] <;> first | exact zI_self _ _ _ _ | (rw [zI_sI, if_neg (by omega)]; assumption)) (fun z => by cases z) rfl rfl rfl)
  refine zz_aload_0 C dX10_each_33 <| zz_getR C fX10_41 (tX_K_X hX) (tX_R_walk hX) dX10_each_34 <| zz_getR C fX10_234 (tX_K_walk hX) (tX_R_plan hX) dX10_each_37 <| zz_iload_1 C dX10_each_40 <| zy_putI C fX10_288 pX2_1 (tX_K_plan hX) dX10_each_41 <| zz_aload_0 C dX10_each_44 <| zz_getR C fX10_41 (tX_K_X hX) (tX_R_walk hX) dX10_each_45 <| zz_getR C fX10_234 (tX_K_walk hX) (tX_R_plan hX) dX10_each_48 <| zz_iconst_1 C dX10_each_51 <| zy_putZ C fX10_297 pX2_3 (by decide) (tX_K_plan hX) dX10_each_52 <| zz_lload_3 C dX10_each_55 <| zz_aload_0 C dX10_each_56 <| zz_getR C fX10_41 (tX_K_X hX) (tX_R_walk hX) dX10_each_57 <| zz_iconst_0 C dX10_each_60 <| ?_
  refine zz_iload_2 C dX10_each_61 <| zpc 62 rfl <| ?_
  refine zy_callVJ C hR [_, _] (c8_goOn hX (by omega) (hD1.w sd) hpx (Nat.zero_le _) hw2 hO.2.2.2.1 0 ⟨by omega, fun z => absurd z (by omega), fun z => absurd z (by omega)⟩ d (by omega) (show D.2.2.2 + d < 2 ^ 30 by omega)) lX10_198 rfl (tX_K_walk hX) (by decide) rfl ⟨zle rfl, zle rfl, zle rfl, zle rfl⟩ (zle rfl) dX10_each_62 ?_
  intro v t' h3 hv; obtain ⟨rfl, ag2, hw3, rfl⟩ := hv
  refine zz_lsub C dX10_each_65 <| zpc 66 rfl <| ?_
  refine zy_lreturn C hE (zle rfl) (zle rfl) dX10_each_66 ?_
  refine ⟨?_, (k1.tr ⟨et, ag.tr ((((cAg.rf _).sI (by omega) (by omega)).sI (by omega) (by omega)).tr ag2)⟩).ask⟩
  rw [show (dDays D.1 D.2.1 (pAs (pAb yP0 g) g) R 0 d (x0 D sd)).2.2.2.1.2.1 = 0 from dDays_ab (g0 := g) rfl rfl _ _ _ _, Nat.add_zero]
  rfl
theorem c10_each0 (hX : zTX t a c e) (hlt : l.stackTraces = false) (hf : t.1.2 = false) (hO : dOk D Mo R) (hm : cSn h a D Mo R) (s d : Int32) (hs : ¬ ∃ k, k < D.1.1.2.1 ∧ s = nI k) : zMetX E b l yX10_each cX10_each 5 (some .long) 9 1 6 [.ref (b + 0), .int s, .int d] t h xN := by
  refine zMetX.of (ls := [some (.ref (b + 0)), some (.int s), some (.int d), none, none]) hlt (by decide) (zle rfl) 2 rfl ?_
  intro G hlG C hR hE
  rw [← hlG] at hlt
  refine zz_aload_0 C dX10_each_0 <| zz_iload_1 C dX10_each_1 <| zpc 2 rfl <| ?_
  exact zx_callV C hR hE [_] (c10_going0 hX hlt hf hO.1.1.2.1.2.2.1 hm.1.1.2.2.1 s hs) lX10_127 rfl (tX_K_X hX) (by decide) rfl ⟨zle rfl, zle rfl, zle rfl, zle rfl⟩ (zle rfl) (zle rfl) (zle rfl) dX10_each_2
theorem c10_each2 (hX : zTX t a c e) (hlt : l.stackTraces = false) (hf : t.1.2 = false) (hO : dOk D Mo R) (hm : cSn h a D Mo R) (g : Nat) (hg : g < D.1.1.2.1) (d : Int32) (hd : ¬ ∃ k, 1 ≤ k ∧ k ≤ 366 ∧ d = nI k) : zMetX E b l yX10_each cX10_each 5 (some .long) 9 1 6 [.ref (b + 0), .int (nI g), .int d] t h xA := by
  refine zMetX.of (ls := [some (.ref (b + 0)), some (.int (nI g)), some (.int d), none, none]) hlt (by decide) (zle rfl) 2 rfl ?_
  intro G hlG C hR hE
  rw [← hlG] at hlt
  refine zz_aload_0 C dX10_each_0 <| zz_iload_1 C dX10_each_1 <| zpc 2 rfl <| ?_
  refine zf_callVV C hR [_] (c10_going1 hX hO.1.1.2.1.2.2.1 hm.1.1.2.2.1 g hg) lX10_127 rfl (tX_K_X hX) (by decide) rfl ⟨zle rfl, zle rfl, zle rfl, zle rfl⟩ (zle rfl) dX10_each_2 ?_
  refine zz_iload_2 C dX10_each_5 <| zpc 6 rfl <| ?_
  exact zx_callS C hR hE [_] (c10_days0 hlt hf d hd) lX10_192 rfl ⟨zle rfl, zle rfl, zle rfl, zle rfl⟩ (zle rfl) (zle rfl) (zle rfl) dX10_each_6
theorem c10_heldCost (hX : zTX t a c e) (hO : dOk D Mo R) (hm : cSn h a D Mo R) (sd : Int32) (g y d : Nat) (hg : g < 14) (hy : y ≤ 6) (hd : d ≤ 366) : zMet E b l yX10_heldCost cX10_heldCost 4 (some .long) 8 0 0 [.ref (b + 0), .int (nI g), .int (nI y), .int (nI d)] t h (qJ (fun v t' h' => cCo t a h t' h' ∧ v = lN (dCo D (pHe yP0 g y) R 0 d sd))) := by
  have ha := tX_a2 hX
  have htd := hO.1.2.2.2.2
  have hng := hO.1.1.2.1.2.2.1
  have hpx : pX (pAs (pHe yP0 g y) g) := ⟨(fun x z => by cases z), (fun x z => by cases z), (fun x z => z)⟩
  have hD1 : sdOk D (pAs (pHe yP0 g y) g) := ⟨⟨hO.1.1.1, hO.1.1.2.1, (fun x z => by cases z), (fun x z => by cases z; exact hg), hy, (fun x z => by cases z), (fun x z => by cases z; exact hg)⟩, hO.1.2⟩
  refine zMet.of (ls := [some (.ref (b + 0)), some (.int (nI g)), some (.int (nI y)), some (.int (nI d))]) (by decide) (zle rfl) 0 rfl ?_
  intro G hlG C hR hE hin
  refine zz_aload_0 C dX10_heldCost_0 <| zz_getR C fX10_41 (tX_K_X hX) (tX_R_walk hX) dX10_heldCost_1 <| zz_aload_0 C dX10_heldCost_4 <| zz_getR C fX10_19 (tX_K_X hX) (tX_R_land hX) dX10_heldCost_5 <| zz_aload_0 C dX10_heldCost_8 <| zz_getR C fX10_26 (tX_K_X hX) (tX_R_now hX) dX10_heldCost_9 <| zpc 12 rfl <| ?_
  refine zy_callVV C hR [_, _] (c8_beg hX hO hm sd) lX10_155 rfl (tX_K_walk hX) (by decide) rfl ⟨zle rfl, zle rfl, zle rfl, zle rfl⟩ (zle rfl) dX10_heldCost_12 ?_
  intro t' h2 hv; obtain ⟨rfl, hX, ag, hw, hsn⟩ := hv; have hw2 : cWk (zsI (zsI h2 82 1 (nI g)) 82 4 (nI y)) a D.2.1.1.1 none D.1 D.2.1 (pAs (pHe yP0 g y) g) (x0 D sd) D.2.1.1.2.2 R := (hw.pl (by omega) hng (fun i k hi => by rw [zI_sI, if_neg (by omega), zI_sI, if_neg (by omega)]) (fun _ _ => rfl) rfl rfl (by obtain ⟨⟨p0, p1, p2, p3⟩, p4, p5, p6, p7, p8⟩ := hw.1.2.2.1; refine ⟨⟨?_, ?_, ?_, ?_⟩, zI_self _ _ _ _, ?_, ?_, ?_, ?_⟩ <;> rw [zI_sI, if_neg (by omega)] <;> first | exact zI_self _ _ _ _ | (rw [zI_sI, if_neg (by omega)]; assumption)) (fun z => by cases z) rfl rfl rfl)
  refine zz_aload_0 C dX10_heldCost_15 <| zz_getR C fX10_41 (tX_K_X hX) (tX_R_walk hX) dX10_heldCost_16 <| zz_getR C fX10_234 (tX_K_walk hX) (tX_R_plan hX) dX10_heldCost_19 <| zz_iload_1 C dX10_heldCost_22 <| zy_putI C fX10_288 pX2_1 (tX_K_plan hX) dX10_heldCost_23 <| zz_aload_0 C dX10_heldCost_26 <| zz_getR C fX10_41 (tX_K_X hX) (tX_R_walk hX) dX10_heldCost_27 <| zz_getR C fX10_234 (tX_K_walk hX) (tX_R_plan hX) dX10_heldCost_30 <| zz_iload_2 C dX10_heldCost_33 <| zy_putI C fX10_304 pX2_4 (tX_K_plan hX) dX10_heldCost_34 <| zz_aload_0 C dX10_heldCost_37 <| zz_getR C fX10_41 (tX_K_X hX) (tX_R_walk hX) dX10_heldCost_38 <| zz_iconst_0 C dX10_heldCost_41 <| zz_iload_3 C dX10_heldCost_42 <| zpc 43 rfl <| ?_
  refine zy_callVJ C hR [_, _] (c8_goOn hX (by omega) (hD1.w sd) hpx (Nat.zero_le _) hw2 hO.2.2.2.1 0 ⟨by omega, fun z => absurd z (by omega), fun z => absurd z (by omega)⟩ d (by omega) (show D.2.2.2 + d < 2 ^ 30 by omega)) lX10_198 rfl (tX_K_walk hX) (by decide) rfl ⟨zle rfl, zle rfl, zle rfl, zle rfl⟩ (zle rfl) dX10_heldCost_43 ?_
  intro v t' h3 hv; obtain ⟨rfl, ag2, hw3, rfl⟩ := hv
  refine zy_lreturn C hE (zle rfl) (zle rfl) dX10_heldCost_46 ?_
  refine ⟨⟨rfl, ag.tr ((((cAg.rf _).sI (by omega) (by omega)).sI (by omega) (by omega)).tr ag2)⟩, ?_⟩
  rw [dCo_as (p := pHe yP0 g y) rfl g R d sd]
theorem c10_hold1 (hX : zTX t a c e) (hO : dOk D Mo R) (hm : cSn h a D Mo R) (sd : Int32) (g y d : Nat) (hg : g < D.1.1.2.1) (hy1 : 1 ≤ y) (hy : y ≤ D.1.2.1 g 5) (hd1 : 1 ≤ d) (hd : d ≤ 366) : zMet E b l yX10_hold cX10_hold 4 (some .long) 9 0 0 [.ref (b + 0), .int (nI g), .int (nI y), .int (nI d)] t h (qJ (fun v t' h' => v = lN (dCo D yP0 R 0 d sd) - lN (dCo D (pHe yP0 g y) R 0 d sd) ∧ cAsk t a h t' h')) := by
  have hng := hO.1.1.2.1.2.2.1
  have g5 := hm.1.2.1 g hg 5 (by omega)
  have hgg := hO.1.1.2.1.2.2.2.2.1 g hg
  refine zMet.of (ls := [some (.ref (b + 0)), some (.int (nI g)), some (.int (nI y)), some (.int (nI d))]) (by decide) (zle rfl) 0 rfl ?_
  intro G hlG C hR hE hin
  refine zz_aload_0 C dX10_hold_0 <| zz_iload_1 C dX10_hold_1 <| zpc 2 rfl <| ?_
  refine zf_callVV C hR [_] (c10_going1 hX hng hm.1.1.2.2.1 g hg) lX10_127 rfl (tX_K_X hX) (by decide) rfl ⟨zle rfl, zle rfl, zle rfl, zle rfl⟩ (zle rfl) dX10_hold_2 ?_
  refine zz_iload_2 C dX10_hold_5 <| zz_iconst_1 C dX10_hold_6 <| zpc 7 rfl <| ?_
  refine zz_icmp_lt C 29 dX10_hold_7 (by decide) (fun c7 => ?_) (fun c7 => ?_)
  · exact absurd c7 (nI_nlt (a := y) (b := 1) hy1 (by omega))
  · refine zz_iload_2 C dX10_hold_10 <| zz_aload_0 C dX10_hold_11 <| zz_getR C fX10_19 (tX_K_X hX) (tX_R_land hX) dX10_hold_12 <| zz_getR C fX10_130 (tL_K (tX_La hX)) (tL_R_goingFacts (tX_La hX)) dX10_hold_15 <| zz_iload_1 C dX10_hold_18 <| zc_row C _ (tL_K_goingFacts (tX_La hX)) (tL_row_goingFacts (tX_La hX)) (znI (by omega)) (by omega) dX10_hold_19 <| fun r19 => ?_
    refine zz_iconst_5 C dX10_hold_20 <| zc_iaload C 5 (tL_KR_goingFacts (tX_La hX) _ r19) (zlit _ (by decide)) (by decide) dX10_hold_21 <| zpc 22 rfl <| ?_
    rw [g5]
    refine zz_icmp_gt C 29 dX10_hold_22 (by decide) (fun c22 => ?_) (fun c22 => ?_)
    · exact absurd c22 (nI_nlt hy (by omega))
    · refine zz_iconst_1 C dX10_hold_25 <| zz_goto C 30 dX10_hold_26 (by decide) <| zpc 30 rfl <| ?_
      refine zf_callSV C hR [_] (c10_demand1 _ (by decide)) lX10_76 rfl ⟨zle rfl, zle rfl, zle rfl, zle rfl⟩ (zle rfl) dX10_hold_30 ?_
      refine zz_iload_3 C dX10_hold_33 <| zpc 34 rfl <| ?_
      refine zf_callSV C hR [_] (c10_days1 d hd1 hd) lX10_192 rfl ⟨zle rfl, zle rfl, zle rfl, zle rfl⟩ (zle rfl) dX10_hold_34 ?_
      refine zz_aload_0 C dX10_hold_37 <| zz_iload_3 C dX10_hold_38 <| zpc 39 rfl <| ?_
      refine zy_callVJ C hR [_] (c10_openCost hX hO hm sd d hd) lX10_271 rfl (tX_K_X hX) (by decide) rfl ⟨zle rfl, zle rfl, zle rfl, zle rfl⟩ (zle rfl) dX10_hold_39 ?_
      intro v t' h' hv; obtain ⟨k1, rfl⟩ := hv; have hm := k1.sn hX hO hm; have hX := k1.X hX
      refine zz_aload_0 C dX10_hold_42 <| zz_iload_1 C dX10_hold_43 <| zz_iload_2 C dX10_hold_44 <| zz_iload_3 C dX10_hold_45 <| zpc 46 rfl <| ?_
      refine zy_callVJ C hR [_, _, _] (c10_heldCost hX hO hm sd g y d (by omega) (by omega) hd) lX10_300 rfl (tX_K_X hX) (by decide) rfl ⟨zle rfl, zle rfl, zle rfl, zle rfl⟩ (zle rfl) dX10_hold_46 ?_
      intro v t' h2 hv; obtain ⟨k2, rfl⟩ := hv; have hX := k2.X hX
      refine zz_lsub C dX10_hold_49 <| zpc 50 rfl <| ?_
      refine zy_lreturn C hE (zle rfl) (zle rfl) dX10_hold_50 ?_
      exact ⟨rfl, (k1.tr k2).ask⟩
theorem c10_hold0 (hX : zTX t a c e) (hlt : l.stackTraces = false) (hf : t.1.2 = false) (hO : dOk D Mo R) (hm : cSn h a D Mo R) (s y d : Int32) (hs : ¬ ∃ k, k < D.1.1.2.1 ∧ s = nI k) : zMetX E b l yX10_hold cX10_hold 4 (some .long) 9 1 6 [.ref (b + 0), .int s, .int y, .int d] t h xN := by
  refine zMetX.of (ls := [some (.ref (b + 0)), some (.int s), some (.int y), some (.int d)]) hlt (by decide) (zle rfl) 0 rfl ?_
  intro G hlG C hR hE
  rw [← hlG] at hlt
  refine zz_aload_0 C dX10_hold_0 <| zz_iload_1 C dX10_hold_1 <| zpc 2 rfl <| ?_
  exact zx_callV C hR hE [_] (c10_going0 hX hlt hf hO.1.1.2.1.2.2.1 hm.1.1.2.2.1 s hs) lX10_127 rfl (tX_K_X hX) (by decide) rfl ⟨zle rfl, zle rfl, zle rfl, zle rfl⟩ (zle rfl) (zle rfl) (zle rfl) dX10_hold_2
theorem c10_hold2 (hX : zTX t a c e) (hlt : l.stackTraces = false) (hf : t.1.2 = false) (hO : dOk D Mo R) (hm : cSn h a D Mo R) (g : Nat) (hg : g < D.1.1.2.1) (y d : Int32) (hno : ¬ ((∃ k, 1 ≤ k ∧ k ≤ D.1.2.1 g 5 ∧ y = nI k) ∧ ∃ k, 1 ≤ k ∧ k ≤ 366 ∧ d = nI k)) : zMetX E b l yX10_hold cX10_hold 4 (some .long) 9 1 6 [.ref (b + 0), .int (nI g), .int y, .int d] t h xA := by
  have hng := hO.1.1.2.1.2.2.1
  have g5 := hm.1.2.1 g hg 5 (by omega)
  have hgg := hO.1.1.2.1.2.2.2.2.1 g hg
  refine zMetX.of (ls := [some (.ref (b + 0)), some (.int (nI g)), some (.int y), some (.int d)]) hlt (by decide) (zle rfl) 0 rfl ?_
  intro G hlG C hR hE
  rw [← hlG] at hlt
  refine zz_aload_0 C dX10_hold_0 <| zz_iload_1 C dX10_hold_1 <| zpc 2 rfl <| ?_
  refine zf_callVV C hR [_] (c10_going1 hX hO.1.1.2.1.2.2.1 hm.1.1.2.2.1 g hg) lX10_127 rfl (tX_K_X hX) (by decide) rfl ⟨zle rfl, zle rfl, zle rfl, zle rfl⟩ (zle rfl) dX10_hold_2 ?_
  refine zz_iload_2 C dX10_hold_5 <| zz_iconst_1 C dX10_hold_6 <| zpc 7 rfl <| ?_
  refine zz_icmp_lt C 29 dX10_hold_7 (by decide) (fun c7 => ?_) (fun c7 => ?_)
  · refine zz_iconst_0 C dX10_hold_29 <| zpc 30 rfl <| ?_
    exact zx_callS C hR hE [_] (c10_demand0 hlt hf) lX10_76 rfl ⟨zle rfl, zle rfl, zle rfl, zle rfl⟩ (zle rfl) (zle rfl) (zle rfl) dX10_hold_30
  · refine zz_iload_2 C dX10_hold_10 <| zz_aload_0 C dX10_hold_11 <| zz_getR C fX10_19 (tX_K_X hX) (tX_R_land hX) dX10_hold_12 <| zz_getR C fX10_130 (tL_K (tX_La hX)) (tL_R_goingFacts (tX_La hX)) dX10_hold_15 <| zz_iload_1 C dX10_hold_18 <| zc_row C _ (tL_K_goingFacts (tX_La hX)) (tL_row_goingFacts (tX_La hX)) (znI (by omega)) (by omega) dX10_hold_19 <| fun r19 => ?_
    refine zz_iconst_5 C dX10_hold_20 <| zc_iaload C 5 (tL_KR_goingFacts (tX_La hX) _ r19) (zlit _ (by decide)) (by decide) dX10_hold_21 <| zpc 22 rfl <| ?_
    rw [g5]
    refine zz_icmp_gt C 29 dX10_hold_22 (by decide) (fun c22 => ?_) (fun c22 => ?_)
    · refine zz_iconst_0 C dX10_hold_29 <| zpc 30 rfl <| ?_
      exact zx_callS C hR hE [_] (c10_demand0 hlt hf) lX10_76 rfl ⟨zle rfl, zle rfl, zle rfl, zle rfl⟩ (zle rfl) (zle rfl) (zle rfl) dX10_hold_30
    · refine zz_iconst_1 C dX10_hold_25 <| zz_goto C 30 dX10_hold_26 (by decide) <| zpc 30 rfl <| ?_
      refine zf_callSV C hR [_] (c10_demand1 _ (by decide)) lX10_76 rfl ⟨zle rfl, zle rfl, zle rfl, zle rfl⟩ (zle rfl) dX10_hold_30 ?_
      refine zz_iload_3 C dX10_hold_33 <| zpc 34 rfl <| ?_
      exact zx_callS C hR hE [_] (c10_days0 hlt hf d (fun z => hno ⟨(frTo _ (D.1.2.1 g 5) rfl (by omega)).mp ⟨Int32.not_lt.mp c7, Int32.not_lt.mp c22⟩, z⟩)) lX10_192 rfl ⟨zle rfl, zle rfl, zle rfl, zle rfl⟩ (zle rfl) (zle rfl) (zle rfl) dX10_hold_34
theorem c10_mendedCost (hX : zTX t a c e) (hO : dOk D Mo R) (hm : cSn h a D Mo R) (sd : Int32) (k d : Nat) (hk : k < D.2.1.1.1) (hd : d ≤ 366) : zMet E b l yX10_mendedCost cX10_mendedCost 3 (some .long) 8 0 0 [.ref (b + 0), .int (nI k), .int (nI d)] t h (qJ (fun v t' h' => cCo t a h t' h' ∧ v = lN (dCo (dMe D k) yP0 R 0 d sd))) := by
  have ha := tX_a2 hX
  have htd := hO.1.2.2.2.2
  have hng := hO.1.1.2.1.2.2.1
  have hn := hO.2.2.1
  have hR3 := hO.2.2.2.1.1
  refine zMet.of (ls := [some (.ref (b + 0)), some (.int (nI k)), some (.int (nI d))]) (by decide) (zle rfl) 0 rfl ?_
  intro G hlG C hR hE hin
  refine zz_aload_0 C dX10_mendedCost_0 <| zz_getR C fX10_41 (tX_K_X hX) (tX_R_walk hX) dX10_mendedCost_1 <| zz_aload_0 C dX10_mendedCost_4 <| zz_getR C fX10_19 (tX_K_X hX) (tX_R_land hX) dX10_mendedCost_5 <| zz_aload_0 C dX10_mendedCost_8 <| zz_getR C fX10_26 (tX_K_X hX) (tX_R_now hX) dX10_mendedCost_9 <| zpc 12 rfl <| ?_
  refine zy_callVV C hR [_, _] (c8_beg hX hO hm sd) lX10_155 rfl (tX_K_walk hX) (by decide) rfl ⟨zle rfl, zle rfl, zle rfl, zle rfl⟩ (zle rfl) dX10_mendedCost_12 ?_
  intro t' h2 hv; obtain ⟨rfl, hX, ag, hw, hsn⟩ := hv; have hr5 := hsn.2.2.1.2.1; have hw2 : cWk (zsI (zsI h2 88 k 0) 89 k (nI D.2.1.1.2.2)) a D.2.1.1.1 none D.1 D.2.1 yP0 (x0 (dMe D k) sd) D.2.1.1.2.2 R := (cWk.st (x' := x0 (dMe D k) sd) hw (by omega) hng hR3 (fun i k hi => by rw [zI_sI, if_neg (by omega), zI_sI, if_neg (by omega)]) (fun _ _ => rfl) rfl rfl (fun j hj => ⟨(by rw [zI_sI, if_neg (by omega), zI_sI]; show _ = nI (nUp D.2.2.1.1 k 0 j); unfold nUp; by_cases q : j = k; rw [if_pos ⟨rfl, q⟩, if_pos q]; rfl; rw [if_neg (fun z => q z.2), if_neg q]; exact (hw.1.2.2.2.1.2.1 j hj).1), (by rw [zI_sI]; show _ = nI (nUp D.2.2.1.2 k D.2.1.1.2.2 j); unfold nUp; by_cases q : j = k; rw [if_pos ⟨rfl, q⟩, if_pos q]; rw [if_neg (fun z => q z.2), if_neg q, zI_sI, if_neg (by omega)]; exact (hw.1.2.2.2.1.2.1 j hj).2)⟩) (fun j h1 h2 => ⟨(by rw [zI_sI, if_neg (by omega), zI_sI, if_neg (by omega)]), (by rw [zI_sI, if_neg (by omega), zI_sI, if_neg (by omega)])⟩))
  refine zz_aload_0 C dX10_mendedCost_15 <| zz_getR C fX10_41 (tX_K_X hX) (tX_R_walk hX) dX10_mendedCost_16 <| zz_getR C fX10_172 (tX_K_walk hX) (tX_R_state hX) dX10_mendedCost_19 <| zz_iload_1 C dX10_mendedCost_22 <| zz_aload_0 C dX10_mendedCost_23 <| zz_getR C fX10_19 (tX_K_X hX) (tX_R_land hX) dX10_mendedCost_24 <| zz_getI C fX10_63 (tL_K (tX_La hX)) dX10_mendedCost_27 <| zpc 30 rfl <| ?_
  rw [hr5]
  refine zf_callVV C hR [_, _] (c6_makeWhole (tX_S87 hX) k (by omega) _) lX10_313 rfl (tS_K (tX_S87 hX)) (by decide) rfl ⟨zle rfl, zle rfl, zle rfl, zle rfl⟩ (zle rfl) dX10_mendedCost_30 ?_
  refine zz_aload_0 C dX10_mendedCost_33 <| zz_getR C fX10_41 (tX_K_X hX) (tX_R_walk hX) dX10_mendedCost_34 <| zz_iconst_0 C dX10_mendedCost_37 <| zz_iload_2 C dX10_mendedCost_38 <| zpc 39 rfl <| ?_
  refine zy_callVJ C hR [_, _] (c8_goOn hX (by omega) ((dMe_ok hO.1 k).w sd) pX0 (Nat.zero_le _) hw2 hO.2.2.2.1 0 ⟨by omega, fun z => absurd z (by omega), fun z => absurd z (by omega)⟩ d (by omega) (show D.2.2.2 + d < 2 ^ 30 by omega)) lX10_198 rfl (tX_K_walk hX) (by decide) rfl ⟨zle rfl, zle rfl, zle rfl, zle rfl⟩ (zle rfl) dX10_mendedCost_39 ?_
  intro v t' h3 hv; obtain ⟨rfl, ag2, hw3, rfl⟩ := hv
  refine zy_lreturn C hE (zle rfl) (zle rfl) dX10_mendedCost_42 ?_
  refine ⟨⟨rfl, ag.tr ((((cAg.rf _).sI (by omega) (by omega)).sI (by omega) (by omega)).tr ag2)⟩, ?_⟩
  rw [show (dDays D.1 D.2.1 yP0 R 0 d (x0 (dMe D k) sd)).2.2.2.1.2.1 = 0 from dDays_cm rfl _ _ _ _, Nat.add_zero]
  rfl
theorem c10_men1 (hX : zTX t a c e) (hO : dOk D Mo R) (hm : cSn h a D Mo R) (sd : Int32) (k d : Nat) (hk : k < D.2.1.1.1) (hd1 : 1 ≤ d) (hd : d ≤ 366) : zMet E b l yX10_men cX10_men 3 (some .long) 9 0 0 [.ref (b + 0), .int (nI k), .int (nI d)] t h (qJ (fun v t' h' => v = lN (dCo D yP0 R 0 d sd) - lN (dCo (dMe D k) yP0 R 0 d sd) ∧ cAsk t a h t' h')) := by
  refine zMet.of (ls := [some (.ref (b + 0)), some (.int (nI k)), some (.int (nI d))]) (by decide) (zle rfl) 0 rfl ?_
  intro G hlG C hR hE hin
  refine zz_aload_0 C dX10_men_0 <| zz_iload_1 C dX10_men_1 <| zpc 2 rfl <| ?_
  refine zf_callVV C hR [_] (c10_road1 hX hO.2.2.1 hm.1.1.2.1 k hk) lX10_110 rfl (tX_K_X hX) (by decide) rfl ⟨zle rfl, zle rfl, zle rfl, zle rfl⟩ (zle rfl) dX10_men_2 ?_
  refine zz_iload_2 C dX10_men_5 <| zpc 6 rfl <| ?_
  refine zf_callSV C hR [_] (c10_days1 d hd1 hd) lX10_192 rfl ⟨zle rfl, zle rfl, zle rfl, zle rfl⟩ (zle rfl) dX10_men_6 ?_
  refine zz_aload_0 C dX10_men_9 <| zz_iload_2 C dX10_men_10 <| zpc 11 rfl <| ?_
  refine zy_callVJ C hR [_] (c10_openCost hX hO hm sd d hd) lX10_271 rfl (tX_K_X hX) (by decide) rfl ⟨zle rfl, zle rfl, zle rfl, zle rfl⟩ (zle rfl) dX10_men_11 ?_
  intro v t' h' hv; obtain ⟨k1, rfl⟩ := hv; have hm := k1.sn hX hO hm; have hX := k1.X hX
  refine zz_aload_0 C dX10_men_14 <| zz_iload_1 C dX10_men_15 <| zz_iload_2 C dX10_men_16 <| zpc 17 rfl <| ?_
  refine zy_callVJ C hR [_, _] (c10_mendedCost hX hO hm sd k d hk hd) lX10_317 rfl (tX_K_X hX) (by decide) rfl ⟨zle rfl, zle rfl, zle rfl, zle rfl⟩ (zle rfl) dX10_men_17 ?_
  intro v t' h2 hv; obtain ⟨k2, rfl⟩ := hv; have hX := k2.X hX
  refine zz_lsub C dX10_men_20 <| zpc 21 rfl <| ?_
  refine zy_lreturn C hE (zle rfl) (zle rfl) dX10_men_21 ?_
  exact ⟨rfl, (k1.tr k2).ask⟩
theorem c10_men0 (hX : zTX t a c e) (hlt : l.stackTraces = false) (hf : t.1.2 = false) (hO : dOk D Mo R) (hm : cSn h a D Mo R) (s d : Int32) (hs : ¬ ∃ k, k < D.2.1.1.1 ∧ s = nI k) : zMetX E b l yX10_men cX10_men 3 (some .long) 9 1 6 [.ref (b + 0), .int s, .int d] t h xR := by
  refine zMetX.of (ls := [some (.ref (b + 0)), some (.int s), some (.int d)]) hlt (by decide) (zle rfl) 0 rfl ?_
  intro G hlG C hR hE
  rw [← hlG] at hlt
  refine zz_aload_0 C dX10_men_0 <| zz_iload_1 C dX10_men_1 <| zpc 2 rfl <| ?_
  exact zx_callV C hR hE [_] (c10_road0 hX hlt hf hO.2.2.1 hm.1.1.2.1 s hs) lX10_110 rfl (tX_K_X hX) (by decide) rfl ⟨zle rfl, zle rfl, zle rfl, zle rfl⟩ (zle rfl) (zle rfl) (zle rfl) dX10_men_2
theorem c10_men2 (hX : zTX t a c e) (hlt : l.stackTraces = false) (hf : t.1.2 = false) (hO : dOk D Mo R) (hm : cSn h a D Mo R) (k : Nat) (hk : k < D.2.1.1.1) (d : Int32) (hd : ¬ ∃ k, 1 ≤ k ∧ k ≤ 366 ∧ d = nI k) : zMetX E b l yX10_men cX10_men 3 (some .long) 9 1 6 [.ref (b + 0), .int (nI k), .int d] t h xA := by
  refine zMetX.of (ls := [some (.ref (b + 0)), some (.int (nI k)), some (.int d)]) hlt (by decide) (zle rfl) 0 rfl ?_
  intro G hlG C hR hE
  rw [← hlG] at hlt
  refine zz_aload_0 C dX10_men_0 <| zz_iload_1 C dX10_men_1 <| zpc 2 rfl <| ?_
  refine zf_callVV C hR [_] (c10_road1 hX hO.2.2.1 hm.1.1.2.1 k hk) lX10_110 rfl (tX_K_X hX) (by decide) rfl ⟨zle rfl, zle rfl, zle rfl, zle rfl⟩ (zle rfl) dX10_men_2 ?_
  refine zz_iload_2 C dX10_men_5 <| zpc 6 rfl <| ?_
  exact zx_callS C hR hE [_] (c10_days0 hlt hf d hd) lX10_192 rfl ⟨zle rfl, zle rfl, zle rfl, zle rfl⟩ (zle rfl) (zle rfl) (zle rfl) dX10_men_6
theorem c10_law0 (hX : zTX t a c e) (hlt : l.stackTraces = false) (hf : t.1.2 = false) (x d : Int32) (hno : ¬ ((∃ k, 3 ≤ k ∧ k ≤ 11 ∧ x = nI k) ∧ ∃ k, 1 ≤ k ∧ k ≤ 366 ∧ d = nI k)) : zMetX E b l yX10_law cX10_law 3 (some .long) 9 1 6 [.ref (b + 0), .int x, .int d] t h xA := by
  refine zMetX.of (ls := [some (.ref (b + 0)), some (.int x), some (.int d)]) hlt (by decide) (zle rfl) 0 rfl ?_
  intro G hlG C hR hE
  rw [← hlG] at hlt
  refine zz_iload_1 C dX10_law_0 <| zz_iconst_3 C dX10_law_1 <| zpc 2 rfl <| ?_
  refine zz_icmp_lt C 15 dX10_law_2 (by decide) (fun c2 => ?_) (fun c2 => ?_)
  · refine zz_iconst_0 C dX10_law_15 <| zpc 16 rfl <| ?_
    exact zx_callS C hR hE [_] (c10_demand0 hlt hf) lX10_76 rfl ⟨zle rfl, zle rfl, zle rfl, zle rfl⟩ (zle rfl) (zle rfl) (zle rfl) dX10_law_16
  · refine zz_iload_1 C dX10_law_5 <| zz_bipush C 11 dX10_law_6 (by decide) <| zpc 8 rfl <| ?_
    refine zz_icmp_gt C 15 dX10_law_8 (by decide) (fun c8 => ?_) (fun c8 => ?_)
    · refine zz_iconst_0 C dX10_law_15 <| zpc 16 rfl <| ?_
      exact zx_callS C hR hE [_] (c10_demand0 hlt hf) lX10_76 rfl ⟨zle rfl, zle rfl, zle rfl, zle rfl⟩ (zle rfl) (zle rfl) (zle rfl) dX10_law_16
    · refine zz_iconst_1 C dX10_law_11 <| zz_goto C 16 dX10_law_12 (by decide) <| zpc 16 rfl <| ?_
      refine zf_callSV C hR [_] (c10_demand1 _ (by decide)) lX10_76 rfl ⟨zle rfl, zle rfl, zle rfl, zle rfl⟩ (zle rfl) dX10_law_16 ?_
      refine zz_iload_2 C dX10_law_19 <| zpc 20 rfl <| ?_
      exact zx_callS C hR hE [_] (c10_days0 hlt hf d (fun z => hno ⟨lawOk.mp ⟨Int32.not_lt.mp c2, Int32.not_lt.mp c8⟩, z⟩)) lX10_192 rfl ⟨zle rfl, zle rfl, zle rfl, zle rfl⟩ (zle rfl) (zle rfl) (zle rfl) dX10_law_20
end CD
