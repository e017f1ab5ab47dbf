/-! ===== the class: shuts, day, run, would, row, clear ===== -/
theorem gTurns_cm {L : yL} {A : yN} {p : yP} (hp : p.2.2.2.2.1 = none) (s : Nat) (w : Nat → Nat) (day gone : Nat) (x : yA) : ∀ g, (gTurns L A p s w day gone g x).2.1.2.1 = x.2.1.2.1
  | 0 => rfl
  | g + 1 => by
    have ih := gTurns_cm (L := L) (A := A) hp s w day gone x g
    have hd : decide (some g = p.2.2.2.2.1) = false := by rw [hp]; rfl
    have key : ∀ (o : Option (List Nat)) (z : yA), (gWay A.1.2.1 (L.2.1 g 3) A.2 w (decide (some g = p.2.2.2.2.1)) g o z).2.1.2.1 = z.2.1.2.1 := by
      intro o z
      rw [hd]
      cases o <;> rfl
    show (gTurn L A p s w day gone g (gTurns L A p s w day gone g x)).2.1.2.1 = _
    unfold gTurn
    split
    · split
      · split
        · rw [key]; exact ih
        · exact ih
      · rw [key]; exact ih
    · exact ih
theorem dDays_cm {L : yL} {A : yN} {p : yP} (hp : p.2.2.2.2.1 = none) (R : Nat × (Nat → Nat)) (rule : Nat) (x : yS) : ∀ d, (dDays L A p R rule d x).2.2.2.1.2.1 = x.2.2.2.1.2.1
  | 0 => rfl
  | d + 1 => (gTurns_cm hp _ _ _ _ _ _).trans (dDays_cm hp R rule x d)
theorem dRow_cm {L : yL} {A : yN} {p : yP} (hp : p.2.2.2.2.1 = none) (R : Nat → Nat) (x : yS) : ∀ d, (dRow L A p R d x).2.2.2.1.2.1 = x.2.2.2.1.2.1
  | 0 => rfl
  | d + 1 => (gTurns_cm hp _ _ _ _ _ _).trans (dRow_cm hp R x d)
/-- what a call leaves that lets days go by -/
def cDo (t : zT) (a : Nat) (h : zH) (t' : zT) (h' : zH) : Prop := (t' = t ∨ t' = zsR t 73 6 (some a)) ∧ cAg 68 144 h h'
section CR
variable {E : zE} {b : Nat} {G : zG} {t : zT} {h : zH} {l : Launch} {a c e : Nat} {D : yD} {Mo : Nat × (Nat → Nat → Nat)} {R : Nat × (Nat → Nat)}
/-- the State of a walk taken over -/
theorem cSn.take {h h1 h2 : zH} (ha : a = 2 ∨ a = 36) (hO : dOk D Mo R) (hm : cSn h a D Mo R) (ag : cAg 73 90 h h1) (tk : cTk h1 68 87 h2) {x : yS} {n0 : Nat} {ex : Option Nat} {p : yP} (hw : cWk h1 a n0 ex D.1 D.2.1 p x D.2.1.1.2.2 R) : cSn h2 a (D.1, D.2.1, x.1, x.2.1.1) Mo R ∧ cAg 68 90 h h2 := by
  have hng := hO.1.1.2.1.2.2.1
  have hn := hO.1.1.1.2.2.1
  have hmo := hO.2.2.2.2.1
  have ag2 : cAg 68 90 h h2 := (ag.wd (by omega) (by omega)).tr (tk.1.wd (by omega) (by omega))
  obtain ⟨h1', h2', ⟨h3, h4, h5⟩, h6⟩ := hm
  refine ⟨⟨h1'.ag ag2 (by omega) hng, h2'.ag ag2 (by omega), ⟨?_, ?_, fun k hk q hq => ?_⟩, tk.st hn hO.2.2.2.1.1 hw.1.2.2.2.1⟩, ag2⟩
  · rw [ag2.1 _ _ (by omega)]; exact h3
  · rw [ag2.1 _ _ (by omega)]; exact h4
  · rw [ag2.1 _ _ (by omega)]; exact h5 k hk q hq
theorem c10_shuts1 (hX : zTX t a c e) (hO : dOk D Mo R) (hm : cSn h a D Mo R) (sd : Int32) (k : Nat) (hk : k = 0 ∨ k = 2 ∨ k = 3) : zMet E b l yX10_shuts cX10_shuts 2 (some .int) 7 0 0 [.ref (b + 0), .int (nI k)] t h (qI (fun v t' h' => v = nI (rShut D.1 D.2.1 yP0 R (x0 D sd) k) ∧ cAsk t a h t' h')) := by
  have ha := tX_a2 hX
  have htd := hO.1.2.2.2.2
  refine zMet.of (ls := [some (.ref (b + 0)), some (.int (nI k))]) (by decide) (zle rfl) 0 rfl ?_
  intro G hlG C hR hE hin
  refine zz_iload_1 C dX10_shuts_0 <| zpc 1 rfl <| ?_
  refine zz_if_eq C 14 dX10_shuts_1 (by decide) (fun c1 => ?_) (fun c1 => ?_)
  · refine zz_iconst_1 C dX10_shuts_14 <| zz_goto C 19 dX10_shuts_15 (by decide) <| zpc 19 rfl <| ?_
    refine zf_callSV C hR [_] (c10_demand1 _ (by decide)) lX10_76 rfl ⟨zle rfl, zle rfl, zle rfl, zle rfl⟩ (zle rfl) dX10_shuts_19 ?_
    refine zz_aload_0 C dX10_shuts_22 <| zz_getR C fX10_41 (tX_K_X hX) (tX_R_walk hX) dX10_shuts_23 <| zz_aload_0 C dX10_shuts_26 <| zz_getR C fX10_19 (tX_K_X hX) (tX_R_land hX) dX10_shuts_27 <| zz_aload_0 C dX10_shuts_30 <| zz_getR C fX10_26 (tX_K_X hX) (tX_R_now hX) dX10_shuts_31 <| zpc 34 rfl <| ?_
    refine zy_callVV C hR [_, _] (c8_beg hX hO hm sd) lX10_155 rfl (tX_K_walk hX) (by decide) rfl ⟨zle rfl, zle rfl, zle rfl, zle rfl⟩ (zle rfl) dX10_shuts_34 ?_
    intro t' h' hv; obtain ⟨rfl, hX, ag, hw, hsn⟩ := hv
    refine zz_aload_0 C dX10_shuts_37 <| zz_getR C fX10_41 (tX_K_X hX) (tX_R_walk hX) dX10_shuts_38 <| zz_iload_1 C dX10_shuts_41 <| zpc 42 rfl <| ?_
    refine zy_callVI C hR [_] (c8_shutBy hX (by omega) (hO.1.w sd) hw (show D.2.2.2 < 2 ^ 30 by omega) (show 0 < 2 ^ 30 by omega) hO.2.2.2.1 k ⟨by omega, fun z => by omega, fun _ => ⟨rfl, rfl, rfl⟩⟩) lX10_165 rfl (tX_K_walk hX) (by decide) rfl ⟨zle rfl, zle rfl, zle rfl, zle rfl⟩ (zle rfl) dX10_shuts_42 ?_
    intro v t' h2 hv; obtain ⟨rfl, ag2, rfl⟩ := hv
    refine zy_ireturn C hE (zle rfl) (zle rfl) dX10_shuts_45 ?_
    exact ⟨rfl, Or.inr rfl, (ag.tr (ag2.wd (by omega) (by omega))).wd (by omega) (by omega)⟩
  · refine zz_iload_1 C dX10_shuts_4 <| zz_iconst_2 C dX10_shuts_5 <| zpc 6 rfl <| ?_
    refine zz_icmp_eq C 14 dX10_shuts_6 (by decide) (fun c6 => ?_) (fun c6 => ?_)
    · refine zz_iconst_1 C dX10_shuts_14 <| zz_goto C 19 dX10_shuts_15 (by decide) <| zpc 19 rfl <| ?_
      refine zf_callSV C hR [_] (c10_demand1 _ (by decide)) lX10_76 rfl ⟨zle rfl, zle rfl, zle rfl, zle rfl⟩ (zle rfl) dX10_shuts_19 ?_
      refine zz_aload_0 C dX10_shuts_22 <| zz_getR C fX10_41 (tX_K_X hX) (tX_R_walk hX) dX10_shuts_23 <| zz_aload_0 C dX10_shuts_26 <| zz_getR C fX10_19 (tX_K_X hX) (tX_R_land hX) dX10_shuts_27 <| zz_aload_0 C dX10_shuts_30 <| zz_getR C fX10_26 (tX_K_X hX) (tX_R_now hX) dX10_shuts_31 <| zpc 34 rfl <| ?_
      refine zy_callVV C hR [_, _] (c8_beg hX hO hm sd) lX10_155 rfl (tX_K_walk hX) (by decide) rfl ⟨zle rfl, zle rfl, zle rfl, zle rfl⟩ (zle rfl) dX10_shuts_34 ?_
      intro t' h' hv; obtain ⟨rfl, hX, ag, hw, hsn⟩ := hv
      refine zz_aload_0 C dX10_shuts_37 <| zz_getR C fX10_41 (tX_K_X hX) (tX_R_walk hX) dX10_shuts_38 <| zz_iload_1 C dX10_shuts_41 <| zpc 42 rfl <| ?_
      refine zy_callVI C hR [_] (c8_shutBy hX (by omega) (hO.1.w sd) hw (show D.2.2.2 < 2 ^ 30 by omega) (show 0 < 2 ^ 30 by omega) hO.2.2.2.1 k ⟨by omega, fun z => by omega, fun _ => ⟨rfl, rfl, rfl⟩⟩) lX10_165 rfl (tX_K_walk hX) (by decide) rfl ⟨zle rfl, zle rfl, zle rfl, zle rfl⟩ (zle rfl) dX10_shuts_42 ?_
      intro v t' h2 hv; obtain ⟨rfl, ag2, rfl⟩ := hv
      refine zy_ireturn C hE (zle rfl) (zle rfl) dX10_shuts_45 ?_
      exact ⟨rfl, Or.inr rfl, (ag.tr (ag2.wd (by omega) (by omega))).wd (by omega) (by omega)⟩
    · refine zz_iload_1 C dX10_shuts_9 <| zz_iconst_3 C dX10_shuts_10 <| zpc 11 rfl <| ?_
      refine zz_icmp_ne C 18 dX10_shuts_11 (by decide) (fun c11 => ?_) (fun c11 => ?_)
      · exfalso; rcases hk with rfl | rfl | rfl; exact c1 rfl; exact c6 rfl; exact c11 rfl
      · refine zz_iconst_1 C dX10_shuts_14 <| zz_goto C 19 dX10_shuts_15 (by decide) <| zpc 19 rfl <| ?_
        refine zf_callSV C hR [_] (c10_demand1 _ (by decide)) lX10_76 rfl ⟨zle rfl, zle rfl, zle rfl, zle rfl⟩ (zle rfl) dX10_shuts_19 ?_
        refine zz_aload_0 C dX10_shuts_22 <| zz_getR C fX10_41 (tX_K_X hX) (tX_R_walk hX) dX10_shuts_23 <| zz_aload_0 C dX10_shuts_26 <| zz_getR C fX10_19 (tX_K_X hX) (tX_R_land hX) dX10_shuts_27 <| zz_aload_0 C dX10_shuts_30 <| zz_getR C fX10_26 (tX_K_X hX) (tX_R_now hX) dX10_shuts_31 <| zpc 34 rfl <| ?_
        refine zy_callVV C hR [_, _] (c8_beg hX hO hm sd) lX10_155 rfl (tX_K_walk hX) (by decide) rfl ⟨zle rfl, zle rfl, zle rfl, zle rfl⟩ (zle rfl) dX10_shuts_34 ?_
        intro t' h' hv; obtain ⟨rfl, hX, ag, hw, hsn⟩ := hv
        refine zz_aload_0 C dX10_shuts_37 <| zz_getR C fX10_41 (tX_K_X hX) (tX_R_walk hX) dX10_shuts_38 <| zz_iload_1 C dX10_shuts_41 <| zpc 42 rfl <| ?_
        refine zy_callVI C hR [_] (c8_shutBy hX (by omega) (hO.1.w sd) hw (show D.2.2.2 < 2 ^ 30 by omega) (show 0 < 2 ^ 30 by omega) hO.2.2.2.1 k ⟨by omega, fun z => by omega, fun _ => ⟨rfl, rfl, rfl⟩⟩) lX10_165 rfl (tX_K_walk hX) (by decide) rfl ⟨zle rfl, zle rfl, zle rfl, zle rfl⟩ (zle rfl) dX10_shuts_42 ?_
        intro v t' h2 hv; obtain ⟨rfl, ag2, rfl⟩ := hv
        refine zy_ireturn C hE (zle rfl) (zle rfl) dX10_shuts_45 ?_
        exact ⟨rfl, Or.inr rfl, (ag.tr (ag2.wd (by omega) (by omega))).wd (by omega) (by omega)⟩
theorem c10_shuts0 (hX : zTX t a c e) (hlt : l.stackTraces = false) (hf : t.1.2 = false) (s : Int32) (hs : ¬ (s = 0 ∨ s = 2 ∨ s = 3)) : zMetX E b l yX10_shuts cX10_shuts 2 (some .int) 7 1 6 [.ref (b + 0), .int s] t h xA := by
  refine zMetX.of (ls := [some (.ref (b + 0)), some (.int s)]) hlt (by decide) (zle rfl) 0 rfl ?_
  intro G hlG C hR hE
  rw [← hlG] at hlt
  refine zz_iload_1 C dX10_shuts_0 <| zpc 1 rfl <| ?_
  refine zz_if_eq C 14 dX10_shuts_1 (by decide) (fun c1 => ?_) (fun c1 => ?_)
  · exact absurd (Or.inl c1) hs
  · refine zz_iload_1 C dX10_shuts_4 <| zz_iconst_2 C dX10_shuts_5 <| zpc 6 rfl <| ?_
    refine zz_icmp_eq C 14 dX10_shuts_6 (by decide) (fun c6 => ?_) (fun c6 => ?_)
    · exact absurd (Or.inr (Or.inl c6)) hs
    · refine zz_iload_1 C dX10_shuts_9 <| zz_iconst_3 C dX10_shuts_10 <| zpc 11 rfl <| ?_
      refine zz_icmp_ne C 18 dX10_shuts_11 (by decide) (fun c11 => ?_) (fun c11 => ?_)
      · refine zz_iconst_0 C dX10_shuts_18 <| zpc 19 rfl <| ?_
        exact zx_callS C hR hE [_] (c10_demand0 hlt hf) lX10_76 rfl ⟨zle rfl, zle rfl, zle rfl, zle rfl⟩ (zle rfl) (zle rfl) (zle rfl) dX10_shuts_19
      · exact absurd (Or.inr (Or.inr c11)) hs
theorem c10_day1 (hX : zTX t a c e) (hO : dOk D Mo R) (hm : cSn h a D Mo R) (sd : Int32) (s : Nat) (hs : s < 2 ^ D.2.1.1.1) : zMet E b l yX10_day cX10_day 2 (some .int) 8 0 0 [.ref (b + 0), .int (nI s)] t h (qI (fun v t' h' => v = nI (dDay D.1 D.2.1 yP0 s (x0 D sd)).2.2.2.1.1 ∧ cDo t a h t' h' ∧ cSn h' a (D.1, D.2.1, (dDay D.1 D.2.1 yP0 s (x0 D sd)).1, D.2.2.2 + 1) Mo R)) := by
  have ha := tX_a2 hX
  have htd := hO.1.2.2.2.2
  have hpow : 2 ^ D.2.1.1.1 ≤ 2 ^ 10 := Nat.pow_le_pow_right (by decide) hO.2.2.1
  refine zMet.of (ls := [some (.ref (b + 0)), some (.int (nI s))]) (by decide) (zle rfl) 0 rfl ?_
  intro G hlG C hR hE hin
  refine zz_aload_0 C dX10_day_0 <| zz_iload_1 C dX10_day_1 <| zpc 2 rfl <| ?_
  refine zf_callVV C hR [_] (c10_shut1 hX hO.2.2.1 hm.1.1.2.1 s hs) lX10_133 rfl (tX_K_X hX) (by decide) rfl ⟨zle rfl, zle rfl, zle rfl, zle rfl⟩ (zle rfl) dX10_day_2 ?_
  refine zz_aload_0 C dX10_day_5 <| zz_getR C fX10_41 (tX_K_X hX) (tX_R_walk hX) dX10_day_6 <| zz_aload_0 C dX10_day_9 <| zz_getR C fX10_19 (tX_K_X hX) (tX_R_land hX) dX10_day_10 <| zz_aload_0 C dX10_day_13 <| zz_getR C fX10_26 (tX_K_X hX) (tX_R_now hX) dX10_day_14 <| zpc 17 rfl <| ?_
  refine zy_callVV C hR [_, _] (c8_beg hX hO hm sd) lX10_155 rfl (tX_K_walk hX) (by decide) rfl ⟨zle rfl, zle rfl, zle rfl, zle rfl⟩ (zle rfl) dX10_day_17 ?_
  intro t' h' hv; obtain ⟨rfl, hX, ag, hw, hsn⟩ := hv
  refine zz_aload_0 C dX10_day_20 <| zz_getR C fX10_41 (tX_K_X hX) (tX_R_walk hX) dX10_day_21 <| zz_iload_1 C dX10_day_24 <| zpc 25 rfl <| ?_
  refine zy_callVV C hR [_] (c8_passDay hX (by omega) (hO.1.w sd) pX0 (Nat.zero_le _) hw (show D.2.2.2 < 2 ^ 30 by omega) s (by omega)) lX10_169 rfl (tX_K_walk hX) (by decide) rfl ⟨zle rfl, zle rfl, zle rfl, zle rfl⟩ (zle rfl) dX10_day_25 ?_
  intro t' h2 hv; obtain ⟨rfl, ag2, hw2, -⟩ := hv
  refine zz_aload_0 C dX10_day_28 <| zz_getR C fX10_26 (tX_K_X hX) (tX_R_now hX) dX10_day_29 <| zz_aload_0 C dX10_day_32 <| zz_getR C fX10_41 (tX_K_X hX) (tX_R_walk hX) dX10_day_33 <| zz_getR C fX10_172 (tX_K_walk hX) (tX_R_state hX) dX10_day_36 <| zpc 39 rfl <| ?_
  refine zy_callVV C hR [_] (c6_take (tX_S68 hX) (tX_S87 hX) (by omega)) lX10_175 rfl (tS_K (tX_S68 hX)) (by decide) rfl ⟨zle rfl, zle rfl, zle rfl, zle rfl⟩ (zle rfl) dX10_day_39 ?_
  intro t' h3 hv; obtain ⟨rfl, tk⟩ := hv
  refine zz_aload_0 C dX10_day_42 <| zz_getR C fX10_41 (tX_K_X hX) (tX_R_walk hX) dX10_day_43 <| zz_getR C fX10_179 (tX_K_walk hX) (tX_R_tally hX) dX10_day_46 <| zz_getL C fX10_183 (tX_K_tally hX) dX10_day_49 <| zpc 52 rfl <| ?_
  rw [tk.1.2 _ _ (by omega), hw2.2.1.1]
  refine zz_l2i C dX10_day_52 <| zpc 53 rfl <| ?_
  refine zy_ireturn C hE (zle rfl) (zle rfl) dX10_day_53 ?_
  obtain ⟨k1, k2⟩ := hm.take ha hO (ag.tr ag2) tk hw2
  refine ⟨?_, ⟨Or.inr rfl, k2.wd (by omega) (by omega)⟩, k1⟩
  rw [show (dDay D.1 D.2.1 yP0 s (x0 D sd)).2.2.2.1.2.1 = 0 from gTurns_cm rfl _ _ _ _ _ _, Nat.add_zero]
  exact lN_i _
theorem c10_day0 (hX : zTX t a c e) (hlt : l.stackTraces = false) (hf : t.1.2 = false) (hO : dOk D Mo R) (hm : cSn h a D Mo R) (s : Int32) (hs : ¬ ∃ k, k < 2 ^ D.2.1.1.1 ∧ s = nI k) : zMetX E b l yX10_day cX10_day 2 (some .int) 8 1 6 [.ref (b + 0), .int s] t h xA := by
  refine zMetX.of (ls := [some (.ref (b + 0)), some (.int s)]) hlt (by decide) (zle rfl) 0 rfl ?_
  intro G hlG C hR hE
  rw [← hlG] at hlt
  refine zz_aload_0 C dX10_day_0 <| zz_iload_1 C dX10_day_1 <| zpc 2 rfl <| ?_
  exact zx_callV C hR hE [_] (c10_shut0 hX hlt hf hO.2.2.1 hm.1.1.2.1 s hs) lX10_133 rfl (tX_K_X hX) (by decide) rfl ⟨zle rfl, zle rfl, zle rfl, zle rfl⟩ (zle rfl) (zle rfl) (zle rfl) dX10_day_2
theorem c10_run1 (hX : zTX t a c e) (hO : dOk D Mo R) (hm : cSn h a D Mo R) (sd : Int32) (k d : Nat) (hk : k ≤ 3) (hd1 : 1 ≤ d) (hd : d ≤ 366) (hkr : k = 1 → 0 < R.1) : zMet E b l yX10_run cX10_run 5 (some .long) 8 0 0 [.ref (b + 0), .int (nI k), .int (nI d)] t h (qJ (fun v t' h' => v = lN (dDays D.1 D.2.1 yP0 R k d (x0 D sd)).2.2.2.1.1 ∧ cDo t a h t' h' ∧ cSn h' a (D.1, D.2.1, (dDays D.1 D.2.1 yP0 R k d (x0 D sd)).1, D.2.2.2 + d) Mo R)) := by
  have ha := tX_a2 hX
  have htd := hO.1.2.2.2.2
  refine zMet.of (ls := [some (.ref (b + 0)), some (.int (nI k)), some (.int (nI d)), none, none]) (by decide) (zle rfl) 2 rfl ?_
  intro G hlG C hR hE hin
  refine zz_iload_1 C dX10_run_0 <| zpc 1 rfl <| ?_
  refine zf_callSV C hR [_] (c10_rule1 k hk) lX10_189 rfl ⟨zle rfl, zle rfl, zle rfl, zle rfl⟩ (zle rfl) dX10_run_1 ?_
  refine zz_iload_2 C dX10_run_4 <| zpc 5 rfl <| ?_
  refine zf_callSV C hR [_] (c10_days1 d hd1 hd) lX10_192 rfl ⟨zle rfl, zle rfl, zle rfl, zle rfl⟩ (zle rfl) dX10_run_5 ?_
  refine zz_aload_0 C dX10_run_8 <| zz_iload_1 C dX10_run_9 <| zpc 10 rfl <| ?_
  refine zf_callVV C hR [_] (c10_rowFor1 hX hO.2.2.2.1.1 hk hkr hm.2.2.2.1.2) lX10_195 rfl (tX_K_X hX) (by decide) rfl ⟨zle rfl, zle rfl, zle rfl, zle rfl⟩ (zle rfl) dX10_run_10 ?_
  refine zz_aload_0 C dX10_run_13 <| zz_getR C fX10_41 (tX_K_X hX) (tX_R_walk hX) dX10_run_14 <| zz_aload_0 C dX10_run_17 <| zz_getR C fX10_19 (tX_K_X hX) (tX_R_land hX) dX10_run_18 <| zz_aload_0 C dX10_run_21 <| zz_getR C fX10_26 (tX_K_X hX) (tX_R_now hX) dX10_run_22 <| zpc 25 rfl <| ?_
  refine zy_callVV C hR [_, _] (c8_beg hX hO hm sd) lX10_155 rfl (tX_K_walk hX) (by decide) rfl ⟨zle rfl, zle rfl, zle rfl, zle rfl⟩ (zle rfl) dX10_run_25 ?_
  intro t' h' hv; obtain ⟨rfl, hX, ag, hw, hsn⟩ := hv
  refine zz_aload_0 C dX10_run_28 <| zz_getR C fX10_41 (tX_K_X hX) (tX_R_walk hX) dX10_run_29 <| zz_iload_1 C dX10_run_32 <| zz_iload_2 C dX10_run_33 <| zpc 34 rfl <| ?_
  refine zy_callVJ C hR [_, _] (c8_goOn hX (by omega) (hO.1.w sd) pX0 (Nat.zero_le _) hw hO.2.2.2.1 k ⟨hk, hkr, fun _ => ⟨rfl, rfl, rfl⟩⟩ d (by omega) (show D.2.2.2 + d < 2 ^ 30 by omega)) lX10_198 rfl (tX_K_walk hX) (by decide) rfl ⟨zle rfl, zle rfl, zle rfl, zle rfl⟩ (zle rfl) dX10_run_34 ?_
  intro v t' h2 hv; obtain ⟨rfl, ag2, hw2, rfl⟩ := hv
  refine zz_lstore_3 C (zle rfl) rfl dX10_run_37 <| zz_aload_0 C dX10_run_38 <| zz_getR C fX10_26 (tX_K_X hX) (tX_R_now hX) dX10_run_39 <| zz_aload_0 C dX10_run_42 <| zz_getR C fX10_41 (tX_K_X hX) (tX_R_walk hX) dX10_run_43 <| zz_getR C fX10_172 (tX_K_walk hX) (tX_R_state hX) dX10_run_46 <| zpc 49 rfl <| ?_
  refine zy_callVV C hR [_] (c6_take (tX_S68 hX) (tX_S87 hX) (by omega)) lX10_175 rfl (tS_K (tX_S68 hX)) (by decide) rfl ⟨zle rfl, zle rfl, zle rfl, zle rfl⟩ (zle rfl) dX10_run_49 ?_
  intro t' h3 hv; obtain ⟨rfl, tk⟩ := hv
  refine zz_lload_3 C dX10_run_52 <| zpc 53 rfl <| ?_
  refine zy_lreturn C hE (zle rfl) (zle rfl) dX10_run_53 ?_
  obtain ⟨k1, k2⟩ := hm.take ha hO (ag.tr ag2) tk hw2
  have etm := dDays_tm D.1 D.2.1 yP0 R k (x0 D sd) d
  rw [etm] at k1
  refine ⟨?_, ⟨Or.inr rfl, k2.wd (by omega) (by omega)⟩, k1⟩
  rw [show (dDays D.1 D.2.1 yP0 R k d (x0 D sd)).2.2.2.1.2.1 = 0 from dDays_cm rfl _ _ _ _, Nat.add_zero]
theorem c10_run0 (hX : zTX t a c e) (hlt : l.stackTraces = false) (hf : t.1.2 = false) (r d : Int32) (hno : ¬ ∃ k n, k ≤ 3 ∧ 1 ≤ n ∧ n ≤ 366 ∧ r = nI k ∧ d = nI n) : zMetX E b l yX10_run cX10_run 5 (some .long) 8 1 6 [.ref (b + 0), .int r, .int d] t h xA := by
  refine zMetX.of (ls := [some (.ref (b + 0)), some (.int r), some (.int d), none, none]) hlt (by decide) (zle rfl) 2 rfl ?_
  intro G hlG C hR hE
  rw [← hlG] at hlt
  by_cases hr : ∃ k, k ≤ 3 ∧ r = nI k
  · obtain ⟨k, hk, rfl⟩ := hr
    refine zz_iload_1 C dX10_run_0 <| zpc 1 rfl <| ?_
    refine zf_callSV C hR [_] (c10_rule1 k hk) lX10_189 rfl ⟨zle rfl, zle rfl, zle rfl, zle rfl⟩ (zle rfl) dX10_run_1 ?_
    refine zz_iload_2 C dX10_run_4 <| zpc 5 rfl <| ?_
    exact zx_callS C hR hE [_] (c10_days0 hlt hf d (fun z => by obtain ⟨n, h1, h2, h3⟩ := z; exact hno ⟨k, n, hk, h1, h2, rfl, h3⟩)) lX10_192 rfl ⟨zle rfl, zle rfl, zle rfl, zle rfl⟩ (zle rfl) (zle rfl) (zle rfl) dX10_run_5
  ·
    refine zz_iload_1 C dX10_run_0 <| zpc 1 rfl <| ?_
    exact zx_callS C hR hE [_] (c10_rule0 hlt hf r hr) lX10_189 rfl ⟨zle rfl, zle rfl, zle rfl, zle rfl⟩ (zle rfl) (zle rfl) (zle rfl) dX10_run_1
theorem c10_run2 (hX : zTX t a c e) (hlt : l.stackTraces = false) (hf : t.1.2 = false) (hm : cSn h a D Mo R) (d : Nat) (hd1 : 1 ≤ d) (hd : d ≤ 366) (hR0 : R.1 = 0) : zMetX E b l yX10_run cX10_run 5 (some .long) 8 1 6 [.ref (b + 0), .int (nI 1), .int (nI d)] t h xS := by
  refine zMetX.of (ls := [some (.ref (b + 0)), some (.int (nI 1)), some (.int (nI d)), none, none]) hlt (by decide) (zle rfl) 2 rfl ?_
  intro G hlG C hR hE
  rw [← hlG] at hlt
  refine zz_iload_1 C dX10_run_0 <| zpc 1 rfl <| ?_
  refine zf_callSV C hR [_] (c10_rule1 1 (by omega)) lX10_189 rfl ⟨zle rfl, zle rfl, zle rfl, zle rfl⟩ (zle rfl) dX10_run_1 ?_
  refine zz_iload_2 C dX10_run_4 <| zpc 5 rfl <| ?_
  refine zf_callSV C hR [_] (c10_days1 d hd1 hd) lX10_192 rfl ⟨zle rfl, zle rfl, zle rfl, zle rfl⟩ (zle rfl) dX10_run_5 ?_
  refine zz_aload_0 C dX10_run_8 <| zz_iload_1 C dX10_run_9 <| zpc 10 rfl <| ?_
  exact zx_callV C hR hE [_] (c10_rowFor0 hX hlt hf (by rw [hm.2.2.2.1.2, hR0]; rfl)) lX10_195 rfl (tX_K_X hX) (by decide) rfl ⟨zle rfl, zle rfl, zle rfl, zle rfl⟩ (zle rfl) (zle rfl) (zle rfl) dX10_run_10
theorem c10_would1 (hX : zTX t a c e) (hO : dOk D Mo R) (hm : cSn h a D Mo R) (sd : Int32) (k d q : Nat) (hk : k ≤ 3) (hd1 : 1 ≤ d) (hd : d ≤ 366) (hq : q ≤ 3) (hkr : k = 1 → 0 < R.1) : zMet E b l yX10_would cX10_would 6 (some .long) 8 0 0 [.ref (b + 0), .int (nI k), .int (nI d), .int (nI q)] t h (qJ (fun v t' h' => v = lN (wWhat D.2.1 (dDays D.1 D.2.1 yP0 R k d (x0 D sd)) q) ∧ cAsk t a h t' h')) := by
  have ha := tX_a2 hX
  have htd := hO.1.2.2.2.2
  have hn := hO.2.2.1
  have hstb := dDays_st R k (hO.1.w sd) d
  have hst0 : (x0 D sd).2.2.2.2.1.1 = 0 := rfl
  have hWd := (hO.1.w sd).days R k d
  refine zMet.of (ls := [some (.ref (b + 0)), some (.int (nI k)), some (.int (nI d)), some (.int (nI q)), none, none]) (by decide) (zle rfl) 2 rfl ?_
  intro G hlG C hR hE hin
  have s56 : ∀ (h2 : zH), zTX (zsR t 73 6 (some a)) a c a → cAg 73 90 h h2 → cWk h2 a D.2.1.1.1 none D.1 D.2.1 yP0 (dDays D.1 D.2.1 yP0 R k d (x0 D sd)) D.2.1.1.2.2 R → zAW E b G 6 0 0 56 [some (.ref (b + 0)), some (.int (nI k)), some (.int (nI d)), some (.int (nI q)), some (.long (lN ((dDays D.1 D.2.1 yP0 R k d (x0 D sd)).2.2.2.1.1 + (dDays D.1 D.2.1 yP0 R k d (x0 D sd)).2.2.2.1.2.1))), none] [] (zsR t 73 6 (some a)) h2 := by
    intro h2 hX ag hw2
    have hwr : cWr h2 a 87 D.2.1.1.1 D.2.1.2 (dDays D.1 D.2.1 yP0 R k d (x0 D sd)).1.1 := ⟨⟨hw2.1.1.1.2.1, hn⟩, fun j hj => ⟨⟨(hw2.1.2.2.2.1.2.1 j hj).1, by have := hWd.1.1.2.2.2.2 j hj; omega⟩, hw2.1.2.1.2 j hj 4 (by omega), by have := hWd.1.1.2.2.2.2 j hj; omega⟩⟩
    have hcm : (dDays D.1 D.2.1 yP0 R k d (x0 D sd)).2.2.2.1.2.1 = 0 := dDays_cm rfl _ _ _ _
    have hask : cAsk t a h (zsR t 73 6 (some a)) h2 := ⟨Or.inr rfl, ag.wd (by omega) (by omega)⟩
    have h1 := wCnt_le D.2.1.2 (dDays D.1 D.2.1 yP0 R k d (x0 D sd)).1.1 D.2.1.1.1
    have h2' : wMax (dDays D.1 D.2.1 yP0 R k d (x0 D sd)).1.1 D.2.1.1.1 ≤ 99 := wMax_le (fun j hj => by have := hWd.1.1.2.2.2.2 j hj; omega)
    obtain rfl | rfl | rfl | rfl : q = 0 ∨ q = 1 ∨ q = 2 ∨ q = 3 := by omega
    ·
      refine zz_iload_3 C dX10_would_56 <| zz_tableIn C 84 dX10_would_57 (by decide) (by decide) (by first | rfl | decide) (by decide) <| zz_lload_4 C dX10_would_84 <| zpc 86 rfl <| ?_
      refine zy_lreturn C hE (zle rfl) (zle rfl) dX10_would_86 ?_
      rw [hcm, Nat.add_zero]; exact ⟨rfl, hask⟩
    ·
      refine zz_iload_3 C dX10_would_56 <| zz_tableIn C 87 dX10_would_57 (by decide) (by decide) (by first | rfl | decide) (by decide) <| zz_aload_0 C dX10_would_87 <| zz_getR C fX10_41 (tX_K_X hX) (tX_R_walk hX) dX10_would_88 <| zz_getR C fX10_179 (tX_K_walk hX) (tX_R_tally hX) dX10_would_91 <| zz_getI C fX10_202 (tX_K_tally hX) dX10_would_94 <| zpc 97 rfl <| ?_
      rw [hw2.2.2.1.1]
      refine zz_i2l C dX10_would_97 <| zpc 98 rfl <| ?_
      refine zy_lreturn C hE (zle rfl) (zle rfl) dX10_would_98 ?_
      rw [nI_l (by omega)]; exact ⟨rfl, hask⟩
    ·
      refine zz_iload_3 C dX10_would_56 <| zz_tableIn C 99 dX10_would_57 (by decide) (by decide) (by first | rfl | decide) (by decide) <| zz_aload_0 C dX10_would_99 <| zz_getR C fX10_41 (tX_K_X hX) (tX_R_walk hX) dX10_would_100 <| zz_getR C fX10_172 (tX_K_walk hX) (tX_R_state hX) dX10_would_103 <| zz_aload_0 C dX10_would_106 <| zz_getR C fX10_19 (tX_K_X hX) (tX_R_land hX) dX10_would_107 <| zpc 110 rfl <| ?_
      refine zf_callVI C hR [_] (c6_pastUseCount (tX_S87 hX) (tX_La hX) hwr) lX10_205 rfl (tS_K (tX_S87 hX)) (by decide) rfl ⟨zle rfl, zle rfl, zle rfl, zle rfl⟩ (zle rfl) dX10_would_110 ?_
      refine zz_i2l C dX10_would_113 <| zpc 114 rfl <| ?_
      refine zy_lreturn C hE (zle rfl) (zle rfl) dX10_would_114 ?_
      rw [nI_l (by omega)]; exact ⟨rfl, hask⟩
    ·
      refine zz_iload_3 C dX10_would_56 <| zz_tableOut C 115 dX10_would_57 (by decide) (by decide) <| zz_aload_0 C dX10_would_115 <| zz_getR C fX10_41 (tX_K_X hX) (tX_R_walk hX) dX10_would_116 <| zz_getR C fX10_172 (tX_K_walk hX) (tX_R_state hX) dX10_would_119 <| zz_aload_0 C dX10_would_122 <| zz_getR C fX10_19 (tX_K_X hX) (tX_R_land hX) dX10_would_123 <| zpc 126 rfl <| ?_
      refine zf_callVI C hR [_] (c6_mostWear (tX_S87 hX) (tX_La hX) hwr) lX10_209 rfl (tS_K (tX_S87 hX)) (by decide) rfl ⟨zle rfl, zle rfl, zle rfl, zle rfl⟩ (zle rfl) dX10_would_126 ?_
      refine zz_i2l C dX10_would_129 <| zpc 130 rfl <| ?_
      refine zy_lreturn C hE (zle rfl) (zle rfl) dX10_would_130 ?_
      rw [nI_l (by omega)]; exact ⟨rfl, hask⟩
  refine zz_iload_1 C dX10_would_0 <| zpc 1 rfl <| ?_
  refine zf_callSV C hR [_] (c10_rule1 k hk) lX10_189 rfl ⟨zle rfl, zle rfl, zle rfl, zle rfl⟩ (zle rfl) dX10_would_1 ?_
  refine zz_iload_2 C dX10_would_4 <| zpc 5 rfl <| ?_
  refine zf_callSV C hR [_] (c10_days1 d hd1 hd) lX10_192 rfl ⟨zle rfl, zle rfl, zle rfl, zle rfl⟩ (zle rfl) dX10_would_5 ?_
  refine zz_iload_3 C dX10_would_8 <| zpc 9 rfl <| ?_
  refine zz_if_lt C 21 dX10_would_9 (by decide) (fun c9 => ?_) (fun c9 => ?_)
  · exact absurd c9 (nI_pos (by omega))
  · refine zz_iload_3 C dX10_would_12 <| zz_iconst_3 C dX10_would_13 <| zpc 14 rfl <| ?_
    refine zz_icmp_gt C 21 dX10_would_14 (by decide) (fun c14 => ?_) (fun c14 => ?_)
    · exact absurd c14 (nI_nlt (a := 3) hq (by omega))
    · refine zz_iconst_1 C dX10_would_17 <| zz_goto C 22 dX10_would_18 (by decide) <| zpc 22 rfl <| ?_
      refine zf_callSV C hR [_] (c10_demand1 _ (by decide)) lX10_76 rfl ⟨zle rfl, zle rfl, zle rfl, zle rfl⟩ (zle rfl) dX10_would_22 ?_
      refine zz_aload_0 C dX10_would_25 <| zz_iload_1 C dX10_would_26 <| zpc 27 rfl <| ?_
      refine zf_callVV C hR [_] (c10_rowFor1 hX hO.2.2.2.1.1 hk hkr hm.2.2.2.1.2) lX10_195 rfl (tX_K_X hX) (by decide) rfl ⟨zle rfl, zle rfl, zle rfl, zle rfl⟩ (zle rfl) dX10_would_27 ?_
      refine zz_aload_0 C dX10_would_30 <| zz_getR C fX10_41 (tX_K_X hX) (tX_R_walk hX) dX10_would_31 <| zz_aload_0 C dX10_would_34 <| zz_getR C fX10_19 (tX_K_X hX) (tX_R_land hX) dX10_would_35 <| zz_aload_0 C dX10_would_38 <| zz_getR C fX10_26 (tX_K_X hX) (tX_R_now hX) dX10_would_39 <| zpc 42 rfl <| ?_
      refine zy_callVV C hR [_, _] (c8_beg hX hO hm sd) lX10_155 rfl (tX_K_walk hX) (by decide) rfl ⟨zle rfl, zle rfl, zle rfl, zle rfl⟩ (zle rfl) dX10_would_42 ?_
      intro t' h' hv; obtain ⟨rfl, hX, ag, hw, hsn⟩ := hv
      refine zz_aload_0 C dX10_would_45 <| zz_getR C fX10_41 (tX_K_X hX) (tX_R_walk hX) dX10_would_46 <| zz_iload_1 C dX10_would_49 <| zz_iload_2 C dX10_would_50 <| zpc 51 rfl <| ?_
      refine zy_callVJ C hR [_, _] (c8_goOn hX (by omega) (hO.1.w sd) pX0 (Nat.zero_le _) hw hO.2.2.2.1 k ⟨hk, hkr, fun _ => ⟨rfl, rfl, rfl⟩⟩ d (by omega) (show D.2.2.2 + d < 2 ^ 30 by omega)) lX10_198 rfl (tX_K_walk hX) (by decide) rfl ⟨zle rfl, zle rfl, zle rfl, zle rfl⟩ (zle rfl) dX10_would_51 ?_
      intro v t' h2 hv; obtain ⟨rfl, ag2, hw2, rfl⟩ := hv
      refine zz_lstore_4 C (zle rfl) rfl dX10_would_54 <| zpc 56 rfl <| ?_
      exact s56 h2 hX (ag.tr ag2) hw2
theorem c10_would0 (hX : zTX t a c e) (hlt : l.stackTraces = false) (hf : t.1.2 = false) (r d q : Int32) (hno : ¬ ((∃ k n, k ≤ 3 ∧ 1 ≤ n ∧ n ≤ 366 ∧ r = nI k ∧ d = nI n) ∧ ∃ k, k ≤ 3 ∧ q = nI k)) : zMetX E b l yX10_would cX10_would 6 (some .long) 8 1 6 [.ref (b + 0), .int r, .int d, .int q] t h xA := by
  refine zMetX.of (ls := [some (.ref (b + 0)), some (.int r), some (.int d), some (.int q), none, none]) hlt (by decide) (zle rfl) 2 rfl ?_
  intro G hlG C hR hE
  rw [← hlG] at hlt
  by_cases hr : ∃ k, k ≤ 3 ∧ r = nI k
  · obtain ⟨k, hk, rfl⟩ := hr
    by_cases hd : ∃ k, 1 ≤ k ∧ k ≤ 366 ∧ d = nI k
    · obtain ⟨n, h1, h2, rfl⟩ := hd
      refine zz_iload_1 C dX10_would_0 <| zpc 1 rfl <| ?_
      refine zf_callSV C hR [_] (c10_rule1 k hk) lX10_189 rfl ⟨zle rfl, zle rfl, zle rfl, zle rfl⟩ (zle rfl) dX10_would_1 ?_
      refine zz_iload_2 C dX10_would_4 <| zpc 5 rfl <| ?_
      refine zf_callSV C hR [_] (c10_days1 n h1 h2) lX10_192 rfl ⟨zle rfl, zle rfl, zle rfl, zle rfl⟩ (zle rfl) dX10_would_5 ?_
      refine zz_iload_3 C dX10_would_8 <| zpc 9 rfl <| ?_
      refine zz_if_lt C 21 dX10_would_9 (by decide) (fun c9 => ?_) (fun c9 => ?_)
      · refine zz_iconst_0 C dX10_would_21 <| zpc 22 rfl <| ?_
        exact zx_callS C hR hE [_] (c10_demand0 hlt hf) lX10_76 rfl ⟨zle rfl, zle rfl, zle rfl, zle rfl⟩ (zle rfl) (zle rfl) (zle rfl) dX10_would_22
      · refine zz_iload_3 C dX10_would_12 <| zz_iconst_3 C dX10_would_13 <| zpc 14 rfl <| ?_
        refine zz_icmp_gt C 21 dX10_would_14 (by decide) (fun c14 => ?_) (fun c14 => ?_)
        · refine zz_iconst_0 C dX10_would_21 <| zpc 22 rfl <| ?_
          exact zx_callS C hR hE [_] (c10_demand0 hlt hf) lX10_76 rfl ⟨zle rfl, zle rfl, zle rfl, zle rfl⟩ (zle rfl) (zle rfl) (zle rfl) dX10_would_22
        · refine zz_iconst_1 C dX10_would_17 <| zz_goto C 22 dX10_would_18 (by decide) <| zpc 22 rfl <| ?_
          exact absurd ⟨⟨k, n, hk, h1, h2, rfl, rfl⟩, whatOk.mp ⟨Int32.not_lt.mp c9, Int32.not_lt.mp c14⟩⟩ hno
    ·
      refine zz_iload_1 C dX10_would_0 <| zpc 1 rfl <| ?_
      refine zf_callSV C hR [_] (c10_rule1 k hk) lX10_189 rfl ⟨zle rfl, zle rfl, zle rfl, zle rfl⟩ (zle rfl) dX10_would_1 ?_
      refine zz_iload_2 C dX10_would_4 <| zpc 5 rfl <| ?_
      exact zx_callS C hR hE [_] (c10_days0 hlt hf d hd) lX10_192 rfl ⟨zle rfl, zle rfl, zle rfl, zle rfl⟩ (zle rfl) (zle rfl) (zle rfl) dX10_would_5
  ·
    refine zz_iload_1 C dX10_would_0 <| zpc 1 rfl <| ?_
    exact zx_callS C hR hE [_] (c10_rule0 hlt hf r hr) lX10_189 rfl ⟨zle rfl, zle rfl, zle rfl, zle rfl⟩ (zle rfl) (zle rfl) (zle rfl) dX10_would_1
theorem c10_would2 (hX : zTX t a c e) (hlt : l.stackTraces = false) (hf : t.1.2 = false) (hm : cSn h a D Mo R) (d q : Nat) (hd1 : 1 ≤ d) (hd : d ≤ 366) (hq : q ≤ 3) (hR0 : R.1 = 0) : zMetX E b l yX10_would cX10_would 6 (some .long) 8 1 6 [.ref (b + 0), .int (nI 1), .int (nI d), .int (nI q)] t h xS := by
  refine zMetX.of (ls := [some (.ref (b + 0)), some (.int (nI 1)), some (.int (nI d)), some (.int (nI q)), none, none]) hlt (by decide) (zle rfl) 2 rfl ?_
  intro G hlG C hR hE
  rw [← hlG] at hlt
  refine zz_iload_1 C dX10_would_0 <| zpc 1 rfl <| ?_
  refine zf_callSV C hR [_] (c10_rule1 1 (by omega)) lX10_189 rfl ⟨zle rfl, zle rfl, zle rfl, zle rfl⟩ (zle rfl) dX10_would_1 ?_
  refine zz_iload_2 C dX10_would_4 <| zpc 5 rfl <| ?_
  refine zf_callSV C hR [_] (c10_days1 d hd1 hd) lX10_192 rfl ⟨zle rfl, zle rfl, zle rfl, zle rfl⟩ (zle rfl) dX10_would_5 ?_
  refine zz_iload_3 C dX10_would_8 <| zpc 9 rfl <| ?_
  refine zz_if_lt C 21 dX10_would_9 (by decide) (fun c9 => ?_) (fun c9 => ?_)
  · exact absurd c9 (nI_pos (by omega))
  · refine zz_iload_3 C dX10_would_12 <| zz_iconst_3 C dX10_would_13 <| zpc 14 rfl <| ?_
    refine zz_icmp_gt C 21 dX10_would_14 (by decide) (fun c14 => ?_) (fun c14 => ?_)
    · exact absurd c14 (nI_nlt (a := 3) hq (by omega))
    · refine zz_iconst_1 C dX10_would_17 <| zz_goto C 22 dX10_would_18 (by decide) <| zpc 22 rfl <| ?_
      refine zf_callSV C hR [_] (c10_demand1 _ (by decide)) lX10_76 rfl ⟨zle rfl, zle rfl, zle rfl, zle rfl⟩ (zle rfl) dX10_would_22 ?_
      refine zz_aload_0 C dX10_would_25 <| zz_iload_1 C dX10_would_26 <| zpc 27 rfl <| ?_
      exact zx_callV C hR hE [_] (c10_rowFor0 hX hlt hf (by rw [hm.2.2.2.1.2, hR0]; rfl)) lX10_195 rfl (tX_K_X hX) (by decide) rfl ⟨zle rfl, zle rfl, zle rfl, zle rfl⟩ (zle rfl) (zle rfl) (zle rfl) dX10_would_27
theorem c10_row1b (hX : zTX t a c e) (hO : dOk D Mo R) (hm : cSn h a D Mo R) (s : Nat) (hs : s < 2 ^ D.2.1.1.1) (hR3 : R.1 < 30) : zMet E b l yX10_row cX10_row 2 (some .int) 8 0 0 [.ref (b + 0), .int (nI s)] t h (qIf (nI (R.1 + 1)) t (zsI (zsI h 71 R.1 (nI s)) 68 4 (nI (R.1 + 1)))) := by
  have hr := hm.2.2.2.1.2
  have hr2 : zI (zsI h 71 R.1 (nI s)) 68 4 = nI R.1 := by rw [zI_sI, if_neg (by omega)]; exact hr
  refine zMet.of (ls := [some (.ref (b + 0)), some (.int (nI s))]) (by decide) (zle rfl) 0 rfl ?_
  intro G hlG C hR hE hin
  refine zz_aload_0 C dX10_row_0 <| zz_iload_1 C dX10_row_1 <| zpc 2 rfl <| ?_
  refine zf_callVV C hR [_] (c10_shut1 hX hO.2.2.1 hm.1.1.2.1 s hs) lX10_133 rfl (tX_K_X hX) (by decide) rfl ⟨zle rfl, zle rfl, zle rfl, zle rfl⟩ (zle rfl) dX10_row_2 ?_
  refine zz_aload_0 C dX10_row_5 <| zz_getR C fX10_26 (tX_K_X hX) (tX_R_now hX) dX10_row_6 <| zz_getI C fX10_212 (tS_K (tX_S68 hX)) dX10_row_9 <| zpc 12 rfl <| ?_
  rw [hr]
  refine zz_bipush C 30 dX10_row_12 (by decide) <| zpc 14 rfl <| ?_
  refine zz_icmp_lt C 19 dX10_row_14 (by decide) (fun c14 => ?_) (fun c14 => ?_)
  · refine zz_aload_0 C dX10_row_19 <| zz_getR C fX10_26 (tX_K_X hX) (tX_R_now hX) dX10_row_20 <| zz_getR C fX10_215 (tS_K (tX_S68 hX)) (tS_R_row (tX_S68 hX)) dX10_row_23 <| zz_aload_0 C dX10_row_26 <| zz_getR C fX10_26 (tX_K_X hX) (tX_R_now hX) dX10_row_27 <| zz_getI C fX10_212 (tS_K (tX_S68 hX)) dX10_row_30 <| zpc 33 rfl <| ?_
    rw [hr]
    refine zz_iload_1 C dX10_row_33 <| zc_iastore C _ (tS_K_row (tX_S68 hX)) (znI (by omega)) (by omega) dX10_row_34 <| zz_aload_0 C dX10_row_35 <| zz_getR C fX10_26 (tX_K_X hX) (tX_R_now hX) dX10_row_36 <| zz_dup C dX10_row_39 rfl <| zz_getI C fX10_212 (tS_K (tX_S68 hX)) dX10_row_40 <| zpc 43 rfl <| ?_
    rw [hr2]
    refine zz_iconst_1 C dX10_row_43 <| zz_iadd C dX10_row_44 <| zpc 45 rfl <| ?_
    rw [show (1 : Int32) = nI 1 from rfl, nI_add]
    refine zy_putI C fX10_212 pX6_4 (tS_K (tX_S68 hX)) dX10_row_45 <| zz_aload_0 C dX10_row_48 <| zz_getR C fX10_26 (tX_K_X hX) (tX_R_now hX) dX10_row_49 <| zz_getI C fX10_212 (tS_K (tX_S68 hX)) dX10_row_52 <| zpc 55 rfl <| ?_
    rw [zI_self]
    exact zf_ireturn C hE (zle rfl) (zle rfl) dX10_row_55 rfl rfl rfl
  · exact absurd (nI_lt (b := 30) hR3 (by omega)) c14
theorem c10_row2b (hX : zTX t a c e) (hO : dOk D Mo R) (hm : cSn h a D Mo R) (s : Nat) (hs : s < 2 ^ D.2.1.1.1) (hR3 : R.1 = 30) : zMet E b l yX10_row cX10_row 2 (some .int) 8 0 0 [.ref (b + 0), .int (nI s)] t h (qIf (-1) t h) := by
  have hr := hm.2.2.2.1.2
  refine zMet.of (ls := [some (.ref (b + 0)), some (.int (nI s))]) (by decide) (zle rfl) 0 rfl ?_
  intro G hlG C hR hE hin
  refine zz_aload_0 C dX10_row_0 <| zz_iload_1 C dX10_row_1 <| zpc 2 rfl <| ?_
  refine zf_callVV C hR [_] (c10_shut1 hX hO.2.2.1 hm.1.1.2.1 s hs) lX10_133 rfl (tX_K_X hX) (by decide) rfl ⟨zle rfl, zle rfl, zle rfl, zle rfl⟩ (zle rfl) dX10_row_2 ?_
  refine zz_aload_0 C dX10_row_5 <| zz_getR C fX10_26 (tX_K_X hX) (tX_R_now hX) dX10_row_6 <| zz_getI C fX10_212 (tS_K (tX_S68 hX)) dX10_row_9 <| zpc 12 rfl <| ?_
  rw [hr, hR3]
  refine zz_bipush C 30 dX10_row_12 (by decide) <| zpc 14 rfl <| ?_
  refine zz_icmp_lt C 19 dX10_row_14 (by decide) (fun c14 => ?_) (fun c14 => ?_)
  · exact absurd c14 (by decide)
  · refine zz_iconst_m1 C dX10_row_17 <| zpc 18 rfl <| ?_
    exact zf_ireturn C hE (zle rfl) (zle rfl) dX10_row_18 rfl rfl rfl
theorem c10_row0b (hX : zTX t a c e) (hlt : l.stackTraces = false) (hf : t.1.2 = false) (hO : dOk D Mo R) (hm : cSn h a D Mo R) (s : Int32) (hs : ¬ ∃ k, k < 2 ^ D.2.1.1.1 ∧ s = nI k) : zMetX E b l yX10_row cX10_row 2 (some .int) 8 1 6 [.ref (b + 0), .int s] t h xA := by
  refine zMetX.of (ls := [some (.ref (b + 0)), some (.int s)]) hlt (by decide) (zle rfl) 0 rfl ?_
  intro G hlG C hR hE
  rw [← hlG] at hlt
  refine zz_aload_0 C dX10_row_0 <| zz_iload_1 C dX10_row_1 <| zpc 2 rfl <| ?_
  exact zx_callV C hR hE [_] (c10_shut0 hX hlt hf hO.2.2.1 hm.1.1.2.1 s hs) lX10_133 rfl (tX_K_X hX) (by decide) rfl ⟨zle rfl, zle rfl, zle rfl, zle rfl⟩ (zle rfl) (zle rfl) (zle rfl) dX10_row_2
theorem c10_clear (hX : zTX t a c e) (hm : cSn h a D Mo R) : zMet E b l yX10_clear cX10_clear 2 (some .int) 1 0 0 [.ref (b + 0)] t h (qIf (nI R.1) t (zsI h 68 4 0)) := by
  refine zMet.of (ls := [some (.ref (b + 0)), none]) (by decide) (zle rfl) 1 rfl ?_
  intro G hlG C hR hE hin
  refine zz_aload_0 C dX10_clear_0 <| zz_getR C fX10_26 (tX_K_X hX) (tX_R_now hX) dX10_clear_1 <| zz_getI C fX10_212 (tS_K (tX_S68 hX)) dX10_clear_4 <| zz_istore_1 C (zle rfl) rfl dX10_clear_7 <| zz_aload_0 C dX10_clear_8 <| zz_getR C fX10_26 (tX_K_X hX) (tX_R_now hX) dX10_clear_9 <| zz_iconst_0 C dX10_clear_12 <| zy_putI C fX10_212 pX6_4 (tS_K (tX_S68 hX)) dX10_clear_13 <| zz_iload_1 C dX10_clear_16 <| zpc 17 rfl <| ?_
  exact zf_ireturn C hE (zle rfl) (zle rfl) dX10_clear_17 (by exact hm.2.2.2.1.2) rfl rfl
end CR
