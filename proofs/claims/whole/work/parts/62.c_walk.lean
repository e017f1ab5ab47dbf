/-! ===== the class: Walk, what its cells hold ===== -/
/-- the plan: the marked one is the one set aside; who is careless, absent or held back is the marked one -/
def cPl (h : zH) (p : yP) (A : yN) (ex : Option Nat) : Prop := (zI h 82 0 = nI A.1.2.1 ∧ zI h 82 1 = oI p.2.2.2.2.1 ∧ zI h 82 2 = zb (p.2.2.2.1.isSome = true) ∧ zI h 82 3 = zb (p.1.isSome = true)) ∧ zI h 82 4 = nI (if p.2.1.1.isSome = true then p.2.1.2 else 0) ∧ zI h 82 5 = oI ex ∧ zI h 82 6 = nI A.1.2.2 ∧ zI h 82 7 = zb (p.2.2.2.2.2 = true) ∧ zI h 82 8 = zb (p.2.2.1 = true)
def pX (p : yP) : Prop := (∀ g, p.2.2.2.1 = some g → p.2.2.2.2.1 = some g) ∧ (∀ g, p.1 = some g → p.2.2.2.2.1 = some g) ∧ ∀ g, p.2.1.1 = some g → p.2.2.2.2.1 = some g
/-- what a day's goings lean on and leave alone; the walk's land lies at e -/
def cSd (h : zH) (e n0 : Nat) (ex : Option Nat) (L : yL) (A : yN) (p : yP) (w r : Nat → Nat) (day gone N0 : Nat) (R : Nat × (Nat → Nat)) : Prop := cLd h e L n0 ∧ cRd h e n0 ex A ∧ cPl h p A ex ∧ cSt h 87 A.1.1 N0 day w r R ∧ zI h 73 7 = nI gone
/-- what a day's goings write -/
def sg (i k : Nat) : Prop := (74 ≤ i ∧ i ≤ 81) ∨ i = 83 ∨ i = 86 ∨ (i = 82 ∧ k = 9)
def cAd (h h' : zH) : Prop := (∀ i k, ¬ sg i k → zI h' i k = zI h i k) ∧ ∀ i k, ¬ (74 ≤ i ∧ i ≤ 86) → zL h' i k = zL h i k
theorem cAd.rf (h : zH) : cAd h h := ⟨fun _ _ _ => rfl, fun _ _ _ => rfl⟩
theorem cAd.tr {h h1 h2 : zH} (a : cAd h h1) (c : cAd h1 h2) : cAd h h2 := ⟨fun i k q => (c.1 i k q).trans (a.1 i k q), fun i k q => (c.2 i k q).trans (a.2 i k q)⟩
theorem cAd.sI {h h' : zH} (a : cAd h h') {i k : Nat} {v : Int32} (hs : sg i k) : cAd h (zsI h' i k v) := ⟨fun j q hn => by
  rw [zI_sI, if_neg (fun z => hn (by rw [z.1, z.2]; exact hs))]
  exact a.1 j q hn, a.2⟩
theorem cAd.sL {h h' : zH} (a : cAd h h') {k : Nat} {v : Int64} : cAd h (zsL h' 83 k v) := ⟨a.1, fun j q hn => by
  rw [zL_sL, if_neg (by omega)]
  exact a.2 j q hn⟩
theorem cAd.of {h h' : zH} (a : cAg 74 81 h h') : cAd h h' := ⟨fun i k q => a.1 i k (by unfold sg at q; omega), fun i k q => a.2 i k (by omega)⟩
theorem cAd.ag {h h' : zH} (a : cAd h h') : cAg 73 90 h h' := ⟨fun i k q => a.1 i k (by unfold sg; omega), fun i k q => a.2 i k (by omega)⟩
theorem cPl.ad {h h' : zH} {p : yP} {A : yN} {ex : Option Nat} (q : ∀ k, k < 9 → zI h' 82 k = zI h 82 k) (hm : cPl h p A ex) : cPl h' p A ex := by
  obtain ⟨⟨h1, h2, h3, h4⟩, h5, h6, h7, h8, h9⟩ := hm
  refine ⟨⟨?_, ?_, ?_, ?_⟩, ?_, ?_, ?_, ?_, ?_⟩
  · rw [q _ (by omega)]; exact h1
  · rw [q _ (by omega)]; exact h2
  · rw [q _ (by omega)]; exact h3
  · rw [q _ (by omega)]; exact h4
  · rw [q _ (by omega)]; exact h5
  · rw [q _ (by omega)]; exact h6
  · rw [q _ (by omega)]; exact h7
  · rw [q _ (by omega)]; exact h8
  · rw [q _ (by omega)]; exact h9
theorem cSd.ad {h h' : zH} {e n0 : Nat} {ex : Option Nat} {L : yL} {A : yN} {p : yP} {w r : Nat → Nat} {day gone N0 : Nat} {R : Nat × (Nat → Nat)} (a : cAd h h') (he : e + 31 < 73) (hg : L.1.2.1 ≤ 14) (hm : cSd h e n0 ex L A p w r day gone N0 R) : cSd h' e n0 ex L A p w r day gone N0 R := by
  obtain ⟨h1, h2, h3, ⟨⟨h4, h5⟩, h6, h7, h8⟩, h9⟩ := hm
  refine ⟨h1.ag a.ag (Or.inl he) hg, h2.ag a.ag (Or.inl he), h3.ad (fun k hk => a.1 _ _ (by unfold sg; omega)), ⟨⟨?_, ?_⟩, fun k hk => ?_, fun k hk hk2 => ?_, fun k hk => ?_⟩, ?_⟩
  · rw [a.1 _ _ (by unfold sg; omega)]; exact h4
  · rw [a.1 _ _ (by unfold sg; omega)]; exact h5
  · rw [a.1 _ _ (by unfold sg; omega), a.1 _ _ (by unfold sg; omega)]; exact h6 k hk
  · rw [a.1 _ _ (by unfold sg; omega), a.1 _ _ (by unfold sg; omega)]; exact h7 k hk hk2
  · rw [a.1 _ _ (by unfold sg; omega)]; exact h8 k hk
  · rw [a.1 _ _ (by unfold sg; omega)]; exact h9
/-- what the goings have come to so far -/
def cDy (h : zH) (n : Nat) (lots : Bool) (x : yA) (lg : Nat) : Prop := (∀ k, k < n → zI h 86 k = nI (x.2.2.2 k)) ∧ (zL h 83 0 = lN (x.2.1.1 + x.2.1.2.1) ∧ zL h 83 1 = lN x.2.1.2.1 ∧ zL h 83 2 = lN x.2.1.2.2) ∧ (zI h 83 3 = nI x.2.2.1.1 ∧ zI h 83 4 = nI x.2.2.1.2.1 ∧ zI h 83 5 = oI x.2.2.1.2.2) ∧ (lots = true → zI h 82 9 = x.1) ∧ zI h 83 6 = nI lg ∧ lg ≤ 20000
theorem cDy.ag {h h' : zH} {n : Nat} {lots : Bool} {x : yA} {lg : Nat} (a : cAg 74 81 h h') (hm : cDy h n lots x lg) : cDy h' n lots x lg := by
  obtain ⟨h1, ⟨h2, h3, h4⟩, ⟨h5, h6, h7⟩, h8, h9, h10⟩ := hm
  refine ⟨fun k hk => ?_, ⟨?_, ?_, ?_⟩, ⟨?_, ?_, ?_⟩, fun q => ?_, ?_, h10⟩
  · rw [a.1 _ _ (by omega)]; exact h1 k hk
  · rw [a.2 _ _ (by omega)]; exact h2
  · rw [a.2 _ _ (by omega)]; exact h3
  · rw [a.2 _ _ (by omega)]; exact h4
  · rw [a.1 _ _ (by omega)]; exact h5
  · rw [a.1 _ _ (by omega)]; exact h6
  · rw [a.1 _ _ (by omega)]; exact h7
  · rw [a.1 _ _ (by omega)]; exact h8 q
  · rw [a.1 _ _ (by omega)]; exact h9
/-- the ways as they are looked at -/
def cWs (h : zH) (L : yL) (A : yN) (w : Nat → Nat) (s : Nat) : Prop := cWy h L.1.1 A.1.2.1 (usL s A.2 w A.1.1) A.2 w ∧ ∃ ms, cMs h ms L.1.1 A.1.1 A.1.2.1 s A.2 w
theorem cWs.ag {h h' : zH} {L : yL} {A : yN} {w : Nat → Nat} {s : Nat} (q : ∀ i k, 74 ≤ i → i ≤ 81 → ¬ i = 75 → zI h' i k = zI h i k) (hm : cWs h L A w s) : cWs h' L A w s := by
  obtain ⟨⟨⟨h1, h2⟩, h3⟩, ms, ⟨h4, h5⟩, h6⟩ := hm
  refine ⟨⟨⟨?_, ?_⟩, fun k hk => ?_⟩, ms, ⟨?_, h5⟩, fun to hto hb => ?_⟩
  · rw [q _ _ (by omega) (by omega) (by omega)]; exact h1
  · rw [q _ _ (by omega) (by omega) (by omega)]; exact h2
  · rw [q _ _ (by omega) (by omega) (by omega), q _ _ (by omega) (by omega) (by omega), q _ _ (by omega) (by omega) (by omega), q _ _ (by omega) (by omega) (by omega), q _ _ (by omega) (by omega) (by omega)]; exact h3 k hk
  · rw [q _ _ (by omega) (by omega) (by omega)]; exact h4
  · obtain ⟨d, k1, k2⟩ := h6 to hto hb
    exact ⟨d, fun p hp => by rw [q _ _ (by omega) (by omega) (by omega)]; exact k1 p hp, k2⟩
section CK
variable {E : zE} {b : Nat} {G : zG} {t : zT} {h : zH} {l : Launch} {n0 s day gone N0 : Nat} {ex : Option Nat} {L : yL} {A : yN} {p : yP} {w r : Nat → Nat} {R : Nat × (Nat → Nat)} {a c e : Nat}
theorem c8_lookRound (hX : zTX t a c e) (he : e + 31 < 73) (hS : sOk L A p w) (hm : cSd h e n0 ex L A p w r day gone N0 R) (s : Nat) (hs : s < 2 ^ 31) : zMet E b l yX8_lookRound cX8_lookRound 2 none 3 0 0 [.ref (b + 73), .int (nI s)] t h (qV (fun t' h' => t' = t ∧ cAg 74 81 h h' ∧ cWs h' L A w s)) := by
  refine zMet.of (ls := [some (.ref (b + 73)), some (.int (nI s))]) (by decide) (zle rfl) 0 rfl ?_
  intro G hlG C hR hE hin
  refine zz_aload_0 C dX8_lookRound_0 <| zz_getR C fX8_12 (tX_K_walk hX) (tX_R_ways hX) dX8_lookRound_1 <| zz_aload_0 C dX8_lookRound_4 <| zz_getR C fX8_53 (tX_K_walk hX) (tX_R_wland hX) dX8_lookRound_5 <| zz_aload_0 C dX8_lookRound_8 <| zz_getR C fX8_46 (tX_K_walk hX) (tX_R_state hX) dX8_lookRound_9 <| zz_aload_0 C dX8_lookRound_12 <| zz_getR C fX8_21 (tX_K_walk hX) (tX_R_plan hX) dX8_lookRound_13 <| zz_iload_1 C dX8_lookRound_16 <| zpc 17 rfl <| ?_
  refine zy_callVV C hR [_, _, _, _] (c9_lookRound hX (tX_Le hX) (tX_S87 hX) (by omega) (by omega) hS.1 hm.1.1.1 hm.1.1.2.1 hm.2.1 (fun k hk => (hm.2.2.2.1.2.1 k hk).1) hm.2.2.1.1.1 hm.2.2.1.2.2.1 hs) lX8_97 rfl (tX_K_ways hX) (by decide) rfl ⟨zle rfl, zle rfl, zle rfl, zle rfl⟩ (zle rfl) dX8_lookRound_17 ?_
  intro t' h' hv; obtain ⟨rfl, ag, hy, hz⟩ := hv
  refine zy_return C hE (zle rfl) (zle rfl) dX8_lookRound_20 ?_
  refine ⟨rfl, ag, hy, 0, ⟨hz, by decide⟩, fun to hto hb => ?_⟩
  rw [Nat.zero_div] at hb
  exact absurd hb (by decide)
/-- whose day it is, and whom the lots let go -/
theorem gOn_iff {g : Nat} (hpx : pX p) (hg : g < 14) (hpo : pOk p) : gOn L.2.1 day gone p.1 p.2.1.1 p.2.1.2 g ↔ ¬ (p.1.isSome = true ∧ some g = p.2.2.2.2.1) ∧ (if some g = p.2.2.2.2.1 then (if p.2.1.1.isSome = true then p.2.1.2 else 0) else 0) ≤ gone ∧ gBit (L.2.1 g 2) (day - (if some g = p.2.2.2.2.1 then (if p.2.1.1.isSome = true then p.2.1.2 else 0) else 0)) := by
  obtain ⟨-, x2, x3⟩ := hpx
  unfold gOn
  have e1 : some g ≠ p.1 ↔ ¬ (p.1.isSome = true ∧ some g = p.2.2.2.2.1) := by
    cases hp : p.1 with
    | none => simp
    | some y =>
      have := x2 y hp
      rw [this]
      simp
  rw [e1]
  refine and_congr_right fun _ => ?_
  cases hp : p.2.1.1 with
  | none =>
    rw [if_neg (fun q => by cases q)]
    simp
  | some y =>
    have := x3 y hp
    rw [this]
    by_cases hgy : some g = some y
    · rw [if_pos hgy, if_pos hgy]; simp
    · rw [if_neg hgy, if_neg hgy]; simp
theorem c8_setsOut (hX : zTX t a c e) (he : e + 31 < 73) (hS : sOk L A p w) (hpx : pX p) (hm : cSd h e n0 ex L A p w r day gone N0 R) (hd : gone ≤ day) (hd2 : day < 2 ^ 30) (g : Nat) (hg : g < L.1.2.1) : zMet E b l yX8_setsOut cX8_setsOut 4 (some .boolean) 2 0 0 [.ref (b + 73), .int (nI g)] t h (qI (fun v t' h' => t' = t ∧ (¬ gOn L.2.1 day gone p.1 p.2.1.1 p.2.1.2 g → v = 0 ∧ h' = h) ∧ (gOn L.2.1 day gone p.1 p.2.1.1 p.2.1.2 g → ¬ gLot p (L.2.1 g 4) → v = 1 ∧ h' = h) ∧ (gOn L.2.1 day gone p.1 p.2.1.1 p.2.1.2 g → gLot p (L.2.1 g 4) → v = zb (gDraw (gNext (zI h 82 9)) (L.2.1 g 4)) ∧ h' = zsI h 82 9 (gNext (zI h 82 9))))) := by
  have hng := hS.2.1.2.2.1
  have hpo := hS.2.2
  have hGg := hS.2.1.2.2.2.2.1 g hg
  obtain ⟨hld, hrd, ⟨⟨q0, q1, q2, q3⟩, q4, q5, q6, q7, q8⟩, hst, hgo⟩ := hm
  have hf4 := hld.2.1 g hg 4 (by omega)
  have hon := gOn_iff (L := L) (day := day) (gone := gone) hpx (show g < 14 by omega) hpo
  have ea := oI_eq (show g < 2 ^ 31 by omega) hpo.2.2.2.2
  have hhb := hpo.2.2.1
  rw [hon]
  have e5 : (if nI g = zI h 82 1 then zI h 82 4 else 0) = nI (if some g = p.2.2.2.2.1 then (if p.2.1.1.isSome = true then p.2.1.2 else 0) else 0) := by
    rw [q1, q4]
    by_cases z : some g = p.2.2.2.2.1
    · rw [if_pos z, if_pos (ea.mpr z)]
    · rw [if_neg z, if_neg (fun y => z (ea.mp y))]; rfl
  have hdl : (if some g = p.2.2.2.2.1 then (if p.2.1.1.isSome = true then p.2.1.2 else 0) else 0) ≤ 6 := by split <;> (try split) <;> omega
  have e14 : (¬ zI h 82 3 = 0 ∧ nI g = zI h 82 1) ↔ (p.1.isSome = true ∧ some g = p.2.2.2.2.1) := by
    rw [q3, q1, zb_ne0, ea]
  generalize (if some g = p.2.2.2.2.1 then (if p.2.1.1.isSome = true then p.2.1.2 else 0) else 0) = dl at *
  have h8 : (8 : Int32) = nI 8 := rfl
  refine zMet.of (ls := [some (.ref (b + 73)), some (.int (nI g)), none, none]) (by decide) (zle rfl) 2 rfl ?_
  intro G hlG C hR hE hin
  refine zz_aload_0 C dX8_setsOut_0 <| zz_getR C fX8_21 (tX_K_walk hX) (tX_R_plan hX) dX8_setsOut_1 <| zz_iload_1 C dX8_setsOut_4 <| zpc 5 rfl <| ?_
  refine zf_callVI C hR [_] (c2_delayOf hX _) lX8_120 rfl (tX_K_plan hX) (by decide) rfl ⟨zle rfl, zle rfl, zle rfl, zle rfl⟩ (zle rfl) dX8_setsOut_5 ?_
  rw [e5]
  refine zz_istore_2 C (zle rfl) rfl dX8_setsOut_8 <| zz_aload_0 C dX8_setsOut_9 <| zz_getR C fX8_21 (tX_K_walk hX) (tX_R_plan hX) dX8_setsOut_10 <| zz_iload_1 C dX8_setsOut_13 <| zpc 14 rfl <| ?_
  refine zf_callVI C hR [_] (c2_isAbsent hX _) lX8_123 rfl (tX_K_plan hX) (by decide) rfl ⟨zle rfl, zle rfl, zle rfl, zle rfl⟩ (zle rfl) dX8_setsOut_14 ?_
  refine zz_if_ne C 48 dX8_setsOut_17 (by decide) (fun c17 => ?_) (fun c17 => ?_)
  · first | rw [zb_ne0, e14] at c17 | rw [zb_eq0, e14] at c17
    refine zz_iconst_0 C dX8_setsOut_48 <| zpc 49 rfl <| ?_
    refine zy_zreturn C hE (zle rfl) (zle rfl) dX8_setsOut_49 (by decide) ?_
    refine ⟨rfl, fun _ => ⟨rfl, rfl⟩, fun z => absurd z ?_, fun z => absurd z ?_⟩ <;> first | exact (fun z => z.1 c17) | exact (fun z => absurd z.2.1 (by omega)) | exact (fun z => c45 z.2.2)
  · first | rw [zb_ne0, e14] at c17 | rw [zb_eq0, e14] at c17
    refine zz_iload_2 C dX8_setsOut_20 <| zz_aload_0 C dX8_setsOut_21 <| zz_getI C fX8_61 (tX_K_walk hX) dX8_setsOut_22 <| zpc 25 rfl <| ?_
    rw [hgo]
    refine zz_icmp_gt C 48 dX8_setsOut_25 (by decide) (fun c25 => ?_) (fun c25 => ?_)
    · rw [nI_ltI (by omega) (by omega)] at c25
      refine zz_iconst_0 C dX8_setsOut_48 <| zpc 49 rfl <| ?_
      refine zy_zreturn C hE (zle rfl) (zle rfl) dX8_setsOut_49 (by decide) ?_
      refine ⟨rfl, fun _ => ⟨rfl, rfl⟩, fun z => absurd z ?_, fun z => absurd z ?_⟩ <;> first | exact (fun z => z.1 c17) | exact (fun z => absurd z.2.1 (by omega)) | exact (fun z => c45 z.2.2)
    · rw [nI_ltI (by omega) (by omega)] at c25
      refine zz_aload_0 C dX8_setsOut_28 <| zz_getR C fX8_53 (tX_K_walk hX) (tX_R_wland hX) dX8_setsOut_29 <| zz_iload_1 C dX8_setsOut_32 <| zz_aload_0 C dX8_setsOut_33 <| zz_getR C fX8_46 (tX_K_walk hX) (tX_R_state hX) dX8_setsOut_34 <| zz_getI C fX8_126 (tS_K (tX_S87 hX)) dX8_setsOut_37 <| zpc 40 rfl <| ?_
      rw [hst.1.1]
      refine zz_iload_2 C dX8_setsOut_40 <| zz_isub C dX8_setsOut_41 <| zpc 42 rfl <| ?_
      rw [pk_sub (by omega)]
      refine zf_callVI C hR [_, _] (c1_goesOn (tX_Le hX) hS.2.1 hld (by omega) g hg) lX8_129 rfl (tL_K (tX_Le hX)) (by decide) rfl ⟨zle rfl, zle rfl, zle rfl, zle rfl⟩ (zle rfl) dX8_setsOut_42 ?_
      refine zz_if_ne C 50 dX8_setsOut_45 (by decide) (fun c45 => ?_) (fun c45 => ?_)
      · first | rw [zb_ne0] at c45 | rw [zb_eq0] at c45
        refine zz_aload_0 C dX8_setsOut_50 <| zz_getR C fX8_53 (tX_K_walk hX) (tX_R_wland hX) dX8_setsOut_51 <| zz_getR C fX8_133 (tL_K (tX_Le hX)) (tL_R_goingFacts (tX_Le hX)) dX8_setsOut_54 <| zz_iload_1 C dX8_setsOut_57 <| zc_row C _ (tL_K_goingFacts (tX_Le hX)) (tL_row_goingFacts (tX_Le hX)) (znI (by omega)) (by omega) dX8_setsOut_58 <| fun r58 => ?_
        refine zz_iconst_4 C dX8_setsOut_59 <| zc_iaload C 4 (tL_KR_goingFacts (tX_Le hX) _ r58) (zlit _ (by decide)) (by decide) dX8_setsOut_60 <| zpc 61 rfl <| ?_
        rw [hf4]
        refine zz_istore_3 C (zle rfl) rfl dX8_setsOut_61 <| zz_aload_0 C dX8_setsOut_62 <| zz_getR C fX8_21 (tX_K_walk hX) (tX_R_plan hX) dX8_setsOut_63 <| zz_getI C fX8_137 (tX_K_plan hX) dX8_setsOut_66 <| zpc 69 rfl <| ?_
        rw [q8]
        refine zz_if_eq C 89 dX8_setsOut_69 (by decide) (fun c69 => ?_) (fun c69 => ?_)
        · first | rw [zb_ne0] at c69 | rw [zb_eq0] at c69
          refine zz_iconst_1 C dX8_setsOut_89 <| zz_goto C 94 dX8_setsOut_90 (by decide) <| zpc 94 rfl <| ?_
          refine zy_zreturn C hE (zle rfl) (zle rfl) dX8_setsOut_94 (by decide) ?_
          have hyes : ¬ (p.1.isSome = true ∧ some g = p.2.2.2.2.1) ∧ dl ≤ gone ∧ gBit (L.2.1 g 2) (day - dl) := ⟨c17, by omega, c45⟩
          first
            | (refine ⟨rfl, fun z => absurd hyes z, fun _ _ => ⟨rfl, rfl⟩, fun _ z => absurd z.1 c69⟩)
            | (refine ⟨rfl, fun z => absurd hyes z, fun _ _ => ⟨rfl, rfl⟩, fun _ z => absurd (show L.2.1 g 4 = 8 by omega) z.2⟩)
            | (refine ⟨rfl, fun z => absurd hyes z, fun _ z => absurd ⟨c69, by omega⟩ z, fun _ _ => ⟨?_, rfl⟩⟩
               symm
               first | exact zb_t (Int32.not_le.mp c86) | exact zb_f (Int32.not_lt.mpr c86))
        · first | rw [zb_ne0] at c69 | rw [zb_eq0] at c69
          refine zz_iload_3 C dX8_setsOut_72 <| zz_bipush C 8 dX8_setsOut_73 (by decide) <| zpc 75 rfl <| ?_
          rw [h8]
          refine zz_icmp_ge C 89 dX8_setsOut_75 (by decide) (fun c75 => ?_) (fun c75 => ?_)
          · rw [nI_leI (by omega) (by omega)] at c75
            refine zz_iconst_1 C dX8_setsOut_89 <| zz_goto C 94 dX8_setsOut_90 (by decide) <| zpc 94 rfl <| ?_
            refine zy_zreturn C hE (zle rfl) (zle rfl) dX8_setsOut_94 (by decide) ?_
            have hyes : ¬ (p.1.isSome = true ∧ some g = p.2.2.2.2.1) ∧ dl ≤ gone ∧ gBit (L.2.1 g 2) (day - dl) := ⟨c17, by omega, c45⟩
            first
              | (refine ⟨rfl, fun z => absurd hyes z, fun _ _ => ⟨rfl, rfl⟩, fun _ z => absurd z.1 c69⟩)
              | (refine ⟨rfl, fun z => absurd hyes z, fun _ _ => ⟨rfl, rfl⟩, fun _ z => absurd (show L.2.1 g 4 = 8 by omega) z.2⟩)
              | (refine ⟨rfl, fun z => absurd hyes z, fun _ z => absurd ⟨c69, by omega⟩ z, fun _ _ => ⟨?_, rfl⟩⟩
                 symm
                 first | exact zb_t (Int32.not_le.mp c86) | exact zb_f (Int32.not_lt.mpr c86))
          · rw [nI_leI (by omega) (by omega)] at c75
            refine zz_aload_0 C dX8_setsOut_78 <| zz_getR C fX8_21 (tX_K_walk hX) (tX_R_plan hX) dX8_setsOut_79 <| zpc 82 rfl <| ?_
            refine zf_callVI C hR [] (c2_nextLot hX) lX8_141 rfl (tX_K_plan hX) (by decide) rfl ⟨zle rfl, zle rfl, zle rfl, zle rfl⟩ (zle rfl) dX8_setsOut_82 ?_
            refine zz_iload_3 C dX8_setsOut_85 <| zpc 86 rfl <| ?_
            refine zz_icmp_ge C 93 dX8_setsOut_86 (by decide) (fun c86 => ?_) (fun c86 => ?_)
            · refine zz_iconst_0 C dX8_setsOut_93 <| zpc 94 rfl <| ?_
              refine zy_zreturn C hE (zle rfl) (zle rfl) dX8_setsOut_94 (by decide) ?_
              have hyes : ¬ (p.1.isSome = true ∧ some g = p.2.2.2.2.1) ∧ dl ≤ gone ∧ gBit (L.2.1 g 2) (day - dl) := ⟨c17, by omega, c45⟩
              first
                | (refine ⟨rfl, fun z => absurd hyes z, fun _ _ => ⟨rfl, rfl⟩, fun _ z => absurd z.1 c69⟩)
                | (refine ⟨rfl, fun z => absurd hyes z, fun _ _ => ⟨rfl, rfl⟩, fun _ z => absurd (show L.2.1 g 4 = 8 by omega) z.2⟩)
                | (refine ⟨rfl, fun z => absurd hyes z, fun _ z => absurd ⟨c69, by omega⟩ z, fun _ _ => ⟨?_, rfl⟩⟩
                   symm
                   first | exact zb_t (Int32.not_le.mp c86) | exact zb_f (Int32.not_lt.mpr c86))
            · refine zz_iconst_1 C dX8_setsOut_89 <| zz_goto C 94 dX8_setsOut_90 (by decide) <| zpc 94 rfl <| ?_
              refine zy_zreturn C hE (zle rfl) (zle rfl) dX8_setsOut_94 (by decide) ?_
              have hyes : ¬ (p.1.isSome = true ∧ some g = p.2.2.2.2.1) ∧ dl ≤ gone ∧ gBit (L.2.1 g 2) (day - dl) := ⟨c17, by omega, c45⟩
              first
                | (refine ⟨rfl, fun z => absurd hyes z, fun _ _ => ⟨rfl, rfl⟩, fun _ z => absurd z.1 c69⟩)
                | (refine ⟨rfl, fun z => absurd hyes z, fun _ _ => ⟨rfl, rfl⟩, fun _ z => absurd (show L.2.1 g 4 = 8 by omega) z.2⟩)
                | (refine ⟨rfl, fun z => absurd hyes z, fun _ z => absurd ⟨c69, by omega⟩ z, fun _ _ => ⟨?_, rfl⟩⟩
                   symm
                   first | exact zb_t (Int32.not_le.mp c86) | exact zb_f (Int32.not_lt.mpr c86))
      · first | rw [zb_ne0] at c45 | rw [zb_eq0] at c45
        refine zz_iconst_0 C dX8_setsOut_48 <| zpc 49 rfl <| ?_
        refine zy_zreturn C hE (zle rfl) (zle rfl) dX8_setsOut_49 (by decide) ?_
        refine ⟨rfl, fun _ => ⟨rfl, rfl⟩, fun z => absurd z ?_, fun z => absurd z ?_⟩ <;> first | exact (fun z => z.1 c17) | exact (fun z => absurd z.2.1 (by omega)) | exact (fun z => c45 z.2.2)
theorem ldWay_snoc (W : Nat) : ∀ (l : List Nat) (k : Nat) (f : Nat → Nat), ldWay W (l ++ [k]) f = nUp (ldWay W l f) k (ldWay W l f k + W)
  | [], k, f => rfl
  | j :: l, k, f => ldWay_snoc W l k (nUp f j (f j + W))
theorem c8_loadWay (hX : zTX t a c e) {n tl : Nat} (hn : n ≤ 11) {F : Nat → Nat → Nat} {pl : List Nat} (hpl : ∀ k ∈ pl, k < n) (hpl2 : pl.length ≤ 11) (hpt : cPt h tl F w pl) {f : Nat → Nat} (hf : ∀ k, k < n → zI h 86 k = nI (f k)) (W : Nat) : zMet E b l yX8_loadWay cX8_loadWay 3 none 1 0 0 [.ref (b + 73), .int (nI W)] t h (qV (fun t' h' => t' = t ∧ (∀ i k, ¬ i = 86 → zI h' i k = zI h i k) ∧ (∀ i k, zL h' i k = zL h i k) ∧ ∀ k, k < n → zI h' 86 k = nI (ldWay W pl f k))) := by
  refine zMet.of (ls := [some (.ref (b + 73)), some (.int (nI W)), none]) (by decide) (zle rfl) 1 rfl ?_
  intro G hlG C hR hE hin
  have lp : ∀ q, q ≤ pl.length → ∀ hc : zH, (∀ i k, ¬ i = 86 → zI hc i k = zI h i k) → (∀ i k, zL hc i k = zL h i k) → (∀ k, k < n → zI hc 86 k = nI (ldWay W (pl.take q) f k)) → zAW E b G 3 0 0 2 [some (.ref (b + 73)), some (.int (nI W)), some (.int (nI q))] [] t hc := by
    refine zLoop pl.length fun q hq ih hc e1 e2 e3 => ?_
    have hl0 : zI hc 74 0 = nI pl.length := by rw [e1 _ _ (by omega)]; exact hpt.1.1
    refine zz_iload_2 C dX8_loadWay_2 <| zz_aload_0 C dX8_loadWay_3 <| zz_getR C fX8_12 (tX_K_walk hX) (tX_R_ways hX) dX8_loadWay_4 <| zz_getI C fX8_167 (tX_K_ways hX) dX8_loadWay_7 <| zpc 10 rfl <| ?_
    rw [hl0]
    refine zz_icmp_ge C 37 dX8_loadWay_10 (by decide) (fun c10 => ?_) (fun c10 => ?_)
    · rw [nI_leI (by omega) (by omega)] at c10
      refine zy_return C hE (zle rfl) (zle rfl) dX8_loadWay_37 ?_
      refine ⟨rfl, e1, e2, ?_⟩
      rw [List.take_of_length_le (by omega)] at e3; exact e3
    · rw [nI_leI (by omega) (by omega)] at c10
      refine zz_aload_0 C dX8_loadWay_13 <| zz_getR C fX8_39 (tX_K_walk hX) (tX_R_weights hX) dX8_loadWay_14 <| zz_aload_0 C dX8_loadWay_17 <| zz_getR C fX8_12 (tX_K_walk hX) (tX_R_ways hX) dX8_loadWay_18 <| zz_getR C fX8_170 (tX_K_ways hX) (tX_R_path hX) dX8_loadWay_21 <| zz_iload_2 C dX8_loadWay_24 <| zc_iaload C _ (tX_K_path hX) (znI (by omega)) (by omega) dX8_loadWay_25 <| zpc 26 rfl <| ?_
      have hqi : zI hc 75 q = nI (pl.getD q 0) := (by rw [e1 _ _ (by omega)]; exact hpt.2 q (by omega))
      have hmem : pl.getD q 0 ∈ pl := (by rw [List.getD_eq_getElem?_getD, List.getElem?_eq_getElem (show q < pl.length by omega)]; exact List.getElem_mem _)
      have hkn := hpl _ hmem
      have hwk := e3 _ hkn
      have etk : pl.take (q + 1) = pl.take q ++ [pl.getD q 0] := (by rw [List.take_succ, List.getD_eq_getElem?_getD, List.getElem?_eq_getElem (show q < pl.length by omega)]; rfl)
      rw [hqi]
      generalize pl.getD q 0 = k0 at *
      refine zz_dup2 C dX8_loadWay_26 rfl rfl <| zpc 27 rfl <| ?_
      refine zc_iaload C _ (tX_K_weights hX) (znI (by omega)) (by omega) dX8_loadWay_27 <| zpc 28 rfl <| ?_
      rw [hwk]
      refine zz_iload_1 C dX8_loadWay_28 <| zz_iadd C dX8_loadWay_29 <| zpc 30 rfl <| ?_
      rw [nI_add]
      refine zc_iastore C _ (tX_K_weights hX) (znI (by omega)) (by omega) dX8_loadWay_30 <| zz_iinc_2 C _ (zle rfl) rfl dX8_loadWay_31 nI_s <| zz_goto C 2 dX8_loadWay_34 (by decide) <| zpc 2 rfl <| ?_
      refine ih (by omega) _ (fun i k hi => ?_) e2 (fun k hk => ?_)
      · rw [zI_sI, if_neg (by omega)]; exact e1 i k hi
      · rw [etk, ldWay_snoc, zI_sI]
        unfold nUp
        by_cases z : k = k0
        · rw [if_pos ⟨rfl, z⟩, if_pos z]
        · rw [if_neg (by omega), if_neg z]; exact e3 k hk
  refine zz_iconst_0 C dX8_loadWay_0 <| zz_istore_2 C (zle rfl) rfl dX8_loadWay_1 <| zpc 2 rfl <| ?_
  exact lp 0 (by omega) h (fun _ _ _ => rfl) (fun _ _ => rfl) (fun k hk => by rw [List.take_zero]; exact hf k hk)
end CK
