/-! ===== the class: Walk, a going that sets out ===== -/
section CN
variable {E : zE} {b : Nat} {G : zG} {t : zT} {h : zH} {l : Launch} {n0 s day gone N0 lg : Nat} {ex : Option Nat} {L : yL} {A : yN} {p : yP} {w r : Nat → Nat} {R : Nat × (Nat → Nat)} {a c e : Nat} {x : yA}
theorem pdWay_le {P n tl : Nat} {F : Nat → Nat → Nat} {w : Nat → Nat} (hN : nOk P n tl F w) : ∀ (l : List Nat), (∀ k ∈ l, k < n) → pdWay tl w l ≤ 1980 * l.length
  | [], _ => Nat.le_refl 0
  | k :: l, hl => by
    have h1 := pdWay_le hN l (fun j hj => hl j (List.mem_cons_of_mem _ hj))
    have h2 := hN.2.2.2.2 k (hl k List.mem_cons_self)
    have h3 : tl * w k ≤ 20 * 99 := Nat.mul_le_mul hN.2.2.2.1 h2.2.2.2.2.2.2.2
    show tl * w k + pdWay tl w l ≤ 1980 * (l.length + 1)
    omega
/-- the going's way -/
noncomputable abbrev sWay (L : yL) (A : yN) (p : yP) (w : Nat → Nat) (s g : Nat) : Option (List Nat) := nWay L.1.1 A.1.1 A.1.2.1 (if some g = p.2.2.2.1 then 0 else s) A.2 w (L.2.1 g 0) (L.2.1 g 1)
/-- behind the way or the stay: the looks as they were, the marked one's cost -/
theorem l8_send2 (hX : zTX t a c e) (he : e + 31 < 73) (hS : sOk L A p w) (hpx : pX p) (hs : s < 2 ^ 31) {g : Nat} (hg : g < L.1.2.1) (C : zCx E b G RX8 cX8_send 7 none) (hR : zRoom G 5 0 0) {h0 : zH} (hm0 : cSd h0 e n0 ex L A p w r day gone N0 R) (ad : cAd h0 h) {hd : Nat} (hhd : (hd = 0 ∧ cWs h L A w s) ∨ hd = 1) {co cm co2 pa : Nat} {st wn : Nat} {fs : Option Nat} {ld : Nat → Nat} {sd : Int32}
    (hy : (∀ k, k < A.1.1 → zI h 86 k = nI (ld k)) ∧ (zL h 83 0 = lN (co + cm + co2) ∧ zL h 83 1 = lN cm ∧ zL h 83 2 = lN pa) ∧ (zI h 83 3 = nI st ∧ zI h 83 4 = nI wn ∧ zI h 83 5 = oI fs) ∧ (p.2.2.1 = true → zI h 82 9 = sd) ∧ zI h 83 6 = nI lg ∧ lg ≤ 20000) {Q : zT → zH → Prop} (hE : zEnd E b G 0 0 (qV Q))
    (hQ : ∀ h', cAd h0 h' → cWs h' L A w s → cDy h' A.1.1 p.2.2.1 (sd, (if decide (some g = p.2.2.2.2.1) = true then co else co + co2, if decide (some g = p.2.2.2.2.1) = true then cm + co2 else cm, pa), (st, wn, fs), ld) lg → Q t h') {x6 : Option Value} :
    zAW E b G 7 0 0 87 [some (.ref (b + 73)), some (.int (nI g)), some (.int (nI s)), some (.long (lN (co + cm))), none, some (.int (nI hd)), x6] [] t h := by
  have hng := hS.2.1.2.2.1
  have hpo := hS.2.2
  have ea := oI_eq (show g < 2 ^ 31 by omega) hpo.2.2.2.2
  have hm := hm0.ad ad he hng
  have s97 : ∀ (hc : zH) (x6 : Option Value), cAg 74 81 h hc → cWs hc L A w s → zAW E b G 7 0 0 97 [some (.ref (b + 73)), some (.int (nI g)), some (.int (nI s)), some (.long (lN (co + cm))), none, some (.int (nI hd)), x6] [] t hc := by
    intro hc x6 ag hws
    have q1 : zI hc 82 1 = oI p.2.2.2.2.1 := by rw [ag.1 _ _ (by omega)]; exact hm.2.2.1.1.2.1
    obtain ⟨y1, ⟨y2, y3, y4⟩, ⟨y5, y6, y7⟩, y8, y9, y10⟩ := hy
    have l0 : zL hc 83 0 = lN (co + cm + co2) := by rw [ag.2 _ _ (by omega)]; exact y2
    have l1 : zL hc 83 1 = lN cm := by rw [ag.2 _ _ (by omega)]; exact y3
    have l2 : zL hc 83 2 = lN pa := by rw [ag.2 _ _ (by omega)]; exact y4
    have ad2 : cAd h0 hc := ad.tr (.of ag)
    refine zz_iload_1 C dX8_send_97 <| zz_aload_0 C dX8_send_98 <| zz_getR C fX8_21 (tX_K_walk hX) (tX_R_plan hX) dX8_send_99 <| zz_getI C fX8_161 (tX_K_plan hX) dX8_send_102 <| zpc 105 rfl <| ?_
    rw [q1]
    refine zz_icmp_ne C 129 dX8_send_105 (by decide) (fun c105 => ?_) (fun c105 => ?_)
    · rw [ea] at c105
      refine zy_return C hE (zle rfl) (zle rfl) dX8_send_129 ?_
      first
      | (refine hQ hc ad2 hws ?_
         rw [if_neg (by simpa using c105), if_neg (by simpa using c105)]
         refine ⟨fun k hk => ?_, ⟨?_, l1, l2⟩, ⟨?_, ?_, ?_⟩, fun q => ?_, ?_, y10⟩
         · rw [ag.1 _ _ (by omega)]; exact y1 k hk
         · rw [l0]; dsimp only; rw [show co + co2 + cm = co + cm + co2 by omega]
         · rw [ag.1 _ _ (by omega)]; exact y5
         · rw [ag.1 _ _ (by omega)]; exact y6
         · rw [ag.1 _ _ (by omega)]; exact y7
         · rw [ag.1 _ _ (by omega)]; exact y8 q
         · rw [ag.1 _ _ (by omega)]; exact y9)
      | (refine hQ _ ad2.sL (hws.ag (fun i k _ _ _ => rfl)) ?_
         rw [if_pos (by simpa using c105), if_pos (by simpa using c105)]
         have rI : ∀ (v : Int64) (i k : Nat), zI (zsL hc 83 1 v) i k = zI hc i k := fun _ _ _ => rfl
         refine ⟨fun k hk => ?_, ⟨?_, ?_, ?_⟩, ⟨?_, ?_, ?_⟩, fun q => ?_, ?_, y10⟩
         · rw [rI, ag.1 _ _ (by omega)]; exact y1 k hk
         · rw [zL_sL, if_neg (by omega), l0]; dsimp only; rw [show co + (cm + co2) = co + cm + co2 by omega]
         · rw [zL_self]
         · rw [zL_sL, if_neg (by omega), l2]
         · rw [rI, ag.1 _ _ (by omega)]; exact y5
         · rw [rI, ag.1 _ _ (by omega)]; exact y6
         · rw [rI, ag.1 _ _ (by omega)]; exact y7
         · rw [rI, ag.1 _ _ (by omega)]; exact y8 q
         · rw [rI, ag.1 _ _ (by omega)]; exact y9)
    · rw [ea] at c105
      refine zz_aload_0 C dX8_send_108 <| zz_getR C fX8_28 (tX_K_walk hX) (tX_R_tally hX) dX8_send_109 <| zz_dup C dX8_send_112 rfl <| zz_getL C fX8_164 (tX_K_tally hX) dX8_send_113 <| zpc 116 rfl <| ?_
      rw [l1]
      refine zz_aload_0 C dX8_send_116 <| zz_getR C fX8_28 (tX_K_walk hX) (tX_R_tally hX) dX8_send_117 <| zz_getL C fX8_80 (tX_K_tally hX) dX8_send_120 <| zpc 123 rfl <| ?_
      rw [l0]
      refine zz_lload_3 C dX8_send_123 <| zz_lsub C dX8_send_124 <| zpc 125 rfl <| ?_
      rw [lN_sub (by omega), show co + cm + co2 - (co + cm) = co2 by omega]
      refine zz_ladd C dX8_send_125 <| zpc 126 rfl <| ?_
      rw [lN_add]
      refine zy_putL C fX8_164 pX7_1 (tX_K_tally hX) dX8_send_126 <| zpc 129 rfl <| ?_
      refine zy_return C hE (zle rfl) (zle rfl) dX8_send_129 ?_
      first
      | (refine hQ hc ad2 hws ?_
         rw [if_neg (by simpa using c105), if_neg (by simpa using c105)]
         refine ⟨fun k hk => ?_, ⟨?_, l1, l2⟩, ⟨?_, ?_, ?_⟩, fun q => ?_, ?_, y10⟩
         · rw [ag.1 _ _ (by omega)]; exact y1 k hk
         · rw [l0]; dsimp only; rw [show co + co2 + cm = co + cm + co2 by omega]
         · rw [ag.1 _ _ (by omega)]; exact y5
         · rw [ag.1 _ _ (by omega)]; exact y6
         · rw [ag.1 _ _ (by omega)]; exact y7
         · rw [ag.1 _ _ (by omega)]; exact y8 q
         · rw [ag.1 _ _ (by omega)]; exact y9)
      | (refine hQ _ ad2.sL (hws.ag (fun i k _ _ _ => rfl)) ?_
         rw [if_pos (by simpa using c105), if_pos (by simpa using c105)]
         have rI : ∀ (v : Int64) (i k : Nat), zI (zsL hc 83 1 v) i k = zI hc i k := fun _ _ _ => rfl
         refine ⟨fun k hk => ?_, ⟨?_, ?_, ?_⟩, ⟨?_, ?_, ?_⟩, fun q => ?_, ?_, y10⟩
         · rw [rI, ag.1 _ _ (by omega)]; exact y1 k hk
         · rw [zL_sL, if_neg (by omega), l0]; dsimp only; rw [show co + (cm + co2) = co + cm + co2 by omega]
         · rw [zL_self]
         · rw [zL_sL, if_neg (by omega), l2]
         · rw [rI, ag.1 _ _ (by omega)]; exact y5
         · rw [rI, ag.1 _ _ (by omega)]; exact y6
         · rw [rI, ag.1 _ _ (by omega)]; exact y7
         · rw [rI, ag.1 _ _ (by omega)]; exact y8 q
         · rw [rI, ag.1 _ _ (by omega)]; exact y9)
  rcases hhd with ⟨rfl, hws⟩ | rfl
  ·
    refine zz_iload_5 C dX8_send_87 <| zpc 89 rfl <| ?_
    refine zz_if_eq C 97 dX8_send_89 (by decide) (fun c89 => ?_) (fun c89 => ?_)
    · exact s97 h _ (cAg.rf h) hws
    · exact absurd rfl c89
  ·
    refine zz_iload_5 C dX8_send_87 <| zpc 89 rfl <| ?_
    refine zz_if_eq C 97 dX8_send_89 (by decide) (fun c89 => ?_) (fun c89 => ?_)
    · exact absurd c89 (by decide)
    · refine zz_aload_0 C dX8_send_92 <| zz_iload_2 C dX8_send_93 <| zpc 94 rfl <| ?_
      refine zy_callVV C hR [_] (c8_lookRound hX he hS hm s hs) lX8_104 rfl (tX_K_walk hX) (by decide) rfl ⟨zle rfl, zle rfl, zle rfl, zle rfl⟩ (zle rfl) dX8_send_94 ?_
      intro t' h' hv; obtain ⟨rfl, ag, hws⟩ := hv
      exact s97 h' _ ag hws
theorem c8_send (hX : zTX t a c e) (he : e + 31 < 73) (hS : sOk L A p w) (hpx : pX p) (s : Nat) (hs : s < 2 ^ 31) (g : Nat) (hg : g < L.1.2.1) (hm : cSd h e n0 ex L A p w r day gone N0 R) (hws : cWs h L A w s) (hfs : ∀ y, x.2.2.1.2.2 = some y → y < 14) (hy : cDy h A.1.1 p.2.2.1 x lg) : zMet E b l yX8_send cX8_send 7 none 5 0 0 [.ref (b + 73), .int (nI g), .int (nI s)] t h (qV (fun t' h' => t' = t ∧ cAd h h' ∧ cWs h' L A w s ∧ ∃ lg', lg ≤ lg' ∧ (∀ pl, sWay L A p w s g = some pl → mSum A.2 w pl ≤ lg') ∧ cDy h' A.1.1 p.2.2.1 (gWay A.1.2.1 (L.2.1 g 3) A.2 w (decide (some g = p.2.2.2.2.1)) g (sWay L A p w s g) x) lg')) := by
  have hng := hS.2.1.2.2.1
  have hn := hS.1.2.2.1
  have hP := hS.1.2.1
  have hpo := hS.2.2
  have hGg := hS.2.1.2.2.2.2.1 g hg
  have ea := oI_eq (show g < 2 ^ 31 by omega) hpo.2.2.2.2
  have q2 := hm.2.2.1.1.2.2.1
  have q1 := hm.2.2.1.1.2.1
  have e13 : (¬ zI h 82 2 = 0 ∧ nI g = zI h 82 1) ↔ some g = p.2.2.2.1 := by
    rw [q2, q1, zb_ne0, ea]
    constructor
    · rintro ⟨z1, z2⟩
      cases hc : p.2.2.2.1 with
      | none => rw [hc] at z1; cases z1
      | some y => rw [z2, hpx.1 y hc]
    · intro z
      exact ⟨by rw [← z]; rfl, (hpx.1 g z.symm).symm⟩
  have hs2 : (if some g = p.2.2.2.1 then 0 else s) < 2 ^ 31 := by split <;> omega
  obtain ⟨hpl1, hpl2⟩ := nWay_facts (s := if some g = p.2.2.2.1 then 0 else s) hS.1 hGg.1 hGg.2.1
  have hsum := mSum_le hS.1 _ hpl1
  refine zMet.of (ls := [some (.ref (b + 73)), some (.int (nI g)), some (.int (nI s)), none, none, none, none]) (by decide) (zle rfl) 4 rfl ?_
  intro G hlG C hR hE hin
  have s28 : ∀ (hc : zH) (hd : Nat), cAg 74 81 h hc → cWs hc L A w (if some g = p.2.2.2.1 then 0 else s) → ((hd = 0 ∧ ¬ some g = p.2.2.2.1) ∨ (hd = 1 ∧ some g = p.2.2.2.1)) → zAW E b G 7 0 0 28 [some (.ref (b + 73)), some (.int (nI g)), some (.int (nI s)), some (.long (lN (x.2.1.1 + x.2.1.2.1))), none, some (.int (nI hd)), none] [] t hc := by
    intro hc hd ag hwc hhd
    have hmc := hm.ad (.of ag) he hng
    have f0 := hmc.1.2.1 g hg 0 (by omega)
    have f1 := hmc.1.2.1 g hg 1 (by omega)
    obtain ⟨hwy, ms, hms⟩ := hwc
    have hyc := hy.ag ag
    refine zz_aload_0 C dX8_send_28 <| zz_getR C fX8_53 (tX_K_walk hX) (tX_R_wland hX) dX8_send_29 <| zz_getR C fX8_133 (tL_K (tX_Le hX)) (tL_R_goingFacts (tX_Le hX)) dX8_send_32 <| zz_iload_1 C dX8_send_35 <| zc_row C _ (tL_K_goingFacts (tX_Le hX)) (tL_row_goingFacts (tX_Le hX)) (znI (by omega)) (by omega) dX8_send_36 <| fun r36 => ?_
    refine zz_astore_6 C (zle rfl) rfl dX8_send_37 <| zz_aload_0 C dX8_send_39 <| zz_getR C fX8_12 (tX_K_walk hX) (tX_R_ways hX) dX8_send_40 <| zz_aload_6 C dX8_send_43 <| zz_iconst_0 C dX8_send_45 <| zc_iaload C 0 (tL_KR_goingFacts (tX_Le hX) _ r36) (zlit _ (by decide)) (by decide) dX8_send_46 <| zpc 47 rfl <| ?_
    rw [f0]
    refine zz_aload_6 C dX8_send_47 <| zz_iconst_1 C dX8_send_49 <| zc_iaload C 1 (tL_KR_goingFacts (tX_Le hX) _ r36) (zlit _ (by decide)) (by decide) dX8_send_50 <| zpc 51 rfl <| ?_
    rw [f1]
    refine zy_callVI C hR [_, _] (c9_find hX hS.1 _ _ hGg.1 hGg.2.1 hwy hms) lX8_148 rfl (tX_K_ways hX) (by decide) rfl ⟨zle rfl, zle rfl, zle rfl, zle rfl⟩ (zle rfl) dX8_send_51 ?_
    intro v t' h' hv; obtain ⟨rfl, rfl, -, -, ag2, hwy2, ⟨ms2, hms2⟩, hpt⟩ := hv; have hmd := hmc.ad (.of ag2) he hng; have hyd := hyc.ag ag2; have hwd : cWs h' L A w (if some g = p.2.2.2.1 then 0 else s) := ⟨hwy2, ms2, hms2⟩; have ad2 : cAd h h' := .of (ag.tr ag2); obtain ⟨y1, ⟨y2, y3, y4⟩, ⟨y5, y6, y7⟩, y8, y9, y10⟩ := hyd; have f3 := hmd.1.2.1 g hg 3 (by omega)
    refine zz_if_eq C 79 dX8_send_54 (by decide) (fun c54 => ?_) (fun c54 => ?_)
    · first | rw [zb_ne0] at c54 | rw [zb_eq0] at c54
      refine zz_aload_0 C dX8_send_79 <| zz_getR C fX8_28 (tX_K_walk hX) (tX_R_tally hX) dX8_send_80 <| zz_iload_1 C dX8_send_83 <| zpc 84 rfl <| ?_
      refine zf_callVV C hR [_] (c7_noteStay hX _) lX8_158 rfl (tX_K_tally hX) (by decide) rfl ⟨zle rfl, zle rfl, zle rfl, zle rfl⟩ (zle rfl) dX8_send_84 ?_
      skip
      have hnone : sWay L A p w s g = none := by
        unfold sWay
        cases hq : nWay L.1.1 A.1.1 A.1.2.1 (if some g = p.2.2.2.1 then 0 else s) A.2 w (L.2.1 g 0) (L.2.1 g 1) with
        | none => rfl
        | some y => rw [hq] at c54; exact absurd rfl c54
      have eo := oI_n1 (o := x.2.2.1.2.2) (fun y hy => by have := hfs y hy; omega)
      have efs : (if zI h' 83 5 = -1 then nI g else zI h' 83 5) = oI (if x.2.2.1.2.2 = none then some g else x.2.2.1.2.2) := by
        rw [y7]
        by_cases z : x.2.2.1.2.2 = none
        · rw [if_pos z, if_pos (eo.mpr z)]; rfl
        · rw [if_neg z, if_neg (fun y => z (eo.mp y))]
      rw [efs, y2, y5]
      have rd : ∀ (i k : Nat) (u v : Int32) (z : Int64), ¬ (i = 83 ∧ (k = 3 ∨ k = 5)) → zI (zsI (zsL (zsI h' 83 3 u) 83 0 z) 83 5 v) i k = zI h' i k := fun i k u v z hi => by
        rw [zI_sI, if_neg (by omega)]
        show zI (zsI h' 83 3 _) i k = _
        rw [zI_sI, if_neg (by omega)]
      refine l8_send2 (co := x.2.1.1) (cm := x.2.1.2.1) (co2 := 1000) (pa := x.2.1.2.2) (st := x.2.2.1.1 + 1) (wn := x.2.2.1.2.1) (fs := if x.2.2.1.2.2 = none then some g else x.2.2.1.2.2) (ld := x.2.2.2) (sd := x.1) (lg := lg) (h0 := h) hX he hS hpx hs hg C hR hm ?_ ?_ ⟨fun k hk => ?_, ⟨?_, ?_, ?_⟩, ⟨?_, ?_, ?_⟩, fun z => ?_, ?_, y10⟩ hE ?_
      · exact ((ad2.sI (by unfold sg; omega)).sL).sI (by unfold sg; omega)
      · rcases hhd with ⟨rfl, hno⟩ | ⟨rfl, -⟩
        · rw [if_neg hno] at hwd
          exact Or.inl ⟨rfl, hwd.ag (fun i k _ _ _ => rd _ _ _ _ _ (by omega))⟩
        · exact Or.inr rfl
      · rw [rd _ _ _ _ _ (by omega)]; exact y1 k hk
      · exact lN_add _ 1000
      · exact y3
      · exact y4
      · rw [zI_sI, if_neg (by omega), show ∀ (u : Int32) (z : Int64), zI (zsL (zsI h' 83 3 u) 83 0 z) 83 3 = zI (zsI h' 83 3 u) 83 3 from fun _ _ => rfl, zI_self]; first | rfl | exact nI_1 _
      · rw [rd _ _ _ _ _ (by omega)]; exact y6
      · rw [zI_self]
      · rw [rd _ _ _ _ _ (by omega)]; exact y8 z
      · rw [rd _ _ _ _ _ (by omega)]; exact y9
      · intro hq aq hwq hyq
        refine ⟨rfl, aq, hwq, lg, by omega, fun pl2 hpl3 => ?_, ?_⟩
        · rw [hnone] at hpl3; cases hpl3
        · rw [hnone]; exact hyq
    · first | rw [zb_ne0] at c54 | rw [zb_eq0] at c54
      refine zz_aload_0 C dX8_send_57 <| zz_getR C fX8_28 (tX_K_walk hX) (tX_R_tally hX) dX8_send_58 <| zz_aload_0 C dX8_send_61 <| zz_getR C fX8_12 (tX_K_walk hX) (tX_R_ways hX) dX8_send_62 <| zpc 65 rfl <| ?_
      refine zf_callVV C hR [_] (c7_noteWay hX) lX8_151 rfl (tX_K_tally hX) (by decide) rfl ⟨zle rfl, zle rfl, zle rfl, zle rfl⟩ (zle rfl) dX8_send_65 ?_
      obtain ⟨pl, hpl⟩ := Option.isSome_iff_exists.mp c54
      rw [hpl] at hpt hpl1 hpl2 hsum
      obtain ⟨⟨g0, g1, g2⟩, g3⟩ := hpt
      dsimp only [Option.getD_some] at hpl1 hpl2 hsum g0 g1 g2 g3
      rw [g1, g2, y2, y4, y6, y9, nI_l (by omega), nI_l (by have := pdWay_le hS.1 pl hpl1; omega), lN_add, lN_add, nI_max (by omega) (by omega), show (1 : Int32) = nI 1 from rfl, nI_add]
      have rd : ∀ (i k : Nat), ¬ i = 83 → zI (zsI (zsL (zsL (zsI h' 83 4 (nI (x.2.2.1.2.1 + 1))) 83 0 (lN (x.2.1.1 + x.2.1.2.1 + mSum A.2 w pl))) 83 2 (lN (x.2.1.2.2 + pdWay A.1.2.1 w pl))) 83 6 (nI (max lg (mSum A.2 w pl)))) i k = zI h' i k := fun i k hi => by
        rw [zI_sI, if_neg (by omega)]
        show zI (zsI h' 83 4 _) i k = _
        rw [zI_sI, if_neg (by omega)]
      refine zz_aload_0 C dX8_send_68 <| zz_aload_6 C dX8_send_69 <| zz_iconst_3 C dX8_send_71 <| zc_iaload C 3 (tL_KR_goingFacts (tX_Le hX) _ r36) (zlit _ (by decide)) (by decide) dX8_send_72 <| zpc 73 rfl <| ?_
      rw [show zI (zsI (zsL (zsL (zsI h' 83 4 (nI (x.2.2.1.2.1 + 1))) 83 0 (lN (x.2.1.1 + x.2.1.2.1 + mSum A.2 w pl))) 83 2 (lN (x.2.1.2.2 + pdWay A.1.2.1 w pl))) 83 6 (nI (max lg (mSum A.2 w pl)))) (e + 16 + 1 + g) 3 = nI (L.2.1 g 3) from (rd _ _ (by omega)).trans f3]
      refine zy_callVV C hR [_] (c8_loadWay hX hn hpl1 hpl2 (tl := A.1.2.1) (F := A.2) (w := w) ⟨⟨(rd _ _ (by omega)).trans g0, (rd _ _ (by omega)).trans g1, (rd _ _ (by omega)).trans g2⟩, fun i hi => (rd _ _ (by omega)).trans (g3 i hi)⟩ (f := x.2.2.2) (fun k hk => (rd _ _ (by omega)).trans (y1 k hk)) (L.2.1 g 3)) lX8_155 rfl (tX_K_walk hX) (by decide) rfl ⟨zle rfl, zle rfl, zle rfl, zle rfl⟩ (zle rfl) dX8_send_73 ?_
      intro t9 h9 hv; obtain ⟨rfl, r1, r2, r3⟩ := hv
      refine zz_goto C 87 dX8_send_76 (by decide) ?_
      refine l8_send2 (co := x.2.1.1) (cm := x.2.1.2.1) (co2 := mSum A.2 w pl) (pa := x.2.1.2.2 + pdWay A.1.2.1 w pl) (st := x.2.2.1.1) (wn := x.2.2.1.2.1 + 1) (fs := x.2.2.1.2.2) (ld := ldWay (L.2.1 g 3) pl x.2.2.2) (sd := x.1) (lg := max lg (mSum A.2 w pl)) (h0 := h) hX he hS hpx hs hg C hR hm ?_ ?_ ⟨r3, ⟨?_, ?_, ?_⟩, ⟨?_, ?_, ?_⟩, fun z => ?_, ?_, by omega⟩ hE ?_
      · refine ⟨fun i k hn => ?_, fun i k hn => ?_⟩
        · have hn2 := hn
          unfold sg at hn2
          rw [r1 _ _ (by omega), rd _ _ (by omega)]; exact ad2.1 i k hn
        · rw [r2, show ∀ v, zL (zsI (zsL (zsL (zsI h' 83 4 (nI (x.2.2.1.2.1 + 1))) 83 0 (lN (x.2.1.1 + x.2.1.2.1 + mSum A.2 w pl))) 83 2 (lN (x.2.1.2.2 + pdWay A.1.2.1 w pl))) 83 6 v) i k = zL (zsL (zsL (zsI h' 83 4 (nI (x.2.2.1.2.1 + 1))) 83 0 (lN (x.2.1.1 + x.2.1.2.1 + mSum A.2 w pl))) 83 2 (lN (x.2.1.2.2 + pdWay A.1.2.1 w pl))) i k from fun _ => rfl, zL_sL, if_neg (by omega), zL_sL, if_neg (by omega)]
          exact ad2.2 i k hn
      · rcases hhd with ⟨rfl, hno⟩ | ⟨rfl, -⟩
        · rw [if_neg hno] at hwd
          exact Or.inl ⟨rfl, hwd.ag (fun i k _ _ _ => (r1 _ _ (by omega)).trans (rd _ _ (by omega)))⟩
        · exact Or.inr rfl
      · rw [r2]; rfl
      · rw [r2]; exact y3
      · rw [r2]; rfl
      · rw [r1 _ _ (by omega), zI_sI, if_neg (by omega), zI_sL, zI_sL, zI_sI, if_neg (by omega)]; exact y5
      · rw [r1 _ _ (by omega), zI_sI, if_neg (by omega), zI_sL, zI_sL, zI_self]
      · rw [r1 _ _ (by omega), zI_sI, if_neg (by omega), zI_sL, zI_sL, zI_sI, if_neg (by omega)]; exact y7
      · rw [r1 _ _ (by omega), rd _ _ (by omega)]; exact y8 z
      · rw [r1 _ _ (by omega), zI_self]
      · intro hq aq hwq hyq
        refine ⟨rfl, aq, hwq, max lg (mSum A.2 w pl), by omega, fun pl2 hpl3 => ?_, ?_⟩
        · have : pl = pl2 := Option.some.inj (hpl.symm.trans hpl3)
          rw [← this]; omega
        · unfold sWay; rw [hpl]; exact hyq
  refine zz_aload_0 C dX8_send_0 <| zz_getR C fX8_28 (tX_K_walk hX) (tX_R_tally hX) dX8_send_1 <| zz_getL C fX8_80 (tX_K_tally hX) dX8_send_4 <| zpc 7 rfl <| ?_
  rw [hy.2.1.1]
  refine zz_lstore_3 C (zle rfl) rfl dX8_send_7 <| zz_aload_0 C dX8_send_8 <| zz_getR C fX8_21 (tX_K_walk hX) (tX_R_plan hX) dX8_send_9 <| zz_iload_1 C dX8_send_12 <| zpc 13 rfl <| ?_
  refine zf_callVI C hR [_] (c2_isHeedless hX _) lX8_145 rfl (tX_K_plan hX) (by decide) rfl ⟨zle rfl, zle rfl, zle rfl, zle rfl⟩ (zle rfl) dX8_send_13 ?_
  refine zz_istore_5 C (zle rfl) rfl dX8_send_16 <| zz_iload_5 C dX8_send_18 <| zpc 20 rfl <| ?_
  refine zz_if_eq C 28 dX8_send_20 (by decide) (fun c20 => ?_) (fun c20 => ?_)
  · first | rw [zb_ne0, e13] at c20 | rw [zb_eq0, e13] at c20
    rw [zb_f (fun z => c20 (e13.mp z))]
    exact s28 h 0 (cAg.rf h) (by rw [if_neg c20]; exact hws) (Or.inl ⟨rfl, c20⟩)
  · first | rw [zb_ne0, e13] at c20 | rw [zb_eq0, e13] at c20
    refine zz_aload_0 C dX8_send_23 <| zz_iconst_0 C dX8_send_24 <| zpc 25 rfl <| ?_
    refine zy_callVV C hR [_] (c8_lookRound hX he hS hm 0 (by omega)) lX8_104 rfl (tX_K_walk hX) (by decide) rfl ⟨zle rfl, zle rfl, zle rfl, zle rfl⟩ (zle rfl) dX8_send_25 ?_
    intro t' h' hv; obtain ⟨rfl, ag, hw2⟩ := hv
    rw [zb_t (e13.mpr c20)]
    exact s28 h' 1 ag (by rw [if_pos c20]; exact hw2) (Or.inr ⟨rfl, c20⟩)
end CN
