/-! ===== the class: Walk, what a rule shuts, many days, the beginning ===== -/
section CO
variable {E : zE} {b : Nat} {G : zG} {t : zT} {h : zH} {l : Launch} {n0 s day gone N0 : Nat} {ex : Option Nat} {L : yL} {A : yN} {p : yP} {w r : Nat → Nat} {R : Nat × (Nat → Nat)} {a c e : Nat} {x : yS}
/-- a rule that can be asked for: the rules that look at the roads are asked for on plain walks alone -/
def ruOk (rule : Nat) (ex : Option Nat) (p : yP) (R : Nat × (Nat → Nat)) : Prop := rule ≤ 3 ∧ (rule = 1 → 0 < R.1) ∧ (2 ≤ rule → ex = none ∧ p.1 = none ∧ p.2.1.1 = none)
theorem cWk.ag {h h' : zH} (he : e + 31 < 73) (hg : L.1.2.1 ≤ 14) (a : cAg 84 85 h h') (hm : cWk h e n0 ex L A p x N0 R) : cWk h' e n0 ex L A p x N0 R := by
  obtain ⟨⟨h1, h2, h3, h4, h5⟩, h6⟩ := hm
  refine ⟨⟨h1.ag a (by omega) hg, h2.ag a (by omega), h3.ad (fun k hk => a.1 _ _ (by omega)), h4.ag a (by omega), ?_⟩, h6.eq (fun k => a.1 _ _ (by omega)) (fun k => a.2 _ _ (by omega)) (a.1 _ _ (by omega))⟩
  rw [a.1 _ _ (by omega)]; exact h5
theorem c8_shutBy (hX : zTX t a c e) (he : e + 31 < 73) (hW : wOk L A p x) (hm : cWk h e n0 ex L A p x N0 R) (hd2 : x.2.1.1 < 2 ^ 30) (hg2 : x.2.1.2 < 2 ^ 30) (hRo : roOk R) (rule : Nat) (hru : ruOk rule ex p R) : zMet E b l yX8_shutBy cX8_shutBy 2 (some .int) 5 0 0 [.ref (b + 73), .int (nI rule)] t h (qI (fun v t' h' => t' = t ∧ cAg 84 85 h h' ∧ v = nI (rShut L A p R x rule))) := by
  obtain ⟨h3, hr1, hr2⟩ := hru
  obtain ⟨hS, hN3, hN11, hrN⟩ := hW
  obtain ⟨⟨hl1, hrd, hpl, hst, hgo⟩, -⟩ := hm
  have hR30 := hRo.1
  refine zMet.of (ls := [some (.ref (b + 73)), some (.int (nI rule))]) (by decide) (zle rfl) 0 rfl ?_
  intro G hlG C hR hE hin
  obtain rfl | rfl | rfl | rfl : rule = 0 ∨ rule = 1 ∨ rule = 2 ∨ rule = 3 := by omega
  ·
    refine zz_iload_1 C dX8_shutBy_0 <| zz_tableOut C 95 dX8_shutBy_1 (by decide) (by decide) <| zz_iconst_0 C dX8_shutBy_95 <| zpc 96 rfl <| ?_
    refine zy_ireturn C hE (zle rfl) (zle rfl) dX8_shutBy_96 ?_
    exact ⟨rfl, cAg.rf h, rfl⟩
  ·
    have hR1 := hr1 rfl
    have hmod : x.2.1.2 % R.1 < R.1 := Nat.mod_lt _ hR1
    refine zz_iload_1 C dX8_shutBy_0 <| zz_tableIn C 28 dX8_shutBy_1 (by decide) (by decide) (by first | rfl | decide) (by decide) <| zz_aload_0 C dX8_shutBy_28 <| zz_getR C fX8_46 (tX_K_walk hX) (tX_R_state hX) dX8_shutBy_29 <| zz_getI C fX8_84 (tS_K (tX_S87 hX)) dX8_shutBy_32 <| zpc 35 rfl <| ?_
    rw [hst.1.2]
    refine zz_if_le C 61 dX8_shutBy_35 (by decide) (fun c35 => ?_) (fun c35 => ?_)
    · exact absurd c35 (nI_nle hR1 (by omega))
    · refine zz_aload_0 C dX8_shutBy_38 <| zz_getR C fX8_46 (tX_K_walk hX) (tX_R_state hX) dX8_shutBy_39 <| zz_getR C fX8_87 (tS_K (tX_S87 hX)) (tS_R_row (tX_S87 hX)) dX8_shutBy_42 <| zz_aload_0 C dX8_shutBy_45 <| zz_getI C fX8_61 (tX_K_walk hX) dX8_shutBy_46 <| zpc 49 rfl <| ?_
      rw [hgo]
      refine zz_aload_0 C dX8_shutBy_49 <| zz_getR C fX8_46 (tX_K_walk hX) (tX_R_state hX) dX8_shutBy_50 <| zz_getI C fX8_84 (tS_K (tX_S87 hX)) dX8_shutBy_53 <| zpc 56 rfl <| ?_
      rw [hst.1.2]
      refine zz_irem C dX8_shutBy_56 (by exact nI_ne0 hR1 (by omega)) <| zpc 57 rfl <| ?_
      rw [pk_rem (by omega) hR1 (by omega)]
      refine zc_iaload C _ (tS_K_row (tX_S87 hX)) (znI (by omega)) (by omega) dX8_shutBy_57 <| zpc 58 rfl <| ?_
      rw [hst.2.2.2 _ hmod]
      refine zz_goto C 62 dX8_shutBy_58 (by decide) <| zpc 62 rfl <| ?_
      refine zy_ireturn C hE (zle rfl) (zle rfl) dX8_shutBy_62 ?_
      exact ⟨rfl, cAg.rf h, rfl⟩
  ·
    obtain ⟨rfl, hp1, hp2⟩ := hr2 (by omega)
    have hn0 : n0 = A.1.1 := by have := hrd.1.2.1; rw [show exN none = 0 from rfl] at this; omega
    rw [hn0] at hl1 hrd
    refine zz_iload_1 C dX8_shutBy_0 <| zz_tableIn C 63 dX8_shutBy_1 (by decide) (by decide) (by first | rfl | decide) (by decide) <| zz_aload_0 C dX8_shutBy_63 <| zz_getR C fX8_35 (tX_K_walk hX) (tX_R_gate hX) dX8_shutBy_64 <| zz_aload_0 C dX8_shutBy_67 <| zz_getR C fX8_53 (tX_K_walk hX) (tX_R_wland hX) dX8_shutBy_68 <| zz_aload_0 C dX8_shutBy_71 <| zz_getR C fX8_46 (tX_K_walk hX) (tX_R_state hX) dX8_shutBy_72 <| zpc 75 rfl <| ?_
    refine zy_callVI C hR [_, _] (c0_worst hX (tX_Le hX) (tX_S87 hX) (by omega) (by omega) hS.2.1 hS.1 (p := p) (gone := x.2.1.2) (R := R) (x := x) ⟨hl1, hrd, hst.2.1, hst.1.1⟩ (by omega) hp1 hp2 rfl rfl) lX8_90 rfl (tX_K_gate hX) (by decide) rfl ⟨zle rfl, zle rfl, zle rfl, zle rfl⟩ (zle rfl) dX8_shutBy_75 ?_
    intro v t' h' hv
    refine zy_ireturn C hE (zle rfl) (zle rfl) dX8_shutBy_78 ?_
    exact hv
  ·
    obtain ⟨rfl, hp1, hp2⟩ := hr2 (by omega)
    have hn0 : n0 = A.1.1 := by have := hrd.1.2.1; rw [show exN none = 0 from rfl] at this; omega
    rw [hn0] at hl1 hrd
    refine zz_iload_1 C dX8_shutBy_0 <| zz_tableIn C 79 dX8_shutBy_1 (by decide) (by decide) (by first | rfl | decide) (by decide) <| zz_aload_0 C dX8_shutBy_79 <| zz_getR C fX8_35 (tX_K_walk hX) (tX_R_gate hX) dX8_shutBy_80 <| zz_aload_0 C dX8_shutBy_83 <| zz_getR C fX8_53 (tX_K_walk hX) (tX_R_wland hX) dX8_shutBy_84 <| zz_aload_0 C dX8_shutBy_87 <| zz_getR C fX8_46 (tX_K_walk hX) (tX_R_state hX) dX8_shutBy_88 <| zpc 91 rfl <| ?_
    refine zy_callVI C hR [_, _] (c0_rested hX (tX_Le hX) (tX_S87 hX) (by omega) (by omega) hS.2.1 hS.1 (fun k hk => by have := hrN k hk; omega) (p := p) (gone := x.2.1.2) (R := R) (x := x) ⟨hl1, hrd, hst.2.1, hst.1.1⟩ (by omega) hp1 hp2 rfl rfl) lX8_94 rfl (tX_K_gate hX) (by decide) rfl ⟨zle rfl, zle rfl, zle rfl, zle rfl⟩ (zle rfl) dX8_shutBy_91 ?_
    intro v t' h' hv
    refine zy_ireturn C hE (zle rfl) (zle rfl) dX8_shutBy_94 ?_
    exact hv
theorem c8_goOn (hX : zTX t a c e) (he : e + 31 < 73) (hW : wOk L A p x) (hpx : pX p) (htm : tmOk x) (hm : cWk h e n0 ex L A p x N0 R) (hRo : roOk R) (rule : Nat) (hru : ruOk rule ex p R) (d : Nat) (hd : d ≤ 4000) (hd2 : x.2.1.1 + d < 2 ^ 30) : zMet E b l yX8_goOn cX8_goOn 4 (some .long) 7 0 0 [.ref (b + 73), .int (nI rule), .int (nI d)] t h (qJ (fun v t' h' => t' = t ∧ cAg 73 90 h h' ∧ cWk h' e n0 ex L A p (dDays L A p R rule d x) N0 R ∧ v = lN ((dDays L A p R rule d x).2.2.2.1.1 + (dDays L A p R rule d x).2.2.2.1.2.1))) := by
  have hng := hW.1.2.1.2.2.1
  have hn := hW.1.1.2.2.1
  have h3 := hru.1
  refine zMet.of (ls := [some (.ref (b + 73)), some (.int (nI rule)), some (.int (nI d)), none]) (by decide) (zle rfl) 1 rfl ?_
  intro G hlG C hR hE hin
  have lp : ∀ q, q ≤ d → ∀ hc : zH, cAg 73 90 h hc → cWk hc e n0 ex L A p (dDays L A p R rule q x) N0 R → zAW E b G 4 0 0 2 [some (.ref (b + 73)), some (.int (nI rule)), some (.int (nI d)), some (.int (nI q))] [] t hc := by
    refine zLoop d fun q hq ih hc ag hmc => ?_
    have etm := dDays_tm L A p R rule x q
    have hWq := hW.days R rule q
    have ht1 : (dDays L A p R rule q x).2.1.1 = x.2.1.1 + q := by rw [etm]
    have ht2 : (dDays L A p R rule q x).2.1.2 = x.2.1.2 + q := by rw [etm]
    have htx : x.2.1.2 ≤ x.2.1.1 := htm
    refine zz_iload_3 C dX8_goOn_2 <| zz_iload_2 C dX8_goOn_3 <| zpc 4 rfl <| ?_
    refine zz_icmp_ge C 22 dX8_goOn_4 (by decide) (fun c4 => ?_) (fun c4 => ?_)
    · rw [nI_leI (by omega) (by omega)] at c4
      refine zz_aload_0 C dX8_goOn_22 <| zz_getR C fX8_28 (tX_K_walk hX) (tX_R_tally hX) dX8_goOn_23 <| zz_getL C fX8_80 (tX_K_tally hX) dX8_goOn_26 <| zpc 29 rfl <| ?_
      rw [hmc.2.1.1]
      refine zy_lreturn C hE (zle rfl) (zle rfl) dX8_goOn_29 ?_
      rw [show d = q by omega]; exact ⟨rfl, ag, hmc, rfl⟩
    · rw [nI_leI (by omega) (by omega)] at c4
      refine zz_aload_0 C dX8_goOn_7 <| zz_aload_0 C dX8_goOn_8 <| zz_iload_1 C dX8_goOn_9 <| zpc 10 rfl <| ?_
      refine zy_callVI C hR [_] (c8_shutBy hX he hWq hmc (by omega) (by omega) hRo rule hru) lX8_72 rfl (tX_K_walk hX) (by decide) rfl ⟨zle rfl, zle rfl, zle rfl, zle rfl⟩ (zle rfl) dX8_goOn_10 ?_
      intro v t9 h9 hv; obtain ⟨rfl, ag9, rfl⟩ := hv
      refine zy_callVV C hR [_] (c8_passDay hX he hWq hpx (by show (dDays L A p R rule q x).2.1.2 ≤ (dDays L A p R rule q x).2.1.1; omega) (hmc.ag he hng ag9) (by omega) _ (by have := rShut_lt (rule := rule) hWq hRo hru.2.1; omega)) lX8_76 rfl (tX_K_walk hX) (by decide) rfl ⟨zle rfl, zle rfl, zle rfl, zle rfl⟩ (zle rfl) dX8_goOn_13 ?_
      intro t8 h8 hv; obtain ⟨rfl, ag8, hm8, -⟩ := hv
      refine zz_iinc_3 C _ (zle rfl) rfl dX8_goOn_16 nI_s <| zz_goto C 2 dX8_goOn_19 (by decide) <| zpc 2 rfl <| ?_
      exact ih (by omega) _ (ag.tr ((ag9.wd (by omega) (by omega)).tr ag8)) hm8
  refine zz_iconst_0 C dX8_goOn_0 <| zz_istore_3 C (zle rfl) rfl dX8_goOn_1 <| zpc 2 rfl <| ?_
  exact lp 0 (by omega) h (cAg.rf h) hm
/-- the beginning of a walk over the land at i from the State at j -/
theorem c8_begin {i j : Nat} (hX : zTX t a c e) (hi : i = 2 ∨ i = 36) (hL : zTL t i) (hS : zTS t j) (hj : j + 3 < 87 ∨ 90 < j) (hj2 : j + 3 < 73 ∨ 91 ≤ j) (hng : L.1.2.1 ≤ 14) (hn : A.1.1 ≤ 11) (hR30 : R.1 ≤ 30) (hld : cLd h i L n0) (hrd : cRd h i n0 none A) (htl : A.1.2.1 = 0) (hN : zI h i 5 = nI A.1.2.2) (hst : cSt h j n0 N0 day w r R) (sd : Int32) : zMet E b l yX8_begin cX8_begin 3 none 3 0 0 [.ref (b + 73), .ref (b + i), .ref (b + j)] t h (qV (fun t' h' => t' = zsR t 73 6 (some i) ∧ zTX t' a c i ∧ cAg 73 90 h h' ∧ cWk h' i n0 none L A yP0 ((w, r), (day, 0), (sd, (0, 0, 0), (0, 0, none), fun _ => 0)) N0 R)) := by
  have hn0 : n0 = A.1.1 := by have := hrd.1.2.1; rw [show exN none = 0 from rfl] at this; omega
  have hX2 := hX.wl (i := i) (by omega)
  have hL2 : zTL (zsR t 73 6 (some i)) i := tX_L hX2 (by omega)
  have hS2 : zTS (zsR t 73 6 (some i)) j := by
    obtain ⟨⟨s1, s2, s3, s4⟩, s5⟩ := hS
    refine ⟨⟨s1, ?_, ?_, ?_⟩, s5⟩
    · rw [zR_sR, if_neg (by omega)]; exact s2
    · rw [zR_sR, if_neg (by omega)]; exact s3
    · rw [zR_sR, if_neg (by omega)]; exact s4
  refine zMet.of (ls := [some (.ref (b + 73)), some (.ref (b + i)), some (.ref (b + j))]) (by decide) (zle rfl) 0 rfl ?_
  intro G hlG C hR hE hin
  refine zz_aload_0 C dX8_begin_0 <| zz_aload_1 C dX8_begin_1 <| zz_putR C fX8_53 pX8_6 (tX_K_walk hX) dX8_begin_2 <| zpc 5 rfl <| ?_
  have hX := hX2
  refine zz_aload_0 C dX8_begin_5 <| zz_getR C fX8_46 (tX_K_walk hX) (tX_R_state hX) dX8_begin_6 <| zz_aload_2 C dX8_begin_9 <| zpc 10 rfl <| ?_
  refine zy_callVV C hR [_] (c6_take (tX_S87 hX) hS2 (by omega)) lX8_57 rfl (tS_K (tX_S87 hX)) (by decide) rfl ⟨zle rfl, zle rfl, zle rfl, zle rfl⟩ (zle rfl) dX8_begin_10 ?_
  intro t9 h9 hv; obtain ⟨rfl, tk⟩ := hv
  refine zz_aload_0 C dX8_begin_13 <| zz_iconst_0 C dX8_begin_14 <| zy_putI C fX8_61 pX8_7 (tX_K_walk hX) dX8_begin_15 <| zz_aload_0 C dX8_begin_18 <| zz_getR C fX8_21 (tX_K_walk hX) (tX_R_plan hX) dX8_begin_19 <| zz_aload_1 C dX8_begin_22 <| zpc 23 rfl <| ?_
  refine zf_callVV C hR [_] (c2_makePlain hX hL2 (by omega)) lX8_65 rfl (tX_K_plan hX) (by decide) rfl ⟨zle rfl, zle rfl, zle rfl, zle rfl⟩ (zle rfl) dX8_begin_23 ?_
  refine zz_aload_0 C dX8_begin_26 <| zz_getR C fX8_28 (tX_K_walk hX) (tX_R_tally hX) dX8_begin_27 <| zpc 30 rfl <| ?_
  refine zf_callVV C hR [] (c7_makeEmpty hX) lX8_69 rfl (tX_K_tally hX) (by decide) rfl ⟨zle rfl, zle rfl, zle rfl, zle rfl⟩ (zle rfl) dX8_begin_30 ?_
  refine zy_return C hE (zle rfl) (zle rfl) dX8_begin_33 ?_
  have e5 : zI (zsI h9 73 7 0) i 5 = nI A.1.2.2 := by rw [zI_sI, if_neg (by omega), tk.1.1 _ _ (by omega)]; exact hN
  rw [e5]
  have rd : ∀ i k, ¬ (i = 82 ∨ i = 83) → ∀ (u1 u2 u3 : Int64) (v1 v2 v3 v4 : Int32), zI (zsI (zsI (zsI (zsI (zsL (zsL (zsL (hPlain (zsI h9 73 7 0) (nI A.1.2.2)) 83 0 u1) 83 1 u2) 83 2 u3) 83 3 v1) 83 4 v2) 83 5 v3) 83 6 v4) i k = zI (zsI h9 73 7 0) i k := fun i k hi u1 u2 u3 v1 v2 v3 v4 => by
    rw [zI_sI, if_neg (by omega), zI_sI, if_neg (by omega), zI_sI, if_neg (by omega), zI_sI, if_neg (by omega), zI_sL, zI_sL, zI_sL, zI_hPlain, if_neg (by omega)]
  have r82 : ∀ k, k < 10 → ∀ (u1 u2 u3 : Int64) (v1 v2 v3 v4 : Int32), zI (zsI (zsI (zsI (zsI (zsL (zsL (zsL (hPlain (zsI h9 73 7 0) (nI A.1.2.2)) 83 0 u1) 83 1 u2) 83 2 u3) 83 3 v1) 83 4 v2) 83 5 v3) 83 6 v4) 82 k = (if k = 1 ∨ k = 5 then -1 else if k = 6 then nI A.1.2.2 else 0) := fun k hk u1 u2 u3 v1 v2 v3 v4 => by
    rw [zI_sI, if_neg (by omega), zI_sI, if_neg (by omega), zI_sI, if_neg (by omega), zI_sI, if_neg (by omega), zI_sL, zI_sL, zI_sL, zI_hPlain, if_pos (by omega)]
  have rdh : ∀ i k, ¬ (73 ≤ i ∧ i ≤ 90) → ∀ (u1 u2 u3 : Int64) (v1 v2 v3 v4 : Int32), zI (zsI (zsI (zsI (zsI (zsL (zsL (zsL (hPlain (zsI h9 73 7 0) (nI A.1.2.2)) 83 0 u1) 83 1 u2) 83 2 u3) 83 3 v1) 83 4 v2) 83 5 v3) 83 6 v4) i k = zI h i k := fun i k hi u1 u2 u3 v1 v2 v3 v4 => by
    rw [rd _ _ (by omega), zI_sI, if_neg (by omega)]; exact tk.1.1 _ _ (by omega)
  have ag : cAg 73 90 h (zsI (zsI (zsI (zsI (zsL (zsL (zsL (hPlain (zsI h9 73 7 0) (nI A.1.2.2)) 83 0 0) 83 1 0) 83 2 0) 83 3 0) 83 4 0) 83 5 (-1)) 83 6 0) := ⟨fun i k hi => rdh i k hi _ _ _ _ _ _ _, fun i k hi => by
    show zL (zsL (zsL (zsL (hPlain (zsI h9 73 7 0) (nI A.1.2.2)) 83 0 0) 83 1 0) 83 2 0) i k = _
    rw [zL_sL, if_neg (by omega), zL_sL, if_neg (by omega), zL_sL, if_neg (by omega)]
    exact tk.1.2 i k (by omega)⟩
  refine ⟨rfl, hX, ag, ⟨hld.ag ag (by omega) hng, hrd.ag ag (by omega), ⟨⟨?_, ?_, ?_, ?_⟩, ?_, ?_, ?_, ?_, ?_⟩, ?_, ?_⟩, ⟨⟨?_, ?_, ?_⟩, ⟨?_, ?_, ?_⟩, fun z => by cases z⟩⟩
  · rw [r82 _ (by omega), htl]; rfl
  · rw [r82 _ (by omega)]; rfl
  · rw [r82 _ (by omega)]; rfl
  · rw [r82 _ (by omega)]; rfl
  · rw [r82 _ (by omega)]; rfl
  · rw [r82 _ (by omega)]; rfl
  · rw [r82 _ (by omega)]; rfl
  · rw [r82 _ (by omega)]; rfl
  · rw [r82 _ (by omega)]; rfl
  · have := tk.st (by omega) hR30 hst
    rw [hn0] at this
    obtain ⟨⟨k1, k2⟩, k3, k4, k5⟩ := this
    refine ⟨⟨?_, ?_⟩, fun k hk => ?_, fun k hk hk2 => ?_, fun k hk => ?_⟩
    · rw [rd _ _ (by omega), zI_sI, if_neg (by omega)]; exact k1
    · rw [rd _ _ (by omega), zI_sI, if_neg (by omega)]; exact k2
    · rw [rd _ _ (by omega), rd _ _ (by omega), zI_sI, if_neg (by omega), zI_sI, if_neg (by omega)]; exact k3 k hk
    · rw [rd _ _ (by omega), rd _ _ (by omega), zI_sI, if_neg (by omega), zI_sI, if_neg (by omega)]; exact k4 k hk hk2
    · rw [rd _ _ (by omega), zI_sI, if_neg (by omega)]; exact k5 k hk
  · rw [rd _ _ (by omega), zI_self]; rfl
  · show zL (zsL (zsL (zsL (hPlain (zsI h9 73 7 0) (nI A.1.2.2)) 83 0 0) 83 1 0) 83 2 0) 83 0 = _
    rw [zL_sL, if_neg (by omega), zL_sL, if_neg (by omega), zL_self]; rfl
  · show zL (zsL (zsL (zsL (hPlain (zsI h9 73 7 0) (nI A.1.2.2)) 83 0 0) 83 1 0) 83 2 0) 83 1 = _
    rw [zL_sL, if_neg (by omega), zL_self]; rfl
  · show zL (zsL (zsL (zsL (hPlain (zsI h9 73 7 0) (nI A.1.2.2)) 83 0 0) 83 1 0) 83 2 0) 83 2 = _
    rw [zL_self]; rfl
  · rw [zI_sI, if_neg (by omega), zI_sI, if_neg (by omega), zI_sI, if_neg (by omega), zI_self]; rfl
  · rw [zI_sI, if_neg (by omega), zI_sI, if_neg (by omega), zI_self]; rfl
  · rw [zI_sI, if_neg (by omega), zI_self]; rfl
end CO
