/-! ===== the class as it stands between calls ===== -/
/-- its land lies at a; roads that might be; the row -/
def cSn (h : zH) (a : Nat) (D : yD) (Mo : Nat × (Nat → Nat → Nat)) (R : Nat × (Nat → Nat)) : Prop := cLd h a D.1 D.2.1.1.1 ∧ cRd h a D.2.1.1.1 none D.2.1 ∧ (zI h a 2 = nI Mo.1 ∧ zI h a 5 = nI D.2.1.1.2.2 ∧ ∀ k, k < Mo.1 → ∀ q, q < 5 → zI h (a + 1 + 1 + (10 + k)) q = nI (Mo.2 k q)) ∧ cSt h 68 D.2.1.1.1 D.2.1.1.2.2 D.2.2.2 D.2.2.1.1 D.2.2.1.2 R
def moOk (P : Nat) (Mo : Nat × (Nat → Nat → Nat)) : Prop := Mo.1 ≤ 4 ∧ ∀ k, k < Mo.1 → Mo.2 k 0 < P ∧ Mo.2 k 1 < P ∧ Mo.2 k 0 ≠ Mo.2 k 1 ∧ 1 ≤ Mo.2 k 2 ∧ Mo.2 k 2 ≤ 99 ∧ Mo.2 k 3 ≤ 9 ∧ 1 ≤ Mo.2 k 4 ∧ Mo.2 k 4 ≤ 30
def dOk (D : yD) (Mo : Nat × (Nat → Nat → Nat)) (R : Nat × (Nat → Nat)) : Prop := sdOk D yP0 ∧ D.2.1.1.2.1 = 0 ∧ D.2.1.1.1 ≤ 10 ∧ roOk R ∧ moOk D.1.1.1 Mo
theorem cSn.ag {h h' : zH} {lo hi a : Nat} {D : yD} {Mo : Nat × (Nat → Nat → Nat)} {R : Nat × (Nat → Nat)} (g : cAg lo hi h h') (hlo : 73 ≤ lo) (ha : a = 2 ∨ a = 36) (hO : dOk D Mo R) (hm : cSn h a D Mo R) : cSn h' a D Mo R := by
  obtain ⟨h1, h2, ⟨h3, h4, h5⟩, h6⟩ := hm
  have hng := hO.1.1.2.1.2.2.1
  have hmo := hO.2.2.2.2.1
  refine ⟨h1.ag g (by omega) hng, h2.ag g (by omega), ⟨?_, ?_, fun k hk q hq => ?_⟩, h6.ag g (by omega)⟩
  · rw [g.1 _ _ (by omega)]; exact h3
  · rw [g.1 _ _ (by omega)]; exact h4
  · rw [g.1 _ _ (by omega)]; exact h5 k hk q hq
/-- what a question leaves -/
def cAsk (t : zT) (a : Nat) (h : zH) (t' : zT) (h' : zH) : Prop := (t' = t ∨ t' = zsR t 73 6 (some a)) ∧ cAg 73 144 h h'
theorem zsR2 (t : zT) (i k : Nat) (v w : Option Nat) : zsR (zsR t i k v) i k w = zsR t i k w := by
  unfold zsR
  refine Prod.ext rfl (Prod.ext rfl ?_)
  funext j q
  dsimp only
  split <;> rfl
theorem tX_a2 {t : zT} {a c e : Nat} (hX : zTX t a c e) : a = 2 ∨ a = 36 := by rcases hX.2.2.2.1 with ⟨h, -⟩ | ⟨h, -⟩ <;> omega
theorem pX0 : pX yP0 := ⟨(fun g q => by cases q), (fun g q => by cases q), (fun g q => by cases q)⟩
section CA
variable {E : zE} {b : Nat} {G : zG} {t : zT} {h : zH} {l : Launch} {a c e : Nat} {D : yD} {Mo : Nat × (Nat → Nat → Nat)} {R : Nat × (Nat → Nat)}
theorem c8_beg (hX : zTX t a c e) (hO : dOk D Mo R) (hm : cSn h a D Mo R) (sd : Int32) : zMet E b l yX8_begin cX8_begin 3 none 3 0 0 [.ref (b + 73), .ref (b + a), .ref (b + 68)] t h (qV (fun t' h' => t' = zsR t 73 6 (some a) ∧ zTX t' a c a ∧ cAg 73 90 h h' ∧ cWk h' a D.2.1.1.1 none D.1 D.2.1 yP0 (x0 D sd) D.2.1.1.2.2 R ∧ cSn h' a D Mo R)) := by
  have ha := tX_a2 hX
  refine zMet.mono (c8_begin hX ha (tX_La hX) (tX_S68 hX) (by omega) (by omega) hO.1.1.2.1.2.2.1 hO.1.1.1.2.2.1 hO.2.2.2.1.1 hm.1 hm.2.1 hO.2.1 hm.2.2.1.2.1 hm.2.2.2 sd) ?_
  rintro v t' h' ⟨rfl, rfl, hx, ag, hw⟩
  exact ⟨rfl, rfl, hx, ag, hw, hm.ag ag (by omega) ha hO⟩
theorem c10_fault (hX : zTX t a c e) : zMet E b l yX10_fault cX10_fault 1 (some .int) 1 0 0 [.ref (b + 0)] t h (qIf (zI h 1 2) t h) := by
  refine zMet.of (ls := [some (.ref (b + 0))]) (by decide) (zle rfl) 0 rfl ?_
  intro G hlG C hR hE hin
  refine zz_aload_0 C dX10_fault_0 <| zz_getR C fX10_10 (tX_K_X hX) (tX_R_reader hX) dX10_fault_1 <| zz_getI C fX10_92 (tX_K_reader hX) dX10_fault_4 <| zpc 7 rfl <| ?_
  exact zf_ireturn C hE (zle rfl) (zle rfl) dX10_fault_7 rfl rfl rfl
def tAsk (D : yD) (nm : Nat) : Nat → Nat
  | 0 => D.1.1.1
  | 1 => D.2.1.1.1
  | 2 => nm
  | 3 => D.1.1.2.1
  | 4 => D.1.1.2.2
  | 5 => D.2.1.1.2.2
  | _ => D.2.2.2
theorem c10_told1 (hX : zTX t a c e) (hm : cSn h a D Mo R) (k : Nat) (hk : k ≤ 6) : zMet E b l yX10_told cX10_told 2 (some .int) 7 0 0 [.ref (b + 0), .int (nI k)] t h (qIf (nI (tAsk D Mo.1 k)) t h) := by
  obtain ⟨⟨⟨m0, m1, m3, m4⟩, -⟩, -, ⟨m2, m5, -⟩, ⟨⟨m6, -⟩, -⟩⟩ := hm
  refine zMet.of (ls := [some (.ref (b + 0)), some (.int (nI k))]) (by decide) (zle rfl) 0 rfl ?_
  intro G hlG C hR hE hin
  have s18 : zAW E b G 2 0 0 18 [some (.ref (b + 0)), some (.int (nI k))] [] t h := by
    obtain rfl | rfl | rfl | rfl | rfl | rfl | rfl : k = 0 ∨ k = 1 ∨ k = 2 ∨ k = 3 ∨ k = 4 ∨ k = 5 ∨ k = 6 := by omega
    ·
      refine zz_iload_1 C dX10_told_18 <| zz_tableIn C 56 dX10_told_19 (by decide) (by decide) (by first | rfl | decide) (by decide) <| zz_aload_0 C dX10_told_56 <| zz_getR C fX10_19 (tX_K_X hX) (tX_R_land hX) dX10_told_57 <| zz_getI C fX10_95 (tL_K (tX_La hX)) dX10_told_60 <| zpc 63 rfl <| ?_
      exact zf_ireturn C hE (zle rfl) (zle rfl) dX10_told_63 (by rw [m0]; rfl) rfl rfl
    ·
      refine zz_iload_1 C dX10_told_18 <| zz_tableIn C 64 dX10_told_19 (by decide) (by decide) (by first | rfl | decide) (by decide) <| zz_aload_0 C dX10_told_64 <| zz_getR C fX10_19 (tX_K_X hX) (tX_R_land hX) dX10_told_65 <| zz_getI C fX10_89 (tL_K (tX_La hX)) dX10_told_68 <| zpc 71 rfl <| ?_
      exact zf_ireturn C hE (zle rfl) (zle rfl) dX10_told_71 (by rw [m1]; rfl) rfl rfl
    ·
      refine zz_iload_1 C dX10_told_18 <| zz_tableIn C 72 dX10_told_19 (by decide) (by decide) (by first | rfl | decide) (by decide) <| zz_aload_0 C dX10_told_72 <| zz_getR C fX10_19 (tX_K_X hX) (tX_R_land hX) dX10_told_73 <| zz_getI C fX10_98 (tL_K (tX_La hX)) dX10_told_76 <| zpc 79 rfl <| ?_
      exact zf_ireturn C hE (zle rfl) (zle rfl) dX10_told_79 (by rw [m2]; rfl) rfl rfl
    ·
      refine zz_iload_1 C dX10_told_18 <| zz_tableIn C 80 dX10_told_19 (by decide) (by decide) (by first | rfl | decide) (by decide) <| zz_aload_0 C dX10_told_80 <| zz_getR C fX10_19 (tX_K_X hX) (tX_R_land hX) dX10_told_81 <| zz_getI C fX10_101 (tL_K (tX_La hX)) dX10_told_84 <| zpc 87 rfl <| ?_
      exact zf_ireturn C hE (zle rfl) (zle rfl) dX10_told_87 (by rw [m3]; rfl) rfl rfl
    ·
      refine zz_iload_1 C dX10_told_18 <| zz_tableIn C 88 dX10_told_19 (by decide) (by decide) (by first | rfl | decide) (by decide) <| zz_aload_0 C dX10_told_88 <| zz_getR C fX10_19 (tX_K_X hX) (tX_R_land hX) dX10_told_89 <| zz_getI C fX10_104 (tL_K (tX_La hX)) dX10_told_92 <| zpc 95 rfl <| ?_
      exact zf_ireturn C hE (zle rfl) (zle rfl) dX10_told_95 (by rw [m4]; rfl) rfl rfl
    ·
      refine zz_iload_1 C dX10_told_18 <| zz_tableIn C 96 dX10_told_19 (by decide) (by decide) (by first | rfl | decide) (by decide) <| zz_aload_0 C dX10_told_96 <| zz_getR C fX10_19 (tX_K_X hX) (tX_R_land hX) dX10_told_97 <| zz_getI C fX10_63 (tL_K (tX_La hX)) dX10_told_100 <| zpc 103 rfl <| ?_
      exact zf_ireturn C hE (zle rfl) (zle rfl) dX10_told_103 (by rw [m5]; rfl) rfl rfl
    ·
      refine zz_iload_1 C dX10_told_18 <| zz_tableOut C 104 dX10_told_19 (by decide) (by decide) <| zz_aload_0 C dX10_told_104 <| zz_getR C fX10_26 (tX_K_X hX) (tX_R_now hX) dX10_told_105 <| zz_getI C fX10_107 (tS_K (tX_S68 hX)) dX10_told_108 <| zpc 111 rfl <| ?_
      exact zf_ireturn C hE (zle rfl) (zle rfl) dX10_told_111 (by rw [m6]; rfl) rfl rfl
  refine zz_iload_1 C dX10_told_0 <| zpc 1 rfl <| ?_
  refine zz_if_lt C 14 dX10_told_1 (by decide) (fun c1 => ?_) (fun c1 => ?_)
  · exact absurd c1 (nI_pos (by omega))
  · refine zz_iload_1 C dX10_told_4 <| zz_bipush C 6 dX10_told_5 (by decide) <| zpc 7 rfl <| ?_
    refine zz_icmp_gt C 14 dX10_told_7 (by decide) (fun c7 => ?_) (fun c7 => ?_)
    · exact absurd c7 (nI_nlt (a := 6) hk (by omega))
    · refine zz_iconst_1 C dX10_told_10 <| zz_goto C 15 dX10_told_11 (by decide) <| zpc 15 rfl <| ?_
      refine zf_callSV C hR [_] (c10_demand1 _ (by decide)) lX10_76 rfl ⟨zle rfl, zle rfl, zle rfl, zle rfl⟩ (zle rfl) dX10_told_15 ?_
      exact s18
theorem c10_told0 (hX : zTX t a c e) (hlt : l.stackTraces = false) (hf : t.1.2 = false) (s : Int32) (hs : ¬ ∃ k, k ≤ 6 ∧ s = nI k) : zMetX E b l yX10_told cX10_told 2 (some .int) 7 1 6 [.ref (b + 0), .int s] t h xA := by
  refine zMetX.of (ls := [some (.ref (b + 0)), some (.int s)]) hlt (by decide) (zle rfl) 0 rfl ?_
  intro G hlG C hR hE
  rw [← hlG] at hlt
  refine zz_iload_1 C dX10_told_0 <| zpc 1 rfl <| ?_
  refine zz_if_lt C 14 dX10_told_1 (by decide) (fun c1 => ?_) (fun c1 => ?_)
  · refine zz_iconst_0 C dX10_told_14 <| zpc 15 rfl <| ?_
    exact zx_callS C hR hE [_] (c10_demand0 hlt hf) lX10_76 rfl ⟨zle rfl, zle rfl, zle rfl, zle rfl⟩ (zle rfl) (zle rfl) (zle rfl) dX10_told_15
  · refine zz_iload_1 C dX10_told_4 <| zz_bipush C 6 dX10_told_5 (by decide) <| zpc 7 rfl <| ?_
    refine zz_icmp_gt C 14 dX10_told_7 (by decide) (fun c7 => ?_) (fun c7 => ?_)
    · refine zz_iconst_0 C dX10_told_14 <| zpc 15 rfl <| ?_
      exact zx_callS C hR hE [_] (c10_demand0 hlt hf) lX10_76 rfl ⟨zle rfl, zle rfl, zle rfl, zle rfl⟩ (zle rfl) (zle rfl) (zle rfl) dX10_told_15
    · refine zz_iconst_1 C dX10_told_10 <| zz_goto C 15 dX10_told_11 (by decide) <| zpc 15 rfl <| ?_
      obtain ⟨j, hj, ej⟩ := nI_of2 (x := s) (n := 6) (M := 6) rfl c1 (Int32.not_lt.mp c7)
      exact absurd ⟨j, hj, ej⟩ hs
theorem c10_going1b (hX : zTX t a c e) (hO : dOk D Mo R) (hm : cSn h a D Mo R) (g q : Nat) (hg : g < D.1.1.2.1) (hq : q ≤ 5) : zMet E b l yX10_going cX10_going 3 (some .int) 7 0 0 [.ref (b + 0), .int (nI g), .int (nI q)] t h (qIf (nI (D.1.2.1 g q)) t h) := by
  have hng := hO.1.1.2.1.2.2.1
  have f := hm.1.2.1 g hg q (by omega)
  refine zMet.of (ls := [some (.ref (b + 0)), some (.int (nI g)), some (.int (nI q))]) (by decide) (zle rfl) 0 rfl ?_
  intro G hlG C hR hE hin
  refine zz_aload_0 C dX10_going_0 <| zz_iload_1 C dX10_going_1 <| zpc 2 rfl <| ?_
  refine zf_callVV C hR [_] (c10_going1 hX hng hm.1.1.2.2.1 g hg) lX10_127 rfl (tX_K_X hX) (by decide) rfl ⟨zle rfl, zle rfl, zle rfl, zle rfl⟩ (zle rfl) dX10_going_2 ?_
  refine zz_iload_2 C dX10_going_5 <| zpc 6 rfl <| ?_
  refine zz_if_lt C 19 dX10_going_6 (by decide) (fun c6 => ?_) (fun c6 => ?_)
  · exact absurd c6 (nI_pos (by omega))
  · refine zz_iload_2 C dX10_going_9 <| zz_bipush C 6 dX10_going_10 (by decide) <| zpc 12 rfl <| ?_
    refine zz_icmp_ge C 19 dX10_going_12 (by decide) (fun c12 => ?_) (fun c12 => ?_)
    · exact absurd c12 (nI_ge (b := 6) (by omega) (by omega))
    · refine zz_iconst_1 C dX10_going_15 <| zz_goto C 20 dX10_going_16 (by decide) <| zpc 20 rfl <| ?_
      refine zf_callSV C hR [_] (c10_demand1 _ (by decide)) lX10_76 rfl ⟨zle rfl, zle rfl, zle rfl, zle rfl⟩ (zle rfl) dX10_going_20 ?_
      refine zz_aload_0 C dX10_going_23 <| zz_getR C fX10_19 (tX_K_X hX) (tX_R_land hX) dX10_going_24 <| zz_getR C fX10_130 (tL_K (tX_La hX)) (tL_R_goingFacts (tX_La hX)) dX10_going_27 <| zz_iload_1 C dX10_going_30 <| zc_row C _ (tL_K_goingFacts (tX_La hX)) (tL_row_goingFacts (tX_La hX)) (znI (by omega)) (by omega) dX10_going_31 <| fun r31 => ?_
      refine zz_iload_2 C dX10_going_32 <| zc_iaload C _ (tL_KR_goingFacts (tX_La hX) _ r31) (znI (by omega)) (by omega) dX10_going_33 <| zpc 34 rfl <| ?_
      exact zf_ireturn C hE (zle rfl) (zle rfl) dX10_going_34 (by exact f) rfl rfl
theorem c10_going0b (hX : zTX t a c e) (hlt : l.stackTraces = false) (hf : t.1.2 = false) (hO : dOk D Mo R) (hm : cSn h a D Mo R) (s q : Int32) (hs : ¬ ∃ k, k < D.1.1.2.1 ∧ s = nI k) : zMetX E b l yX10_going cX10_going 3 (some .int) 7 1 6 [.ref (b + 0), .int s, .int q] t h xN := by
  have hng := hO.1.1.2.1.2.2.1
  refine zMetX.of (ls := [some (.ref (b + 0)), some (.int s), some (.int q)]) hlt (by decide) (zle rfl) 0 rfl ?_
  intro G hlG C hR hE
  rw [← hlG] at hlt
  refine zz_aload_0 C dX10_going_0 <| zz_iload_1 C dX10_going_1 <| zpc 2 rfl <| ?_
  exact zx_callV C hR hE [_] (c10_going0 hX hlt hf hng hm.1.1.2.2.1 s hs) lX10_127 rfl (tX_K_X hX) (by decide) rfl ⟨zle rfl, zle rfl, zle rfl, zle rfl⟩ (zle rfl) (zle rfl) (zle rfl) dX10_going_2
theorem c10_going2b (hX : zTX t a c e) (hlt : l.stackTraces = false) (hf : t.1.2 = false) (hO : dOk D Mo R) (hm : cSn h a D Mo R) (g : Nat) (hg : g < D.1.1.2.1) (q : Int32) (hq : ¬ ∃ k, k ≤ 5 ∧ q = nI k) : zMetX E b l yX10_going cX10_going 3 (some .int) 7 1 6 [.ref (b + 0), .int (nI g), .int q] t h xA := by
  have hng := hO.1.1.2.1.2.2.1
  refine zMetX.of (ls := [some (.ref (b + 0)), some (.int (nI g)), some (.int q)]) hlt (by decide) (zle rfl) 0 rfl ?_
  intro G hlG C hR hE
  rw [← hlG] at hlt
  refine zz_aload_0 C dX10_going_0 <| zz_iload_1 C dX10_going_1 <| zpc 2 rfl <| ?_
  refine zf_callVV C hR [_] (c10_going1 hX hng hm.1.1.2.2.1 g hg) lX10_127 rfl (tX_K_X hX) (by decide) rfl ⟨zle rfl, zle rfl, zle rfl, zle rfl⟩ (zle rfl) dX10_going_2 ?_
  refine zz_iload_2 C dX10_going_5 <| zpc 6 rfl <| ?_
  refine zz_if_lt C 19 dX10_going_6 (by decide) (fun c6 => ?_) (fun c6 => ?_)
  · refine zz_iconst_0 C dX10_going_19 <| zpc 20 rfl <| ?_
    exact zx_callS C hR hE [_] (c10_demand0 hlt hf) lX10_76 rfl ⟨zle rfl, zle rfl, zle rfl, zle rfl⟩ (zle rfl) (zle rfl) (zle rfl) dX10_going_20
  · refine zz_iload_2 C dX10_going_9 <| zz_bipush C 6 dX10_going_10 (by decide) <| zpc 12 rfl <| ?_
    refine zz_icmp_ge C 19 dX10_going_12 (by decide) (fun c12 => ?_) (fun c12 => ?_)
    · refine zz_iconst_0 C dX10_going_19 <| zpc 20 rfl <| ?_
      exact zx_callS C hR hE [_] (c10_demand0 hlt hf) lX10_76 rfl ⟨zle rfl, zle rfl, zle rfl, zle rfl⟩ (zle rfl) (zle rfl) (zle rfl) dX10_going_20
    · refine zz_iconst_1 C dX10_going_15 <| zz_goto C 20 dX10_going_16 (by decide) <| zpc 20 rfl <| ?_
      obtain ⟨k, hk, ek⟩ := (ixOk (s := q) (n := 6) (by omega)).mp ⟨c6, Int32.not_le.mp c12⟩
      exact absurd ⟨k, by omega, ek⟩ hq
theorem c10_road1b (hX : zTX t a c e) (hO : dOk D Mo R) (hm : cSn h a D Mo R) (k q : Nat) (hk : k < D.2.1.1.1) (hq : q ≤ 7) : zMet E b l yX10_road cX10_road 4 (some .int) 7 0 0 [.ref (b + 0), .int (nI k), .int (nI q)] t h (qIf (oI (rAsk D k q)) t h) := by
  have hn := hO.2.2.1
  have hb := hO.1.1.1.2.2.2.2 k hk
  have fr : ∀ q, q < 5 → zI h (a + 1 + 1 + k) q = nI (D.2.1.2 k q) := fun q hq => hm.2.1.2 k hk q hq
  obtain ⟨w1, r1⟩ := hm.2.2.2.2.1 k hk
  have hwr : cWr h a 68 D.2.1.1.1 D.2.1.2 D.2.2.1.1 := ⟨⟨hm.1.1.2.1, hn⟩, fun j hj => ⟨⟨(hm.2.2.2.2.1 j hj).1, by have := hO.1.1.1.2.2.2.2 j hj; omega⟩, hm.2.1.2 j hj 4 (by omega), by have := hO.1.1.1.2.2.2.2 j hj; omega⟩⟩
  refine zMet.of (ls := [some (.ref (b + 0)), some (.int (nI k)), some (.int (nI q)), none]) (by decide) (zle rfl) 1 rfl ?_
  intro G hlG C hR hE hin
  have s33 : zAW E b G 4 0 0 33 [some (.ref (b + 0)), some (.int (nI k)), some (.int (nI q)), some (.ref (b + (a + 1 + 1 + k)))] [] t h := by
    have hK : zK t (a + 1 + 1 + k) = (12, 5) := tL_KR_roadFacts (tX_La hX) k (by omega)
    obtain rfl | rfl | rfl | rfl | rfl | rfl | rfl | rfl : q = 0 ∨ q = 1 ∨ q = 2 ∨ q = 3 ∨ q = 4 ∨ q = 5 ∨ q = 6 ∨ q = 7 := by omega
    ·
      refine zz_iload_2 C dX10_road_33 <| zz_tableOut C 117 dX10_road_34 (by decide) (by decide) <| zz_aload_3 C dX10_road_117 <| zz_iload_2 C dX10_road_118 <| zc_iaload C _ hK (znI (by omega)) (by omega) dX10_road_119 <| zpc 120 rfl <| ?_
      exact zf_ireturn C hE (zle rfl) (zle rfl) dX10_road_120 (by exact fr 0 (by omega)) rfl rfl
    ·
      refine zz_iload_2 C dX10_road_33 <| zz_tableOut C 117 dX10_road_34 (by decide) (by decide) <| zz_aload_3 C dX10_road_117 <| zz_iload_2 C dX10_road_118 <| zc_iaload C _ hK (znI (by omega)) (by omega) dX10_road_119 <| zpc 120 rfl <| ?_
      exact zf_ireturn C hE (zle rfl) (zle rfl) dX10_road_120 (by exact fr 1 (by omega)) rfl rfl
    ·
      refine zz_iload_2 C dX10_road_33 <| zz_tableOut C 117 dX10_road_34 (by decide) (by decide) <| zz_aload_3 C dX10_road_117 <| zz_iload_2 C dX10_road_118 <| zc_iaload C _ hK (znI (by omega)) (by omega) dX10_road_119 <| zpc 120 rfl <| ?_
      exact zf_ireturn C hE (zle rfl) (zle rfl) dX10_road_120 (by exact fr 2 (by omega)) rfl rfl
    ·
      refine zz_iload_2 C dX10_road_33 <| zz_tableOut C 117 dX10_road_34 (by decide) (by decide) <| zz_aload_3 C dX10_road_117 <| zz_iload_2 C dX10_road_118 <| zc_iaload C _ hK (znI (by omega)) (by omega) dX10_road_119 <| zpc 120 rfl <| ?_
      exact zf_ireturn C hE (zle rfl) (zle rfl) dX10_road_120 (by exact fr 3 (by omega)) rfl rfl
    ·
      refine zz_iload_2 C dX10_road_33 <| zz_tableOut C 117 dX10_road_34 (by decide) (by decide) <| zz_aload_3 C dX10_road_117 <| zz_iload_2 C dX10_road_118 <| zc_iaload C _ hK (znI (by omega)) (by omega) dX10_road_119 <| zpc 120 rfl <| ?_
      exact zf_ireturn C hE (zle rfl) (zle rfl) dX10_road_120 (by exact fr 4 (by omega)) rfl rfl
    ·
      refine zz_iload_2 C dX10_road_33 <| zz_tableIn C 60 dX10_road_34 (by decide) (by decide) (by first | rfl | decide) (by decide) <| zz_aload_0 C dX10_road_60 <| zz_getR C fX10_26 (tX_K_X hX) (tX_R_now hX) dX10_road_61 <| zz_getR C fX10_117 (tS_K (tX_S68 hX)) (tS_R_wear (tX_S68 hX)) dX10_road_64 <| zz_iload_1 C dX10_road_67 <| zc_iaload C _ (tS_K_wear (tX_S68 hX)) (znI (by omega)) (by omega) dX10_road_68 <| zpc 69 rfl <| ?_
      exact zf_ireturn C hE (zle rfl) (zle rfl) dX10_road_69 (by exact w1) rfl rfl
    ·
      refine zz_iload_2 C dX10_road_33 <| zz_tableIn C 70 dX10_road_34 (by decide) (by decide) (by first | rfl | decide) (by decide) <| zz_aload_0 C dX10_road_70 <| zz_getR C fX10_26 (tX_K_X hX) (tX_R_now hX) dX10_road_71 <| zz_getR C fX10_120 (tS_K (tX_S68 hX)) (tS_R_rested (tX_S68 hX)) dX10_road_74 <| zz_iload_1 C dX10_road_77 <| zc_iaload C _ (tS_K_rested (tX_S68 hX)) (znI (by omega)) (by omega) dX10_road_78 <| zpc 79 rfl <| ?_
      exact zf_ireturn C hE (zle rfl) (zle rfl) dX10_road_79 (by exact r1) rfl rfl
    ·
      refine zz_iload_2 C dX10_road_33 <| zz_tableIn C 80 dX10_road_34 (by decide) (by decide) (by first | rfl | decide) (by decide) <| zz_aload_0 C dX10_road_80 <| zz_getR C fX10_26 (tX_K_X hX) (tX_R_now hX) dX10_road_81 <| zz_aload_0 C dX10_road_84 <| zz_getR C fX10_19 (tX_K_X hX) (tX_R_land hX) dX10_road_85 <| zz_iload_1 C dX10_road_88 <| zpc 89 rfl <| ?_
      refine zf_callVI C hR [_, _] (c6_isPastUse (tX_S68 hX) (tX_La hX) hwr k hk) lX10_123 rfl (tS_K (tX_S68 hX)) (by decide) rfl ⟨zle rfl, zle rfl, zle rfl, zle rfl⟩ (zle rfl) dX10_road_89 ?_
      refine zz_if_eq C 99 dX10_road_92 (by decide) (fun c92 => ?_) (fun c92 => ?_)
      · first | rw [zb_ne0] at c92 | rw [zb_eq0] at c92
        refine zz_aload_3 C dX10_road_99 <| zz_iconst_2 C dX10_road_100 <| zc_iaload C 2 hK (zlit _ (by decide)) (by decide) dX10_road_101 <| zz_aload_3 C dX10_road_102 <| zz_iconst_3 C dX10_road_103 <| zc_iaload C 3 hK (zlit _ (by decide)) (by decide) dX10_road_104 <| zz_aload_0 C dX10_road_105 <| zz_getR C fX10_26 (tX_K_X hX) (tX_R_now hX) dX10_road_106 <| zz_getR C fX10_117 (tS_K (tX_S68 hX)) (tS_R_wear (tX_S68 hX)) dX10_road_109 <| zz_iload_1 C dX10_road_112 <| zc_iaload C _ (tS_K_wear (tX_S68 hX)) (znI (by omega)) (by omega) dX10_road_113 <| zz_imul C dX10_road_114 <| zz_iadd C dX10_road_115 <| zpc 116 rfl <| ?_
        refine zf_ireturn C hE (zle rfl) (zle rfl) dX10_road_116 ?_ rfl rfl
        first
        | (show _ = oI (if D.2.1.2 k 4 < D.2.2.1.1 k then none else some (D.2.1.2 k 2 + D.2.1.2 k 3 * D.2.2.1.1 k)); rw [if_pos c92]; rfl)
        | (show _ = oI (if D.2.1.2 k 4 < D.2.2.1.1 k then none else some (D.2.1.2 k 2 + D.2.1.2 k 3 * D.2.2.1.1 k)); rw [if_neg c92, fr 2 (by omega), fr 3 (by omega), w1, pk_mul, nI_add]; rfl)
      · first | rw [zb_ne0] at c92 | rw [zb_eq0] at c92
        refine zz_iconst_m1 C dX10_road_95 <| zz_goto C 116 dX10_road_96 (by decide) <| zpc 116 rfl <| ?_
        refine zf_ireturn C hE (zle rfl) (zle rfl) dX10_road_116 ?_ rfl rfl
        first
        | (show _ = oI (if D.2.1.2 k 4 < D.2.2.1.1 k then none else some (D.2.1.2 k 2 + D.2.1.2 k 3 * D.2.2.1.1 k)); rw [if_pos c92]; rfl)
        | (show _ = oI (if D.2.1.2 k 4 < D.2.2.1.1 k then none else some (D.2.1.2 k 2 + D.2.1.2 k 3 * D.2.2.1.1 k)); rw [if_neg c92, fr 2 (by omega), fr 3 (by omega), w1, pk_mul, nI_add]; rfl)
  refine zz_aload_0 C dX10_road_0 <| zz_iload_1 C dX10_road_1 <| zpc 2 rfl <| ?_
  refine zf_callVV C hR [_] (c10_road1 hX hn hm.1.1.2.1 k hk) lX10_110 rfl (tX_K_X hX) (by decide) rfl ⟨zle rfl, zle rfl, zle rfl, zle rfl⟩ (zle rfl) dX10_road_2 ?_
  refine zz_iload_2 C dX10_road_5 <| zpc 6 rfl <| ?_
  refine zz_if_lt C 19 dX10_road_6 (by decide) (fun c6 => ?_) (fun c6 => ?_)
  · exact absurd c6 (nI_pos (by omega))
  · refine zz_iload_2 C dX10_road_9 <| zz_bipush C 7 dX10_road_10 (by decide) <| zpc 12 rfl <| ?_
    refine zz_icmp_gt C 19 dX10_road_12 (by decide) (fun c12 => ?_) (fun c12 => ?_)
    · exact absurd c12 (nI_nlt (a := 7) hq (by omega))
    · refine zz_iconst_1 C dX10_road_15 <| zz_goto C 20 dX10_road_16 (by decide) <| zpc 20 rfl <| ?_
      refine zf_callSV C hR [_] (c10_demand1 _ (by decide)) lX10_76 rfl ⟨zle rfl, zle rfl, zle rfl, zle rfl⟩ (zle rfl) dX10_road_20 ?_
      refine zz_aload_0 C dX10_road_23 <| zz_getR C fX10_19 (tX_K_X hX) (tX_R_land hX) dX10_road_24 <| zz_getR C fX10_113 (tL_K (tX_La hX)) (tL_R_roadFacts (tX_La hX)) dX10_road_27 <| zz_iload_1 C dX10_road_30 <| zc_row C _ (tL_K_roadFacts (tX_La hX)) (tL_row_roadFacts (tX_La hX)) (znI (by omega)) (by omega) dX10_road_31 <| fun r31 => ?_
      refine zz_astore_3 C (zle rfl) rfl dX10_road_32 <| zpc 33 rfl <| ?_
      exact s33
theorem c10_road0b (hX : zTX t a c e) (hlt : l.stackTraces = false) (hf : t.1.2 = false) (hO : dOk D Mo R) (hm : cSn h a D Mo R) (s q : Int32) (hs : ¬ ∃ k, k < D.2.1.1.1 ∧ s = nI k) : zMetX E b l yX10_road cX10_road 4 (some .int) 7 1 6 [.ref (b + 0), .int s, .int q] t h xR := by
  refine zMetX.of (ls := [some (.ref (b + 0)), some (.int s), some (.int q), none]) hlt (by decide) (zle rfl) 1 rfl ?_
  intro G hlG C hR hE
  rw [← hlG] at hlt
  refine zz_aload_0 C dX10_road_0 <| zz_iload_1 C dX10_road_1 <| zpc 2 rfl <| ?_
  exact zx_callV C hR hE [_] (c10_road0 hX hlt hf hO.2.2.1 hm.1.1.2.1 s hs) lX10_110 rfl (tX_K_X hX) (by decide) rfl ⟨zle rfl, zle rfl, zle rfl, zle rfl⟩ (zle rfl) (zle rfl) (zle rfl) dX10_road_2
theorem c10_road2b (hX : zTX t a c e) (hlt : l.stackTraces = false) (hf : t.1.2 = false) (hO : dOk D Mo R) (hm : cSn h a D Mo R) (g : Nat) (hg : g < D.2.1.1.1) (q : Int32) (hq : ¬ ∃ k, k ≤ 7 ∧ q = nI k) : zMetX E b l yX10_road cX10_road 4 (some .int) 7 1 6 [.ref (b + 0), .int (nI g), .int q] t h xA := by
  refine zMetX.of (ls := [some (.ref (b + 0)), some (.int (nI g)), some (.int q), none]) hlt (by decide) (zle rfl) 1 rfl ?_
  intro G hlG C hR hE
  rw [← hlG] at hlt
  refine zz_aload_0 C dX10_road_0 <| zz_iload_1 C dX10_road_1 <| zpc 2 rfl <| ?_
  refine zf_callVV C hR [_] (c10_road1 hX hO.2.2.1 hm.1.1.2.1 g hg) lX10_110 rfl (tX_K_X hX) (by decide) rfl ⟨zle rfl, zle rfl, zle rfl, zle rfl⟩ (zle rfl) dX10_road_2 ?_
  refine zz_iload_2 C dX10_road_5 <| zpc 6 rfl <| ?_
  refine zz_if_lt C 19 dX10_road_6 (by decide) (fun c6 => ?_) (fun c6 => ?_)
  · refine zz_iconst_0 C dX10_road_19 <| zpc 20 rfl <| ?_
    exact zx_callS C hR hE [_] (c10_demand0 hlt hf) lX10_76 rfl ⟨zle rfl, zle rfl, zle rfl, zle rfl⟩ (zle rfl) (zle rfl) (zle rfl) dX10_road_20
  · refine zz_iload_2 C dX10_road_9 <| zz_bipush C 7 dX10_road_10 (by decide) <| zpc 12 rfl <| ?_
    refine zz_icmp_gt C 19 dX10_road_12 (by decide) (fun c12 => ?_) (fun c12 => ?_)
    · refine zz_iconst_0 C dX10_road_19 <| zpc 20 rfl <| ?_
      exact zx_callS C hR hE [_] (c10_demand0 hlt hf) lX10_76 rfl ⟨zle rfl, zle rfl, zle rfl, zle rfl⟩ (zle rfl) (zle rfl) (zle rfl) dX10_road_20
    · refine zz_iconst_1 C dX10_road_15 <| zz_goto C 20 dX10_road_16 (by decide) <| zpc 20 rfl <| ?_
      obtain ⟨j, hj, ej⟩ := nI_of2 (x := q) (n := 7) (M := 7) rfl c6 (Int32.not_lt.mp c12)
      exact absurd ⟨j, hj, ej⟩ hq
/-- the way that would be taken now -/
theorem c10_seekWay (hX : zTX t a c e) (hO : dOk D Mo R) (hm : cSn h a D Mo R) (g s : Nat) (hg : g < D.1.1.2.1) (hs : s < 2 ^ D.2.1.1.1) : zMet E b l yX10_seekWay cX10_seekWay 4 (some .boolean) 5 0 0 [.ref (b + 0), .int (nI g), .int (nI s)] t h (qI (fun v t' h' => t' = zsR t 73 6 (some a) ∧ zTX t' a c a ∧ cAg 73 90 h h' ∧ v = zb ((gw D g s).isSome = true) ∧ cPt h' D.2.1.1.2.1 D.2.1.2 D.2.2.1.1 ((gw D g s).getD []) ∧ ((∀ k ∈ (gw D g s).getD [], k < D.2.1.1.1) ∧ ((gw D g s).getD []).length ≤ 11))) := by
  have hng := hO.1.1.2.1.2.2.1
  have hGg := hO.1.1.2.1.2.2.2.2.1 g hg
  have ha := tX_a2 hX
  have hpow : 2 ^ D.2.1.1.1 ≤ 2 ^ 10 := Nat.pow_le_pow_right (by decide) hO.2.2.1
  have hP := hO.1.1.1.2.1
  refine zMet.of (ls := [some (.ref (b + 0)), some (.int (nI g)), some (.int (nI s)), none]) (by decide) (zle rfl) 1 rfl ?_
  intro G hlG C hR hE hin
  refine zz_aload_0 C dX10_seekWay_0 <| zz_getR C fX10_41 (tX_K_X hX) (tX_R_walk hX) dX10_seekWay_1 <| zz_aload_0 C dX10_seekWay_4 <| zz_getR C fX10_19 (tX_K_X hX) (tX_R_land hX) dX10_seekWay_5 <| zz_aload_0 C dX10_seekWay_8 <| zz_getR C fX10_26 (tX_K_X hX) (tX_R_now hX) dX10_seekWay_9 <| zpc 12 rfl <| ?_
  refine zy_callVV C hR [_, _] (c8_beg hX hO hm 0) lX10_155 rfl (tX_K_walk hX) (by decide) rfl ⟨zle rfl, zle rfl, zle rfl, zle rfl⟩ (zle rfl) dX10_seekWay_12 ?_
  intro t' h' hv; obtain ⟨rfl, hX, ag, hw, hsn⟩ := hv
  refine zz_aload_0 C dX10_seekWay_15 <| zz_getR C fX10_41 (tX_K_X hX) (tX_R_walk hX) dX10_seekWay_16 <| zz_iload_2 C dX10_seekWay_19 <| zpc 20 rfl <| ?_
  refine zy_callVV C hR [_] (c8_lookRound hX (by omega) hO.1.1 hw.1 s (by omega)) lX10_159 rfl (tX_K_walk hX) (by decide) rfl ⟨zle rfl, zle rfl, zle rfl, zle rfl⟩ (zle rfl) dX10_seekWay_20 ?_
  intro t' h2 hv; obtain ⟨rfl, ag2, hws⟩ := hv; have f0 := (hsn.ag ag2 (by omega) ha hO).1.2.1 g hg 0 (by omega); have f1 := (hsn.ag ag2 (by omega) ha hO).1.2.1 g hg 1 (by omega); obtain ⟨hwy, ms, hms⟩ := hws
  refine zz_aload_0 C dX10_seekWay_23 <| zz_getR C fX10_19 (tX_K_X hX) (tX_R_land hX) dX10_seekWay_24 <| zz_getR C fX10_130 (tL_K (tX_La hX)) (tL_R_goingFacts (tX_La hX)) dX10_seekWay_27 <| zz_iload_1 C dX10_seekWay_30 <| zc_row C _ (tL_K_goingFacts (tX_La hX)) (tL_row_goingFacts (tX_La hX)) (znI (by omega)) (by omega) dX10_seekWay_31 <| fun r31 => ?_
  refine zz_astore_3 C (zle rfl) rfl dX10_seekWay_32 <| zz_aload_0 C dX10_seekWay_33 <| zz_getR C fX10_41 (tX_K_X hX) (tX_R_walk hX) dX10_seekWay_34 <| zz_getR C fX10_140 (tX_K_walk hX) (tX_R_ways hX) dX10_seekWay_37 <| zz_aload_3 C dX10_seekWay_40 <| zz_iconst_0 C dX10_seekWay_41 <| zc_iaload C 0 (tL_KR_goingFacts (tX_La hX) _ r31) (zlit _ (by decide)) (by decide) dX10_seekWay_42 <| zpc 43 rfl <| ?_
  rw [f0]
  refine zz_aload_3 C dX10_seekWay_43 <| zz_iconst_1 C dX10_seekWay_44 <| zc_iaload C 1 (tL_KR_goingFacts (tX_La hX) _ r31) (zlit _ (by decide)) (by decide) dX10_seekWay_45 <| zpc 46 rfl <| ?_
  rw [f1]
  refine zy_callVI C hR [_, _] (c9_find hX hO.1.1.1 _ _ hGg.1 hGg.2.1 hwy hms) lX10_162 rfl (tX_K_ways hX) (by decide) rfl ⟨zle rfl, zle rfl, zle rfl, zle rfl⟩ (zle rfl) dX10_seekWay_46 ?_
  intro v t' h3 hv; obtain ⟨rfl, rfl, hb1, -, ag3, -, -, hpt⟩ := hv
  refine zy_zreturn C hE (zle rfl) (zle rfl) dX10_seekWay_49 (by exact zb_01 _) ?_
  exact ⟨rfl, hX, ag.tr ((ag2.tr ag3).wd (by omega) (by omega)), rfl, hpt, hb1⟩
theorem c10_way1b (hX : zTX t a c e) (hO : dOk D Mo R) (hm : cSn h a D Mo R) (g s : Nat) (hg : g < D.1.1.2.1) (hs : s < 2 ^ D.2.1.1.1) : zMet E b l yX10_way cX10_way 3 (some .int) 8 0 0 [.ref (b + 0), .int (nI g), .int (nI s)] t h (qI (fun v t' h' => v = oI ((gw D g s).map (mSum D.2.1.2 D.2.2.1.1)) ∧ cAsk t a h t' h')) := by
  have hng := hO.1.1.2.1.2.2.1
  have hn := hO.2.2.1
  refine zMet.of (ls := [some (.ref (b + 0)), some (.int (nI g)), some (.int (nI s))]) (by decide) (zle rfl) 0 rfl ?_
  intro G hlG C hR hE hin
  refine zz_aload_0 C dX10_way_0 <| zz_iload_1 C dX10_way_1 <| zpc 2 rfl <| ?_
  refine zf_callVV C hR [_] (c10_going1 hX hng hm.1.1.2.2.1 g hg) lX10_127 rfl (tX_K_X hX) (by decide) rfl ⟨zle rfl, zle rfl, zle rfl, zle rfl⟩ (zle rfl) dX10_way_2 ?_
  refine zz_aload_0 C dX10_way_5 <| zz_iload_2 C dX10_way_6 <| zpc 7 rfl <| ?_
  refine zf_callVV C hR [_] (c10_shut1 hX hn hm.1.1.2.1 s hs) lX10_133 rfl (tX_K_X hX) (by decide) rfl ⟨zle rfl, zle rfl, zle rfl, zle rfl⟩ (zle rfl) dX10_way_7 ?_
  refine zz_aload_0 C dX10_way_10 <| zz_iload_1 C dX10_way_11 <| zz_iload_2 C dX10_way_12 <| zpc 13 rfl <| ?_
  refine zy_callVI C hR [_, _] (c10_seekWay hX hO hm g s hg hs) lX10_136 rfl (tX_K_X hX) (by decide) rfl ⟨zle rfl, zle rfl, zle rfl, zle rfl⟩ (zle rfl) dX10_way_13 ?_
  intro v t' h' hv; obtain ⟨rfl, hX, ag, rfl, hpt, hb1⟩ := hv
  refine zz_if_eq C 32 dX10_way_16 (by decide) (fun c16 => ?_) (fun c16 => ?_)
  · first | rw [zb_ne0] at c16 | rw [zb_eq0] at c16
    refine zz_iconst_m1 C dX10_way_32 <| zpc 33 rfl <| ?_
    refine zy_ireturn C hE (zle rfl) (zle rfl) dX10_way_33 ?_
    first
    | (obtain ⟨pl, hpl⟩ := Option.isSome_iff_exists.mp c16
       rw [hpl]
       exact ⟨rfl, Or.inr rfl, ag.wd (by omega) (by omega)⟩)
    | (cases hq : gw D g s with
       | none => exact ⟨rfl, Or.inr rfl, ag.wd (by omega) (by omega)⟩
       | some pl => rw [hq] at c16; exact absurd rfl c16)
  · first | rw [zb_ne0] at c16 | rw [zb_eq0] at c16
    refine zz_aload_0 C dX10_way_19 <| zz_getR C fX10_41 (tX_K_X hX) (tX_R_walk hX) dX10_way_20 <| zz_getR C fX10_140 (tX_K_walk hX) (tX_R_ways hX) dX10_way_23 <| zz_getI C fX10_144 (tX_K_ways hX) dX10_way_26 <| zpc 29 rfl <| ?_
    rw [hpt.1.2.1]
    refine zz_goto C 33 dX10_way_29 (by decide) <| zpc 33 rfl <| ?_
    refine zy_ireturn C hE (zle rfl) (zle rfl) dX10_way_33 ?_
    first
    | (obtain ⟨pl, hpl⟩ := Option.isSome_iff_exists.mp c16
       rw [hpl]
       exact ⟨rfl, Or.inr rfl, ag.wd (by omega) (by omega)⟩)
    | (cases hq : gw D g s with
       | none => exact ⟨rfl, Or.inr rfl, ag.wd (by omega) (by omega)⟩
       | some pl => rw [hq] at c16; exact absurd rfl c16)
theorem c10_way0b (hX : zTX t a c e) (hlt : l.stackTraces = false) (hf : t.1.2 = false) (hO : dOk D Mo R) (hm : cSn h a D Mo R) (s q : Int32) (hs : ¬ ∃ k, k < D.1.1.2.1 ∧ s = nI k) : zMetX E b l yX10_way cX10_way 3 (some .int) 8 1 6 [.ref (b + 0), .int s, .int q] t h xN := by
  have hng := hO.1.1.2.1.2.2.1
  refine zMetX.of (ls := [some (.ref (b + 0)), some (.int s), some (.int q)]) hlt (by decide) (zle rfl) 0 rfl ?_
  intro G hlG C hR hE
  rw [← hlG] at hlt
  refine zz_aload_0 C dX10_way_0 <| zz_iload_1 C dX10_way_1 <| zpc 2 rfl <| ?_
  exact zx_callV C hR hE [_] (c10_going0 hX hlt hf hng hm.1.1.2.2.1 s hs) lX10_127 rfl (tX_K_X hX) (by decide) rfl ⟨zle rfl, zle rfl, zle rfl, zle rfl⟩ (zle rfl) (zle rfl) (zle rfl) dX10_way_2
theorem c10_way2b (hX : zTX t a c e) (hlt : l.stackTraces = false) (hf : t.1.2 = false) (hO : dOk D Mo R) (hm : cSn h a D Mo R) (g : Nat) (hg : g < D.1.1.2.1) (s : Int32) (hs : ¬ ∃ k, k < 2 ^ D.2.1.1.1 ∧ s = nI k) : zMetX E b l yX10_way cX10_way 3 (some .int) 8 1 6 [.ref (b + 0), .int (nI g), .int s] t h xA := by
  have hng := hO.1.1.2.1.2.2.1
  refine zMetX.of (ls := [some (.ref (b + 0)), some (.int (nI g)), some (.int s)]) hlt (by decide) (zle rfl) 0 rfl ?_
  intro G hlG C hR hE
  rw [← hlG] at hlt
  refine zz_aload_0 C dX10_way_0 <| zz_iload_1 C dX10_way_1 <| zpc 2 rfl <| ?_
  refine zf_callVV C hR [_] (c10_going1 hX hng hm.1.1.2.2.1 g hg) lX10_127 rfl (tX_K_X hX) (by decide) rfl ⟨zle rfl, zle rfl, zle rfl, zle rfl⟩ (zle rfl) dX10_way_2 ?_
  refine zz_aload_0 C dX10_way_5 <| zz_iload_2 C dX10_way_6 <| zpc 7 rfl <| ?_
  exact zx_callV C hR hE [_] (c10_shut0 hX hlt hf hO.2.2.1 hm.1.1.2.1 s hs) lX10_133 rfl (tX_K_X hX) (by decide) rfl ⟨zle rfl, zle rfl, zle rfl, zle rfl⟩ (zle rfl) (zle rfl) (zle rfl) dX10_way_7
theorem c10_by0b (hX : zTX t a c e) (hlt : l.stackTraces = false) (hf : t.1.2 = false) (hO : dOk D Mo R) (hm : cSn h a D Mo R) (s q i : Int32) (hs : ¬ ∃ k, k < D.1.1.2.1 ∧ s = nI k) : zMetX E b l yX10_by cX10_by 4 (some .int) 8 1 6 [.ref (b + 0), .int s, .int q, .int i] t h xN := by
  have hng := hO.1.1.2.1.2.2.1
  refine zMetX.of (ls := [some (.ref (b + 0)), some (.int s), some (.int q), some (.int i)]) hlt (by decide) (zle rfl) 0 rfl ?_
  intro G hlG C hR hE
  rw [← hlG] at hlt
  refine zz_aload_0 C dX10_by_0 <| zz_iload_1 C dX10_by_1 <| zpc 2 rfl <| ?_
  exact zx_callV C hR hE [_] (c10_going0 hX hlt hf hng hm.1.1.2.2.1 s hs) lX10_127 rfl (tX_K_X hX) (by decide) rfl ⟨zle rfl, zle rfl, zle rfl, zle rfl⟩ (zle rfl) (zle rfl) (zle rfl) dX10_by_2
theorem c10_by2b (hX : zTX t a c e) (hlt : l.stackTraces = false) (hf : t.1.2 = false) (hO : dOk D Mo R) (hm : cSn h a D Mo R) (g : Nat) (hg : g < D.1.1.2.1) (s i : Int32) (hs : ¬ ∃ k, k < 2 ^ D.2.1.1.1 ∧ s = nI k) : zMetX E b l yX10_by cX10_by 4 (some .int) 8 1 6 [.ref (b + 0), .int (nI g), .int s, .int i] t h xA := by
  have hng := hO.1.1.2.1.2.2.1
  refine zMetX.of (ls := [some (.ref (b + 0)), some (.int (nI g)), some (.int s), some (.int i)]) hlt (by decide) (zle rfl) 0 rfl ?_
  intro G hlG C hR hE
  rw [← hlG] at hlt
  refine zz_aload_0 C dX10_by_0 <| zz_iload_1 C dX10_by_1 <| zpc 2 rfl <| ?_
  refine zf_callVV C hR [_] (c10_going1 hX hng hm.1.1.2.2.1 g hg) lX10_127 rfl (tX_K_X hX) (by decide) rfl ⟨zle rfl, zle rfl, zle rfl, zle rfl⟩ (zle rfl) dX10_by_2 ?_
  refine zz_aload_0 C dX10_by_5 <| zz_iload_2 C dX10_by_6 <| zpc 7 rfl <| ?_
  exact zx_callV C hR hE [_] (c10_shut0 hX hlt hf hO.2.2.1 hm.1.1.2.1 s hs) lX10_133 rfl (tX_K_X hX) (by decide) rfl ⟨zle rfl, zle rfl, zle rfl, zle rfl⟩ (zle rfl) (zle rfl) (zle rfl) dX10_by_7
theorem c10_by1b (hX : zTX t a c e) (hO : dOk D Mo R) (hm : cSn h a D Mo R) (g s : Nat) (hg : g < D.1.1.2.1) (hs : s < 2 ^ D.2.1.1.1) (i : Nat) (hi : i < ((gw D g s).getD []).length) : zMet E b l yX10_by cX10_by 4 (some .int) 8 0 0 [.ref (b + 0), .int (nI g), .int (nI s), .int (nI i)] t h (qI (fun v t' h' => v = nI (((gw D g s).getD []).getD i 0) ∧ cAsk t a h t' h')) := by
  have hng := hO.1.1.2.1.2.2.1
  have hn := hO.2.2.1
  have hsome : (gw D g s).isSome = true := by
    cases hq : gw D g s with
    | none => rw [hq] at hi; exact absurd hi (Nat.not_lt_zero i)
    | some pl => rfl
  refine zMet.of (ls := [some (.ref (b + 0)), some (.int (nI g)), some (.int (nI s)), some (.int (nI i))]) (by decide) (zle rfl) 0 rfl ?_
  intro G hlG C hR hE hin
  refine zz_aload_0 C dX10_by_0 <| zz_iload_1 C dX10_by_1 <| zpc 2 rfl <| ?_
  refine zf_callVV C hR [_] (c10_going1 hX hng hm.1.1.2.2.1 g hg) lX10_127 rfl (tX_K_X hX) (by decide) rfl ⟨zle rfl, zle rfl, zle rfl, zle rfl⟩ (zle rfl) dX10_by_2 ?_
  refine zz_aload_0 C dX10_by_5 <| zz_iload_2 C dX10_by_6 <| zpc 7 rfl <| ?_
  refine zf_callVV C hR [_] (c10_shut1 hX hn hm.1.1.2.1 s hs) lX10_133 rfl (tX_K_X hX) (by decide) rfl ⟨zle rfl, zle rfl, zle rfl, zle rfl⟩ (zle rfl) dX10_by_7 ?_
  refine zz_aload_0 C dX10_by_10 <| zz_iload_1 C dX10_by_11 <| zz_iload_2 C dX10_by_12 <| zpc 13 rfl <| ?_
  refine zy_callVI C hR [_, _] (c10_seekWay hX hO hm g s hg hs) lX10_136 rfl (tX_K_X hX) (by decide) rfl ⟨zle rfl, zle rfl, zle rfl, zle rfl⟩ (zle rfl) dX10_by_13 ?_
  intro v t' h' hv; obtain ⟨rfl, hX, ag, rfl, hpt, hb1⟩ := hv; have hl11 := hb1.2
  refine zz_if_eq C 37 dX10_by_16 (by decide) (fun c16 => ?_) (fun c16 => ?_)
  · rw [zb_eq0] at c16; exact absurd hsome c16
  · refine zz_iload_3 C dX10_by_19 <| zpc 20 rfl <| ?_
    refine zz_if_lt C 37 dX10_by_20 (by decide) (fun c20 => ?_) (fun c20 => ?_)
    · exact absurd c20 (nI_pos (by omega))
    · refine zz_iload_3 C dX10_by_23 <| zz_aload_0 C dX10_by_24 <| zz_getR C fX10_41 (tX_K_X hX) (tX_R_walk hX) dX10_by_25 <| zz_getR C fX10_140 (tX_K_walk hX) (tX_R_ways hX) dX10_by_28 <| zz_getI C fX10_149 (tX_K_ways hX) dX10_by_31 <| zpc 34 rfl <| ?_
      rw [hpt.1.1]
      refine zz_icmp_lt C 39 dX10_by_34 (by decide) (fun c34 => ?_) (fun c34 => ?_)
      · refine zz_aload_0 C dX10_by_39 <| zz_getR C fX10_41 (tX_K_X hX) (tX_R_walk hX) dX10_by_40 <| zz_getR C fX10_140 (tX_K_walk hX) (tX_R_ways hX) dX10_by_43 <| zz_getR C fX10_152 (tX_K_ways hX) (tX_R_path hX) dX10_by_46 <| zz_iload_3 C dX10_by_49 <| zc_iaload C _ (tX_K_path hX) (znI (by omega)) (by omega) dX10_by_50 <| zpc 51 rfl <| ?_
        refine zy_ireturn C hE (zle rfl) (zle rfl) dX10_by_51 ?_
        exact ⟨hpt.2 i hi, Or.inr rfl, ag.wd (by omega) (by omega)⟩
      · exact absurd (nI_lt hi (by omega)) c34
theorem c10_by3b (hX : zTX t a c e) (hO : dOk D Mo R) (hm : cSn h a D Mo R) (g s : Nat) (hg : g < D.1.1.2.1) (hs : s < 2 ^ D.2.1.1.1) (i : Int32) (hi : ¬ ∃ k, k < ((gw D g s).getD []).length ∧ i = nI k) : zMet E b l yX10_by cX10_by 4 (some .int) 8 0 0 [.ref (b + 0), .int (nI g), .int (nI s), .int i] t h (qI (fun v t' h' => v = -1 ∧ cAsk t a h t' h')) := by
  have hng := hO.1.1.2.1.2.2.1
  have hn := hO.2.2.1
  refine zMet.of (ls := [some (.ref (b + 0)), some (.int (nI g)), some (.int (nI s)), some (.int i)]) (by decide) (zle rfl) 0 rfl ?_
  intro G hlG C hR hE hin
  refine zz_aload_0 C dX10_by_0 <| zz_iload_1 C dX10_by_1 <| zpc 2 rfl <| ?_
  refine zf_callVV C hR [_] (c10_going1 hX hng hm.1.1.2.2.1 g hg) lX10_127 rfl (tX_K_X hX) (by decide) rfl ⟨zle rfl, zle rfl, zle rfl, zle rfl⟩ (zle rfl) dX10_by_2 ?_
  refine zz_aload_0 C dX10_by_5 <| zz_iload_2 C dX10_by_6 <| zpc 7 rfl <| ?_
  refine zf_callVV C hR [_] (c10_shut1 hX hn hm.1.1.2.1 s hs) lX10_133 rfl (tX_K_X hX) (by decide) rfl ⟨zle rfl, zle rfl, zle rfl, zle rfl⟩ (zle rfl) dX10_by_7 ?_
  refine zz_aload_0 C dX10_by_10 <| zz_iload_1 C dX10_by_11 <| zz_iload_2 C dX10_by_12 <| zpc 13 rfl <| ?_
  refine zy_callVI C hR [_, _] (c10_seekWay hX hO hm g s hg hs) lX10_136 rfl (tX_K_X hX) (by decide) rfl ⟨zle rfl, zle rfl, zle rfl, zle rfl⟩ (zle rfl) dX10_by_13 ?_
  intro v t' h' hv; obtain ⟨rfl, hX, ag, rfl, hpt, hb1⟩ := hv; have hl11 := hb1.2
  refine zz_if_eq C 37 dX10_by_16 (by decide) (fun c16 => ?_) (fun c16 => ?_)
  · refine zz_iconst_m1 C dX10_by_37 <| zpc 38 rfl <| ?_
    refine zy_ireturn C hE (zle rfl) (zle rfl) dX10_by_38 ?_
    exact ⟨rfl, Or.inr rfl, ag.wd (by omega) (by omega)⟩
  · refine zz_iload_3 C dX10_by_19 <| zpc 20 rfl <| ?_
    refine zz_if_lt C 37 dX10_by_20 (by decide) (fun c20 => ?_) (fun c20 => ?_)
    · refine zz_iconst_m1 C dX10_by_37 <| zpc 38 rfl <| ?_
      refine zy_ireturn C hE (zle rfl) (zle rfl) dX10_by_38 ?_
      exact ⟨rfl, Or.inr rfl, ag.wd (by omega) (by omega)⟩
    · refine zz_iload_3 C dX10_by_23 <| zz_aload_0 C dX10_by_24 <| zz_getR C fX10_41 (tX_K_X hX) (tX_R_walk hX) dX10_by_25 <| zz_getR C fX10_140 (tX_K_walk hX) (tX_R_ways hX) dX10_by_28 <| zz_getI C fX10_149 (tX_K_ways hX) dX10_by_31 <| zpc 34 rfl <| ?_
      rw [hpt.1.1]
      refine zz_icmp_lt C 39 dX10_by_34 (by decide) (fun c34 => ?_) (fun c34 => ?_)
      · exact absurd ((ixOk (by omega)).mp ⟨c20, c34⟩) hi
      · refine zz_iconst_m1 C dX10_by_37 <| zpc 38 rfl <| ?_
        refine zy_ireturn C hE (zle rfl) (zle rfl) dX10_by_38 ?_
        exact ⟨rfl, Or.inr rfl, ag.wd (by omega) (by omega)⟩
end CA
