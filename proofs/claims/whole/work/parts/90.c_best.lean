/-! ===== the class: the search ===== -/
def cTq (t : zT) (a : Nat) (t' : zT) : Prop := t' = t ∨ t' = zsR t 73 6 (some a)
theorem cTq.tr {t t1 t2 : zT} {a : Nat} (x : cTq t a t1) (y : cTq t1 a t2) : cTq t a t2 := by
  rcases x with rfl | rfl
  · exact y
  · rcases y with rfl | rfl
    · exact Or.inr rfl
    · exact Or.inr (zsR_idem _ _ _ _)
theorem cTq.X {t t1 : zT} {a c e : Nat} (x : cTq t a t1) (hX : zTX t a c e) : ∃ e', zTX t1 a c e' := by
  rcases x with rfl | rfl
  · exact ⟨e, hX⟩
  · exact ⟨a, hX.wl (tX_a hX)⟩
def cAq (k : Nat) (h h' : zH) : Prop := (∀ i j, ¬ ((73 ≤ i ∧ i ≤ 90) ∨ (i = 123 ∧ j = 1) ∨ (129 + 4 * k ≤ i ∧ i ≤ 140)) → zI h' i j = zI h i j) ∧ ∀ i j, ¬ ((73 ≤ i ∧ i ≤ 90) ∨ (i = 123 ∧ j = 0) ∨ (129 + 4 * k ≤ i ∧ i ≤ 140)) → zL h' i j = zL h i j
theorem cAq.rf (k : Nat) (h : zH) : cAq k h h := ⟨fun _ _ _ => rfl, fun _ _ _ => rfl⟩
theorem cAq.tr {k : Nat} {h h1 h2 : zH} (a : cAq k h h1) (c : cAq k h1 h2) : cAq k h h2 := ⟨fun i j q => (c.1 i j q).trans (a.1 i j q), fun i j q => (c.2 i j q).trans (a.2 i j q)⟩
theorem cAq.of {k : Nat} {h h1 : zH} (a : cAg 73 90 h h1) : cAq k h h1 := ⟨fun i j q => a.1 i j (by omega), fun i j q => a.2 i j (by omega)⟩
theorem cAq.up {k : Nat} {h h1 : zH} (a : cAq (k + 1) h h1) : cAq k h h1 := ⟨fun i j q => a.1 i j (by omega), fun i j q => a.2 i j (by omega)⟩
def cBs (h : zH) (B : Nat × Int32) : Prop := zL h 123 0 = lN B.1 ∧ zI h 123 1 = B.2
section CQ
variable {E : zE} {b : Nat} {G : zG} {t : zT} {h : zH} {l : Launch} {a c e : Nat} {D : yD} {Mo : Nat × (Nat → Nat → Nat)} {R : Nat × (Nat → Nat)}
def cQs (h : zH) (a : Nat) (D : yD) (R : Nat × (Nat → Nat)) (dd k : Nat) (q : yQ) : Prop := (cLd h a D.1 D.2.1.1.1 ∧ cRd h a D.2.1.1.1 none D.2.1 ∧ zI h a 5 = nI D.2.1.1.2.2) ∧ zI h 123 3 = nI dd ∧ cSt h (125 + 4 * k) D.2.1.1.1 D.2.1.1.2.2 q.2 q.1.1 q.1.2 R
theorem cQs.ag {h h' : zH} {dd k : Nat} {q : yQ} (ha : a = 2 ∨ a = 36) (hO : dOk D Mo R) (hk : k ≤ 3) (ag : cAq k h h') (hm : cQs h a D R dd k q) : cQs h' a D R dd k q := by
  obtain ⟨⟨h1, h2, h3⟩, h4, h5⟩ := hm
  have hng := hO.1.1.2.1.2.2.1
  have hn := hO.2.2.1
  have hR := hO.2.2.2.1.1
  obtain ⟨⟨l1, l2, l3, l4⟩, l5, l6⟩ := h1
  obtain ⟨r1, r2⟩ := h2
  obtain ⟨⟨s1, s2⟩, s3, s4, s5⟩ := h5
  have rd : ∀ {i j : Nat} {v : Int32}, zI h i j = v → ¬ ((73 ≤ i ∧ i ≤ 90) ∨ (i = 123 ∧ j = 1) ∨ (129 + 4 * k ≤ i ∧ i ≤ 140)) → zI h' i j = v := fun e z => (ag.1 _ _ z).trans e
  refine ⟨⟨⟨⟨rd l1 (by omega), rd l2 (by omega), rd l3 (by omega), rd l4 (by omega)⟩, fun g hg q hq => rd (l5 g hg q hq) (by omega), fun j hj => rd (l6 j hj) (by omega)⟩, ⟨r1, fun j hj q hq => rd (r2 j hj q hq) ?_⟩, rd h3 (by omega)⟩, rd h4 (by omega), ⟨rd s1 (by omega), rd s2 (by omega)⟩, fun j hj => ⟨rd (s3 j hj).1 (by omega), rd (s3 j hj).2 (by omega)⟩, fun j z1 z2 => ⟨rd (s4 j z1 z2).1 (by omega), rd (s4 j z1 z2).2 (by omega)⟩, fun j hj => rd (s5 j hj) (by omega)⟩
  have : rid a D.2.1.1.1 none j = a + 1 + 1 + j := rfl
  omega
theorem tB_le {L : yL} {A : yN} : ∀ (m : Nat) (q : yQ) (c : Nat) (f : Int32) (B : Nat × Int32), (tB L A m q c f B).1 ≤ B.1
  | 0, q, c, f, B => by
    show (if c < B.1 then (c, f) else B).1 ≤ B.1
    split
    · exact Nat.le_of_lt ‹_›
    · exact Nat.le_refl _
  | m + 1, q, c, f, B => by
    show (if c < B.1 then nFold _ B (2 ^ A.1.1) else B).1 ≤ B.1
    split
    · have key : ∀ k, (nFold (fun s B => tB L A m (nxQ L A s q) (c + dSC L A s q.1.1 q.2 L.1.2.1) (if f = -1 then nI s else f) B) B k).1 ≤ B.1 := by
        intro k
        induction k with
        | zero => exact Nat.le_refl _
        | succ k ih => exact Nat.le_trans (tB_le m _ _ _ _) ih
      exact key _
    · exact Nat.le_refl _
def cPq (t : zT) (h : zH) (a k : Nat) (B : Nat × Int32) (t' : zT) (h' : zH) : Prop := cTq t a t' ∧ cAq k h h' ∧ cBs h' B
theorem c5_try0 (hX : zTX t a c e) (k sp : Nat) (hk : k ≤ 3) (hm : zI h 123 3 = nI k) (f : Int32) (hk0 : 0 < k) {q : yQ} {B : Nat × Int32} (hc : sp < B.1) : zMet E b l yX5_tryDays cX5_tryDays 12 none 7 0 0 [.ref (b + 123), .ref (b + 73), .ref (b + a), .int (nI k), .long (lN sp), .int f] t h (qV (cPq t h a k (tB D.1 D.2.1 0 q sp f B))) := by
  have e1 : tB D.1 D.2.1 0 q sp f B = (sp, f) := if_pos hc
  rw [e1]
  refine zMet.of (ls := [some (.ref (b + 123)), some (.ref (b + 73)), some (.ref (b + a)), some (.int (nI k)), some (.long (lN sp)), none, some (.int f), none, none, none, none, none]) (by decide) (zle rfl) 5 rfl ?_
  intro G hlG C hR hE hin
  refine zz_iload_3 C dX5_tryDays_0 <| zz_aload_0 C dX5_tryDays_1 <| zz_getI C fX5_24 (tX_K_search hX) dX5_tryDays_2 <| zpc 5 rfl <| ?_
  rw [hm]
  refine zz_icmp_lt C 21 dX5_tryDays_5 (by decide) (fun c5 => ?_) (fun c5 => ?_)
  · rw [nI_ltI (by omega) (by omega)] at c5; omega
  · refine zz_aload_0 C dX5_tryDays_8 <| zz_lload_4 C dX5_tryDays_9 <| zy_putL C fX5_30 pX5_0 (tX_K_search hX) dX5_tryDays_11 <| zz_aload_0 C dX5_tryDays_14 <| zz_iload_6 C dX5_tryDays_15 <| zy_putI C fX5_34 pX5_1 (tX_K_search hX) dX5_tryDays_17 <| zpc 20 rfl <| ?_
    refine zy_return C hE (zle rfl) (zle rfl) dX5_tryDays_20 ?_
    refine ⟨Or.inl rfl, ⟨fun i j z => ?_, fun i j z => ?_⟩, ?_, zI_self _ _ _ _⟩
    · rw [zI_sI, if_neg (by omega)]; rfl
    · show zL (zsL h 123 0 (lN sp)) i j = _
      rw [zL_sL, if_neg (by omega)]
    · show zL (zsL h 123 0 (lN sp)) 123 0 = _
      rw [zL_sL, if_pos ⟨rfl, rfl⟩]
theorem c5_try1 (hX : zTX t a c e) (hO : dOk D Mo R) (k sp : Nat) (hk : k + 1 ≤ 3) {q : yQ} (hqo : qOk D.1 D.2.1 q) (hq2 : q.2 + 1 < 2 ^ 30) (hm : cQs h a D R (k + 1) k q) (f : Int32) (hf : 0 < k → ¬ f = -1) {B : Nat × Int32} (hbs : cBs h B) (hb2 : B.1 < 2 ^ 62) (hc : sp < B.1) : zMet E b l yX5_tryDays cX5_tryDays 12 none 8 0 0 [.ref (b + 123), .ref (b + 73), .ref (b + a), .int (nI k), .long (lN sp), .int f] t h (qV (cPq t h a k (tB D.1 D.2.1 1 q sp (if k = 0 then -1 else f) B))) := by
  have ha := tX_a2 hX
  have hn := hO.2.2.1
  have hng := hO.1.1.2.1.2.2.1
  have hpw : 2 ^ D.2.1.1.1 ≤ 2 ^ 10 := Nat.pow_le_pow_right (by omega) hn
  have hpp : 0 < 2 ^ D.2.1.1.1 := Nat.pow_pos (by omega)
  have e1 : tB D.1 D.2.1 1 q sp (if k = 0 then -1 else f) B = nFold (fun s B => tB D.1 D.2.1 0 (nxQ D.1 D.2.1 s q) (sp + dSC D.1 D.2.1 s q.1.1 q.2 D.1.1.2.1) (if (if k = 0 then -1 else f) = -1 then nI s else (if k = 0 then -1 else f)) B) B (2 ^ D.2.1.1.1) := if_pos hc
  rw [e1]
  have ef : ∀ s, (if (if k = 0 then (-1 : Int32) else f) = -1 then nI s else (if k = 0 then (-1 : Int32) else f)) = if k = 0 then nI s else f := fun s => by
    by_cases z : k = 0
    · rw [if_pos z, if_pos rfl, if_pos z]
    · rw [if_neg z, if_neg (hf (by omega)), if_neg z]
  generalize hF : (fun s B => tB D.1 D.2.1 0 (nxQ D.1 D.2.1 s q) (sp + dSC D.1 D.2.1 s q.1.1 q.2 D.1.1.2.1) (if (if k = 0 then -1 else f) = -1 then nI s else (if k = 0 then -1 else f)) B) = fF
  have hFs : ∀ s B, fF s B = tB D.1 D.2.1 0 (nxQ D.1 D.2.1 s q) (sp + dSC D.1 D.2.1 s q.1.1 q.2 D.1.1.2.1) (if k = 0 then nI s else f) B := fun s B => by rw [← hF, ← ef s]
  have hFl : ∀ s, (nFold fF B s).1 ≤ B.1 := by
    intro s
    induction s with
    | zero => exact Nat.le_refl _
    | succ s ih => refine Nat.le_trans ?_ ih; show (fF s (nFold fF B s)).1 ≤ _; rw [hFs]; exact tB_le _ _ _ _ _
  refine zMet.of (ls := [some (.ref (b + 123)), some (.ref (b + 73)), some (.ref (b + a)), some (.int (nI k)), some (.long (lN sp)), none, some (.int f), none, none, none, none, none]) (by decide) (zle rfl) 5 rfl ?_
  intro G hlG C hR hE hin
  have lp : ∀ s, s ≤ 2 ^ D.2.1.1.1 → ∀ (tc : zT) (hc : zH) (v8 : Int32) (B' : Nat × Int32) (y10 y11 : Option Value), cTq t a tc → cAq k h hc → cBs hc B' → (v8 = 1 ∧ B' = nFold fF B s ∨ v8 = 0 ∧ B' = nFold fF B (2 ^ D.2.1.1.1)) → zAW E b G 12 0 0 35 [some (.ref (b + 123)), some (.ref (b + 73)), some (.ref (b + a)), some (.int (nI k)), some (.long (lN sp)), none, some (.int f), some (.int (nI ((2 ^ D.2.1.1.1)))), some (.int v8), some (.int (nI s)), y10, y11] [] tc hc := by
    refine zLoop (2 ^ D.2.1.1.1) fun s hs ih tc hc v8 B' y10 y11 tq ag bs hv => ?_
    have hmc := hm.ag ha hO (by omega) ag
    obtain ⟨e', hX⟩ := tq.X hX
    have hst := dSC_bd (s := s) (day := q.2) hqo.1 hO.2.1 D.1.1.2.1 (Nat.le_refl _)
    have hst2 : dSC D.1 D.2.1 s q.1.1 q.2 D.1.1.2.1 ≤ 11000 * D.1.1.2.1 := hst
    have hbl := hFl s
    have s111 : s < 2 ^ D.2.1.1.1 → B' = nFold fF B s → ∀ (t2 : zT) (h2 : zH) (v8' : Int32), cTq t a t2 → cAq k h h2 → cBs h2 B' → cWk h2 a D.2.1.1.1 none D.1 D.2.1 yP0 (dDay D.1 D.2.1 yP0 s (xQ q)) D.2.1.1.2.2 R → (v8' = 1 ∨ v8' = 0 ∧ nFold fF B (s + 1) = nFold fF B (2 ^ D.2.1.1.1)) → zAW E b G 12 0 0 111 [some (.ref (b + 123)), some (.ref (b + 73)), some (.ref (b + a)), some (.int (nI k)), some (.long (lN sp)), none, some (.int f), some (.int (nI ((2 ^ D.2.1.1.1)))), some (.int (v8')), some (.int (nI s)), some (.long (lN (sp + dSC D.1 D.2.1 s q.1.1 q.2 D.1.1.2.1))), none] [] t2 h2 := by
      intro hs2 eB t2 h2 v8' tq2 ag2 bs2 hw hv'
      obtain ⟨e2, hX⟩ := tq2.X ‹zTX t a c e›
      have hb9 : B'.1 ≤ B.1 := by rw [eB]; exact hbl
      have hmc2 := hm.ag ha hO (by omega) ag2
      have eN : nFold fF B (s + 1) = tB D.1 D.2.1 0 (nxQ D.1 D.2.1 s q) (sp + dSC D.1 D.2.1 s q.1.1 q.2 D.1.1.2.1) (if k = 0 then nI s else f) B' := by
        show fF s (nFold fF B s) = _
        rw [hFs, ← eB]
      have hv2 : ∀ B'', B'' = nFold fF B (s + 1) → (v8' = 1 ∧ B'' = nFold fF B (s + 1) ∨ v8' = 0 ∧ B'' = nFold fF B (2 ^ D.2.1.1.1)) := fun B'' z => by
        rcases hv' with y | ⟨y, y2⟩
        · exact Or.inl ⟨y, z⟩
        · exact Or.inr ⟨y, z.trans y2⟩
      have s155 : sp + dSC D.1 D.2.1 s q.1.1 q.2 D.1.1.2.1 < B'.1 → ∀ h3 : zH, cTk h2 (125 + 4 * (k + 1)) 87 h3 → ∀ f' : Int32, f' = (if k = 0 then nI s else f) → zAW E b G 12 0 0 155 [some (.ref (b + 123)), some (.ref (b + 73)), some (.ref (b + a)), some (.int (nI k)), some (.long (lN sp)), none, some (.int f), some (.int (nI ((2 ^ D.2.1.1.1)))), some (.int (v8')), some (.int (nI s)), some (.long (lN (sp + dSC D.1 D.2.1 s q.1.1 q.2 D.1.1.2.1))), none] [.int (f'), .long (lN (sp + dSC D.1 D.2.1 s q.1.1 q.2 D.1.1.2.1)), .int (nI ((k + 1))), .ref (b + a), .ref (b + 73), .ref (b + 123)] t2 h3 := by
        intro hlt h3 tk f' ef'
        have ag3 : cAq k h2 h3 := ⟨fun i j z => tk.1.1 i j (by omega), fun i j z => tk.1.2 i j (by omega)⟩
        have bs3 : cBs h3 B' := ⟨(tk.1.2 _ _ (by omega)).trans bs2.1, (tk.1.1 _ _ (by omega)).trans bs2.2⟩
        have hst3 : cSt h3 (125 + 4 * (k + 1)) D.2.1.1.1 D.2.1.1.2.2 (q.2 + 1) (nxQ D.1 D.2.1 s q).1.1 (nxQ D.1 D.2.1 s q).1.2 R := tk.st (by omega) hO.2.2.2.1.1 hw.1.2.2.2.1
        have hm3 := hmc2.ag ha hO (by omega) ag3
        have hm4 : cQs h3 a D R (k + 1) (k + 1) (nxQ D.1 D.2.1 s q) := ⟨hm3.1, hm3.2.1, hst3⟩
        have hf' : 0 < k + 1 → ¬ f' = -1 := fun _ => by
          rw [ef']
          by_cases z : k = 0
          · rw [if_pos z]
            intro y
            have := congrArg Int32.toInt y
            rw [nI_toInt (by omega)] at this
            have e9 : (-1 : Int32).toInt = -1 := rfl
            omega
          · rw [if_neg z]; exact hf (by omega)
        refine zy_callVV C hR [_, _, _, _, _] (c5_try0 hX (k + 1) (sp + dSC D.1 D.2.1 s q.1.1 q.2 D.1.1.2.1) (by omega) (D := D) (q := nxQ D.1 D.2.1 s q) (B := B') hm4.2.1 f' (by omega) hlt) lX5_41 rfl (tX_K_search hX) (by decide) rfl ⟨zle rfl, zle rfl, zle rfl, zle rfl⟩ (zle rfl) dX5_tryDays_155 ?_
        intro t4 h4 hv4; obtain ⟨tq4, ag4, bs4⟩ := hv4
        refine zz_iinc_9 C _ (zle rfl) rfl dX5_tryDays_158 nI_s <| zz_goto C 35 dX5_tryDays_161 (by decide) <| zpc 35 rfl <| ?_
        refine ih (by omega) _ _ _ _ _ _ (tq2.tr tq4) (ag2.tr (ag3.tr ag4.up)) bs4 (hv2 _ ?_)
        rw [eN, ef']
      refine zz_lload_10 C dX5_tryDays_111 <| zz_aload_0 C dX5_tryDays_113 <| zz_getL C fX5_30 (tX_K_search hX) dX5_tryDays_114 <| zpc 117 rfl <| ?_
      rw [bs2.1]
      refine zz_lcmp C dX5_tryDays_117 <| zpc 118 rfl <| ?_
      refine zz_if_ge C 158 dX5_tryDays_118 (by decide) (fun c118 => ?_) (fun c118 => ?_)
      · rw [lg_cmp_ge, pk_lLE (by omega) (by omega)] at c118
        refine zz_iinc_9 C _ (zle rfl) rfl dX5_tryDays_158 nI_s <| zz_goto C 35 dX5_tryDays_161 (by decide) <| zpc 35 rfl <| ?_
        refine ih (by omega) _ _ _ _ _ _ tq2 ag2 bs2 (hv2 _ ?_)
        rw [eN, tB_no (by omega)]
      · rw [lg_cmp_ge, pk_lLE (by omega) (by omega)] at c118
        refine zz_aload_0 C dX5_tryDays_121 <| zz_getR C fX5_11 (tX_K_search hX) (tX_R_levels hX) dX5_tryDays_122 <| zz_iload_3 C dX5_tryDays_125 <| zz_iconst_1 C dX5_tryDays_126 <| zz_iadd C dX5_tryDays_127 <| zpc 128 rfl <| ?_
        rw [show (1 : Int32) = nI 1 from rfl, nI_add]
        refine zc_aaloadS C _ (tX_K_levels hX) (tX_row_levels hX _ (by omega)) (znI (by omega)) (by omega) dX5_tryDays_128 <| zz_aload_1 C dX5_tryDays_129 <| zz_getR C fX5_72 (tX_K_walk hX) (tX_R_state hX) dX5_tryDays_130 <| zpc 133 rfl <| ?_
        refine zy_callVV C hR [_] (c6_take (tX_Slevels hX (k + 1) (by omega)) (tX_S87 hX) (by omega)) lX5_37 rfl (tS_K (tX_Slevels hX _ (by omega))) (by decide) rfl ⟨zle rfl, zle rfl, zle rfl, zle rfl⟩ (zle rfl) dX5_tryDays_133 ?_
        intro t3 h3 hv3; obtain ⟨rfl, tk⟩ := hv3
        refine zz_aload_0 C dX5_tryDays_136 <| zz_aload_1 C dX5_tryDays_137 <| zz_aload_2 C dX5_tryDays_138 <| zz_iload_3 C dX5_tryDays_139 <| zz_iconst_1 C dX5_tryDays_140 <| zz_iadd C dX5_tryDays_141 <| zpc 142 rfl <| ?_
        rw [show (1 : Int32) = nI 1 from rfl, nI_add]
        refine zz_lload_10 C dX5_tryDays_142 <| zz_iload_3 C dX5_tryDays_144 <| zpc 145 rfl <| ?_
        refine zz_if_ne C 153 dX5_tryDays_145 (by decide) (fun c145 => ?_) (fun c145 => ?_)
        · refine zz_iload_6 C dX5_tryDays_153 <| zpc 155 rfl <| ?_
          refine s155 (by omega) h3 tk _ ?_
          rw [show (0 : Int32) = nI 0 from rfl, nI_eq (by omega) (by omega)] at c145
          first
            | rw [if_pos c145]
            | rw [if_neg c145]
        · refine zz_iload_9 C dX5_tryDays_148 <| zz_goto C 155 dX5_tryDays_150 (by decide) <| zpc 155 rfl <| ?_
          refine s155 (by omega) h3 tk _ ?_
          rw [show (0 : Int32) = nI 0 from rfl, nI_eq (by omega) (by omega)] at c145
          first
            | rw [if_pos c145]
            | rw [if_neg c145]
    refine zz_iload_9 C dX5_tryDays_35 <| zz_iload_7 C dX5_tryDays_37 <| zpc 39 rfl <| ?_
    refine zz_icmp_ge C 164 dX5_tryDays_39 (by decide) (fun c39 => ?_) (fun c39 => ?_)
    · rw [nI_leI (by omega) (by omega)] at c39
      refine zy_return C hE (zle rfl) (zle rfl) dX5_tryDays_164 ?_
      refine ⟨tq, ag, ?_⟩
      rcases hv with ⟨y1, y2⟩ | ⟨y1, y2⟩
      · first
          | (rw [show s = 2 ^ D.2.1.1.1 by omega] at y2; rw [← y2]; exact bs)
          | (rw [y1] at c44; exact absurd c44 (by decide))
      · rw [← y2]; exact bs
    · rw [nI_leI (by omega) (by omega)] at c39
      refine zz_iload_8 C dX5_tryDays_42 <| zpc 44 rfl <| ?_
      refine zz_if_eq C 164 dX5_tryDays_44 (by decide) (fun c44 => ?_) (fun c44 => ?_)
      · refine zy_return C hE (zle rfl) (zle rfl) dX5_tryDays_164 ?_
        refine ⟨tq, ag, ?_⟩
        rcases hv with ⟨y1, y2⟩ | ⟨y1, y2⟩
        · first
            | (rw [show s = 2 ^ D.2.1.1.1 by omega] at y2; rw [← y2]; exact bs)
            | (rw [y1] at c44; exact absurd c44 (by decide))
        · rw [← y2]; exact bs
      · have hv1 : B' = nFold fF B s := by
          rcases hv with ⟨y1, y2⟩ | ⟨y1, y2⟩
          · exact y2
          · exact absurd y1 c44
        have hv8 : v8 = 1 := by
          rcases hv with ⟨y1, y2⟩ | ⟨y1, y2⟩
          · exact y1
          · exact absurd y1 c44
        refine zz_aload_1 C dX5_tryDays_47 <| zz_aload_2 C dX5_tryDays_48 <| zz_aload_0 C dX5_tryDays_49 <| zz_getR C fX5_11 (tX_K_search hX) (tX_R_levels hX) dX5_tryDays_50 <| zz_iload_3 C dX5_tryDays_53 <| zc_aaloadS C _ (tX_K_levels hX) (tX_row_levels hX _ (by omega)) (znI (by omega)) (by omega) dX5_tryDays_54 <| zpc 55 rfl <| ?_
        refine zy_callVV C hR [_, _] (c8_begin hX ha (tX_La hX) (tX_Slevels hX k (by omega)) (by omega) (by omega) hng (by omega) hO.2.2.2.1.1 hmc.1.1 hmc.1.2.1 hO.2.1 hmc.1.2.2 hmc.2.2 0) lX5_50 rfl (tX_K_walk hX) (by decide) rfl ⟨zle rfl, zle rfl, zle rfl, zle rfl⟩ (zle rfl) dX5_tryDays_55 ?_
        intro t2 h2 hv2; obtain ⟨rfl, hX2, ag2, hw2⟩ := hv2; have tq2 : cTq t a (zsR tc 73 6 (some a)) := tq.tr (Or.inr rfl); have hX := hX2
        refine zz_aload_1 C dX5_tryDays_58 <| zz_iload_9 C dX5_tryDays_59 <| zpc 61 rfl <| ?_
        refine zy_callVV C hR [_] (c8_passDay hX2 (by omega) hqo pX0 (Nat.zero_le _) hw2 (show q.2 < 2 ^ 30 by omega) s (by omega)) lX5_56 rfl (tX_K_walk hX) (by decide) rfl ⟨zle rfl, zle rfl, zle rfl, zle rfl⟩ (zle rfl) dX5_tryDays_61 ?_
        intro t3 h3 hv3; obtain ⟨rfl, ag3, hw3, lg, hlg, hlg2, hlo⟩ := hv3; have ag4 : cAq k h h3 := ag.tr (.of (ag2.tr ag3)); have bs4 : cBs h3 B' := ⟨((ag2.tr ag3).2 _ _ (by omega)).trans bs.1, ((ag2.tr ag3).1 _ _ (by omega)).trans bs.2⟩; have hm4 := hm.ag ha hO (by omega) ag4; have hco : zL h3 83 0 = lN (dSC D.1 D.2.1 s q.1.1 q.2 D.1.1.2.1) := (by rw [hw3.2.1.1, show (dDay D.1 D.2.1 yP0 s (xQ q)).2.2.2.1.2.1 = 0 from gTurns_cm rfl _ _ _ _ _ _, dDay_co]; show lN (0 + _ + 0) = _; rw [Nat.zero_add, Nat.add_zero])
        refine zz_lload_4 C dX5_tryDays_64 <| zz_aload_1 C dX5_tryDays_66 <| zz_getR C fX5_60 (tX_K_walk hX) (tX_R_tally hX) dX5_tryDays_67 <| zz_getL C fX5_64 (tX_K_tally hX) dX5_tryDays_70 <| zpc 73 rfl <| ?_
        rw [hco]
        refine zz_ladd C dX5_tryDays_73 <| zpc 74 rfl <| ?_
        rw [lN_add]
        refine zz_lstore_10 C (zle rfl) rfl dX5_tryDays_74 <| zz_iload_9 C dX5_tryDays_76 <| zpc 78 rfl <| ?_
        refine zz_if_ne C 111 dX5_tryDays_78 (by decide) (fun c78 => ?_) (fun c78 => ?_)
        · rw [show (0 : Int32) = nI 0 from rfl, nI_eq (by omega) (by omega)] at c78
          first
          | exact s111 (by omega) hv1 _ _ _ tq2 ag4 bs4 hw3 (Or.inl hv8)
          | exact s111 (by omega) hv1 _ _ _ tq2 ag4 bs4 hw3 (Or.inl rfl)
          | (refine s111 (by omega) hv1 _ _ _ tq2 ag4 bs4 hw3 (Or.inr ⟨rfl, ?_⟩)
             subst c78; rw [← hF]; exact (tB_cut (fun s9 => dSC_le hqo.1 hO.2.1 c101 s9 D.1.1.2.1 (Nat.le_refl _) hlo) _ hpp).symm)
        · rw [show (0 : Int32) = nI 0 from rfl, nI_eq (by omega) (by omega)] at c78
          refine zz_iload_3 C dX5_tryDays_81 <| zz_aload_0 C dX5_tryDays_82 <| zz_getI C fX5_24 (tX_K_search hX) dX5_tryDays_83 <| zpc 86 rfl <| ?_
          rw [hm4.2.1]
          refine zz_iconst_1 C dX5_tryDays_86 <| zz_isub C dX5_tryDays_87 <| zpc 88 rfl <| ?_
          rw [show (1 : Int32) = nI 1 from rfl, pk_sub (by omega)]
          refine zz_icmp_ne C 111 dX5_tryDays_88 (by decide) (fun c88 => ?_) (fun c88 => ?_)
          · rw [nI_eq (by omega) (by omega)] at c88
            first
            | exact s111 (by omega) hv1 _ _ _ tq2 ag4 bs4 hw3 (Or.inl hv8)
            | exact s111 (by omega) hv1 _ _ _ tq2 ag4 bs4 hw3 (Or.inl rfl)
            | (refine s111 (by omega) hv1 _ _ _ tq2 ag4 bs4 hw3 (Or.inr ⟨rfl, ?_⟩)
               subst c78; rw [← hF]; exact (tB_cut (fun s9 => dSC_le hqo.1 hO.2.1 c101 s9 D.1.1.2.1 (Nat.le_refl _) hlo) _ hpp).symm)
          · rw [nI_eq (by omega) (by omega)] at c88
            refine zz_aload_1 C dX5_tryDays_91 <| zz_getR C fX5_60 (tX_K_walk hX) (tX_R_tally hX) dX5_tryDays_92 <| zz_getI C fX5_69 (tX_K_tally hX) dX5_tryDays_95 <| zpc 98 rfl <| ?_
            rw [hlg]
            refine zz_sipush C 1000 dX5_tryDays_98 (by decide) <| zpc 101 rfl <| ?_
            refine zz_icmp_le C 108 dX5_tryDays_101 (by decide) (fun c101 => ?_) (fun c101 => ?_)
            · rw [show (1000 : Int32) = nI 1000 from rfl, nI_leI (by omega) (by omega)] at c101
              refine zz_iconst_0 C dX5_tryDays_108 <| zz_istore_8 C (zle rfl) rfl dX5_tryDays_109 <| zpc 111 rfl <| ?_
              first
              | exact s111 (by omega) hv1 _ _ _ tq2 ag4 bs4 hw3 (Or.inl hv8)
              | exact s111 (by omega) hv1 _ _ _ tq2 ag4 bs4 hw3 (Or.inl rfl)
              | (refine s111 (by omega) hv1 _ _ _ tq2 ag4 bs4 hw3 (Or.inr ⟨rfl, ?_⟩)
                 subst c78; rw [← hF]; exact (tB_cut (fun s9 => dSC_le hqo.1 hO.2.1 c101 s9 D.1.1.2.1 (Nat.le_refl _) hlo) _ hpp).symm)
            · rw [show (1000 : Int32) = nI 1000 from rfl, nI_leI (by omega) (by omega)] at c101
              refine zz_iconst_1 C dX5_tryDays_104 <| zz_goto C 109 dX5_tryDays_105 (by decide) <| zz_istore_8 C (zle rfl) rfl dX5_tryDays_109 <| zpc 111 rfl <| ?_
              first
              | exact s111 (by omega) hv1 _ _ _ tq2 ag4 bs4 hw3 (Or.inl hv8)
              | exact s111 (by omega) hv1 _ _ _ tq2 ag4 bs4 hw3 (Or.inl rfl)
              | (refine s111 (by omega) hv1 _ _ _ tq2 ag4 bs4 hw3 (Or.inr ⟨rfl, ?_⟩)
                 subst c78; rw [← hF]; exact (tB_cut (fun s9 => dSC_le hqo.1 hO.2.1 c101 s9 D.1.1.2.1 (Nat.le_refl _) hlo) _ hpp).symm)
  refine zz_iload_3 C dX5_tryDays_0 <| zz_aload_0 C dX5_tryDays_1 <| zz_getI C fX5_24 (tX_K_search hX) dX5_tryDays_2 <| zpc 5 rfl <| ?_
  rw [hm.2.1]
  refine zz_icmp_lt C 21 dX5_tryDays_5 (by decide) (fun c5 => ?_) (fun c5 => ?_)
  · refine zz_iconst_1 C dX5_tryDays_21 <| zz_aload_2 C dX5_tryDays_22 <| zz_getI C fX5_45 (tL_K (tX_La hX)) dX5_tryDays_23 <| zpc 26 rfl <| ?_
    rw [hm.1.1.1.2.1]
    refine zz_ishl C dX5_tryDays_26 <| zpc 27 rfl <| ?_
    rw [fW _ (by omega)]
    refine zz_istore_7 C (zle rfl) rfl dX5_tryDays_27 <| zz_iconst_1 C dX5_tryDays_29 <| zz_istore_8 C (zle rfl) rfl dX5_tryDays_30 <| zz_iconst_0 C dX5_tryDays_32 <| zz_istore_9 C (zle rfl) rfl dX5_tryDays_33 <| zpc 35 rfl <| ?_
    exact lp 0 (by omega) _ _ _ _ _ _ (Or.inl rfl) (cAq.rf _ _) hbs (Or.inl ⟨rfl, rfl⟩)
  · rw [nI_ltI (by omega) (by omega)] at c5; omega
theorem c5_try2 (hX : zTX t a c e) (hO : dOk D Mo R) (k sp : Nat) (hk : k + 2 ≤ 3) {q : yQ} (hqo : qOk D.1 D.2.1 q) (hq2 : q.2 + 2 < 2 ^ 30) (hm : cQs h a D R (k + 2) k q) (f : Int32) (hf : 0 < k → ¬ f = -1) {B : Nat × Int32} (hbs : cBs h B) (hb2 : B.1 < 2 ^ 62) (hc : sp < B.1) : zMet E b l yX5_tryDays cX5_tryDays 12 none 9 0 0 [.ref (b + 123), .ref (b + 73), .ref (b + a), .int (nI k), .long (lN sp), .int f] t h (qV (cPq t h a k (tB D.1 D.2.1 2 q sp (if k = 0 then -1 else f) B))) := by
  have ha := tX_a2 hX
  have hn := hO.2.2.1
  have hng := hO.1.1.2.1.2.2.1
  have hpw : 2 ^ D.2.1.1.1 ≤ 2 ^ 10 := Nat.pow_le_pow_right (by omega) hn
  have hpp : 0 < 2 ^ D.2.1.1.1 := Nat.pow_pos (by omega)
  have e1 : tB D.1 D.2.1 2 q sp (if k = 0 then -1 else f) B = nFold (fun s B => tB D.1 D.2.1 1 (nxQ D.1 D.2.1 s q) (sp + dSC D.1 D.2.1 s q.1.1 q.2 D.1.1.2.1) (if (if k = 0 then -1 else f) = -1 then nI s else (if k = 0 then -1 else f)) B) B (2 ^ D.2.1.1.1) := if_pos hc
  rw [e1]
  have ef : ∀ s, (if (if k = 0 then (-1 : Int32) else f) = -1 then nI s else (if k = 0 then (-1 : Int32) else f)) = if k = 0 then nI s else f := fun s => by
    by_cases z : k = 0
    · rw [if_pos z, if_pos rfl, if_pos z]
    · rw [if_neg z, if_neg (hf (by omega)), if_neg z]
  generalize hF : (fun s B => tB D.1 D.2.1 1 (nxQ D.1 D.2.1 s q) (sp + dSC D.1 D.2.1 s q.1.1 q.2 D.1.1.2.1) (if (if k = 0 then -1 else f) = -1 then nI s else (if k = 0 then -1 else f)) B) = fF
  have hFs : ∀ s B, fF s B = tB D.1 D.2.1 1 (nxQ D.1 D.2.1 s q) (sp + dSC D.1 D.2.1 s q.1.1 q.2 D.1.1.2.1) (if k = 0 then nI s else f) B := fun s B => by rw [← hF, ← ef s]
  have hFl : ∀ s, (nFold fF B s).1 ≤ B.1 := by
    intro s
    induction s with
    | zero => exact Nat.le_refl _
    | succ s ih => refine Nat.le_trans ?_ ih; show (fF s (nFold fF B s)).1 ≤ _; rw [hFs]; exact tB_le _ _ _ _ _
  refine zMet.of (ls := [some (.ref (b + 123)), some (.ref (b + 73)), some (.ref (b + a)), some (.int (nI k)), some (.long (lN sp)), none, some (.int f), none, none, none, none, none]) (by decide) (zle rfl) 5 rfl ?_
  intro G hlG C hR hE hin
  have lp : ∀ s, s ≤ 2 ^ D.2.1.1.1 → ∀ (tc : zT) (hc : zH) (v8 : Int32) (B' : Nat × Int32) (y10 y11 : Option Value), cTq t a tc → cAq k h hc → cBs hc B' → (v8 = 1 ∧ B' = nFold fF B s ∨ v8 = 0 ∧ B' = nFold fF B (2 ^ D.2.1.1.1)) → zAW E b G 12 0 0 35 [some (.ref (b + 123)), some (.ref (b + 73)), some (.ref (b + a)), some (.int (nI k)), some (.long (lN sp)), none, some (.int f), some (.int (nI ((2 ^ D.2.1.1.1)))), some (.int v8), some (.int (nI s)), y10, y11] [] tc hc := by
    refine zLoop (2 ^ D.2.1.1.1) fun s hs ih tc hc v8 B' y10 y11 tq ag bs hv => ?_
    have hmc := hm.ag ha hO (by omega) ag
    obtain ⟨e', hX⟩ := tq.X hX
    have hst := dSC_bd (s := s) (day := q.2) hqo.1 hO.2.1 D.1.1.2.1 (Nat.le_refl _)
    have hst2 : dSC D.1 D.2.1 s q.1.1 q.2 D.1.1.2.1 ≤ 11000 * D.1.1.2.1 := hst
    have hbl := hFl s
    have s111 : s < 2 ^ D.2.1.1.1 → B' = nFold fF B s → ∀ (t2 : zT) (h2 : zH) (v8' : Int32), cTq t a t2 → cAq k h h2 → cBs h2 B' → cWk h2 a D.2.1.1.1 none D.1 D.2.1 yP0 (dDay D.1 D.2.1 yP0 s (xQ q)) D.2.1.1.2.2 R → (v8' = 1 ∨ v8' = 0 ∧ nFold fF B (s + 1) = nFold fF B (2 ^ D.2.1.1.1)) → zAW E b G 12 0 0 111 [some (.ref (b + 123)), some (.ref (b + 73)), some (.ref (b + a)), some (.int (nI k)), some (.long (lN sp)), none, some (.int f), some (.int (nI ((2 ^ D.2.1.1.1)))), some (.int (v8')), some (.int (nI s)), some (.long (lN (sp + dSC D.1 D.2.1 s q.1.1 q.2 D.1.1.2.1))), none] [] t2 h2 := by
      intro hs2 eB t2 h2 v8' tq2 ag2 bs2 hw hv'
      obtain ⟨e2, hX⟩ := tq2.X ‹zTX t a c e›
      have hb9 : B'.1 ≤ B.1 := by rw [eB]; exact hbl
      have hmc2 := hm.ag ha hO (by omega) ag2
      have eN : nFold fF B (s + 1) = tB D.1 D.2.1 1 (nxQ D.1 D.2.1 s q) (sp + dSC D.1 D.2.1 s q.1.1 q.2 D.1.1.2.1) (if k = 0 then nI s else f) B' := by
        show fF s (nFold fF B s) = _
        rw [hFs, ← eB]
      have hv2 : ∀ B'', B'' = nFold fF B (s + 1) → (v8' = 1 ∧ B'' = nFold fF B (s + 1) ∨ v8' = 0 ∧ B'' = nFold fF B (2 ^ D.2.1.1.1)) := fun B'' z => by
        rcases hv' with y | ⟨y, y2⟩
        · exact Or.inl ⟨y, z⟩
        · exact Or.inr ⟨y, z.trans y2⟩
      have s155 : sp + dSC D.1 D.2.1 s q.1.1 q.2 D.1.1.2.1 < B'.1 → ∀ h3 : zH, cTk h2 (125 + 4 * (k + 1)) 87 h3 → ∀ f' : Int32, f' = (if k = 0 then nI s else f) → zAW E b G 12 0 0 155 [some (.ref (b + 123)), some (.ref (b + 73)), some (.ref (b + a)), some (.int (nI k)), some (.long (lN sp)), none, some (.int f), some (.int (nI ((2 ^ D.2.1.1.1)))), some (.int (v8')), some (.int (nI s)), some (.long (lN (sp + dSC D.1 D.2.1 s q.1.1 q.2 D.1.1.2.1))), none] [.int (f'), .long (lN (sp + dSC D.1 D.2.1 s q.1.1 q.2 D.1.1.2.1)), .int (nI ((k + 1))), .ref (b + a), .ref (b + 73), .ref (b + 123)] t2 h3 := by
        intro hlt h3 tk f' ef'
        have ag3 : cAq k h2 h3 := ⟨fun i j z => tk.1.1 i j (by omega), fun i j z => tk.1.2 i j (by omega)⟩
        have bs3 : cBs h3 B' := ⟨(tk.1.2 _ _ (by omega)).trans bs2.1, (tk.1.1 _ _ (by omega)).trans bs2.2⟩
        have hst3 : cSt h3 (125 + 4 * (k + 1)) D.2.1.1.1 D.2.1.1.2.2 (q.2 + 1) (nxQ D.1 D.2.1 s q).1.1 (nxQ D.1 D.2.1 s q).1.2 R := tk.st (by omega) hO.2.2.2.1.1 hw.1.2.2.2.1
        have hm3 := hmc2.ag ha hO (by omega) ag3
        have hm4 : cQs h3 a D R (k + 2) (k + 1) (nxQ D.1 D.2.1 s q) := ⟨hm3.1, hm3.2.1, hst3⟩
        have hf' : 0 < k + 1 → ¬ f' = -1 := fun _ => by
          rw [ef']
          by_cases z : k = 0
          · rw [if_pos z]
            intro y
            have := congrArg Int32.toInt y
            rw [nI_toInt (by omega)] at this
            have e9 : (-1 : Int32).toInt = -1 := rfl
            omega
          · rw [if_neg z]; exact hf (by omega)
        refine zy_callVV C hR [_, _, _, _, _] (c5_try1 hX hO (k + 1) (sp + dSC D.1 D.2.1 s q.1.1 q.2 D.1.1.2.1) (by omega) (hqo.nx s) (show q.2 + 1 + 1 < 2 ^ 30 by omega) (by rw [show k + 1 + 1 = k + 2 by omega]; exact hm4) f' hf' bs3 (by omega) hlt) lX5_41 rfl (tX_K_search hX) (by decide) rfl ⟨zle rfl, zle rfl, zle rfl, zle rfl⟩ (zle rfl) dX5_tryDays_155 ?_
        intro t4 h4 hv4; obtain ⟨tq4, ag4, bs4⟩ := hv4
        refine zz_iinc_9 C _ (zle rfl) rfl dX5_tryDays_158 nI_s <| zz_goto C 35 dX5_tryDays_161 (by decide) <| zpc 35 rfl <| ?_
        refine ih (by omega) _ _ _ _ _ _ (tq2.tr tq4) (ag2.tr (ag3.tr ag4.up)) bs4 (hv2 _ ?_)
        rw [eN, if_neg (by omega), ef']
      refine zz_lload_10 C dX5_tryDays_111 <| zz_aload_0 C dX5_tryDays_113 <| zz_getL C fX5_30 (tX_K_search hX) dX5_tryDays_114 <| zpc 117 rfl <| ?_
      rw [bs2.1]
      refine zz_lcmp C dX5_tryDays_117 <| zpc 118 rfl <| ?_
      refine zz_if_ge C 158 dX5_tryDays_118 (by decide) (fun c118 => ?_) (fun c118 => ?_)
      · rw [lg_cmp_ge, pk_lLE (by omega) (by omega)] at c118
        refine zz_iinc_9 C _ (zle rfl) rfl dX5_tryDays_158 nI_s <| zz_goto C 35 dX5_tryDays_161 (by decide) <| zpc 35 rfl <| ?_
        refine ih (by omega) _ _ _ _ _ _ tq2 ag2 bs2 (hv2 _ ?_)
        rw [eN, tB_no (by omega)]
      · rw [lg_cmp_ge, pk_lLE (by omega) (by omega)] at c118
        refine zz_aload_0 C dX5_tryDays_121 <| zz_getR C fX5_11 (tX_K_search hX) (tX_R_levels hX) dX5_tryDays_122 <| zz_iload_3 C dX5_tryDays_125 <| zz_iconst_1 C dX5_tryDays_126 <| zz_iadd C dX5_tryDays_127 <| zpc 128 rfl <| ?_
        rw [show (1 : Int32) = nI 1 from rfl, nI_add]
        refine zc_aaloadS C _ (tX_K_levels hX) (tX_row_levels hX _ (by omega)) (znI (by omega)) (by omega) dX5_tryDays_128 <| zz_aload_1 C dX5_tryDays_129 <| zz_getR C fX5_72 (tX_K_walk hX) (tX_R_state hX) dX5_tryDays_130 <| zpc 133 rfl <| ?_
        refine zy_callVV C hR [_] (c6_take (tX_Slevels hX (k + 1) (by omega)) (tX_S87 hX) (by omega)) lX5_37 rfl (tS_K (tX_Slevels hX _ (by omega))) (by decide) rfl ⟨zle rfl, zle rfl, zle rfl, zle rfl⟩ (zle rfl) dX5_tryDays_133 ?_
        intro t3 h3 hv3; obtain ⟨rfl, tk⟩ := hv3
        refine zz_aload_0 C dX5_tryDays_136 <| zz_aload_1 C dX5_tryDays_137 <| zz_aload_2 C dX5_tryDays_138 <| zz_iload_3 C dX5_tryDays_139 <| zz_iconst_1 C dX5_tryDays_140 <| zz_iadd C dX5_tryDays_141 <| zpc 142 rfl <| ?_
        rw [show (1 : Int32) = nI 1 from rfl, nI_add]
        refine zz_lload_10 C dX5_tryDays_142 <| zz_iload_3 C dX5_tryDays_144 <| zpc 145 rfl <| ?_
        refine zz_if_ne C 153 dX5_tryDays_145 (by decide) (fun c145 => ?_) (fun c145 => ?_)
        · refine zz_iload_6 C dX5_tryDays_153 <| zpc 155 rfl <| ?_
          refine s155 (by omega) h3 tk _ ?_
          rw [show (0 : Int32) = nI 0 from rfl, nI_eq (by omega) (by omega)] at c145
          first
            | rw [if_pos c145]
            | rw [if_neg c145]
        · refine zz_iload_9 C dX5_tryDays_148 <| zz_goto C 155 dX5_tryDays_150 (by decide) <| zpc 155 rfl <| ?_
          refine s155 (by omega) h3 tk _ ?_
          rw [show (0 : Int32) = nI 0 from rfl, nI_eq (by omega) (by omega)] at c145
          first
            | rw [if_pos c145]
            | rw [if_neg c145]
    refine zz_iload_9 C dX5_tryDays_35 <| zz_iload_7 C dX5_tryDays_37 <| zpc 39 rfl <| ?_
    refine zz_icmp_ge C 164 dX5_tryDays_39 (by decide) (fun c39 => ?_) (fun c39 => ?_)
    · rw [nI_leI (by omega) (by omega)] at c39
      refine zy_return C hE (zle rfl) (zle rfl) dX5_tryDays_164 ?_
      refine ⟨tq, ag, ?_⟩
      rcases hv with ⟨y1, y2⟩ | ⟨y1, y2⟩
      · first
          | (rw [show s = 2 ^ D.2.1.1.1 by omega] at y2; rw [← y2]; exact bs)
          | (rw [y1] at c44; exact absurd c44 (by decide))
      · rw [← y2]; exact bs
    · rw [nI_leI (by omega) (by omega)] at c39
      refine zz_iload_8 C dX5_tryDays_42 <| zpc 44 rfl <| ?_
      refine zz_if_eq C 164 dX5_tryDays_44 (by decide) (fun c44 => ?_) (fun c44 => ?_)
      · refine zy_return C hE (zle rfl) (zle rfl) dX5_tryDays_164 ?_
        refine ⟨tq, ag, ?_⟩
        rcases hv with ⟨y1, y2⟩ | ⟨y1, y2⟩
        · first
            | (rw [show s = 2 ^ D.2.1.1.1 by omega] at y2; rw [← y2]; exact bs)
            | (rw [y1] at c44; exact absurd c44 (by decide))
        · rw [← y2]; exact bs
      · have hv1 : B' = nFold fF B s := by
          rcases hv with ⟨y1, y2⟩ | ⟨y1, y2⟩
          · exact y2
          · exact absurd y1 c44
        have hv8 : v8 = 1 := by
          rcases hv with ⟨y1, y2⟩ | ⟨y1, y2⟩
          · exact y1
          · exact absurd y1 c44
        refine zz_aload_1 C dX5_tryDays_47 <| zz_aload_2 C dX5_tryDays_48 <| zz_aload_0 C dX5_tryDays_49 <| zz_getR C fX5_11 (tX_K_search hX) (tX_R_levels hX) dX5_tryDays_50 <| zz_iload_3 C dX5_tryDays_53 <| zc_aaloadS C _ (tX_K_levels hX) (tX_row_levels hX _ (by omega)) (znI (by omega)) (by omega) dX5_tryDays_54 <| zpc 55 rfl <| ?_
        refine zy_callVV C hR [_, _] (c8_begin hX ha (tX_La hX) (tX_Slevels hX k (by omega)) (by omega) (by omega) hng (by omega) hO.2.2.2.1.1 hmc.1.1 hmc.1.2.1 hO.2.1 hmc.1.2.2 hmc.2.2 0) lX5_50 rfl (tX_K_walk hX) (by decide) rfl ⟨zle rfl, zle rfl, zle rfl, zle rfl⟩ (zle rfl) dX5_tryDays_55 ?_
        intro t2 h2 hv2; obtain ⟨rfl, hX2, ag2, hw2⟩ := hv2; have tq2 : cTq t a (zsR tc 73 6 (some a)) := tq.tr (Or.inr rfl); have hX := hX2
        refine zz_aload_1 C dX5_tryDays_58 <| zz_iload_9 C dX5_tryDays_59 <| zpc 61 rfl <| ?_
        refine zy_callVV C hR [_] (c8_passDay hX2 (by omega) hqo pX0 (Nat.zero_le _) hw2 (show q.2 < 2 ^ 30 by omega) s (by omega)) lX5_56 rfl (tX_K_walk hX) (by decide) rfl ⟨zle rfl, zle rfl, zle rfl, zle rfl⟩ (zle rfl) dX5_tryDays_61 ?_
        intro t3 h3 hv3; obtain ⟨rfl, ag3, hw3, lg, hlg, hlg2, hlo⟩ := hv3; have ag4 : cAq k h h3 := ag.tr (.of (ag2.tr ag3)); have bs4 : cBs h3 B' := ⟨((ag2.tr ag3).2 _ _ (by omega)).trans bs.1, ((ag2.tr ag3).1 _ _ (by omega)).trans bs.2⟩; have hm4 := hm.ag ha hO (by omega) ag4; have hco : zL h3 83 0 = lN (dSC D.1 D.2.1 s q.1.1 q.2 D.1.1.2.1) := (by rw [hw3.2.1.1, show (dDay D.1 D.2.1 yP0 s (xQ q)).2.2.2.1.2.1 = 0 from gTurns_cm rfl _ _ _ _ _ _, dDay_co]; show lN (0 + _ + 0) = _; rw [Nat.zero_add, Nat.add_zero])
        refine zz_lload_4 C dX5_tryDays_64 <| zz_aload_1 C dX5_tryDays_66 <| zz_getR C fX5_60 (tX_K_walk hX) (tX_R_tally hX) dX5_tryDays_67 <| zz_getL C fX5_64 (tX_K_tally hX) dX5_tryDays_70 <| zpc 73 rfl <| ?_
        rw [hco]
        refine zz_ladd C dX5_tryDays_73 <| zpc 74 rfl <| ?_
        rw [lN_add]
        refine zz_lstore_10 C (zle rfl) rfl dX5_tryDays_74 <| zz_iload_9 C dX5_tryDays_76 <| zpc 78 rfl <| ?_
        refine zz_if_ne C 111 dX5_tryDays_78 (by decide) (fun c78 => ?_) (fun c78 => ?_)
        · rw [show (0 : Int32) = nI 0 from rfl, nI_eq (by omega) (by omega)] at c78
          first
          | exact s111 (by omega) hv1 _ _ _ tq2 ag4 bs4 hw3 (Or.inl hv8)
          | exact s111 (by omega) hv1 _ _ _ tq2 ag4 bs4 hw3 (Or.inl rfl)
          | (refine s111 (by omega) hv1 _ _ _ tq2 ag4 bs4 hw3 (Or.inr ⟨rfl, ?_⟩)
             omega)
        · rw [show (0 : Int32) = nI 0 from rfl, nI_eq (by omega) (by omega)] at c78
          refine zz_iload_3 C dX5_tryDays_81 <| zz_aload_0 C dX5_tryDays_82 <| zz_getI C fX5_24 (tX_K_search hX) dX5_tryDays_83 <| zpc 86 rfl <| ?_
          rw [hm4.2.1]
          refine zz_iconst_1 C dX5_tryDays_86 <| zz_isub C dX5_tryDays_87 <| zpc 88 rfl <| ?_
          rw [show (1 : Int32) = nI 1 from rfl, pk_sub (by omega)]
          refine zz_icmp_ne C 111 dX5_tryDays_88 (by decide) (fun c88 => ?_) (fun c88 => ?_)
          · rw [nI_eq (by omega) (by omega)] at c88
            first
            | exact s111 (by omega) hv1 _ _ _ tq2 ag4 bs4 hw3 (Or.inl hv8)
            | exact s111 (by omega) hv1 _ _ _ tq2 ag4 bs4 hw3 (Or.inl rfl)
            | (refine s111 (by omega) hv1 _ _ _ tq2 ag4 bs4 hw3 (Or.inr ⟨rfl, ?_⟩)
               omega)
          · rw [nI_eq (by omega) (by omega)] at c88
            refine zz_aload_1 C dX5_tryDays_91 <| zz_getR C fX5_60 (tX_K_walk hX) (tX_R_tally hX) dX5_tryDays_92 <| zz_getI C fX5_69 (tX_K_tally hX) dX5_tryDays_95 <| zpc 98 rfl <| ?_
            rw [hlg]
            refine zz_sipush C 1000 dX5_tryDays_98 (by decide) <| zpc 101 rfl <| ?_
            refine zz_icmp_le C 108 dX5_tryDays_101 (by decide) (fun c101 => ?_) (fun c101 => ?_)
            · rw [show (1000 : Int32) = nI 1000 from rfl, nI_leI (by omega) (by omega)] at c101
              refine zz_iconst_0 C dX5_tryDays_108 <| zz_istore_8 C (zle rfl) rfl dX5_tryDays_109 <| zpc 111 rfl <| ?_
              first
              | exact s111 (by omega) hv1 _ _ _ tq2 ag4 bs4 hw3 (Or.inl hv8)
              | exact s111 (by omega) hv1 _ _ _ tq2 ag4 bs4 hw3 (Or.inl rfl)
              | (refine s111 (by omega) hv1 _ _ _ tq2 ag4 bs4 hw3 (Or.inr ⟨rfl, ?_⟩)
                 omega)
            · rw [show (1000 : Int32) = nI 1000 from rfl, nI_leI (by omega) (by omega)] at c101
              refine zz_iconst_1 C dX5_tryDays_104 <| zz_goto C 109 dX5_tryDays_105 (by decide) <| zz_istore_8 C (zle rfl) rfl dX5_tryDays_109 <| zpc 111 rfl <| ?_
              first
              | exact s111 (by omega) hv1 _ _ _ tq2 ag4 bs4 hw3 (Or.inl hv8)
              | exact s111 (by omega) hv1 _ _ _ tq2 ag4 bs4 hw3 (Or.inl rfl)
              | (refine s111 (by omega) hv1 _ _ _ tq2 ag4 bs4 hw3 (Or.inr ⟨rfl, ?_⟩)
                 omega)
  refine zz_iload_3 C dX5_tryDays_0 <| zz_aload_0 C dX5_tryDays_1 <| zz_getI C fX5_24 (tX_K_search hX) dX5_tryDays_2 <| zpc 5 rfl <| ?_
  rw [hm.2.1]
  refine zz_icmp_lt C 21 dX5_tryDays_5 (by decide) (fun c5 => ?_) (fun c5 => ?_)
  · refine zz_iconst_1 C dX5_tryDays_21 <| zz_aload_2 C dX5_tryDays_22 <| zz_getI C fX5_45 (tL_K (tX_La hX)) dX5_tryDays_23 <| zpc 26 rfl <| ?_
    rw [hm.1.1.1.2.1]
    refine zz_ishl C dX5_tryDays_26 <| zpc 27 rfl <| ?_
    rw [fW _ (by omega)]
    refine zz_istore_7 C (zle rfl) rfl dX5_tryDays_27 <| zz_iconst_1 C dX5_tryDays_29 <| zz_istore_8 C (zle rfl) rfl dX5_tryDays_30 <| zz_iconst_0 C dX5_tryDays_32 <| zz_istore_9 C (zle rfl) rfl dX5_tryDays_33 <| zpc 35 rfl <| ?_
    exact lp 0 (by omega) _ _ _ _ _ _ (Or.inl rfl) (cAq.rf _ _) hbs (Or.inl ⟨rfl, rfl⟩)
  · rw [nI_ltI (by omega) (by omega)] at c5; omega
theorem c5_try3 (hX : zTX t a c e) (hO : dOk D Mo R) (k sp : Nat) (hk : k + 3 ≤ 3) {q : yQ} (hqo : qOk D.1 D.2.1 q) (hq2 : q.2 + 3 < 2 ^ 30) (hm : cQs h a D R (k + 3) k q) (f : Int32) (hf : 0 < k → ¬ f = -1) {B : Nat × Int32} (hbs : cBs h B) (hb2 : B.1 < 2 ^ 62) (hc : sp < B.1) : zMet E b l yX5_tryDays cX5_tryDays 12 none 10 0 0 [.ref (b + 123), .ref (b + 73), .ref (b + a), .int (nI k), .long (lN sp), .int f] t h (qV (cPq t h a k (tB D.1 D.2.1 3 q sp (if k = 0 then -1 else f) B))) := by
  have ha := tX_a2 hX
  have hn := hO.2.2.1
  have hng := hO.1.1.2.1.2.2.1
  have hpw : 2 ^ D.2.1.1.1 ≤ 2 ^ 10 := Nat.pow_le_pow_right (by omega) hn
  have hpp : 0 < 2 ^ D.2.1.1.1 := Nat.pow_pos (by omega)
  have e1 : tB D.1 D.2.1 3 q sp (if k = 0 then -1 else f) B = nFold (fun s B => tB D.1 D.2.1 2 (nxQ D.1 D.2.1 s q) (sp + dSC D.1 D.2.1 s q.1.1 q.2 D.1.1.2.1) (if (if k = 0 then -1 else f) = -1 then nI s else (if k = 0 then -1 else f)) B) B (2 ^ D.2.1.1.1) := if_pos hc
  rw [e1]
  have ef : ∀ s, (if (if k = 0 then (-1 : Int32) else f) = -1 then nI s else (if k = 0 then (-1 : Int32) else f)) = if k = 0 then nI s else f := fun s => by
    by_cases z : k = 0
    · rw [if_pos z, if_pos rfl, if_pos z]
    · rw [if_neg z, if_neg (hf (by omega)), if_neg z]
  generalize hF : (fun s B => tB D.1 D.2.1 2 (nxQ D.1 D.2.1 s q) (sp + dSC D.1 D.2.1 s q.1.1 q.2 D.1.1.2.1) (if (if k = 0 then -1 else f) = -1 then nI s else (if k = 0 then -1 else f)) B) = fF
  have hFs : ∀ s B, fF s B = tB D.1 D.2.1 2 (nxQ D.1 D.2.1 s q) (sp + dSC D.1 D.2.1 s q.1.1 q.2 D.1.1.2.1) (if k = 0 then nI s else f) B := fun s B => by rw [← hF, ← ef s]
  have hFl : ∀ s, (nFold fF B s).1 ≤ B.1 := by
    intro s
    induction s with
    | zero => exact Nat.le_refl _
    | succ s ih => refine Nat.le_trans ?_ ih; show (fF s (nFold fF B s)).1 ≤ _; rw [hFs]; exact tB_le _ _ _ _ _
  refine zMet.of (ls := [some (.ref (b + 123)), some (.ref (b + 73)), some (.ref (b + a)), some (.int (nI k)), some (.long (lN sp)), none, some (.int f), none, none, none, none, none]) (by decide) (zle rfl) 5 rfl ?_
  intro G hlG C hR hE hin
  have lp : ∀ s, s ≤ 2 ^ D.2.1.1.1 → ∀ (tc : zT) (hc : zH) (v8 : Int32) (B' : Nat × Int32) (y10 y11 : Option Value), cTq t a tc → cAq k h hc → cBs hc B' → (v8 = 1 ∧ B' = nFold fF B s ∨ v8 = 0 ∧ B' = nFold fF B (2 ^ D.2.1.1.1)) → zAW E b G 12 0 0 35 [some (.ref (b + 123)), some (.ref (b + 73)), some (.ref (b + a)), some (.int (nI k)), some (.long (lN sp)), none, some (.int f), some (.int (nI ((2 ^ D.2.1.1.1)))), some (.int v8), some (.int (nI s)), y10, y11] [] tc hc := by
    refine zLoop (2 ^ D.2.1.1.1) fun s hs ih tc hc v8 B' y10 y11 tq ag bs hv => ?_
    have hmc := hm.ag ha hO (by omega) ag
    obtain ⟨e', hX⟩ := tq.X hX
    have hst := dSC_bd (s := s) (day := q.2) hqo.1 hO.2.1 D.1.1.2.1 (Nat.le_refl _)
    have hst2 : dSC D.1 D.2.1 s q.1.1 q.2 D.1.1.2.1 ≤ 11000 * D.1.1.2.1 := hst
    have hbl := hFl s
    have s111 : s < 2 ^ D.2.1.1.1 → B' = nFold fF B s → ∀ (t2 : zT) (h2 : zH) (v8' : Int32), cTq t a t2 → cAq k h h2 → cBs h2 B' → cWk h2 a D.2.1.1.1 none D.1 D.2.1 yP0 (dDay D.1 D.2.1 yP0 s (xQ q)) D.2.1.1.2.2 R → (v8' = 1 ∨ v8' = 0 ∧ nFold fF B (s + 1) = nFold fF B (2 ^ D.2.1.1.1)) → zAW E b G 12 0 0 111 [some (.ref (b + 123)), some (.ref (b + 73)), some (.ref (b + a)), some (.int (nI k)), some (.long (lN sp)), none, some (.int f), some (.int (nI ((2 ^ D.2.1.1.1)))), some (.int (v8')), some (.int (nI s)), some (.long (lN (sp + dSC D.1 D.2.1 s q.1.1 q.2 D.1.1.2.1))), none] [] t2 h2 := by
      intro hs2 eB t2 h2 v8' tq2 ag2 bs2 hw hv'
      obtain ⟨e2, hX⟩ := tq2.X ‹zTX t a c e›
      have hb9 : B'.1 ≤ B.1 := by rw [eB]; exact hbl
      have hmc2 := hm.ag ha hO (by omega) ag2
      have eN : nFold fF B (s + 1) = tB D.1 D.2.1 2 (nxQ D.1 D.2.1 s q) (sp + dSC D.1 D.2.1 s q.1.1 q.2 D.1.1.2.1) (if k = 0 then nI s else f) B' := by
        show fF s (nFold fF B s) = _
        rw [hFs, ← eB]
      have hv2 : ∀ B'', B'' = nFold fF B (s + 1) → (v8' = 1 ∧ B'' = nFold fF B (s + 1) ∨ v8' = 0 ∧ B'' = nFold fF B (2 ^ D.2.1.1.1)) := fun B'' z => by
        rcases hv' with y | ⟨y, y2⟩
        · exact Or.inl ⟨y, z⟩
        · exact Or.inr ⟨y, z.trans y2⟩
      have s155 : sp + dSC D.1 D.2.1 s q.1.1 q.2 D.1.1.2.1 < B'.1 → ∀ h3 : zH, cTk h2 (125 + 4 * (k + 1)) 87 h3 → ∀ f' : Int32, f' = (if k = 0 then nI s else f) → zAW E b G 12 0 0 155 [some (.ref (b + 123)), some (.ref (b + 73)), some (.ref (b + a)), some (.int (nI k)), some (.long (lN sp)), none, some (.int f), some (.int (nI ((2 ^ D.2.1.1.1)))), some (.int (v8')), some (.int (nI s)), some (.long (lN (sp + dSC D.1 D.2.1 s q.1.1 q.2 D.1.1.2.1))), none] [.int (f'), .long (lN (sp + dSC D.1 D.2.1 s q.1.1 q.2 D.1.1.2.1)), .int (nI ((k + 1))), .ref (b + a), .ref (b + 73), .ref (b + 123)] t2 h3 := by
        intro hlt h3 tk f' ef'
        have ag3 : cAq k h2 h3 := ⟨fun i j z => tk.1.1 i j (by omega), fun i j z => tk.1.2 i j (by omega)⟩
        have bs3 : cBs h3 B' := ⟨(tk.1.2 _ _ (by omega)).trans bs2.1, (tk.1.1 _ _ (by omega)).trans bs2.2⟩
        have hst3 : cSt h3 (125 + 4 * (k + 1)) D.2.1.1.1 D.2.1.1.2.2 (q.2 + 1) (nxQ D.1 D.2.1 s q).1.1 (nxQ D.1 D.2.1 s q).1.2 R := tk.st (by omega) hO.2.2.2.1.1 hw.1.2.2.2.1
        have hm3 := hmc2.ag ha hO (by omega) ag3
        have hm4 : cQs h3 a D R (k + 3) (k + 1) (nxQ D.1 D.2.1 s q) := ⟨hm3.1, hm3.2.1, hst3⟩
        have hf' : 0 < k + 1 → ¬ f' = -1 := fun _ => by
          rw [ef']
          by_cases z : k = 0
          · rw [if_pos z]
            intro y
            have := congrArg Int32.toInt y
            rw [nI_toInt (by omega)] at this
            have e9 : (-1 : Int32).toInt = -1 := rfl
            omega
          · rw [if_neg z]; exact hf (by omega)
        refine zy_callVV C hR [_, _, _, _, _] (c5_try2 hX hO (k + 1) (sp + dSC D.1 D.2.1 s q.1.1 q.2 D.1.1.2.1) (by omega) (hqo.nx s) (show q.2 + 1 + 2 < 2 ^ 30 by omega) (by rw [show k + 1 + 2 = k + 3 by omega]; exact hm4) f' hf' bs3 (by omega) hlt) lX5_41 rfl (tX_K_search hX) (by decide) rfl ⟨zle rfl, zle rfl, zle rfl, zle rfl⟩ (zle rfl) dX5_tryDays_155 ?_
        intro t4 h4 hv4; obtain ⟨tq4, ag4, bs4⟩ := hv4
        refine zz_iinc_9 C _ (zle rfl) rfl dX5_tryDays_158 nI_s <| zz_goto C 35 dX5_tryDays_161 (by decide) <| zpc 35 rfl <| ?_
        refine ih (by omega) _ _ _ _ _ _ (tq2.tr tq4) (ag2.tr (ag3.tr ag4.up)) bs4 (hv2 _ ?_)
        rw [eN, if_neg (by omega), ef']
      refine zz_lload_10 C dX5_tryDays_111 <| zz_aload_0 C dX5_tryDays_113 <| zz_getL C fX5_30 (tX_K_search hX) dX5_tryDays_114 <| zpc 117 rfl <| ?_
      rw [bs2.1]
      refine zz_lcmp C dX5_tryDays_117 <| zpc 118 rfl <| ?_
      refine zz_if_ge C 158 dX5_tryDays_118 (by decide) (fun c118 => ?_) (fun c118 => ?_)
      · rw [lg_cmp_ge, pk_lLE (by omega) (by omega)] at c118
        refine zz_iinc_9 C _ (zle rfl) rfl dX5_tryDays_158 nI_s <| zz_goto C 35 dX5_tryDays_161 (by decide) <| zpc 35 rfl <| ?_
        refine ih (by omega) _ _ _ _ _ _ tq2 ag2 bs2 (hv2 _ ?_)
        rw [eN, tB_no (by omega)]
      · rw [lg_cmp_ge, pk_lLE (by omega) (by omega)] at c118
        refine zz_aload_0 C dX5_tryDays_121 <| zz_getR C fX5_11 (tX_K_search hX) (tX_R_levels hX) dX5_tryDays_122 <| zz_iload_3 C dX5_tryDays_125 <| zz_iconst_1 C dX5_tryDays_126 <| zz_iadd C dX5_tryDays_127 <| zpc 128 rfl <| ?_
        rw [show (1 : Int32) = nI 1 from rfl, nI_add]
        refine zc_aaloadS C _ (tX_K_levels hX) (tX_row_levels hX _ (by omega)) (znI (by omega)) (by omega) dX5_tryDays_128 <| zz_aload_1 C dX5_tryDays_129 <| zz_getR C fX5_72 (tX_K_walk hX) (tX_R_state hX) dX5_tryDays_130 <| zpc 133 rfl <| ?_
        refine zy_callVV C hR [_] (c6_take (tX_Slevels hX (k + 1) (by omega)) (tX_S87 hX) (by omega)) lX5_37 rfl (tS_K (tX_Slevels hX _ (by omega))) (by decide) rfl ⟨zle rfl, zle rfl, zle rfl, zle rfl⟩ (zle rfl) dX5_tryDays_133 ?_
        intro t3 h3 hv3; obtain ⟨rfl, tk⟩ := hv3
        refine zz_aload_0 C dX5_tryDays_136 <| zz_aload_1 C dX5_tryDays_137 <| zz_aload_2 C dX5_tryDays_138 <| zz_iload_3 C dX5_tryDays_139 <| zz_iconst_1 C dX5_tryDays_140 <| zz_iadd C dX5_tryDays_141 <| zpc 142 rfl <| ?_
        rw [show (1 : Int32) = nI 1 from rfl, nI_add]
        refine zz_lload_10 C dX5_tryDays_142 <| zz_iload_3 C dX5_tryDays_144 <| zpc 145 rfl <| ?_
        refine zz_if_ne C 153 dX5_tryDays_145 (by decide) (fun c145 => ?_) (fun c145 => ?_)
        · refine zz_iload_6 C dX5_tryDays_153 <| zpc 155 rfl <| ?_
          refine s155 (by omega) h3 tk _ ?_
          rw [show (0 : Int32) = nI 0 from rfl, nI_eq (by omega) (by omega)] at c145
          first
            | rw [if_pos c145]
            | rw [if_neg c145]
        · refine zz_iload_9 C dX5_tryDays_148 <| zz_goto C 155 dX5_tryDays_150 (by decide) <| zpc 155 rfl <| ?_
          refine s155 (by omega) h3 tk _ ?_
          rw [show (0 : Int32) = nI 0 from rfl, nI_eq (by omega) (by omega)] at c145
          first
            | rw [if_pos c145]
            | rw [if_neg c145]
    refine zz_iload_9 C dX5_tryDays_35 <| zz_iload_7 C dX5_tryDays_37 <| zpc 39 rfl <| ?_
    refine zz_icmp_ge C 164 dX5_tryDays_39 (by decide) (fun c39 => ?_) (fun c39 => ?_)
    · rw [nI_leI (by omega) (by omega)] at c39
      refine zy_return C hE (zle rfl) (zle rfl) dX5_tryDays_164 ?_
      refine ⟨tq, ag, ?_⟩
      rcases hv with ⟨y1, y2⟩ | ⟨y1, y2⟩
      · first
          | (rw [show s = 2 ^ D.2.1.1.1 by omega] at y2; rw [← y2]; exact bs)
          | (rw [y1] at c44; exact absurd c44 (by decide))
      · rw [← y2]; exact bs
    · rw [nI_leI (by omega) (by omega)] at c39
      refine zz_iload_8 C dX5_tryDays_42 <| zpc 44 rfl <| ?_
      refine zz_if_eq C 164 dX5_tryDays_44 (by decide) (fun c44 => ?_) (fun c44 => ?_)
      · refine zy_return C hE (zle rfl) (zle rfl) dX5_tryDays_164 ?_
        refine ⟨tq, ag, ?_⟩
        rcases hv with ⟨y1, y2⟩ | ⟨y1, y2⟩
        · first
            | (rw [show s = 2 ^ D.2.1.1.1 by omega] at y2; rw [← y2]; exact bs)
            | (rw [y1] at c44; exact absurd c44 (by decide))
        · rw [← y2]; exact bs
      · have hv1 : B' = nFold fF B s := by
          rcases hv with ⟨y1, y2⟩ | ⟨y1, y2⟩
          · exact y2
          · exact absurd y1 c44
        have hv8 : v8 = 1 := by
          rcases hv with ⟨y1, y2⟩ | ⟨y1, y2⟩
          · exact y1
          · exact absurd y1 c44
        refine zz_aload_1 C dX5_tryDays_47 <| zz_aload_2 C dX5_tryDays_48 <| zz_aload_0 C dX5_tryDays_49 <| zz_getR C fX5_11 (tX_K_search hX) (tX_R_levels hX) dX5_tryDays_50 <| zz_iload_3 C dX5_tryDays_53 <| zc_aaloadS C _ (tX_K_levels hX) (tX_row_levels hX _ (by omega)) (znI (by omega)) (by omega) dX5_tryDays_54 <| zpc 55 rfl <| ?_
        refine zy_callVV C hR [_, _] (c8_begin hX ha (tX_La hX) (tX_Slevels hX k (by omega)) (by omega) (by omega) hng (by omega) hO.2.2.2.1.1 hmc.1.1 hmc.1.2.1 hO.2.1 hmc.1.2.2 hmc.2.2 0) lX5_50 rfl (tX_K_walk hX) (by decide) rfl ⟨zle rfl, zle rfl, zle rfl, zle rfl⟩ (zle rfl) dX5_tryDays_55 ?_
        intro t2 h2 hv2; obtain ⟨rfl, hX2, ag2, hw2⟩ := hv2; have tq2 : cTq t a (zsR tc 73 6 (some a)) := tq.tr (Or.inr rfl); have hX := hX2
        refine zz_aload_1 C dX5_tryDays_58 <| zz_iload_9 C dX5_tryDays_59 <| zpc 61 rfl <| ?_
        refine zy_callVV C hR [_] (c8_passDay hX2 (by omega) hqo pX0 (Nat.zero_le _) hw2 (show q.2 < 2 ^ 30 by omega) s (by omega)) lX5_56 rfl (tX_K_walk hX) (by decide) rfl ⟨zle rfl, zle rfl, zle rfl, zle rfl⟩ (zle rfl) dX5_tryDays_61 ?_
        intro t3 h3 hv3; obtain ⟨rfl, ag3, hw3, lg, hlg, hlg2, hlo⟩ := hv3; have ag4 : cAq k h h3 := ag.tr (.of (ag2.tr ag3)); have bs4 : cBs h3 B' := ⟨((ag2.tr ag3).2 _ _ (by omega)).trans bs.1, ((ag2.tr ag3).1 _ _ (by omega)).trans bs.2⟩; have hm4 := hm.ag ha hO (by omega) ag4; have hco : zL h3 83 0 = lN (dSC D.1 D.2.1 s q.1.1 q.2 D.1.1.2.1) := (by rw [hw3.2.1.1, show (dDay D.1 D.2.1 yP0 s (xQ q)).2.2.2.1.2.1 = 0 from gTurns_cm rfl _ _ _ _ _ _, dDay_co]; show lN (0 + _ + 0) = _; rw [Nat.zero_add, Nat.add_zero])
        refine zz_lload_4 C dX5_tryDays_64 <| zz_aload_1 C dX5_tryDays_66 <| zz_getR C fX5_60 (tX_K_walk hX) (tX_R_tally hX) dX5_tryDays_67 <| zz_getL C fX5_64 (tX_K_tally hX) dX5_tryDays_70 <| zpc 73 rfl <| ?_
        rw [hco]
        refine zz_ladd C dX5_tryDays_73 <| zpc 74 rfl <| ?_
        rw [lN_add]
        refine zz_lstore_10 C (zle rfl) rfl dX5_tryDays_74 <| zz_iload_9 C dX5_tryDays_76 <| zpc 78 rfl <| ?_
        refine zz_if_ne C 111 dX5_tryDays_78 (by decide) (fun c78 => ?_) (fun c78 => ?_)
        · rw [show (0 : Int32) = nI 0 from rfl, nI_eq (by omega) (by omega)] at c78
          first
          | exact s111 (by omega) hv1 _ _ _ tq2 ag4 bs4 hw3 (Or.inl hv8)
          | exact s111 (by omega) hv1 _ _ _ tq2 ag4 bs4 hw3 (Or.inl rfl)
          | (refine s111 (by omega) hv1 _ _ _ tq2 ag4 bs4 hw3 (Or.inr ⟨rfl, ?_⟩)
             omega)
        · rw [show (0 : Int32) = nI 0 from rfl, nI_eq (by omega) (by omega)] at c78
          refine zz_iload_3 C dX5_tryDays_81 <| zz_aload_0 C dX5_tryDays_82 <| zz_getI C fX5_24 (tX_K_search hX) dX5_tryDays_83 <| zpc 86 rfl <| ?_
          rw [hm4.2.1]
          refine zz_iconst_1 C dX5_tryDays_86 <| zz_isub C dX5_tryDays_87 <| zpc 88 rfl <| ?_
          rw [show (1 : Int32) = nI 1 from rfl, pk_sub (by omega)]
          refine zz_icmp_ne C 111 dX5_tryDays_88 (by decide) (fun c88 => ?_) (fun c88 => ?_)
          · rw [nI_eq (by omega) (by omega)] at c88
            first
            | exact s111 (by omega) hv1 _ _ _ tq2 ag4 bs4 hw3 (Or.inl hv8)
            | exact s111 (by omega) hv1 _ _ _ tq2 ag4 bs4 hw3 (Or.inl rfl)
            | (refine s111 (by omega) hv1 _ _ _ tq2 ag4 bs4 hw3 (Or.inr ⟨rfl, ?_⟩)
               omega)
          · rw [nI_eq (by omega) (by omega)] at c88
            refine zz_aload_1 C dX5_tryDays_91 <| zz_getR C fX5_60 (tX_K_walk hX) (tX_R_tally hX) dX5_tryDays_92 <| zz_getI C fX5_69 (tX_K_tally hX) dX5_tryDays_95 <| zpc 98 rfl <| ?_
            rw [hlg]
            refine zz_sipush C 1000 dX5_tryDays_98 (by decide) <| zpc 101 rfl <| ?_
            refine zz_icmp_le C 108 dX5_tryDays_101 (by decide) (fun c101 => ?_) (fun c101 => ?_)
            · rw [show (1000 : Int32) = nI 1000 from rfl, nI_leI (by omega) (by omega)] at c101
              refine zz_iconst_0 C dX5_tryDays_108 <| zz_istore_8 C (zle rfl) rfl dX5_tryDays_109 <| zpc 111 rfl <| ?_
              first
              | exact s111 (by omega) hv1 _ _ _ tq2 ag4 bs4 hw3 (Or.inl hv8)
              | exact s111 (by omega) hv1 _ _ _ tq2 ag4 bs4 hw3 (Or.inl rfl)
              | (refine s111 (by omega) hv1 _ _ _ tq2 ag4 bs4 hw3 (Or.inr ⟨rfl, ?_⟩)
                 omega)
            · rw [show (1000 : Int32) = nI 1000 from rfl, nI_leI (by omega) (by omega)] at c101
              refine zz_iconst_1 C dX5_tryDays_104 <| zz_goto C 109 dX5_tryDays_105 (by decide) <| zz_istore_8 C (zle rfl) rfl dX5_tryDays_109 <| zpc 111 rfl <| ?_
              first
              | exact s111 (by omega) hv1 _ _ _ tq2 ag4 bs4 hw3 (Or.inl hv8)
              | exact s111 (by omega) hv1 _ _ _ tq2 ag4 bs4 hw3 (Or.inl rfl)
              | (refine s111 (by omega) hv1 _ _ _ tq2 ag4 bs4 hw3 (Or.inr ⟨rfl, ?_⟩)
                 omega)
  refine zz_iload_3 C dX5_tryDays_0 <| zz_aload_0 C dX5_tryDays_1 <| zz_getI C fX5_24 (tX_K_search hX) dX5_tryDays_2 <| zpc 5 rfl <| ?_
  rw [hm.2.1]
  refine zz_icmp_lt C 21 dX5_tryDays_5 (by decide) (fun c5 => ?_) (fun c5 => ?_)
  · refine zz_iconst_1 C dX5_tryDays_21 <| zz_aload_2 C dX5_tryDays_22 <| zz_getI C fX5_45 (tL_K (tX_La hX)) dX5_tryDays_23 <| zpc 26 rfl <| ?_
    rw [hm.1.1.1.2.1]
    refine zz_ishl C dX5_tryDays_26 <| zpc 27 rfl <| ?_
    rw [fW _ (by omega)]
    refine zz_istore_7 C (zle rfl) rfl dX5_tryDays_27 <| zz_iconst_1 C dX5_tryDays_29 <| zz_istore_8 C (zle rfl) rfl dX5_tryDays_30 <| zz_iconst_0 C dX5_tryDays_32 <| zz_istore_9 C (zle rfl) rfl dX5_tryDays_33 <| zpc 35 rfl <| ?_
    exact lp 0 (by omega) _ _ _ _ _ _ (Or.inl rfl) (cAq.rf _ _) hbs (Or.inl ⟨rfl, rfl⟩)
  · rw [nI_ltI (by omega) (by omega)] at c5; omega
end CQ
