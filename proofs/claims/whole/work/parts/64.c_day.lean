/-! ===== the class: Walk, a day, many days ===== -/
/-- what the walk has come to -/
def cTl (h : zH) (lots : Bool) (x : yA) : Prop := (zL h 83 0 = lN (x.2.1.1 + x.2.1.2.1) ∧ zL h 83 1 = lN x.2.1.2.1 ∧ zL h 83 2 = lN x.2.1.2.2) ∧ (zI h 83 3 = nI x.2.2.1.1 ∧ zI h 83 4 = nI x.2.2.1.2.1 ∧ zI h 83 5 = oI x.2.2.1.2.2) ∧ (lots = true → zI h 82 9 = x.1)
/-- a walk between two days -/
def cWk (h : zH) (e n0 : Nat) (ex : Option Nat) (L : yL) (A : yN) (p : yP) (x : yS) (N0 : Nat) (R : Nat × (Nat → Nat)) : Prop := cSd h e n0 ex L A p x.1.1 x.1.2 x.2.1.1 x.2.1.2 N0 R ∧ cTl h p.2.2.1 x.2.2
/-- the times of a walk -/
def tmOk (x : yS) : Prop := x.2.1.2 ≤ x.2.1.1
theorem cTl.eq {h h' : zH} {lots : Bool} {x : yA} (q1 : ∀ k, zI h' 83 k = zI h 83 k) (q2 : ∀ k, zL h' 83 k = zL h 83 k) (q3 : zI h' 82 9 = zI h 82 9) (hm : cTl h lots x) : cTl h' lots x := by
  obtain ⟨⟨h1, h2, h3⟩, ⟨h4, h5, h6⟩, h7⟩ := hm
  exact ⟨⟨(q2 _).trans h1, (q2 _).trans h2, (q2 _).trans h3⟩, ⟨(q1 _).trans h4, (q1 _).trans h5, (q1 _).trans h6⟩, fun z => q3.trans (h7 z)⟩
section CD
variable {E : zE} {b : Nat} {G : zG} {t : zT} {h : zH} {l : Launch} {n0 s day gone N0 : Nat} {ex : Option Nat} {L : yL} {A : yN} {p : yP} {w r : Nat → Nat} {R : Nat × (Nat → Nat)} {a c e : Nat} {x : yS}
theorem c8_endDay (hX : zTX t a c e) (he : e + 31 < 73) (hS : sOk L A p w) (hN3 : 3 ≤ A.1.2.2) (hN11 : A.1.2.2 ≤ 11) (hrN : ∀ k, k < A.1.1 → r k ≤ A.1.2.2) (hm : cSd h e n0 ex L A p w r day gone N0 R) (hd2 : day < 2 ^ 30) {ld : Nat → Nat} (hld : ∀ k, k < A.1.1 → zI h 86 k = nI (ld k) ∧ ld k ≤ 2000) (dc : Decidable (dWet L day)) : zMet E b l yX8_endDay cX8_endDay 4 none 3 0 0 [.ref (b + 73)] t h (qV (fun t' h' => t' = t ∧ (∀ i k, ¬ (i = 87 ∨ i = 88 ∨ i = 89 ∨ (i = 73 ∧ k = 7)) → zI h' i k = zI h i k) ∧ (∀ i k, zL h' i k = zL h i k) ∧ cSd h' e n0 ex L A p (fun k => eW A.1.2.2 (ld k) (rainy L p day dc) (w k) (r k)) (fun k => eR A.1.2.2 (ld k) (rainy L p day dc) (r k)) (day + 1) (gone + 1) N0 R)) := by
  have hng := hS.2.1.2.2.1
  have hn := hS.1.2.2.1
  obtain ⟨hl1, hrd, hpl, hst, hgo⟩ := hm
  have hm : cSd h e n0 ex L A p w r day gone N0 R := ⟨hl1, hrd, hpl, hst, hgo⟩
  have hx := hrd.1.2.2
  have hnn := hrd.1.2.1
  have q7 := hpl.2.2.2.2.1
  have q6 := hpl.2.2.2.1
  have q5 := hpl.2.2.1
  have hrn : rainy L p day dc ≤ 1 := by unfold rainy; split <;> (try split) <;> omega
  refine zMet.of (ls := [some (.ref (b + 73)), none, none, none]) (by decide) (zle rfl) 3 rfl ?_
  intro G hlG C hR hE hin
  have s93 : ∀ (hc : zH) (x1 x2 x3 : Option Value), (∀ i k, ¬ (i = 88 ∨ i = 89) → zI hc i k = zI h i k) → (∀ i k, zL hc i k = zL h i k) → (∀ k, k < A.1.1 → zI hc 88 k = nI (eW A.1.2.2 (ld k) (rainy L p day dc) (w k) (r k)) ∧ zI hc 89 k = nI (eR A.1.2.2 (ld k) (rainy L p day dc) (r k))) → (∀ k, A.1.1 ≤ k → zI hc 88 k = zI h 88 k ∧ zI hc 89 k = zI h 89 k) → zAW E b G 4 0 0 93 [some (.ref (b + 73)), x1, x2, x3] [] t hc := by
    intro hc x1 x2 x3 e1 e2 e3 e4
    have d1 : zI hc 87 0 = nI day := by rw [e1 _ _ (by omega)]; exact hst.1.1
    have d2 : ∀ v, zI (zsI hc 87 0 v) 73 7 = nI gone := fun v => by rw [zI_sI, if_neg (by omega), e1 _ _ (by omega)]; exact hgo
    refine zz_aload_0 C dX8_endDay_93 <| zz_getR C fX8_46 (tX_K_walk hX) (tX_R_state hX) dX8_endDay_94 <| zz_dup C dX8_endDay_97 rfl <| zz_getI C fX8_126 (tS_K (tX_S87 hX)) dX8_endDay_98 <| zpc 101 rfl <| ?_
    rw [d1]
    refine zz_iconst_1 C dX8_endDay_101 <| zz_iadd C dX8_endDay_102 <| zpc 103 rfl <| ?_
    rw [show (1 : Int32) = nI 1 from rfl, nI_add]
    refine zy_putI C fX8_126 pX6_0 (tS_K (tX_S87 hX)) dX8_endDay_103 <| zz_aload_0 C dX8_endDay_106 <| zz_dup C dX8_endDay_107 rfl <| zz_getI C fX8_61 (tX_K_walk hX) dX8_endDay_108 <| zpc 111 rfl <| ?_
    rw [d2]
    refine zz_iconst_1 C dX8_endDay_111 <| zz_iadd C dX8_endDay_112 <| zpc 113 rfl <| ?_
    rw [show (1 : Int32) = nI 1 from rfl, nI_add]
    refine zy_putI C fX8_61 pX8_7 (tX_K_walk hX) dX8_endDay_113 <| zpc 116 rfl <| ?_
    refine zy_return C hE (zle rfl) (zle rfl) dX8_endDay_116 ?_
    have rd : ∀ i k, ¬ (i = 87 ∨ i = 88 ∨ i = 89 ∨ (i = 73 ∧ k = 7)) → zI (zsI (zsI hc 87 0 (nI (day + 1))) 73 7 (nI (gone + 1))) i k = zI h i k := fun i k hi => by rw [zI_sI, if_neg (by omega), zI_sI, if_neg (by omega)]; exact e1 i k (by omega)
    have r2 : ∀ i k, (i = 88 ∨ i = 89) → zI (zsI (zsI hc 87 0 (nI (day + 1))) 73 7 (nI (gone + 1))) i k = zI hc i k := fun i k hi => by rw [zI_sI, if_neg (by omega), zI_sI, if_neg (by omega)]
    have ag : cAg 73 90 h (zsI (zsI hc 87 0 (nI (day + 1))) 73 7 (nI (gone + 1))) := ⟨fun i k q => rd i k (by omega), fun i k _ => e2 i k⟩
    refine ⟨rfl, rd, e2, hl1.ag ag (Or.inl he) hng, hrd.ag ag (Or.inl he), hpl.ad (fun k hk => rd _ _ (by omega)), ⟨⟨?_, ?_⟩, fun k hk => ?_, fun k hk hk2 => ?_, fun k hk => ?_⟩, zI_self _ _ _ _⟩
    · rw [zI_sI, if_neg (by omega), zI_self]
    · rw [zI_sI, if_neg (by omega), zI_sI, if_neg (by omega), e1 _ _ (by omega)]; exact hst.1.2
    · rw [r2 _ _ (by omega), r2 _ _ (by omega)]; exact e3 k hk
    · rw [r2 _ _ (by omega), r2 _ _ (by omega), (e4 k hk).1, (e4 k hk).2]; exact hst.2.2.1 k hk hk2
    · rw [rd _ _ (by omega)]; exact hst.2.2.2 k hk
  have lp : ∀ k, k ≤ A.1.1 → ∀ hc : zH, (∀ i k, ¬ (i = 88 ∨ i = 89) → zI hc i k = zI h i k) → (∀ i k, zL hc i k = zL h i k) → (∀ j, j < k → zI hc 88 j = nI (eW A.1.2.2 (ld j) (rainy L p day dc) (w j) (r j)) ∧ zI hc 89 j = nI (eR A.1.2.2 (ld j) (rainy L p day dc) (r j))) → (∀ j, k ≤ j → zI hc 88 j = zI h 88 j ∧ zI hc 89 j = zI h 89 j) → zAW E b G 4 0 0 50 [some (.ref (b + 73)), some (.int (nI (rainy L p day dc))), some (.int (nI (n0 + exN ex))), some (.int (nI k))] [] t hc := by
    refine zLoop A.1.1 fun k hk ih hc e1 e2 e3 e4 => ?_
    refine zz_iload_3 C dX8_endDay_50 <| zz_iload_2 C dX8_endDay_51 <| zpc 52 rfl <| ?_
    refine zz_icmp_ge C 93 dX8_endDay_52 (by decide) (fun c52 => ?_) (fun c52 => ?_)
    · rw [nI_leI (by omega) (by omega)] at c52
      exact s93 hc _ _ _ e1 e2 (fun j hj => e3 j (by omega)) (fun j hj => e4 j (by omega))
    · rw [nI_leI (by omega) (by omega)] at c52
      refine zz_iload_3 C dX8_endDay_55 <| zz_aload_0 C dX8_endDay_56 <| zz_getR C fX8_39 (tX_K_walk hX) (tX_R_weights hX) dX8_endDay_57 <| zz_alenI C (tX_K_weights hX) dX8_endDay_60 <| zpc 61 rfl <| ?_
      refine zz_icmp_ge C 93 dX8_endDay_61 (by decide) (fun c61 => ?_) (fun c61 => ?_)
      · rw [show Int32.ofNat 11 = nI 11 from rfl, nI_leI (by omega) (by omega)] at c61
        omega
      · rw [show Int32.ofNat 11 = nI 11 from rfl, nI_leI (by omega) (by omega)] at c61
        have hldk := hld k (by omega)
        have l86 : zI hc 86 k = nI (ld k) := (by rw [e1 _ _ (by omega)]; exact hldk.1)
        have l82 : zI hc 82 6 = nI A.1.2.2 := (by rw [e1 _ _ (by omega)]; exact q6)
        have hb := hS.1.2.2.2.2 k (by omega)
        have w88 : zI hc 88 k = nI (w k) := (by rw [(e4 k (Nat.le_refl k)).1]; exact (hst.2.1 k (by omega)).1)
        have r89 : zI hc 89 k = nI (r k) := (by rw [(e4 k (Nat.le_refl k)).2]; exact (hst.2.1 k (by omega)).2)
        have hrk := hrN k (by omega)
        refine zz_aload_0 C dX8_endDay_64 <| zz_getR C fX8_46 (tX_K_walk hX) (tX_R_state hX) dX8_endDay_65 <| zz_iload_3 C dX8_endDay_68 <| zz_aload_0 C dX8_endDay_69 <| zz_getR C fX8_39 (tX_K_walk hX) (tX_R_weights hX) dX8_endDay_70 <| zz_iload_3 C dX8_endDay_73 <| zc_iaload C _ (tX_K_weights hX) (znI (by omega)) (by omega) dX8_endDay_74 <| zpc 75 rfl <| ?_
        rw [l86]
        refine zz_iload_1 C dX8_endDay_75 <| zz_iadd C dX8_endDay_76 <| zpc 77 rfl <| ?_
        rw [nI_add]
        refine zz_aload_0 C dX8_endDay_77 <| zz_getR C fX8_21 (tX_K_walk hX) (tX_R_plan hX) dX8_endDay_78 <| zz_getI C fX8_185 (tX_K_plan hX) dX8_endDay_81 <| zpc 84 rfl <| ?_
        rw [l82]
        refine zf_callVV C hR [_, _, _] (c6_endDay (tX_S87 hX) k (by omega) hN3 hN11 (by omega) w88 (by omega) r89 (by omega)) lX8_188 rfl (tS_K (tX_S87 hX)) (by decide) rfl ⟨zle rfl, zle rfl, zle rfl, zle rfl⟩ (zle rfl) dX8_endDay_84 ?_
        refine zz_iinc_3 C _ (zle rfl) rfl dX8_endDay_87 nI_s <| zz_goto C 50 dX8_endDay_90 (by decide) <| zpc 50 rfl <| ?_
        refine ih (by omega) _ (fun i j hi => ?_) e2 (fun j hj => ?_) (fun j hj => ?_)
        · rw [zI_sI, if_neg (by omega), zI_sI, if_neg (by omega)]; exact e1 i j hi
        · by_cases z : j = k
          · subst z
            rw [zI_sI, if_neg (by omega), zI_self, zI_self]; exact ⟨rfl, rfl⟩
          · rw [zI_sI, if_neg (by omega), zI_sI, if_neg (by omega), zI_sI, if_neg (by omega), zI_sI, if_neg (by omega)]; exact e3 j (by omega)
        · rw [zI_sI, if_neg (by omega), zI_sI, if_neg (by omega), zI_sI, if_neg (by omega), zI_sI, if_neg (by omega)]; exact e4 j (by omega)
  have s32 : ∀ v : Int32, v = nI (rainy L p day dc) → zAW E b G 4 0 0 32 [some (.ref (b + 73)), none, none, none] [.int v] t h := by
    intro v hv
    rw [hv]
    refine zz_istore_1 C (zle rfl) rfl dX8_endDay_32 <| zz_aload_0 C dX8_endDay_33 <| zz_getR C fX8_53 (tX_K_walk hX) (tX_R_wland hX) dX8_endDay_34 <| zz_aload_0 C dX8_endDay_37 <| zz_getR C fX8_21 (tX_K_walk hX) (tX_R_plan hX) dX8_endDay_38 <| zz_getI C fX8_179 (tX_K_plan hX) dX8_endDay_41 <| zpc 44 rfl <| ?_
    rw [q5]
    refine zf_callVI C hR [_] (c1_roadsWith (tX_Le hX) hx hl1.1.2.1) lX8_182 rfl (tL_K (tX_Le hX)) (by decide) rfl ⟨zle rfl, zle rfl, zle rfl, zle rfl⟩ (zle rfl) dX8_endDay_44 ?_
    refine zz_istore_2 C (zle rfl) rfl dX8_endDay_47 <| zz_iconst_0 C dX8_endDay_48 <| zz_istore_3 C (zle rfl) rfl dX8_endDay_49 <| zpc 50 rfl <| ?_
    exact lp 0 (by omega) h (fun _ _ _ => rfl) (fun _ _ => rfl) (fun j hj => absurd hj (by omega)) (fun j _ => ⟨rfl, rfl⟩)
  by_cases hwet : dWet L day
  ·
    refine zz_aload_0 C dX8_endDay_0 <| zz_getR C fX8_21 (tX_K_walk hX) (tX_R_plan hX) dX8_endDay_1 <| zz_getI C fX8_173 (tX_K_plan hX) dX8_endDay_4 <| zpc 7 rfl <| ?_
    rw [q7]
    refine zz_if_ne C 31 dX8_endDay_7 (by decide) (fun c7 => ?_) (fun c7 => ?_)
    · first | rw [zb_ne0] at c7 | rw [zb_eq0] at c7
      refine zz_iconst_0 C dX8_endDay_31 <| zpc 32 rfl <| ?_
      refine s32 _ ?_
      unfold rainy
      first | rw [if_pos c7]; rfl | rw [if_neg c7, if_pos hwet]; rfl
    · first | rw [zb_ne0] at c7 | rw [zb_eq0] at c7
      refine zz_aload_0 C dX8_endDay_10 <| zz_getR C fX8_53 (tX_K_walk hX) (tX_R_wland hX) dX8_endDay_11 <| zz_aload_0 C dX8_endDay_14 <| zz_getR C fX8_46 (tX_K_walk hX) (tX_R_state hX) dX8_endDay_15 <| zz_getI C fX8_126 (tS_K (tX_S87 hX)) dX8_endDay_18 <| zpc 21 rfl <| ?_
      rw [hst.1.1]
      refine zf_callVI C hR [_] (c1_isWet (tX_Le hX) hS.2.1 hl1 (by omega) 1 (fun _ => rfl) (fun z => absurd hwet z)) lX8_176 rfl (tL_K (tX_Le hX)) (by decide) rfl ⟨zle rfl, zle rfl, zle rfl, zle rfl⟩ (zle rfl) dX8_endDay_21 ?_
      refine zz_if_eq C 31 dX8_endDay_24 (by decide) (fun c24 => ?_) (fun c24 => ?_)
      · exact absurd c24 (by decide)
      · refine zz_iconst_1 C dX8_endDay_27 <| zz_goto C 32 dX8_endDay_28 (by decide) <| zpc 32 rfl <| ?_
        refine s32 _ ?_
        unfold rainy
        first | rw [if_pos c7]; rfl | rw [if_neg c7, if_pos hwet]; rfl
  ·
    refine zz_aload_0 C dX8_endDay_0 <| zz_getR C fX8_21 (tX_K_walk hX) (tX_R_plan hX) dX8_endDay_1 <| zz_getI C fX8_173 (tX_K_plan hX) dX8_endDay_4 <| zpc 7 rfl <| ?_
    rw [q7]
    refine zz_if_ne C 31 dX8_endDay_7 (by decide) (fun c7 => ?_) (fun c7 => ?_)
    · first | rw [zb_ne0] at c7 | rw [zb_eq0] at c7
      refine zz_iconst_0 C dX8_endDay_31 <| zpc 32 rfl <| ?_
      refine s32 _ ?_
      unfold rainy
      first | rw [if_pos c7]; rfl | rw [if_neg c7, if_neg hwet]; rfl
    · first | rw [zb_ne0] at c7 | rw [zb_eq0] at c7
      refine zz_aload_0 C dX8_endDay_10 <| zz_getR C fX8_53 (tX_K_walk hX) (tX_R_wland hX) dX8_endDay_11 <| zz_aload_0 C dX8_endDay_14 <| zz_getR C fX8_46 (tX_K_walk hX) (tX_R_state hX) dX8_endDay_15 <| zz_getI C fX8_126 (tS_K (tX_S87 hX)) dX8_endDay_18 <| zpc 21 rfl <| ?_
      rw [hst.1.1]
      refine zf_callVI C hR [_] (c1_isWet (tX_Le hX) hS.2.1 hl1 (by omega) 0 (fun z => absurd z hwet) (fun _ => rfl)) lX8_176 rfl (tL_K (tX_Le hX)) (by decide) rfl ⟨zle rfl, zle rfl, zle rfl, zle rfl⟩ (zle rfl) dX8_endDay_21 ?_
      refine zz_if_eq C 31 dX8_endDay_24 (by decide) (fun c24 => ?_) (fun c24 => ?_)
      · refine zz_iconst_0 C dX8_endDay_31 <| zpc 32 rfl <| ?_
        refine s32 _ ?_
        unfold rainy
        first | rw [if_pos c7]; rfl | rw [if_neg c7, if_neg hwet]; rfl
      · exact absurd rfl c24
/-- the most minutes of a way on a day by the plain plan are known -/
def lgOk (L : yL) (A : yN) (p : yP) (s : Nat) (w : Nat → Nat) (day gone g lg : Nat) : Prop := p.2.2.1 = false → ∀ q, q < g → gOn L.2.1 day gone p.1 p.2.1.1 p.2.1.2 q → ∀ pl, sWay L A p w s q = some pl → mSum A.2 w pl ≤ lg
theorem lgOk.st {L : yL} {A : yN} {p : yP} {s : Nat} {w : Nat → Nat} {day gone g lg lg' : Nat} (hl : lgOk L A p s w day gone g lg) (hle : lg ≤ lg') (hg : p.2.2.1 = false → gOn L.2.1 day gone p.1 p.2.1.1 p.2.1.2 g → ∀ pl, sWay L A p w s g = some pl → mSum A.2 w pl ≤ lg') : lgOk L A p s w day gone (g + 1) lg' := by
  intro hp q hq ho pl hpl
  by_cases z : q = g
  · subst z; exact hg hp ho pl hpl
  · have := hl hp q (by omega) ho pl hpl; omega
theorem c8_passDay (hX : zTX t a c e) (he : e + 31 < 73) (hW : wOk L A p x) (hpx : pX p) (htm : tmOk x) (hm : cWk h e n0 ex L A p x N0 R) (hd2 : x.2.1.1 < 2 ^ 30) (s : Nat) (hs : s < 2 ^ 31) : zMet E b l yX8_passDay cX8_passDay 3 none 6 0 0 [.ref (b + 73), .int (nI s)] t h (qV (fun t' h' => t' = t ∧ cAg 73 90 h h' ∧ cWk h' e n0 ex L A p (dDay L A p s x) N0 R ∧ ∃ lg, zI h' 83 6 = nI lg ∧ lg ≤ 20000 ∧ lgOk L A p s x.1.1 x.2.1.1 x.2.1.2 L.1.2.1 lg)) := by
  obtain ⟨hS, hN3, hN11, hrN⟩ := hW
  have hng := hS.2.1.2.2.1
  have hn := hS.1.2.2.1
  obtain ⟨hsd, hT⟩ := hm
  refine zMet.of (ls := [some (.ref (b + 73)), some (.int (nI s)), none]) (by decide) (zle rfl) 1 rfl ?_
  intro G hlG C hR hE hin
  have lp2 : ∀ (h2 : zH), cAg 73 90 h h2 → cSd h2 e n0 ex L A p x.1.1 x.1.2 x.2.1.1 x.2.1.2 N0 R → ∀ g, g ≤ L.1.2.1 → ∀ (hc : zH) (lg : Nat), cAd h2 hc → cWs hc L A x.1.1 s → cDy hc A.1.1 p.2.2.1 (gTurns L A p s x.1.1 x.2.1.1 x.2.1.2 g (x.2.2.1, x.2.2.2.1, (x.2.2.2.2.1.1, x.2.2.2.2.1.2.1, none), fun _ => 0)) lg → lgOk L A p s x.1.1 x.2.1.1 x.2.1.2 g lg → zAW E b G 3 0 0 38 [some (.ref (b + 73)), some (.int (nI s)), some (.int (nI g))] [] t hc := by
    intro h2 ag2 hs2
    refine zLoop L.1.2.1 fun g hg ih hc lg ad hws hy hlg => ?_
    have hsc := hs2.ad ad he hng
    have hfs := gTurns_fst L A p s x.1.1 x.2.1.1 x.2.1.2 (x.2.2.1, x.2.2.2.1, (x.2.2.2.2.1.1, x.2.2.2.2.1.2.1, none), fun _ => 0) rfl g
    rw [show gTurns L A p s x.1.1 x.2.1.1 x.2.1.2 (g + 1) (x.2.2.1, x.2.2.2.1, (x.2.2.2.2.1.1, x.2.2.2.2.1.2.1, none), fun _ => 0) = gTurn L A p s x.1.1 x.2.1.1 x.2.1.2 g (gTurns L A p s x.1.1 x.2.1.1 x.2.1.2 g (x.2.2.1, x.2.2.2.1, (x.2.2.2.2.1.1, x.2.2.2.2.1.2.1, none), fun _ => 0)) from rfl] at ih
    obtain ⟨xa, hxa⟩ : ∃ xa, xa = gTurns L A p s x.1.1 x.2.1.1 x.2.1.2 g (x.2.2.1, x.2.2.2.1, (x.2.2.2.2.1.1, x.2.2.2.2.1.2.1, none), fun _ => 0) := ⟨_, rfl⟩
    rw [← hxa] at hy ih hfs
    have s63 : g < L.1.2.1 → ∀ (hq : zH) (lgq : Nat), cAd h2 hq → cWs hq L A x.1.1 s → cDy hq A.1.1 p.2.2.1 (gTurn L A p s x.1.1 x.2.1.1 x.2.1.2 g xa) lgq → lgOk L A p s x.1.1 x.2.1.1 x.2.1.2 (g + 1) lgq → zAW E b G 3 0 0 63 [some (.ref (b + 73)), some (.int (nI s)), some (.int (nI g))] [] t hq := by
      intro hgl hq lgq aq hwq hyq hlq
      refine zz_iinc_2 C _ (zle rfl) rfl dX8_passDay_63 nI_s <| zz_goto C 38 dX8_passDay_66 (by decide) <| zpc 38 rfl <| ?_
      exact ih hgl hq lgq aq hwq hyq hlq
    have s57 : g < L.1.2.1 → ∀ (hq : zH) (xq : yA), cAd h2 hq → cWs hq L A x.1.1 s → cDy hq A.1.1 p.2.2.1 xq lg → (∀ y, xq.2.2.1.2.2 = some y → y < g) → gTurn L A p s x.1.1 x.2.1.1 x.2.1.2 g xa = gWay A.1.2.1 (L.2.1 g 3) A.2 x.1.1 (decide (some g = p.2.2.2.2.1)) g (sWay L A p x.1.1 s g) xq → zAW E b G 3 0 0 57 [some (.ref (b + 73)), some (.int (nI s)), some (.int (nI g))] [] t hq := by
      intro hgl hq xq aq hwq hyq hfq hgt
      have hsq := hs2.ad aq he hng
      refine zz_aload_0 C dX8_passDay_57 <| zz_iload_2 C dX8_passDay_58 <| zz_iload_1 C dX8_passDay_59 <| zpc 60 rfl <| ?_
      refine zy_callVV C hR [_, _] (c8_send hX he hS hpx s hs g hgl hsq hwq (fun y hy => by have := hfq y hy; omega) hyq) lX8_113 rfl (tX_K_walk hX) (by decide) rfl ⟨zle rfl, zle rfl, zle rfl, zle rfl⟩ (zle rfl) dX8_passDay_60 ?_
      intro t9 h9 hv; obtain ⟨rfl, a9, w9, lg9, le9, hl9, y9⟩ := hv
      refine s63 hgl h9 lg9 (aq.tr a9) w9 (by rw [hgt]; exact y9) (hlg.st le9 (fun _ _ pl hpl => hl9 pl hpl))
    have cdl : ∀ v : Int32, (p.2.2.1 = true → v = gNext xa.1) → cDy (zsI hc 82 9 v) A.1.1 p.2.2.1 (gNext xa.1, xa.2) lg := by
      intro v hv
      obtain ⟨y1, ⟨y2, y3, y4⟩, ⟨y5, y6, y7⟩, y8, y9, y10⟩ := hy
      refine ⟨fun k hk => ?_, ⟨y2, y3, y4⟩, ⟨?_, ?_, ?_⟩, fun z => ?_, ?_, y10⟩
      · rw [zI_sI, if_neg (by omega)]; exact y1 k hk
      · rw [zI_sI, if_neg (by omega)]; exact y5
      · rw [zI_sI, if_neg (by omega)]; exact y6
      · rw [zI_sI, if_neg (by omega)]; exact y7
      · rw [zI_self]; exact hv z
      · rw [zI_sI, if_neg (by omega)]; exact y9
    refine zz_iload_2 C dX8_passDay_38 <| zz_aload_0 C dX8_passDay_39 <| zz_getR C fX8_53 (tX_K_walk hX) (tX_R_wland hX) dX8_passDay_40 <| zz_getI C fX8_106 (tL_K (tX_Le hX)) dX8_passDay_43 <| zpc 46 rfl <| ?_
    rw [hsc.1.1.2.2.1]
    refine zz_icmp_ge C 69 dX8_passDay_46 (by decide) (fun c46 => ?_) (fun c46 => ?_)
    · rw [nI_leI (by omega) (by omega)] at c46
      refine zz_aload_0 C dX8_passDay_69 <| zpc 70 rfl <| ?_
      refine zy_callVV C hR [] (c8_endDay hX he hS hN3 hN11 hrN hsc hd2 (ld := (dGo L A p s x).2.2.2) (fun k hk => by have := gTurns_ld hS s x.2.1.1 x.2.1.2 (x.2.2.1, x.2.2.2.1, (x.2.2.2.2.1.1, x.2.2.2.2.1.2.1, none), fun _ => 0) (fun _ => rfl) L.1.2.1 (Nat.le_refl _) k; have e9 : g = L.1.2.1 := (by omega); refine ⟨?_, by show (gTurns L A p s x.1.1 x.2.1.1 x.2.1.2 L.1.2.1 _).2.2.2 k ≤ 2000; omega⟩; have := hy.1 k hk; rw [hxa, e9] at this; exact this) (Classical.propDecidable _)) lX8_117 rfl (tX_K_walk hX) (by decide) rfl ⟨zle rfl, zle rfl, zle rfl, zle rfl⟩ (zle rfl) dX8_passDay_70 ?_
      intro t9 h9 hv; obtain ⟨rfl, r1, r2, r3⟩ := hv
      refine zy_return C hE (zle rfl) (zle rfl) dX8_passDay_73 ?_
      have e9 : g = L.1.2.1 := by omega
      rw [hxa, e9] at hy
      rw [e9] at hlg
      obtain ⟨y1, y2, y3, y8, y9, y10⟩ := hy
      refine ⟨rfl, ag2.tr (ad.ag.tr ⟨fun i k q => r1 i k (by omega), fun i k _ => r2 i k⟩), ⟨r3, ?_⟩, lg, ?_, y10, hlg⟩
      · exact cTl.eq (fun k => r1 _ _ (by omega)) (fun k => r2 _ _) (r1 _ _ (by omega)) ⟨y2, y3, y8⟩
      · rw [r1 _ _ (by omega)]; exact y9
    · rw [nI_leI (by omega) (by omega)] at c46
      refine zz_aload_0 C dX8_passDay_49 <| zz_iload_2 C dX8_passDay_50 <| zpc 51 rfl <| ?_
      refine zy_callVI C hR [_] (c8_setsOut hX he hS hpx hsc htm hd2 g (by omega)) lX8_109 rfl (tX_K_walk hX) (by decide) rfl ⟨zle rfl, zle rfl, zle rfl, zle rfl⟩ (zle rfl) dX8_passDay_51 ?_
      intro v t9 h9 hv; obtain ⟨rfl, v0, v1, v2⟩ := hv
      refine zz_if_eq C 63 dX8_passDay_54 (by decide) (fun c54 => ?_) (fun c54 => ?_)
      · by_cases hon : gOn L.2.1 x.2.1.1 x.2.1.2 p.1 p.2.1.1 p.2.1.2 g
        · by_cases hlt : gLot p (L.2.1 g 4)
          · obtain ⟨ev, eh⟩ := v2 hon hlt
            have hsd9 := hy.2.2.2.1 hlt.1
            rw [ev, hsd9, zb_eq0] at c54
            rw [eh, hsd9]
            refine s63 (by omega) _ lg (ad.sI (by unfold sg; omega)) (hws.ag (fun i k _ _ _ => by rw [zI_sI, if_neg (by omega)])) ?_ (hlg.st (Nat.le_refl _) (fun z => by rw [hlt.1] at z; cases z))
            unfold gTurn
            rw [if_pos hon, if_pos hlt, if_neg c54]
            exact cdl _ (fun _ => rfl)
          · obtain ⟨ev, eh⟩ := v1 hon hlt
            rw [ev] at c54
            exact absurd c54 (by decide)
        · obtain ⟨ev, eh⟩ := v0 hon
          rw [eh]
          refine s63 (by omega) _ lg ad hws ?_ (hlg.st (Nat.le_refl _) (fun _ z => absurd z hon))
          unfold gTurn
          rw [if_neg hon]
          exact hy
      · by_cases hon : gOn L.2.1 x.2.1.1 x.2.1.2 p.1 p.2.1.1 p.2.1.2 g
        · by_cases hlt : gLot p (L.2.1 g 4)
          · obtain ⟨ev, eh⟩ := v2 hon hlt
            have hsd9 := hy.2.2.2.1 hlt.1
            rw [ev, hsd9, zb_ne0] at c54
            rw [eh, hsd9]
            refine s57 (by omega) _ (gNext xa.1, xa.2) (ad.sI (by unfold sg; omega)) (hws.ag (fun i k _ _ _ => by rw [zI_sI, if_neg (by omega)])) (cdl _ (fun _ => rfl)) hfs ?_
            unfold gTurn
            rw [if_pos hon, if_pos hlt, if_pos c54]
          · obtain ⟨ev, eh⟩ := v1 hon hlt
            rw [eh]
            refine s57 (by omega) _ xa ad hws hy hfs ?_
            unfold gTurn
            rw [if_pos hon, if_neg hlt]
        · obtain ⟨ev, eh⟩ := v0 hon
          exact absurd ev c54
  have lp1 : ∀ (h2 : zH), cAg 73 90 h h2 → cSd h2 e n0 ex L A p x.1.1 x.1.2 x.2.1.1 x.2.1.2 N0 R → cWs h2 L A x.1.1 s → (zL h2 83 0 = lN (x.2.2.2.1.1 + x.2.2.2.1.2.1) ∧ zL h2 83 1 = lN x.2.2.2.1.2.1 ∧ zL h2 83 2 = lN x.2.2.2.1.2.2) → (zI h2 83 3 = nI x.2.2.2.2.1.1 ∧ zI h2 83 4 = nI x.2.2.2.2.1.2.1 ∧ zI h2 83 5 = -1) → (p.2.2.1 = true → zI h2 82 9 = x.2.2.1) → zI h2 83 6 = 0 → ∀ k, k ≤ 11 → ∀ hc : zH, cAd h2 hc → (∀ i k, ¬ i = 86 → zI hc i k = zI h2 i k) → (∀ i k, zL hc i k = zL h2 i k) → (∀ j, j < k → zI hc 86 j = 0) → zAW E b G 3 0 0 14 [some (.ref (b + 73)), some (.int (nI s)), some (.int (nI k))] [] t hc := by
    intro h2 ag2 hs2 hw2 y2 y3 y8 y9
    refine zLoop 11 fun k hk ih hc ad e1 e2 e3 => ?_
    refine zz_iload_2 C dX8_passDay_14 <| zz_aload_0 C dX8_passDay_15 <| zz_getR C fX8_39 (tX_K_walk hX) (tX_R_weights hX) dX8_passDay_16 <| zz_alenI C (tX_K_weights hX) dX8_passDay_19 <| zpc 20 rfl <| ?_
    refine zz_icmp_ge C 36 dX8_passDay_20 (by decide) (fun c20 => ?_) (fun c20 => ?_)
    · rw [show Int32.ofNat 11 = nI 11 from rfl, nI_leI (by omega) (by omega)] at c20
      refine zz_iconst_0 C dX8_passDay_36 <| zz_istore_2 C (zle rfl) rfl dX8_passDay_37 <| zpc 38 rfl <| ?_
      refine lp2 h2 ag2 hs2 0 (by omega) hc 0 ad (hw2.ag (fun i k _ _ _ => e1 i k (by omega))) ⟨fun k hk => ?_, ⟨?_, ?_, ?_⟩, ⟨?_, ?_, ?_⟩, fun z => ?_, ?_, by omega⟩ (fun _ q hq => absurd hq (by omega))
      · rw [e3 k (by omega)]; rfl
      · rw [e2]; exact y2.1
      · rw [e2]; exact y2.2.1
      · rw [e2]; exact y2.2.2
      · rw [e1 _ _ (by omega)]; exact y3.1
      · rw [e1 _ _ (by omega)]; exact y3.2.1
      · rw [e1 _ _ (by omega)]; exact y3.2.2
      · rw [e1 _ _ (by omega)]; exact y8 z
      · rw [e1 _ _ (by omega), y9]; rfl
    · rw [show Int32.ofNat 11 = nI 11 from rfl, nI_leI (by omega) (by omega)] at c20
      refine zz_aload_0 C dX8_passDay_23 <| zz_getR C fX8_39 (tX_K_walk hX) (tX_R_weights hX) dX8_passDay_24 <| zz_iload_2 C dX8_passDay_27 <| zz_iconst_0 C dX8_passDay_28 <| zc_iastore C _ (tX_K_weights hX) (znI (by omega)) (by omega) dX8_passDay_29 <| zz_iinc_2 C _ (zle rfl) rfl dX8_passDay_30 nI_s <| zz_goto C 14 dX8_passDay_33 (by decide) <| zpc 14 rfl <| ?_
      refine ih (by omega) _ (ad.sI (by unfold sg; omega)) (fun i j hi => ?_) e2 (fun j hj => ?_)
      · rw [zI_sI, if_neg (by omega)]; exact e1 i j hi
      · rw [zI_sI]
        by_cases z : j = k
        · rw [if_pos ⟨rfl, z⟩]
        · rw [if_neg (by omega)]; exact e3 j (by omega)
  have ad0 : cAd h (zsI (zsI h 83 5 (-1)) 83 6 0) := ((cAd.rf h).sI (by unfold sg; omega)).sI (by unfold sg; omega)
  have hs0 := hsd.ad ad0 he hng
  obtain ⟨⟨u1, u2, u3⟩, ⟨u4, u5, u6⟩, u7⟩ := hT
  refine zz_aload_0 C dX8_passDay_0 <| zz_getR C fX8_28 (tX_K_walk hX) (tX_R_tally hX) dX8_passDay_1 <| zpc 4 rfl <| ?_
  refine zf_callVV C hR [] (c7_beginDay hX) lX8_101 rfl (tX_K_tally hX) (by decide) rfl ⟨zle rfl, zle rfl, zle rfl, zle rfl⟩ (zle rfl) dX8_passDay_4 ?_
  refine zz_aload_0 C dX8_passDay_7 <| zz_iload_1 C dX8_passDay_8 <| zpc 9 rfl <| ?_
  refine zy_callVV C hR [_] (c8_lookRound hX he hS hs0 s hs) lX8_104 rfl (tX_K_walk hX) (by decide) rfl ⟨zle rfl, zle rfl, zle rfl, zle rfl⟩ (zle rfl) dX8_passDay_9 ?_
  intro t9 h9 hv; obtain ⟨rfl, ag9, hw9⟩ := hv
  refine zz_iconst_0 C dX8_passDay_12 <| zz_istore_2 C (zle rfl) rfl dX8_passDay_13 <| zpc 14 rfl <| ?_
  have rd : ∀ i k, ¬ (74 ≤ i ∧ i ≤ 81) → zI h9 i k = zI (zsI (zsI h 83 5 (-1)) 83 6 0) i k := fun i k hi => ag9.1 i k hi
  refine lp1 h9 (ad0.ag.tr (ag9.wd (by omega) (by omega))) (hs0.ad (.of ag9) he hng) hw9 ⟨?_, ?_, ?_⟩ ⟨?_, ?_, ?_⟩ (fun z => ?_) ?_ 0 (by omega) h9 (cAd.rf _) (fun _ _ _ => rfl) (fun _ _ => rfl) (fun j hj => absurd hj (by omega))
  · rw [ag9.2 _ _ (by omega)]; exact u1
  · rw [ag9.2 _ _ (by omega)]; exact u2
  · rw [ag9.2 _ _ (by omega)]; exact u3
  · rw [rd _ _ (by omega), zI_sI, if_neg (by omega), zI_sI, if_neg (by omega)]; exact u4
  · rw [rd _ _ (by omega), zI_sI, if_neg (by omega), zI_sI, if_neg (by omega)]; exact u5
  · rw [rd _ _ (by omega), zI_sI, if_neg (by omega), zI_self]
  · rw [rd _ _ (by omega), zI_sI, if_neg (by omega), zI_sI, if_neg (by omega)]; exact u7 z
  · rw [rd _ _ (by omega), zI_self]
end CD
