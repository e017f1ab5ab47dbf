/-! ===== the class: Gate ===== -/
/-- what Gate looks at: a land at i without roads that might be, a State at j -/
def cGt (h : zH) (i j : Nat) (L : yL) (A : yN) (w r : Nat → Nat) (day : Nat) : Prop := cLd h i L A.1.1 ∧ cRd h i A.1.1 none A ∧ (∀ k, k < A.1.1 → zI h (j + 1) k = nI (w k) ∧ zI h (j + 2) k = nI (r k)) ∧ zI h j 0 = nI day
theorem cGt.ag {h h' : zH} {i j : Nat} {L : yL} {A : yN} {w r : Nat → Nat} {day : Nat} (a : cAg 84 85 h h') (hi : i + 31 < 84) (hj : 85 < j) (hg : L.1.2.1 ≤ 14) (hm : cGt h i j L A w r day) : cGt h' i j L A w r day := by
  obtain ⟨h1, h2, h3, h4⟩ := hm
  refine ⟨h1.ag a (Or.inl hi) hg, h2.ag a (Or.inl hi), fun k hk => ?_, ?_⟩
  · rw [a.1 _ _ (by omega), a.1 _ _ (by omega)]; exact h3 k hk
  · rw [a.1 _ _ (by omega)]; exact h4
theorem cGt.wr {h : zH} {i j : Nat} {L : yL} {A : yN} {w r : Nat → Nat} {day : Nat} (hN : nOk L.1.1 A.1.1 A.1.2.1 A.2 w) (hm : cGt h i j L A w r day) : cWr h i j A.1.1 A.2 w := by
  refine ⟨⟨hm.1.1.2.1, hm.2.1.1.1⟩, fun k hk => ?_⟩
  have hb := hN.2.2.2.2 k hk
  exact ⟨⟨(hm.2.2.1 k hk).1, by omega⟩, hm.2.1.2 k hk 4 (by omega), by omega⟩
section CG
variable {E : zE} {b : Nat} {G : zG} {t : zT} {h : zH} {l : Launch} {i j s day gone : Nat} {L : yL} {A : yN} {p : yP} {w r : Nat → Nat} {a c e : Nat}
theorem c0_join (hX : zTX t a c e) {P : Nat} (hP : P ≤ 12) {g : Nat → Nat} (hg : ∀ q, q < P → g q < 12) (hm : ∀ q, q < P → zI h 85 q = nI (g q)) (x y : Nat) (hx : x < 12) (hy : y < 12) : zMet E b l yX0_join cX0_join 5 none 1 0 0 [.ref (b + 84), .int (nI P), .int (nI x), .int (nI y)] t h (qV (fun t' h' => t' = t ∧ cAg 84 85 h h' ∧ ∀ q, q < P → zI h' 85 q = nI (gJoin g x y q))) := by
  refine zMet.of (ls := [some (.ref (b + 84)), some (.int (nI P)), some (.int (nI x)), some (.int (nI y)), none]) (by decide) (zle rfl) 1 rfl ?_
  intro G hlG C hR hE hin
  have lp : ∀ k, k ≤ P → ∀ hc : zH, cAg 84 85 h hc → (∀ q, q < k → zI hc 85 q = nI (gJoin g x y q)) → (∀ q, k ≤ q → q < P → zI hc 85 q = nI (g q)) → zAW E b G 5 0 0 3 [some (.ref (b + 84)), some (.int (nI P)), some (.int (nI x)), some (.int (nI y)), some (.int (nI k))] [] t hc := by
    refine zLoop P fun k hk ih hc ag h1 h2 => ?_
    refine zz_iload_4 C dX0_join_3 <| zz_iload_1 C dX0_join_5 <| zpc 6 rfl <| ?_
    refine zz_icmp_ge C 34 dX0_join_6 (by decide) (fun c6 => ?_) (fun c6 => ?_)
    · rw [nI_leI (by omega) (by omega)] at c6
      refine zy_return C hE (zle rfl) (zle rfl) dX0_join_34 ?_
      exact ⟨rfl, ag, fun q hq => h1 q (by omega)⟩
    · rw [nI_leI (by omega) (by omega)] at c6
      refine zz_aload_0 C dX0_join_9 <| zz_getR C fX0_9 (tX_K_gate hX) (tX_R_group hX) dX0_join_10 <| zz_iload_4 C dX0_join_13 <| zc_iaload C _ (tX_K_group hX) (znI (by omega)) (by omega) dX0_join_15 <| zpc 16 rfl <| ?_
      rw [h2 k (by omega) (by omega)]
      refine zz_iload_3 C dX0_join_16 <| zpc 17 rfl <| ?_
      refine zz_icmp_ne C 28 dX0_join_17 (by decide) (fun c17 => ?_) (fun c17 => ?_)
      · rw [nI_eq (by have := hg k (by omega); omega) (by omega)] at c17
        refine zz_iinc_4 C _ (zle rfl) rfl dX0_join_28 nI_s <| zz_goto C 3 dX0_join_31 (by decide) <| zpc 3 rfl <| ?_
        first
        | (refine ih (by omega) hc ag (fun q hq => ?_) (fun q hq hq2 => h2 q (by omega) hq2)
           by_cases z : q = k
           · subst z; unfold gJoin; rw [if_neg c17]; exact h2 q (by omega) (by omega)
           · exact h1 q (by omega))
        | (refine ih (by omega) _ (ag.sI (by omega) (by omega)) (fun q hq => ?_) (fun q hq hq2 => ?_)
           · rw [zI_sI]
             by_cases z : q = k
             · subst z; rw [if_pos ⟨rfl, rfl⟩]; unfold gJoin; rw [if_pos c17]
             · rw [if_neg (by omega)]; exact h1 q (by omega)
           · rw [zI_sI, if_neg (by omega)]; exact h2 q (by omega) hq2)
      · rw [nI_eq (by have := hg k (by omega); omega) (by omega)] at c17
        refine zz_aload_0 C dX0_join_20 <| zz_getR C fX0_9 (tX_K_gate hX) (tX_R_group hX) dX0_join_21 <| zz_iload_4 C dX0_join_24 <| zz_iload_2 C dX0_join_26 <| zc_iastore C _ (tX_K_group hX) (znI (by omega)) (by omega) dX0_join_27 <| zz_iinc_4 C _ (zle rfl) rfl dX0_join_28 nI_s <| zz_goto C 3 dX0_join_31 (by decide) <| zpc 3 rfl <| ?_
        first
        | (refine ih (by omega) hc ag (fun q hq => ?_) (fun q hq hq2 => h2 q (by omega) hq2)
           by_cases z : q = k
           · subst z; unfold gJoin; rw [if_neg c17]; exact h2 q (by omega) (by omega)
           · exact h1 q (by omega))
        | (refine ih (by omega) _ (ag.sI (by omega) (by omega)) (fun q hq => ?_) (fun q hq hq2 => ?_)
           · rw [zI_sI]
             by_cases z : q = k
             · subst z; rw [if_pos ⟨rfl, rfl⟩]; unfold gJoin; rw [if_pos c17]
             · rw [if_neg (by omega)]; exact h1 q (by omega)
           · rw [zI_sI, if_neg (by omega)]; exact h2 q (by omega) hq2)
  refine zz_iconst_0 C dX0_join_0 <| zz_istore_4 C (zle rfl) rfl dX0_join_1 <| zpc 3 rfl <| ?_
  exact lp 0 (by omega) h (cAg.rf h) (fun q hq => absurd hq (by omega)) (fun q _ hq => hm q hq)
theorem c0_group (hX : zTX t a c e) (hL : zTL t i) (hS : zTS t j) (hi : i + 31 < 84) (hj : 85 < j) (hO : lOkL L) (hN : nOk L.1.1 A.1.1 A.1.2.1 A.2 w) (hm : cGt h i j L A w r day) (hs : s < 2 ^ 31) : zMet E b l yX0_groupPlaces cX0_groupPlaces 6 none 2 0 0 [.ref (b + 84), .ref (b + i), .ref (b + j), .int (nI s)] t h (qV (fun t' h' => t' = t ∧ cAg 84 85 h h' ∧ ∃ g, gpOk L.1.1 A.1.1 A.1.2.1 s A.2 w g A.1.1 ∧ ∀ q, q < L.1.1 → zI h' 85 q = nI (g q))) := by
  have hP := hN.2.1
  have hn := hm.2.1.1.1
  have hng := hO.2.2.1
  refine zMet.of (ls := [some (.ref (b + 84)), some (.ref (b + i)), some (.ref (b + j)), some (.int (nI s)), none, none]) (by decide) (zle rfl) 2 rfl ?_
  intro G hlG C hR hE hin
  have lp : ∀ k, k ≤ A.1.1 → ∀ (hc : zH) (g : Nat → Nat) (x5 : Option Value), cAg 84 85 h hc → gpOk L.1.1 A.1.1 A.1.2.1 s A.2 w g k → (∀ q, q < L.1.1 → zI hc 85 q = nI (g q)) → zAW E b G 6 0 0 30 [some (.ref (b + 84)), some (.ref (b + i)), some (.ref (b + j)), some (.int (nI s)), some (.int (nI k)), x5] [] t hc := by
    refine zLoop A.1.1 fun k hk ih hc g x5 ag hg hgm => ?_
    have hmc := hm.ag ag hi hj hng
    refine zz_iload_4 C dX0_groupPlaces_30 <| zz_aload_1 C dX0_groupPlaces_32 <| zz_getI C fX0_15 (tL_K hL) dX0_groupPlaces_33 <| zpc 36 rfl <| ?_
    rw [hmc.1.1.2.1]
    refine zz_icmp_ge C 99 dX0_groupPlaces_36 (by decide) (fun c36 => ?_) (fun c36 => ?_)
    · rw [nI_leI (by omega) (by omega)] at c36
      refine zy_return C hE (zle rfl) (zle rfl) dX0_groupPlaces_99 ?_
      refine ⟨rfl, ag, g, ?_, hgm⟩
      rw [show k = A.1.1 by omega] at hg; exact hg
    · rw [nI_leI (by omega) (by omega)] at c36
      refine zz_iload_3 C dX0_groupPlaces_39 <| zz_iload_4 C dX0_groupPlaces_40 <| zz_ishr C dX0_groupPlaces_42 <| zz_iconst_1 C dX0_groupPlaces_43 <| zz_iand C dX0_groupPlaces_44 <| zpc 45 rfl <| ?_
      rw [zbit hs (by omega)]
      refine zz_if_ne C 93 dX0_groupPlaces_45 (by decide) (fun c45 => ?_) (fun c45 => ?_)
      · rw [show (0 : Int32) = nI 0 from rfl, nI_eq (by omega) (by omega)] at c45
        refine zz_iinc_4 C _ (zle rfl) rfl dX0_groupPlaces_93 nI_s <| zz_goto C 30 dX0_groupPlaces_96 (by decide) <| zpc 30 rfl <| ?_
        first
        | exact ih (by omega) hc g _ ag (gpOk_skip hg (fun z => c45 z.1)) hgm
        | exact ih (by omega) hc g _ ag (gpOk_skip hg (fun z => by have := z.2; omega)) hgm
        | exact ih (by omega) _ _ _ (ag.tr ag9) (gpOk_join hN hg (by omega) ⟨c45, by omega⟩) hg9
      · rw [show (0 : Int32) = nI 0 from rfl, nI_eq (by omega) (by omega)] at c45
        refine zz_aload_2 C dX0_groupPlaces_48 <| zz_aload_1 C dX0_groupPlaces_49 <| zz_iload_4 C dX0_groupPlaces_50 <| zpc 52 rfl <| ?_
        refine zf_callVI C hR [_, _] (c6_isPastUse hS hL (hmc.wr hN) k (by omega)) lX0_57 rfl (tS_K hS) (by decide) rfl ⟨zle rfl, zle rfl, zle rfl, zle rfl⟩ (zle rfl) dX0_groupPlaces_52 ?_
        refine zz_if_ne C 93 dX0_groupPlaces_55 (by decide) (fun c55 => ?_) (fun c55 => ?_)
        · first | rw [zb_ne0] at c55 | rw [zb_eq0] at c55
          refine zz_iinc_4 C _ (zle rfl) rfl dX0_groupPlaces_93 nI_s <| zz_goto C 30 dX0_groupPlaces_96 (by decide) <| zpc 30 rfl <| ?_
          first
          | exact ih (by omega) hc g _ ag (gpOk_skip hg (fun z => c45 z.1)) hgm
          | exact ih (by omega) hc g _ ag (gpOk_skip hg (fun z => by have := z.2; omega)) hgm
          | exact ih (by omega) _ _ _ (ag.tr ag9) (gpOk_join hN hg (by omega) ⟨c45, by omega⟩) hg9
        · first | rw [zb_ne0] at c55 | rw [zb_eq0] at c55
          have hb := hN.2.2.2.2 k (by omega)
          have f0 : zI hc (i + 1 + 1 + k) 0 = nI (A.2 k 0) := hmc.2.1.2 k (by omega) 0 (by omega)
          have f1 : zI hc (i + 1 + 1 + k) 1 = nI (A.2 k 1) := hmc.2.1.2 k (by omega) 1 (by omega)
          have g0 := hg.1 (A.2 k 0) (by omega)
          have g1 := hg.1 (A.2 k 1) (by omega)
          refine zz_aload_1 C dX0_groupPlaces_58 <| zz_getR C fX0_26 (tL_K hL) (tL_R_roadFacts hL) dX0_groupPlaces_59 <| zz_iload_4 C dX0_groupPlaces_62 <| zc_row C _ (tL_K_roadFacts hL) (tL_row_roadFacts hL) (znI (by omega)) (by omega) dX0_groupPlaces_64 <| fun r64 => ?_
          refine zz_astore_5 C (zle rfl) rfl dX0_groupPlaces_65 <| zz_aload_0 C dX0_groupPlaces_67 <| zz_aload_1 C dX0_groupPlaces_68 <| zz_getI C fX0_54 (tL_K hL) dX0_groupPlaces_69 <| zpc 72 rfl <| ?_
          rw [hmc.1.1.1]
          refine zz_aload_0 C dX0_groupPlaces_72 <| zz_getR C fX0_9 (tX_K_gate hX) (tX_R_group hX) dX0_groupPlaces_73 <| zz_aload_5 C dX0_groupPlaces_76 <| zz_iconst_0 C dX0_groupPlaces_78 <| zc_iaload C 0 (tL_KR_roadFacts hL _ r64) (zlit _ (by decide)) (by decide) dX0_groupPlaces_79 <| zpc 80 rfl <| ?_
          rw [f0]
          refine zc_iaload C _ (tX_K_group hX) (znI (by omega)) (by omega) dX0_groupPlaces_80 <| zpc 81 rfl <| ?_
          rw [hgm _ (by omega)]
          refine zz_aload_0 C dX0_groupPlaces_81 <| zz_getR C fX0_9 (tX_K_gate hX) (tX_R_group hX) dX0_groupPlaces_82 <| zz_aload_5 C dX0_groupPlaces_85 <| zz_iconst_1 C dX0_groupPlaces_87 <| zc_iaload C 1 (tL_KR_roadFacts hL _ r64) (zlit _ (by decide)) (by decide) dX0_groupPlaces_88 <| zpc 89 rfl <| ?_
          rw [f1]
          refine zc_iaload C _ (tX_K_group hX) (znI (by omega)) (by omega) dX0_groupPlaces_89 <| zpc 90 rfl <| ?_
          rw [hgm _ (by omega)]
          refine zy_callVV C hR [_, _, _] (c0_join hX hP (fun q hq => by have := hg.1 q hq; omega) hgm _ _ (by omega) (by omega)) lX0_61 rfl (tX_K_gate hX) (by decide) rfl ⟨zle rfl, zle rfl, zle rfl, zle rfl⟩ (zle rfl) dX0_groupPlaces_90 ?_
          intro t9 h9 hv; obtain ⟨rfl, ag9, hg9⟩ := hv
          refine zz_iinc_4 C _ (zle rfl) rfl dX0_groupPlaces_93 nI_s <| zz_goto C 30 dX0_groupPlaces_96 (by decide) <| zpc 30 rfl <| ?_
          first
          | exact ih (by omega) hc g _ ag (gpOk_skip hg (fun z => c45 z.1)) hgm
          | exact ih (by omega) hc g _ ag (gpOk_skip hg (fun z => by have := z.2; omega)) hgm
          | exact ih (by omega) _ _ _ (ag.tr ag9) (gpOk_join hN hg (by omega) ⟨c45, by omega⟩) hg9
  have lp0 : ∀ k, k ≤ L.1.1 → ∀ hc : zH, cAg 84 85 h hc → (∀ q, q < k → zI hc 85 q = nI q) → zAW E b G 6 0 0 3 [some (.ref (b + 84)), some (.ref (b + i)), some (.ref (b + j)), some (.int (nI s)), some (.int (nI k)), none] [] t hc := by
    refine zLoop L.1.1 fun k hk ih hc ag h1 => ?_
    have hmc := hm.ag ag hi hj hng
    refine zz_iload_4 C dX0_groupPlaces_3 <| zz_aload_1 C dX0_groupPlaces_5 <| zz_getI C fX0_54 (tL_K hL) dX0_groupPlaces_6 <| zpc 9 rfl <| ?_
    rw [hmc.1.1.1]
    refine zz_icmp_ge C 27 dX0_groupPlaces_9 (by decide) (fun c9 => ?_) (fun c9 => ?_)
    · rw [nI_leI (by omega) (by omega)] at c9
      refine zz_iconst_0 C dX0_groupPlaces_27 <| zz_istore_4 C (zle rfl) rfl dX0_groupPlaces_28 <| zpc 30 rfl <| ?_
      exact lp 0 (by omega) hc _ _ ag (gpOk_0 _ _ _ _ _ _) (fun q hq => h1 q (by omega))
    · rw [nI_leI (by omega) (by omega)] at c9
      refine zz_aload_0 C dX0_groupPlaces_12 <| zz_getR C fX0_9 (tX_K_gate hX) (tX_R_group hX) dX0_groupPlaces_13 <| zz_iload_4 C dX0_groupPlaces_16 <| zz_iload_4 C dX0_groupPlaces_18 <| zc_iastore C _ (tX_K_group hX) (znI (by omega)) (by omega) dX0_groupPlaces_20 <| zz_iinc_4 C _ (zle rfl) rfl dX0_groupPlaces_21 nI_s <| zz_goto C 3 dX0_groupPlaces_24 (by decide) <| zpc 3 rfl <| ?_
      refine ih (by omega) _ (ag.sI (by omega) (by omega)) (fun q hq => ?_)
      rw [zI_sI]
      by_cases z : q = k
      · subst z; rw [if_pos ⟨rfl, rfl⟩]
      · rw [if_neg (by omega)]; exact h1 q (by omega)
  refine zz_iconst_0 C dX0_groupPlaces_0 <| zz_istore_4 C (zle rfl) rfl dX0_groupPlaces_1 <| zpc 3 rfl <| ?_
  exact lp0 0 (by omega) h (cAg.rf h) (fun q hq => absurd hq (by omega))
theorem rAll_plain {L : yL} {A : yN} {p : yP} {w : Nat → Nat} {day gone s : Nat} (h1 : p.1 = none) (h2 : p.2.1.1 = none) : rAll L A p w day gone s ↔ ∀ g, g < L.1.2.1 → gBit (L.2.1 g 2) day → (nWay L.1.1 A.1.1 A.1.2.1 s A.2 w (L.2.1 g 0) (L.2.1 g 1)).isSome = true := by
  have key : ∀ g, gOn L.2.1 day gone p.1 p.2.1.1 p.2.1.2 g ↔ gBit (L.2.1 g 2) day := fun g => by
    unfold gOn
    rw [h1, h2, if_neg (fun q => by cases q)]
    exact ⟨fun q => q.2, fun q => ⟨(fun z => by cases z), q⟩⟩
  constructor
  · intro q g hg hb; exact q g hg ((key g).mpr hb)
  · intro q g hg hb; exact q g hg ((key g).mp hb)
theorem c0_all (hX : zTX t a c e) (hL : zTL t i) (hS : zTS t j) (hi : i + 31 < 84) (hj : 85 < j) (hO : lOkL L) (hN : nOk L.1.1 A.1.1 A.1.2.1 A.2 w) (hm : cGt h i j L A w r day) (hd : day < 2 ^ 31) (hp1 : p.1 = none) (hp2 : p.2.1.1 = none) (s : Nat) (hs : s < 2 ^ 31) : zMet E b l yX0_allGetThrough cX0_allGetThrough 6 (some .boolean) 3 0 0 [.ref (b + 84), .ref (b + i), .ref (b + j), .int (nI s)] t h (qI (fun v t' h' => t' = t ∧ cAg 84 85 h h' ∧ (rAll L A p w day gone s → v = 1) ∧ (¬ rAll L A p w day gone s → v = 0))) := by
  have hP := hN.2.1
  have hng := hO.2.2.1
  rw [rAll_plain hp1 hp2]
  refine zMet.of (ls := [some (.ref (b + 84)), some (.ref (b + i)), some (.ref (b + j)), some (.int (nI s)), none, none]) (by decide) (zle rfl) 2 rfl ?_
  intro G hlG C hR hE hin
  have lp : ∀ (h1 : zH) (gr : Nat → Nat), cAg 84 85 h h1 → gpOk L.1.1 A.1.1 A.1.2.1 s A.2 w gr A.1.1 → (∀ q, q < L.1.1 → zI h1 85 q = nI (gr q)) → ∀ g, g ≤ L.1.2.1 → (∀ q, q < g → gBit (L.2.1 q 2) day → (nWay L.1.1 A.1.1 A.1.2.1 s A.2 w (L.2.1 q 0) (L.2.1 q 1)).isSome = true) → ∀ x5 : Option Value, zAW E b G 6 0 0 10 [some (.ref (b + 84)), some (.ref (b + i)), some (.ref (b + j)), some (.int (nI s)), some (.int (nI g)), x5] [] t h1 := by
    intro h1 gr ag hgo hgm
    have hmc := hm.ag ag hi hj hng
    refine zLoop L.1.2.1 fun g hg ih hno x5 => ?_
    refine zz_iload_4 C dX0_allGetThrough_10 <| zz_aload_1 C dX0_allGetThrough_12 <| zz_getI C fX0_41 (tL_K hL) dX0_allGetThrough_13 <| zpc 16 rfl <| ?_
    rw [hmc.1.1.2.2.1]
    refine zz_icmp_ge C 70 dX0_allGetThrough_16 (by decide) (fun c16 => ?_) (fun c16 => ?_)
    · rw [nI_leI (by omega) (by omega)] at c16
      refine zz_iconst_1 C dX0_allGetThrough_70 <| zpc 71 rfl <| ?_
      refine zy_zreturn C hE (zle rfl) (zle rfl) dX0_allGetThrough_71 (by decide) ?_
      exact ⟨rfl, ag, fun _ => rfl, fun z => absurd (fun q hq => hno q (by omega)) z⟩
    · rw [nI_leI (by omega) (by omega)] at c16
      refine zz_aload_1 C dX0_allGetThrough_19 <| zz_getR C fX0_44 (tL_K hL) (tL_R_goingFacts hL) dX0_allGetThrough_20 <| zz_iload_4 C dX0_allGetThrough_23 <| zc_row C _ (tL_K_goingFacts hL) (tL_row_goingFacts hL) (znI (by omega)) (by omega) dX0_allGetThrough_25 <| fun r25 => ?_
      have hGg := hO.2.2.2.2.1 g (by omega)
      have f0 := hmc.1.2.1 g (by omega) 0 (by omega)
      have f1 := hmc.1.2.1 g (by omega) 1 (by omega)
      have w1 := gpOk_way hN hgo (fr := L.2.1 g 0) (to := L.2.1 g 1) hGg.1 hGg.2.1
      have b0 := hgo.1 _ hGg.1
      have b1 := hgo.1 _ hGg.2.1
      refine zz_astore_5 C (zle rfl) rfl dX0_allGetThrough_26 <| zz_aload_1 C dX0_allGetThrough_28 <| zz_iload_4 C dX0_allGetThrough_29 <| zz_aload_2 C dX0_allGetThrough_31 <| zz_getI C fX0_47 (tS_K hS) dX0_allGetThrough_32 <| zpc 35 rfl <| ?_
      rw [hmc.2.2.2]
      refine zf_callVI C hR [_, _] (c1_goesOn hL hO hmc.1 hd g (by omega)) lX0_50 rfl (tL_K hL) (by decide) rfl ⟨zle rfl, zle rfl, zle rfl, zle rfl⟩ (zle rfl) dX0_allGetThrough_35 ?_
      refine zz_if_eq C 64 dX0_allGetThrough_38 (by decide) (fun c38 => ?_) (fun c38 => ?_)
      · first | rw [zb_ne0] at c38 | rw [zb_eq0] at c38
        refine zz_iinc_4 C _ (zle rfl) rfl dX0_allGetThrough_64 nI_s <| zz_goto C 10 dX0_allGetThrough_67 (by decide) <| zpc 10 rfl <| ?_
        refine ih (by omega) (fun q hq hb => ?_) _
        by_cases z : q = g
        · subst z
          first
            | exact absurd hb c38
            | exact w1.mpr c59
        · exact hno q (by omega) hb
      · first | rw [zb_ne0] at c38 | rw [zb_eq0] at c38
        refine zz_aload_0 C dX0_allGetThrough_41 <| zz_getR C fX0_9 (tX_K_gate hX) (tX_R_group hX) dX0_allGetThrough_42 <| zz_aload_5 C dX0_allGetThrough_45 <| zz_iconst_0 C dX0_allGetThrough_47 <| zc_iaload C 0 (tL_KR_goingFacts hL _ r25) (zlit _ (by decide)) (by decide) dX0_allGetThrough_48 <| zpc 49 rfl <| ?_
        rw [f0]
        refine zc_iaload C _ (tX_K_group hX) (znI (by omega)) (by omega) dX0_allGetThrough_49 <| zpc 50 rfl <| ?_
        rw [hgm _ hGg.1]
        refine zz_aload_0 C dX0_allGetThrough_50 <| zz_getR C fX0_9 (tX_K_gate hX) (tX_R_group hX) dX0_allGetThrough_51 <| zz_aload_5 C dX0_allGetThrough_54 <| zz_iconst_1 C dX0_allGetThrough_56 <| zc_iaload C 1 (tL_KR_goingFacts hL _ r25) (zlit _ (by decide)) (by decide) dX0_allGetThrough_57 <| zpc 58 rfl <| ?_
        rw [f1]
        refine zc_iaload C _ (tX_K_group hX) (znI (by omega)) (by omega) dX0_allGetThrough_58 <| zpc 59 rfl <| ?_
        rw [hgm _ hGg.2.1]
        refine zz_icmp_eq C 64 dX0_allGetThrough_59 (by decide) (fun c59 => ?_) (fun c59 => ?_)
        · rw [nI_eq (by omega) (by omega)] at c59
          refine zz_iinc_4 C _ (zle rfl) rfl dX0_allGetThrough_64 nI_s <| zz_goto C 10 dX0_allGetThrough_67 (by decide) <| zpc 10 rfl <| ?_
          refine ih (by omega) (fun q hq hb => ?_) _
          by_cases z : q = g
          · subst z
            first
              | exact absurd hb c38
              | exact w1.mpr c59
          · exact hno q (by omega) hb
        · rw [nI_eq (by omega) (by omega)] at c59
          refine zz_iconst_0 C dX0_allGetThrough_62 <| zpc 63 rfl <| ?_
          refine zy_zreturn C hE (zle rfl) (zle rfl) dX0_allGetThrough_63 (by decide) ?_
          exact ⟨rfl, ag, fun z => absurd (w1.mp (z g (by omega) c38)) c59, fun _ => rfl⟩
  refine zz_aload_0 C dX0_allGetThrough_0 <| zz_aload_1 C dX0_allGetThrough_1 <| zz_aload_2 C dX0_allGetThrough_2 <| zz_iload_3 C dX0_allGetThrough_3 <| zpc 4 rfl <| ?_
  refine zy_callVV C hR [_, _, _] (c0_group hX hL hS hi hj hO hN hm hs) lX0_37 rfl (tX_K_gate hX) (by decide) rfl ⟨zle rfl, zle rfl, zle rfl, zle rfl⟩ (zle rfl) dX0_allGetThrough_4 ?_
  intro t' h' hv; obtain ⟨rfl, ag, gr, hgo, hgm⟩ := hv
  refine zz_iconst_0 C dX0_allGetThrough_7 <| zz_istore_4 C (zle rfl) rfl dX0_allGetThrough_8 <| zpc 10 rfl <| ?_
  exact lp _ gr ag hgo hgm 0 (by omega) (fun q hq => absurd hq (by omega)) _
theorem c0_worst (hX : zTX t a c e) (hL : zTL t i) (hS : zTS t j) (hi : i + 31 < 84) (hj : 85 < j) (hO : lOkL L) (hN : nOk L.1.1 A.1.1 A.1.2.1 A.2 w) (hm : cGt h i j L A w r day) (hd : day < 2 ^ 31) (hp1 : p.1 = none) (hp2 : p.2.1.1 = none) {R : Nat × (Nat → Nat)} {x : yS} (hxw : x.1.1 = w) (hxt : x.2.1 = (day, gone)) : zMet E b l yX0_shutWorst cX0_shutWorst 6 (some .int) 4 0 0 [.ref (b + 84), .ref (b + i), .ref (b + j)] t h (qI (fun v t' h' => t' = t ∧ cAg 84 85 h h' ∧ v = nI (rShut L A p R x 2))) := by
  have hn := hm.2.1.1.1
  have hsh : rShut L A p R x 2 = match rWst A.2 w A.1.1 with
    | none => 0
    | some k => @ite _ (rAll L A p w day gone (2 ^ k)) (Classical.propDecidable _) (2 ^ k) 0 := by
    unfold rShut
    rw [hxw, hxt]
    rfl
  refine zMet.of (ls := [some (.ref (b + 84)), some (.ref (b + i)), some (.ref (b + j)), none, none, none]) (by decide) (zle rfl) 3 rfl ?_
  intro G hlG C hR hE hin
  have s77 : ∀ x4 x5 : Option Value, zAW E b G 6 0 0 77 [some (.ref (b + 84)), some (.ref (b + i)), some (.ref (b + j)), some (.int (oI (rWst A.2 w A.1.1))), x4, x5] [] t h := by
    intro x4 x5
    have hlt : ∀ k, rWst A.2 w A.1.1 = some k → k < A.1.1 := fun k q => rWst_lt q
    revert hsh hlt
    generalize rWst A.2 w A.1.1 = o
    intro hsh hlt
    cases o with
    | none =>
      refine zz_iload_3 C dX0_shutWorst_77 <| zz_iconst_m1 C dX0_shutWorst_78 <| zpc 79 rfl <| ?_
      refine zz_icmp_eq C 100 dX0_shutWorst_79 (by decide) (fun c79 => ?_) (fun c79 => ?_)
      · refine zz_iconst_0 C dX0_shutWorst_100 <| zpc 101 rfl <| ?_
        refine zy_ireturn C hE (zle rfl) (zle rfl) dX0_shutWorst_101 ?_
        rw [hsh]; exact ⟨rfl, cAg.rf h, rfl⟩
      · exact absurd rfl c79
    | some k =>
      have hk := hlt k rfl
      have hpow : 2 ^ k ≤ 2 ^ 10 := Nat.pow_le_pow_right (by decide) (by omega)
      have hne : ¬ oI (some k) = -1 := fun q => by have := (oI_n1 (o := some k) (fun y hy => by cases hy; omega)).mp q; cases this
      have e1 : (1 : Int32) <<< (oI (some k) &&& 31) = nI (2 ^ k) := zshl1 (by omega)
      refine zz_iload_3 C dX0_shutWorst_77 <| zz_iconst_m1 C dX0_shutWorst_78 <| zpc 79 rfl <| ?_
      refine zz_icmp_eq C 100 dX0_shutWorst_79 (by decide) (fun c79 => ?_) (fun c79 => ?_)
      · exact absurd c79 hne
      · refine zz_aload_0 C dX0_shutWorst_82 <| zz_aload_1 C dX0_shutWorst_83 <| zz_aload_2 C dX0_shutWorst_84 <| zz_iconst_1 C dX0_shutWorst_85 <| zz_iload_3 C dX0_shutWorst_86 <| zz_ishl C dX0_shutWorst_87 <| zpc 88 rfl <| ?_
        rw [e1]
        refine zy_callVI C hR [_, _, _] (c0_all (p := p) (gone := gone) hX hL hS hi hj hO hN hm hd hp1 hp2 (2 ^ k) (by omega)) lX0_30 rfl (tX_K_gate hX) (by decide) rfl ⟨zle rfl, zle rfl, zle rfl, zle rfl⟩ (zle rfl) dX0_shutWorst_88 ?_
        intro v t' h' hv; obtain ⟨rfl, ag, v1, v0⟩ := hv
        refine zz_if_eq C 100 dX0_shutWorst_91 (by decide) (fun c91 => ?_) (fun c91 => ?_)
        · refine zz_iconst_0 C dX0_shutWorst_100 <| zpc 101 rfl <| ?_
          refine zy_ireturn C hE (zle rfl) (zle rfl) dX0_shutWorst_101 ?_
          rw [hsh]
          first
            | (refine ⟨rfl, ag, ?_⟩
               have hno : ¬ rAll L A p w day gone (2 ^ k) := fun z => by rw [v1 z] at c91; exact absurd c91 (by decide)
               dsimp only
               rw [if_neg hno]; rfl)
            | (refine ⟨rfl, ag, ?_⟩
               have hyes : rAll L A p w day gone (2 ^ k) := Classical.byContradiction fun z => c91 (v0 z)
               dsimp only
               rw [if_pos hyes]; exact e1)
        · refine zz_iconst_1 C dX0_shutWorst_94 <| zz_iload_3 C dX0_shutWorst_95 <| zz_ishl C dX0_shutWorst_96 <| zz_goto C 101 dX0_shutWorst_97 (by decide) <| zpc 101 rfl <| ?_
          refine zy_ireturn C hE (zle rfl) (zle rfl) dX0_shutWorst_101 ?_
          rw [hsh]
          first
            | (refine ⟨rfl, ag, ?_⟩
               have hno : ¬ rAll L A p w day gone (2 ^ k) := fun z => by rw [v1 z] at c91; exact absurd c91 (by decide)
               dsimp only
               rw [if_neg hno]; rfl)
            | (refine ⟨rfl, ag, ?_⟩
               have hyes : rAll L A p w day gone (2 ^ k) := Classical.byContradiction fun z => c91 (v0 z)
               dsimp only
               rw [if_pos hyes]; exact e1)
  have lp : ∀ k, k ≤ A.1.1 → ∀ x5 : Option Value, zAW E b G 6 0 0 5 [some (.ref (b + 84)), some (.ref (b + i)), some (.ref (b + j)), some (.int (oI (rWst A.2 w k))), some (.int (nI k)), x5] [] t h := by
    refine zLoop A.1.1 fun k hk ih x5 => ?_
    by_cases hkn : k < A.1.1
    · have hb := hN.2.2.2.2 k hkn
      have hwk := (hm.2.2.1 k hkn).1
      have hf4 : zI h (i + 1 + 1 + k) 4 = nI (A.2 k 4) := hm.2.1.2 k hkn 4 (by omega)
      have ihk := ih hkn
      have hlt : ∀ q, rWst A.2 w k = some q → q < k := fun q z => rWst_lt z
      rw [show rWst A.2 w (k + 1) = if 2 * w k ≤ A.2 k 4 then rWst A.2 w k else match rWst A.2 w k with
        | none => some k
        | some j => if w k ≤ w j then some j else some k from rfl] at ihk
      revert ihk hlt
      generalize rWst A.2 w k = o
      intro ihk hlt
      cases o with
      | none =>
        refine zz_iload_4 C dX0_shutWorst_5 <| zz_aload_1 C dX0_shutWorst_7 <| zz_getI C fX0_15 (tL_K hL) dX0_shutWorst_8 <| zpc 11 rfl <| ?_
        rw [hm.1.1.2.1]
        refine zz_icmp_ge C 77 dX0_shutWorst_11 (by decide) (fun c11 => ?_) (fun c11 => ?_)
        · rw [nI_leI (by omega) (by omega)] at c11
          omega
        · rw [nI_leI (by omega) (by omega)] at c11
          refine zz_iconst_2 C dX0_shutWorst_14 <| zz_aload_2 C dX0_shutWorst_15 <| zz_getR C fX0_21 (tS_K hS) (tS_R_wear hS) dX0_shutWorst_16 <| zz_iload_4 C dX0_shutWorst_19 <| zc_iaload C _ (tS_K_wear hS) (znI (by omega)) (by omega) dX0_shutWorst_21 <| zpc 22 rfl <| ?_
          rw [hwk]
          refine zz_imul C dX0_shutWorst_22 <| zpc 23 rfl <| ?_
          rw [show (2 : Int32) = nI 2 from rfl, pk_mul]
          refine zz_aload_1 C dX0_shutWorst_23 <| zz_getR C fX0_26 (tL_K hL) (tL_R_roadFacts hL) dX0_shutWorst_24 <| zz_iload_4 C dX0_shutWorst_27 <| zc_row C _ (tL_K_roadFacts hL) (tL_row_roadFacts hL) (znI (by omega)) (by omega) dX0_shutWorst_29 <| fun r29 => ?_
          refine zz_iconst_4 C dX0_shutWorst_30 <| zc_iaload C 4 (tL_KR_roadFacts hL _ r29) (zlit _ (by decide)) (by decide) dX0_shutWorst_31 <| zpc 32 rfl <| ?_
          rw [hf4]
          refine zz_icmp_le C 39 dX0_shutWorst_32 (by decide) (fun c32 => ?_) (fun c32 => ?_)
          · rw [nI_leI (by omega) (by omega)] at c32
            refine zz_iconst_0 C dX0_shutWorst_39 <| zz_istore_5 C (zle rfl) rfl dX0_shutWorst_40 <| zz_iload_5 C dX0_shutWorst_42 <| zpc 44 rfl <| ?_
            refine zz_if_eq C 71 dX0_shutWorst_44 (by decide) (fun c44 => ?_) (fun c44 => ?_)
            · refine zz_iinc_4 C _ (zle rfl) rfl dX0_shutWorst_71 nI_s <| zz_goto C 5 dX0_shutWorst_74 (by decide) <| zpc 5 rfl <| ?_
              first
              | (rw [if_pos c32] at ihk; exact ihk _)
              | (rw [if_neg c32] at ihk; exact ihk _)
            · exact absurd (by decide) c44
          · rw [nI_leI (by omega) (by omega)] at c32
            refine zz_iconst_1 C dX0_shutWorst_35 <| zz_goto C 40 dX0_shutWorst_36 (by decide) <| zz_istore_5 C (zle rfl) rfl dX0_shutWorst_40 <| zz_iload_5 C dX0_shutWorst_42 <| zpc 44 rfl <| ?_
            refine zz_if_eq C 71 dX0_shutWorst_44 (by decide) (fun c44 => ?_) (fun c44 => ?_)
            · exact absurd c44 (by decide)
            · refine zz_iload_3 C dX0_shutWorst_47 <| zz_iconst_m1 C dX0_shutWorst_48 <| zpc 49 rfl <| ?_
              refine zz_icmp_eq C 68 dX0_shutWorst_49 (by decide) (fun c49 => ?_) (fun c49 => ?_)
              · refine zz_iload_4 C dX0_shutWorst_68 <| zz_istore_3 C (zle rfl) rfl dX0_shutWorst_70 <| zz_iinc_4 C _ (zle rfl) rfl dX0_shutWorst_71 nI_s <| zz_goto C 5 dX0_shutWorst_74 (by decide) <| zpc 5 rfl <| ?_
                first
                | (rw [if_pos c32] at ihk; exact ihk _)
                | (rw [if_neg c32] at ihk; exact ihk _)
              · exact absurd rfl c49
      | some m =>
        have hmk := hlt m rfl
        have hwm := (hm.2.2.1 m (by omega)).1
        have hbm := hN.2.2.2.2 m (by omega)
        have hne : ¬ oI (some m) = -1 := fun q => by have := (oI_n1 (o := some m) (fun y hy => by cases hy; omega)).mp q; cases this
        have em : oI (some m) = nI m := rfl
        refine zz_iload_4 C dX0_shutWorst_5 <| zz_aload_1 C dX0_shutWorst_7 <| zz_getI C fX0_15 (tL_K hL) dX0_shutWorst_8 <| zpc 11 rfl <| ?_
        rw [hm.1.1.2.1]
        refine zz_icmp_ge C 77 dX0_shutWorst_11 (by decide) (fun c11 => ?_) (fun c11 => ?_)
        · rw [nI_leI (by omega) (by omega)] at c11
          omega
        · rw [nI_leI (by omega) (by omega)] at c11
          refine zz_iconst_2 C dX0_shutWorst_14 <| zz_aload_2 C dX0_shutWorst_15 <| zz_getR C fX0_21 (tS_K hS) (tS_R_wear hS) dX0_shutWorst_16 <| zz_iload_4 C dX0_shutWorst_19 <| zc_iaload C _ (tS_K_wear hS) (znI (by omega)) (by omega) dX0_shutWorst_21 <| zpc 22 rfl <| ?_
          rw [hwk]
          refine zz_imul C dX0_shutWorst_22 <| zpc 23 rfl <| ?_
          rw [show (2 : Int32) = nI 2 from rfl, pk_mul]
          refine zz_aload_1 C dX0_shutWorst_23 <| zz_getR C fX0_26 (tL_K hL) (tL_R_roadFacts hL) dX0_shutWorst_24 <| zz_iload_4 C dX0_shutWorst_27 <| zc_row C _ (tL_K_roadFacts hL) (tL_row_roadFacts hL) (znI (by omega)) (by omega) dX0_shutWorst_29 <| fun r29 => ?_
          refine zz_iconst_4 C dX0_shutWorst_30 <| zc_iaload C 4 (tL_KR_roadFacts hL _ r29) (zlit _ (by decide)) (by decide) dX0_shutWorst_31 <| zpc 32 rfl <| ?_
          rw [hf4]
          refine zz_icmp_le C 39 dX0_shutWorst_32 (by decide) (fun c32 => ?_) (fun c32 => ?_)
          · rw [nI_leI (by omega) (by omega)] at c32
            refine zz_iconst_0 C dX0_shutWorst_39 <| zz_istore_5 C (zle rfl) rfl dX0_shutWorst_40 <| zz_iload_5 C dX0_shutWorst_42 <| zpc 44 rfl <| ?_
            refine zz_if_eq C 71 dX0_shutWorst_44 (by decide) (fun c44 => ?_) (fun c44 => ?_)
            · refine zz_iinc_4 C _ (zle rfl) rfl dX0_shutWorst_71 nI_s <| zz_goto C 5 dX0_shutWorst_74 (by decide) <| zpc 5 rfl <| ?_
              first
              | (rw [if_pos c32] at ihk; exact ihk _)
              | (rw [if_neg c32] at ihk; dsimp only at ihk; rw [if_pos c65] at ihk; exact ihk _)
              | (rw [if_neg c32] at ihk; dsimp only at ihk; rw [if_neg c65] at ihk; exact ihk _)
            · exact absurd (by decide) c44
          · rw [nI_leI (by omega) (by omega)] at c32
            refine zz_iconst_1 C dX0_shutWorst_35 <| zz_goto C 40 dX0_shutWorst_36 (by decide) <| zz_istore_5 C (zle rfl) rfl dX0_shutWorst_40 <| zz_iload_5 C dX0_shutWorst_42 <| zpc 44 rfl <| ?_
            refine zz_if_eq C 71 dX0_shutWorst_44 (by decide) (fun c44 => ?_) (fun c44 => ?_)
            · exact absurd c44 (by decide)
            · refine zz_iload_3 C dX0_shutWorst_47 <| zz_iconst_m1 C dX0_shutWorst_48 <| zpc 49 rfl <| ?_
              refine zz_icmp_eq C 68 dX0_shutWorst_49 (by decide) (fun c49 => ?_) (fun c49 => ?_)
              · exact absurd c49 hne
              · refine zz_aload_2 C dX0_shutWorst_52 <| zz_getR C fX0_21 (tS_K hS) (tS_R_wear hS) dX0_shutWorst_53 <| zz_iload_4 C dX0_shutWorst_56 <| zc_iaload C _ (tS_K_wear hS) (znI (by omega)) (by omega) dX0_shutWorst_58 <| zpc 59 rfl <| ?_
                rw [hwk]
                refine zz_aload_2 C dX0_shutWorst_59 <| zz_getR C fX0_21 (tS_K hS) (tS_R_wear hS) dX0_shutWorst_60 <| zz_iload_3 C dX0_shutWorst_63 <| zpc 64 rfl <| ?_
                rw [em]
                refine zc_iaload C _ (tS_K_wear hS) (znI (by omega)) (by omega) dX0_shutWorst_64 <| zpc 65 rfl <| ?_
                rw [hwm]
                refine zz_icmp_le C 71 dX0_shutWorst_65 (by decide) (fun c65 => ?_) (fun c65 => ?_)
                · rw [nI_leI (by omega) (by omega)] at c65
                  refine zz_iinc_4 C _ (zle rfl) rfl dX0_shutWorst_71 nI_s <| zz_goto C 5 dX0_shutWorst_74 (by decide) <| zpc 5 rfl <| ?_
                  first
                  | (rw [if_pos c32] at ihk; exact ihk _)
                  | (rw [if_neg c32] at ihk; dsimp only at ihk; rw [if_pos c65] at ihk; exact ihk _)
                  | (rw [if_neg c32] at ihk; dsimp only at ihk; rw [if_neg c65] at ihk; exact ihk _)
                · rw [nI_leI (by omega) (by omega)] at c65
                  refine zz_iload_4 C dX0_shutWorst_68 <| zz_istore_3 C (zle rfl) rfl dX0_shutWorst_70 <| zz_iinc_4 C _ (zle rfl) rfl dX0_shutWorst_71 nI_s <| zz_goto C 5 dX0_shutWorst_74 (by decide) <| zpc 5 rfl <| ?_
                  first
                  | (rw [if_pos c32] at ihk; exact ihk _)
                  | (rw [if_neg c32] at ihk; dsimp only at ihk; rw [if_pos c65] at ihk; exact ihk _)
                  | (rw [if_neg c32] at ihk; dsimp only at ihk; rw [if_neg c65] at ihk; exact ihk _)
    ·
      refine zz_iload_4 C dX0_shutWorst_5 <| zz_aload_1 C dX0_shutWorst_7 <| zz_getI C fX0_15 (tL_K hL) dX0_shutWorst_8 <| zpc 11 rfl <| ?_
      rw [hm.1.1.2.1]
      refine zz_icmp_ge C 77 dX0_shutWorst_11 (by decide) (fun c11 => ?_) (fun c11 => ?_)
      · rw [nI_leI (by omega) (by omega)] at c11
        rw [show k = A.1.1 by omega]; exact s77 _ _
      · rw [nI_leI (by omega) (by omega)] at c11
        omega
  refine zz_iconst_m1 C dX0_shutWorst_0 <| zz_istore_3 C (zle rfl) rfl dX0_shutWorst_1 <| zz_iconst_0 C dX0_shutWorst_2 <| zz_istore_4 C (zle rfl) rfl dX0_shutWorst_3 <| zpc 5 rfl <| ?_
  exact lp 0 (by omega) _
theorem c0_rested (hX : zTX t a c e) (hL : zTL t i) (hS : zTS t j) (hi : i + 31 < 84) (hj : 85 < j) (hO : lOkL L) (hN : nOk L.1.1 A.1.1 A.1.2.1 A.2 w) (hr11 : ∀ k, k < A.1.1 → r k ≤ 11) (hm : cGt h i j L A w r day) (hd : day < 2 ^ 31) (hp1 : p.1 = none) (hp2 : p.2.1.1 = none) {R : Nat × (Nat → Nat)} {x : yS} (hxw : x.1 = (w, r)) (hxt : x.2.1 = (day, gone)) : zMet E b l yX0_shutRested cX0_shutRested 6 (some .int) 4 0 0 [.ref (b + 84), .ref (b + i), .ref (b + j)] t h (qI (fun v t' h' => t' = t ∧ cAg 84 85 h h' ∧ v = nI (rShut L A p R x 3))) := by
  have hn := hm.2.1.1.1
  have hng := hO.2.2.1
  have hsh : rShut L A p R x 3 = rRst L A p w r day gone A.1.1 := by
    unfold rShut
    rw [hxw, hxt]
    rfl
  rw [hsh]
  refine zMet.of (ls := [some (.ref (b + 84)), some (.ref (b + i)), some (.ref (b + j)), none, none, none]) (by decide) (zle rfl) 3 rfl ?_
  intro G hlG C hR hE hin
  have lp : ∀ k, k ≤ A.1.1 → ∀ (hc : zH) (x5 : Option Value), cAg 84 85 h hc → zAW E b G 6 0 0 5 [some (.ref (b + 84)), some (.ref (b + i)), some (.ref (b + j)), some (.int (nI (rRst L A p w r day gone k))), some (.int (nI k)), x5] [] t hc := by
    refine zLoop A.1.1 fun k hk ih hc x5 ag => ?_
    have hmc := hm.ag ag hi hj hng
    have hlt := rRst_lt L A p w r day gone k
    have hpow : 2 ^ k ≤ 2 ^ 10 := Nat.pow_le_pow_right (by decide) (by omega)
    have er : rRst L A p w r day gone (k + 1) = @ite _ (0 < w k ∧ 0 < r k ∧ rAll L A p w day gone (rRst L A p w r day gone k + 2 ^ k)) (Classical.propDecidable _) (rRst L A p w r day gone k + 2 ^ k) (rRst L A p w r day gone k) := rfl
    refine zz_iload_4 C dX0_shutRested_5 <| zz_aload_1 C dX0_shutRested_7 <| zz_getI C fX0_15 (tL_K hL) dX0_shutRested_8 <| zpc 11 rfl <| ?_
    rw [hmc.1.1.2.1]
    refine zz_icmp_ge C 75 dX0_shutRested_11 (by decide) (fun c11 => ?_) (fun c11 => ?_)
    · rw [nI_leI (by omega) (by omega)] at c11
      refine zz_iload_3 C dX0_shutRested_75 <| zpc 76 rfl <| ?_
      refine zy_ireturn C hE (zle rfl) (zle rfl) dX0_shutRested_76 ?_
      exact ⟨rfl, ag, by rw [show k = A.1.1 by omega]⟩
    · rw [nI_leI (by omega) (by omega)] at c11
      refine zz_aload_2 C dX0_shutRested_14 <| zz_getR C fX0_21 (tS_K hS) (tS_R_wear hS) dX0_shutRested_15 <| zz_iload_4 C dX0_shutRested_18 <| zc_iaload C _ (tS_K_wear hS) (znI (by omega)) (by omega) dX0_shutRested_20 <| zpc 21 rfl <| ?_
      rw [(hmc.2.2.1 k (by omega)).1]
      refine zz_if_le C 39 dX0_shutRested_21 (by decide) (fun c21 => ?_) (fun c21 => ?_)
      · rw [show (0 : Int32) = nI 0 from rfl, nI_leI (by have := (hN.2.2.2.2 k (by omega)); omega) (by omega)] at c21
        refine zz_iconst_0 C dX0_shutRested_39 <| zz_istore_5 C (zle rfl) rfl dX0_shutRested_40 <| zz_iload_5 C dX0_shutRested_42 <| zpc 44 rfl <| ?_
        refine zz_if_eq C 69 dX0_shutRested_44 (by decide) (fun c44 => ?_) (fun c44 => ?_)
        · refine zz_iinc_4 C _ (zle rfl) rfl dX0_shutRested_69 nI_s <| zz_goto C 5 dX0_shutRested_72 (by decide) <| zpc 5 rfl <| ?_
          first
          | (have hyes : rAll L A p w day gone (rRst L A p w r day gone k + 2 ^ k) := Classical.byContradiction fun z => c59 (v0 z)
             have := ih (by omega) h' (some (.int 1)) (ag.tr ag9)
             rw [er, if_pos ⟨by omega, by omega, hyes⟩] at this
             exact this)
          | (have hno : ¬ rAll L A p w day gone (rRst L A p w r day gone k + 2 ^ k) := fun z => by rw [v1 z] at c59; exact absurd c59 (by decide)
             have := ih (by omega) h' (some (.int 1)) (ag.tr ag9)
             rw [er, if_neg (fun z => hno z.2.2)] at this
             exact this)
          | (have := ih (by omega) hc (some (.int 0)) ag
             rw [er, if_neg (fun z => by have := z.1; have := z.2.1; omega)] at this
             exact this)
        · exact absurd (by decide) c44
      · rw [show (0 : Int32) = nI 0 from rfl, nI_leI (by have := (hN.2.2.2.2 k (by omega)); omega) (by omega)] at c21
        refine zz_aload_2 C dX0_shutRested_24 <| zz_getR C fX0_34 (tS_K hS) (tS_R_rested hS) dX0_shutRested_25 <| zz_iload_4 C dX0_shutRested_28 <| zc_iaload C _ (tS_K_rested hS) (znI (by omega)) (by omega) dX0_shutRested_30 <| zpc 31 rfl <| ?_
        rw [(hmc.2.2.1 k (by omega)).2]
        refine zz_iconst_1 C dX0_shutRested_31 <| zpc 32 rfl <| ?_
        refine zz_icmp_lt C 39 dX0_shutRested_32 (by decide) (fun c32 => ?_) (fun c32 => ?_)
        · rw [show (1 : Int32) = nI 1 from rfl, nI_ltI (by have := hr11 k (by omega); omega) (by omega)] at c32
          refine zz_iconst_0 C dX0_shutRested_39 <| zz_istore_5 C (zle rfl) rfl dX0_shutRested_40 <| zz_iload_5 C dX0_shutRested_42 <| zpc 44 rfl <| ?_
          refine zz_if_eq C 69 dX0_shutRested_44 (by decide) (fun c44 => ?_) (fun c44 => ?_)
          · refine zz_iinc_4 C _ (zle rfl) rfl dX0_shutRested_69 nI_s <| zz_goto C 5 dX0_shutRested_72 (by decide) <| zpc 5 rfl <| ?_
            first
            | (have hyes : rAll L A p w day gone (rRst L A p w r day gone k + 2 ^ k) := Classical.byContradiction fun z => c59 (v0 z)
               have := ih (by omega) h' (some (.int 1)) (ag.tr ag9)
               rw [er, if_pos ⟨by omega, by omega, hyes⟩] at this
               exact this)
            | (have hno : ¬ rAll L A p w day gone (rRst L A p w r day gone k + 2 ^ k) := fun z => by rw [v1 z] at c59; exact absurd c59 (by decide)
               have := ih (by omega) h' (some (.int 1)) (ag.tr ag9)
               rw [er, if_neg (fun z => hno z.2.2)] at this
               exact this)
            | (have := ih (by omega) hc (some (.int 0)) ag
               rw [er, if_neg (fun z => by have := z.1; have := z.2.1; omega)] at this
               exact this)
          · exact absurd (by decide) c44
        · rw [show (1 : Int32) = nI 1 from rfl, nI_ltI (by have := hr11 k (by omega); omega) (by omega)] at c32
          refine zz_iconst_1 C dX0_shutRested_35 <| zz_goto C 40 dX0_shutRested_36 (by decide) <| zz_istore_5 C (zle rfl) rfl dX0_shutRested_40 <| zz_iload_5 C dX0_shutRested_42 <| zpc 44 rfl <| ?_
          refine zz_if_eq C 69 dX0_shutRested_44 (by decide) (fun c44 => ?_) (fun c44 => ?_)
          · exact absurd c44 (by decide)
          · refine zz_aload_0 C dX0_shutRested_47 <| zz_aload_1 C dX0_shutRested_48 <| zz_aload_2 C dX0_shutRested_49 <| zz_iload_3 C dX0_shutRested_50 <| zz_iconst_1 C dX0_shutRested_51 <| zz_iload_4 C dX0_shutRested_52 <| zz_ishl C dX0_shutRested_54 <| zpc 55 rfl <| ?_
            rw [zshl1 (by omega)]
            refine zz_ior C dX0_shutRested_55 <| zpc 56 rfl <| ?_
            rw [zorp hlt]
            refine zy_callVI C hR [_, _, _] (c0_all (p := p) (gone := gone) hX hL hS hi hj hO hN hmc hd hp1 hp2 _ (by omega)) lX0_30 rfl (tX_K_gate hX) (by decide) rfl ⟨zle rfl, zle rfl, zle rfl, zle rfl⟩ (zle rfl) dX0_shutRested_56 ?_
            intro v t' h' hv; obtain ⟨rfl, ag9, v1, v0⟩ := hv
            refine zz_if_eq C 69 dX0_shutRested_59 (by decide) (fun c59 => ?_) (fun c59 => ?_)
            · refine zz_iinc_4 C _ (zle rfl) rfl dX0_shutRested_69 nI_s <| zz_goto C 5 dX0_shutRested_72 (by decide) <| zpc 5 rfl <| ?_
              first
              | (have hyes : rAll L A p w day gone (rRst L A p w r day gone k + 2 ^ k) := Classical.byContradiction fun z => c59 (v0 z)
                 have := ih (by omega) h' (some (.int 1)) (ag.tr ag9)
                 rw [er, if_pos ⟨by omega, by omega, hyes⟩] at this
                 exact this)
              | (have hno : ¬ rAll L A p w day gone (rRst L A p w r day gone k + 2 ^ k) := fun z => by rw [v1 z] at c59; exact absurd c59 (by decide)
                 have := ih (by omega) h' (some (.int 1)) (ag.tr ag9)
                 rw [er, if_neg (fun z => hno z.2.2)] at this
                 exact this)
              | (have := ih (by omega) hc (some (.int 0)) ag
                 rw [er, if_neg (fun z => by have := z.1; have := z.2.1; omega)] at this
                 exact this)
            · refine zz_iload_3 C dX0_shutRested_62 <| zz_iconst_1 C dX0_shutRested_63 <| zz_iload_4 C dX0_shutRested_64 <| zz_ishl C dX0_shutRested_66 <| zpc 67 rfl <| ?_
              rw [zshl1 (by omega)]
              refine zz_ior C dX0_shutRested_67 <| zpc 68 rfl <| ?_
              rw [zorp hlt]
              refine zz_istore_3 C (zle rfl) rfl dX0_shutRested_68 <| zz_iinc_4 C _ (zle rfl) rfl dX0_shutRested_69 nI_s <| zz_goto C 5 dX0_shutRested_72 (by decide) <| zpc 5 rfl <| ?_
              first
              | (have hyes : rAll L A p w day gone (rRst L A p w r day gone k + 2 ^ k) := Classical.byContradiction fun z => c59 (v0 z)
                 have := ih (by omega) h' (some (.int 1)) (ag.tr ag9)
                 rw [er, if_pos ⟨by omega, by omega, hyes⟩] at this
                 exact this)
              | (have hno : ¬ rAll L A p w day gone (rRst L A p w r day gone k + 2 ^ k) := fun z => by rw [v1 z] at c59; exact absurd c59 (by decide)
                 have := ih (by omega) h' (some (.int 1)) (ag.tr ag9)
                 rw [er, if_neg (fun z => hno z.2.2)] at this
                 exact this)
              | (have := ih (by omega) hc (some (.int 0)) ag
                 rw [er, if_neg (fun z => by have := z.1; have := z.2.1; omega)] at this
                 exact this)
  refine zz_iconst_0 C dX0_shutRested_0 <| zz_istore_3 C (zle rfl) rfl dX0_shutRested_1 <| zz_iconst_0 C dX0_shutRested_2 <| zz_istore_4 C (zle rfl) rfl dX0_shutRested_3 <| zpc 5 rfl <| ?_
  exact lp 0 (by omega) h _ (cAg.rf h)
end CG
