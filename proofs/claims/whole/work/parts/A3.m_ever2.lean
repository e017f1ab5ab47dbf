/-! ===== the reference: ever ===== -/
def mFo (D : yD) (R : Nat × (Nat → Nat)) (sd : Int32) (d : Nat) (hc : zH) : Prop := (∀ i, i ≤ d → zL hc 238 i = lN (w11 D R sd i) ∧ zL hc 239 i = lN (r11 D R sd i)) ∧ zI hc 157 55 = oI ((rF (eR9 D R sd) d).map Prod.fst) ∧ zI hc 157 56 = oI ((rF (eR9 D R sd) d).map Prod.snd) ∧ zI hc 157 57 = oI (tF (eR9 D R sd) (bad9 D R sd) d)
def mFe (D : yD) (R : Nat × (Nat → Nat)) (sd : Int32) (hc : zH) : Prop := zI hc 157 55 = oI ((rF (eR9 D R sd) 4000).map Prod.fst) ∧ zI hc 157 56 = oI ((rF (eR9 D R sd) 4000).map Prod.snd) ∧ zI hc 157 57 = oI (tF (eR9 D R sd) (bad9 D R sd) 4000)
section MEV2
variable {E : zE} {b : Nat} {G : zG} {t : zT} {h : zH} {l : Launch} {D : yD} {R : Nat × (Nat → Nat)} {sd : Int32}
theorem mWk.fo {h h' : zH} {L : yL} {A : yN} {p : yP} {x : yS} (hS : sOk L A p x.1.1) (e : ∀ i k, ¬ (i = 157 ∧ (k = 55 ∨ k = 56 ∨ k = 57)) → zI h' i k = zI h i k) (e2 : zL h' 157 43 = zL h 157 43) (e3 : zL h' 157 44 = zL h 157 44) (hm : mWk h L A p x) : mWk h' L A p x := by
  obtain ⟨⟨⟨n1, n2, n3, n4⟩, ⟨l1, l2, l3, l4, l5⟩, ⟨p1, p2, p3, p4, p5, p6, p7⟩, t1, t2, t3, t4⟩, r1, r2, r3, r4, r5, r6, r7, r8⟩ := hm
  have hn := hS.1.2.2.1
  have hg := hS.2.1.2.2.1
  have q : ∀ i k, ¬ (i = 157 ∧ (k = 55 ∨ k = 56 ∨ k = 57)) → ∀ v, zI h i k = v → zI h' i k = v := fun i k hn v y => (e i k hn).trans y
  refine ⟨⟨⟨q _ _ ?_ _ n1, q _ _ ?_ _ n2, q _ _ ?_ _ n3, fun k hk => ⟨fun i hi => q _ _ ?_ _ ((n4 k hk).1 i hi), q _ _ ?_ _ (n4 k hk).2⟩⟩, ⟨q _ _ ?_ _ l1, q _ _ ?_ _ l2, q _ _ ?_ _ l3, fun g hg i hi => q _ _ ?_ _ (l4 g hg i hi), fun k hk => q _ _ ?_ _ (l5 k hk)⟩, ⟨q _ _ ?_ _ p1, q _ _ ?_ _ p2, fun z => q _ _ ?_ _ (p3 z), q _ _ ?_ _ p4, q _ _ ?_ _ p5, q _ _ ?_ _ p6, q _ _ ?_ _ p7⟩, q _ _ ?_ _ t1, q _ _ ?_ _ t2, t3, t4⟩, fun k hk => q _ _ ?_ _ (r1 k hk), q _ _ ?_ _ r2, q _ _ ?_ _ r3, e2.trans r4, e3.trans r5, q _ _ ?_ _ r6, q _ _ ?_ _ r7, q _ _ ?_ _ r8⟩ <;> omega
theorem c_findRound (hT : zTM t) (hD : sdOk D yP0) (hm : mSd h D yP0) (hn : D.2.1.1.1 ≤ 10) (hRo : roOk R) (hro : mRo h R) (hR0 : 0 < R.1) (htd : D.2.2.2 + 4000 < 2 ^ 20) : zMet E b l yX11_findRound cX11_findRound 3 none 5 0 0 [.ref (b + 157)] t h (qV (fun t' h' => t' = t ∧ zAg3 h h' ∧ mFe D R (zI h 157 41) h')) := by
  have hng := hD.1.2.1.2.2.1
  have hR3 := hRo.1
  have hDd : sdOk D yPd := hD
  obtain ⟨sd, hsd⟩ : ∃ sd, sd = zI h 157 41 := ⟨_, rfl⟩
  have hlt := wr11_lt (sd := sd) hDd hn hR0 hR3
  refine zMet.of (ls := [some (.ref (b + 157)), none, none]) (by decide) (zle rfl) 2 rfl ?_
  intro G hlG C hR hE hin
  have wh : ∀ h1 : zH, zAg3 h h1 → ∀ d, d ≤ 4000 → ∀ (hc : zH) (y2 : Option Value), zAg3 (zsI h1 157 42 1) hc → mFo D R sd d hc → mWk hc D.1 D.2.1 yPd (xRg D R sd d) → zAW E b G 3 0 0 31 [some (.ref (b + 157)), some (.int (nI d)), y2] [] t hc := by
    intro h1 a1
    have dry0 : zI h1 157 42 = 0 := (a1.sd hD hm).2.1.2.2.2.2.2.2
    have hro1 := hro.ag3 a1
    refine zLoop 4000 fun d hd ih hc y2 ag fo hw => ?_
    have roc : ∀ h9, zAg3 (zsI h1 157 42 1) h9 → mRo h9 R := fun h9 a9 => by
      have e : mRo (zsI h1 157 42 1) R := ⟨by rw [zI_sI, if_neg (by omega)]; exact hro1.1, fun k hk => by rw [zI_sI, if_neg (by omega)]; exact hro1.2 k hk⟩
      exact e.ag3 a9
    have fin : (d = 4000 ∨ ∃ x, rF (eR9 D R sd) d = some x) → mFe D R sd hc := by
      rintro (z | ⟨x, z⟩)
      · rw [z] at fo; exact fo.2
      · obtain ⟨-, f1, f2, f3⟩ := fo
        refine ⟨?_, ?_, ?_⟩
        · rw [rF_keep z 4000 hd, ← z]; exact f1
        · rw [rF_keep z 4000 hd, ← z]; exact f2
        · rw [tF_keep z 4000 hd]; exact f3
    have hb1 : ∀ x, (rF (eR9 D R sd) d).map Prod.fst = some x → x < 2 ^ 31 := fun x z => by
      cases e : rF (eR9 D R sd) d with
      | none => rw [e] at z; cases z
      | some y =>
        rw [e] at z
        have z2 : y.1 = x := Option.some.inj z
        have := rF_lt d y e
        omega
    have hb2 : ∀ x, tF (eR9 D R sd) (bad9 D R sd) d = some x → x < 2 ^ 31 := fun x z => by have := tF_lt d x z; omega
    have hno9 : (rF (eR9 D R sd) d).map Prod.fst = none → rF (eR9 D R sd) d = none := fun z => by
      cases e : rF (eR9 D R sd) d with
      | none => rfl
      | some x => rw [e] at z; cases z
    have etm := dDays_tm D.1 D.2.1 yPd R 1 (x0 D sd) d
    have etn := dDays_tm D.1 D.2.1 yPd R 1 (x0 D sd) (d + 1)
    have hWq := (hDd.w sd).days R 1 d
    have hWn := (hDd.w sd).days R 1 (d + 1)
    have ht1 : (xRg D R sd d).2.1.1 = D.2.2.2 + d := by show (dDays _ _ _ _ _ _ _).2.1.1 = _; rw [etm]; rfl
    have ht3 : (xRg D R sd (d + 1)).2.1.1 = D.2.2.2 + (d + 1) := by show (dDays _ _ _ _ _ _ _).2.1.1 = _; rw [etn]; rfl
    have ht4 : (xRg D R sd (d + 1)).2.1.2 = d + 1 := by show (dDays _ _ _ _ _ _ _).2.1.2 = _; rw [etn]; show 0 + (d + 1) = d + 1; omega
    have s84 : d < 4000 → rF (eR9 D R sd) d = none → ∀ (h9 : zH) (y2 : Option Value), zAg3 (zsI h1 157 42 1) h9 → mWk h9 D.1 D.2.1 yPd (xRg D R sd (d + 1)) → (∀ i, i ≤ d → zL h9 238 i = lN (w11 D R sd i) ∧ zL h9 239 i = lN (r11 D R sd i)) → zI h9 157 55 = -1 → zI h9 157 56 = -1 → zI h9 157 57 = oI (tF (eR9 D R sd) (bad9 D R sd) (d + 1)) → zAW E b G 3 0 0 84 [some (.ref (b + 157)), some (.int (nI d)), y2] [] t h9 := by
      intro hdl hno h9 y2 a9 hw9 mk9 b9 l9 f9
      have lp2 : ∀ h8 : zH, mKp h9 (d + 1) (w11 D R sd (d + 1)) (r11 D R sd (d + 1)) h8 → ∀ j, j ≤ d + 1 → (∀ i, i < j → ¬ eR9 D R sd i (d + 1)) → zAW E b G 3 0 0 93 [some (.ref (b + 157)), some (.int (nI d)), some (.int (nI j))] [] t h8 := by
        intro h8 kp
        have a8 : zAg3 (zsI h1 157 42 1) h8 := a9.tr ⟨fun i k _ => kp.1 i k, fun i k z => kp.2.1 i k (fun y => z (by unfold sl3; omega))⟩
        have hw8 : mWk h8 D.1 D.2.1 yPd (xRg D R sd (d + 1)) := hw9.fo hWn.1 (fun i k _ => kp.1 i k) (kp.2.1 _ _ (by omega)) (kp.2.1 _ _ (by omega))
        have mk8 : ∀ i, i ≤ d + 1 → zL h8 238 i = lN (w11 D R sd i) ∧ zL h8 239 i = lN (r11 D R sd i) := fun i hi => by
          by_cases z : i = d + 1
          · rw [z]; exact kp.2.2
          · rw [kp.2.1 _ _ (by omega), kp.2.1 _ _ (by omega)]; exact mk9 i (by omega)
        have b8 : zI h8 157 55 = -1 := (kp.1 _ _).trans b9
        have l8 : zI h8 157 56 = -1 := (kp.1 _ _).trans l9
        have f8 : zI h8 157 57 = oI (tF (eR9 D R sd) (bad9 D R sd) (d + 1)) := (kp.1 _ _).trans f9
        have found : ∀ i j, i ≤ d → j ≤ d + 1 → eR9 D R sd i (d + 1) → zAW E b G 3 0 0 93 [some (.ref (b + 157)), some (.int (nI d)), some (.int (nI j))] [] t ((zsI (zsI h8 157 55 (nI i)) 157 56 (nI (d + 1 - i)))) := by
          intro i j hi hj hE
          have hit := rF_hit (eQ_tr _ _ _ _) hno hi hE
          have e1 : zI (zsI (zsI h8 157 55 (nI i)) 157 56 (nI (d + 1 - i))) 157 55 = nI i := by rw [zI_sI, if_neg (by omega)]; exact zI_self _ _ _ _
          refine zz_iload_2 C dX11_findRound_93 <| zz_iload_1 C dX11_findRound_94 <| zpc 95 rfl <| ?_
          refine zz_icmp_gt C 165 dX11_findRound_95 (by decide) (fun c95 => ?_) (fun c95 => ?_)
          · refine zz_iinc_1 C _ (zle rfl) rfl dX11_findRound_165 nI_s <| zz_goto C 31 dX11_findRound_168 (by decide) <| zpc 31 rfl <| ?_
            refine ih hdl _ _ ((a8.sI (by unfold sc3; omega)).sI (by unfold sc3; omega)) ⟨mk8, ?_, ?_, ?_⟩ (mWk.fo (h := h8) hWn.1 (fun i k z => by rw [zI_sI, if_neg (by omega), zI_sI, if_neg (by omega)]) rfl rfl hw8)
            · rw [hit]; exact e1
            · rw [hit]; exact zI_self _ _ _ _
            · rw [zI_sI, if_neg (by omega), zI_sI, if_neg (by omega)]; exact f8
          · refine zz_aload_0 C dX11_findRound_98 <| zz_getI C fX11_315 (tM_K hT) dX11_findRound_99 <| zpc 102 rfl <| ?_
            rw [e1]
            refine zz_iconst_m1 C dX11_findRound_102 <| zpc 103 rfl <| ?_
            refine zz_icmp_ne C 165 dX11_findRound_103 (by decide) (fun c103 => ?_) (fun c103 => ?_)
            · refine zz_iinc_1 C _ (zle rfl) rfl dX11_findRound_165 nI_s <| zz_goto C 31 dX11_findRound_168 (by decide) <| zpc 31 rfl <| ?_
              refine ih hdl _ _ ((a8.sI (by unfold sc3; omega)).sI (by unfold sc3; omega)) ⟨mk8, ?_, ?_, ?_⟩ (mWk.fo (h := h8) hWn.1 (fun i k z => by rw [zI_sI, if_neg (by omega), zI_sI, if_neg (by omega)]) rfl rfl hw8)
              · rw [hit]; exact e1
              · rw [hit]; exact zI_self _ _ _ _
              · rw [zI_sI, if_neg (by omega), zI_sI, if_neg (by omega)]; exact f8
            · have := congrArg Int32.toInt c103
              rw [nI_toInt (by omega)] at this
              have e9 : (-1 : Int32).toInt = -1 := rfl
              omega
        refine zLoop (d + 1) fun j hj ih2 no => ?_
        have mj : j ≤ d → _ := fun z => mk8 j (by omega)
        have md := mk8 (d + 1) (by omega)
        have no2 : ¬ eR9 D R sd j (d + 1) → ∀ i, i < j + 1 → ¬ eR9 D R sd i (d + 1) := fun z i hi => by
          by_cases y : i = j
          · rw [y]; exact z
          · exact no i (by omega)
        refine zz_iload_2 C dX11_findRound_93 <| zz_iload_1 C dX11_findRound_94 <| zpc 95 rfl <| ?_
        refine zz_icmp_gt C 165 dX11_findRound_95 (by decide) (fun c95 => ?_) (fun c95 => ?_)
        · rw [nI_ltI (by omega) (by omega)] at c95
          refine zz_iinc_1 C _ (zle rfl) rfl dX11_findRound_165 nI_s <| zz_goto C 31 dX11_findRound_168 (by decide) <| zpc 31 rfl <| ?_
          have miss := rF_miss hno (fun i h1 => no i (by omega))
          refine ih hdl _ _ a8 ⟨mk8, ?_, ?_, f8⟩ hw8
          · rw [miss]; exact b8
          · rw [miss]; exact l8
        · rw [nI_ltI (by omega) (by omega)] at c95
          refine zz_aload_0 C dX11_findRound_98 <| zz_getI C fX11_315 (tM_K hT) dX11_findRound_99 <| zpc 102 rfl <| ?_
          rw [b8]
          refine zz_iconst_m1 C dX11_findRound_102 <| zpc 103 rfl <| ?_
          refine zz_icmp_ne C 165 dX11_findRound_103 (by decide) (fun c103 => ?_) (fun c103 => ?_)
          · exact absurd rfl c103
          · refine zz_aload_0 C dX11_findRound_106 <| zz_getR C fX11_91 (tM_K hT) (tM_R_stateW hT) dX11_findRound_107 <| zz_iload_2 C dX11_findRound_110 <| zc_laload C _ (tM_K_stateW hT) (znI (by omega)) (by omega) dX11_findRound_111 <| zz_aload_0 C dX11_findRound_112 <| zz_getR C fX11_91 (tM_K hT) (tM_R_stateW hT) dX11_findRound_113 <| zz_iload_1 C dX11_findRound_116 <| zz_iconst_1 C dX11_findRound_117 <| zz_iadd C dX11_findRound_118 <| zpc 119 rfl <| ?_
            rw [show (1 : Int32) = nI 1 from rfl, nI_add]
            refine zc_laload C _ (tM_K_stateW hT) (znI (by omega)) (by omega) dX11_findRound_119 <| zpc 120 rfl <| ?_
            rw [(mj (by omega)).1, md.1]
            refine zz_lcmp C dX11_findRound_120 <| zpc 121 rfl <| ?_
            refine zz_if_ne C 159 dX11_findRound_121 (by decide) (fun c121 => ?_) (fun c121 => ?_)
            · rw [lg_cmp_eq, pk_lEQ (hlt _).1 (hlt _).1] at c121
              refine zz_iinc_2 C _ (zle rfl) rfl dX11_findRound_159 nI_s <| zz_goto C 93 dX11_findRound_162 (by decide) <| zpc 93 rfl <| ?_
              first
              | exact found j _ (by omega) (by omega) ((same11 hDd _ _).mpr ⟨c121, c139⟩)
              | exact ih2 (by omega) (no2 (fun y => c121 ((same11 hDd _ _).mp y).1))
              | exact ih2 (by omega) (no2 (fun y => c139 ((same11 hDd _ _).mp y).2))
            · rw [lg_cmp_eq, pk_lEQ (hlt _).1 (hlt _).1] at c121
              refine zz_aload_0 C dX11_findRound_124 <| zz_getR C fX11_95 (tM_K hT) (tM_R_stateR hT) dX11_findRound_125 <| zz_iload_2 C dX11_findRound_128 <| zc_laload C _ (tM_K_stateR hT) (znI (by omega)) (by omega) dX11_findRound_129 <| zz_aload_0 C dX11_findRound_130 <| zz_getR C fX11_95 (tM_K hT) (tM_R_stateR hT) dX11_findRound_131 <| zz_iload_1 C dX11_findRound_134 <| zz_iconst_1 C dX11_findRound_135 <| zz_iadd C dX11_findRound_136 <| zpc 137 rfl <| ?_
              rw [show (1 : Int32) = nI 1 from rfl, nI_add]
              refine zc_laload C _ (tM_K_stateR hT) (znI (by omega)) (by omega) dX11_findRound_137 <| zpc 138 rfl <| ?_
              rw [(mj (by omega)).2, md.2]
              refine zz_lcmp C dX11_findRound_138 <| zpc 139 rfl <| ?_
              refine zz_if_eq C 145 dX11_findRound_139 (by decide) (fun c139 => ?_) (fun c139 => ?_)
              · rw [lg_cmp_eq, pk_lEQ (hlt _).2 (hlt _).2] at c139
                refine zz_aload_0 C dX11_findRound_145 <| zz_iload_2 C dX11_findRound_146 <| zy_putI C fX11_315 pX11_55 (tM_K hT) dX11_findRound_147 <| zz_aload_0 C dX11_findRound_150 <| zz_iload_1 C dX11_findRound_151 <| zz_iconst_1 C dX11_findRound_152 <| zz_iadd C dX11_findRound_153 <| zpc 154 rfl <| ?_
                rw [show (1 : Int32) = nI 1 from rfl, nI_add]
                refine zz_iload_2 C dX11_findRound_154 <| zz_isub C dX11_findRound_155 <| zpc 156 rfl <| ?_
                rw [pk_sub (by omega)]
                refine zy_putI C fX11_318 pX11_56 (tM_K hT) dX11_findRound_156 <| zz_iinc_2 C _ (zle rfl) rfl dX11_findRound_159 nI_s <| zz_goto C 93 dX11_findRound_162 (by decide) <| zpc 93 rfl <| ?_
                first
                | exact found j _ (by omega) (by omega) ((same11 hDd _ _).mpr ⟨c121, c139⟩)
                | exact ih2 (by omega) (no2 (fun y => c121 ((same11 hDd _ _).mp y).1))
                | exact ih2 (by omega) (no2 (fun y => c139 ((same11 hDd _ _).mp y).2))
              · rw [lg_cmp_eq, pk_lEQ (hlt _).2 (hlt _).2] at c139
                refine zz_goto C 159 dX11_findRound_142 (by decide) <| zz_iinc_2 C _ (zle rfl) rfl dX11_findRound_159 nI_s <| zz_goto C 93 dX11_findRound_162 (by decide) <| zpc 93 rfl <| ?_
                first
                | exact found j _ (by omega) (by omega) ((same11 hDd _ _).mpr ⟨c121, c139⟩)
                | exact ih2 (by omega) (no2 (fun y => c121 ((same11 hDd _ _).mp y).1))
                | exact ih2 (by omega) (no2 (fun y => c139 ((same11 hDd _ _).mp y).2))
      refine zz_aload_0 C dX11_findRound_84 <| zz_iload_1 C dX11_findRound_85 <| zz_iconst_1 C dX11_findRound_86 <| zz_iadd C dX11_findRound_87 <| zpc 88 rfl <| ?_
      rw [show (1 : Int32) = nI 1 from rfl, nI_add]
      refine zy_callVV C hR [_] (c_keeps (w := (xRg D R sd (d + 1)).1.1) (r := (xRg D R sd (d + 1)).1.2) (gone := d + 1) (day := D.2.2.2 + (d + 1)) (m := R.1) hT (show D.2.1.1.1 ≤ 11 by omega) (d + 1) (by omega) hw9.1.1.2.1 (fun k hk => ⟨(hw9.1.1.2.2.2 k hk).2, hw9.2.1 k hk, (wr11_b hDd (d + 1) k hk).1, (wr11_b hDd (d + 1) k hk).2⟩) (by rw [hw9.2.2.2.1, ht4]) (by rw [hw9.1.2.2.2.1, ht3]) (roc _ a9).1 hR0 hR3 (by omega) (by omega)) lX11_324 rfl (tM_K hT) (by decide) rfl ⟨zle rfl, zle rfl, zle rfl, zle rfl⟩ (zle rfl) dX11_findRound_88 ?_
      intro t8 h8 hv; obtain ⟨rfl, kp⟩ := hv
      refine zz_iconst_0 C dX11_findRound_91 <| zz_istore_2 C (zle rfl) rfl dX11_findRound_92 <| zpc 93 rfl <| ?_
      exact lp2 h8 kp 0 (by omega) (fun i hi => absurd hi (by omega))
    refine zz_iload_1 C dX11_findRound_31 <| zz_sipush C 4000 dX11_findRound_32 (by decide) <| zpc 35 rfl <| ?_
    refine zz_icmp_ge C 171 dX11_findRound_35 (by decide) (fun c35 => ?_) (fun c35 => ?_)
    · rw [show (4000 : Int32) = nI 4000 from rfl, nI_leI (by omega) (by omega)] at c35
      refine zz_aload_0 C dX11_findRound_171 <| zz_iconst_0 C dX11_findRound_172 <| zy_putZ C fX11_274 pX11_42 (by decide) (tM_K hT) dX11_findRound_173 <| zpc 176 rfl <| ?_
      refine zy_return C hE (zle rfl) (zle rfl) dX11_findRound_176 ?_
      have k1 : mFe D R sd hc := by
        first
          | exact fin (Or.inl (by omega))
          | (refine fin (Or.inr ?_)
             cases e : rF (eR9 D R sd) d with
             | none => rw [e] at c43; exact absurd rfl c43
             | some x => exact ⟨x, rfl⟩)
      refine ⟨rfl, a1.tr (zAg3.put dry0 ag), ?_⟩
      rw [← hsd]
      exact ⟨by rw [zI_sI, if_neg (by omega)]; exact k1.1, by rw [zI_sI, if_neg (by omega)]; exact k1.2.1, by rw [zI_sI, if_neg (by omega)]; exact k1.2.2⟩
    · rw [show (4000 : Int32) = nI 4000 from rfl, nI_leI (by omega) (by omega)] at c35
      refine zz_aload_0 C dX11_findRound_38 <| zz_getI C fX11_315 (tM_K hT) dX11_findRound_39 <| zpc 42 rfl <| ?_
      rw [fo.2.1]
      refine zz_iconst_m1 C dX11_findRound_42 <| zpc 43 rfl <| ?_
      refine zz_icmp_ne C 171 dX11_findRound_43 (by decide) (fun c43 => ?_) (fun c43 => ?_)
      · rw [oI_m1 hb1] at c43
        refine zz_aload_0 C dX11_findRound_171 <| zz_iconst_0 C dX11_findRound_172 <| zy_putZ C fX11_274 pX11_42 (by decide) (tM_K hT) dX11_findRound_173 <| zpc 176 rfl <| ?_
        refine zy_return C hE (zle rfl) (zle rfl) dX11_findRound_176 ?_
        have k1 : mFe D R sd hc := by
          first
            | exact fin (Or.inl (by omega))
            | (refine fin (Or.inr ?_)
               cases e : rF (eR9 D R sd) d with
               | none => rw [e] at c43; exact absurd rfl c43
               | some x => exact ⟨x, rfl⟩)
        refine ⟨rfl, a1.tr (zAg3.put dry0 ag), ?_⟩
        rw [← hsd]
        exact ⟨by rw [zI_sI, if_neg (by omega)]; exact k1.1, by rw [zI_sI, if_neg (by omega)]; exact k1.2.1, by rw [zI_sI, if_neg (by omega)]; exact k1.2.2⟩
      · rw [oI_m1 hb1] at c43
        have hno := hno9 c43
        refine zz_aload_0 C dX11_findRound_46 <| zz_aload_0 C dX11_findRound_47 <| zz_iconst_1 C dX11_findRound_48 <| zpc 49 rfl <| ?_
        refine zy_callVI C hR [_] (c_shutBy hT hWq hw hRo (roc _ ag) 1 (by omega) (fun _ => hR0)) lX11_290 rfl (tM_K hT) (by decide) rfl ⟨zle rfl, zle rfl, zle rfl, zle rfl⟩ (zle rfl) dX11_findRound_49 ?_
        intro v t' h' hv; obtain ⟨rfl, rfl, f2, g2, a2, c2, rfl⟩ := hv
        refine zy_callVV C hR [_] (c_goesBy hT hWq (hw.sc hWq.1 f2 g2 a2 c2) (rShut D.1 D.2.1 yPd R (xRg D R sd d) 1) (by have : rShut D.1 D.2.1 yPd R (xRg D R sd d) 1 < 2 ^ 30 := rShut_lt (rule := 1) hWq hRo (fun _ => hR0); omega) (by rw [show (dDays D.1 D.2.1 yPd R 1 d (x0 D sd)).2.1.1 = D.2.2.2 + d from ht1]; omega)) lX11_293 rfl (tM_K hT) (by decide) rfl ⟨zle rfl, zle rfl, zle rfl, zle rfl⟩ (zle rfl) dX11_findRound_52 ?_
        intro t' h8 hv; obtain ⟨rfl, a3, hw8, hfs8⟩ := hv; have hw8 : mWk h8 D.1 D.2.1 yPd (xRg D R sd (d + 1)) := hw8; have hfs8 : zI h8 157 47 = oI (xRg D R sd (d + 1)).2.2.2.2.1.2.2 := hfs8; have a28 : zAg2 hc h8 := (zAg2.of1 (zAg1.sc _ _ _ _ _)).tr a3; have ag8 : zAg3 (zsI h1 157 42 1) h8 := ag.tr (.of2 a28); have mk8 : ∀ i, i ≤ d → zL h8 238 i = lN (w11 D R sd i) ∧ zL h8 239 i = lN (r11 D R sd i) := (fun i hi => ⟨(a28.2 _ _ (by omega)).trans (fo.1 i hi).1, (a28.2 _ _ (by omega)).trans (fo.1 i hi).2⟩); have b8 : zI h8 157 55 = -1 := (by rw [a28.1 _ _ (by unfold sc2 sc1; omega), fo.2.1, hno]; rfl); have l8 : zI h8 157 56 = -1 := (by rw [a28.1 _ _ (by unfold sc2 sc1; omega), fo.2.2.1, hno]; rfl); have f8 : zI h8 157 57 = oI (tF (eR9 D R sd) (bad9 D R sd) d) := (a28.1 _ _ (by unfold sc2 sc1; omega)).trans fo.2.2.2; have hfs : ∀ x, (xRg D R sd (d + 1)).2.2.2.2.1.2.2 = some x → x < 2 ^ 31 := (fun x z => by have := gTurns_fs D.1 D.2.1 yPd _ _ _ _ _ rfl _ x z; omega); have hpp : ∀ x, rPast D.2.1.2 (xRg D R sd (d + 1)).1.1 D.2.1.1.1 = some x → x < 2 ^ 31 := (fun x z => by have := rPast_lt z; omega); have k3 : tF (eR9 D R sd) (bad9 D R sd) d = none → bad9 D R sd d → d < 4000 → _ := (fun z y hdl y2 => s84 hdl hno (zsI h8 157 57 (nI d)) y2 (ag8.sI (by unfold sc3; omega)) (mWk.fo (h := h8) hWn.1 (fun i k z => by rw [zI_sI, if_neg (by omega)]) rfl rfl hw8) mk8 (by rw [zI_sI, if_neg (by omega)]; exact b8) (by rw [zI_sI, if_neg (by omega)]; exact l8) (by rw [tF_new hno z y]; exact zI_self _ _ _ _))
        refine zz_aload_0 C dX11_findRound_55 <| zz_getI C fX11_321 (tM_K hT) dX11_findRound_56 <| zpc 59 rfl <| ?_
        rw [f8]
        refine zz_iconst_m1 C dX11_findRound_59 <| zpc 60 rfl <| ?_
        refine zz_icmp_ne C 84 dX11_findRound_60 (by decide) (fun c60 => ?_) (fun c60 => ?_)
        · rw [oI_m1 hb2] at c60
          first
          | (have hnb : ¬ bad9 D R sd d := fun z => z.elim (fun y => y c76) (fun y => y c68)
             have ef := tF_none hno c60 hnb
             exact s84 (by omega) hno h8 _ ag8 hw8 mk8 b8 l8 (by rw [ef, ← c60]; exact f8))
          | (refine s84 (by omega) hno h8 _ ag8 hw8 mk8 b8 l8 ?_
             obtain ⟨x, hx⟩ := Option.ne_none_iff_exists'.mp c60
             rw [tF_had hno hx, ← hx]; exact f8)
          | exact k3 c60 (Or.inr c68) (by omega) _
          | exact k3 c60 (Or.inl c76) (by omega) _
        · rw [oI_m1 hb2] at c60
          refine zz_aload_0 C dX11_findRound_63 <| zpc 64 rfl <| ?_
          refine zf_callVI C hR [] (c_pastUse hT hWn.1.1 hw8.1.1) lX11_308 rfl (tM_K hT) (by decide) rfl ⟨zle rfl, zle rfl, zle rfl, zle rfl⟩ (zle rfl) dX11_findRound_64 ?_
          refine zz_iconst_m1 C dX11_findRound_67 <| zpc 68 rfl <| ?_
          refine zz_icmp_ne C 79 dX11_findRound_68 (by decide) (fun c68 => ?_) (fun c68 => ?_)
          · rw [oI_m1 hpp] at c68
            refine zz_aload_0 C dX11_findRound_79 <| zz_iload_1 C dX11_findRound_80 <| zy_putI C fX11_321 pX11_57 (tM_K hT) dX11_findRound_81 <| zpc 84 rfl <| ?_
            first
            | (have hnb : ¬ bad9 D R sd d := fun z => z.elim (fun y => y c76) (fun y => y c68)
               have ef := tF_none hno c60 hnb
               exact s84 (by omega) hno h8 _ ag8 hw8 mk8 b8 l8 (by rw [ef, ← c60]; exact f8))
            | (refine s84 (by omega) hno h8 _ ag8 hw8 mk8 b8 l8 ?_
               obtain ⟨x, hx⟩ := Option.ne_none_iff_exists'.mp c60
               rw [tF_had hno hx, ← hx]; exact f8)
            | exact k3 c60 (Or.inr c68) (by omega) _
            | exact k3 c60 (Or.inl c76) (by omega) _
          · rw [oI_m1 hpp] at c68
            refine zz_aload_0 C dX11_findRound_71 <| zz_getI C fX11_278 (tM_K hT) dX11_findRound_72 <| zpc 75 rfl <| ?_
            rw [hfs8]
            refine zz_iconst_m1 C dX11_findRound_75 <| zpc 76 rfl <| ?_
            refine zz_icmp_eq C 84 dX11_findRound_76 (by decide) (fun c76 => ?_) (fun c76 => ?_)
            · rw [oI_m1 hfs] at c76
              first
              | (have hnb : ¬ bad9 D R sd d := fun z => z.elim (fun y => y c76) (fun y => y c68)
                 have ef := tF_none hno c60 hnb
                 exact s84 (by omega) hno h8 _ ag8 hw8 mk8 b8 l8 (by rw [ef, ← c60]; exact f8))
              | (refine s84 (by omega) hno h8 _ ag8 hw8 mk8 b8 l8 ?_
                 obtain ⟨x, hx⟩ := Option.ne_none_iff_exists'.mp c60
                 rw [tF_had hno hx, ← hx]; exact f8)
              | exact k3 c60 (Or.inr c68) (by omega) _
              | exact k3 c60 (Or.inl c76) (by omega) _
            · rw [oI_m1 hfs] at c76
              refine zz_aload_0 C dX11_findRound_79 <| zz_iload_1 C dX11_findRound_80 <| zy_putI C fX11_321 pX11_57 (tM_K hT) dX11_findRound_81 <| zpc 84 rfl <| ?_
              first
              | (have hnb : ¬ bad9 D R sd d := fun z => z.elim (fun y => y c76) (fun y => y c68)
                 have ef := tF_none hno c60 hnb
                 exact s84 (by omega) hno h8 _ ag8 hw8 mk8 b8 l8 (by rw [ef, ← c60]; exact f8))
              | (refine s84 (by omega) hno h8 _ ag8 hw8 mk8 b8 l8 ?_
                 obtain ⟨x, hx⟩ := Option.ne_none_iff_exists'.mp c60
                 rw [tF_had hno hx, ← hx]; exact f8)
              | exact k3 c60 (Or.inr c68) (by omega) _
              | exact k3 c60 (Or.inl c76) (by omega) _
  have hN9 : D.2.1.1.1 ≤ 11 := by omega
  refine zz_aload_0 C dX11_findRound_0 <| zpc 1 rfl <| ?_
  refine zy_callVV C hR [] (c_lays hT hD hm) lX11_255 rfl (tM_K hT) (by decide) rfl ⟨zle rfl, zle rfl, zle rfl, zle rfl⟩ (zle rfl) dX11_findRound_1 ?_
  intro t' h1 hv; obtain ⟨rfl, a1, hw⟩ := hv; have hw : mWk h1 D.1 D.2.1 yP0 (x0 D sd) := (by rw [hsd]; exact hw); have dr : mPl (zsI h1 157 42 1) yPd := (by obtain ⟨p1, p2, p3, p4, p5, p6, p7⟩ := hw.1.2.2.1; refine ⟨?_, ?_, fun z => absurd rfl z, ?_, ?_, ?_, zI_self _ _ _ _⟩ <;> rw [zI_sI, if_neg (by omega)] <;> assumption); have q1 : ∀ i k, ¬ (i = 157 ∧ k = 42) → ∀ v, zI h1 i k = v → zI (zsI h1 157 42 1) i k = v := (fun i k z v e => by rw [zI_sI, if_neg z]; exact e); have hw1 : mWk (zsI h1 157 42 1) D.1 D.2.1 yPd (xRg D R sd 0) := (by obtain ⟨⟨⟨n1, n2, n3, n4⟩, ⟨l1, l2, l3, l4, l5⟩, -, t1, t2, t3, t4⟩, r1, r2, r3, r4, r5, r6, r7, r8⟩ := hw; refine ⟨⟨⟨q1 _ _ ?_ _ n1, q1 _ _ ?_ _ n2, q1 _ _ ?_ _ n3, fun k hk => ⟨fun i hi => q1 _ _ ?_ _ ((n4 k hk).1 i hi), q1 _ _ ?_ _ (n4 k hk).2⟩⟩, ⟨q1 _ _ ?_ _ l1, q1 _ _ ?_ _ l2, q1 _ _ ?_ _ l3, fun g hg i hi => q1 _ _ ?_ _ (l4 g hg i hi), fun k hk => q1 _ _ ?_ _ (l5 k hk)⟩, dr, q1 _ _ ?_ _ t1, q1 _ _ ?_ _ t2, t3, t4⟩, fun k hk => q1 _ _ ?_ _ (r1 k hk), q1 _ _ ?_ _ r2, q1 _ _ ?_ _ r3, r4, r5, q1 _ _ ?_ _ r6, q1 _ _ ?_ _ r7, q1 _ _ ?_ _ r8⟩ <;> omega); have hw2 : mWk (zsI (zsI (zsI (zsI h1 157 42 1) 157 55 (-1)) 157 56 (-1)) 157 57 (-1)) D.1 D.2.1 yPd (xRg D R sd 0) := mWk.fo (h := zsI h1 157 42 1) (hDd.w sd).1 (fun i k z => by rw [zI_sI, if_neg (by omega), zI_sI, if_neg (by omega), zI_sI, if_neg (by omega)]) rfl rfl hw1; have hro2 : zI (zsI (zsI (zsI (zsI h1 157 42 1) 157 55 (-1)) 157 56 (-1)) 157 57 (-1)) 157 20 = nI R.1 := (by rw [zI_sI, if_neg (by omega), zI_sI, if_neg (by omega), zI_sI, if_neg (by omega), zI_sI, if_neg (by omega)]; exact (hro.ag3 a1).1); have a2 : zAg3 (zsI h1 157 42 1) (zsI (zsI (zsI (zsI h1 157 42 1) 157 55 (-1)) 157 56 (-1)) 157 57 (-1)) := (((zAg3.rf _).sI (by unfold sc3; omega)).sI (by unfold sc3; omega)).sI (by unfold sc3; omega)
  refine zz_aload_0 C dX11_findRound_4 <| zz_iconst_1 C dX11_findRound_5 <| zy_putZ C fX11_274 pX11_42 (by decide) (tM_K hT) dX11_findRound_6 <| zz_aload_0 C dX11_findRound_9 <| zz_iconst_m1 C dX11_findRound_10 <| zy_putI C fX11_315 pX11_55 (tM_K hT) dX11_findRound_11 <| zz_aload_0 C dX11_findRound_14 <| zz_iconst_m1 C dX11_findRound_15 <| zy_putI C fX11_318 pX11_56 (tM_K hT) dX11_findRound_16 <| zz_aload_0 C dX11_findRound_19 <| zz_iconst_m1 C dX11_findRound_20 <| zy_putI C fX11_321 pX11_57 (tM_K hT) dX11_findRound_21 <| zz_aload_0 C dX11_findRound_24 <| zz_iconst_0 C dX11_findRound_25 <| zpc 26 rfl <| ?_
  refine zy_callVV C hR [_] (c_keeps (w := (xRg D R sd 0).1.1) (r := (xRg D R sd 0).1.2) (gone := 0) (day := D.2.2.2 + 0) (m := R.1) hT hN9 0 (by omega) hw2.1.1.2.1 (fun k hk => ⟨(hw2.1.1.2.2.2 k hk).2, hw2.2.1 k hk, (wr11_b hDd 0 k hk).1, (wr11_b hDd 0 k hk).2⟩) hw2.2.2.2.1 hw2.1.2.2.2.1 hro2 hR0 hR3 (by omega) (by omega)) lX11_324 rfl (tM_K hT) (by decide) rfl ⟨zle rfl, zle rfl, zle rfl, zle rfl⟩ (zle rfl) dX11_findRound_26 ?_
  intro t3 h3 hv; obtain ⟨rfl, kp⟩ := hv
  refine zz_iconst_0 C dX11_findRound_29 <| zz_istore_1 C (zle rfl) rfl dX11_findRound_30 <| zpc 31 rfl <| ?_
  refine wh h1 a1 0 (by omega) _ _ (a2.tr ⟨fun i k _ => kp.1 i k, fun i k z => kp.2.1 i k (fun y => z (by unfold sl3; omega))⟩) ⟨fun i hi => ?_, ?_, ?_, ?_⟩ (hw2.fo (hDd.w sd).1 (fun i k _ => kp.1 i k) (kp.2.1 _ _ (by omega)) (kp.2.1 _ _ (by omega)))
  · rw [show i = 0 by omega]; exact kp.2.2
  · rw [kp.1, zI_sI, if_neg (by omega), zI_sI, if_neg (by omega), zI_self]; rfl
  · rw [kp.1, zI_sI, if_neg (by omega), zI_self]; rfl
  · rw [kp.1]; exact zI_self _ _ _ _
theorem c_ever1 (hT : zTM t) (hD : sdOk D yP0) (hm : mSd h D yP0) (hn : D.2.1.1.1 ≤ 10) (hRo : roOk R) (hro : mRo h R) (hR0 : 0 < R.1) (htd : D.2.2.2 + 4000 < 2 ^ 20) (q : Nat) (hq : q ≤ 3) : zMet E b l yX11_ever cX11_ever 2 (some .int) 6 0 0 [.ref (b + 157), .int (nI q)] t h (qI (fun v t' h' => v = eWhat D R (zI h 157 41) q ∧ mCl h t D 0 t' h')) := by
  have hm0 := hm.th hD 0
  have hro0 := mRo.ag4 (zAg4.th h 0) hro
  have hR3 := hRo.1
  have o1 : (0 ≤ nI q ∧ nI q ≤ 3) := (upTo 3 3 rfl (by omega)).mpr ⟨q, hq, rfl⟩
  have esd : zI (zsI h 157 0 0) 157 41 = zI h 157 41 := by rw [zI_sI, if_neg (by omega)]
  generalize hsd : zI h 157 41 = sd at esd ⊢
  have hb1 : ∀ x, (rF (eR9 D R sd) 4000).map Prod.fst = some x → x < 2 ^ 31 := fun x z => by
    cases e : rF (eR9 D R sd) 4000 with
    | none => rw [e] at z; cases z
    | some y =>
      rw [e] at z
      have z2 : y.1 = x := Option.some.inj z
      have := rF_lt 4000 y e
      omega
  have hb2 : ∀ x, tF (eR9 D R sd) (bad9 D R sd) 4000 = some x → x < 2 ^ 31 := fun x z => by have := tF_lt 4000 x z; omega
  have hs : (rF (eR9 D R sd) 4000).map Prod.fst = none ↔ (rF (eR9 D R sd) 4000).map Prod.snd = none := by
    cases e : rF (eR9 D R sd) 4000 with
    | none => exact ⟨fun _ => rfl, fun _ => rfl⟩
    | some y => exact ⟨fun z => (by cases z), fun z => (by cases z)⟩
  refine zMet.of (ls := [some (.ref (b + 157)), some (.int (nI q))]) (by decide) (zle rfl) 0 rfl ?_
  intro G hlG C hR hE hin
  have s53 : ∀ h2, zAg3 (zsI h 157 0 0) h2 → mFe D R sd h2 → zAW E b G 2 0 0 53 [some (.ref (b + 157)), some (.int (nI q))] [] t h2 := by
    intro h2 a1 fe
    have hcl : mCl h t D 0 t h2 := ⟨rfl, .tr (.of4 (zAg4.th h 0)) (.of3 a1), a1.th (zI_self _ _ _ _), a1.sd hD hm0⟩
    obtain rfl | rfl | rfl | rfl : q = 0 ∨ q = 1 ∨ q = 2 ∨ q = 3 := by omega
    ·
      refine zz_iload_1 C dX11_ever_53 <| zpc 54 rfl <| ?_
      refine zz_if_ne C 81 dX11_ever_54 (by decide) (fun c54 => ?_) (fun c54 => ?_)
      · exact absurd rfl c54
      · refine zz_aload_0 C dX11_ever_57 <| zz_getI C fX11_315 (tM_K hT) dX11_ever_58 <| zpc 61 rfl <| ?_
        rw [fe.1]
        refine zz_iconst_m1 C dX11_ever_61 <| zpc 62 rfl <| ?_
        refine zz_icmp_eq C 77 dX11_ever_62 (by decide) (fun c62 => ?_) (fun c62 => ?_)
        · rw [oI_m1 hb1] at c62
          refine zz_iconst_0 C dX11_ever_77 <| zz_goto C 109 dX11_ever_78 (by decide) <| zpc 109 rfl <| ?_
          refine zy_ireturn C hE (zle rfl) (zle rfl) dX11_ever_109 ?_
          refine ⟨?_, hcl⟩
          unfold eWhat
          rw [if_pos rfl]
          first
            | (have k9 : (rF (eR9 D R sd) 4000).map Prod.snd ≠ none ∧ tF (eR9 D R sd) (bad9 D R sd) 4000 = none := ⟨fun z => c62 (hs.mpr z), c70⟩
               exact (zb_t k9).symm)
            | (have k9 : ¬ ((rF (eR9 D R sd) 4000).map Prod.snd ≠ none ∧ tF (eR9 D R sd) (bad9 D R sd) 4000 = none) := fun z => z.1 (hs.mp c62)
               exact (zb_f k9).symm)
            | (have k9 : ¬ ((rF (eR9 D R sd) 4000).map Prod.snd ≠ none ∧ tF (eR9 D R sd) (bad9 D R sd) 4000 = none) := fun z => c70 z.2
               exact (zb_f k9).symm)
        · rw [oI_m1 hb1] at c62
          refine zz_aload_0 C dX11_ever_65 <| zz_getI C fX11_321 (tM_K hT) dX11_ever_66 <| zpc 69 rfl <| ?_
          rw [fe.2.2]
          refine zz_iconst_m1 C dX11_ever_69 <| zpc 70 rfl <| ?_
          refine zz_icmp_ne C 77 dX11_ever_70 (by decide) (fun c70 => ?_) (fun c70 => ?_)
          · rw [oI_m1 hb2] at c70
            refine zz_iconst_0 C dX11_ever_77 <| zz_goto C 109 dX11_ever_78 (by decide) <| zpc 109 rfl <| ?_
            refine zy_ireturn C hE (zle rfl) (zle rfl) dX11_ever_109 ?_
            refine ⟨?_, hcl⟩
            unfold eWhat
            rw [if_pos rfl]
            first
              | (have k9 : (rF (eR9 D R sd) 4000).map Prod.snd ≠ none ∧ tF (eR9 D R sd) (bad9 D R sd) 4000 = none := ⟨fun z => c62 (hs.mpr z), c70⟩
                 exact (zb_t k9).symm)
              | (have k9 : ¬ ((rF (eR9 D R sd) 4000).map Prod.snd ≠ none ∧ tF (eR9 D R sd) (bad9 D R sd) 4000 = none) := fun z => z.1 (hs.mp c62)
                 exact (zb_f k9).symm)
              | (have k9 : ¬ ((rF (eR9 D R sd) 4000).map Prod.snd ≠ none ∧ tF (eR9 D R sd) (bad9 D R sd) 4000 = none) := fun z => c70 z.2
                 exact (zb_f k9).symm)
          · rw [oI_m1 hb2] at c70
            refine zz_iconst_1 C dX11_ever_73 <| zz_goto C 109 dX11_ever_74 (by decide) <| zpc 109 rfl <| ?_
            refine zy_ireturn C hE (zle rfl) (zle rfl) dX11_ever_109 ?_
            refine ⟨?_, hcl⟩
            unfold eWhat
            rw [if_pos rfl]
            first
              | (have k9 : (rF (eR9 D R sd) 4000).map Prod.snd ≠ none ∧ tF (eR9 D R sd) (bad9 D R sd) 4000 = none := ⟨fun z => c62 (hs.mpr z), c70⟩
                 exact (zb_t k9).symm)
              | (have k9 : ¬ ((rF (eR9 D R sd) 4000).map Prod.snd ≠ none ∧ tF (eR9 D R sd) (bad9 D R sd) 4000 = none) := fun z => z.1 (hs.mp c62)
                 exact (zb_f k9).symm)
              | (have k9 : ¬ ((rF (eR9 D R sd) 4000).map Prod.snd ≠ none ∧ tF (eR9 D R sd) (bad9 D R sd) 4000 = none) := fun z => c70 z.2
                 exact (zb_f k9).symm)
    ·
      refine zz_iload_1 C dX11_ever_53 <| zpc 54 rfl <| ?_
      refine zz_if_ne C 81 dX11_ever_54 (by decide) (fun c54 => ?_) (fun c54 => ?_)
      · refine zz_iload_1 C dX11_ever_81 <| zz_iconst_1 C dX11_ever_82 <| zpc 83 rfl <| ?_
        refine zz_icmp_ne C 93 dX11_ever_83 (by decide) (fun c83 => ?_) (fun c83 => ?_)
        · exact absurd rfl c83
        · refine zz_aload_0 C dX11_ever_86 <| zz_getI C fX11_315 (tM_K hT) dX11_ever_87 <| zz_goto C 109 dX11_ever_90 (by decide) <| zpc 109 rfl <| ?_
          refine zy_ireturn C hE (zle rfl) (zle rfl) dX11_ever_109 ?_
          refine ⟨?_, hcl⟩; unfold eWhat; rw [if_neg (by decide), if_pos rfl]; exact fe.1
      · exact absurd c54 (by decide)
    ·
      refine zz_iload_1 C dX11_ever_53 <| zpc 54 rfl <| ?_
      refine zz_if_ne C 81 dX11_ever_54 (by decide) (fun c54 => ?_) (fun c54 => ?_)
      · refine zz_iload_1 C dX11_ever_81 <| zz_iconst_1 C dX11_ever_82 <| zpc 83 rfl <| ?_
        refine zz_icmp_ne C 93 dX11_ever_83 (by decide) (fun c83 => ?_) (fun c83 => ?_)
        · refine zz_iload_1 C dX11_ever_93 <| zz_iconst_2 C dX11_ever_94 <| zpc 95 rfl <| ?_
          refine zz_icmp_ne C 105 dX11_ever_95 (by decide) (fun c95 => ?_) (fun c95 => ?_)
          · exact absurd rfl c95
          · refine zz_aload_0 C dX11_ever_98 <| zz_getI C fX11_318 (tM_K hT) dX11_ever_99 <| zz_goto C 109 dX11_ever_102 (by decide) <| zpc 109 rfl <| ?_
            refine zy_ireturn C hE (zle rfl) (zle rfl) dX11_ever_109 ?_
            refine ⟨?_, hcl⟩; unfold eWhat; rw [if_neg (by decide), if_neg (by decide), if_pos rfl]; exact fe.2.1
        · exact absurd c83 (by decide)
      · exact absurd c54 (by decide)
    ·
      refine zz_iload_1 C dX11_ever_53 <| zpc 54 rfl <| ?_
      refine zz_if_ne C 81 dX11_ever_54 (by decide) (fun c54 => ?_) (fun c54 => ?_)
      · refine zz_iload_1 C dX11_ever_81 <| zz_iconst_1 C dX11_ever_82 <| zpc 83 rfl <| ?_
        refine zz_icmp_ne C 93 dX11_ever_83 (by decide) (fun c83 => ?_) (fun c83 => ?_)
        · refine zz_iload_1 C dX11_ever_93 <| zz_iconst_2 C dX11_ever_94 <| zpc 95 rfl <| ?_
          refine zz_icmp_ne C 105 dX11_ever_95 (by decide) (fun c95 => ?_) (fun c95 => ?_)
          · refine zz_aload_0 C dX11_ever_105 <| zz_getI C fX11_321 (tM_K hT) dX11_ever_106 <| zpc 109 rfl <| ?_
            refine zy_ireturn C hE (zle rfl) (zle rfl) dX11_ever_109 ?_
            refine ⟨?_, hcl⟩; unfold eWhat; rw [if_neg (by decide), if_neg (by decide), if_neg (by decide)]; exact fe.2.2
          · exact absurd c95 (by decide)
        · exact absurd c83 (by decide)
      · exact absurd c54 (by decide)
  refine zz_aload_0 C dX11_ever_0 <| zz_iconst_0 C dX11_ever_1 <| zy_putI C fX11_104 pX11_0 (tM_K hT) dX11_ever_2 <| zz_aload_0 C dX11_ever_5 <| zz_iload_1 C dX11_ever_6 <| zz_iconst_0 C dX11_ever_7 <| zz_iconst_3 C dX11_ever_8 <| zpc 9 rfl <| ?_
  refine zf_callSI C hR [_, _, _] (c_in _ _ _) lX11_138 rfl ⟨zle rfl, zle rfl, zle rfl, zle rfl⟩ (zle rfl) dX11_ever_9 ?_
  refine zz_if_ne C 19 dX11_ever_12 (by decide) (fun c12 => ?_) (fun c12 => ?_)
  · refine zz_iconst_0 C dX11_ever_19 <| zz_iconst_1 C dX11_ever_20 <| zpc 21 rfl <| ?_
    refine zf_callVI C hR [_, _] (c_bad0 hT _ (by decide) (by first | exact zI_self _ _ _ _ | assumption)) lX11_181 rfl (tM_K hT) (by decide) rfl ⟨zle rfl, zle rfl, zle rfl, zle rfl⟩ (zle rfl) dX11_ever_21 ?_
    refine zz_if_ne C 47 dX11_ever_24 (by decide) (fun c24 => ?_) (fun c24 => ?_)
    · exact absurd rfl c24
    · refine zz_aload_0 C dX11_ever_27 <| zz_aload_0 C dX11_ever_28 <| zz_getI C fX11_191 (tM_K hT) dX11_ever_29 <| zpc 32 rfl <| ?_
      rw [hro0.1]
      refine zz_if_ne C 39 dX11_ever_32 (by decide) (fun c32 => ?_) (fun c32 => ?_)
      · refine zz_iconst_0 C dX11_ever_39 <| zz_iconst_2 C dX11_ever_40 <| zpc 41 rfl <| ?_
        refine zf_callVI C hR [_, _] (c_bad0 hT _ (by decide) (by first | exact zI_self _ _ _ _ | assumption)) lX11_181 rfl (tM_K hT) (by decide) rfl ⟨zle rfl, zle rfl, zle rfl, zle rfl⟩ (zle rfl) dX11_ever_41 ?_
        refine zz_if_eq C 49 dX11_ever_44 (by decide) (fun c44 => ?_) (fun c44 => ?_)
        · refine zz_aload_0 C dX11_ever_49 <| zpc 50 rfl <| ?_
          refine zy_callVV C hR [] (c_findRound hT hD hm0 hn hRo hro0 hR0 htd) lX11_327 rfl (tM_K hT) (by decide) rfl ⟨zle rfl, zle rfl, zle rfl, zle rfl⟩ (zle rfl) dX11_ever_50 ?_
          intro t2 h2 hv; obtain ⟨rfl, a1, fe⟩ := hv; rw [esd] at fe
          exact s53 h2 a1 fe
        · exact absurd rfl c44
      · exact absurd c32 (nI_ne0 hR0 (by omega))
  · rw [zb_eq0] at c12; exact absurd o1 c12
theorem c_ever0 (hT : zTM t) (hD : sdOk D yP0) (hm : mSd h D yP0) (x : Int32) (hno : ¬ ∃ k, k ≤ 3 ∧ x = nI k) : zMet E b l yX11_ever cX11_ever 2 (some .int) 6 0 0 [.ref (b + 157), .int x] t h (qI (fun v t' h' => v = 0 ∧ mCl h t D 1 t' h')) := by
  refine zMet.of (ls := [some (.ref (b + 157)), some (.int x)]) (by decide) (zle rfl) 0 rfl ?_
  intro G hlG C hR hE hin
  refine zz_aload_0 C dX11_ever_0 <| zz_iconst_0 C dX11_ever_1 <| zy_putI C fX11_104 pX11_0 (tM_K hT) dX11_ever_2 <| zz_aload_0 C dX11_ever_5 <| zz_iload_1 C dX11_ever_6 <| zz_iconst_0 C dX11_ever_7 <| zz_iconst_3 C dX11_ever_8 <| zpc 9 rfl <| ?_
  refine zf_callSI C hR [_, _, _] (c_in _ _ _) lX11_138 rfl ⟨zle rfl, zle rfl, zle rfl, zle rfl⟩ (zle rfl) dX11_ever_9 ?_
  refine zz_if_ne C 19 dX11_ever_12 (by decide) (fun c12 => ?_) (fun c12 => ?_)
  · rw [zb_ne0] at c12; exact absurd ((upTo 3 3 rfl (by omega)).mp c12) hno
  · refine zz_iconst_1 C dX11_ever_15 <| zz_goto C 20 dX11_ever_16 (by decide) <| zz_iconst_1 C dX11_ever_20 <| zpc 21 rfl <| ?_
    refine zf_callVI C hR [_, _] (c_bad1 hT _ (by decide) (by first | exact zI_self _ _ _ _ | assumption)) lX11_181 rfl (tM_K hT) (by decide) rfl ⟨zle rfl, zle rfl, zle rfl, zle rfl⟩ (zle rfl) dX11_ever_21 ?_
    refine zz_if_ne C 47 dX11_ever_24 (by decide) (fun c24 => ?_) (fun c24 => ?_)
    · refine zz_iconst_0 C dX11_ever_47 <| zpc 48 rfl <| ?_
      refine zy_ireturn C hE (zle rfl) (zle rfl) dX11_ever_48 ?_
      exact ⟨rfl, rfl, .of4 ((zAg4.th h 0).tr (zAg4.th _ 1)), zI_self _ _ _ _, (hm.th hD 0).th hD 1⟩
    · exact absurd c24 (by decide)
theorem c_ever2 (hT : zTM t) (hD : sdOk D yP0) (hm : mSd h D yP0) (hro : mRo h R) (hR0 : R.1 = 0) (q : Nat) (hq : q ≤ 3) : zMet E b l yX11_ever cX11_ever 2 (some .int) 6 0 0 [.ref (b + 157), .int (nI q)] t h (qI (fun v t' h' => v = 0 ∧ mCl h t D 2 t' h')) := by
  have o1 : (0 ≤ nI q ∧ nI q ≤ 3) := (upTo 3 3 rfl (by omega)).mpr ⟨q, hq, rfl⟩
  have hr0 : zI (zsI h 157 0 0) 157 20 = 0 := by rw [zI_sI, if_neg (by omega), hro.1, hR0]; rfl
  refine zMet.of (ls := [some (.ref (b + 157)), some (.int (nI q))]) (by decide) (zle rfl) 0 rfl ?_
  intro G hlG C hR hE hin
  refine zz_aload_0 C dX11_ever_0 <| zz_iconst_0 C dX11_ever_1 <| zy_putI C fX11_104 pX11_0 (tM_K hT) dX11_ever_2 <| zz_aload_0 C dX11_ever_5 <| zz_iload_1 C dX11_ever_6 <| zz_iconst_0 C dX11_ever_7 <| zz_iconst_3 C dX11_ever_8 <| zpc 9 rfl <| ?_
  refine zf_callSI C hR [_, _, _] (c_in _ _ _) lX11_138 rfl ⟨zle rfl, zle rfl, zle rfl, zle rfl⟩ (zle rfl) dX11_ever_9 ?_
  refine zz_if_ne C 19 dX11_ever_12 (by decide) (fun c12 => ?_) (fun c12 => ?_)
  · refine zz_iconst_0 C dX11_ever_19 <| zz_iconst_1 C dX11_ever_20 <| zpc 21 rfl <| ?_
    refine zf_callVI C hR [_, _] (c_bad0 hT _ (by decide) (by first | exact zI_self _ _ _ _ | assumption)) lX11_181 rfl (tM_K hT) (by decide) rfl ⟨zle rfl, zle rfl, zle rfl, zle rfl⟩ (zle rfl) dX11_ever_21 ?_
    refine zz_if_ne C 47 dX11_ever_24 (by decide) (fun c24 => ?_) (fun c24 => ?_)
    · exact absurd rfl c24
    · refine zz_aload_0 C dX11_ever_27 <| zz_aload_0 C dX11_ever_28 <| zz_getI C fX11_191 (tM_K hT) dX11_ever_29 <| zpc 32 rfl <| ?_
      rw [hr0]
      refine zz_if_ne C 39 dX11_ever_32 (by decide) (fun c32 => ?_) (fun c32 => ?_)
      · exact absurd rfl c32
      · refine zz_iconst_1 C dX11_ever_35 <| zz_goto C 40 dX11_ever_36 (by decide) <| zz_iconst_2 C dX11_ever_40 <| zpc 41 rfl <| ?_
        refine zf_callVI C hR [_, _] (c_bad1 hT _ (by decide) (by first | exact zI_self _ _ _ _ | assumption)) lX11_181 rfl (tM_K hT) (by decide) rfl ⟨zle rfl, zle rfl, zle rfl, zle rfl⟩ (zle rfl) dX11_ever_41 ?_
        refine zz_if_eq C 49 dX11_ever_44 (by decide) (fun c44 => ?_) (fun c44 => ?_)
        · exact absurd c44 (by decide)
        · refine zz_iconst_0 C dX11_ever_47 <| zpc 48 rfl <| ?_
          refine zy_ireturn C hE (zle rfl) (zle rfl) dX11_ever_48 ?_
          exact ⟨rfl, rfl, .of4 ((zAg4.th h 0).tr (zAg4.th _ 2)), zI_self _ _ _ _, (hm.th hD 0).th hD 2⟩
  · rw [zb_eq0] at c12; exact absurd o1 c12
end MEV2
