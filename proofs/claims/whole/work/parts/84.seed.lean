/-! ===== both: lots ===== -/
abbrev yPl : yP := (none, (none, 0), true, none, none, false)
def sWhat (x : yS) (q : Nat) : Int64 := if q = 0 then lN x.2.2.2.1.1 else if q = 1 then (nI x.2.2.2.2.1.2.1).toInt64 else (nI x.2.2.2.2.1.1).toInt64
section SE
variable {E : zE} {b : Nat} {G : zG} {t : zT} {h : zH} {l : Launch} {a c e : Nat} {D : yD} {Mo : Nat × (Nat → Nat → Nat)} {R : Nat × (Nat → Nat)}
theorem c10_seed1 (hX : zTX t a c e) (hO : dOk D Mo R) (hm : cSn h a D Mo R) (k d q : Nat) (s : Int32) (hk : k ≤ 3) (hd1 : 1 ≤ d) (hd : d ≤ 366) (hq : q ≤ 2) (hkr : k = 1 → 0 < R.1) : zMet E b l yX10_seed cX10_seed 7 (some .long) 8 0 0 [.ref (b + 0), .int (nI k), .int (nI d), .int s, .int (nI q)] t h (qJ (fun v t' h' => v = sWhat (dDays D.1 D.2.1 yPl R k d (x0 D s)) q ∧ cAsk t a h t' h')) := by
  have ha := tX_a2 hX
  have htd := hO.1.2.2.2.2
  have hng := hO.1.1.2.1.2.2.1
  have hD1 : sdOk D yPl := hO.1
  have hpx : pX yPl := ⟨(fun x z => by cases z), (fun x z => by cases z), (fun x z => by cases z)⟩
  refine zMet.of (ls := [some (.ref (b + 0)), some (.int (nI k)), some (.int (nI d)), some (.int s), some (.int (nI q)), none, none]) (by decide) (zle rfl) 2 rfl ?_
  intro G hlG C hR hE hin
  have s80 : ∀ (h2 : zH), zTX (zsR t 73 6 (some a)) a c a → cAg 73 90 h h2 → cWk h2 a D.2.1.1.1 none D.1 D.2.1 yPl (dDays D.1 D.2.1 yPl R k d (x0 D s)) D.2.1.1.2.2 R → zAW E b G 7 0 0 80 [some (.ref (b + 0)), some (.int (nI k)), some (.int (nI d)), some (.int s), some (.int (nI q)), some (.long (lN ((dDays D.1 D.2.1 yPl R k d (x0 D s)).2.2.2.1.1 + (dDays D.1 D.2.1 yPl R k d (x0 D s)).2.2.2.1.2.1))), none] [] (zsR t 73 6 (some a)) h2 := by
    intro h2 hX ag hw2
    have hcm : (dDays D.1 D.2.1 yPl R k d (x0 D s)).2.2.2.1.2.1 = 0 := dDays_cm rfl _ _ _ _
    have hask : cAsk t a h (zsR t 73 6 (some a)) h2 := ⟨Or.inr rfl, ag.wd (by omega) (by omega)⟩
    obtain rfl | rfl | rfl : q = 0 ∨ q = 1 ∨ q = 2 := by omega
    ·
      refine zz_iload_4 C dX10_seed_80 <| zz_lookup C 108 dX10_seed_82 (by decide) (by first | rfl | decide) (by decide) <| zz_lload_5 C dX10_seed_108 <| zpc 110 rfl <| ?_
      refine zy_lreturn C hE (zle rfl) (zle rfl) dX10_seed_110 ?_
      rw [hcm, Nat.add_zero]; exact ⟨rfl, hask⟩
    ·
      refine zz_iload_4 C dX10_seed_80 <| zz_lookup C 111 dX10_seed_82 (by decide) (by first | rfl | decide) (by decide) <| zz_aload_0 C dX10_seed_111 <| zz_getR C fX10_41 (tX_K_X hX) (tX_R_walk hX) dX10_seed_112 <| zz_getR C fX10_179 (tX_K_walk hX) (tX_R_tally hX) dX10_seed_115 <| zz_getI C fX10_336 (tX_K_tally hX) dX10_seed_118 <| zpc 121 rfl <| ?_
      rw [hw2.2.2.1.2.1]
      refine zz_i2l C dX10_seed_121 <| zpc 122 rfl <| ?_
      refine zy_lreturn C hE (zle rfl) (zle rfl) dX10_seed_122 ?_
      exact ⟨rfl, hask⟩
    ·
      refine zz_iload_4 C dX10_seed_80 <| zz_lookup C 123 dX10_seed_82 (by decide) (by first | rfl | decide) (by decide) <| zz_aload_0 C dX10_seed_123 <| zz_getR C fX10_41 (tX_K_X hX) (tX_R_walk hX) dX10_seed_124 <| zz_getR C fX10_179 (tX_K_walk hX) (tX_R_tally hX) dX10_seed_127 <| zz_getI C fX10_202 (tX_K_tally hX) dX10_seed_130 <| zpc 133 rfl <| ?_
      rw [hw2.2.2.1.1]
      refine zz_i2l C dX10_seed_133 <| zpc 134 rfl <| ?_
      refine zy_lreturn C hE (zle rfl) (zle rfl) dX10_seed_134 ?_
      exact ⟨rfl, hask⟩
  refine zz_iload_1 C dX10_seed_0 <| zpc 1 rfl <| ?_
  refine zf_callSV C hR [_] (c10_rule1 k hk) lX10_189 rfl ⟨zle rfl, zle rfl, zle rfl, zle rfl⟩ (zle rfl) dX10_seed_1 ?_
  refine zz_iload_2 C dX10_seed_4 <| zpc 5 rfl <| ?_
  refine zf_callSV C hR [_] (c10_days1 d hd1 hd) lX10_192 rfl ⟨zle rfl, zle rfl, zle rfl, zle rfl⟩ (zle rfl) dX10_seed_5 ?_
  refine zz_iload_4 C dX10_seed_8 <| zpc 10 rfl <| ?_
  refine zz_if_lt C 23 dX10_seed_10 (by decide) (fun c10 => ?_) (fun c10 => ?_)
  · exact absurd c10 (nI_pos (by omega))
  · refine zz_iload_4 C dX10_seed_13 <| zz_iconst_2 C dX10_seed_15 <| zpc 16 rfl <| ?_
    refine zz_icmp_gt C 23 dX10_seed_16 (by decide) (fun c16 => ?_) (fun c16 => ?_)
    · exact absurd c16 (nI_nlt (a := 2) hq (by omega))
    · refine zz_iconst_1 C dX10_seed_19 <| zz_goto C 24 dX10_seed_20 (by decide) <| zpc 24 rfl <| ?_
      refine zf_callSV C hR [_] (c10_demand1 _ (by decide)) lX10_76 rfl ⟨zle rfl, zle rfl, zle rfl, zle rfl⟩ (zle rfl) dX10_seed_24 ?_
      refine zz_aload_0 C dX10_seed_27 <| zz_iload_1 C dX10_seed_28 <| zpc 29 rfl <| ?_
      refine zf_callVV C hR [_] (c10_rowFor1 hX hO.2.2.2.1.1 hk hkr hm.2.2.2.1.2) lX10_195 rfl (tX_K_X hX) (by decide) rfl ⟨zle rfl, zle rfl, zle rfl, zle rfl⟩ (zle rfl) dX10_seed_29 ?_
      refine zz_aload_0 C dX10_seed_32 <| zz_getR C fX10_41 (tX_K_X hX) (tX_R_walk hX) dX10_seed_33 <| zz_aload_0 C dX10_seed_36 <| zz_getR C fX10_19 (tX_K_X hX) (tX_R_land hX) dX10_seed_37 <| zz_aload_0 C dX10_seed_40 <| zz_getR C fX10_26 (tX_K_X hX) (tX_R_now hX) dX10_seed_41 <| zpc 44 rfl <| ?_
      refine zy_callVV C hR [_, _] (c8_beg hX hO hm s) lX10_155 rfl (tX_K_walk hX) (by decide) rfl ⟨zle rfl, zle rfl, zle rfl, zle rfl⟩ (zle rfl) dX10_seed_44 ?_
      intro t' h' hv; obtain ⟨rfl, hX, ag, hw, hsn⟩ := hv; have hw2 : cWk (zsI (zsI h' 82 8 1) 82 9 s) a D.2.1.1.1 none D.1 D.2.1 yPl (x0 D s) D.2.1.1.2.2 R := (hw.pl (by omega) hng (fun i k hi => by rw [zI_sI, if_neg (by omega), zI_sI, if_neg (by omega)]) (fun _ _ => rfl) rfl rfl (by obtain ⟨⟨p0, p1, p2, p3⟩, p4, p5, p6, p7, p8⟩ := hw.1.2.2.1; refine ⟨⟨?_, ?_, ?_, ?_⟩, ?_, ?_, ?_, ?_, ?_⟩ <;> rw [zI_sI, if_neg (by omega)] <;> first | exact zI_self _ _ _ _ | (rw [zI_sI, if_neg (by omega)]; assumption)) (fun _ => zI_self _ _ _ _) rfl rfl rfl)
      refine zz_aload_0 C dX10_seed_47 <| zz_getR C fX10_41 (tX_K_X hX) (tX_R_walk hX) dX10_seed_48 <| zz_getR C fX10_234 (tX_K_walk hX) (tX_R_plan hX) dX10_seed_51 <| zz_iconst_1 C dX10_seed_54 <| zy_putZ C fX10_330 pX2_8 (by decide) (tX_K_plan hX) dX10_seed_55 <| zz_aload_0 C dX10_seed_58 <| zz_getR C fX10_41 (tX_K_X hX) (tX_R_walk hX) dX10_seed_59 <| zz_getR C fX10_234 (tX_K_walk hX) (tX_R_plan hX) dX10_seed_62 <| zz_iload_3 C dX10_seed_65 <| zy_putI C fX10_333 pX2_9 (tX_K_plan hX) dX10_seed_66 <| zz_aload_0 C dX10_seed_69 <| zz_getR C fX10_41 (tX_K_X hX) (tX_R_walk hX) dX10_seed_70 <| zz_iload_1 C dX10_seed_73 <| zz_iload_2 C dX10_seed_74 <| zpc 75 rfl <| ?_
      refine zy_callVJ C hR [_, _] (c8_goOn hX (by omega) (hD1.w s) hpx (Nat.zero_le _) hw2 hO.2.2.2.1 k ⟨hk, hkr, fun _ => ⟨rfl, rfl, rfl⟩⟩ d (by omega) (show D.2.2.2 + d < 2 ^ 30 by omega)) lX10_198 rfl (tX_K_walk hX) (by decide) rfl ⟨zle rfl, zle rfl, zle rfl, zle rfl⟩ (zle rfl) dX10_seed_75 ?_
      intro v t' h2 hv; obtain ⟨rfl, ag2, hw3, rfl⟩ := hv
      refine zz_lstore_5 C (zle rfl) rfl dX10_seed_78 <| zpc 80 rfl <| ?_
      exact s80 h2 hX (ag.tr ((((cAg.rf _).sI (by omega) (by omega)).sI (by omega) (by omega)).tr ag2)) hw3
theorem mWk.lo {s s0 : Int32} (hm : mWk h D.1 D.2.1 yP0 (x0 D s0)) : mWk (zsI (zsI h 157 40 1) 157 41 s) D.1 D.2.1 yPl (x0 D s) := by
  obtain ⟨⟨⟨g1, g2, g3, g4⟩, ⟨l1, l2, l3, l4, l5⟩, ⟨p1, p2, p3, p4, p5, p6, p7⟩, ⟨t1, t2, t3, t4⟩⟩, h2, h3, h4, h5, h6, h7, h8, h9⟩ := hm
  have rd : ∀ i j, ¬ (i = 157 ∧ (j = 40 ∨ j = 41)) → ∀ v, zI h i j = v → zI (zsI (zsI h 157 40 1) 157 41 s) i j = v := fun i j q v e => by
    rw [zI_sI, if_neg (by omega), zI_sI, if_neg (by omega)]; exact e
  refine ⟨⟨⟨rd _ _ ?_ _ g1, rd _ _ ?_ _ g2, rd _ _ ?_ _ g3, fun j hj => ⟨fun i hi => rd _ _ ?_ _ ((g4 j hj).1 i hi), rd _ _ ?_ _ (g4 j hj).2⟩⟩, ⟨rd _ _ ?_ _ l1, rd _ _ ?_ _ l2, rd _ _ ?_ _ l3, fun g hg i hi => rd _ _ ?_ _ (l4 g hg i hi), fun j hj => rd _ _ ?_ _ (l5 j hj)⟩, ⟨rd _ _ ?_ _ p1, rd _ _ ?_ _ p2, fun z => rd _ _ ?_ _ (p3 z), ?_, rd _ _ ?_ _ p5, rd _ _ ?_ _ p6, rd _ _ ?_ _ p7⟩, ⟨rd _ _ ?_ _ t1, rd _ _ ?_ _ t2, t3, t4⟩⟩, fun j hj => rd _ _ ?_ _ (h2 j hj), rd _ _ ?_ _ h3, rd _ _ ?_ _ h4, h5, h6, rd _ _ ?_ _ h7, rd _ _ ?_ _ h8, zI_self _ _ _ _⟩
  case refine_14 => rw [zI_sI, if_neg (by omega), zI_self]; rfl
  all_goals omega
theorem c_seed1 (hT : zTM t) (hD : sdOk D yP0) (hm : mSd h D yP0) (hRo : roOk R) (hro : mRo h R) (k d q : Nat) (s : Int32) (hk : k ≤ 3) (hd1 : 1 ≤ d) (hd : d ≤ 366) (hq : q ≤ 2) (hkr : k = 1 → 0 < R.1) (htd : D.2.2.2 + d < 2 ^ 20) : zMet E b l yX11_seed cX11_seed 5 (some .long) 6 0 0 [.ref (b + 157), .int (nI k), .int (nI d), .int s, .int (nI q)] t h (qJ (fun v t' h' => v = sWhat (dDays D.1 D.2.1 yPl R k d (x0 D s)) q ∧ mCl h t D 0 t' h')) := by
  have hm0 := hm.th hD 0
  have hro0 := mRo.ag4 (zAg4.th h 0) hro
  have hR30 := hRo.1
  have hok : ((0 ≤ nI k ∧ nI k ≤ 3) ∧ 1 ≤ nI d ∧ nI d ≤ 366) := ruleOk.mpr ⟨k, d, hk, hd1, hd, rfl, rfl⟩
  have hok2 : (0 ≤ nI q ∧ nI q ≤ 2) := (upTo 2 2 rfl (by omega)).mpr ⟨q, hq, rfl⟩
  have hDl : sdOk D yPl := hD
  refine zMet.of (ls := [some (.ref (b + 157)), some (.int (nI k)), some (.int (nI d)), some (.int s), some (.int (nI q))]) (by decide) (zle rfl) 0 rfl ?_
  intro G hlG C hR hE hin
  refine zz_aload_0 C dX11_seed_0 <| zz_iconst_0 C dX11_seed_1 <| zy_putI C fX11_104 pX11_0 (tM_K hT) dX11_seed_2 <| zz_aload_0 C dX11_seed_5 <| zz_aload_0 C dX11_seed_6 <| zz_iload_1 C dX11_seed_7 <| zz_iload_2 C dX11_seed_8 <| zpc 9 rfl <| ?_
  refine zf_callVI C hR [_, _] (c_isRule hT _ _) lX11_302 rfl (tM_K hT) (by decide) rfl ⟨zle rfl, zle rfl, zle rfl, zle rfl⟩ (zle rfl) dX11_seed_9 ?_
  refine zz_if_eq C 25 dX11_seed_12 (by decide) (fun c12 => ?_) (fun c12 => ?_)
  · rw [zb_eq0] at c12; exact absurd hok c12
  · refine zz_iload_4 C dX11_seed_15 <| zz_iconst_0 C dX11_seed_17 <| zz_iconst_2 C dX11_seed_18 <| zpc 19 rfl <| ?_
    refine zf_callSI C hR [_, _, _] (c_in _ _ _) lX11_138 rfl ⟨zle rfl, zle rfl, zle rfl, zle rfl⟩ (zle rfl) dX11_seed_19 ?_
    refine zz_if_ne C 29 dX11_seed_22 (by decide) (fun c22 => ?_) (fun c22 => ?_)
    · refine zz_iconst_0 C dX11_seed_29 <| zz_iconst_1 C dX11_seed_30 <| zpc 31 rfl <| ?_
      refine zf_callVI C hR [_, _] (c_bad0 hT _ (by decide) (by first | exact zI_self _ _ _ _ | assumption)) lX11_181 rfl (tM_K hT) (by decide) rfl ⟨zle rfl, zle rfl, zle rfl, zle rfl⟩ (zle rfl) dX11_seed_31 ?_
      refine zz_if_ne C 62 dX11_seed_34 (by decide) (fun c34 => ?_) (fun c34 => ?_)
      · exact absurd rfl c34
      · refine zz_aload_0 C dX11_seed_37 <| zz_iload_1 C dX11_seed_38 <| zz_iconst_1 C dX11_seed_39 <| zpc 40 rfl <| ?_
        refine zz_icmp_ne C 54 dX11_seed_40 (by decide) (fun c40 => ?_) (fun c40 => ?_)
        · refine zz_iconst_0 C dX11_seed_54 <| zz_iconst_2 C dX11_seed_55 <| zpc 56 rfl <| ?_
          refine zf_callVI C hR [_, _] (c_bad0 hT _ (by decide) (by first | exact zI_self _ _ _ _ | assumption)) lX11_181 rfl (tM_K hT) (by decide) rfl ⟨zle rfl, zle rfl, zle rfl, zle rfl⟩ (zle rfl) dX11_seed_56 ?_
          refine zz_if_eq C 64 dX11_seed_59 (by decide) (fun c59 => ?_) (fun c59 => ?_)
          · refine zz_aload_0 C dX11_seed_64 <| zpc 65 rfl <| ?_
            refine zy_callVV C hR [] (c_lays hT hD hm0) lX11_255 rfl (tM_K hT) (by decide) rfl ⟨zle rfl, zle rfl, zle rfl, zle rfl⟩ (zle rfl) dX11_seed_65 ?_
            intro t' h1 hv; obtain ⟨rfl, a1, hw⟩ := hv; have rd1 : ∀ i j, ¬ (i = 157 ∧ (j = 40 ∨ j = 41)) → zI (zsI (zsI h1 157 40 1) 157 41 s) i j = zI h1 i j := (fun i j z => by rw [zI_sI, if_neg (by omega), zI_sI, if_neg (by omega)])
            refine zz_aload_0 C dX11_seed_68 <| zz_iconst_1 C dX11_seed_69 <| zy_putI C fX11_79 pX11_40 (tM_K hT) dX11_seed_70 <| zz_aload_0 C dX11_seed_73 <| zz_iload_3 C dX11_seed_74 <| zy_putI C fX11_270 pX11_41 (tM_K hT) dX11_seed_75 <| zz_aload_0 C dX11_seed_78 <| zz_iload_1 C dX11_seed_79 <| zz_iload_2 C dX11_seed_80 <| zpc 81 rfl <| ?_
            refine zy_callVV C hR [_, _] (c_goes hT (hDl.w s) (hw.lo (s := s)) hRo (R := R) ⟨(by rw [rd1 _ _ (by omega)]; exact (hro0.ag3 a1).1), fun j hj => (by rw [rd1 _ _ (by omega)]; exact (hro0.ag3 a1).2 j hj)⟩ k d hk hkr (by omega) htd) lX11_305 rfl (tM_K hT) (by decide) rfl ⟨zle rfl, zle rfl, zle rfl, zle rfl⟩ (zle rfl) dX11_seed_81 ?_
            intro t' h2 hv; obtain ⟨rfl, a2, hw2⟩ := hv; have a5 : zAg3 (zsI h 157 0 0) (zsI h2 157 40 (-1)) := a1.tr ⟨fun i j z => (by rw [zI_sI]; by_cases y : i = 157 ∧ j = 40; rw [if_pos y, y.1, y.2]; exact ((a1.sd hD hm0).2.1.2.2.2.1).symm; rw [if_neg y, (zAg3.of2 a2).1 i j z]; exact rd1 i j (fun x => z (by unfold sc3 sc2 sc1; omega))), fun i j z => (zAg3.of2 a2).2 i j z⟩
            refine zz_aload_0 C dX11_seed_84 <| zz_iconst_m1 C dX11_seed_85 <| zy_putI C fX11_79 pX11_40 (tM_K hT) dX11_seed_86 <| zz_iload_4 C dX11_seed_89 <| zpc 91 rfl <| ?_
            refine zz_if_ne C 101 dX11_seed_91 (by decide) (fun c91 => ?_) (fun c91 => ?_)
            · rw [show (0 : Int32) = nI 0 from rfl, nI_eq (by omega) (by omega)] at c91
              refine zz_iload_4 C dX11_seed_101 <| zz_iconst_1 C dX11_seed_103 <| zpc 104 rfl <| ?_
              refine zz_icmp_ne C 115 dX11_seed_104 (by decide) (fun c104 => ?_) (fun c104 => ?_)
              · rw [show (1 : Int32) = nI 1 from rfl, nI_eq (by omega) (by omega)] at c104
                refine zz_aload_0 C dX11_seed_115 <| zz_getI C fX11_246 (tM_K hT) dX11_seed_116 <| zpc 119 rfl <| ?_
                rw [zI_sI, if_neg (by omega), hw2.2.2.2.2.2.2.1]
                refine zz_i2l C dX11_seed_119 <| zpc 120 rfl <| ?_
                refine zy_lreturn C hE (zle rfl) (zle rfl) dX11_seed_120 ?_
                refine ⟨?_, rfl, .tr (.of4 (zAg4.th h 0)) (.of3 a5), a5.th (zI_self _ _ _ _), a5.sd hD hm0⟩
                unfold sWhat
                first
                  | (rw [if_pos c91])
                  | (rw [if_neg c91, if_pos c104])
                  | (rw [if_neg c91, if_neg c104])
              · rw [show (1 : Int32) = nI 1 from rfl, nI_eq (by omega) (by omega)] at c104
                refine zz_aload_0 C dX11_seed_107 <| zz_getI C fX11_249 (tM_K hT) dX11_seed_108 <| zpc 111 rfl <| ?_
                rw [zI_sI, if_neg (by omega), hw2.2.2.2.2.2.2.2.1]
                refine zz_i2l C dX11_seed_111 <| zz_goto C 120 dX11_seed_112 (by decide) <| zpc 120 rfl <| ?_
                refine zy_lreturn C hE (zle rfl) (zle rfl) dX11_seed_120 ?_
                refine ⟨?_, rfl, .tr (.of4 (zAg4.th h 0)) (.of3 a5), a5.th (zI_self _ _ _ _), a5.sd hD hm0⟩
                unfold sWhat
                first
                  | (rw [if_pos c91])
                  | (rw [if_neg c91, if_pos c104])
                  | (rw [if_neg c91, if_neg c104])
            · rw [show (0 : Int32) = nI 0 from rfl, nI_eq (by omega) (by omega)] at c91
              refine zz_aload_0 C dX11_seed_94 <| zz_getL C fX11_239 (tM_K hT) dX11_seed_95 <| zpc 98 rfl <| ?_
              rw [show zL (zsI h2 157 40 (-1)) 157 43 = _ from hw2.2.2.2.2.1]
              refine zz_goto C 120 dX11_seed_98 (by decide) <| zpc 120 rfl <| ?_
              refine zy_lreturn C hE (zle rfl) (zle rfl) dX11_seed_120 ?_
              refine ⟨?_, rfl, .tr (.of4 (zAg4.th h 0)) (.of3 a5), a5.th (zI_self _ _ _ _), a5.sd hD hm0⟩
              unfold sWhat
              first
                | (rw [if_pos c91])
                | (rw [if_neg c91, if_pos c104])
                | (rw [if_neg c91, if_neg c104])
          · exact absurd rfl c59
        · refine zz_aload_0 C dX11_seed_43 <| zz_getI C fX11_191 (tM_K hT) dX11_seed_44 <| zpc 47 rfl <| ?_
          rw [hro0.1]
          refine zz_if_ne C 54 dX11_seed_47 (by decide) (fun c47 => ?_) (fun c47 => ?_)
          · refine zz_iconst_0 C dX11_seed_54 <| zz_iconst_2 C dX11_seed_55 <| zpc 56 rfl <| ?_
            refine zf_callVI C hR [_, _] (c_bad0 hT _ (by decide) (by first | exact zI_self _ _ _ _ | assumption)) lX11_181 rfl (tM_K hT) (by decide) rfl ⟨zle rfl, zle rfl, zle rfl, zle rfl⟩ (zle rfl) dX11_seed_56 ?_
            refine zz_if_eq C 64 dX11_seed_59 (by decide) (fun c59 => ?_) (fun c59 => ?_)
            · refine zz_aload_0 C dX11_seed_64 <| zpc 65 rfl <| ?_
              refine zy_callVV C hR [] (c_lays hT hD hm0) lX11_255 rfl (tM_K hT) (by decide) rfl ⟨zle rfl, zle rfl, zle rfl, zle rfl⟩ (zle rfl) dX11_seed_65 ?_
              intro t' h1 hv; obtain ⟨rfl, a1, hw⟩ := hv; have rd1 : ∀ i j, ¬ (i = 157 ∧ (j = 40 ∨ j = 41)) → zI (zsI (zsI h1 157 40 1) 157 41 s) i j = zI h1 i j := (fun i j z => by rw [zI_sI, if_neg (by omega), zI_sI, if_neg (by omega)])
              refine zz_aload_0 C dX11_seed_68 <| zz_iconst_1 C dX11_seed_69 <| zy_putI C fX11_79 pX11_40 (tM_K hT) dX11_seed_70 <| zz_aload_0 C dX11_seed_73 <| zz_iload_3 C dX11_seed_74 <| zy_putI C fX11_270 pX11_41 (tM_K hT) dX11_seed_75 <| zz_aload_0 C dX11_seed_78 <| zz_iload_1 C dX11_seed_79 <| zz_iload_2 C dX11_seed_80 <| zpc 81 rfl <| ?_
              refine zy_callVV C hR [_, _] (c_goes hT (hDl.w s) (hw.lo (s := s)) hRo (R := R) ⟨(by rw [rd1 _ _ (by omega)]; exact (hro0.ag3 a1).1), fun j hj => (by rw [rd1 _ _ (by omega)]; exact (hro0.ag3 a1).2 j hj)⟩ k d hk hkr (by omega) htd) lX11_305 rfl (tM_K hT) (by decide) rfl ⟨zle rfl, zle rfl, zle rfl, zle rfl⟩ (zle rfl) dX11_seed_81 ?_
              intro t' h2 hv; obtain ⟨rfl, a2, hw2⟩ := hv; have a5 : zAg3 (zsI h 157 0 0) (zsI h2 157 40 (-1)) := a1.tr ⟨fun i j z => (by rw [zI_sI]; by_cases y : i = 157 ∧ j = 40; rw [if_pos y, y.1, y.2]; exact ((a1.sd hD hm0).2.1.2.2.2.1).symm; rw [if_neg y, (zAg3.of2 a2).1 i j z]; exact rd1 i j (fun x => z (by unfold sc3 sc2 sc1; omega))), fun i j z => (zAg3.of2 a2).2 i j z⟩
              refine zz_aload_0 C dX11_seed_84 <| zz_iconst_m1 C dX11_seed_85 <| zy_putI C fX11_79 pX11_40 (tM_K hT) dX11_seed_86 <| zz_iload_4 C dX11_seed_89 <| zpc 91 rfl <| ?_
              refine zz_if_ne C 101 dX11_seed_91 (by decide) (fun c91 => ?_) (fun c91 => ?_)
              · rw [show (0 : Int32) = nI 0 from rfl, nI_eq (by omega) (by omega)] at c91
                refine zz_iload_4 C dX11_seed_101 <| zz_iconst_1 C dX11_seed_103 <| zpc 104 rfl <| ?_
                refine zz_icmp_ne C 115 dX11_seed_104 (by decide) (fun c104 => ?_) (fun c104 => ?_)
                · rw [show (1 : Int32) = nI 1 from rfl, nI_eq (by omega) (by omega)] at c104
                  refine zz_aload_0 C dX11_seed_115 <| zz_getI C fX11_246 (tM_K hT) dX11_seed_116 <| zpc 119 rfl <| ?_
                  rw [zI_sI, if_neg (by omega), hw2.2.2.2.2.2.2.1]
                  refine zz_i2l C dX11_seed_119 <| zpc 120 rfl <| ?_
                  refine zy_lreturn C hE (zle rfl) (zle rfl) dX11_seed_120 ?_
                  refine ⟨?_, rfl, .tr (.of4 (zAg4.th h 0)) (.of3 a5), a5.th (zI_self _ _ _ _), a5.sd hD hm0⟩
                  unfold sWhat
                  first
                    | (rw [if_pos c91])
                    | (rw [if_neg c91, if_pos c104])
                    | (rw [if_neg c91, if_neg c104])
                · rw [show (1 : Int32) = nI 1 from rfl, nI_eq (by omega) (by omega)] at c104
                  refine zz_aload_0 C dX11_seed_107 <| zz_getI C fX11_249 (tM_K hT) dX11_seed_108 <| zpc 111 rfl <| ?_
                  rw [zI_sI, if_neg (by omega), hw2.2.2.2.2.2.2.2.1]
                  refine zz_i2l C dX11_seed_111 <| zz_goto C 120 dX11_seed_112 (by decide) <| zpc 120 rfl <| ?_
                  refine zy_lreturn C hE (zle rfl) (zle rfl) dX11_seed_120 ?_
                  refine ⟨?_, rfl, .tr (.of4 (zAg4.th h 0)) (.of3 a5), a5.th (zI_self _ _ _ _), a5.sd hD hm0⟩
                  unfold sWhat
                  first
                    | (rw [if_pos c91])
                    | (rw [if_neg c91, if_pos c104])
                    | (rw [if_neg c91, if_neg c104])
              · rw [show (0 : Int32) = nI 0 from rfl, nI_eq (by omega) (by omega)] at c91
                refine zz_aload_0 C dX11_seed_94 <| zz_getL C fX11_239 (tM_K hT) dX11_seed_95 <| zpc 98 rfl <| ?_
                rw [show zL (zsI h2 157 40 (-1)) 157 43 = _ from hw2.2.2.2.2.1]
                refine zz_goto C 120 dX11_seed_98 (by decide) <| zpc 120 rfl <| ?_
                refine zy_lreturn C hE (zle rfl) (zle rfl) dX11_seed_120 ?_
                refine ⟨?_, rfl, .tr (.of4 (zAg4.th h 0)) (.of3 a5), a5.th (zI_self _ _ _ _), a5.sd hD hm0⟩
                unfold sWhat
                first
                  | (rw [if_pos c91])
                  | (rw [if_neg c91, if_pos c104])
                  | (rw [if_neg c91, if_neg c104])
            · exact absurd rfl c59
          · rw [show (1 : Int32) = nI 1 from rfl, nI_eq (by omega) (by omega)] at c40
            exact absurd c47 (nI_ne0 (hkr c40) (by omega))
    · rw [zb_eq0] at c22; exact absurd hok2 c22
theorem c_seed0 (hT : zTM t) (hD : sdOk D yP0) (hm : mSd h D yP0) (r d s q : Int32) (hno : ¬ ((∃ k n, k ≤ 3 ∧ 1 ≤ n ∧ n ≤ 366 ∧ r = nI k ∧ d = nI n) ∧ ∃ k, k ≤ 2 ∧ q = nI k)) : zMet E b l yX11_seed cX11_seed 5 (some .long) 6 0 0 [.ref (b + 157), .int r, .int d, .int s, .int q] t h (qJ (fun v t' h' => v = 0 ∧ mCl h t D 1 t' h')) := by
  refine zMet.of (ls := [some (.ref (b + 157)), some (.int r), some (.int d), some (.int s), some (.int q)]) (by decide) (zle rfl) 0 rfl ?_
  intro G hlG C hR hE hin
  refine zz_aload_0 C dX11_seed_0 <| zz_iconst_0 C dX11_seed_1 <| zy_putI C fX11_104 pX11_0 (tM_K hT) dX11_seed_2 <| zz_aload_0 C dX11_seed_5 <| zz_aload_0 C dX11_seed_6 <| zz_iload_1 C dX11_seed_7 <| zz_iload_2 C dX11_seed_8 <| zpc 9 rfl <| ?_
  refine zf_callVI C hR [_, _] (c_isRule hT _ _) lX11_302 rfl (tM_K hT) (by decide) rfl ⟨zle rfl, zle rfl, zle rfl, zle rfl⟩ (zle rfl) dX11_seed_9 ?_
  refine zz_if_eq C 25 dX11_seed_12 (by decide) (fun c12 => ?_) (fun c12 => ?_)
  · refine zz_iconst_1 C dX11_seed_25 <| zz_goto C 30 dX11_seed_26 (by decide) <| zz_iconst_1 C dX11_seed_30 <| zpc 31 rfl <| ?_
    refine zf_callVI C hR [_, _] (c_bad1 hT _ (by decide) (by first | exact zI_self _ _ _ _ | assumption)) lX11_181 rfl (tM_K hT) (by decide) rfl ⟨zle rfl, zle rfl, zle rfl, zle rfl⟩ (zle rfl) dX11_seed_31 ?_
    refine zz_if_ne C 62 dX11_seed_34 (by decide) (fun c34 => ?_) (fun c34 => ?_)
    · refine zz_lconst_0 C dX11_seed_62 <| zpc 63 rfl <| ?_
      refine zy_lreturn C hE (zle rfl) (zle rfl) dX11_seed_63 ?_
      exact ⟨rfl, rfl, .of4 ((zAg4.th h 0).tr (zAg4.th _ 1)), zI_self _ _ _ _, (hm.th hD 0).th hD 1⟩
    · exact absurd c34 (by decide)
  · refine zz_iload_4 C dX11_seed_15 <| zz_iconst_0 C dX11_seed_17 <| zz_iconst_2 C dX11_seed_18 <| zpc 19 rfl <| ?_
    refine zf_callSI C hR [_, _, _] (c_in _ _ _) lX11_138 rfl ⟨zle rfl, zle rfl, zle rfl, zle rfl⟩ (zle rfl) dX11_seed_19 ?_
    refine zz_if_ne C 29 dX11_seed_22 (by decide) (fun c22 => ?_) (fun c22 => ?_)
    · rw [zb_ne0] at c12 c22; exact absurd ⟨ruleOk.mp c12, (upTo 2 2 rfl (by omega)).mp c22⟩ hno
    · refine zz_iconst_1 C dX11_seed_25 <| zz_goto C 30 dX11_seed_26 (by decide) <| zz_iconst_1 C dX11_seed_30 <| zpc 31 rfl <| ?_
      refine zf_callVI C hR [_, _] (c_bad1 hT _ (by decide) (by first | exact zI_self _ _ _ _ | assumption)) lX11_181 rfl (tM_K hT) (by decide) rfl ⟨zle rfl, zle rfl, zle rfl, zle rfl⟩ (zle rfl) dX11_seed_31 ?_
      refine zz_if_ne C 62 dX11_seed_34 (by decide) (fun c34 => ?_) (fun c34 => ?_)
      · refine zz_lconst_0 C dX11_seed_62 <| zpc 63 rfl <| ?_
        refine zy_lreturn C hE (zle rfl) (zle rfl) dX11_seed_63 ?_
        exact ⟨rfl, rfl, .of4 ((zAg4.th h 0).tr (zAg4.th _ 1)), zI_self _ _ _ _, (hm.th hD 0).th hD 1⟩
      · exact absurd c34 (by decide)
theorem c_seed2 (hT : zTM t) (hD : sdOk D yP0) (hm : mSd h D yP0) (hro : mRo h R) (d q : Nat) (s : Int32) (hd1 : 1 ≤ d) (hd : d ≤ 366) (hq : q ≤ 2) (hR0 : R.1 = 0) : zMet E b l yX11_seed cX11_seed 5 (some .long) 6 0 0 [.ref (b + 157), .int (nI 1), .int (nI d), .int s, .int (nI q)] t h (qJ (fun v t' h' => v = 0 ∧ mCl h t D 2 t' h')) := by
  have hok : ((0 ≤ nI 1 ∧ nI 1 ≤ 3) ∧ 1 ≤ nI d ∧ nI d ≤ 366) := ruleOk.mpr ⟨1, d, by omega, hd1, hd, rfl, rfl⟩
  have hok2 : (0 ≤ nI q ∧ nI q ≤ 2) := (upTo 2 2 rfl (by omega)).mpr ⟨q, hq, rfl⟩
  have hr0 : zI (zsI h 157 0 0) 157 20 = 0 := by rw [zI_sI, if_neg (by omega), hro.1, hR0]; rfl
  refine zMet.of (ls := [some (.ref (b + 157)), some (.int (nI 1)), some (.int (nI d)), some (.int s), some (.int (nI q))]) (by decide) (zle rfl) 0 rfl ?_
  intro G hlG C hR hE hin
  refine zz_aload_0 C dX11_seed_0 <| zz_iconst_0 C dX11_seed_1 <| zy_putI C fX11_104 pX11_0 (tM_K hT) dX11_seed_2 <| zz_aload_0 C dX11_seed_5 <| zz_aload_0 C dX11_seed_6 <| zz_iload_1 C dX11_seed_7 <| zz_iload_2 C dX11_seed_8 <| zpc 9 rfl <| ?_
  refine zf_callVI C hR [_, _] (c_isRule hT _ _) lX11_302 rfl (tM_K hT) (by decide) rfl ⟨zle rfl, zle rfl, zle rfl, zle rfl⟩ (zle rfl) dX11_seed_9 ?_
  refine zz_if_eq C 25 dX11_seed_12 (by decide) (fun c12 => ?_) (fun c12 => ?_)
  · rw [zb_eq0] at c12; exact absurd hok c12
  · refine zz_iload_4 C dX11_seed_15 <| zz_iconst_0 C dX11_seed_17 <| zz_iconst_2 C dX11_seed_18 <| zpc 19 rfl <| ?_
    refine zf_callSI C hR [_, _, _] (c_in _ _ _) lX11_138 rfl ⟨zle rfl, zle rfl, zle rfl, zle rfl⟩ (zle rfl) dX11_seed_19 ?_
    refine zz_if_ne C 29 dX11_seed_22 (by decide) (fun c22 => ?_) (fun c22 => ?_)
    · refine zz_iconst_0 C dX11_seed_29 <| zz_iconst_1 C dX11_seed_30 <| zpc 31 rfl <| ?_
      refine zf_callVI C hR [_, _] (c_bad0 hT _ (by decide) (by first | exact zI_self _ _ _ _ | assumption)) lX11_181 rfl (tM_K hT) (by decide) rfl ⟨zle rfl, zle rfl, zle rfl, zle rfl⟩ (zle rfl) dX11_seed_31 ?_
      refine zz_if_ne C 62 dX11_seed_34 (by decide) (fun c34 => ?_) (fun c34 => ?_)
      · exact absurd rfl c34
      · refine zz_aload_0 C dX11_seed_37 <| zz_iload_1 C dX11_seed_38 <| zz_iconst_1 C dX11_seed_39 <| zpc 40 rfl <| ?_
        refine zz_icmp_ne C 54 dX11_seed_40 (by decide) (fun c40 => ?_) (fun c40 => ?_)
        · exact absurd rfl c40
        · refine zz_aload_0 C dX11_seed_43 <| zz_getI C fX11_191 (tM_K hT) dX11_seed_44 <| zpc 47 rfl <| ?_
          rw [hr0]
          refine zz_if_ne C 54 dX11_seed_47 (by decide) (fun c47 => ?_) (fun c47 => ?_)
          · exact absurd rfl c47
          · refine zz_iconst_1 C dX11_seed_50 <| zz_goto C 55 dX11_seed_51 (by decide) <| zz_iconst_2 C dX11_seed_55 <| zpc 56 rfl <| ?_
            refine zf_callVI C hR [_, _] (c_bad1 hT _ (by decide) (by first | exact zI_self _ _ _ _ | assumption)) lX11_181 rfl (tM_K hT) (by decide) rfl ⟨zle rfl, zle rfl, zle rfl, zle rfl⟩ (zle rfl) dX11_seed_56 ?_
            refine zz_if_eq C 64 dX11_seed_59 (by decide) (fun c59 => ?_) (fun c59 => ?_)
            · exact absurd c59 (by decide)
            · refine zz_lconst_0 C dX11_seed_62 <| zpc 63 rfl <| ?_
              refine zy_lreturn C hE (zle rfl) (zle rfl) dX11_seed_63 ?_
              exact ⟨rfl, rfl, .of4 ((zAg4.th h 0).tr (zAg4.th _ 2)), zI_self _ _ _ _, (hm.th hD 0).th hD 2⟩
    · rw [zb_eq0] at c22; exact absurd hok2 c22
end SE
