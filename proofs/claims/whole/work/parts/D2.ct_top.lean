/-! ===== the two constructors ===== -/
section ZCT
variable {E : zE} {b : Nat} {l : Launch} {t : zT} {h : zH}
/-- nothing but the object itself, all 0 -/
def zX0 : zT := zA1 ((0, true), (fun _ => (16, 0)), fun _ _ => none) 0 10 0
def zH0 : zH := (fun _ _ => 0, fun _ _ => 0)
def kt_X : zT := (zsR (kct_i6 (zA1 (zsR (kct_i6 (zA1 (zsR (kct_i6 (zA1 (zsR (zA1 (zsR (kct_i4 (zA1 (zsR (kct_i5 (zA1 (zsR (kct_i8 (zA1 (zsR (zA1 (zsR (kct_i6 (zA1 (zsR (kct_i1 (zA1 (zsR (kct_i3 (zA1 zX0 (1) 3 0) (1 + 1) (1)) (0) 0 (some (1))) (1 + 1 + 34) 1 0) (1 + 1 + 34 + 1) (1 + 1 + 34)) (0) 1 (some (1 + 1 + 34))) (1 + 1 + 34 + 1 + 31) 6 0) (1 + 1 + 34 + 1 + 31 + 1) (1 + 1 + 34 + 1 + 31)) (0) 2 (some (1 + 1 + 34 + 1 + 31))) (1 + 1 + 34 + 1 + 31 + 1 + 3) 14 3) (0) 3 (some (1 + 1 + 34 + 1 + 31 + 1 + 3))) (1 + 1 + 34 + 1 + 31 + 1 + 3 + 1) 8 0) (1 + 1 + 34 + 1 + 31 + 1 + 3 + 1 + 1) (1 + 1 + 34 + 1 + 31 + 1 + 3 + 1)) (0) 5 (some (1 + 1 + 34 + 1 + 31 + 1 + 3 + 1))) (1 + 1 + 34 + 1 + 31 + 1 + 3 + 1 + 1 + 49) 5 0) (1 + 1 + 34 + 1 + 31 + 1 + 3 + 1 + 1 + 49 + 1) (1 + 1 + 34 + 1 + 31 + 1 + 3 + 1 + 1 + 49)) (0) 6 (some (1 + 1 + 34 + 1 + 31 + 1 + 3 + 1 + 1 + 49))) (1 + 1 + 34 + 1 + 31 + 1 + 3 + 1 + 1 + 49 + 1 + 17) 4 0) (1 + 1 + 34 + 1 + 31 + 1 + 3 + 1 + 1 + 49 + 1 + 17 + 1) (1 + 1 + 34 + 1 + 31 + 1 + 3 + 1 + 1 + 49 + 1 + 17)) (0) 7 (some (1 + 1 + 34 + 1 + 31 + 1 + 3 + 1 + 1 + 49 + 1 + 17))) (1 + 1 + 34 + 1 + 31 + 1 + 3 + 1 + 1 + 49 + 1 + 17 + 1 + 2) 12 4) (0) 8 (some (1 + 1 + 34 + 1 + 31 + 1 + 3 + 1 + 1 + 49 + 1 + 17 + 1 + 2))) (1 + 1 + 34 + 1 + 31 + 1 + 3 + 1 + 1 + 49 + 1 + 17 + 1 + 2 + 1) 6 0) (1 + 1 + 34 + 1 + 31 + 1 + 3 + 1 + 1 + 49 + 1 + 17 + 1 + 2 + 1 + 1) (1 + 1 + 34 + 1 + 31 + 1 + 3 + 1 + 1 + 49 + 1 + 17 + 1 + 2 + 1)) (1 + 1 + 34 + 1 + 31 + 1 + 3) 0 (some (1 + 1 + 34 + 1 + 31 + 1 + 3 + 1 + 1 + 49 + 1 + 17 + 1 + 2 + 1))) (1 + 1 + 34 + 1 + 31 + 1 + 3 + 1 + 1 + 49 + 1 + 17 + 1 + 2 + 1 + 1 + 3) 6 0) (1 + 1 + 34 + 1 + 31 + 1 + 3 + 1 + 1 + 49 + 1 + 17 + 1 + 2 + 1 + 1 + 3 + 1) (1 + 1 + 34 + 1 + 31 + 1 + 3 + 1 + 1 + 49 + 1 + 17 + 1 + 2 + 1 + 1 + 3)) (1 + 1 + 34 + 1 + 31 + 1 + 3) 1 (some (1 + 1 + 34 + 1 + 31 + 1 + 3 + 1 + 1 + 49 + 1 + 17 + 1 + 2 + 1 + 1 + 3))) (1 + 1 + 34 + 1 + 31 + 1 + 3 + 1 + 1 + 49 + 1 + 17 + 1 + 2 + 1 + 1 + 3 + 1 + 3) 6 0) (1 + 1 + 34 + 1 + 31 + 1 + 3 + 1 + 1 + 49 + 1 + 17 + 1 + 2 + 1 + 1 + 3 + 1 + 3 + 1) (1 + 1 + 34 + 1 + 31 + 1 + 3 + 1 + 1 + 49 + 1 + 17 + 1 + 2 + 1 + 1 + 3 + 1 + 3)) (1 + 1 + 34 + 1 + 31 + 1 + 3) 2 (some (1 + 1 + 34 + 1 + 31 + 1 + 3 + 1 + 1 + 49 + 1 + 17 + 1 + 2 + 1 + 1 + 3 + 1 + 3)))
theorem ct_S68 : zTS kt_X 68 := by unfold zTS; decide +kernel
theorem ct_K0 : zK kt_X 0 = (10, 0) := by decide +kernel
theorem ct_R02 : zR kt_X 0 2 = some 68 := by decide +kernel
theorem ct_R01 : zR kt_X 0 1 = some 36 := by decide +kernel
theorem ct_K36 : zK kt_X 36 = (1, 0) := by decide +kernel
def ht_X : zH := (hct_i8 (zsI (hct_i1 (hct_i3 zH0 (1 + 1) (1)) (1 + 1 + 34 + 1) (1 + 1 + 34)) (0) 4 0) (1 + 1 + 34 + 1 + 31 + 1 + 3 + 1 + 1) (1 + 1 + 34 + 1 + 31 + 1 + 3 + 1))
theorem ct_I36 : zI ht_X 36 5 = 9 := by decide +kernel
theorem ct_X (hG : zGd zX0 zH0 1) (hI : zIn zX0 0 10 0) : zMet E b l yX10_init cX10_init 2 none 4 156 10019 [.ref (b + 0)] zX0 zH0 (qV (fun t' h' => t' = kt_X ∧ cAg 68 71 ht_X h' ∧ (zI h' 68 0 = 0 ∧ zI h' 68 4 = 0) ∧ ∀ k, k < 11 → zI h' 69 k = 0 ∧ zI h' 70 k = 9)) := by
  refine zMet.of (ls := [some (.ref (b + 0)), none]) (by decide) (zle rfl) 1 rfl ?_
  intro G hlG C hR hE hin
  refine zz_aload_0 C dX10_init_0 <| zn_obj C hR (zle rfl) oX10_1 (zle rfl) dX10_init_1 <| zz_aload_0 C dX10_init_4 <| zpc 5 rfl <| ?_
  refine zm_new C hR hG 3 (by decide) nX10_7 (zle rfl) (zle rfl) dX10_init_5 ?_
  intro t1 e1 g1 m1 j1
  subst e1
  have hI := m1 _ _ _ hI
  refine zz_dup C dX10_init_8 rfl <| zpc 9 rfl <| ?_
  refine zy_callINV C hR [] (ct_i3 g1 j1) lX10_9 rfl ⟨zle rfl, zle rfl, zle rfl, zle rfl⟩ (zle rfl) dX10_init_9 ?_
  intro t2 h2 p2
  obtain ⟨rfl, rfl, g2, m2⟩ := p2
  have hI := m2 _ _ _ hI
  have j1 := m2 _ _ _ j1
  refine zm_putRF C (hin rfl) fX10_10 rfl rfl hI g2 dX10_init_12 ?_
  intro t3 e3 g3 m3
  subst e3
  have hI := m3 _ _ _ hI
  refine zz_aload_0 C dX10_init_15 <| zpc 16 rfl <| ?_
  refine zm_new C hR g3 1 (by decide) nX10_16 (zle rfl) (zle rfl) dX10_init_16 ?_
  intro t4 e4 g4 m4 j4
  subst e4
  have hI := m4 _ _ _ hI
  refine zz_dup C dX10_init_19 rfl <| zpc 20 rfl <| ?_
  refine zy_callIV C hR [] (ct_i1 g4 j4) lX10_18 rfl ⟨zle rfl, zle rfl, zle rfl, zle rfl⟩ (zle rfl) dX10_init_20 ?_
  intro t5 h5 p5
  obtain ⟨rfl, rfl, g5, m5⟩ := p5
  have hI := m5 _ _ _ hI
  have j4 := m5 _ _ _ j4
  refine zm_putR C fX10_19 rfl hI g5 dX10_init_23 ?_
  intro t6 e6 g6 m6
  subst e6
  have hI := m6 _ _ _ hI
  refine zz_aload_0 C dX10_init_26 <| zpc 27 rfl <| ?_
  refine zm_new C hR g6 6 (by decide) nX10_23 (zle rfl) (zle rfl) dX10_init_27 ?_
  intro t7 e7 g7 m7 j7
  subst e7
  have hI := m7 _ _ _ hI
  refine zz_dup C dX10_init_30 rfl <| zpc 31 rfl <| ?_
  refine zy_callINV C hR [] (ct_i6 g7 j7) lX10_25 rfl ⟨zle rfl, zle rfl, zle rfl, zle rfl⟩ (zle rfl) dX10_init_31 ?_
  intro t8 h8 p8
  obtain ⟨rfl, rfl, g8, m8⟩ := p8
  have hI := m8 _ _ _ hI
  have j7 := m8 _ _ _ j7
  refine zm_putRF C (hin rfl) fX10_26 rfl rfl hI g8 dX10_init_34 ?_
  intro t9 e9 g9 m9
  subst e9
  have hI := m9 _ _ _ hI
  refine zz_aload_0 C dX10_init_37 <| zz_iconst_3 C dX10_init_38 <| zpc 39 rfl <| ?_
  refine zm_newS C hR g9 3 (zlt2 _ (by decide)) nX10_23 (zle rfl) (zle rfl) dX10_init_39 ?_
  intro t10 e10 g10 m10 j10
  subst e10
  have hI := m10 _ _ _ hI
  refine zm_putRF C (hin rfl) fX10_30 rfl rfl hI g10 dX10_init_42 ?_
  intro t11 e11 g11 m11
  subst e11
  have hI := m11 _ _ _ hI
  have j10 := m11 _ _ _ j10
  refine zz_aload_0 C dX10_init_45 <| zz_iconst_0 C dX10_init_46 <| zpc 47 rfl <| ?_
  refine zm_putI C fX10_34 pX10_4 hI g11 dX10_init_47 ?_
  intro g12
  refine zz_aload_0 C dX10_init_50 <| zpc 51 rfl <| ?_
  refine zm_new C hR g12 8 (by decide) nX10_38 (zle rfl) (zle rfl) dX10_init_51 ?_
  intro t13 e13 g13 m13 j13
  subst e13
  have hI := m13 _ _ _ hI
  have j10 := m13 _ _ _ j10
  refine zz_dup C dX10_init_54 rfl <| zpc 55 rfl <| ?_
  refine zy_callINV C hR [] (ct_i8 g13 j13) lX10_40 rfl ⟨zle rfl, zle rfl, zle rfl, zle rfl⟩ (zle rfl) dX10_init_55 ?_
  intro t14 h14 p14
  obtain ⟨rfl, rfl, g14, m14⟩ := p14
  have hI := m14 _ _ _ hI
  have j10 := m14 _ _ _ j10
  have j13 := m14 _ _ _ j13
  refine zm_putRF C (hin rfl) fX10_41 rfl rfl hI g14 dX10_init_58 ?_
  intro t15 e15 g15 m15
  subst e15
  have hI := m15 _ _ _ hI
  have j10 := m15 _ _ _ j10
  refine zz_aload_0 C dX10_init_61 <| zpc 62 rfl <| ?_
  refine zm_new C hR g15 5 (by decide) nX10_45 (zle rfl) (zle rfl) dX10_init_62 ?_
  intro t16 e16 g16 m16 j16
  subst e16
  have hI := m16 _ _ _ hI
  have j10 := m16 _ _ _ j10
  refine zz_dup C dX10_init_65 rfl <| zpc 66 rfl <| ?_
  refine zy_callIV C hR [] (ct_i5 g16 j16) lX10_47 rfl ⟨zle rfl, zle rfl, zle rfl, zle rfl⟩ (zle rfl) dX10_init_66 ?_
  intro t17 h17 p17
  obtain ⟨rfl, rfl, g17, m17⟩ := p17
  have hI := m17 _ _ _ hI
  have j10 := m17 _ _ _ j10
  have j16 := m17 _ _ _ j16
  refine zm_putRF C (hin rfl) fX10_48 rfl rfl hI g17 dX10_init_69 ?_
  intro t18 e18 g18 m18
  subst e18
  have hI := m18 _ _ _ hI
  have j10 := m18 _ _ _ j10
  refine zz_aload_0 C dX10_init_72 <| zpc 73 rfl <| ?_
  refine zm_new C hR g18 4 (by decide) nX10_52 (zle rfl) (zle rfl) dX10_init_73 ?_
  intro t19 e19 g19 m19 j19
  subst e19
  have hI := m19 _ _ _ hI
  have j10 := m19 _ _ _ j10
  refine zz_dup C dX10_init_76 rfl <| zpc 77 rfl <| ?_
  refine zy_callINV C hR [] (ct_i4 g19 j19) lX10_54 rfl ⟨zle rfl, zle rfl, zle rfl, zle rfl⟩ (zle rfl) dX10_init_77 ?_
  intro t20 h20 p20
  obtain ⟨rfl, rfl, g20, m20⟩ := p20
  have hI := m20 _ _ _ hI
  have j10 := m20 _ _ _ j10
  have j19 := m20 _ _ _ j19
  refine zm_putRF C (hin rfl) fX10_55 rfl rfl hI g20 dX10_init_80 ?_
  intro t21 e21 g21 m21
  subst e21
  have hI := m21 _ _ _ hI
  have j10 := m21 _ _ _ j10
  refine zz_aload_0 C dX10_init_83 <| zz_iconst_4 C dX10_init_84 <| zpc 85 rfl <| ?_
  refine zm_newI C hR g21 4 (zlt2 _ (by decide)) (zle rfl) (zle rfl) dX10_init_85 ?_
  intro t22 e22 g22 m22 j22
  subst e22
  have hI := m22 _ _ _ hI
  have j10 := m22 _ _ _ j10
  refine zm_putRF C (hin rfl) fX10_59 rfl rfl hI g22 dX10_init_87 ?_
  intro t23 e23 g23 m23
  subst e23
  have hI := m23 _ _ _ hI
  have j10 := m23 _ _ _ j10
  refine zz_iconst_0 C dX10_init_90 <| zz_istore_1 C (zle rfl) rfl dX10_init_91 <| zz_iload_1 C dX10_init_92 <| zz_aload_0 C dX10_init_93 <| zpc 94 rfl <| ?_
  refine zz_getR C fX10_30 hI.2 (j := 1 + 1 + 34 + 1 + 31 + 1 + 3) (by rfl) dX10_init_94 ?_
  refine zz_alenS C j10.2 dX10_init_97 <| zpc 98 rfl <| ?_
  refine zz_icmp_ge C 120 dX10_init_98 (by decide) (fun c9 => absurd c9 (by decide)) (fun _ => ?_)
  refine zz_aload_0 C dX10_init_101 <| zpc 102 rfl <| ?_
  refine zz_getR C fX10_30 hI.2 (j := 1 + 1 + 34 + 1 + 31 + 1 + 3) (by rfl) dX10_init_102 ?_
  refine zz_iload_1 C dX10_init_105 <| zpc 106 rfl <| ?_
  refine zm_new C hR g23 6 (by decide) nX10_23 (zle rfl) (zle rfl) dX10_init_106 ?_
  intro t24 e24 g24 m24 j24
  subst e24
  have hI := m24 _ _ _ hI
  have j10 := m24 _ _ _ j10
  refine zz_dup C dX10_init_109 rfl <| zpc 110 rfl <| ?_
  refine zy_callINV C hR [] (ct_i6 g24 j24) lX10_25 rfl ⟨zle rfl, zle rfl, zle rfl, zle rfl⟩ (zle rfl) dX10_init_110 ?_
  intro t25 h25 p25
  obtain ⟨rfl, rfl, g25, m25⟩ := p25
  have hI := m25 _ _ _ hI
  have j10 := m25 _ _ _ j10
  have j24 := m25 _ _ _ j24
  refine zm_aast C 0 j10 j24 g25 (zlit _ (by decide)) (by decide) dX10_init_113 ?_
  intro t26 e26 g26 m26
  subst e26
  have hI := m26 _ _ _ hI
  have j10 := m26 _ _ _ j10
  refine zz_iinc_1 C 1 (zle rfl) rfl dX10_init_114 (by decide) <| zz_goto C 92 dX10_init_117 (by decide) <| zz_iload_1 C dX10_init_92 <| zz_aload_0 C dX10_init_93 <| zpc 94 rfl <| ?_
  refine zz_getR C fX10_30 hI.2 (j := 1 + 1 + 34 + 1 + 31 + 1 + 3) (by rfl) dX10_init_94 ?_
  refine zz_alenS C j10.2 dX10_init_97 <| zpc 98 rfl <| ?_
  refine zz_icmp_ge C 120 dX10_init_98 (by decide) (fun c9 => absurd c9 (by decide)) (fun _ => ?_)
  refine zz_aload_0 C dX10_init_101 <| zpc 102 rfl <| ?_
  refine zz_getR C fX10_30 hI.2 (j := 1 + 1 + 34 + 1 + 31 + 1 + 3) (by rfl) dX10_init_102 ?_
  refine zz_iload_1 C dX10_init_105 <| zpc 106 rfl <| ?_
  refine zm_new C hR g26 6 (by decide) nX10_23 (zle rfl) (zle rfl) dX10_init_106 ?_
  intro t27 e27 g27 m27 j27
  subst e27
  have hI := m27 _ _ _ hI
  have j10 := m27 _ _ _ j10
  refine zz_dup C dX10_init_109 rfl <| zpc 110 rfl <| ?_
  refine zy_callINV C hR [] (ct_i6 g27 j27) lX10_25 rfl ⟨zle rfl, zle rfl, zle rfl, zle rfl⟩ (zle rfl) dX10_init_110 ?_
  intro t28 h28 p28
  obtain ⟨rfl, rfl, g28, m28⟩ := p28
  have hI := m28 _ _ _ hI
  have j10 := m28 _ _ _ j10
  have j27 := m28 _ _ _ j27
  refine zm_aast C 1 j10 j27 g28 (zlit _ (by decide)) (by decide) dX10_init_113 ?_
  intro t29 e29 g29 m29
  subst e29
  have hI := m29 _ _ _ hI
  have j10 := m29 _ _ _ j10
  refine zz_iinc_1 C 2 (zle rfl) rfl dX10_init_114 (by decide) <| zz_goto C 92 dX10_init_117 (by decide) <| zz_iload_1 C dX10_init_92 <| zz_aload_0 C dX10_init_93 <| zpc 94 rfl <| ?_
  refine zz_getR C fX10_30 hI.2 (j := 1 + 1 + 34 + 1 + 31 + 1 + 3) (by rfl) dX10_init_94 ?_
  refine zz_alenS C j10.2 dX10_init_97 <| zpc 98 rfl <| ?_
  refine zz_icmp_ge C 120 dX10_init_98 (by decide) (fun c9 => absurd c9 (by decide)) (fun _ => ?_)
  refine zz_aload_0 C dX10_init_101 <| zpc 102 rfl <| ?_
  refine zz_getR C fX10_30 hI.2 (j := 1 + 1 + 34 + 1 + 31 + 1 + 3) (by rfl) dX10_init_102 ?_
  refine zz_iload_1 C dX10_init_105 <| zpc 106 rfl <| ?_
  refine zm_new C hR g29 6 (by decide) nX10_23 (zle rfl) (zle rfl) dX10_init_106 ?_
  intro t30 e30 g30 m30 j30
  subst e30
  have hI := m30 _ _ _ hI
  have j10 := m30 _ _ _ j10
  refine zz_dup C dX10_init_109 rfl <| zpc 110 rfl <| ?_
  refine zy_callINV C hR [] (ct_i6 g30 j30) lX10_25 rfl ⟨zle rfl, zle rfl, zle rfl, zle rfl⟩ (zle rfl) dX10_init_110 ?_
  intro t31 h31 p31
  obtain ⟨rfl, rfl, g31, m31⟩ := p31
  have hI := m31 _ _ _ hI
  have j10 := m31 _ _ _ j10
  have j30 := m31 _ _ _ j30
  refine zm_aast C 2 j10 j30 g31 (zlit _ (by decide)) (by decide) dX10_init_113 ?_
  intro t32 e32 g32 m32
  subst e32
  have hI := m32 _ _ _ hI
  have j10 := m32 _ _ _ j10
  refine zz_iinc_1 C 3 (zle rfl) rfl dX10_init_114 (by decide) <| zz_goto C 92 dX10_init_117 (by decide) <| zz_iload_1 C dX10_init_92 <| zz_aload_0 C dX10_init_93 <| zpc 94 rfl <| ?_
  refine zz_getR C fX10_30 hI.2 (j := 1 + 1 + 34 + 1 + 31 + 1 + 3) (by rfl) dX10_init_94 ?_
  refine zz_alenS C j10.2 dX10_init_97 <| zpc 98 rfl <| ?_
  refine zz_icmp_ge C 120 dX10_init_98 (by decide) (fun _ => ?_) (fun c9 => absurd (by decide) c9)
  have hS := ct_S68
  show zAW _ _ _ _ _ _ _ _ _ kt_X ht_X
  refine zz_aload_0 C dX10_init_120 <| zz_getR C fX10_26 ct_K0 ct_R02 dX10_init_121 <| zz_aload_0 C dX10_init_124 <| zz_getR C fX10_19 ct_K0 ct_R01 dX10_init_125 <| zz_getI C fX10_63 ct_K36 dX10_init_128 <| zpc 131 rfl <| ?_
  refine zy_callVV C hR [_] (c6_makeNew hS _) lX10_66 rfl (tS_K hS) (by decide) rfl ⟨zle rfl, zle rfl, zle rfl, zle rfl⟩ (zle rfl) dX10_init_131 ?_
  intro t9 h9 p9
  obtain ⟨rfl, q1, q2, q3⟩ := p9
  refine zy_return C hE (zle rfl) (zle rfl) dX10_init_134 ?_
  exact ⟨rfl, q1, q2, fun k hk => by have := q3 k hk; rw [ct_I36] at this; exact this⟩
def kt_M (t : zT) : zT := (zsR (zA2 (zsR (zA2 (zsR (zA1 (zsR (zA1 (zsR (zA1 (zsR (zA1 (zsR (zA1 (zsR (zA1 (zsR (zA1 (zsR (zA2 (zsR (zA1 (zsR (zA1 (zsR (zA1 (zsR (zA2 (zsR (zA2 (zsR (zA2 (zsR (zA2 (zsR (zA2 (zsR (zA2 (zsR (zA1 (zsR (zA1 (zsR (zA1 (zsR (zA1 (zsR (zA1 t (158) 12 600) (157) 8 (some (158))) (158 + 1) 12 6) (157) 9 (some (158 + 1))) (158 + 1 + 1) 12 6) (157) 10 (some (158 + 1 + 1))) (158 + 1 + 1 + 1) 12 8) (157) 11 (some (158 + 1 + 1 + 1))) (158 + 1 + 1 + 1 + 1) 12 8) (157) 12 (some (158 + 1 + 1 + 1 + 1))) (158 + 1 + 1 + 1 + 1 + 1) 10 5) (157) 13 (some (158 + 1 + 1 + 1 + 1 + 1))) (158 + 1 + 1 + 1 + 1 + 1 + 1 + 10) 11 5) (157) 14 (some (158 + 1 + 1 + 1 + 1 + 1 + 1 + 10))) (158 + 1 + 1 + 1 + 1 + 1 + 1 + 10 + 1 + 11) 4 5) (157) 15 (some (158 + 1 + 1 + 1 + 1 + 1 + 1 + 10 + 1 + 11))) (158 + 1 + 1 + 1 + 1 + 1 + 1 + 10 + 1 + 11 + 1 + 4) 4 5) (157) 16 (some (158 + 1 + 1 + 1 + 1 + 1 + 1 + 10 + 1 + 11 + 1 + 4))) (158 + 1 + 1 + 1 + 1 + 1 + 1 + 10 + 1 + 11 + 1 + 4 + 1 + 4) 14 6) (157) 17 (some (158 + 1 + 1 + 1 + 1 + 1 + 1 + 10 + 1 + 11 + 1 + 4 + 1 + 4))) (158 + 1 + 1 + 1 + 1 + 1 + 1 + 10 + 1 + 11 + 1 + 4 + 1 + 4 + 1 + 14) 14 6) (157) 18 (some (158 + 1 + 1 + 1 + 1 + 1 + 1 + 10 + 1 + 11 + 1 + 4 + 1 + 4 + 1 + 14))) (158 + 1 + 1 + 1 + 1 + 1 + 1 + 10 + 1 + 11 + 1 + 4 + 1 + 4 + 1 + 14 + 1 + 14) 12 11) (157) 23 (some (158 + 1 + 1 + 1 + 1 + 1 + 1 + 10 + 1 + 11 + 1 + 4 + 1 + 4 + 1 + 14 + 1 + 14))) (158 + 1 + 1 + 1 + 1 + 1 + 1 + 10 + 1 + 11 + 1 + 4 + 1 + 4 + 1 + 14 + 1 + 14 + 1) 12 11) (157) 24 (some (158 + 1 + 1 + 1 + 1 + 1 + 1 + 10 + 1 + 11 + 1 + 4 + 1 + 4 + 1 + 14 + 1 + 14 + 1))) (158 + 1 + 1 + 1 + 1 + 1 + 1 + 10 + 1 + 11 + 1 + 4 + 1 + 4 + 1 + 14 + 1 + 14 + 1 + 1) 12 30) (157) 25 (some (158 + 1 + 1 + 1 + 1 + 1 + 1 + 10 + 1 + 11 + 1 + 4 + 1 + 4 + 1 + 14 + 1 + 14 + 1 + 1))) (158 + 1 + 1 + 1 + 1 + 1 + 1 + 10 + 1 + 11 + 1 + 4 + 1 + 4 + 1 + 14 + 1 + 14 + 1 + 1 + 1) 3 60) (157) 26 (some (158 + 1 + 1 + 1 + 1 + 1 + 1 + 10 + 1 + 11 + 1 + 4 + 1 + 4 + 1 + 14 + 1 + 14 + 1 + 1 + 1))) (158 + 1 + 1 + 1 + 1 + 1 + 1 + 10 + 1 + 11 + 1 + 4 + 1 + 4 + 1 + 14 + 1 + 14 + 1 + 1 + 1 + 1 + 3) 12 11) (157) 27 (some (158 + 1 + 1 + 1 + 1 + 1 + 1 + 10 + 1 + 11 + 1 + 4 + 1 + 4 + 1 + 14 + 1 + 14 + 1 + 1 + 1 + 1 + 3))) (158 + 1 + 1 + 1 + 1 + 1 + 1 + 10 + 1 + 11 + 1 + 4 + 1 + 4 + 1 + 14 + 1 + 14 + 1 + 1 + 1 + 1 + 3 + 1) 12 11) (157) 28 (some (158 + 1 + 1 + 1 + 1 + 1 + 1 + 10 + 1 + 11 + 1 + 4 + 1 + 4 + 1 + 14 + 1 + 14 + 1 + 1 + 1 + 1 + 3 + 1))) (158 + 1 + 1 + 1 + 1 + 1 + 1 + 10 + 1 + 11 + 1 + 4 + 1 + 4 + 1 + 14 + 1 + 14 + 1 + 1 + 1 + 1 + 3 + 1 + 1) 12 11) (157) 29 (some (158 + 1 + 1 + 1 + 1 + 1 + 1 + 10 + 1 + 11 + 1 + 4 + 1 + 4 + 1 + 14 + 1 + 14 + 1 + 1 + 1 + 1 + 3 + 1 + 1))) (158 + 1 + 1 + 1 + 1 + 1 + 1 + 10 + 1 + 11 + 1 + 4 + 1 + 4 + 1 + 14 + 1 + 14 + 1 + 1 + 1 + 1 + 3 + 1 + 1 + 1) 12 12) (157) 48 (some (158 + 1 + 1 + 1 + 1 + 1 + 1 + 10 + 1 + 11 + 1 + 4 + 1 + 4 + 1 + 14 + 1 + 14 + 1 + 1 + 1 + 1 + 3 + 1 + 1 + 1))) (158 + 1 + 1 + 1 + 1 + 1 + 1 + 10 + 1 + 11 + 1 + 4 + 1 + 4 + 1 + 14 + 1 + 14 + 1 + 1 + 1 + 1 + 3 + 1 + 1 + 1 + 1) 12 12) (157) 49 (some (158 + 1 + 1 + 1 + 1 + 1 + 1 + 10 + 1 + 11 + 1 + 4 + 1 + 4 + 1 + 14 + 1 + 14 + 1 + 1 + 1 + 1 + 3 + 1 + 1 + 1 + 1))) (158 + 1 + 1 + 1 + 1 + 1 + 1 + 10 + 1 + 11 + 1 + 4 + 1 + 4 + 1 + 14 + 1 + 14 + 1 + 1 + 1 + 1 + 3 + 1 + 1 + 1 + 1 + 1) 13 4001) (157) 53 (some (158 + 1 + 1 + 1 + 1 + 1 + 1 + 10 + 1 + 11 + 1 + 4 + 1 + 4 + 1 + 14 + 1 + 14 + 1 + 1 + 1 + 1 + 3 + 1 + 1 + 1 + 1 + 1))) (158 + 1 + 1 + 1 + 1 + 1 + 1 + 10 + 1 + 11 + 1 + 4 + 1 + 4 + 1 + 14 + 1 + 14 + 1 + 1 + 1 + 1 + 3 + 1 + 1 + 1 + 1 + 1 + 1) 13 4001) (157) 54 (some (158 + 1 + 1 + 1 + 1 + 1 + 1 + 10 + 1 + 11 + 1 + 4 + 1 + 4 + 1 + 14 + 1 + 14 + 1 + 1 + 1 + 1 + 3 + 1 + 1 + 1 + 1 + 1 + 1))) (158 + 1 + 1 + 1 + 1 + 1 + 1 + 10 + 1 + 11 + 1 + 4 + 1 + 4 + 1 + 14 + 1 + 14 + 1 + 1 + 1 + 1 + 3 + 1 + 1 + 1 + 1 + 1 + 1 + 1) 4 11) (157) 60 (some (158 + 1 + 1 + 1 + 1 + 1 + 1 + 10 + 1 + 11 + 1 + 4 + 1 + 4 + 1 + 14 + 1 + 14 + 1 + 1 + 1 + 1 + 3 + 1 + 1 + 1 + 1 + 1 + 1 + 1))) (158 + 1 + 1 + 1 + 1 + 1 + 1 + 10 + 1 + 11 + 1 + 4 + 1 + 4 + 1 + 14 + 1 + 14 + 1 + 1 + 1 + 1 + 3 + 1 + 1 + 1 + 1 + 1 + 1 + 1 + 1 + 4) 4 11) (157) 61 (some (158 + 1 + 1 + 1 + 1 + 1 + 1 + 10 + 1 + 11 + 1 + 4 + 1 + 4 + 1 + 14 + 1 + 14 + 1 + 1 + 1 + 1 + 3 + 1 + 1 + 1 + 1 + 1 + 1 + 1 + 1 + 4)))
def ht_M (h : zH) : zH := (zsI (zsI (zsI (zsI (zsI (zsI (zsI (zsI h (157) 3 (-1)) (157) 35 (-1)) (157) 36 (-1)) (157) 37 (-1)) (157) 40 (-1)) (157) 52 (-1)) (158 + 1 + 1) 0 4) (158 + 1 + 1) 5 9)
theorem ct_M (hG : zGd t h 158) (hI : zIn t 157 11 0) : zMet E b l yX11_init cX11_init 1 none 1 92 9388 [.ref (b + 157)] t h (qV (fun t' h' => t' = kt_M t ∧ h' = ht_M h ∧ zGd t' h' 250)) := by
  refine zMet.of (ls := [some (.ref (b + 157))]) (by decide) (zle rfl) 0 rfl ?_
  intro G hlG C hR hE hin
  refine zz_aload_0 C dX11_init_0 <| zn_obj C hR (zle rfl) oX11_1 (zle rfl) dX11_init_1 <| zz_aload_0 C dX11_init_4 <| zz_iconst_m1 C dX11_init_5 <| zpc 6 rfl <| ?_
  refine zm_putI C fX11_9 pX11_3 hI hG dX11_init_6 ?_
  intro g1
  refine zz_aload_0 C dX11_init_9 <| zz_sipush C 600 dX11_init_10 (by decide) <| zpc 13 rfl <| ?_
  refine zm_newI C hR g1 600 (zlt2 _ (by decide)) (zle rfl) (zle rfl) dX11_init_13 ?_
  intro t2 e2 g2 m2 j2
  subst e2
  have hI := m2 _ _ _ hI
  refine zm_putRF C (hin rfl) fX11_13 rfl rfl hI g2 dX11_init_15 ?_
  intro t3 e3 g3 m3
  subst e3
  have hI := m3 _ _ _ hI
  refine zz_aload_0 C dX11_init_18 <| zz_bipush C 6 dX11_init_19 (by decide) <| zpc 21 rfl <| ?_
  refine zm_newI C hR g3 6 (zlt2 _ (by decide)) (zle rfl) (zle rfl) dX11_init_21 ?_
  intro t4 e4 g4 m4 j4
  subst e4
  have hI := m4 _ _ _ hI
  refine zm_putRF C (hin rfl) fX11_17 rfl rfl hI g4 dX11_init_23 ?_
  intro t5 e5 g5 m5
  subst e5
  have hI := m5 _ _ _ hI
  refine zz_aload_0 C dX11_init_26 <| zz_bipush C 6 dX11_init_27 (by decide) <| zpc 29 rfl <| ?_
  refine zm_newI C hR g5 6 (zlt2 _ (by decide)) (zle rfl) (zle rfl) dX11_init_29 ?_
  intro t6 e6 g6 m6 j6
  subst e6
  have hI := m6 _ _ _ hI
  refine zm_putRF C (hin rfl) fX11_20 rfl rfl hI g6 dX11_init_31 ?_
  intro t7 e7 g7 m7
  subst e7
  have hI := m7 _ _ _ hI
  have j6 := m7 _ _ _ j6
  refine zz_aload_0 C dX11_init_34 <| zz_bipush C 8 dX11_init_35 (by decide) <| zpc 37 rfl <| ?_
  refine zm_newI C hR g7 8 (zlt2 _ (by decide)) (zle rfl) (zle rfl) dX11_init_37 ?_
  intro t8 e8 g8 m8 j8
  subst e8
  have hI := m8 _ _ _ hI
  have j6 := m8 _ _ _ j6
  refine zm_putRF C (hin rfl) fX11_23 rfl rfl hI g8 dX11_init_39 ?_
  intro t9 e9 g9 m9
  subst e9
  have hI := m9 _ _ _ hI
  have j6 := m9 _ _ _ j6
  refine zz_aload_0 C dX11_init_42 <| zz_bipush C 8 dX11_init_43 (by decide) <| zpc 45 rfl <| ?_
  refine zm_newI C hR g9 8 (zlt2 _ (by decide)) (zle rfl) (zle rfl) dX11_init_45 ?_
  intro t10 e10 g10 m10 j10
  subst e10
  have hI := m10 _ _ _ hI
  have j6 := m10 _ _ _ j6
  refine zm_putRF C (hin rfl) fX11_26 rfl rfl hI g10 dX11_init_47 ?_
  intro t11 e11 g11 m11
  subst e11
  have hI := m11 _ _ _ hI
  have j6 := m11 _ _ _ j6
  refine zz_aload_0 C dX11_init_50 <| zz_bipush C 10 dX11_init_51 (by decide) <| zz_iconst_5 C dX11_init_53 <| zpc 54 rfl <| ?_
  refine zm_mna C hR g11 10 5 (zlt2 _ (by decide)) (zlt2 _ (by decide)) nX11_29 (zle rfl) (zle rfl) dX11_init_54 ?_
  intro t12 e12 g12 m12 j12
  subst e12
  have hI := m12 _ _ _ hI
  have j6 := m12 _ _ _ j6
  refine zm_putRF C (hin rfl) fX11_31 rfl rfl hI g12 dX11_init_58 ?_
  intro t13 e13 g13 m13
  subst e13
  have hI := m13 _ _ _ hI
  have j6 := m13 _ _ _ j6
  refine zz_aload_0 C dX11_init_61 <| zz_bipush C 11 dX11_init_62 (by decide) <| zz_iconst_5 C dX11_init_64 <| zpc 65 rfl <| ?_
  refine zm_mna C hR g13 11 5 (zlt2 _ (by decide)) (zlt2 _ (by decide)) nX11_29 (zle rfl) (zle rfl) dX11_init_65 ?_
  intro t14 e14 g14 m14 j14
  subst e14
  have hI := m14 _ _ _ hI
  have j6 := m14 _ _ _ j6
  refine zm_putRF C (hin rfl) fX11_34 rfl rfl hI g14 dX11_init_69 ?_
  intro t15 e15 g15 m15
  subst e15
  have hI := m15 _ _ _ hI
  have j6 := m15 _ _ _ j6
  refine zz_aload_0 C dX11_init_72 <| zz_iconst_4 C dX11_init_73 <| zz_iconst_5 C dX11_init_74 <| zpc 75 rfl <| ?_
  refine zm_mna C hR g15 4 5 (zlt2 _ (by decide)) (zlt2 _ (by decide)) nX11_29 (zle rfl) (zle rfl) dX11_init_75 ?_
  intro t16 e16 g16 m16 j16
  subst e16
  have hI := m16 _ _ _ hI
  have j6 := m16 _ _ _ j6
  refine zm_putRF C (hin rfl) fX11_37 rfl rfl hI g16 dX11_init_79 ?_
  intro t17 e17 g17 m17
  subst e17
  have hI := m17 _ _ _ hI
  have j6 := m17 _ _ _ j6
  refine zz_aload_0 C dX11_init_82 <| zz_iconst_4 C dX11_init_83 <| zz_iconst_5 C dX11_init_84 <| zpc 85 rfl <| ?_
  refine zm_mna C hR g17 4 5 (zlt2 _ (by decide)) (zlt2 _ (by decide)) nX11_29 (zle rfl) (zle rfl) dX11_init_85 ?_
  intro t18 e18 g18 m18 j18
  subst e18
  have hI := m18 _ _ _ hI
  have j6 := m18 _ _ _ j6
  refine zm_putRF C (hin rfl) fX11_40 rfl rfl hI g18 dX11_init_89 ?_
  intro t19 e19 g19 m19
  subst e19
  have hI := m19 _ _ _ hI
  have j6 := m19 _ _ _ j6
  refine zz_aload_0 C dX11_init_92 <| zz_bipush C 14 dX11_init_93 (by decide) <| zz_bipush C 6 dX11_init_95 (by decide) <| zpc 97 rfl <| ?_
  refine zm_mna C hR g19 14 6 (zlt2 _ (by decide)) (zlt2 _ (by decide)) nX11_29 (zle rfl) (zle rfl) dX11_init_97 ?_
  intro t20 e20 g20 m20 j20
  subst e20
  have hI := m20 _ _ _ hI
  have j6 := m20 _ _ _ j6
  refine zm_putRF C (hin rfl) fX11_43 rfl rfl hI g20 dX11_init_101 ?_
  intro t21 e21 g21 m21
  subst e21
  have hI := m21 _ _ _ hI
  have j6 := m21 _ _ _ j6
  refine zz_aload_0 C dX11_init_104 <| zz_bipush C 14 dX11_init_105 (by decide) <| zz_bipush C 6 dX11_init_107 (by decide) <| zpc 109 rfl <| ?_
  refine zm_mna C hR g21 14 6 (zlt2 _ (by decide)) (zlt2 _ (by decide)) nX11_29 (zle rfl) (zle rfl) dX11_init_109 ?_
  intro t22 e22 g22 m22 j22
  subst e22
  have hI := m22 _ _ _ hI
  have j6 := m22 _ _ _ j6
  refine zm_putRF C (hin rfl) fX11_46 rfl rfl hI g22 dX11_init_113 ?_
  intro t23 e23 g23 m23
  subst e23
  have hI := m23 _ _ _ hI
  have j6 := m23 _ _ _ j6
  refine zz_aload_0 C dX11_init_116 <| zz_bipush C 11 dX11_init_117 (by decide) <| zpc 119 rfl <| ?_
  refine zm_newI C hR g23 11 (zlt2 _ (by decide)) (zle rfl) (zle rfl) dX11_init_119 ?_
  intro t24 e24 g24 m24 j24
  subst e24
  have hI := m24 _ _ _ hI
  have j6 := m24 _ _ _ j6
  refine zm_putRF C (hin rfl) fX11_49 rfl rfl hI g24 dX11_init_121 ?_
  intro t25 e25 g25 m25
  subst e25
  have hI := m25 _ _ _ hI
  have j6 := m25 _ _ _ j6
  refine zz_aload_0 C dX11_init_124 <| zz_bipush C 11 dX11_init_125 (by decide) <| zpc 127 rfl <| ?_
  refine zm_newI C hR g25 11 (zlt2 _ (by decide)) (zle rfl) (zle rfl) dX11_init_127 ?_
  intro t26 e26 g26 m26 j26
  subst e26
  have hI := m26 _ _ _ hI
  have j6 := m26 _ _ _ j6
  refine zm_putRF C (hin rfl) fX11_52 rfl rfl hI g26 dX11_init_129 ?_
  intro t27 e27 g27 m27
  subst e27
  have hI := m27 _ _ _ hI
  have j6 := m27 _ _ _ j6
  refine zz_aload_0 C dX11_init_132 <| zz_bipush C 30 dX11_init_133 (by decide) <| zpc 135 rfl <| ?_
  refine zm_newI C hR g27 30 (zlt2 _ (by decide)) (zle rfl) (zle rfl) dX11_init_135 ?_
  intro t28 e28 g28 m28 j28
  subst e28
  have hI := m28 _ _ _ hI
  have j6 := m28 _ _ _ j6
  refine zm_putRF C (hin rfl) fX11_55 rfl rfl hI g28 dX11_init_137 ?_
  intro t29 e29 g29 m29
  subst e29
  have hI := m29 _ _ _ hI
  have j6 := m29 _ _ _ j6
  refine zz_aload_0 C dX11_init_140 <| zz_iconst_3 C dX11_init_141 <| zz_bipush C 60 dX11_init_142 (by decide) <| zpc 144 rfl <| ?_
  refine zm_mna C hR g29 3 60 (zlt2 _ (by decide)) (zlt2 _ (by decide)) nX11_29 (zle rfl) (zle rfl) dX11_init_144 ?_
  intro t30 e30 g30 m30 j30
  subst e30
  have hI := m30 _ _ _ hI
  have j6 := m30 _ _ _ j6
  refine zm_putRF C (hin rfl) fX11_58 rfl rfl hI g30 dX11_init_148 ?_
  intro t31 e31 g31 m31
  subst e31
  have hI := m31 _ _ _ hI
  have j6 := m31 _ _ _ j6
  refine zz_aload_0 C dX11_init_151 <| zz_bipush C 11 dX11_init_152 (by decide) <| zpc 154 rfl <| ?_
  refine zm_newI C hR g31 11 (zlt2 _ (by decide)) (zle rfl) (zle rfl) dX11_init_154 ?_
  intro t32 e32 g32 m32 j32
  subst e32
  have hI := m32 _ _ _ hI
  have j6 := m32 _ _ _ j6
  refine zm_putRF C (hin rfl) fX11_61 rfl rfl hI g32 dX11_init_156 ?_
  intro t33 e33 g33 m33
  subst e33
  have hI := m33 _ _ _ hI
  have j6 := m33 _ _ _ j6
  refine zz_aload_0 C dX11_init_159 <| zz_bipush C 11 dX11_init_160 (by decide) <| zpc 162 rfl <| ?_
  refine zm_newI C hR g33 11 (zlt2 _ (by decide)) (zle rfl) (zle rfl) dX11_init_162 ?_
  intro t34 e34 g34 m34 j34
  subst e34
  have hI := m34 _ _ _ hI
  have j6 := m34 _ _ _ j6
  refine zm_putRF C (hin rfl) fX11_64 rfl rfl hI g34 dX11_init_164 ?_
  intro t35 e35 g35 m35
  subst e35
  have hI := m35 _ _ _ hI
  have j6 := m35 _ _ _ j6
  refine zz_aload_0 C dX11_init_167 <| zz_bipush C 11 dX11_init_168 (by decide) <| zpc 170 rfl <| ?_
  refine zm_newI C hR g35 11 (zlt2 _ (by decide)) (zle rfl) (zle rfl) dX11_init_170 ?_
  intro t36 e36 g36 m36 j36
  subst e36
  have hI := m36 _ _ _ hI
  have j6 := m36 _ _ _ j6
  refine zm_putRF C (hin rfl) fX11_67 rfl rfl hI g36 dX11_init_172 ?_
  intro t37 e37 g37 m37
  subst e37
  have hI := m37 _ _ _ hI
  have j6 := m37 _ _ _ j6
  refine zz_aload_0 C dX11_init_175 <| zz_iconst_m1 C dX11_init_176 <| zpc 177 rfl <| ?_
  refine zm_putI C fX11_70 pX11_35 hI g37 dX11_init_177 ?_
  intro g38
  refine zz_aload_0 C dX11_init_180 <| zz_iconst_m1 C dX11_init_181 <| zpc 182 rfl <| ?_
  refine zm_putI C fX11_73 pX11_36 hI g38 dX11_init_182 ?_
  intro g39
  refine zz_aload_0 C dX11_init_185 <| zz_iconst_m1 C dX11_init_186 <| zpc 187 rfl <| ?_
  refine zm_putI C fX11_76 pX11_37 hI g39 dX11_init_187 ?_
  intro g40
  refine zz_aload_0 C dX11_init_190 <| zz_iconst_m1 C dX11_init_191 <| zpc 192 rfl <| ?_
  refine zm_putI C fX11_79 pX11_40 hI g40 dX11_init_192 ?_
  intro g41
  refine zz_aload_0 C dX11_init_195 <| zz_bipush C 12 dX11_init_196 (by decide) <| zpc 198 rfl <| ?_
  refine zm_newI C hR g41 12 (zlt2 _ (by decide)) (zle rfl) (zle rfl) dX11_init_198 ?_
  intro t42 e42 g42 m42 j42
  subst e42
  have hI := m42 _ _ _ hI
  have j6 := m42 _ _ _ j6
  refine zm_putRF C (hin rfl) fX11_82 rfl rfl hI g42 dX11_init_200 ?_
  intro t43 e43 g43 m43
  subst e43
  have hI := m43 _ _ _ hI
  have j6 := m43 _ _ _ j6
  refine zz_aload_0 C dX11_init_203 <| zz_bipush C 12 dX11_init_204 (by decide) <| zpc 206 rfl <| ?_
  refine zm_newI C hR g43 12 (zlt2 _ (by decide)) (zle rfl) (zle rfl) dX11_init_206 ?_
  intro t44 e44 g44 m44 j44
  subst e44
  have hI := m44 _ _ _ hI
  have j6 := m44 _ _ _ j6
  refine zm_putRF C (hin rfl) fX11_85 rfl rfl hI g44 dX11_init_208 ?_
  intro t45 e45 g45 m45
  subst e45
  have hI := m45 _ _ _ hI
  have j6 := m45 _ _ _ j6
  refine zz_aload_0 C dX11_init_211 <| zz_iconst_m1 C dX11_init_212 <| zpc 213 rfl <| ?_
  refine zm_putI C fX11_88 pX11_52 hI g45 dX11_init_213 ?_
  intro g46
  refine zz_aload_0 C dX11_init_216 <| zz_sipush C 4001 dX11_init_217 (by decide) <| zpc 220 rfl <| ?_
  refine zm_newL C hR g46 4001 (zlt2 _ (by decide)) (zle rfl) (zle rfl) dX11_init_220 ?_
  intro t47 e47 g47 m47 j47
  subst e47
  have hI := m47 _ _ _ hI
  have j6 := m47 _ _ _ j6
  refine zm_putRF C (hin rfl) fX11_91 rfl rfl hI g47 dX11_init_222 ?_
  intro t48 e48 g48 m48
  subst e48
  have hI := m48 _ _ _ hI
  have j6 := m48 _ _ _ j6
  refine zz_aload_0 C dX11_init_225 <| zz_sipush C 4001 dX11_init_226 (by decide) <| zpc 229 rfl <| ?_
  refine zm_newL C hR g48 4001 (zlt2 _ (by decide)) (zle rfl) (zle rfl) dX11_init_229 ?_
  intro t49 e49 g49 m49 j49
  subst e49
  have hI := m49 _ _ _ hI
  have j6 := m49 _ _ _ j6
  refine zm_putRF C (hin rfl) fX11_95 rfl rfl hI g49 dX11_init_231 ?_
  intro t50 e50 g50 m50
  subst e50
  have hI := m50 _ _ _ hI
  have j6 := m50 _ _ _ j6
  refine zz_aload_0 C dX11_init_234 <| zz_iconst_4 C dX11_init_235 <| zz_bipush C 11 dX11_init_236 (by decide) <| zpc 238 rfl <| ?_
  refine zm_mna C hR g50 4 11 (zlt2 _ (by decide)) (zlt2 _ (by decide)) nX11_29 (zle rfl) (zle rfl) dX11_init_238 ?_
  intro t51 e51 g51 m51 j51
  subst e51
  have hI := m51 _ _ _ hI
  have j6 := m51 _ _ _ j6
  refine zm_putRF C (hin rfl) fX11_98 rfl rfl hI g51 dX11_init_242 ?_
  intro t52 e52 g52 m52
  subst e52
  have hI := m52 _ _ _ hI
  have j6 := m52 _ _ _ j6
  refine zz_aload_0 C dX11_init_245 <| zz_iconst_4 C dX11_init_246 <| zz_bipush C 11 dX11_init_247 (by decide) <| zpc 249 rfl <| ?_
  refine zm_mna C hR g52 4 11 (zlt2 _ (by decide)) (zlt2 _ (by decide)) nX11_29 (zle rfl) (zle rfl) dX11_init_249 ?_
  intro t53 e53 g53 m53 j53
  subst e53
  have hI := m53 _ _ _ hI
  have j6 := m53 _ _ _ j6
  refine zm_putRF C (hin rfl) fX11_101 rfl rfl hI g53 dX11_init_253 ?_
  intro t54 e54 g54 m54
  subst e54
  have hI := m54 _ _ _ hI
  have j6 := m54 _ _ _ j6
  refine zz_aload_0 C dX11_init_256 <| zpc 257 rfl <| ?_
  refine zz_getR C fX11_20 hI.2 (j := 158 + 1 + 1) (by rfl) dX11_init_257 ?_
  refine zz_iconst_0 C dX11_init_260 <| zz_iconst_4 C dX11_init_261 <| zpc 262 rfl <| ?_
  refine zm_iast C 0 j6 g54 (zlit _ (by decide)) (by decide) dX11_init_262 ?_
  intro g55
  refine zz_aload_0 C dX11_init_263 <| zpc 264 rfl <| ?_
  refine zz_getR C fX11_20 hI.2 (j := 158 + 1 + 1) (by rfl) dX11_init_264 ?_
  refine zz_iconst_5 C dX11_init_267 <| zz_bipush C 9 dX11_init_268 (by decide) <| zpc 270 rfl <| ?_
  refine zm_iast C 5 j6 g55 (zlit _ (by decide)) (by decide) dX11_init_270 ?_
  intro g56
  refine zy_return C hE (zle rfl) (zle rfl) dX11_init_271 ?_
  exact ⟨rfl, rfl, g56⟩
end ZCT
