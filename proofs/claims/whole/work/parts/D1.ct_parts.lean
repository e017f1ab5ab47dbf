/-! ===== constructors of the class's parts ===== -/
section ZCT
variable {E : zE} {b : Nat} {l : Launch} {t : zT} {h : zH}
def kct_e1 (t : zT) (n i : Nat) : zT := t
def hct_e1 (h : zH) (n i : Nat) : zH := (zsI (zsI (zsI (zsI (zsI (zsI h (i) 0 4) (i) 1 0) (i) 2 0) (i) 3 0) (i) 4 0) (i) 5 9)
theorem ct_e1 {n i : Nat} (hG : zGd t h n) (hI : zIn t i 1 0) : zMet E b l yX1_makeEmpty cX1_makeEmpty 1 none 1 0 0 [.ref (b + i)] t h (qV (fun t' h' => t' = kct_e1 t n i ∧ h' = hct_e1 h n i ∧ zGd t' h' (n) ∧ zMo t t')) := by
  refine zMet.of (ls := [some (.ref (b + i))]) (by decide) (zle rfl) 0 rfl ?_
  intro G hlG C hR hE hin
  refine zz_aload_0 C dX1_makeEmpty_0 <| zz_iconst_4 C dX1_makeEmpty_1 <| zpc 2 rfl <| ?_
  refine zm_putI C fX1_26 pX1_0 hI hG dX1_makeEmpty_2 ?_
  intro g1
  refine zz_aload_0 C dX1_makeEmpty_5 <| zz_iconst_0 C dX1_makeEmpty_6 <| zpc 7 rfl <| ?_
  refine zm_putI C fX1_30 pX1_1 hI g1 dX1_makeEmpty_7 ?_
  intro g2
  refine zz_aload_0 C dX1_makeEmpty_10 <| zz_iconst_0 C dX1_makeEmpty_11 <| zpc 12 rfl <| ?_
  refine zm_putI C fX1_33 pX1_2 hI g2 dX1_makeEmpty_12 ?_
  intro g3
  refine zz_aload_0 C dX1_makeEmpty_15 <| zz_iconst_0 C dX1_makeEmpty_16 <| zpc 17 rfl <| ?_
  refine zm_putI C fX1_36 pX1_3 hI g3 dX1_makeEmpty_17 ?_
  intro g4
  refine zz_aload_0 C dX1_makeEmpty_20 <| zz_iconst_0 C dX1_makeEmpty_21 <| zpc 22 rfl <| ?_
  refine zm_putI C fX1_39 pX1_4 hI g4 dX1_makeEmpty_22 ?_
  intro g5
  refine zz_aload_0 C dX1_makeEmpty_25 <| zz_bipush C 9 dX1_makeEmpty_26 (by decide) <| zpc 28 rfl <| ?_
  refine zm_putI C fX1_42 pX1_5 hI g5 dX1_makeEmpty_28 ?_
  intro g6
  refine zy_return C hE (zle rfl) (zle rfl) dX1_makeEmpty_31 ?_
  exact ⟨rfl, rfl, g6, fun _ _ _ hi => hi⟩
def kct_i0 (t : zT) (n i : Nat) : zT := (zsR (zA1 t (n) 12 12) (i) 0 (some (n)))
theorem ct_i0 {n i : Nat} (hG : zGd t h n) (hI : zIn t i 0 0) : zMet E b l yX0_init cX0_init 1 none 1 1 12 [.ref (b + i)] t h (qV (fun t' h' => t' = kct_i0 t n i ∧ h' = h ∧ zGd t' h' (n + 1) ∧ zMo t t')) := by
  refine zMet.of (ls := [some (.ref (b + i))]) (by decide) (zle rfl) 0 rfl ?_
  intro G hlG C hR hE hin
  refine zz_aload_0 C dX0_init_0 <| zn_obj C hR (zle rfl) oX0_3 (zle rfl) dX0_init_1 <| zz_aload_0 C dX0_init_4 <| zz_bipush C 12 dX0_init_5 (by decide) <| zpc 7 rfl <| ?_
  refine zm_newI C hR hG 12 (zlt2 _ (by decide)) (zle rfl) (zle rfl) dX0_init_7 ?_
  intro t1 e1 g1 m1 j1
  subst e1
  have hI := m1 _ _ _ hI
  refine zm_putRF C (hin rfl) fX0_9 rfl rfl hI g1 dX0_init_9 ?_
  intro t2 e2 g2 m2
  subst e2
  have hI := m2 _ _ _ hI
  refine zy_return C hE (zle rfl) (zle rfl) dX0_init_12 ?_
  exact ⟨rfl, rfl, g2, (m1.tr m2)⟩
def kct_i1 (t : zT) (n i : Nat) : zT := (kct_e1 (zsR (zA1 (zsR (zA2 (zsR (zA2 t (n) 14 5) (i) 6 (some (n))) (n + 1 + 14) 14 6) (i) 7 (some (n + 1 + 14))) (n + 1 + 14 + 1 + 14) 12 8) (i) 8 (some (n + 1 + 14 + 1 + 14))) (n + 1 + 14 + 1 + 14 + 1) (i))
def hct_i1 (h : zH) (n i : Nat) : zH := (hct_e1 h (n + 1 + 14 + 1 + 14 + 1) (i))
theorem ct_i1 {n i : Nat} (hG : zGd t h n) (hI : zIn t i 1 0) : zMet E b l yX1_init cX1_init 1 none 2 31 190 [.ref (b + i)] t h (qV (fun t' h' => t' = kct_i1 t n i ∧ h' = hct_i1 h n i ∧ zGd t' h' (n + 31) ∧ zMo t t')) := by
  refine zMet.of (ls := [some (.ref (b + i))]) (by decide) (zle rfl) 0 rfl ?_
  intro G hlG C hR hE hin
  refine zz_aload_0 C dX1_init_0 <| zn_obj C hR (zle rfl) oX1_3 (zle rfl) dX1_init_1 <| zz_aload_0 C dX1_init_4 <| zz_bipush C 14 dX1_init_5 (by decide) <| zz_iconst_5 C dX1_init_7 <| zpc 8 rfl <| ?_
  refine zm_mna C hR hG 14 5 (zlt2 _ (by decide)) (zlt2 _ (by decide)) nX1_9 (zle rfl) (zle rfl) dX1_init_8 ?_
  intro t1 e1 g1 m1 j1
  subst e1
  have hI := m1 _ _ _ hI
  refine zm_putRF C (hin rfl) fX1_11 rfl rfl hI g1 dX1_init_12 ?_
  intro t2 e2 g2 m2
  subst e2
  have hI := m2 _ _ _ hI
  refine zz_aload_0 C dX1_init_15 <| zz_bipush C 14 dX1_init_16 (by decide) <| zz_bipush C 6 dX1_init_18 (by decide) <| zpc 20 rfl <| ?_
  refine zm_mna C hR g2 14 6 (zlt2 _ (by decide)) (zlt2 _ (by decide)) nX1_9 (zle rfl) (zle rfl) dX1_init_20 ?_
  intro t3 e3 g3 m3 j3
  subst e3
  have hI := m3 _ _ _ hI
  refine zm_putRF C (hin rfl) fX1_16 rfl rfl hI g3 dX1_init_24 ?_
  intro t4 e4 g4 m4
  subst e4
  have hI := m4 _ _ _ hI
  refine zz_aload_0 C dX1_init_27 <| zz_bipush C 8 dX1_init_28 (by decide) <| zpc 30 rfl <| ?_
  refine zm_newI C hR g4 8 (zlt2 _ (by decide)) (zle rfl) (zle rfl) dX1_init_30 ?_
  intro t5 e5 g5 m5 j5
  subst e5
  have hI := m5 _ _ _ hI
  refine zm_putRF C (hin rfl) fX1_19 rfl rfl hI g5 dX1_init_32 ?_
  intro t6 e6 g6 m6
  subst e6
  have hI := m6 _ _ _ hI
  refine zz_aload_0 C dX1_init_35 <| zpc 36 rfl <| ?_
  refine zy_callVV C hR [] (ct_e1 g6 hI) lX1_23 rfl hI.2 (by decide) rfl ⟨zle rfl, zle rfl, zle rfl, zle rfl⟩ (zle rfl) dX1_init_36 ?_
  intro t7 h7 p7
  obtain ⟨rfl, rfl, g7, m7⟩ := p7
  have hI := m7 _ _ _ hI
  refine zy_return C hE (zle rfl) (zle rfl) dX1_init_39 ?_
  exact ⟨rfl, rfl, g7, ((((((m1.tr m2).tr m3).tr m4).tr m5).tr m6).tr m7)⟩
def kct_i2 (t : zT) (n i : Nat) : zT := t
theorem ct_i2 {n i : Nat} (hG : zGd t h n) (hI : zIn t i 2 0) : zMet E b l yX2_init cX2_init 1 none 1 0 0 [.ref (b + i)] t h (qV (fun t' h' => t' = kct_i2 t n i ∧ h' = h ∧ zGd t' h' (n + 0) ∧ zMo t t')) := by
  refine zMet.of (ls := [some (.ref (b + i))]) (by decide) (zle rfl) 0 rfl ?_
  intro G hlG C hR hE hin
  refine zz_aload_0 C dX2_init_0 <| zn_obj C hR (zle rfl) oX2_3 (zle rfl) dX2_init_1 <| zpc 4 rfl <| ?_
  refine zy_return C hE (zle rfl) (zle rfl) dX2_init_4 ?_
  exact ⟨rfl, rfl, hG, fun _ _ _ hi => hi⟩
def kct_i4 (t : zT) (n i : Nat) : zT := (zsR (zA1 (zsR (zA1 t (n) 13 4001) (i) 3 (some (n))) (n + 1) 13 4001) (i) 4 (some (n + 1)))
theorem ct_i4 {n i : Nat} (hG : zGd t h n) (hI : zIn t i 4 0) : zMet E b l yX4_init cX4_init 1 none 1 2 8002 [.ref (b + i)] t h (qV (fun t' h' => t' = kct_i4 t n i ∧ h' = h ∧ zGd t' h' (n + 2) ∧ zMo t t')) := by
  refine zMet.of (ls := [some (.ref (b + i))]) (by decide) (zle rfl) 0 rfl ?_
  intro G hlG C hR hE hin
  refine zz_aload_0 C dX4_init_0 <| zn_obj C hR (zle rfl) oX4_3 (zle rfl) dX4_init_1 <| zz_aload_0 C dX4_init_4 <| zz_sipush C 4001 dX4_init_5 (by decide) <| zpc 8 rfl <| ?_
  refine zm_newL C hR hG 4001 (zlt2 _ (by decide)) (zle rfl) (zle rfl) dX4_init_8 ?_
  intro t1 e1 g1 m1 j1
  subst e1
  have hI := m1 _ _ _ hI
  refine zm_putRF C (hin rfl) fX4_9 rfl rfl hI g1 dX4_init_10 ?_
  intro t2 e2 g2 m2
  subst e2
  have hI := m2 _ _ _ hI
  refine zz_aload_0 C dX4_init_13 <| zz_sipush C 4001 dX4_init_14 (by decide) <| zpc 17 rfl <| ?_
  refine zm_newL C hR g2 4001 (zlt2 _ (by decide)) (zle rfl) (zle rfl) dX4_init_17 ?_
  intro t3 e3 g3 m3 j3
  subst e3
  have hI := m3 _ _ _ hI
  refine zm_putRF C (hin rfl) fX4_15 rfl rfl hI g3 dX4_init_19 ?_
  intro t4 e4 g4 m4
  subst e4
  have hI := m4 _ _ _ hI
  refine zy_return C hE (zle rfl) (zle rfl) dX4_init_22 ?_
  exact ⟨rfl, rfl, g4, (((m1.tr m2).tr m3).tr m4)⟩
def kct_i6 (t : zT) (n i : Nat) : zT := (zsR (zA1 (zsR (zA1 (zsR (zA1 t (n) 12 11) (i) 1 (some (n))) (n + 1) 12 11) (i) 2 (some (n + 1))) (n + 1 + 1) 12 30) (i) 3 (some (n + 1 + 1)))
theorem ct_i6 {n i : Nat} (hG : zGd t h n) (hI : zIn t i 6 0) : zMet E b l yX6_init cX6_init 1 none 1 3 52 [.ref (b + i)] t h (qV (fun t' h' => t' = kct_i6 t n i ∧ h' = h ∧ zGd t' h' (n + 3) ∧ zMo t t')) := by
  refine zMet.of (ls := [some (.ref (b + i))]) (by decide) (zle rfl) 0 rfl ?_
  intro G hlG C hR hE hin
  refine zz_aload_0 C dX6_init_0 <| zn_obj C hR (zle rfl) oX6_3 (zle rfl) dX6_init_1 <| zz_aload_0 C dX6_init_4 <| zz_bipush C 11 dX6_init_5 (by decide) <| zpc 7 rfl <| ?_
  refine zm_newI C hR hG 11 (zlt2 _ (by decide)) (zle rfl) (zle rfl) dX6_init_7 ?_
  intro t1 e1 g1 m1 j1
  subst e1
  have hI := m1 _ _ _ hI
  refine zm_putRF C (hin rfl) fX6_9 rfl rfl hI g1 dX6_init_9 ?_
  intro t2 e2 g2 m2
  subst e2
  have hI := m2 _ _ _ hI
  refine zz_aload_0 C dX6_init_12 <| zz_bipush C 11 dX6_init_13 (by decide) <| zpc 15 rfl <| ?_
  refine zm_newI C hR g2 11 (zlt2 _ (by decide)) (zle rfl) (zle rfl) dX6_init_15 ?_
  intro t3 e3 g3 m3 j3
  subst e3
  have hI := m3 _ _ _ hI
  refine zm_putRF C (hin rfl) fX6_15 rfl rfl hI g3 dX6_init_17 ?_
  intro t4 e4 g4 m4
  subst e4
  have hI := m4 _ _ _ hI
  refine zz_aload_0 C dX6_init_20 <| zz_bipush C 30 dX6_init_21 (by decide) <| zpc 23 rfl <| ?_
  refine zm_newI C hR g4 30 (zlt2 _ (by decide)) (zle rfl) (zle rfl) dX6_init_23 ?_
  intro t5 e5 g5 m5 j5
  subst e5
  have hI := m5 _ _ _ hI
  refine zm_putRF C (hin rfl) fX6_18 rfl rfl hI g5 dX6_init_25 ?_
  intro t6 e6 g6 m6
  subst e6
  have hI := m6 _ _ _ hI
  refine zy_return C hE (zle rfl) (zle rfl) dX6_init_28 ?_
  exact ⟨rfl, rfl, g6, (((((m1.tr m2).tr m3).tr m4).tr m5).tr m6)⟩
def kct_i7 (t : zT) (n i : Nat) : zT := t
theorem ct_i7 {n i : Nat} (hG : zGd t h n) (hI : zIn t i 7 0) : zMet E b l yX7_init cX7_init 1 none 1 0 0 [.ref (b + i)] t h (qV (fun t' h' => t' = kct_i7 t n i ∧ h' = h ∧ zGd t' h' (n + 0) ∧ zMo t t')) := by
  refine zMet.of (ls := [some (.ref (b + i))]) (by decide) (zle rfl) 0 rfl ?_
  intro G hlG C hR hE hin
  refine zz_aload_0 C dX7_init_0 <| zn_obj C hR (zle rfl) oX7_3 (zle rfl) dX7_init_1 <| zpc 4 rfl <| ?_
  refine zy_return C hE (zle rfl) (zle rfl) dX7_init_4 ?_
  exact ⟨rfl, rfl, hG, fun _ _ _ hi => hi⟩
def kct_i9 (t : zT) (n i : Nat) : zT := (zsR (zA1 (zsR (zA1 (zsR (zA1 (zsR (zA1 (zsR (zA1 (zsR (zA1 (zsR (zA1 t (n) 12 12) (i) 3 (some (n))) (n + 1) 12 11) (i) 4 (some (n + 1))) (n + 1 + 1) 12 11) (i) 5 (some (n + 1 + 1))) (n + 1 + 1 + 1) 12 11) (i) 6 (some (n + 1 + 1 + 1))) (n + 1 + 1 + 1 + 1) 12 11) (i) 7 (some (n + 1 + 1 + 1 + 1))) (n + 1 + 1 + 1 + 1 + 1) 12 11) (i) 8 (some (n + 1 + 1 + 1 + 1 + 1))) (n + 1 + 1 + 1 + 1 + 1 + 1) 12 144) (i) 9 (some (n + 1 + 1 + 1 + 1 + 1 + 1)))
theorem ct_i9 {n i : Nat} (hG : zGd t h n) (hI : zIn t i 9 0) : zMet E b l yX9_init cX9_init 1 none 1 7 211 [.ref (b + i)] t h (qV (fun t' h' => t' = kct_i9 t n i ∧ h' = h ∧ zGd t' h' (n + 7) ∧ zMo t t')) := by
  refine zMet.of (ls := [some (.ref (b + i))]) (by decide) (zle rfl) 0 rfl ?_
  intro G hlG C hR hE hin
  refine zz_aload_0 C dX9_init_0 <| zn_obj C hR (zle rfl) oX9_3 (zle rfl) dX9_init_1 <| zz_aload_0 C dX9_init_4 <| zz_bipush C 12 dX9_init_5 (by decide) <| zpc 7 rfl <| ?_
  refine zm_newI C hR hG 12 (zlt2 _ (by decide)) (zle rfl) (zle rfl) dX9_init_7 ?_
  intro t1 e1 g1 m1 j1
  subst e1
  have hI := m1 _ _ _ hI
  refine zm_putRF C (hin rfl) fX9_9 rfl rfl hI g1 dX9_init_9 ?_
  intro t2 e2 g2 m2
  subst e2
  have hI := m2 _ _ _ hI
  refine zz_aload_0 C dX9_init_12 <| zz_bipush C 11 dX9_init_13 (by decide) <| zpc 15 rfl <| ?_
  refine zm_newI C hR g2 11 (zlt2 _ (by decide)) (zle rfl) (zle rfl) dX9_init_15 ?_
  intro t3 e3 g3 m3 j3
  subst e3
  have hI := m3 _ _ _ hI
  refine zm_putRF C (hin rfl) fX9_15 rfl rfl hI g3 dX9_init_17 ?_
  intro t4 e4 g4 m4
  subst e4
  have hI := m4 _ _ _ hI
  refine zz_aload_0 C dX9_init_20 <| zz_bipush C 11 dX9_init_21 (by decide) <| zpc 23 rfl <| ?_
  refine zm_newI C hR g4 11 (zlt2 _ (by decide)) (zle rfl) (zle rfl) dX9_init_23 ?_
  intro t5 e5 g5 m5 j5
  subst e5
  have hI := m5 _ _ _ hI
  refine zm_putRF C (hin rfl) fX9_18 rfl rfl hI g5 dX9_init_25 ?_
  intro t6 e6 g6 m6
  subst e6
  have hI := m6 _ _ _ hI
  refine zz_aload_0 C dX9_init_28 <| zz_bipush C 11 dX9_init_29 (by decide) <| zpc 31 rfl <| ?_
  refine zm_newI C hR g6 11 (zlt2 _ (by decide)) (zle rfl) (zle rfl) dX9_init_31 ?_
  intro t7 e7 g7 m7 j7
  subst e7
  have hI := m7 _ _ _ hI
  refine zm_putRF C (hin rfl) fX9_21 rfl rfl hI g7 dX9_init_33 ?_
  intro t8 e8 g8 m8
  subst e8
  have hI := m8 _ _ _ hI
  refine zz_aload_0 C dX9_init_36 <| zz_bipush C 11 dX9_init_37 (by decide) <| zpc 39 rfl <| ?_
  refine zm_newI C hR g8 11 (zlt2 _ (by decide)) (zle rfl) (zle rfl) dX9_init_39 ?_
  intro t9 e9 g9 m9 j9
  subst e9
  have hI := m9 _ _ _ hI
  refine zm_putRF C (hin rfl) fX9_24 rfl rfl hI g9 dX9_init_41 ?_
  intro t10 e10 g10 m10
  subst e10
  have hI := m10 _ _ _ hI
  refine zz_aload_0 C dX9_init_44 <| zz_bipush C 11 dX9_init_45 (by decide) <| zpc 47 rfl <| ?_
  refine zm_newI C hR g10 11 (zlt2 _ (by decide)) (zle rfl) (zle rfl) dX9_init_47 ?_
  intro t11 e11 g11 m11 j11
  subst e11
  have hI := m11 _ _ _ hI
  refine zm_putRF C (hin rfl) fX9_27 rfl rfl hI g11 dX9_init_49 ?_
  intro t12 e12 g12 m12
  subst e12
  have hI := m12 _ _ _ hI
  refine zz_aload_0 C dX9_init_52 <| zz_sipush C 144 dX9_init_53 (by decide) <| zpc 56 rfl <| ?_
  refine zm_newI C hR g12 144 (zlt2 _ (by decide)) (zle rfl) (zle rfl) dX9_init_56 ?_
  intro t13 e13 g13 m13 j13
  subst e13
  have hI := m13 _ _ _ hI
  refine zm_putRF C (hin rfl) fX9_30 rfl rfl hI g13 dX9_init_58 ?_
  intro t14 e14 g14 m14
  subst e14
  have hI := m14 _ _ _ hI
  refine zy_return C hE (zle rfl) (zle rfl) dX9_init_61 ?_
  exact ⟨rfl, rfl, g14, (((((((((((((m1.tr m2).tr m3).tr m4).tr m5).tr m6).tr m7).tr m8).tr m9).tr m10).tr m11).tr m12).tr m13).tr m14)⟩
def kct_i3 (t : zT) (n i : Nat) : zT := (zsR (zA1 (zsR (zA1 (zsR (kct_i1 (zA1 t (n) 1 0) (n + 1) (n)) (i) 3 (some (n))) (n + 1 + 31) 12 600) (i) 4 (some (n + 1 + 31))) (n + 1 + 31 + 1) 12 5) (i) 5 (some (n + 1 + 31 + 1)))
def hct_i3 (h : zH) (n i : Nat) : zH := (hct_i1 (zsI (zsI (zsI h (i) 0 0) (i) 1 0) (i) 2 (-1)) (n + 1) (n))
theorem ct_i3 {n i : Nat} (hG : zGd t h n) (hI : zIn t i 3 0) : zMet E b l yX3_init cX3_init 1 none 3 34 804 [.ref (b + i)] t h (qV (fun t' h' => t' = kct_i3 t n i ∧ h' = hct_i3 h n i ∧ zGd t' h' (n + 34) ∧ zMo t t')) := by
  refine zMet.of (ls := [some (.ref (b + i))]) (by decide) (zle rfl) 0 rfl ?_
  intro G hlG C hR hE hin
  refine zz_aload_0 C dX3_init_0 <| zn_obj C hR (zle rfl) oX3_3 (zle rfl) dX3_init_1 <| zz_aload_0 C dX3_init_4 <| zz_iconst_0 C dX3_init_5 <| zpc 6 rfl <| ?_
  refine zm_putI C fX3_9 pX3_0 hI hG dX3_init_6 ?_
  intro g1
  refine zz_aload_0 C dX3_init_9 <| zz_iconst_0 C dX3_init_10 <| zpc 11 rfl <| ?_
  refine zm_putI C fX3_15 pX3_1 hI g1 dX3_init_11 ?_
  intro g2
  refine zz_aload_0 C dX3_init_14 <| zz_iconst_m1 C dX3_init_15 <| zpc 16 rfl <| ?_
  refine zm_putI C fX3_18 pX3_2 hI g2 dX3_init_16 ?_
  intro g3
  refine zz_aload_0 C dX3_init_19 <| zpc 20 rfl <| ?_
  refine zm_new C hR g3 1 (by decide) nX3_21 (zle rfl) (zle rfl) dX3_init_20 ?_
  intro t4 e4 g4 m4 j4
  subst e4
  have hI := m4 _ _ _ hI
  refine zz_dup C dX3_init_23 rfl <| zpc 24 rfl <| ?_
  refine zy_callIV C hR [] (ct_i1 g4 j4) lX3_23 rfl ⟨zle rfl, zle rfl, zle rfl, zle rfl⟩ (zle rfl) dX3_init_24 ?_
  intro t5 h5 p5
  obtain ⟨rfl, rfl, g5, m5⟩ := p5
  have hI := m5 _ _ _ hI
  have j4 := m5 _ _ _ j4
  refine zm_putR C fX3_24 rfl hI g5 dX3_init_27 ?_
  intro t6 e6 g6 m6
  subst e6
  have hI := m6 _ _ _ hI
  refine zz_aload_0 C dX3_init_30 <| zz_sipush C 600 dX3_init_31 (by decide) <| zpc 34 rfl <| ?_
  refine zm_newI C hR g6 600 (zlt2 _ (by decide)) (zle rfl) (zle rfl) dX3_init_34 ?_
  intro t7 e7 g7 m7 j7
  subst e7
  have hI := m7 _ _ _ hI
  refine zm_putRF C (hin rfl) fX3_28 rfl rfl hI g7 dX3_init_36 ?_
  intro t8 e8 g8 m8
  subst e8
  have hI := m8 _ _ _ hI
  refine zz_aload_0 C dX3_init_39 <| zz_iconst_5 C dX3_init_40 <| zpc 41 rfl <| ?_
  refine zm_newI C hR g8 5 (zlt2 _ (by decide)) (zle rfl) (zle rfl) dX3_init_41 ?_
  intro t9 e9 g9 m9 j9
  subst e9
  have hI := m9 _ _ _ hI
  refine zm_putRF C (hin rfl) fX3_32 rfl rfl hI g9 dX3_init_43 ?_
  intro t10 e10 g10 m10
  subst e10
  have hI := m10 _ _ _ hI
  refine zy_return C hE (zle rfl) (zle rfl) dX3_init_46 ?_
  exact ⟨rfl, rfl, g10, ((((((m4.tr m5).tr m6).tr m7).tr m8).tr m9).tr m10)⟩
def kct_i8 (t : zT) (n i : Nat) : zT := (zsR (kct_i1 (zA1 (zsR (kct_i6 (zA1 (zsR (zA1 (zsR (kct_i0 (zA1 (zsR (kct_i7 (zA1 (zsR (kct_i2 (zA1 (zsR (kct_i9 (zA1 t (n) 9 0) (n + 1) (n)) (i) 0 (some (n))) (n + 1 + 7) 2 0) (n + 1 + 7 + 1) (n + 1 + 7)) (i) 1 (some (n + 1 + 7))) (n + 1 + 7 + 1 + 0) 7 0) (n + 1 + 7 + 1 + 0 + 1) (n + 1 + 7 + 1 + 0)) (i) 2 (some (n + 1 + 7 + 1 + 0))) (n + 1 + 7 + 1 + 0 + 1 + 0) 0 0) (n + 1 + 7 + 1 + 0 + 1 + 0 + 1) (n + 1 + 7 + 1 + 0 + 1 + 0)) (i) 3 (some (n + 1 + 7 + 1 + 0 + 1 + 0))) (n + 1 + 7 + 1 + 0 + 1 + 0 + 1 + 1) 12 11) (i) 4 (some (n + 1 + 7 + 1 + 0 + 1 + 0 + 1 + 1))) (n + 1 + 7 + 1 + 0 + 1 + 0 + 1 + 1 + 1) 6 0) (n + 1 + 7 + 1 + 0 + 1 + 0 + 1 + 1 + 1 + 1) (n + 1 + 7 + 1 + 0 + 1 + 0 + 1 + 1 + 1)) (i) 5 (some (n + 1 + 7 + 1 + 0 + 1 + 0 + 1 + 1 + 1))) (n + 1 + 7 + 1 + 0 + 1 + 0 + 1 + 1 + 1 + 1 + 3) 1 0) (n + 1 + 7 + 1 + 0 + 1 + 0 + 1 + 1 + 1 + 1 + 3 + 1) (n + 1 + 7 + 1 + 0 + 1 + 0 + 1 + 1 + 1 + 1 + 3)) (i) 6 (some (n + 1 + 7 + 1 + 0 + 1 + 0 + 1 + 1 + 1 + 1 + 3)))
def hct_i8 (h : zH) (n i : Nat) : zH := (hct_i1 h (n + 1 + 7 + 1 + 0 + 1 + 0 + 1 + 1 + 1 + 1 + 3 + 1) (n + 1 + 7 + 1 + 0 + 1 + 0 + 1 + 1 + 1 + 1 + 3))
theorem ct_i8 {n i : Nat} (hG : zGd t h n) (hI : zIn t i 8 0) : zMet E b l yX8_init cX8_init 1 none 3 49 521 [.ref (b + i)] t h (qV (fun t' h' => t' = kct_i8 t n i ∧ h' = hct_i8 h n i ∧ zGd t' h' (n + 49) ∧ zMo t t')) := by
  refine zMet.of (ls := [some (.ref (b + i))]) (by decide) (zle rfl) 0 rfl ?_
  intro G hlG C hR hE hin
  refine zz_aload_0 C dX8_init_0 <| zn_obj C hR (zle rfl) oX8_3 (zle rfl) dX8_init_1 <| zz_aload_0 C dX8_init_4 <| zpc 5 rfl <| ?_
  refine zm_new C hR hG 9 (by decide) nX8_9 (zle rfl) (zle rfl) dX8_init_5 ?_
  intro t1 e1 g1 m1 j1
  subst e1
  have hI := m1 _ _ _ hI
  refine zz_dup C dX8_init_8 rfl <| zpc 9 rfl <| ?_
  refine zy_callINV C hR [] (ct_i9 g1 j1) lX8_11 rfl ⟨zle rfl, zle rfl, zle rfl, zle rfl⟩ (zle rfl) dX8_init_9 ?_
  intro t2 h2 p2
  obtain ⟨rfl, rfl, g2, m2⟩ := p2
  have hI := m2 _ _ _ hI
  have j1 := m2 _ _ _ j1
  refine zm_putRF C (hin rfl) fX8_12 rfl rfl hI g2 dX8_init_12 ?_
  intro t3 e3 g3 m3
  subst e3
  have hI := m3 _ _ _ hI
  refine zz_aload_0 C dX8_init_15 <| zpc 16 rfl <| ?_
  refine zm_new C hR g3 2 (by decide) nX8_18 (zle rfl) (zle rfl) dX8_init_16 ?_
  intro t4 e4 g4 m4 j4
  subst e4
  have hI := m4 _ _ _ hI
  refine zz_dup C dX8_init_19 rfl <| zpc 20 rfl <| ?_
  refine zy_callINV C hR [] (ct_i2 g4 j4) lX8_20 rfl ⟨zle rfl, zle rfl, zle rfl, zle rfl⟩ (zle rfl) dX8_init_20 ?_
  intro t5 h5 p5
  obtain ⟨rfl, rfl, g5, m5⟩ := p5
  have hI := m5 _ _ _ hI
  have j4 := m5 _ _ _ j4
  refine zm_putRF C (hin rfl) fX8_21 rfl rfl hI g5 dX8_init_23 ?_
  intro t6 e6 g6 m6
  subst e6
  have hI := m6 _ _ _ hI
  refine zz_aload_0 C dX8_init_26 <| zpc 27 rfl <| ?_
  refine zm_new C hR g6 7 (by decide) nX8_25 (zle rfl) (zle rfl) dX8_init_27 ?_
  intro t7 e7 g7 m7 j7
  subst e7
  have hI := m7 _ _ _ hI
  refine zz_dup C dX8_init_30 rfl <| zpc 31 rfl <| ?_
  refine zy_callINV C hR [] (ct_i7 g7 j7) lX8_27 rfl ⟨zle rfl, zle rfl, zle rfl, zle rfl⟩ (zle rfl) dX8_init_31 ?_
  intro t8 h8 p8
  obtain ⟨rfl, rfl, g8, m8⟩ := p8
  have hI := m8 _ _ _ hI
  have j7 := m8 _ _ _ j7
  refine zm_putRF C (hin rfl) fX8_28 rfl rfl hI g8 dX8_init_34 ?_
  intro t9 e9 g9 m9
  subst e9
  have hI := m9 _ _ _ hI
  refine zz_aload_0 C dX8_init_37 <| zpc 38 rfl <| ?_
  refine zm_new C hR g9 0 (by decide) nX8_32 (zle rfl) (zle rfl) dX8_init_38 ?_
  intro t10 e10 g10 m10 j10
  subst e10
  have hI := m10 _ _ _ hI
  refine zz_dup C dX8_init_41 rfl <| zpc 42 rfl <| ?_
  refine zy_callINV C hR [] (ct_i0 g10 j10) lX8_34 rfl ⟨zle rfl, zle rfl, zle rfl, zle rfl⟩ (zle rfl) dX8_init_42 ?_
  intro t11 h11 p11
  obtain ⟨rfl, rfl, g11, m11⟩ := p11
  have hI := m11 _ _ _ hI
  have j10 := m11 _ _ _ j10
  refine zm_putRF C (hin rfl) fX8_35 rfl rfl hI g11 dX8_init_45 ?_
  intro t12 e12 g12 m12
  subst e12
  have hI := m12 _ _ _ hI
  refine zz_aload_0 C dX8_init_48 <| zz_bipush C 11 dX8_init_49 (by decide) <| zpc 51 rfl <| ?_
  refine zm_newI C hR g12 11 (zlt2 _ (by decide)) (zle rfl) (zle rfl) dX8_init_51 ?_
  intro t13 e13 g13 m13 j13
  subst e13
  have hI := m13 _ _ _ hI
  refine zm_putRF C (hin rfl) fX8_39 rfl rfl hI g13 dX8_init_53 ?_
  intro t14 e14 g14 m14
  subst e14
  have hI := m14 _ _ _ hI
  refine zz_aload_0 C dX8_init_56 <| zpc 57 rfl <| ?_
  refine zm_new C hR g14 6 (by decide) nX8_43 (zle rfl) (zle rfl) dX8_init_57 ?_
  intro t15 e15 g15 m15 j15
  subst e15
  have hI := m15 _ _ _ hI
  refine zz_dup C dX8_init_60 rfl <| zpc 61 rfl <| ?_
  refine zy_callINV C hR [] (ct_i6 g15 j15) lX8_45 rfl ⟨zle rfl, zle rfl, zle rfl, zle rfl⟩ (zle rfl) dX8_init_61 ?_
  intro t16 h16 p16
  obtain ⟨rfl, rfl, g16, m16⟩ := p16
  have hI := m16 _ _ _ hI
  have j15 := m16 _ _ _ j15
  refine zm_putRF C (hin rfl) fX8_46 rfl rfl hI g16 dX8_init_64 ?_
  intro t17 e17 g17 m17
  subst e17
  have hI := m17 _ _ _ hI
  refine zz_aload_0 C dX8_init_67 <| zpc 68 rfl <| ?_
  refine zm_new C hR g17 1 (by decide) nX8_50 (zle rfl) (zle rfl) dX8_init_68 ?_
  intro t18 e18 g18 m18 j18
  subst e18
  have hI := m18 _ _ _ hI
  refine zz_dup C dX8_init_71 rfl <| zpc 72 rfl <| ?_
  refine zy_callIV C hR [] (ct_i1 g18 j18) lX8_52 rfl ⟨zle rfl, zle rfl, zle rfl, zle rfl⟩ (zle rfl) dX8_init_72 ?_
  intro t19 h19 p19
  obtain ⟨rfl, rfl, g19, m19⟩ := p19
  have hI := m19 _ _ _ hI
  have j18 := m19 _ _ _ j18
  refine zm_putR C fX8_53 rfl hI g19 dX8_init_75 ?_
  intro t20 e20 g20 m20
  subst e20
  have hI := m20 _ _ _ hI
  refine zy_return C hE (zle rfl) (zle rfl) dX8_init_78 ?_
  exact ⟨rfl, rfl, g20, (((((((((((((((((((m1.tr m2).tr m3).tr m4).tr m5).tr m6).tr m7).tr m8).tr m9).tr m10).tr m11).tr m12).tr m13).tr m14).tr m15).tr m16).tr m17).tr m18).tr m19).tr m20)⟩
def kct_i5 (t : zT) (_n _i : Nat) : zT := (zsR (kct_i6 (zA1 (zsR (kct_i6 (zA1 (zsR (kct_i6 (zA1 (zsR (kct_i6 (zA1 (zsR (zA1 t (124) 14 4) (123) 2 (some (124))) (124 + 1) 6 0) (124 + 1 + 1) (124 + 1)) (124) 0 (some (124 + 1))) (124 + 1 + 1 + 3) 6 0) (124 + 1 + 1 + 3 + 1) (124 + 1 + 1 + 3)) (124) 1 (some (124 + 1 + 1 + 3))) (124 + 1 + 1 + 3 + 1 + 3) 6 0) (124 + 1 + 1 + 3 + 1 + 3 + 1) (124 + 1 + 1 + 3 + 1 + 3)) (124) 2 (some (124 + 1 + 1 + 3 + 1 + 3))) (124 + 1 + 1 + 3 + 1 + 3 + 1 + 3) 6 0) (124 + 1 + 1 + 3 + 1 + 3 + 1 + 3 + 1) (124 + 1 + 1 + 3 + 1 + 3 + 1 + 3)) (124) 3 (some (124 + 1 + 1 + 3 + 1 + 3 + 1 + 3)))
theorem ct_i5 (hG : zGd t h 124) (hI : zIn t 123 5 0) : zMet E b l yX5_init cX5_init 2 none 2 17 232 [.ref (b + 123)] t h (qV (fun t' h' => t' = kct_i5 t 124 123 ∧ h' = h ∧ zGd t' h' (124 + 17) ∧ zMo t t')) := by
  refine zMet.of (ls := [some (.ref (b + 123)), none]) (by decide) (zle rfl) 1 rfl ?_
  intro G hlG C hR hE hin
  refine zz_aload_0 C dX5_init_0 <| zn_obj C hR (zle rfl) oX5_3 (zle rfl) dX5_init_1 <| zz_aload_0 C dX5_init_4 <| zz_iconst_4 C dX5_init_5 <| zpc 6 rfl <| ?_
  refine zm_newS C hR hG 4 (zlt2 _ (by decide)) nX5_9 (zle rfl) (zle rfl) dX5_init_6 ?_
  intro t1 e1 g1 m1 j1
  subst e1
  have hI := m1 _ _ _ hI
  refine zm_putRF C (hin rfl) fX5_11 rfl rfl hI g1 dX5_init_9 ?_
  intro t2 e2 g2 m2
  subst e2
  have hI := m2 _ _ _ hI
  have j1 := m2 _ _ _ j1
  refine zz_iconst_0 C dX5_init_12 <| zz_istore_1 C (zle rfl) rfl dX5_init_13 <| zz_iload_1 C dX5_init_14 <| zz_aload_0 C dX5_init_15 <| zpc 16 rfl <| ?_
  refine zz_getR C fX5_11 hI.2 (j := 124) (by rfl) dX5_init_16 ?_
  refine zz_alenS C j1.2 dX5_init_19 <| zpc 20 rfl <| ?_
  refine zz_icmp_ge C 42 dX5_init_20 (by decide) (fun c9 => absurd c9 (by decide)) (fun _ => ?_)
  refine zz_aload_0 C dX5_init_23 <| zpc 24 rfl <| ?_
  refine zz_getR C fX5_11 hI.2 (j := 124) (by rfl) dX5_init_24 ?_
  refine zz_iload_1 C dX5_init_27 <| zpc 28 rfl <| ?_
  refine zm_new C hR g2 6 (by decide) nX5_9 (zle rfl) (zle rfl) dX5_init_28 ?_
  intro t3 e3 g3 m3 j3
  subst e3
  have hI := m3 _ _ _ hI
  have j1 := m3 _ _ _ j1
  refine zz_dup C dX5_init_31 rfl <| zpc 32 rfl <| ?_
  refine zy_callINV C hR [] (ct_i6 g3 j3) lX5_17 rfl ⟨zle rfl, zle rfl, zle rfl, zle rfl⟩ (zle rfl) dX5_init_32 ?_
  intro t4 h4 p4
  obtain ⟨rfl, rfl, g4, m4⟩ := p4
  have hI := m4 _ _ _ hI
  have j1 := m4 _ _ _ j1
  have j3 := m4 _ _ _ j3
  refine zm_aast C 0 j1 j3 g4 (zlit _ (by decide)) (by decide) dX5_init_35 ?_
  intro t5 e5 g5 m5
  subst e5
  have hI := m5 _ _ _ hI
  have j1 := m5 _ _ _ j1
  refine zz_iinc_1 C 1 (zle rfl) rfl dX5_init_36 (by decide) <| zz_goto C 14 dX5_init_39 (by decide) <| zz_iload_1 C dX5_init_14 <| zz_aload_0 C dX5_init_15 <| zpc 16 rfl <| ?_
  refine zz_getR C fX5_11 hI.2 (j := 124) (by rfl) dX5_init_16 ?_
  refine zz_alenS C j1.2 dX5_init_19 <| zpc 20 rfl <| ?_
  refine zz_icmp_ge C 42 dX5_init_20 (by decide) (fun c9 => absurd c9 (by decide)) (fun _ => ?_)
  refine zz_aload_0 C dX5_init_23 <| zpc 24 rfl <| ?_
  refine zz_getR C fX5_11 hI.2 (j := 124) (by rfl) dX5_init_24 ?_
  refine zz_iload_1 C dX5_init_27 <| zpc 28 rfl <| ?_
  refine zm_new C hR g5 6 (by decide) nX5_9 (zle rfl) (zle rfl) dX5_init_28 ?_
  intro t6 e6 g6 m6 j6
  subst e6
  have hI := m6 _ _ _ hI
  have j1 := m6 _ _ _ j1
  refine zz_dup C dX5_init_31 rfl <| zpc 32 rfl <| ?_
  refine zy_callINV C hR [] (ct_i6 g6 j6) lX5_17 rfl ⟨zle rfl, zle rfl, zle rfl, zle rfl⟩ (zle rfl) dX5_init_32 ?_
  intro t7 h7 p7
  obtain ⟨rfl, rfl, g7, m7⟩ := p7
  have hI := m7 _ _ _ hI
  have j1 := m7 _ _ _ j1
  have j6 := m7 _ _ _ j6
  refine zm_aast C 1 j1 j6 g7 (zlit _ (by decide)) (by decide) dX5_init_35 ?_
  intro t8 e8 g8 m8
  subst e8
  have hI := m8 _ _ _ hI
  have j1 := m8 _ _ _ j1
  refine zz_iinc_1 C 2 (zle rfl) rfl dX5_init_36 (by decide) <| zz_goto C 14 dX5_init_39 (by decide) <| zz_iload_1 C dX5_init_14 <| zz_aload_0 C dX5_init_15 <| zpc 16 rfl <| ?_
  refine zz_getR C fX5_11 hI.2 (j := 124) (by rfl) dX5_init_16 ?_
  refine zz_alenS C j1.2 dX5_init_19 <| zpc 20 rfl <| ?_
  refine zz_icmp_ge C 42 dX5_init_20 (by decide) (fun c9 => absurd c9 (by decide)) (fun _ => ?_)
  refine zz_aload_0 C dX5_init_23 <| zpc 24 rfl <| ?_
  refine zz_getR C fX5_11 hI.2 (j := 124) (by rfl) dX5_init_24 ?_
  refine zz_iload_1 C dX5_init_27 <| zpc 28 rfl <| ?_
  refine zm_new C hR g8 6 (by decide) nX5_9 (zle rfl) (zle rfl) dX5_init_28 ?_
  intro t9 e9 g9 m9 j9
  subst e9
  have hI := m9 _ _ _ hI
  have j1 := m9 _ _ _ j1
  refine zz_dup C dX5_init_31 rfl <| zpc 32 rfl <| ?_
  refine zy_callINV C hR [] (ct_i6 g9 j9) lX5_17 rfl ⟨zle rfl, zle rfl, zle rfl, zle rfl⟩ (zle rfl) dX5_init_32 ?_
  intro t10 h10 p10
  obtain ⟨rfl, rfl, g10, m10⟩ := p10
  have hI := m10 _ _ _ hI
  have j1 := m10 _ _ _ j1
  have j9 := m10 _ _ _ j9
  refine zm_aast C 2 j1 j9 g10 (zlit _ (by decide)) (by decide) dX5_init_35 ?_
  intro t11 e11 g11 m11
  subst e11
  have hI := m11 _ _ _ hI
  have j1 := m11 _ _ _ j1
  refine zz_iinc_1 C 3 (zle rfl) rfl dX5_init_36 (by decide) <| zz_goto C 14 dX5_init_39 (by decide) <| zz_iload_1 C dX5_init_14 <| zz_aload_0 C dX5_init_15 <| zpc 16 rfl <| ?_
  refine zz_getR C fX5_11 hI.2 (j := 124) (by rfl) dX5_init_16 ?_
  refine zz_alenS C j1.2 dX5_init_19 <| zpc 20 rfl <| ?_
  refine zz_icmp_ge C 42 dX5_init_20 (by decide) (fun c9 => absurd c9 (by decide)) (fun _ => ?_)
  refine zz_aload_0 C dX5_init_23 <| zpc 24 rfl <| ?_
  refine zz_getR C fX5_11 hI.2 (j := 124) (by rfl) dX5_init_24 ?_
  refine zz_iload_1 C dX5_init_27 <| zpc 28 rfl <| ?_
  refine zm_new C hR g11 6 (by decide) nX5_9 (zle rfl) (zle rfl) dX5_init_28 ?_
  intro t12 e12 g12 m12 j12
  subst e12
  have hI := m12 _ _ _ hI
  have j1 := m12 _ _ _ j1
  refine zz_dup C dX5_init_31 rfl <| zpc 32 rfl <| ?_
  refine zy_callINV C hR [] (ct_i6 g12 j12) lX5_17 rfl ⟨zle rfl, zle rfl, zle rfl, zle rfl⟩ (zle rfl) dX5_init_32 ?_
  intro t13 h13 p13
  obtain ⟨rfl, rfl, g13, m13⟩ := p13
  have hI := m13 _ _ _ hI
  have j1 := m13 _ _ _ j1
  have j12 := m13 _ _ _ j12
  refine zm_aast C 3 j1 j12 g13 (zlit _ (by decide)) (by decide) dX5_init_35 ?_
  intro t14 e14 g14 m14
  subst e14
  have hI := m14 _ _ _ hI
  have j1 := m14 _ _ _ j1
  refine zz_iinc_1 C 4 (zle rfl) rfl dX5_init_36 (by decide) <| zz_goto C 14 dX5_init_39 (by decide) <| zz_iload_1 C dX5_init_14 <| zz_aload_0 C dX5_init_15 <| zpc 16 rfl <| ?_
  refine zz_getR C fX5_11 hI.2 (j := 124) (by rfl) dX5_init_16 ?_
  refine zz_alenS C j1.2 dX5_init_19 <| zpc 20 rfl <| ?_
  refine zz_icmp_ge C 42 dX5_init_20 (by decide) (fun _ => ?_) (fun c9 => absurd (by decide) c9)
  refine zy_return C hE (zle rfl) (zle rfl) dX5_init_42 ?_
  exact ⟨rfl, rfl, g14, (((((((((((((m1.tr m2).tr m3).tr m4).tr m5).tr m6).tr m7).tr m8).tr m9).tr m10).tr m11).tr m12).tr m13).tr m14)⟩
end ZCT
