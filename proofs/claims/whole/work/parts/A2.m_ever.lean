/-! ===== the reference: a ring found ===== -/
/-- a state kept at d -/
def mKp (h : zH) (d a c : Nat) (hc : zH) : Prop := (∀ i k, zI hc i k = zI h i k) ∧ (∀ i k, ¬ ((i = 238 ∨ i = 239) ∧ k = d) → zL hc i k = zL h i k) ∧ zL hc 238 d = lN a ∧ zL hc 239 d = lN c
noncomputable abbrev w11 (D : yD) (R : Nat × (Nat → Nat)) (sd : Int32) (d : Nat) : Nat := kW (xRg D R sd d).1.1 D.2.1.1.1
noncomputable abbrev r11 (D : yD) (R : Nat × (Nat → Nat)) (sd : Int32) (d : Nat) : Nat := kR (d % R.1 * 7 + (D.2.2.2 + d) % 7) (xRg D R sd d).1.1 (xRg D R sd d).1.2 D.2.1.1.1
theorem wr11_b {D : yD} {R : Nat × (Nat → Nat)} {sd : Int32} (hD : sdOk D yPd) (d k : Nat) (hk : k < D.2.1.1.1) : (xRg D R sd d).1.1 k < 100 ∧ (xRg D R sd d).1.2 k < 12 := by
  have hW := (hD.w sd).days R 1 d
  have hN11 := hD.2.2.1
  have h9 : (xRg D R sd d).1.1 k ≤ 99 := (hW.1.1.2.2.2.2 k hk).2.2.2.2.2.2.2
  have h8 : (xRg D R sd d).1.2 k ≤ D.2.1.1.2.2 := hW.2.2.2 k hk
  exact ⟨by omega, by omega⟩
theorem wr11_lt {D : yD} {R : Nat × (Nat → Nat)} {sd : Int32} (hD : sdOk D yPd) (hn : D.2.1.1.1 ≤ 10) (hR : 0 < R.1) (hR2 : R.1 ≤ 30) (d : Nat) : w11 D R sd d < 2 ^ 63 ∧ r11 D R sd d < 2 ^ 63 := by
  have hb := wr11_b (R := R) (sd := sd) hD d
  have e1 : ∀ n, n < 11 → 100 ^ (min n 8) < 2 ^ 63 := by decide
  have e2 : ∀ n, n < 11 → 210 * 12 ^ n * 100 ^ (n - 8) < 2 ^ 63 := by decide
  have hp : d % R.1 * 7 + (D.2.2.2 + d) % 7 < 210 := by
    have := Nat.mod_lt d hR
    omega
  exact ⟨Nat.lt_trans (kW_lt _ hn (fun k hk => (hb k hk).1)) (e1 _ (by omega)), Nat.lt_trans (kR_lt hp _ hn hb) (e2 _ (by omega))⟩
theorem same11 {D : yD} {R : Nat × (Nat → Nat)} {sd : Int32} (hD : sdOk D yPd) (i d : Nat) : eR9 D R sd i d ↔ (w11 D R sd i = w11 D R sd d ∧ r11 D R sd i = r11 D R sd d) := by
  unfold eR9 eQ
  constructor
  · rintro ⟨h1, h2⟩
    have e := kWR_eq (p := i % R.1 * 7 + (D.2.2.2 + i) % 7) D.2.1.1.1 h1
    refine ⟨e.1, ?_⟩
    show kR _ _ _ _ = kR _ _ _ _
    rw [← h2]
    exact e.2
  · rintro ⟨h1, h2⟩
    have e := kWR_inj D.2.1.1.1 (fun k hk => ⟨(wr11_b hD i k hk).1, (wr11_b hD d k hk).1, (wr11_b hD i k hk).2, (wr11_b hD d k hk).2⟩) h1 h2
    exact ⟨e.2, e.1⟩
section MEV
variable {E : zE} {b : Nat} {G : zG} {t : zT} {h : zH} {l : Launch} {D : yD} {R : Nat × (Nat → Nat)} {sd : Int32} {w r : Nat → Nat} {n m gone day : Nat}
theorem c_keeps (hT : zTM t) (hn : n ≤ 11) (d : Nat) (hd : d ≤ 4000) (hr : zI h 157 30 = nI n) (hw : ∀ k, k < n → zI h 233 k = nI (w k) ∧ zI h 234 k = nI (r k) ∧ w k < 100 ∧ r k < 12) (hp7 : zI h 157 34 = nI gone) (hdn : zI h 157 32 = nI day) (hro : zI h 157 20 = nI m) (hm0 : 0 < m) (hm : m ≤ 30) (hg : gone < 2 ^ 30) (hda : day < 2 ^ 30) : zMet E b l yX11_keeps cX11_keeps 3 none 1 0 0 [.ref (b + 157), .int (nI d)] t h (qV (fun t' h' => t' = t ∧ mKp h d (kW w n) (kR (gone % m * 7 + day % 7) w r n) h')) := by
  have hmod := Nat.mod_lt gone hm0
  refine zMet.of (ls := [some (.ref (b + 157)), some (.int (nI d)), none]) (by decide) (zle rfl) 1 rfl ?_
  intro G hlG C hR hE hin
  have lp : ∀ k, k ≤ n → ∀ hc, mKp h d (kW w k) (kR (gone % m * 7 + day % 7) w r k) hc → zAW E b G 3 0 0 36 [some (.ref (b + 157)), some (.int (nI d)), some (.int (nI k))] [] t hc := by
    refine zLoop n fun k hk ih hc kp => ?_
    have hrc : zI hc 157 30 = nI n := (kp.1 _ _).trans hr
    have hwk : k < n → _ := fun z => hw k z
    have ew : k < n → zI hc 233 k = nI (w k) := fun z => (kp.1 _ _).trans (hwk z).1
    have er : k < n → zI hc 234 k = nI (r k) := fun z => (kp.1 _ _).trans (hwk z).2.1
    refine zz_iload_2 C dX11_keeps_36 <| zz_aload_0 C dX11_keeps_37 <| zz_getI C fX11_204 (tM_K hT) dX11_keeps_38 <| zpc 41 rfl <| ?_
    rw [hrc]
    refine zz_icmp_ge C 131 dX11_keeps_41 (by decide) (fun c41 => ?_) (fun c41 => ?_)
    · rw [nI_leI (by omega) (by omega)] at c41
      refine zy_return C hE (zle rfl) (zle rfl) dX11_keeps_131 ?_
      rw [show n = k by omega]; exact ⟨rfl, kp⟩
    · rw [nI_leI (by omega) (by omega)] at c41
      refine zz_iload_2 C dX11_keeps_44 <| zz_bipush C 8 dX11_keeps_45 (by decide) <| zpc 47 rfl <| ?_
      refine zz_icmp_ge C 77 dX11_keeps_47 (by decide) (fun c47 => ?_) (fun c47 => ?_)
      · rw [show (8 : Int32) = nI 8 from rfl, nI_leI (by omega) (by omega)] at c47
        refine zz_aload_0 C dX11_keeps_77 <| zz_getR C fX11_95 (tM_K hT) (tM_R_stateR hT) dX11_keeps_78 <| zz_iload_1 C dX11_keeps_81 <| zz_aload_0 C dX11_keeps_82 <| zz_getR C fX11_95 (tM_K hT) (tM_R_stateR hT) dX11_keeps_83 <| zz_iload_1 C dX11_keeps_86 <| zc_laload C _ (tM_K_stateR hT) (znI (by omega)) (by omega) dX11_keeps_87 <| zpc 88 rfl <| ?_
        rw [kp.2.2.2]
        refine zz_ldc2 C dX11_keeps_88 kX11_311 <| zz_lmul C dX11_keeps_91 <| zpc 92 rfl <| ?_
        rw [show (100 : Int64) = lN 100 from rfl, lN_mul]
        refine zz_aload_0 C dX11_keeps_92 <| zz_getR C fX11_61 (tM_K hT) (tM_R_w hT) dX11_keeps_93 <| zz_iload_2 C dX11_keeps_96 <| zc_iaload C _ (tM_K_w hT) (znI (by omega)) (by omega) dX11_keeps_97 <| zpc 98 rfl <| ?_
        rw [ew (by omega)]
        refine zz_i2l C dX11_keeps_98 <| zpc 99 rfl <| ?_
        rw [nI_l (by have := (hwk (by omega)).2.2.1; omega)]
        refine zz_ladd C dX11_keeps_99 <| zpc 100 rfl <| ?_
        rw [lN_add]
        refine zc_lastore C _ (tM_K_stateR hT) (znI (by omega)) (by omega) dX11_keeps_100 <| zz_aload_0 C dX11_keeps_101 <| zz_getR C fX11_95 (tM_K hT) (tM_R_stateR hT) dX11_keeps_102 <| zz_iload_1 C dX11_keeps_105 <| zz_aload_0 C dX11_keeps_106 <| zz_getR C fX11_95 (tM_K hT) (tM_R_stateR hT) dX11_keeps_107 <| zz_iload_1 C dX11_keeps_110 <| zc_laload C _ (tM_K_stateR hT) (znI (by omega)) (by omega) dX11_keeps_111 <| zpc 112 rfl <| ?_
        first
        | rw [zL_sL, if_pos ⟨rfl, rfl⟩]
        | rw [zL_sL, if_neg (by omega), kp.2.2.2]
        refine zz_ldc2 C dX11_keeps_112 kX11_313 <| zz_lmul C dX11_keeps_115 <| zpc 116 rfl <| ?_
        rw [show (12 : Int64) = lN 12 from rfl, lN_mul]
        refine zz_aload_0 C dX11_keeps_116 <| zz_getR C fX11_64 (tM_K hT) (tM_R_r hT) dX11_keeps_117 <| zz_iload_2 C dX11_keeps_120 <| zc_iaload C _ (tM_K_r hT) (znI (by omega)) (by omega) dX11_keeps_121 <| zpc 122 rfl <| ?_
        rw [show ∀ i v, zI (zsL hc i d v) 234 k = nI (r k) from fun _ _ => er (by omega)]
        refine zz_i2l C dX11_keeps_122 <| zpc 123 rfl <| ?_
        rw [nI_l (by have := (hwk (by omega)).2.2.2; omega)]
        refine zz_ladd C dX11_keeps_123 <| zpc 124 rfl <| ?_
        rw [lN_add]
        refine zc_lastore C _ (tM_K_stateR hT) (znI (by omega)) (by omega) dX11_keeps_124 <| zz_iinc_2 C _ (zle rfl) rfl dX11_keeps_125 nI_s <| zz_goto C 36 dX11_keeps_128 (by decide) <| zpc 36 rfl <| ?_
        refine ih (by omega) _ ⟨kp.1, fun i q z => ?_, ?_, ?_⟩
        · rw [zL_sL, if_neg (fun y => z (by omega)), zL_sL, if_neg (fun y => z (by omega))]; exact kp.2.1 i q z
        · first
            | (rw [zL_sL, if_neg (by omega), zL_sL, if_pos ⟨rfl, rfl⟩]; show _ = lN (if k < 8 then kW w k * 100 + w k else kW w k); rw [if_pos (by omega)])
            | (rw [zL_sL, if_neg (by omega), zL_sL, if_neg (by omega), kp.2.2.1]; show _ = lN (if k < 8 then kW w k * 100 + w k else kW w k); rw [if_neg (by omega)])
        · rw [zL_sL, if_pos ⟨rfl, rfl⟩]
          show _ = lN ((if k < 8 then kR (gone % m * 7 + day % 7) w r k else kR (gone % m * 7 + day % 7) w r k * 100 + w k) * 12 + r k)
          first
            | rw [if_pos (by omega)]
            | rw [if_neg (by omega)]
      · rw [show (8 : Int32) = nI 8 from rfl, nI_leI (by omega) (by omega)] at c47
        refine zz_aload_0 C dX11_keeps_50 <| zz_getR C fX11_91 (tM_K hT) (tM_R_stateW hT) dX11_keeps_51 <| zz_iload_1 C dX11_keeps_54 <| zz_aload_0 C dX11_keeps_55 <| zz_getR C fX11_91 (tM_K hT) (tM_R_stateW hT) dX11_keeps_56 <| zz_iload_1 C dX11_keeps_59 <| zc_laload C _ (tM_K_stateW hT) (znI (by omega)) (by omega) dX11_keeps_60 <| zpc 61 rfl <| ?_
        rw [kp.2.2.1]
        refine zz_ldc2 C dX11_keeps_61 kX11_311 <| zz_lmul C dX11_keeps_64 <| zpc 65 rfl <| ?_
        rw [show (100 : Int64) = lN 100 from rfl, lN_mul]
        refine zz_aload_0 C dX11_keeps_65 <| zz_getR C fX11_61 (tM_K hT) (tM_R_w hT) dX11_keeps_66 <| zz_iload_2 C dX11_keeps_69 <| zc_iaload C _ (tM_K_w hT) (znI (by omega)) (by omega) dX11_keeps_70 <| zpc 71 rfl <| ?_
        rw [ew (by omega)]
        refine zz_i2l C dX11_keeps_71 <| zpc 72 rfl <| ?_
        rw [nI_l (by have := (hwk (by omega)).2.2.1; omega)]
        refine zz_ladd C dX11_keeps_72 <| zpc 73 rfl <| ?_
        rw [lN_add]
        refine zc_lastore C _ (tM_K_stateW hT) (znI (by omega)) (by omega) dX11_keeps_73 <| zz_goto C 101 dX11_keeps_74 (by decide) <| zz_aload_0 C dX11_keeps_101 <| zz_getR C fX11_95 (tM_K hT) (tM_R_stateR hT) dX11_keeps_102 <| zz_iload_1 C dX11_keeps_105 <| zz_aload_0 C dX11_keeps_106 <| zz_getR C fX11_95 (tM_K hT) (tM_R_stateR hT) dX11_keeps_107 <| zz_iload_1 C dX11_keeps_110 <| zc_laload C _ (tM_K_stateR hT) (znI (by omega)) (by omega) dX11_keeps_111 <| zpc 112 rfl <| ?_
        first
        | rw [zL_sL, if_pos ⟨rfl, rfl⟩]
        | rw [zL_sL, if_neg (by omega), kp.2.2.2]
        refine zz_ldc2 C dX11_keeps_112 kX11_313 <| zz_lmul C dX11_keeps_115 <| zpc 116 rfl <| ?_
        rw [show (12 : Int64) = lN 12 from rfl, lN_mul]
        refine zz_aload_0 C dX11_keeps_116 <| zz_getR C fX11_64 (tM_K hT) (tM_R_r hT) dX11_keeps_117 <| zz_iload_2 C dX11_keeps_120 <| zc_iaload C _ (tM_K_r hT) (znI (by omega)) (by omega) dX11_keeps_121 <| zpc 122 rfl <| ?_
        rw [show ∀ i v, zI (zsL hc i d v) 234 k = nI (r k) from fun _ _ => er (by omega)]
        refine zz_i2l C dX11_keeps_122 <| zpc 123 rfl <| ?_
        rw [nI_l (by have := (hwk (by omega)).2.2.2; omega)]
        refine zz_ladd C dX11_keeps_123 <| zpc 124 rfl <| ?_
        rw [lN_add]
        refine zc_lastore C _ (tM_K_stateR hT) (znI (by omega)) (by omega) dX11_keeps_124 <| zz_iinc_2 C _ (zle rfl) rfl dX11_keeps_125 nI_s <| zz_goto C 36 dX11_keeps_128 (by decide) <| zpc 36 rfl <| ?_
        refine ih (by omega) _ ⟨kp.1, fun i q z => ?_, ?_, ?_⟩
        · rw [zL_sL, if_neg (fun y => z (by omega)), zL_sL, if_neg (fun y => z (by omega))]; exact kp.2.1 i q z
        · first
            | (rw [zL_sL, if_neg (by omega), zL_sL, if_pos ⟨rfl, rfl⟩]; show _ = lN (if k < 8 then kW w k * 100 + w k else kW w k); rw [if_pos (by omega)])
            | (rw [zL_sL, if_neg (by omega), zL_sL, if_neg (by omega), kp.2.2.1]; show _ = lN (if k < 8 then kW w k * 100 + w k else kW w k); rw [if_neg (by omega)])
        · rw [zL_sL, if_pos ⟨rfl, rfl⟩]
          show _ = lN ((if k < 8 then kR (gone % m * 7 + day % 7) w r k else kR (gone % m * 7 + day % 7) w r k * 100 + w k) * 12 + r k)
          first
            | rw [if_pos (by omega)]
            | rw [if_neg (by omega)]
  refine zz_aload_0 C dX11_keeps_0 <| zz_getR C fX11_91 (tM_K hT) (tM_R_stateW hT) dX11_keeps_1 <| zz_iload_1 C dX11_keeps_4 <| zz_lconst_0 C dX11_keeps_5 <| zc_lastore C _ (tM_K_stateW hT) (znI (by omega)) (by omega) dX11_keeps_6 <| zz_aload_0 C dX11_keeps_7 <| zz_getR C fX11_95 (tM_K hT) (tM_R_stateR hT) dX11_keeps_8 <| zz_iload_1 C dX11_keeps_11 <| zz_aload_0 C dX11_keeps_12 <| zz_getI C fX11_236 (tM_K hT) dX11_keeps_13 <| zpc 16 rfl <| ?_
  rw [show zI (zsL h 238 d 0) 157 34 = nI gone from hp7]
  refine zz_aload_0 C dX11_keeps_16 <| zz_getI C fX11_191 (tM_K hT) dX11_keeps_17 <| zpc 20 rfl <| ?_
  rw [show zI (zsL h 238 d 0) 157 20 = nI m from hro]
  refine zz_irem C dX11_keeps_20 (by exact nI_ne0 hm0 (by omega)) <| zpc 21 rfl <| ?_
  rw [pk_rem (by omega) (by omega) (by omega)]
  refine zz_bipush C 7 dX11_keeps_21 (by decide) <| zz_imul C dX11_keeps_23 <| zpc 24 rfl <| ?_
  rw [show (7 : Int32) = nI 7 from rfl, pk_mul]
  refine zz_aload_0 C dX11_keeps_24 <| zz_getI C fX11_230 (tM_K hT) dX11_keeps_25 <| zpc 28 rfl <| ?_
  rw [show zI (zsL h 238 d 0) 157 32 = nI day from hdn]
  refine zz_bipush C 7 dX11_keeps_28 (by decide) <| zz_irem C dX11_keeps_30 (by decide) <| zpc 31 rfl <| ?_
  rw [show (7 : Int32) = nI 7 from rfl, pk_rem (by omega) (by omega) (by omega)]
  refine zz_iadd C dX11_keeps_31 <| zpc 32 rfl <| ?_
  rw [nI_add]
  refine zz_i2l C dX11_keeps_32 <| zpc 33 rfl <| ?_
  rw [nI_l (by omega)]
  refine zc_lastore C _ (tM_K_stateR hT) (znI (by omega)) (by omega) dX11_keeps_33 <| zz_iconst_0 C dX11_keeps_34 <| zz_istore_2 C (zle rfl) rfl dX11_keeps_35 <| zpc 36 rfl <| ?_
  refine lp 0 (by omega) _ ⟨fun _ _ => rfl, fun i q z => ?_, ?_, ?_⟩
  · rw [zL_sL, if_neg (fun y => z (by omega)), zL_sL, if_neg (fun y => z (by omega))]
  · rw [zL_sL, if_neg (by omega), zL_sL, if_pos ⟨rfl, rfl⟩]; rfl
  · rw [zL_sL, if_pos ⟨rfl, rfl⟩]; rfl
end MEV
