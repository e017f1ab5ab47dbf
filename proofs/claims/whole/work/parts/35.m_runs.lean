/-! ===== the reference: run, would, minutes, judge ===== -/
theorem ruleOk {r d : Int32} : ((0 ≤ r ∧ r ≤ 3) ∧ 1 ≤ d ∧ d ≤ 366) ↔ ∃ k n, k ≤ 3 ∧ 1 ≤ n ∧ n ≤ 366 ∧ r = nI k ∧ d = nI n := by
  constructor
  · intro q
    obtain ⟨k, hk, e⟩ := nI_of2 (x := r) (n := 3) (M := 3) rfl (Int32.not_lt.mpr q.1.1) q.1.2
    obtain ⟨n, hn, e2⟩ := nI_of2 (x := d) (n := 366) (M := 366) rfl (fun z => by have := q.2.1; grind) q.2.2
    refine ⟨k, n, hk, ?_, hn, e, e2⟩
    have h1 := q.2.1
    rw [e2, show (1 : Int32) = nI 1 from rfl, nI_leI (by omega) (by omega)] at h1
    exact h1
  · rintro ⟨k, n, hk, hn1, hn, rfl, rfl⟩
    exact ⟨⟨nI_pos' (by omega), nI_le (b := 3) hk (by omega)⟩, nI_le (a := 1) hn1 (by omega), nI_le (b := 366) hn (by omega)⟩
section MRN
variable {E : zE} {b : Nat} {G : zG} {t : zT} {h : zH} {D : yD} {p : yP} {R : Nat × (Nat → Nat)}
theorem c_run1 {l : Launch} (hT : zTM t) (hD : sdOk D p) (hm : mSd h D p) (hRo : roOk R) (hro : mRo h R) (k d : Nat) (hk : k ≤ 3) (hd1 : 1 ≤ d) (hd : d ≤ 366) (hkr : k = 1 → 0 < R.1) (htd : D.2.2.2 + d < 2 ^ 20) : zMet E b l yX11_run cX11_run 3 (some .long) 6 0 0 [.ref (b + 157), .int (nI k), .int (nI d)] t h (qJ (fun v t' h' => v = lN (dDays D.1 D.2.1 p R k d (x0 D (zI h 157 41))).2.2.2.1.1 ∧ mCall h t (D.1, D.2.1, (dDays D.1 D.2.1 p R k d (x0 D (zI h 157 41))).1, D.2.2.2 + d) p 0 t' h')) := by
  have hm0 := hm.th hD 0
  have hro0 := mRo.ag4 (zAg4.th h 0) hro
  have hR30 := hRo.1
  have hok : ((0 ≤ nI k ∧ nI k ≤ 3) ∧ 1 ≤ nI d ∧ nI d ≤ 366) := ruleOk.mpr ⟨k, d, hk, hd1, hd, rfl, rfl⟩
  have e1 : zI (zsI h 157 0 0) 157 41 = zI h 157 41 := by rw [zI_sI, if_neg (by omega)]
  refine zMet.of (ls := [some (.ref (b + 157)), some (.int (nI k)), some (.int (nI d))]) (by decide) (zle rfl) 0 rfl ?_
  intro G hlG C hR hE hin
  refine zz_aload_0 C dX11_run_0 <| zz_iconst_0 C dX11_run_1 <| zy_putI C fX11_104 pX11_0 (tM_K hT) dX11_run_2 <| zz_aload_0 C dX11_run_5 <| zz_aload_0 C dX11_run_6 <| zz_iload_1 C dX11_run_7 <| zz_iload_2 C dX11_run_8 <| zpc 9 rfl <| ?_
  refine zf_callVI C hR [_, _] (c_isRule hT _ _) lX11_302 rfl (tM_K hT) (by decide) rfl ⟨zle rfl, zle rfl, zle rfl, zle rfl⟩ (zle rfl) dX11_run_9 ?_
  refine zz_if_ne C 19 dX11_run_12 (by decide) (fun c12 => ?_) (fun c12 => ?_)
  · refine zz_iconst_0 C dX11_run_19 <| zz_iconst_1 C dX11_run_20 <| zpc 21 rfl <| ?_
    refine zf_callVI C hR [_, _] (c_bad0 hT _ (by decide) (by first | exact zI_self _ _ _ _ | assumption)) lX11_181 rfl (tM_K hT) (by decide) rfl ⟨zle rfl, zle rfl, zle rfl, zle rfl⟩ (zle rfl) dX11_run_21 ?_
    refine zz_if_ne C 52 dX11_run_24 (by decide) (fun c24 => ?_) (fun c24 => ?_)
    · exact absurd rfl c24
    · refine zz_aload_0 C dX11_run_27 <| zz_iload_1 C dX11_run_28 <| zz_iconst_1 C dX11_run_29 <| zpc 30 rfl <| ?_
      refine zz_icmp_ne C 44 dX11_run_30 (by decide) (fun c30 => ?_) (fun c30 => ?_)
      · refine zz_iconst_0 C dX11_run_44 <| zz_iconst_2 C dX11_run_45 <| zpc 46 rfl <| ?_
        refine zf_callVI C hR [_, _] (c_bad0 hT _ (by decide) (by first | exact zI_self _ _ _ _ | assumption)) lX11_181 rfl (tM_K hT) (by decide) rfl ⟨zle rfl, zle rfl, zle rfl, zle rfl⟩ (zle rfl) dX11_run_46 ?_
        refine zz_if_eq C 54 dX11_run_49 (by decide) (fun c49 => ?_) (fun c49 => ?_)
        · refine zz_aload_0 C dX11_run_54 <| zpc 55 rfl <| ?_
          refine zy_callVV C hR [] (c_lays hT hD hm0) lX11_255 rfl (tM_K hT) (by decide) rfl ⟨zle rfl, zle rfl, zle rfl, zle rfl⟩ (zle rfl) dX11_run_55 ?_
          intro t' h' hv; obtain ⟨rfl, a1, hw⟩ := hv
          refine zz_aload_0 C dX11_run_58 <| zz_iload_1 C dX11_run_59 <| zz_iload_2 C dX11_run_60 <| zpc 61 rfl <| ?_
          refine zy_callVV C hR [_, _] (c_goes hT (hD.w _) hw hRo (hro0.ag3 a1) k d hk hkr (by omega) htd) lX11_305 rfl (tM_K hT) (by decide) rfl ⟨zle rfl, zle rfl, zle rfl, zle rfl⟩ (zle rfl) dX11_run_61 ?_
          intro t' h' hv; obtain ⟨rfl, a2, hw2⟩ := hv
          refine zz_aload_0 C dX11_run_64 <| zpc 65 rfl <| ?_
          refine zy_callVV C hR [] (c_stands hT hD hm0 (a1.tr (.of2 a2)) hw2) lX11_296 rfl (tM_K hT) (by decide) rfl ⟨zle rfl, zle rfl, zle rfl, zle rfl⟩ (zle rfl) dX11_run_65 ?_
          intro t' h' hv; obtain ⟨rfl, a3, hth, hl, hsd⟩ := hv
          refine zz_aload_0 C dX11_run_68 <| zz_getL C fX11_239 (tM_K hT) dX11_run_69 <| zpc 72 rfl <| ?_
          rw [hl, hw2.2.2.2.2.1]
          refine zy_lreturn C hE (zle rfl) (zle rfl) dX11_run_72 ?_
          have a4 := a1.tr (.of2 a2)
          rw [e1] at hsd
          have etm := dDays_tm D.1 D.2.1 p R k (x0 D (zI h 157 41)) d
          rw [etm] at hsd
          exact ⟨by rw [e1], rfl, (zAg4.th h 0).tr ((zAg4.of3 a4).tr a3), hth.trans (a4.th (zI_self _ _ _ _)), hsd⟩
        · exact absurd rfl c49
      · refine zz_aload_0 C dX11_run_33 <| zz_getI C fX11_191 (tM_K hT) dX11_run_34 <| zpc 37 rfl <| ?_
        rw [hro0.1]
        refine zz_if_ne C 44 dX11_run_37 (by decide) (fun c37 => ?_) (fun c37 => ?_)
        · refine zz_iconst_0 C dX11_run_44 <| zz_iconst_2 C dX11_run_45 <| zpc 46 rfl <| ?_
          refine zf_callVI C hR [_, _] (c_bad0 hT _ (by decide) (by first | exact zI_self _ _ _ _ | assumption)) lX11_181 rfl (tM_K hT) (by decide) rfl ⟨zle rfl, zle rfl, zle rfl, zle rfl⟩ (zle rfl) dX11_run_46 ?_
          refine zz_if_eq C 54 dX11_run_49 (by decide) (fun c49 => ?_) (fun c49 => ?_)
          · refine zz_aload_0 C dX11_run_54 <| zpc 55 rfl <| ?_
            refine zy_callVV C hR [] (c_lays hT hD hm0) lX11_255 rfl (tM_K hT) (by decide) rfl ⟨zle rfl, zle rfl, zle rfl, zle rfl⟩ (zle rfl) dX11_run_55 ?_
            intro t' h' hv; obtain ⟨rfl, a1, hw⟩ := hv
            refine zz_aload_0 C dX11_run_58 <| zz_iload_1 C dX11_run_59 <| zz_iload_2 C dX11_run_60 <| zpc 61 rfl <| ?_
            refine zy_callVV C hR [_, _] (c_goes hT (hD.w _) hw hRo (hro0.ag3 a1) k d hk hkr (by omega) htd) lX11_305 rfl (tM_K hT) (by decide) rfl ⟨zle rfl, zle rfl, zle rfl, zle rfl⟩ (zle rfl) dX11_run_61 ?_
            intro t' h' hv; obtain ⟨rfl, a2, hw2⟩ := hv
            refine zz_aload_0 C dX11_run_64 <| zpc 65 rfl <| ?_
            refine zy_callVV C hR [] (c_stands hT hD hm0 (a1.tr (.of2 a2)) hw2) lX11_296 rfl (tM_K hT) (by decide) rfl ⟨zle rfl, zle rfl, zle rfl, zle rfl⟩ (zle rfl) dX11_run_65 ?_
            intro t' h' hv; obtain ⟨rfl, a3, hth, hl, hsd⟩ := hv
            refine zz_aload_0 C dX11_run_68 <| zz_getL C fX11_239 (tM_K hT) dX11_run_69 <| zpc 72 rfl <| ?_
            rw [hl, hw2.2.2.2.2.1]
            refine zy_lreturn C hE (zle rfl) (zle rfl) dX11_run_72 ?_
            have a4 := a1.tr (.of2 a2)
            rw [e1] at hsd
            have etm := dDays_tm D.1 D.2.1 p R k (x0 D (zI h 157 41)) d
            rw [etm] at hsd
            exact ⟨by rw [e1], rfl, (zAg4.th h 0).tr ((zAg4.of3 a4).tr a3), hth.trans (a4.th (zI_self _ _ _ _)), hsd⟩
          · exact absurd rfl c49
        · rw [show (1 : Int32) = nI 1 from rfl, nI_eq (by omega) (by omega)] at c30
          exact absurd c37 (nI_ne0 (hkr c30) (by omega))
  · rw [zb_eq0] at c12; exact absurd hok c12
theorem c_run0 {l : Launch} (hT : zTM t) (hD : sdOk D p) (hm : mSd h D p) (r d : Int32) (hno : ¬ ∃ k n, k ≤ 3 ∧ 1 ≤ n ∧ n ≤ 366 ∧ r = nI k ∧ d = nI n) : zMet E b l yX11_run cX11_run 3 (some .long) 6 0 0 [.ref (b + 157), .int r, .int d] t h (qJ (fun v t' h' => v = 0 ∧ mCall h t D p 1 t' h')) := by
  refine zMet.of (ls := [some (.ref (b + 157)), some (.int r), some (.int d)]) (by decide) (zle rfl) 0 rfl ?_
  intro G hlG C hR hE hin
  refine zz_aload_0 C dX11_run_0 <| zz_iconst_0 C dX11_run_1 <| zy_putI C fX11_104 pX11_0 (tM_K hT) dX11_run_2 <| zz_aload_0 C dX11_run_5 <| zz_aload_0 C dX11_run_6 <| zz_iload_1 C dX11_run_7 <| zz_iload_2 C dX11_run_8 <| zpc 9 rfl <| ?_
  refine zf_callVI C hR [_, _] (c_isRule hT _ _) lX11_302 rfl (tM_K hT) (by decide) rfl ⟨zle rfl, zle rfl, zle rfl, zle rfl⟩ (zle rfl) dX11_run_9 ?_
  refine zz_if_ne C 19 dX11_run_12 (by decide) (fun c12 => ?_) (fun c12 => ?_)
  · rw [zb_ne0, ruleOk] at c12; exact absurd c12 hno
  · refine zz_iconst_1 C dX11_run_15 <| zz_goto C 20 dX11_run_16 (by decide) <| zz_iconst_1 C dX11_run_20 <| zpc 21 rfl <| ?_
    refine zf_callVI C hR [_, _] (c_bad1 hT _ (by decide) (by first | exact zI_self _ _ _ _ | assumption)) lX11_181 rfl (tM_K hT) (by decide) rfl ⟨zle rfl, zle rfl, zle rfl, zle rfl⟩ (zle rfl) dX11_run_21 ?_
    refine zz_if_ne C 52 dX11_run_24 (by decide) (fun c24 => ?_) (fun c24 => ?_)
    · refine zz_lconst_0 C dX11_run_52 <| zpc 53 rfl <| ?_
      refine zy_lreturn C hE (zle rfl) (zle rfl) dX11_run_53 ?_
      exact ⟨rfl, rfl, (zAg4.th h 0).tr (zAg4.th _ 1), zI_self _ _ _ _, (hm.th hD 0).th hD 1⟩
    · exact absurd c24 (by decide)
theorem c_run2 {l : Launch} (hT : zTM t) (hD : sdOk D p) (hm : mSd h D p) (hro : mRo h R) (d : Nat) (hd1 : 1 ≤ d) (hd : d ≤ 366) (hR0 : R.1 = 0) : zMet E b l yX11_run cX11_run 3 (some .long) 6 0 0 [.ref (b + 157), .int (nI 1), .int (nI d)] t h (qJ (fun v t' h' => v = 0 ∧ mCall h t D p 2 t' h')) := by
  have hok : ((0 ≤ nI 1 ∧ nI 1 ≤ 3) ∧ 1 ≤ nI d ∧ nI d ≤ 366) := ruleOk.mpr ⟨1, d, by omega, hd1, hd, rfl, rfl⟩
  have hr0 : zI (zsI h 157 0 0) 157 20 = 0 := by rw [zI_sI, if_neg (by omega), hro.1, hR0]; rfl
  refine zMet.of (ls := [some (.ref (b + 157)), some (.int (nI 1)), some (.int (nI d))]) (by decide) (zle rfl) 0 rfl ?_
  intro G hlG C hR hE hin
  refine zz_aload_0 C dX11_run_0 <| zz_iconst_0 C dX11_run_1 <| zy_putI C fX11_104 pX11_0 (tM_K hT) dX11_run_2 <| zz_aload_0 C dX11_run_5 <| zz_aload_0 C dX11_run_6 <| zz_iload_1 C dX11_run_7 <| zz_iload_2 C dX11_run_8 <| zpc 9 rfl <| ?_
  refine zf_callVI C hR [_, _] (c_isRule hT _ _) lX11_302 rfl (tM_K hT) (by decide) rfl ⟨zle rfl, zle rfl, zle rfl, zle rfl⟩ (zle rfl) dX11_run_9 ?_
  refine zz_if_ne C 19 dX11_run_12 (by decide) (fun c12 => ?_) (fun c12 => ?_)
  · refine zz_iconst_0 C dX11_run_19 <| zz_iconst_1 C dX11_run_20 <| zpc 21 rfl <| ?_
    refine zf_callVI C hR [_, _] (c_bad0 hT _ (by decide) (by first | exact zI_self _ _ _ _ | assumption)) lX11_181 rfl (tM_K hT) (by decide) rfl ⟨zle rfl, zle rfl, zle rfl, zle rfl⟩ (zle rfl) dX11_run_21 ?_
    refine zz_if_ne C 52 dX11_run_24 (by decide) (fun c24 => ?_) (fun c24 => ?_)
    · exact absurd rfl c24
    · refine zz_aload_0 C dX11_run_27 <| zz_iload_1 C dX11_run_28 <| zz_iconst_1 C dX11_run_29 <| zpc 30 rfl <| ?_
      refine zz_icmp_ne C 44 dX11_run_30 (by decide) (fun c30 => ?_) (fun c30 => ?_)
      · exact absurd rfl c30
      · refine zz_aload_0 C dX11_run_33 <| zz_getI C fX11_191 (tM_K hT) dX11_run_34 <| zpc 37 rfl <| ?_
        rw [hr0]
        refine zz_if_ne C 44 dX11_run_37 (by decide) (fun c37 => ?_) (fun c37 => ?_)
        · exact absurd rfl c37
        · refine zz_iconst_1 C dX11_run_40 <| zz_goto C 45 dX11_run_41 (by decide) <| zz_iconst_2 C dX11_run_45 <| zpc 46 rfl <| ?_
          refine zf_callVI C hR [_, _] (c_bad1 hT _ (by decide) (by first | exact zI_self _ _ _ _ | assumption)) lX11_181 rfl (tM_K hT) (by decide) rfl ⟨zle rfl, zle rfl, zle rfl, zle rfl⟩ (zle rfl) dX11_run_46 ?_
          refine zz_if_eq C 54 dX11_run_49 (by decide) (fun c49 => ?_) (fun c49 => ?_)
          · exact absurd c49 (by decide)
          · refine zz_lconst_0 C dX11_run_52 <| zpc 53 rfl <| ?_
            refine zy_lreturn C hE (zle rfl) (zle rfl) dX11_run_53 ?_
            exact ⟨rfl, rfl, (zAg4.th h 0).tr (zAg4.th _ 2), zI_self _ _ _ _, (hm.th hD 0).th hD 2⟩
  · rw [zb_eq0] at c12; exact absurd hok c12
/-- the row's days -/
noncomputable def dRow (L : yL) (A : yN) (p : yP) (R : Nat → Nat) : Nat → yS → yS
  | 0, x => x
  | d + 1, x => dDay L A p (R d) (dRow L A p R d x)
theorem dRow_tm (L : yL) (A : yN) (p : yP) (R : Nat → Nat) (x : yS) : ∀ d, (dRow L A p R d x).2.1 = (x.2.1.1 + d, x.2.1.2 + d)
  | 0 => rfl
  | d + 1 => by
    show ((dRow L A p R d x).2.1.1 + 1, (dRow L A p R d x).2.1.2 + 1) = _
    rw [dRow_tm L A p R x d]; rfl
theorem wOk.row {L : yL} {A : yN} {p : yP} {x : yS} (R : Nat → Nat) (hW : wOk L A p x) : ∀ d, wOk L A p (dRow L A p R d x)
  | 0 => hW
  | d + 1 => (wOk.row R hW d).day _
theorem l_mins (hT : zTM t) (hD : sdOk D p) (hRo : roOk R) (hro : mRo h R) {x : yS} (hW : wOk D.1 D.2.1 p x) (htd : x.2.1.1 + R.1 < 2 ^ 20) (C : zCx E b G RX11 cX11_minutes 2 (some .long)) (hR : zRoom G 6 0 0) {Q : Int64 → zT → zH → Prop} (hE : zEnd E b G 0 0 (qJ Q)) (hQ : ∀ h', zAg3 h h' → Q (lN (dRow D.1 D.2.1 p R.2 R.1 x).2.2.2.1.1) t h') :
    ∀ (m d : Nat) (hc : zH), d + m = R.1 → zAg3 h hc → mWk hc D.1 D.2.1 p (dRow D.1 D.2.1 p R.2 d x) → zAW E b G 2 0 0 11 [some (.ref (b + 157)), some (.int (nI d))] [] t hc := by
  have hR30 := hRo.1
  intro m
  induction m with
  | zero =>
    intro d hc hdd ha hm
    have hr := (hro.ag3 ha).1
    refine zz_iload_1 C dX11_minutes_11 <| zz_aload_0 C dX11_minutes_12 <| zz_getI C fX11_191 (tM_K hT) dX11_minutes_13 <| zpc 16 rfl <| ?_
    rw [hr]
    refine zz_icmp_ge C 35 dX11_minutes_16 (by decide) (fun c16 => ?_) (fun c16 => ?_)
    · refine zz_aload_0 C dX11_minutes_35 <| zz_getL C fX11_239 (tM_K hT) dX11_minutes_36 <| zpc 39 rfl <| ?_
      rw [hm.2.2.2.2.1]
      refine zy_lreturn C hE (zle rfl) (zle rfl) dX11_minutes_39 ?_
      rw [show d = R.1 by omega]; exact hQ _ ha
    · exact absurd (nI_le (by omega) (by omega)) c16
  | succ m ih =>
    intro d hc hdd ha hm
    have hr := (hro.ag3 ha).1
    have hrd := (hro.ag3 ha).2 d (by omega)
    have hlt := hRo.2 d (by omega)
    have hWd := hW.row R.2 d
    have htm : (dRow D.1 D.2.1 p R.2 d x).2.1.1 = x.2.1.1 + d := by rw [dRow_tm]
    refine zz_iload_1 C dX11_minutes_11 <| zz_aload_0 C dX11_minutes_12 <| zz_getI C fX11_191 (tM_K hT) dX11_minutes_13 <| zpc 16 rfl <| ?_
    rw [hr]
    refine zz_icmp_ge C 35 dX11_minutes_16 (by decide) (fun c16 => ?_) (fun c16 => ?_)
    · exact absurd c16 (nI_ge (by omega) (by omega))
    · refine zz_aload_0 C dX11_minutes_19 <| zz_aload_0 C dX11_minutes_20 <| zz_getR C fX11_55 (tM_K hT) (tM_R_row hT) dX11_minutes_21 <| zz_iload_1 C dX11_minutes_24 <| zc_iaload C _ (tM_K_row hT) (znI (by omega)) (by omega) dX11_minutes_25 <| zpc 26 rfl <| ?_
      rw [hrd]
      refine zy_callVV C hR [_] (c_goesBy hT hWd hm (R.2 d) (by omega) (by rw [htm]; omega)) lX11_293 rfl (tM_K hT) (by decide) rfl ⟨zle rfl, zle rfl, zle rfl, zle rfl⟩ (zle rfl) dX11_minutes_26 ?_
      intro t' h' hv; obtain ⟨rfl, a3, hm3, -⟩ := hv
      refine zz_iinc_1 C _ (zle rfl) rfl dX11_minutes_29 nI_s <| zz_goto C 11 dX11_minutes_32 (by decide) <| zpc 11 rfl <| ?_
      exact ih (d + 1) _ (by omega) (ha.tr (.of2 a3)) hm3
theorem c_minutes {l : Launch} (hT : zTM t) (hD : sdOk D p) (hm : mSd h D p) (hRo : roOk R) (hro : mRo h R) (htd : D.2.2.2 + R.1 < 2 ^ 20) : zMet E b l yX11_minutes cX11_minutes 2 (some .long) 6 0 0 [.ref (b + 157)] t h (qJ (fun v t' h' => v = lN (dRow D.1 D.2.1 p R.2 R.1 (x0 D (zI h 157 41))).2.2.2.1.1 ∧ mCall h t D p 0 t' h')) := by
  have hm0 := hm.th hD 0
  have hro0 := mRo.ag4 (zAg4.th h 0) hro
  have e1 : zI (zsI h 157 0 0) 157 41 = zI h 157 41 := by rw [zI_sI, if_neg (by omega)]
  refine zMet.of (ls := [some (.ref (b + 157)), none]) (by decide) (zle rfl) 1 rfl ?_
  intro G hlG C hR hE hin
  refine zz_aload_0 C dX11_minutes_0 <| zz_iconst_0 C dX11_minutes_1 <| zy_putI C fX11_104 pX11_0 (tM_K hT) dX11_minutes_2 <| zz_aload_0 C dX11_minutes_5 <| zpc 6 rfl <| ?_
  refine zy_callVV C hR [] (c_lays hT hD hm0) lX11_255 rfl (tM_K hT) (by decide) rfl ⟨zle rfl, zle rfl, zle rfl, zle rfl⟩ (zle rfl) dX11_minutes_6 ?_
  intro t' h' hv; obtain ⟨rfl, a1, hw⟩ := hv; rw [e1] at hw
  refine zz_iconst_0 C dX11_minutes_9 <| zz_istore_1 C (zle rfl) rfl dX11_minutes_10 <| zpc 11 rfl <| ?_
  refine l_mins hT hD hRo (hro0.ag3 a1) (hD.w _) htd C hR hE ?_ R.1 0 _ (by omega) (zAg3.rf _) hw
  intro h' a2
  have a3 := a1.tr a2
  exact ⟨rfl, rfl, (zAg4.th h 0).tr (.of3 a3), a3.th (zI_self _ _ _ _), a3.sd hD hm0⟩
end MRN
