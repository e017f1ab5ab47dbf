/-! ===== the reference: run, would, minutes, judge ===== -/
theorem ruleOk {r d : Int32} : ((0 ≤ r ∧ r ≤ 3) ∧ 1 ≤ d ∧ d ≤ 366) ↔ ∃ k n, k ≤ 3 ∧ 1 ≤ n ∧ n ≤ 366 ∧ r = nI k ∧ d = nI n := by
  constructor
  · intro q
    obtain ⟨k, hk, e⟩ := nI_of2 (x := r) (n := 3) (M := 3) rfl (Int32.not_lt.mpr q.1.1) q.1.2
    obtain ⟨n, hn, e2⟩ := nI_of2 (x := d) (n := 366) (M := 366) rfl (fun z => by have := q.2.1; grind) q.2.2
    refine ⟨k, n, hk, ?_, hn, e, e2⟩
    have h1 := q.2.1
    rw [e2, show (1 : Int32) = nI 1 from rfl, nI_leI (by omega) (by omega)] at h1
    exact h1
  · rintro ⟨k, n, hk, hn1, hn, rfl, rfl⟩
    exact ⟨⟨nI_pos' (by omega), nI_le (b := 3) hk (by omega)⟩, nI_le (a := 1) hn1 (by omega), nI_le (b := 366) hn (by omega)⟩
section MRN
variable {E : zE} {b : Nat} {G : zG} {t : zT} {h : zH} {D : yD} {p : yP} {R : Nat × (Nat → Nat)}
theorem c_run1 {l : Launch} (hT : zTM t) (hD : sdOk D p) (hm : mSd h D p) (hRo : roOk R) (hro : mRo h R) (k d : Nat) (hk : k ≤ 3) (hd1 : 1 ≤ d) (hd : d ≤ 366) (hkr : k = 1 → 0 < R.1) (htd : D.2.2.2 + d < 2 ^ 20) : zMet E b l yX11_run cX11_run 3 (some .long) 6 0 0 [.ref (b + 157), .int (nI k), .int (nI d)] t h (qJ (fun v t' h' => v = lN (dDays D.1 D.2.1 p R k d (x0 D (zI h 157 41))).2.2.2.1.1 ∧ mCall h t (D.1, D.2.1, (dDays D.1 D.2.1 p R k d (x0 D (zI h 157 41))).1, D.2.2.2 + d) p 0 t' h')) := by
  have hm0 := hm.th hD 0
  have hro0 := mRo.ag4 (zAg4.th h 0) hro
  have hR30 := hRo.1
  have hok : ((0 ≤ nI k ∧ nI k ≤ 3) ∧ 1 ≤ nI d ∧ nI d ≤ 366) := ruleOk.mpr ⟨k, d, hk, hd1, hd, rfl, rfl⟩
  have e1 : zI (zsI h 157 0 0) 157 41 = zI h 157 41 := by rw [zI_sI, if_neg (by omega)]
  refine zMet.of (ls := [some (.ref (b + 157)), some (.int (nI k)), some (.int (nI d))]) (by decide) (zle rfl) 0 rfl ?_
  intro G hlG C hR hE hin
  refine zz_aload_0 C dX11_run_0 <| zz_iconst_0 C dX11_run_1 <| zy_putI C fX11_104 pX11_0 (tM_K hT) dX11_run_2 <| zz_aload_0 C dX11_run_5 <| zz_aload_0 C dX11_run_6 <| zz_iload_1 C dX11_run_7 <| zz_iload_2 C dX11_run_8 <| zpc 9 rfl <| ?_
  refine zf_callVI C hR [_, _] (c_isRule hT _ _) lX11_302 rfl (tM_K hT) (by decide) rfl ⟨zle rfl, zle rfl, zle rfl, zle rfl⟩ (zle rfl) dX11_run_9 ?_
  refine zz_if_ne C 19 dX11_run_12 (by decide) (fun c12 => ?_) (fun c12 => ?_)
  · refine zz_iconst_0 C dX11_run_19 <| zz_iconst_1 C dX11_run_20 <| zpc 21 rfl <| ?_
    refine zf_callVI C hR [_, _] (c_bad0 hT _ (by decide) (by first | exact zI_self _ _ _ _ | assumption)) lX11_181 rfl (tM_K hT) (by decide) rfl ⟨zle rfl, zle rfl, zle rfl, zle rfl⟩ (zle rfl) dX11_run_21 ?_
    refine zz_if_ne C 52 dX11_run_24 (by decide) (fun c24 => ?_) (fun c24 => ?_)
    · exact absurd rfl c24
    · refine zz_aload_0 C dX11_run_27 <| zz_iload_1 C dX11_run_28 <| zz_iconst_1 C dX11_run_29 <| zpc 30 rfl <| ?_
      refine zz_icmp_ne C 44 dX11_run_30 (by decide) (fun c30 => ?_) (fun c30 => ?_)
      · refine zz_iconst_0 C dX11_run_44 <| zz_iconst_2 C dX11_run_45 <| zpc 46 rfl <| ?_
        refine zf_callVI C hR [_, _] (c_bad0 hT _ (by decide) (by first | exact zI_self _ _ _ _ | assumption)) lX11_181 rfl (tM_K hT) (by decide) rfl ⟨zle rfl, zle rfl, zle rfl, zle rfl⟩ (zle rfl) dX11_run_46 ?_
        refine zz_if_eq C 54 dX11_run_49 (by decide) (fun c49 => ?_) (fun c49 => ?_)
        · refine zz_aload_0 C dX11_run_54 <| zpc 55 rfl <| ?_
          refine zy_callVV C hR [] (c_lays hT hD hm0) lX11_255 rfl (tM_K hT) (by decide) rfl ⟨zle rfl, zle rfl, zle rfl, zle rfl⟩ (zle rfl) dX11_run_55 ?_
          intro t' h' hv; obtain ⟨rfl, a1, hw⟩ := hv
          refine zz_aload_0 C dX11_run_58 <| zz_iload_1 C dX11_run_59 <| zz_iload_2 C dX11_run_60 <| zpc 61 rfl <| ?_
          refine zy_callVV C hR [_, _] (c_goes hT (hD.w _) hw hRo (hro0.ag3 a1) k d hk hkr (by omega) htd) lX11_305 rfl (tM_K hT) (by decide) rfl ⟨zle rfl, zle rfl, zle rfl, zle rfl⟩ (zle rfl) dX11_run_61 ?_
          intro t' h' hv; obtain ⟨rfl, a2, hw2⟩ := hv
          refine zz_aload_0 C dX11_run_64 <| zpc 65 rfl <| ?_
          refine zy_callVV C hR [] (c_stands hT hD hm0 (a1.tr (.of2 a2)) hw2) lX11_296 rfl (tM_K hT) (by decide) rfl ⟨zle rfl, zle rfl, zle rfl, zle rfl⟩ (zle rfl) dX11_run_65 ?_
          intro t' h' hv; obtain ⟨rfl, a3, hth, hl, hsd⟩ := hv
          refine zz_aload_0 C dX11_run_68 <| zz_getL C fX11_239 (tM_K hT) dX11_run_69 <| zpc 72 rfl <| ?_
          rw [hl, hw2.2.2.2.2.1]
          refine zy_lreturn C hE (zle rfl) (zle rfl) dX11_run_72 ?_
          have a4 := a1.tr (.of2 a2)
          rw [e1] at hsd
          have etm := dDays_tm D.1 D.2.1 p R k (x0 D (zI h 157 41)) d
          rw [etm] at hsd
          exact ⟨by rw [e1], rfl, (zAg4.th h 0).tr ((zAg4.of3 a4).tr a3), hth.trans (a4.th (zI_self _ _ _ _)), hsd⟩
        · exact absurd rfl c49
      · refine zz_aload_0 C dX11_run_33 <| zz_getI C fX11_191 (tM_K hT) dX11_run_34 <| zpc 37 rfl <| ?_
        rw [hro0.1]
        refine zz_if_ne C 44 dX11_run_37 (by decide) (fun c37 => ?_) (fun c37 => ?_)
        · refine zz_iconst_0 C dX11_run_44 <| zz_iconst_2 C dX11_run_45 <| zpc 46 rfl <| ?_
          refine zf_callVI C hR [_, _] (c_bad0 hT _ (by decide) (by first | exact zI_self _ _ _ _ | assumption)) lX11_181 rfl (tM_K hT) (by decide) rfl ⟨zle rfl, zle rfl, zle rfl, zle rfl⟩ (zle rfl) dX11_run_46 ?_
          refine zz_if_eq C 54 dX11_run_49 (by decide) (fun c49 => ?_) (fun c49 => ?_)
          · refine zz_aload_0 C dX11_run_54 <| zpc 55 rfl <| ?_
            refine zy_callVV C hR [] (c_lays hT hD hm0) lX11_255 rfl (tM_K hT) (by decide) rfl ⟨zle rfl, zle rfl, zle rfl, zle rfl⟩ (zle rfl) dX11_run_55 ?_
            intro t' h' hv; obtain ⟨rfl, a1, hw⟩ := hv
            refine zz_aload_0 C dX11_run_58 <| zz_iload_1 C dX11_run_59 <| zz_iload_2 C dX11_run_60 <| zpc 61 rfl <| ?_
            refine zy_callVV C hR [_, _] (c_goes hT (hD.w _) hw hRo (hro0.ag3 a1) k d hk hkr (by omega) htd) lX11_305 rfl (tM_K hT) (by decide) rfl ⟨zle rfl, zle rfl, zle rfl, zle rfl⟩ (zle rfl) dX11_run_61 ?_
            intro t' h' hv; obtain ⟨rfl, a2, hw2⟩ := hv
            refine zz_aload_0 C dX11_run_64 <| zpc 65 rfl <| ?_
            refine zy_callVV C hR [] (c_stands hT hD hm0 (a1.tr (.of2 a2)) hw2) lX11_296 rfl (tM_K hT) (by decide) rfl ⟨zle rfl, zle rfl, zle rfl, zle rfl⟩ (zle rfl) dX11_run_65 ?_
            intro t' h' hv; obtain ⟨rfl, a3, hth, hl, hsd⟩ := hv
            refine zz_aload_0 C dX11_run_68 <| zz_getL C fX11_239 (tM_K hT) dX11_run_69 <| zpc 72 rfl <| ?_
            rw [hl, hw2.2.2.2.2.1]
            refine zy_lreturn C hE (zle rfl) (zle rfl) dX11_run_72 ?_
            have a4 := a1.tr (.of2 a2)
            rw [e1] at hsd
            have etm := dDays_tm D.1 D.2.1 p R k (x0 D (zI h 157 41)) d
            rw [etm] at hsd
            exact ⟨by rw [e1], rfl, (zAg4.th h 0).tr ((zAg4.of3 a4).tr a3), hth.trans (a4.th (zI_self _ _ _ _)), hsd⟩
          · exact absurd rfl c49
        · rw [show (1 : Int32) = nI 1 from rfl, nI_eq (by omega) (by omega)] at c30
          exact absurd c37 (nI_ne0 (hkr (Classical.not_not.mp c30)) (by omega))
  · rw [zb_eq0] at c12; exact absurd hok c12
end MRN
