/-! ===== the reference: men, law ===== -/
section MLX
variable {E : zE} {b : Nat} {G : zG} {t : zT} {h : zH} {D : yD} {p : yP} {R : Nat × (Nat → Nat)}
theorem lawOk {s : Int32} : (3 ≤ s ∧ s ≤ 11) ↔ ∃ k, 3 ≤ k ∧ k ≤ 11 ∧ s = nI k := by
  constructor
  · intro q
    obtain ⟨j, hj, e⟩ := nI_of2 (x := s) (n := 11) (M := 11) rfl (fun z => by have := q.1; grind) q.2
    have h1 := q.1
    rw [e, show (3 : Int32) = nI 3 from rfl, nI_leI (by omega) (by omega)] at h1
    exact ⟨j, h1, hj, e⟩
  · rintro ⟨k, h1, hk, rfl⟩
    exact ⟨nI_le (a := 3) h1 (by omega), nI_le (b := 11) hk (by omega)⟩
theorem c_law0 {l : Launch} (hT : zTM t) (hD : sdOk D p) (hm : mSd h D p) (x d : Int32) (hno : ¬ ((∃ k, 3 ≤ k ∧ k ≤ 11 ∧ x = nI k) ∧ ∃ k, 1 ≤ k ∧ k ≤ 366 ∧ d = nI k)) : zMet E b l yX11_law cX11_law 3 (some .long) 7 0 0 [.ref (b + 157), .int x, .int d] t h (qJ (fun v t' h' => v = 0 ∧ mCall h t D p 1 t' h')) := by
  refine zMet.of (ls := [some (.ref (b + 157)), some (.int x), some (.int d)]) (by decide) (zle rfl) 0 rfl ?_
  intro G hlG C hR hE hin
  refine zz_aload_0 C dX11_law_0 <| zz_iconst_0 C dX11_law_1 <| zy_putI C fX11_104 pX11_0 (tM_K hT) dX11_law_2 <| zz_aload_0 C dX11_law_5 <| zz_iload_1 C dX11_law_6 <| zz_iconst_3 C dX11_law_7 <| zz_bipush C 11 dX11_law_8 (by decide) <| zpc 10 rfl <| ?_
  refine zf_callSI C hR [_, _, _] (c_in _ _ _) lX11_138 rfl ⟨zle rfl, zle rfl, zle rfl, zle rfl⟩ (zle rfl) dX11_law_10 ?_
  refine zz_if_eq C 23 dX11_law_13 (by decide) (fun c13 => ?_) (fun c13 => ?_)
  · refine zz_iconst_1 C dX11_law_23 <| zz_goto C 28 dX11_law_24 (by decide) <| zz_iconst_1 C dX11_law_28 <| zpc 29 rfl <| ?_
    refine zf_callVI C hR [_, _] (c_bad1 hT _ (by decide) (by first | exact zI_self _ _ _ _ | assumption)) lX11_181 rfl (tM_K hT) (by decide) rfl ⟨zle rfl, zle rfl, zle rfl, zle rfl⟩ (zle rfl) dX11_law_29 ?_
    refine zz_if_eq C 37 dX11_law_32 (by decide) (fun c32 => ?_) (fun c32 => ?_)
    · exact absurd c32 (by decide)
    · refine zz_lconst_0 C dX11_law_35 <| zpc 36 rfl <| ?_
      refine zy_lreturn C hE (zle rfl) (zle rfl) dX11_law_36 ?_
      exact ⟨rfl, rfl, (zAg4.th h 0).tr (zAg4.th _ 1), zI_self _ _ _ _, (hm.th hD 0).th hD 1⟩
  · refine zz_iload_2 C dX11_law_16 <| zpc 17 rfl <| ?_
    refine zf_callSI C hR [_] (c_areDays _) lX11_299 rfl ⟨zle rfl, zle rfl, zle rfl, zle rfl⟩ (zle rfl) dX11_law_17 ?_
    refine zz_if_ne C 27 dX11_law_20 (by decide) (fun c20 => ?_) (fun c20 => ?_)
    · rw [zb_ne0] at c13 c20; exact absurd ⟨lawOk.mp c13, daysOk.mp c20⟩ hno
    · refine zz_iconst_1 C dX11_law_23 <| zz_goto C 28 dX11_law_24 (by decide) <| zz_iconst_1 C dX11_law_28 <| zpc 29 rfl <| ?_
      refine zf_callVI C hR [_, _] (c_bad1 hT _ (by decide) (by first | exact zI_self _ _ _ _ | assumption)) lX11_181 rfl (tM_K hT) (by decide) rfl ⟨zle rfl, zle rfl, zle rfl, zle rfl⟩ (zle rfl) dX11_law_29 ?_
      refine zz_if_eq C 37 dX11_law_32 (by decide) (fun c32 => ?_) (fun c32 => ?_)
      · exact absurd c32 (by decide)
      · refine zz_lconst_0 C dX11_law_35 <| zpc 36 rfl <| ?_
        refine zy_lreturn C hE (zle rfl) (zle rfl) dX11_law_36 ?_
        exact ⟨rfl, rfl, (zAg4.th h 0).tr (zAg4.th _ 1), zI_self _ _ _ _, (hm.th hD 0).th hD 1⟩
theorem c_law1 {l : Launch} (hT : zTM t) (hD : sdOk D p) (hm : mSd h D p) (hRo : roOk R) (hro : mRo h R) (n d : Nat) (h3 : 3 ≤ n) (h11 : n ≤ 11) (hd1 : 1 ≤ d) (hd : d ≤ 366) (htd : D.2.2.2 + d < 2 ^ 20) : zMet E b l yX11_law cX11_law 3 (some .long) 7 0 0 [.ref (b + 157), .int (nI n), .int (nI d)] t h (qJ (fun v t' h' => v = lN (dCo (dLw D n) p R 0 d (zI h 157 41)) ∧ mCall h t D p 0 t' h')) := by
  have hm0 := hm.th hD 0
  have hro0 := mRo.ag4 (zAg4.th h 0) hro
  have e1 : zI (zsI h 157 0 0) 157 41 = zI h 157 41 := by rw [zI_sI, if_neg (by omega)]
  have o1 : (3 ≤ nI n ∧ nI n ≤ 11) := lawOk.mpr ⟨n, h3, h11, rfl⟩
  have o2 : (1 ≤ nI d ∧ nI d ≤ 366) := daysOk.mpr ⟨d, hd1, hd, rfl⟩
  refine zMet.of (ls := [some (.ref (b + 157)), some (.int (nI n)), some (.int (nI d))]) (by decide) (zle rfl) 0 rfl ?_
  intro G hlG C hR hE hin
  refine zz_aload_0 C dX11_law_0 <| zz_iconst_0 C dX11_law_1 <| zy_putI C fX11_104 pX11_0 (tM_K hT) dX11_law_2 <| zz_aload_0 C dX11_law_5 <| zz_iload_1 C dX11_law_6 <| zz_iconst_3 C dX11_law_7 <| zz_bipush C 11 dX11_law_8 (by decide) <| zpc 10 rfl <| ?_
  refine zf_callSI C hR [_, _, _] (c_in _ _ _) lX11_138 rfl ⟨zle rfl, zle rfl, zle rfl, zle rfl⟩ (zle rfl) dX11_law_10 ?_
  refine zz_if_eq C 23 dX11_law_13 (by decide) (fun c13 => ?_) (fun c13 => ?_)
  · rw [zb_eq0] at c13; exact absurd o1 c13
  · refine zz_iload_2 C dX11_law_16 <| zpc 17 rfl <| ?_
    refine zf_callSI C hR [_] (c_areDays _) lX11_299 rfl ⟨zle rfl, zle rfl, zle rfl, zle rfl⟩ (zle rfl) dX11_law_17 ?_
    refine zz_if_ne C 27 dX11_law_20 (by decide) (fun c20 => ?_) (fun c20 => ?_)
    · refine zz_iconst_0 C dX11_law_27 <| zz_iconst_1 C dX11_law_28 <| zpc 29 rfl <| ?_
      refine zf_callVI C hR [_, _] (c_bad0 hT _ (by decide) (by first | exact zI_self _ _ _ _ | assumption)) lX11_181 rfl (tM_K hT) (by decide) rfl ⟨zle rfl, zle rfl, zle rfl, zle rfl⟩ (zle rfl) dX11_law_29 ?_
      refine zz_if_eq C 37 dX11_law_32 (by decide) (fun c32 => ?_) (fun c32 => ?_)
      · refine zz_aload_0 C dX11_law_37 <| zz_iload_1 C dX11_law_38 <| zz_iload_2 C dX11_law_39 <| zpc 40 rfl <| ?_
        refine zy_callVJ C hR [_, _] (c_lawCost hT hD hm0 hRo hro0 n d h3 h11 hd htd) lX11_365 rfl (tM_K hT) (by decide) rfl ⟨zle rfl, zle rfl, zle rfl, zle rfl⟩ (zle rfl) dX11_law_40 ?_
        intro v t' h' hv; rw [e1] at hv; obtain ⟨rfl, a1, rfl, v2, v3⟩ := hv
        refine zy_lreturn C hE (zle rfl) (zle rfl) dX11_law_43 ?_
        exact ⟨rfl, rfl, (zAg4.th h 0).tr (.of3 a1), a1.th (zI_self _ _ _ _), a1.sd hD hm0⟩
      · exact absurd rfl c32
    · rw [zb_eq0] at c20; exact absurd o2 c20
theorem c_men0 {l : Launch} (hT : zTM t) (hD : sdOk D p) (hm : mSd h D p) (s d : Int32) (hs : ¬ ∃ k, k < D.2.1.1.1 ∧ s = nI k) : zMet E b l yX11_men cX11_men 5 (some .long) 7 0 0 [.ref (b + 157), .int s, .int d] t h (qJ (fun v t' h' => v = 0 ∧ mCall h t D p 1 t' h')) := by
  have t1 := (hm.th hD 0).2.2.1
  have hn := hD.1.1.2.2.1
  refine zMet.of (ls := [some (.ref (b + 157)), some (.int s), some (.int d), none, none]) (by decide) (zle rfl) 2 rfl ?_
  intro G hlG C hR hE hin
  refine zz_aload_0 C dX11_men_0 <| zz_iconst_0 C dX11_men_1 <| zy_putI C fX11_104 pX11_0 (tM_K hT) dX11_men_2 <| zz_aload_0 C dX11_men_5 <| zz_aload_0 C dX11_men_6 <| zz_iload_1 C dX11_men_7 <| zpc 8 rfl <| ?_
  refine zf_callVI C hR [_] (c_isRoad hT _) lX11_197 rfl (tM_K hT) (by decide) rfl ⟨zle rfl, zle rfl, zle rfl, zle rfl⟩ (zle rfl) dX11_men_8 ?_
  refine zz_if_ne C 18 dX11_men_11 (by decide) (fun c11 => ?_) (fun c11 => ?_)
  · rw [zb_ne0, t1, idxOk (by omega)] at c11; exact absurd c11 hs
  · refine zz_iconst_1 C dX11_men_14 <| zz_goto C 19 dX11_men_15 (by decide) <| zz_iconst_1 C dX11_men_19 <| zpc 20 rfl <| ?_
    refine zf_callVI C hR [_, _] (c_bad1 hT _ (by decide) (by first | exact zI_self _ _ _ _ | assumption)) lX11_181 rfl (tM_K hT) (by decide) rfl ⟨zle rfl, zle rfl, zle rfl, zle rfl⟩ (zle rfl) dX11_men_20 ?_
    refine zz_if_ne C 46 dX11_men_23 (by decide) (fun c23 => ?_) (fun c23 => ?_)
    · refine zz_lconst_0 C dX11_men_46 <| zpc 47 rfl <| ?_
      refine zy_lreturn C hE (zle rfl) (zle rfl) dX11_men_47 ?_
      exact ⟨rfl, rfl, (zAg4.th h 0).tr (zAg4.th _ 1), zI_self _ _ _ _, (hm.th hD 0).th hD 1⟩
    · exact absurd c23 (by decide)
theorem c_men2 {l : Launch} (hT : zTM t) (hD : sdOk D p) (hm : mSd h D p) (k : Nat) (hk : k < D.2.1.1.1) (d : Int32) (hd : ¬ ∃ k, 1 ≤ k ∧ k ≤ 366 ∧ d = nI k) : zMet E b l yX11_men cX11_men 5 (some .long) 7 0 0 [.ref (b + 157), .int (nI k), .int d] t h (qJ (fun v t' h' => v = 0 ∧ mCall h t D p 2 t' h')) := by
  have t1 := (hm.th hD 0).2.2.1
  have hn := hD.1.1.2.2.1
  refine zMet.of (ls := [some (.ref (b + 157)), some (.int (nI k)), some (.int d), none, none]) (by decide) (zle rfl) 2 rfl ?_
  intro G hlG C hR hE hin
  refine zz_aload_0 C dX11_men_0 <| zz_iconst_0 C dX11_men_1 <| zy_putI C fX11_104 pX11_0 (tM_K hT) dX11_men_2 <| zz_aload_0 C dX11_men_5 <| zz_aload_0 C dX11_men_6 <| zz_iload_1 C dX11_men_7 <| zpc 8 rfl <| ?_
  refine zf_callVI C hR [_] (c_isRoad hT _) lX11_197 rfl (tM_K hT) (by decide) rfl ⟨zle rfl, zle rfl, zle rfl, zle rfl⟩ (zle rfl) dX11_men_8 ?_
  refine zz_if_ne C 18 dX11_men_11 (by decide) (fun c11 => ?_) (fun c11 => ?_)
  · refine zz_iconst_0 C dX11_men_18 <| zz_iconst_1 C dX11_men_19 <| zpc 20 rfl <| ?_
    refine zf_callVI C hR [_, _] (c_bad0 hT _ (by decide) (by first | exact zI_self _ _ _ _ | assumption)) lX11_181 rfl (tM_K hT) (by decide) rfl ⟨zle rfl, zle rfl, zle rfl, zle rfl⟩ (zle rfl) dX11_men_20 ?_
    refine zz_if_ne C 46 dX11_men_23 (by decide) (fun c23 => ?_) (fun c23 => ?_)
    · exact absurd rfl c23
    · refine zz_aload_0 C dX11_men_26 <| zz_iload_2 C dX11_men_27 <| zpc 28 rfl <| ?_
      refine zf_callSI C hR [_] (c_areDays _) lX11_299 rfl ⟨zle rfl, zle rfl, zle rfl, zle rfl⟩ (zle rfl) dX11_men_28 ?_
      refine zz_if_ne C 38 dX11_men_31 (by decide) (fun c31 => ?_) (fun c31 => ?_)
      · rw [zb_ne0, daysOk] at c31; exact absurd c31 hd
      · refine zz_iconst_1 C dX11_men_34 <| zz_goto C 39 dX11_men_35 (by decide) <| zz_iconst_2 C dX11_men_39 <| zpc 40 rfl <| ?_
        refine zf_callVI C hR [_, _] (c_bad1 hT _ (by decide) (by first | exact zI_self _ _ _ _ | assumption)) lX11_181 rfl (tM_K hT) (by decide) rfl ⟨zle rfl, zle rfl, zle rfl, zle rfl⟩ (zle rfl) dX11_men_40 ?_
        refine zz_if_eq C 48 dX11_men_43 (by decide) (fun c43 => ?_) (fun c43 => ?_)
        · exact absurd c43 (by decide)
        · refine zz_lconst_0 C dX11_men_46 <| zpc 47 rfl <| ?_
          refine zy_lreturn C hE (zle rfl) (zle rfl) dX11_men_47 ?_
          exact ⟨rfl, rfl, (zAg4.th h 0).tr (zAg4.th _ 2), zI_self _ _ _ _, (hm.th hD 0).th hD 2⟩
  · rw [zb_eq0, t1, idxOk (by omega)] at c11; exact absurd ⟨k, hk, rfl⟩ c11
theorem c_men1 {l : Launch} (hT : zTM t) (hD : sdOk D p) (hm : mSd h D p) (h2 : p.2.2.1 = false) (hRo : roOk R) (hro : mRo h R) (k d : Nat) (hk : k < D.2.1.1.1) (hd1 : 1 ≤ d) (hd : d ≤ 366) (htd : D.2.2.2 + d < 2 ^ 20) : zMet E b l yX11_men cX11_men 5 (some .long) 7 0 0 [.ref (b + 157), .int (nI k), .int (nI d)] t h (qJ (fun v t' h' => v = lN (dCo D p R 0 d (zI h 157 41)) - lN (dCo (dMe D k) p R 0 d (zI h 157 41)) ∧ mCall h t D p 0 t' h')) := by
  have hm0 := hm.th hD 0
  have hro0 := mRo.ag4 (zAg4.th h 0) hro
  have t1 := hm0.2.2.1
  have hn := hD.1.1.2.2.1
  have e1 : zI (zsI h 157 0 0) 157 41 = zI h 157 41 := by rw [zI_sI, if_neg (by omega)]
  have o2 : (1 ≤ nI d ∧ nI d ≤ 366) := daysOk.mpr ⟨d, hd1, hd, rfl⟩
  refine zMet.of (ls := [some (.ref (b + 157)), some (.int (nI k)), some (.int (nI d)), none, none]) (by decide) (zle rfl) 2 rfl ?_
  intro G hlG C hR hE hin
  refine zz_aload_0 C dX11_men_0 <| zz_iconst_0 C dX11_men_1 <| zy_putI C fX11_104 pX11_0 (tM_K hT) dX11_men_2 <| zz_aload_0 C dX11_men_5 <| zz_aload_0 C dX11_men_6 <| zz_iload_1 C dX11_men_7 <| zpc 8 rfl <| ?_
  refine zf_callVI C hR [_] (c_isRoad hT _) lX11_197 rfl (tM_K hT) (by decide) rfl ⟨zle rfl, zle rfl, zle rfl, zle rfl⟩ (zle rfl) dX11_men_8 ?_
  refine zz_if_ne C 18 dX11_men_11 (by decide) (fun c11 => ?_) (fun c11 => ?_)
  · refine zz_iconst_0 C dX11_men_18 <| zz_iconst_1 C dX11_men_19 <| zpc 20 rfl <| ?_
    refine zf_callVI C hR [_, _] (c_bad0 hT _ (by decide) (by first | exact zI_self _ _ _ _ | assumption)) lX11_181 rfl (tM_K hT) (by decide) rfl ⟨zle rfl, zle rfl, zle rfl, zle rfl⟩ (zle rfl) dX11_men_20 ?_
    refine zz_if_ne C 46 dX11_men_23 (by decide) (fun c23 => ?_) (fun c23 => ?_)
    · exact absurd rfl c23
    · refine zz_aload_0 C dX11_men_26 <| zz_iload_2 C dX11_men_27 <| zpc 28 rfl <| ?_
      refine zf_callSI C hR [_] (c_areDays _) lX11_299 rfl ⟨zle rfl, zle rfl, zle rfl, zle rfl⟩ (zle rfl) dX11_men_28 ?_
      refine zz_if_ne C 38 dX11_men_31 (by decide) (fun c31 => ?_) (fun c31 => ?_)
      · refine zz_iconst_0 C dX11_men_38 <| zz_iconst_2 C dX11_men_39 <| zpc 40 rfl <| ?_
        refine zf_callVI C hR [_, _] (c_bad0 hT _ (by decide) (by first | exact zI_self _ _ _ _ | assumption)) lX11_181 rfl (tM_K hT) (by decide) rfl ⟨zle rfl, zle rfl, zle rfl, zle rfl⟩ (zle rfl) dX11_men_40 ?_
        refine zz_if_eq C 48 dX11_men_43 (by decide) (fun c43 => ?_) (fun c43 => ?_)
        · refine zz_aload_0 C dX11_men_48 <| zz_iload_2 C dX11_men_49 <| zpc 50 rfl <| ?_
          refine zy_callVJ C hR [_] (c_openCost hT hD hm0 hRo hro0 d hd htd) lX11_344 rfl (tM_K hT) (by decide) rfl ⟨zle rfl, zle rfl, zle rfl, zle rfl⟩ (zle rfl) dX11_men_50 ?_
          intro v t' h' hv; rw [e1] at hv; obtain ⟨rfl, a1, rfl, v2, v3⟩ := hv; have ec : zI h' 157 41 = zI h 157 41 := (by rw [v3, dDays_sd h2]; rfl)
          refine zz_lstore_3 C (zle rfl) rfl dX11_men_53 <| zz_lload_3 C dX11_men_54 <| zz_aload_0 C dX11_men_55 <| zz_iload_1 C dX11_men_56 <| zz_iload_2 C dX11_men_57 <| zpc 58 rfl <| ?_
          refine zy_callVJ C hR [_, _] (c_menCost hT hD (a1.sd hD hm0) hRo (hro0.ag3 a1) k d hk hd htd) lX11_362 rfl (tM_K hT) (by decide) rfl ⟨zle rfl, zle rfl, zle rfl, zle rfl⟩ (zle rfl) dX11_men_58 ?_
          intro v t'' h'' hv; rw [ec] at hv; obtain ⟨rfl, a2, rfl, w2, w3⟩ := hv
          refine zz_lsub C dX11_men_61 <| zpc 62 rfl <| ?_
          refine zy_lreturn C hE (zle rfl) (zle rfl) dX11_men_62 ?_
          have a3 := a1.tr a2
          exact ⟨rfl, rfl, (zAg4.th h 0).tr (.of3 a3), a3.th (zI_self _ _ _ _), a3.sd hD hm0⟩
        · exact absurd rfl c43
      · rw [zb_eq0] at c31; exact absurd o2 c31
  · rw [zb_eq0, t1, idxOk (by omega)] at c11; exact absurd ⟨k, hk, rfl⟩ c11
end MLX
