/-! ===== the reference: careless, each, hold where they throw; hold ===== -/
section MHO
variable {E : zE} {b : Nat} {G : zG} {t : zT} {h : zH} {D : yD} {p : yP} {R : Nat × (Nat → Nat)}
theorem c_careless0 {l : Launch} (hT : zTM t) (hD : sdOk D p) (hm : mSd h D p) (s d : Int32) (hs : ¬ ∃ k, k < D.1.1.2.1 ∧ s = nI k) : zMet E b l yX11_careless cX11_careless 7 (some .long) 7 0 0 [.ref (b + 157), .int s, .int d] t h (qJ (fun v t' h' => v = 0 ∧ mCall h t D p 1 t' h')) := by
  have t3 := (hm.th hD 0).1.2.1
  have hng := hD.1.2.1.2.2.1
  refine zMet.of (ls := [some (.ref (b + 157)), some (.int s), some (.int d), none, none, none, none]) (by decide) (zle rfl) 4 rfl ?_
  intro G hlG C hR hE hin
  refine zz_aload_0 C dX11_careless_0 <| zz_iconst_0 C dX11_careless_1 <| zy_putI C fX11_104 pX11_0 (tM_K hT) dX11_careless_2 <| zz_aload_0 C dX11_careless_5 <| zz_aload_0 C dX11_careless_6 <| zz_iload_1 C dX11_careless_7 <| zpc 8 rfl <| ?_
  refine zf_callVI C hR [_] (c_isGoing hT _) lX11_200 rfl (tM_K hT) (by decide) rfl ⟨zle rfl, zle rfl, zle rfl, zle rfl⟩ (zle rfl) dX11_careless_8 ?_
  refine zz_if_ne C 18 dX11_careless_11 (by decide) (fun c11 => ?_) (fun c11 => ?_)
  · rw [zb_ne0, t3, idxOk hng] at c11; exact absurd c11 hs
  · refine zz_iconst_1 C dX11_careless_14 <| zz_goto C 19 dX11_careless_15 (by decide) <| zz_iconst_1 C dX11_careless_19 <| zpc 20 rfl <| ?_
    refine zf_callVI C hR [_, _] (c_bad1 hT _ (by decide) (by first | exact zI_self _ _ _ _ | assumption)) lX11_181 rfl (tM_K hT) (by decide) rfl ⟨zle rfl, zle rfl, zle rfl, zle rfl⟩ (zle rfl) dX11_careless_20 ?_
    refine zz_if_ne C 66 dX11_careless_23 (by decide) (fun c23 => ?_) (fun c23 => ?_)
    · refine zz_lconst_0 C dX11_careless_66 <| zpc 67 rfl <| ?_
      refine zy_lreturn C hE (zle rfl) (zle rfl) dX11_careless_67 ?_
      exact ⟨rfl, rfl, (zAg4.th h 0).tr (zAg4.th _ 1), zI_self _ _ _ _, (hm.th hD 0).th hD 1⟩
    · exact absurd c23 (by decide)
theorem c_careless2 {l : Launch} (hT : zTM t) (hD : sdOk D p) (hm : mSd h D p) (g : Nat) (hg : g < D.1.1.2.1) (d : Int32) (hd : ¬ ∃ k, 1 ≤ k ∧ k ≤ 366 ∧ d = nI k) : zMet E b l yX11_careless cX11_careless 7 (some .long) 7 0 0 [.ref (b + 157), .int (nI g), .int d] t h (qJ (fun v t' h' => v = 0 ∧ mCall h t D p 2 t' h')) := by
  have t3 := (hm.th hD 0).1.2.1
  have hng := hD.1.2.1.2.2.1
  refine zMet.of (ls := [some (.ref (b + 157)), some (.int (nI g)), some (.int d), none, none, none, none]) (by decide) (zle rfl) 4 rfl ?_
  intro G hlG C hR hE hin
  refine zz_aload_0 C dX11_careless_0 <| zz_iconst_0 C dX11_careless_1 <| zy_putI C fX11_104 pX11_0 (tM_K hT) dX11_careless_2 <| zz_aload_0 C dX11_careless_5 <| zz_aload_0 C dX11_careless_6 <| zz_iload_1 C dX11_careless_7 <| zpc 8 rfl <| ?_
  refine zf_callVI C hR [_] (c_isGoing hT _) lX11_200 rfl (tM_K hT) (by decide) rfl ⟨zle rfl, zle rfl, zle rfl, zle rfl⟩ (zle rfl) dX11_careless_8 ?_
  refine zz_if_ne C 18 dX11_careless_11 (by decide) (fun c11 => ?_) (fun c11 => ?_)
  · refine zz_iconst_0 C dX11_careless_18 <| zz_iconst_1 C dX11_careless_19 <| zpc 20 rfl <| ?_
    refine zf_callVI C hR [_, _] (c_bad0 hT _ (by decide) (by first | exact zI_self _ _ _ _ | assumption)) lX11_181 rfl (tM_K hT) (by decide) rfl ⟨zle rfl, zle rfl, zle rfl, zle rfl⟩ (zle rfl) dX11_careless_20 ?_
    refine zz_if_ne C 66 dX11_careless_23 (by decide) (fun c23 => ?_) (fun c23 => ?_)
    · exact absurd rfl c23
    · refine zz_aload_0 C dX11_careless_26 <| zz_iload_2 C dX11_careless_27 <| zpc 28 rfl <| ?_
      refine zf_callSI C hR [_] (c_areDays _) lX11_299 rfl ⟨zle rfl, zle rfl, zle rfl, zle rfl⟩ (zle rfl) dX11_careless_28 ?_
      refine zz_if_ne C 38 dX11_careless_31 (by decide) (fun c31 => ?_) (fun c31 => ?_)
      · rw [zb_ne0, daysOk] at c31; exact absurd c31 hd
      · refine zz_iconst_1 C dX11_careless_34 <| zz_goto C 39 dX11_careless_35 (by decide) <| zz_iconst_2 C dX11_careless_39 <| zpc 40 rfl <| ?_
        refine zf_callVI C hR [_, _] (c_bad1 hT _ (by decide) (by first | exact zI_self _ _ _ _ | assumption)) lX11_181 rfl (tM_K hT) (by decide) rfl ⟨zle rfl, zle rfl, zle rfl, zle rfl⟩ (zle rfl) dX11_careless_40 ?_
        refine zz_if_ne C 66 dX11_careless_43 (by decide) (fun c43 => ?_) (fun c43 => ?_)
        · refine zz_lconst_0 C dX11_careless_66 <| zpc 67 rfl <| ?_
          refine zy_lreturn C hE (zle rfl) (zle rfl) dX11_careless_67 ?_
          exact ⟨rfl, rfl, (zAg4.th h 0).tr (zAg4.th _ 2), zI_self _ _ _ _, (hm.th hD 0).th hD 2⟩
        · exact absurd c43 (by decide)
  · rw [zb_eq0, t3, idxOk hng] at c11; exact absurd ⟨g, hg, rfl⟩ c11
theorem c_careless3 {l : Launch} (hT : zTM t) (hD : sdOk D p) (hm : mSd h D p) (hro : mRo h R) (hR0 : R.1 = 0) (g d : Nat) (hg : g < D.1.1.2.1) (hd1 : 1 ≤ d) (hd : d ≤ 366) : zMet E b l yX11_careless cX11_careless 7 (some .long) 7 0 0 [.ref (b + 157), .int (nI g), .int (nI d)] t h (qJ (fun v t' h' => v = 0 ∧ mCall h t D p 3 t' h')) := by
  have t3 := (hm.th hD 0).1.2.1
  have hng := hD.1.2.1.2.2.1
  have o2 : (1 ≤ nI d ∧ nI d ≤ 366) := daysOk.mpr ⟨d, hd1, hd, rfl⟩
  have hr0 : zI (zsI h 157 0 0) 157 20 = 0 := by rw [zI_sI, if_neg (by omega), hro.1, hR0]; rfl
  refine zMet.of (ls := [some (.ref (b + 157)), some (.int (nI g)), some (.int (nI d)), none, none, none, none]) (by decide) (zle rfl) 4 rfl ?_
  intro G hlG C hR hE hin
  refine zz_aload_0 C dX11_careless_0 <| zz_iconst_0 C dX11_careless_1 <| zy_putI C fX11_104 pX11_0 (tM_K hT) dX11_careless_2 <| zz_aload_0 C dX11_careless_5 <| zz_aload_0 C dX11_careless_6 <| zz_iload_1 C dX11_careless_7 <| zpc 8 rfl <| ?_
  refine zf_callVI C hR [_] (c_isGoing hT _) lX11_200 rfl (tM_K hT) (by decide) rfl ⟨zle rfl, zle rfl, zle rfl, zle rfl⟩ (zle rfl) dX11_careless_8 ?_
  refine zz_if_ne C 18 dX11_careless_11 (by decide) (fun c11 => ?_) (fun c11 => ?_)
  · refine zz_iconst_0 C dX11_careless_18 <| zz_iconst_1 C dX11_careless_19 <| zpc 20 rfl <| ?_
    refine zf_callVI C hR [_, _] (c_bad0 hT _ (by decide) (by first | exact zI_self _ _ _ _ | assumption)) lX11_181 rfl (tM_K hT) (by decide) rfl ⟨zle rfl, zle rfl, zle rfl, zle rfl⟩ (zle rfl) dX11_careless_20 ?_
    refine zz_if_ne C 66 dX11_careless_23 (by decide) (fun c23 => ?_) (fun c23 => ?_)
    · exact absurd rfl c23
    · refine zz_aload_0 C dX11_careless_26 <| zz_iload_2 C dX11_careless_27 <| zpc 28 rfl <| ?_
      refine zf_callSI C hR [_] (c_areDays _) lX11_299 rfl ⟨zle rfl, zle rfl, zle rfl, zle rfl⟩ (zle rfl) dX11_careless_28 ?_
      refine zz_if_ne C 38 dX11_careless_31 (by decide) (fun c31 => ?_) (fun c31 => ?_)
      · refine zz_iconst_0 C dX11_careless_38 <| zz_iconst_2 C dX11_careless_39 <| zpc 40 rfl <| ?_
        refine zf_callVI C hR [_, _] (c_bad0 hT _ (by decide) (by first | exact zI_self _ _ _ _ | assumption)) lX11_181 rfl (tM_K hT) (by decide) rfl ⟨zle rfl, zle rfl, zle rfl, zle rfl⟩ (zle rfl) dX11_careless_40 ?_
        refine zz_if_ne C 66 dX11_careless_43 (by decide) (fun c43 => ?_) (fun c43 => ?_)
        · exact absurd rfl c43
        · refine zz_aload_0 C dX11_careless_46 <| zz_aload_0 C dX11_careless_47 <| zz_getI C fX11_191 (tM_K hT) dX11_careless_48 <| zpc 51 rfl <| ?_
          rw [hr0]
          refine zz_if_ne C 58 dX11_careless_51 (by decide) (fun c51 => ?_) (fun c51 => ?_)
          · exact absurd rfl c51
          · refine zz_iconst_1 C dX11_careless_54 <| zz_goto C 59 dX11_careless_55 (by decide) <| zz_iconst_3 C dX11_careless_59 <| zpc 60 rfl <| ?_
            refine zf_callVI C hR [_, _] (c_bad1 hT _ (by decide) (by first | exact zI_self _ _ _ _ | assumption)) lX11_181 rfl (tM_K hT) (by decide) rfl ⟨zle rfl, zle rfl, zle rfl, zle rfl⟩ (zle rfl) dX11_careless_60 ?_
            refine zz_if_eq C 68 dX11_careless_63 (by decide) (fun c63 => ?_) (fun c63 => ?_)
            · exact absurd c63 (by decide)
            · refine zz_lconst_0 C dX11_careless_66 <| zpc 67 rfl <| ?_
              refine zy_lreturn C hE (zle rfl) (zle rfl) dX11_careless_67 ?_
              exact ⟨rfl, rfl, (zAg4.th h 0).tr (zAg4.th _ 3), zI_self _ _ _ _, (hm.th hD 0).th hD 3⟩
      · rw [zb_eq0] at c31; exact absurd o2 c31
  · rw [zb_eq0, t3, idxOk hng] at c11; exact absurd ⟨g, hg, rfl⟩ c11
theorem c_each0 {l : Launch} (hT : zTM t) (hD : sdOk D p) (hm : mSd h D p) (s d : Int32) (hs : ¬ ∃ k, k < D.1.1.2.1 ∧ s = nI k) : zMet E b l yX11_each cX11_each 7 (some .long) 7 0 0 [.ref (b + 157), .int s, .int d] t h (qJ (fun v t' h' => v = 0 ∧ mCall h t D p 1 t' h')) := by
  have t3 := (hm.th hD 0).1.2.1
  have hng := hD.1.2.1.2.2.1
  refine zMet.of (ls := [some (.ref (b + 157)), some (.int s), some (.int d), none, none, none, none]) (by decide) (zle rfl) 4 rfl ?_
  intro G hlG C hR hE hin
  refine zz_aload_0 C dX11_each_0 <| zz_iconst_0 C dX11_each_1 <| zy_putI C fX11_104 pX11_0 (tM_K hT) dX11_each_2 <| zz_aload_0 C dX11_each_5 <| zz_aload_0 C dX11_each_6 <| zz_iload_1 C dX11_each_7 <| zpc 8 rfl <| ?_
  refine zf_callVI C hR [_] (c_isGoing hT _) lX11_200 rfl (tM_K hT) (by decide) rfl ⟨zle rfl, zle rfl, zle rfl, zle rfl⟩ (zle rfl) dX11_each_8 ?_
  refine zz_if_ne C 18 dX11_each_11 (by decide) (fun c11 => ?_) (fun c11 => ?_)
  · rw [zb_ne0, t3, idxOk hng] at c11; exact absurd c11 hs
  · refine zz_iconst_1 C dX11_each_14 <| zz_goto C 19 dX11_each_15 (by decide) <| zz_iconst_1 C dX11_each_19 <| zpc 20 rfl <| ?_
    refine zf_callVI C hR [_, _] (c_bad1 hT _ (by decide) (by first | exact zI_self _ _ _ _ | assumption)) lX11_181 rfl (tM_K hT) (by decide) rfl ⟨zle rfl, zle rfl, zle rfl, zle rfl⟩ (zle rfl) dX11_each_20 ?_
    refine zz_if_ne C 46 dX11_each_23 (by decide) (fun c23 => ?_) (fun c23 => ?_)
    · refine zz_lconst_0 C dX11_each_46 <| zpc 47 rfl <| ?_
      refine zy_lreturn C hE (zle rfl) (zle rfl) dX11_each_47 ?_
      exact ⟨rfl, rfl, (zAg4.th h 0).tr (zAg4.th _ 1), zI_self _ _ _ _, (hm.th hD 0).th hD 1⟩
    · exact absurd c23 (by decide)
theorem c_each2 {l : Launch} (hT : zTM t) (hD : sdOk D p) (hm : mSd h D p) (g : Nat) (hg : g < D.1.1.2.1) (d : Int32) (hd : ¬ ∃ k, 1 ≤ k ∧ k ≤ 366 ∧ d = nI k) : zMet E b l yX11_each cX11_each 7 (some .long) 7 0 0 [.ref (b + 157), .int (nI g), .int d] t h (qJ (fun v t' h' => v = 0 ∧ mCall h t D p 2 t' h')) := by
  have t3 := (hm.th hD 0).1.2.1
  have hng := hD.1.2.1.2.2.1
  refine zMet.of (ls := [some (.ref (b + 157)), some (.int (nI g)), some (.int d), none, none, none, none]) (by decide) (zle rfl) 4 rfl ?_
  intro G hlG C hR hE hin
  refine zz_aload_0 C dX11_each_0 <| zz_iconst_0 C dX11_each_1 <| zy_putI C fX11_104 pX11_0 (tM_K hT) dX11_each_2 <| zz_aload_0 C dX11_each_5 <| zz_aload_0 C dX11_each_6 <| zz_iload_1 C dX11_each_7 <| zpc 8 rfl <| ?_
  refine zf_callVI C hR [_] (c_isGoing hT _) lX11_200 rfl (tM_K hT) (by decide) rfl ⟨zle rfl, zle rfl, zle rfl, zle rfl⟩ (zle rfl) dX11_each_8 ?_
  refine zz_if_ne C 18 dX11_each_11 (by decide) (fun c11 => ?_) (fun c11 => ?_)
  · refine zz_iconst_0 C dX11_each_18 <| zz_iconst_1 C dX11_each_19 <| zpc 20 rfl <| ?_
    refine zf_callVI C hR [_, _] (c_bad0 hT _ (by decide) (by first | exact zI_self _ _ _ _ | assumption)) lX11_181 rfl (tM_K hT) (by decide) rfl ⟨zle rfl, zle rfl, zle rfl, zle rfl⟩ (zle rfl) dX11_each_20 ?_
    refine zz_if_ne C 46 dX11_each_23 (by decide) (fun c23 => ?_) (fun c23 => ?_)
    · exact absurd rfl c23
    · refine zz_aload_0 C dX11_each_26 <| zz_iload_2 C dX11_each_27 <| zpc 28 rfl <| ?_
      refine zf_callSI C hR [_] (c_areDays _) lX11_299 rfl ⟨zle rfl, zle rfl, zle rfl, zle rfl⟩ (zle rfl) dX11_each_28 ?_
      refine zz_if_ne C 38 dX11_each_31 (by decide) (fun c31 => ?_) (fun c31 => ?_)
      · rw [zb_ne0, daysOk] at c31; exact absurd c31 hd
      · refine zz_iconst_1 C dX11_each_34 <| zz_goto C 39 dX11_each_35 (by decide) <| zz_iconst_2 C dX11_each_39 <| zpc 40 rfl <| ?_
        refine zf_callVI C hR [_, _] (c_bad1 hT _ (by decide) (by first | exact zI_self _ _ _ _ | assumption)) lX11_181 rfl (tM_K hT) (by decide) rfl ⟨zle rfl, zle rfl, zle rfl, zle rfl⟩ (zle rfl) dX11_each_40 ?_
        refine zz_if_eq C 48 dX11_each_43 (by decide) (fun c43 => ?_) (fun c43 => ?_)
        · exact absurd c43 (by decide)
        · refine zz_lconst_0 C dX11_each_46 <| zpc 47 rfl <| ?_
          refine zy_lreturn C hE (zle rfl) (zle rfl) dX11_each_47 ?_
          exact ⟨rfl, rfl, (zAg4.th h 0).tr (zAg4.th _ 2), zI_self _ _ _ _, (hm.th hD 0).th hD 2⟩
  · rw [zb_eq0, t3, idxOk hng] at c11; exact absurd ⟨g, hg, rfl⟩ c11
theorem c_hold0 {l : Launch} (hT : zTM t) (hD : sdOk D p) (hm : mSd h D p) (s y d : Int32) (hs : ¬ ∃ k, k < D.1.1.2.1 ∧ s = nI k) : zMet E b l yX11_hold cX11_hold 6 (some .long) 8 0 0 [.ref (b + 157), .int s, .int y, .int d] t h (qJ (fun v t' h' => v = 0 ∧ mCall h t D p 1 t' h')) := by
  have t3 := (hm.th hD 0).1.2.1
  have hng := hD.1.2.1.2.2.1
  refine zMet.of (ls := [some (.ref (b + 157)), some (.int s), some (.int y), some (.int d), none, none]) (by decide) (zle rfl) 2 rfl ?_
  intro G hlG C hR hE hin
  refine zz_aload_0 C dX11_hold_0 <| zz_iconst_0 C dX11_hold_1 <| zy_putI C fX11_104 pX11_0 (tM_K hT) dX11_hold_2 <| zz_aload_0 C dX11_hold_5 <| zz_aload_0 C dX11_hold_6 <| zz_iload_1 C dX11_hold_7 <| zpc 8 rfl <| ?_
  refine zf_callVI C hR [_] (c_isGoing hT _) lX11_200 rfl (tM_K hT) (by decide) rfl ⟨zle rfl, zle rfl, zle rfl, zle rfl⟩ (zle rfl) dX11_hold_8 ?_
  refine zz_if_ne C 18 dX11_hold_11 (by decide) (fun c11 => ?_) (fun c11 => ?_)
  · rw [zb_ne0, t3, idxOk hng] at c11; exact absurd c11 hs
  · refine zz_iconst_1 C dX11_hold_14 <| zz_goto C 19 dX11_hold_15 (by decide) <| zz_iconst_1 C dX11_hold_19 <| zpc 20 rfl <| ?_
    refine zf_callVI C hR [_, _] (c_bad1 hT _ (by decide) (by first | exact zI_self _ _ _ _ | assumption)) lX11_181 rfl (tM_K hT) (by decide) rfl ⟨zle rfl, zle rfl, zle rfl, zle rfl⟩ (zle rfl) dX11_hold_20 ?_
    refine zz_if_ne C 62 dX11_hold_23 (by decide) (fun c23 => ?_) (fun c23 => ?_)
    · refine zz_lconst_0 C dX11_hold_62 <| zpc 63 rfl <| ?_
      refine zy_lreturn C hE (zle rfl) (zle rfl) dX11_hold_63 ?_
      exact ⟨rfl, rfl, (zAg4.th h 0).tr (zAg4.th _ 1), zI_self _ _ _ _, (hm.th hD 0).th hD 1⟩
    · exact absurd c23 (by decide)
theorem c_hold2 {l : Launch} (hT : zTM t) (hD : sdOk D p) (hm : mSd h D p) (g : Nat) (hg : g < D.1.1.2.1) (y d : Int32) (hno : ¬ ((∃ k, 1 ≤ k ∧ k ≤ D.1.2.1 g 5 ∧ y = nI k) ∧ ∃ k, 1 ≤ k ∧ k ≤ 366 ∧ d = nI k)) : zMet E b l yX11_hold cX11_hold 6 (some .long) 8 0 0 [.ref (b + 157), .int (nI g), .int y, .int d] t h (qJ (fun v t' h' => v = 0 ∧ mCall h t D p 2 t' h')) := by
  have t3 := (hm.th hD 0).1.2.1
  have hng := hD.1.2.1.2.2.1
  have g5 := (hm.th hD 0).1.2.2.2.1 g hg 5 (by omega)
  have hgg := hD.1.2.1.2.2.2.2.1 g hg
  refine zMet.of (ls := [some (.ref (b + 157)), some (.int (nI g)), some (.int y), some (.int d), none, none]) (by decide) (zle rfl) 2 rfl ?_
  intro G hlG C hR hE hin
  refine zz_aload_0 C dX11_hold_0 <| zz_iconst_0 C dX11_hold_1 <| zy_putI C fX11_104 pX11_0 (tM_K hT) dX11_hold_2 <| zz_aload_0 C dX11_hold_5 <| zz_aload_0 C dX11_hold_6 <| zz_iload_1 C dX11_hold_7 <| zpc 8 rfl <| ?_
  refine zf_callVI C hR [_] (c_isGoing hT _) lX11_200 rfl (tM_K hT) (by decide) rfl ⟨zle rfl, zle rfl, zle rfl, zle rfl⟩ (zle rfl) dX11_hold_8 ?_
  refine zz_if_ne C 18 dX11_hold_11 (by decide) (fun c11 => ?_) (fun c11 => ?_)
  · refine zz_iconst_0 C dX11_hold_18 <| zz_iconst_1 C dX11_hold_19 <| zpc 20 rfl <| ?_
    refine zf_callVI C hR [_, _] (c_bad0 hT _ (by decide) (by first | exact zI_self _ _ _ _ | assumption)) lX11_181 rfl (tM_K hT) (by decide) rfl ⟨zle rfl, zle rfl, zle rfl, zle rfl⟩ (zle rfl) dX11_hold_20 ?_
    refine zz_if_ne C 62 dX11_hold_23 (by decide) (fun c23 => ?_) (fun c23 => ?_)
    · exact absurd rfl c23
    · refine zz_aload_0 C dX11_hold_26 <| zz_iload_2 C dX11_hold_27 <| zz_iconst_1 C dX11_hold_28 <| zz_aload_0 C dX11_hold_29 <| zz_getR C fX11_46 (tM_K hT) (tM_R_going hT) dX11_hold_30 <| zz_iload_1 C dX11_hold_33 <| zc_row C _ (tM_K_going hT) (tM_row_going hT) (znI (by omega)) (by omega) dX11_hold_34 <| fun r34 => ?_
      refine zz_iconst_5 C dX11_hold_35 <| zc_iaload C 5 (tM_KR_going hT _ r34) (zlit _ (by decide)) (by decide) dX11_hold_36 <| zpc 37 rfl <| ?_
      rw [g5]
      refine zf_callSI C hR [_, _, _] (c_in _ _ _) lX11_138 rfl ⟨zle rfl, zle rfl, zle rfl, zle rfl⟩ (zle rfl) dX11_hold_37 ?_
      refine zz_if_eq C 50 dX11_hold_40 (by decide) (fun c40 => ?_) (fun c40 => ?_)
      · refine zz_iconst_1 C dX11_hold_50 <| zz_goto C 55 dX11_hold_51 (by decide) <| zz_iconst_2 C dX11_hold_55 <| zpc 56 rfl <| ?_
        refine zf_callVI C hR [_, _] (c_bad1 hT _ (by decide) (by first | exact zI_self _ _ _ _ | assumption)) lX11_181 rfl (tM_K hT) (by decide) rfl ⟨zle rfl, zle rfl, zle rfl, zle rfl⟩ (zle rfl) dX11_hold_56 ?_
        refine zz_if_eq C 64 dX11_hold_59 (by decide) (fun c59 => ?_) (fun c59 => ?_)
        · exact absurd c59 (by decide)
        · refine zz_lconst_0 C dX11_hold_62 <| zpc 63 rfl <| ?_
          refine zy_lreturn C hE (zle rfl) (zle rfl) dX11_hold_63 ?_
          exact ⟨rfl, rfl, (zAg4.th h 0).tr (zAg4.th _ 2), zI_self _ _ _ _, (hm.th hD 0).th hD 2⟩
      · refine zz_iload_3 C dX11_hold_43 <| zpc 44 rfl <| ?_
        refine zf_callSI C hR [_] (c_areDays _) lX11_299 rfl ⟨zle rfl, zle rfl, zle rfl, zle rfl⟩ (zle rfl) dX11_hold_44 ?_
        refine zz_if_ne C 54 dX11_hold_47 (by decide) (fun c47 => ?_) (fun c47 => ?_)
        · rw [zb_ne0] at c40 c47; exact absurd ⟨(frTo _ (D.1.2.1 g 5) rfl (by omega)).mp c40, daysOk.mp c47⟩ hno
        · refine zz_iconst_1 C dX11_hold_50 <| zz_goto C 55 dX11_hold_51 (by decide) <| zz_iconst_2 C dX11_hold_55 <| zpc 56 rfl <| ?_
          refine zf_callVI C hR [_, _] (c_bad1 hT _ (by decide) (by first | exact zI_self _ _ _ _ | assumption)) lX11_181 rfl (tM_K hT) (by decide) rfl ⟨zle rfl, zle rfl, zle rfl, zle rfl⟩ (zle rfl) dX11_hold_56 ?_
          refine zz_if_eq C 64 dX11_hold_59 (by decide) (fun c59 => ?_) (fun c59 => ?_)
          · exact absurd c59 (by decide)
          · refine zz_lconst_0 C dX11_hold_62 <| zpc 63 rfl <| ?_
            refine zy_lreturn C hE (zle rfl) (zle rfl) dX11_hold_63 ?_
            exact ⟨rfl, rfl, (zAg4.th h 0).tr (zAg4.th _ 2), zI_self _ _ _ _, (hm.th hD 0).th hD 2⟩
  · rw [zb_eq0, t3, idxOk hng] at c11; exact absurd ⟨g, hg, rfl⟩ c11
theorem c_hold1 {l : Launch} (hT : zTM t) (hD : sdOk D p) (hm : mSd h D p) (h0 : p.2.1.1 = none) (h2 : p.2.2.1 = false) (hRo : roOk R) (hro : mRo h R) (g y d : Nat) (hg : g < D.1.1.2.1) (hy1 : 1 ≤ y) (hy : y ≤ D.1.2.1 g 5) (hd1 : 1 ≤ d) (hd : d ≤ 366) (htd : D.2.2.2 + d < 2 ^ 20) : zMet E b l yX11_hold cX11_hold 6 (some .long) 8 0 0 [.ref (b + 157), .int (nI g), .int (nI y), .int (nI d)] t h (qJ (fun v t' h' => v = lN (dCo D p R 0 d (zI h 157 41)) - lN (dCo D (pHe p g y) R 0 d (zI h 157 41)) ∧ mCall h t D p 0 t' h')) := by
  have hm0 := hm.th hD 0
  have hro0 := mRo.ag4 (zAg4.th h 0) hro
  have t3 := hm0.1.2.1
  have hng := hD.1.2.1.2.2.1
  have g5 := hm0.1.2.2.2.1 g hg 5 (by omega)
  have hgg := hD.1.2.1.2.2.2.2.1 g hg
  have e1 : zI (zsI h 157 0 0) 157 41 = zI h 157 41 := by rw [zI_sI, if_neg (by omega)]
  have o1 : (1 ≤ nI y ∧ nI y ≤ nI (D.1.2.1 g 5)) := (frTo _ (D.1.2.1 g 5) rfl (by omega)).mpr ⟨y, hy1, hy, rfl⟩
  have o2 : (1 ≤ nI d ∧ nI d ≤ 366) := daysOk.mpr ⟨d, hd1, hd, rfl⟩
  refine zMet.of (ls := [some (.ref (b + 157)), some (.int (nI g)), some (.int (nI y)), some (.int (nI d)), none, none]) (by decide) (zle rfl) 2 rfl ?_
  intro G hlG C hR hE hin
  refine zz_aload_0 C dX11_hold_0 <| zz_iconst_0 C dX11_hold_1 <| zy_putI C fX11_104 pX11_0 (tM_K hT) dX11_hold_2 <| zz_aload_0 C dX11_hold_5 <| zz_aload_0 C dX11_hold_6 <| zz_iload_1 C dX11_hold_7 <| zpc 8 rfl <| ?_
  refine zf_callVI C hR [_] (c_isGoing hT _) lX11_200 rfl (tM_K hT) (by decide) rfl ⟨zle rfl, zle rfl, zle rfl, zle rfl⟩ (zle rfl) dX11_hold_8 ?_
  refine zz_if_ne C 18 dX11_hold_11 (by decide) (fun c11 => ?_) (fun c11 => ?_)
  · refine zz_iconst_0 C dX11_hold_18 <| zz_iconst_1 C dX11_hold_19 <| zpc 20 rfl <| ?_
    refine zf_callVI C hR [_, _] (c_bad0 hT _ (by decide) (by first | exact zI_self _ _ _ _ | assumption)) lX11_181 rfl (tM_K hT) (by decide) rfl ⟨zle rfl, zle rfl, zle rfl, zle rfl⟩ (zle rfl) dX11_hold_20 ?_
    refine zz_if_ne C 62 dX11_hold_23 (by decide) (fun c23 => ?_) (fun c23 => ?_)
    · exact absurd rfl c23
    · refine zz_aload_0 C dX11_hold_26 <| zz_iload_2 C dX11_hold_27 <| zz_iconst_1 C dX11_hold_28 <| zz_aload_0 C dX11_hold_29 <| zz_getR C fX11_46 (tM_K hT) (tM_R_going hT) dX11_hold_30 <| zz_iload_1 C dX11_hold_33 <| zc_row C _ (tM_K_going hT) (tM_row_going hT) (znI (by omega)) (by omega) dX11_hold_34 <| fun r34 => ?_
      refine zz_iconst_5 C dX11_hold_35 <| zc_iaload C 5 (tM_KR_going hT _ r34) (zlit _ (by decide)) (by decide) dX11_hold_36 <| zpc 37 rfl <| ?_
      rw [g5]
      refine zf_callSI C hR [_, _, _] (c_in _ _ _) lX11_138 rfl ⟨zle rfl, zle rfl, zle rfl, zle rfl⟩ (zle rfl) dX11_hold_37 ?_
      refine zz_if_eq C 50 dX11_hold_40 (by decide) (fun c40 => ?_) (fun c40 => ?_)
      · rw [zb_eq0] at c40; exact absurd o1 c40
      · refine zz_iload_3 C dX11_hold_43 <| zpc 44 rfl <| ?_
        refine zf_callSI C hR [_] (c_areDays _) lX11_299 rfl ⟨zle rfl, zle rfl, zle rfl, zle rfl⟩ (zle rfl) dX11_hold_44 ?_
        refine zz_if_ne C 54 dX11_hold_47 (by decide) (fun c47 => ?_) (fun c47 => ?_)
        · refine zz_iconst_0 C dX11_hold_54 <| zz_iconst_2 C dX11_hold_55 <| zpc 56 rfl <| ?_
          refine zf_callVI C hR [_, _] (c_bad0 hT _ (by decide) (by first | exact zI_self _ _ _ _ | assumption)) lX11_181 rfl (tM_K hT) (by decide) rfl ⟨zle rfl, zle rfl, zle rfl, zle rfl⟩ (zle rfl) dX11_hold_56 ?_
          refine zz_if_eq C 64 dX11_hold_59 (by decide) (fun c59 => ?_) (fun c59 => ?_)
          · refine zz_aload_0 C dX11_hold_64 <| zz_iload_3 C dX11_hold_65 <| zpc 66 rfl <| ?_
            refine zy_callVJ C hR [_] (c_openCost hT hD hm0 hRo hro0 d hd htd) lX11_344 rfl (tM_K hT) (by decide) rfl ⟨zle rfl, zle rfl, zle rfl, zle rfl⟩ (zle rfl) dX11_hold_66 ?_
            intro v t' h' hv; rw [e1] at hv; obtain ⟨rfl, a1, rfl, v2, v3⟩ := hv; have ec : zI h' 157 41 = zI h 157 41 := (by rw [v3, dDays_sd h2]; rfl)
            refine zz_lstore_4 C (zle rfl) rfl dX11_hold_69 <| zz_lload_4 C dX11_hold_71 <| zz_aload_0 C dX11_hold_73 <| zz_iload_1 C dX11_hold_74 <| zz_iload_2 C dX11_hold_75 <| zz_iload_3 C dX11_hold_76 <| zpc 77 rfl <| ?_
            refine zy_callVJ C hR [_, _, _] (c_heldCost hT hD (a1.sd hD hm0) h0 hRo (hro0.ag3 a1) g y d (by omega) (by omega) hd htd) lX11_356 rfl (tM_K hT) (by decide) rfl ⟨zle rfl, zle rfl, zle rfl, zle rfl⟩ (zle rfl) dX11_hold_77 ?_
            intro v t'' h'' hv; rw [ec] at hv; obtain ⟨rfl, a2, th, hsd, rfl, w3⟩ := hv
            refine zz_lsub C dX11_hold_80 <| zpc 81 rfl <| ?_
            refine zy_lreturn C hE (zle rfl) (zle rfl) dX11_hold_81 ?_
            exact ⟨rfl, rfl, (zAg4.th h 0).tr ((zAg4.of3 a1).tr a2), th.trans (a1.th (zI_self _ _ _ _)), hsd⟩
          · exact absurd rfl c59
        · rw [zb_eq0] at c47; exact absurd o2 c47
  · rw [zb_eq0, t3, idxOk hng] at c11; exact absurd ⟨g, hg, rfl⟩ c11
end MHO
