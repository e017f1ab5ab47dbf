/-! ===== the reference: by ===== -/
section MBY
variable {E : zE} {b : Nat} {G : zG} {t : zT} {h : zH} {D : yD} {p : yP} {R : Nat × (Nat → Nat)}
theorem c_by0 {l : Launch} (hT : zTM t) (hD : sdOk D p) (hm : mSd h D p) (s q i : Int32) (hs : ¬ ∃ k, k < D.1.1.2.1 ∧ s = nI k) : zMet E b l yX11_by cX11_by 4 (some .int) 4 0 0 [.ref (b + 157), .int s, .int q, .int i] t h (qI (fun v t' h' => v = 0 ∧ mCall h t D p 1 t' h')) := by
  have t3 := (hm.th hD 0).1.2.1
  have hng := hD.1.2.1.2.2.1
  refine zMet.of (ls := [some (.ref (b + 157)), some (.int s), some (.int q), some (.int i)]) (by decide) (zle rfl) 0 rfl ?_
  intro G hlG C hR hE hin
  refine zz_aload_0 C dX11_by_0 <| zz_iconst_0 C dX11_by_1 <| zy_putI C fX11_104 pX11_0 (tM_K hT) dX11_by_2 <| zz_aload_0 C dX11_by_5 <| zz_aload_0 C dX11_by_6 <| zz_iload_1 C dX11_by_7 <| zpc 8 rfl <| ?_
  refine zf_callVI C hR [_] (c_isGoing hT _) lX11_200 rfl (tM_K hT) (by decide) rfl ⟨zle rfl, zle rfl, zle rfl, zle rfl⟩ (zle rfl) dX11_by_8 ?_
  refine zz_if_ne C 18 dX11_by_11 (by decide) (fun c11 => ?_) (fun c11 => ?_)
  · rw [zb_ne0, t3, idxOk hng] at c11; exact absurd c11 hs
  · refine zz_iconst_1 C dX11_by_14 <| zz_goto C 19 dX11_by_15 (by decide) <| zz_iconst_1 C dX11_by_19 <| zpc 20 rfl <| ?_
    refine zf_callVI C hR [_, _] (c_bad1 hT _ (by decide) (by first | exact zI_self _ _ _ _ | assumption)) lX11_181 rfl (tM_K hT) (by decide) rfl ⟨zle rfl, zle rfl, zle rfl, zle rfl⟩ (zle rfl) dX11_by_20 ?_
    refine zz_if_ne C 47 dX11_by_23 (by decide) (fun c23 => ?_) (fun c23 => ?_)
    · refine zz_iconst_0 C dX11_by_47 <| zpc 48 rfl <| ?_
      refine zy_ireturn C hE (zle rfl) (zle rfl) dX11_by_48 ?_
      exact ⟨rfl, rfl, (zAg4.th h 0).tr (zAg4.th _ 1), zI_self _ _ _ _, (hm.th hD 0).th hD 1⟩
    · exact absurd c23 (by decide)
theorem c_by2 {l : Launch} (hT : zTM t) (hD : sdOk D p) (hm : mSd h D p) (g : Nat) (hg : g < D.1.1.2.1) (s i : Int32) (hs : ¬ ∃ k, k < 2 ^ D.2.1.1.1 ∧ s = nI k) : zMet E b l yX11_by cX11_by 4 (some .int) 4 0 0 [.ref (b + 157), .int (nI g), .int s, .int i] t h (qI (fun v t' h' => v = 0 ∧ mCall h t D p 2 t' h')) := by
  have t3 := (hm.th hD 0).1.2.1
  have t1 := (hm.th hD 0).2.2.1
  have hng := hD.1.2.1.2.2.1
  have hn := hD.1.1.2.2.1
  refine zMet.of (ls := [some (.ref (b + 157)), some (.int (nI g)), some (.int s), some (.int i)]) (by decide) (zle rfl) 0 rfl ?_
  intro G hlG C hR hE hin
  refine zz_aload_0 C dX11_by_0 <| zz_iconst_0 C dX11_by_1 <| zy_putI C fX11_104 pX11_0 (tM_K hT) dX11_by_2 <| zz_aload_0 C dX11_by_5 <| zz_aload_0 C dX11_by_6 <| zz_iload_1 C dX11_by_7 <| zpc 8 rfl <| ?_
  refine zf_callVI C hR [_] (c_isGoing hT _) lX11_200 rfl (tM_K hT) (by decide) rfl ⟨zle rfl, zle rfl, zle rfl, zle rfl⟩ (zle rfl) dX11_by_8 ?_
  refine zz_if_ne C 18 dX11_by_11 (by decide) (fun c11 => ?_) (fun c11 => ?_)
  · refine zz_iconst_0 C dX11_by_18 <| zz_iconst_1 C dX11_by_19 <| zpc 20 rfl <| ?_
    refine zf_callVI C hR [_, _] (c_bad0 hT _ (by decide) (by first | exact zI_self _ _ _ _ | assumption)) lX11_181 rfl (tM_K hT) (by decide) rfl ⟨zle rfl, zle rfl, zle rfl, zle rfl⟩ (zle rfl) dX11_by_20 ?_
    refine zz_if_ne C 47 dX11_by_23 (by decide) (fun c23 => ?_) (fun c23 => ?_)
    · exact absurd rfl c23
    · refine zz_aload_0 C dX11_by_26 <| zz_aload_0 C dX11_by_27 <| zz_iload_2 C dX11_by_28 <| zpc 29 rfl <| ?_
      refine zf_callVI C hR [_] (c_areRoads hT _) lX11_252 rfl (tM_K hT) (by decide) rfl ⟨zle rfl, zle rfl, zle rfl, zle rfl⟩ (zle rfl) dX11_by_29 ?_
      refine zz_if_ne C 39 dX11_by_32 (by decide) (fun c32 => ?_) (fun c32 => ?_)
      · rw [zb_ne0, t1, setOk hn] at c32; exact absurd c32 hs
      · refine zz_iconst_1 C dX11_by_35 <| zz_goto C 40 dX11_by_36 (by decide) <| zz_iconst_2 C dX11_by_40 <| zpc 41 rfl <| ?_
        refine zf_callVI C hR [_, _] (c_bad1 hT _ (by decide) (by first | exact zI_self _ _ _ _ | assumption)) lX11_181 rfl (tM_K hT) (by decide) rfl ⟨zle rfl, zle rfl, zle rfl, zle rfl⟩ (zle rfl) dX11_by_41 ?_
        refine zz_if_eq C 49 dX11_by_44 (by decide) (fun c44 => ?_) (fun c44 => ?_)
        · exact absurd c44 (by decide)
        · refine zz_iconst_0 C dX11_by_47 <| zpc 48 rfl <| ?_
          refine zy_ireturn C hE (zle rfl) (zle rfl) dX11_by_48 ?_
          exact ⟨rfl, rfl, (zAg4.th h 0).tr (zAg4.th _ 2), zI_self _ _ _ _, (hm.th hD 0).th hD 2⟩
  · rw [zb_eq0, t3, idxOk hng] at c11; exact absurd ⟨g, hg, rfl⟩ c11
def mGwPost (h : zH) (t : zT) (D : yD) (g s : Nat) (r : Int32) (t' : zT) (h' : zH) : Prop := t' = t ∧ r = zb ((gw D g s).isSome = true) ∧ ((∀ k ∈ (gw D g s).getD [], k < D.2.1.1.1) ∧ ((gw D g s).getD []).length ≤ 11) ∧ isWay D.1.1.1 D.2.1.1.1 (nOp s D.2.1.2 D.2.2.1.1) (fun k => D.2.1.2 k 0) (fun k => D.2.1.2 k 1) (nCo D.2.1.1.2.1 D.2.1.2 D.2.2.1.1) (D.1.2.1 g 0) (D.1.2.1 g 1) (gw D g s) ∧ ∃ f g', h' = mSc h f g' (nI ((gw D g s).getD []).length) (nI (mSum D.2.1.2 D.2.2.1.1 ((gw D g s).getD []))) ∧ ∀ i, i < ((gw D g s).getD []).length → g' i = nI (((gw D g s).getD []).getD i 0)
theorem c_gw {l : Launch} (hT : zTM t) (hD : sdOk D p) (hm : mNet h D.1.1.1 D.2.1.1.1 D.2.1.1.2.1 D.2.1.2 D.2.2.1.1) (g s : Nat) (hg : g < D.1.1.2.1) (hs : s < 2 ^ 31) : zMet E b l yX11_findWay cX11_findWay 9 (some .boolean) 2 0 0 [.ref (b + 157), .int (nI (D.1.2.1 g 0)), .int (nI (D.1.2.1 g 1)), .int (nI s)] t h (qI (mGwPost h t D g s)) :=
  c_findWay hT hD.1.1 hm _ _ s (hD.1.2.1.2.2.2.2.1 g hg).1 (hD.1.2.1.2.2.2.2.1 g hg).2.1 hs
theorem c_by1 {l : Launch} (hT : zTM t) (hD : sdOk D p) (hm : mSd h D p) (g s : Nat) (hg : g < D.1.1.2.1) (hs : s < 2 ^ D.2.1.1.1) (i : Nat) (hi : i < ((gw D g s).getD []).length) : zMet E b l yX11_by cX11_by 4 (some .int) 4 0 0 [.ref (b + 157), .int (nI g), .int (nI s), .int (nI i)] t h (qI (fun v t' h' => v = nI (((gw D g s).getD []).getD i 0) ∧ mCall h t D p 0 t' h')) := by
  have hm0 := hm.th hD 0
  have t3 := hm0.1.2.1
  have t1 := hm0.2.2.1
  have hng := hD.1.2.1.2.2.1
  have hn := hD.1.1.2.2.1
  have hp : 2 ^ D.2.1.1.1 ≤ 2 ^ 11 := Nat.pow_le_pow_right (by decide) hn
  have hgg := hD.1.2.1.2.2.2.2.1 g hg
  have hsome : (gw D g s).isSome = true := by
    cases ho : gw D g s with
    | none => rw [ho] at hi; exact absurd hi (Nat.not_lt_zero i)
    | some l => rfl
  refine zMet.of (ls := [some (.ref (b + 157)), some (.int (nI g)), some (.int (nI s)), some (.int (nI i))]) (by decide) (zle rfl) 0 rfl ?_
  intro G hlG C hR hE hin
  refine zz_aload_0 C dX11_by_0 <| zz_iconst_0 C dX11_by_1 <| zy_putI C fX11_104 pX11_0 (tM_K hT) dX11_by_2 <| zz_aload_0 C dX11_by_5 <| zz_aload_0 C dX11_by_6 <| zz_iload_1 C dX11_by_7 <| zpc 8 rfl <| ?_
  refine zf_callVI C hR [_] (c_isGoing hT _) lX11_200 rfl (tM_K hT) (by decide) rfl ⟨zle rfl, zle rfl, zle rfl, zle rfl⟩ (zle rfl) dX11_by_8 ?_
  refine zz_if_ne C 18 dX11_by_11 (by decide) (fun c11 => ?_) (fun c11 => ?_)
  · refine zz_iconst_0 C dX11_by_18 <| zz_iconst_1 C dX11_by_19 <| zpc 20 rfl <| ?_
    refine zf_callVI C hR [_, _] (c_bad0 hT _ (by decide) (by first | exact zI_self _ _ _ _ | assumption)) lX11_181 rfl (tM_K hT) (by decide) rfl ⟨zle rfl, zle rfl, zle rfl, zle rfl⟩ (zle rfl) dX11_by_20 ?_
    refine zz_if_ne C 47 dX11_by_23 (by decide) (fun c23 => ?_) (fun c23 => ?_)
    · exact absurd rfl c23
    · refine zz_aload_0 C dX11_by_26 <| zz_aload_0 C dX11_by_27 <| zz_iload_2 C dX11_by_28 <| zpc 29 rfl <| ?_
      refine zf_callVI C hR [_] (c_areRoads hT _) lX11_252 rfl (tM_K hT) (by decide) rfl ⟨zle rfl, zle rfl, zle rfl, zle rfl⟩ (zle rfl) dX11_by_29 ?_
      refine zz_if_ne C 39 dX11_by_32 (by decide) (fun c32 => ?_) (fun c32 => ?_)
      · refine zz_iconst_0 C dX11_by_39 <| zz_iconst_2 C dX11_by_40 <| zpc 41 rfl <| ?_
        refine zf_callVI C hR [_, _] (c_bad0 hT _ (by decide) (by first | exact zI_self _ _ _ _ | assumption)) lX11_181 rfl (tM_K hT) (by decide) rfl ⟨zle rfl, zle rfl, zle rfl, zle rfl⟩ (zle rfl) dX11_by_41 ?_
        refine zz_if_eq C 49 dX11_by_44 (by decide) (fun c44 => ?_) (fun c44 => ?_)
        · refine zz_aload_0 C dX11_by_49 <| zpc 50 rfl <| ?_
          refine zy_callVV C hR [] (c_lays hT hD hm0) lX11_255 rfl (tM_K hT) (by decide) rfl ⟨zle rfl, zle rfl, zle rfl, zle rfl⟩ (zle rfl) dX11_by_50 ?_
          intro t' h' hv; obtain ⟨rfl, a1, hw⟩ := hv
          refine zz_aload_0 C dX11_by_53 <| zz_aload_0 C dX11_by_54 <| zz_getR C fX11_46 (tM_K hT) (tM_R_going hT) dX11_by_55 <| zz_iload_1 C dX11_by_58 <| zc_row C _ (tM_K_going hT) (tM_row_going hT) (znI (by omega)) (by omega) dX11_by_59 <| fun r59 => ?_
          refine zz_iconst_0 C dX11_by_60 <| zc_iaload C 0 (tM_KR_going hT _ r59) (zlit _ (by decide)) (by decide) dX11_by_61 <| zpc 62 rfl <| ?_
          rw [hw.1.2.1.2.2.2.1 g hg 0 (by omega)]
          refine zz_aload_0 C dX11_by_62 <| zz_getR C fX11_46 (tM_K hT) (tM_R_going hT) dX11_by_63 <| zz_iload_1 C dX11_by_66 <| zc_row C _ (tM_K_going hT) (tM_row_going hT) (znI (by omega)) (by omega) dX11_by_67 <| fun r67 => ?_
          refine zz_iconst_1 C dX11_by_68 <| zc_iaload C 1 (tM_KR_going hT _ r67) (zlit _ (by decide)) (by decide) dX11_by_69 <| zpc 70 rfl <| ?_
          rw [hw.1.2.1.2.2.2.1 g hg 1 (by omega)]
          refine zz_iload_2 C dX11_by_70 <| zpc 71 rfl <| ?_
          refine zy_callVI C hR [_, _, _] (c_gw hT hD hw.1.1 g s hg (by omega)) lX11_258 rfl (tM_K hT) (by decide) rfl ⟨zle rfl, zle rfl, zle rfl, zle rfl⟩ (zle rfl) dX11_by_71 ?_
          intro v t' h' hv; obtain ⟨rfl, rfl, hlen, -, f2, g2, rfl, hg2⟩ := hv; have hL : zI (mSc h' f2 g2 (nI ((gw D g s).getD []).length) (nI (mSum D.2.1.2 D.2.2.1.1 ((gw D g s).getD [])))) 157 50 = nI ((gw D g s).getD []).length := (by rw [zI_mSc]; simp); have hP : zI (mSc h' f2 g2 (nI ((gw D g s).getD []).length) (nI (mSum D.2.1.2 D.2.2.1.1 ((gw D g s).getD [])))) 237 i = nI (((gw D g s).getD []).getD i 0) := (by rw [zI_mSc]; simpa using hg2 i hi); have hl11 : ((gw D g s).getD []).length ≤ 11 := hlen.2
          refine zz_if_eq C 100 dX11_by_74 (by decide) (fun c74 => ?_) (fun c74 => ?_)
          · rw [zb_eq0] at c74; exact absurd hsome c74
          · refine zz_iload_3 C dX11_by_77 <| zz_iconst_0 C dX11_by_78 <| zz_aload_0 C dX11_by_79 <| zz_getI C fX11_217 (tM_K hT) dX11_by_80 <| zz_iconst_1 C dX11_by_83 <| zz_isub C dX11_by_84 <| zpc 85 rfl <| ?_
            refine zf_callSI C hR [_, _, _] (c_in _ _ _) lX11_138 rfl ⟨zle rfl, zle rfl, zle rfl, zle rfl⟩ (zle rfl) dX11_by_85 ?_
            refine zz_if_eq C 100 dX11_by_88 (by decide) (fun c88 => ?_) (fun c88 => ?_)
            · rw [zb_eq0] at c88; exact absurd (by rw [hL]; exact (idxOk (by omega)).mpr ⟨i, hi, rfl⟩) c88
            · refine zz_aload_0 C dX11_by_91 <| zz_getR C fX11_85 (tM_K hT) (tM_R_path hT) dX11_by_92 <| zz_iload_3 C dX11_by_95 <| zc_iaload C _ (tM_K_path hT) (znI (by omega)) (by omega) dX11_by_96 <| zz_goto C 101 dX11_by_97 (by decide) <| zpc 101 rfl <| ?_
              refine zy_ireturn C hE (zle rfl) (zle rfl) dX11_by_101 ?_
              exact ⟨hP, rfl, (zAg4.th h 0).tr (.of3 (a1.tr (zAg3.sc _ _ _ _ _))), (a1.tr (zAg3.sc _ _ _ _ _)).th (zI_self _ _ _ _), (a1.tr (zAg3.sc _ _ _ _ _)).sd hD hm0⟩
        · exact absurd rfl c44
      · rw [zb_eq0, t1, setOk hn] at c32; exact absurd ⟨s, hs, rfl⟩ c32
  · rw [zb_eq0, t3, idxOk hng] at c11; exact absurd ⟨g, hg, rfl⟩ c11
theorem c_by3 {l : Launch} (hT : zTM t) (hD : sdOk D p) (hm : mSd h D p) (g s : Nat) (hg : g < D.1.1.2.1) (hs : s < 2 ^ D.2.1.1.1) (i : Int32) (hi : ¬ ∃ k, k < ((gw D g s).getD []).length ∧ i = nI k) : zMet E b l yX11_by cX11_by 4 (some .int) 4 0 0 [.ref (b + 157), .int (nI g), .int (nI s), .int i] t h (qI (fun v t' h' => v = -1 ∧ mCall h t D p 0 t' h')) := by
  have hm0 := hm.th hD 0
  have t3 := hm0.1.2.1
  have t1 := hm0.2.2.1
  have hng := hD.1.2.1.2.2.1
  have hn := hD.1.1.2.2.1
  have hp : 2 ^ D.2.1.1.1 ≤ 2 ^ 11 := Nat.pow_le_pow_right (by decide) hn
  have hgg := hD.1.2.1.2.2.2.2.1 g hg
  refine zMet.of (ls := [some (.ref (b + 157)), some (.int (nI g)), some (.int (nI s)), some (.int i)]) (by decide) (zle rfl) 0 rfl ?_
  intro G hlG C hR hE hin
  refine zz_aload_0 C dX11_by_0 <| zz_iconst_0 C dX11_by_1 <| zy_putI C fX11_104 pX11_0 (tM_K hT) dX11_by_2 <| zz_aload_0 C dX11_by_5 <| zz_aload_0 C dX11_by_6 <| zz_iload_1 C dX11_by_7 <| zpc 8 rfl <| ?_
  refine zf_callVI C hR [_] (c_isGoing hT _) lX11_200 rfl (tM_K hT) (by decide) rfl ⟨zle rfl, zle rfl, zle rfl, zle rfl⟩ (zle rfl) dX11_by_8 ?_
  refine zz_if_ne C 18 dX11_by_11 (by decide) (fun c11 => ?_) (fun c11 => ?_)
  · refine zz_iconst_0 C dX11_by_18 <| zz_iconst_1 C dX11_by_19 <| zpc 20 rfl <| ?_
    refine zf_callVI C hR [_, _] (c_bad0 hT _ (by decide) (by first | exact zI_self _ _ _ _ | assumption)) lX11_181 rfl (tM_K hT) (by decide) rfl ⟨zle rfl, zle rfl, zle rfl, zle rfl⟩ (zle rfl) dX11_by_20 ?_
    refine zz_if_ne C 47 dX11_by_23 (by decide) (fun c23 => ?_) (fun c23 => ?_)
    · exact absurd rfl c23
    · refine zz_aload_0 C dX11_by_26 <| zz_aload_0 C dX11_by_27 <| zz_iload_2 C dX11_by_28 <| zpc 29 rfl <| ?_
      refine zf_callVI C hR [_] (c_areRoads hT _) lX11_252 rfl (tM_K hT) (by decide) rfl ⟨zle rfl, zle rfl, zle rfl, zle rfl⟩ (zle rfl) dX11_by_29 ?_
      refine zz_if_ne C 39 dX11_by_32 (by decide) (fun c32 => ?_) (fun c32 => ?_)
      · refine zz_iconst_0 C dX11_by_39 <| zz_iconst_2 C dX11_by_40 <| zpc 41 rfl <| ?_
        refine zf_callVI C hR [_, _] (c_bad0 hT _ (by decide) (by first | exact zI_self _ _ _ _ | assumption)) lX11_181 rfl (tM_K hT) (by decide) rfl ⟨zle rfl, zle rfl, zle rfl, zle rfl⟩ (zle rfl) dX11_by_41 ?_
        refine zz_if_eq C 49 dX11_by_44 (by decide) (fun c44 => ?_) (fun c44 => ?_)
        · refine zz_aload_0 C dX11_by_49 <| zpc 50 rfl <| ?_
          refine zy_callVV C hR [] (c_lays hT hD hm0) lX11_255 rfl (tM_K hT) (by decide) rfl ⟨zle rfl, zle rfl, zle rfl, zle rfl⟩ (zle rfl) dX11_by_50 ?_
          intro t' h' hv; obtain ⟨rfl, a1, hw⟩ := hv
          refine zz_aload_0 C dX11_by_53 <| zz_aload_0 C dX11_by_54 <| zz_getR C fX11_46 (tM_K hT) (tM_R_going hT) dX11_by_55 <| zz_iload_1 C dX11_by_58 <| zc_row C _ (tM_K_going hT) (tM_row_going hT) (znI (by omega)) (by omega) dX11_by_59 <| fun r59 => ?_
          refine zz_iconst_0 C dX11_by_60 <| zc_iaload C 0 (tM_KR_going hT _ r59) (zlit _ (by decide)) (by decide) dX11_by_61 <| zpc 62 rfl <| ?_
          rw [hw.1.2.1.2.2.2.1 g hg 0 (by omega)]
          refine zz_aload_0 C dX11_by_62 <| zz_getR C fX11_46 (tM_K hT) (tM_R_going hT) dX11_by_63 <| zz_iload_1 C dX11_by_66 <| zc_row C _ (tM_K_going hT) (tM_row_going hT) (znI (by omega)) (by omega) dX11_by_67 <| fun r67 => ?_
          refine zz_iconst_1 C dX11_by_68 <| zc_iaload C 1 (tM_KR_going hT _ r67) (zlit _ (by decide)) (by decide) dX11_by_69 <| zpc 70 rfl <| ?_
          rw [hw.1.2.1.2.2.2.1 g hg 1 (by omega)]
          refine zz_iload_2 C dX11_by_70 <| zpc 71 rfl <| ?_
          refine zy_callVI C hR [_, _, _] (c_gw hT hD hw.1.1 g s hg (by omega)) lX11_258 rfl (tM_K hT) (by decide) rfl ⟨zle rfl, zle rfl, zle rfl, zle rfl⟩ (zle rfl) dX11_by_71 ?_
          intro v t' h' hv; obtain ⟨rfl, rfl, hlen, -, f2, g2, rfl, hg2⟩ := hv; have hL : zI (mSc h' f2 g2 (nI ((gw D g s).getD []).length) (nI (mSum D.2.1.2 D.2.2.1.1 ((gw D g s).getD [])))) 157 50 = nI ((gw D g s).getD []).length := (by rw [zI_mSc]; simp); have hl11 : ((gw D g s).getD []).length ≤ 11 := hlen.2
          refine zz_if_eq C 100 dX11_by_74 (by decide) (fun c74 => ?_) (fun c74 => ?_)
          · refine zz_iconst_m1 C dX11_by_100 <| zpc 101 rfl <| ?_
            refine zy_ireturn C hE (zle rfl) (zle rfl) dX11_by_101 ?_
            exact ⟨rfl, rfl, (zAg4.th h 0).tr (.of3 (a1.tr (zAg3.sc _ _ _ _ _))), (a1.tr (zAg3.sc _ _ _ _ _)).th (zI_self _ _ _ _), (a1.tr (zAg3.sc _ _ _ _ _)).sd hD hm0⟩
          · refine zz_iload_3 C dX11_by_77 <| zz_iconst_0 C dX11_by_78 <| zz_aload_0 C dX11_by_79 <| zz_getI C fX11_217 (tM_K hT) dX11_by_80 <| zz_iconst_1 C dX11_by_83 <| zz_isub C dX11_by_84 <| zpc 85 rfl <| ?_
            refine zf_callSI C hR [_, _, _] (c_in _ _ _) lX11_138 rfl ⟨zle rfl, zle rfl, zle rfl, zle rfl⟩ (zle rfl) dX11_by_85 ?_
            refine zz_if_eq C 100 dX11_by_88 (by decide) (fun c88 => ?_) (fun c88 => ?_)
            · refine zz_iconst_m1 C dX11_by_100 <| zpc 101 rfl <| ?_
              refine zy_ireturn C hE (zle rfl) (zle rfl) dX11_by_101 ?_
              exact ⟨rfl, rfl, (zAg4.th h 0).tr (.of3 (a1.tr (zAg3.sc _ _ _ _ _))), (a1.tr (zAg3.sc _ _ _ _ _)).th (zI_self _ _ _ _), (a1.tr (zAg3.sc _ _ _ _ _)).sd hD hm0⟩
            · rw [zb_ne0] at c88; exact absurd ((idxOk (by omega)).mp (by rw [hL] at c88; exact c88)) hi
        · exact absurd rfl c44
      · rw [zb_eq0, t1, setOk hn] at c32; exact absurd ⟨s, hs, rfl⟩ c32
  · rw [zb_eq0, t3, idxOk hng] at c11; exact absurd ⟨g, hg, rfl⟩ c11
end MBY
