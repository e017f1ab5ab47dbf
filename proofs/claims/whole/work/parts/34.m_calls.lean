/-! ===== the reference: shuts, day, run, row, clear, minutes ===== -/
def mCall (h : zH) (t : zT) (D' : yD) (p : yP) (e : Int32) (t' : zT) (h' : zH) : Prop := t' = t ∧ zAg4 h h' ∧ zI h' 157 0 = e ∧ mSd h' D' p
theorem setOk {s : Int32} {n : Nat} (hn : n ≤ 11) : (0 ≤ s ∧ s ≤ 1 <<< (nI n &&& 31) - 1) ↔ ∃ k, k < 2 ^ n ∧ s = nI k := by
  have hp : 2 ^ n ≤ 2 ^ 11 := Nat.pow_le_pow_right (by decide) hn
  have hp1 : 1 ≤ 2 ^ n := Nat.one_le_two_pow
  rw [zshl1 (by omega), show (1 : Int32) = nI 1 from rfl, pk_sub hp1]
  constructor
  · intro q
    obtain ⟨j, hj, e⟩ := nI_of2 (x := s) (n := 2 ^ n - 1) (nI_toInt (by omega)) (Int32.not_lt.mpr q.1) q.2
    exact ⟨j, by omega, e⟩
  · rintro ⟨k, hk, rfl⟩
    exact ⟨nI_pos' (by omega), nI_le (by omega) (by omega)⟩
section MCL
variable {E : zE} {b : Nat} {G : zG} {t : zT} {h : zH} {D : yD} {p : yP} {R : Nat × (Nat → Nat)}
theorem c_shuts1 {l : Launch} (hT : zTM t) (hD : sdOk D p) (hm : mSd h D p) (hRo : roOk R) (hro : mRo h R) (k : Nat) (hk : k = 0 ∨ k = 2 ∨ k = 3) : zMet E b l yX11_shuts cX11_shuts 2 (some .int) 5 0 0 [.ref (b + 157), .int (nI k)] t h (qI (fun v t' h' => v = nI (rShut D.1 D.2.1 p R (x0 D (zI h 157 41)) k) ∧ mCall h t D p 0 t' h')) := by
  have hm0 := hm.th hD 0
  have hro0 := mRo.ag4 (zAg4.th h 0) hro
  refine zMet.of (ls := [some (.ref (b + 157)), some (.int (nI k))]) (by decide) (zle rfl) 0 rfl ?_
  intro G hlG C hR hE hin
  refine zz_aload_0 C dX11_shuts_0 <| zz_iconst_0 C dX11_shuts_1 <| zy_putI C fX11_104 pX11_0 (tM_K hT) dX11_shuts_2 <| zz_aload_0 C dX11_shuts_5 <| zz_iload_1 C dX11_shuts_6 <| zpc 7 rfl <| ?_
  refine zz_if_eq C 24 dX11_shuts_7 (by decide) (fun c7 => ?_) (fun c7 => ?_)
  · refine zz_iconst_0 C dX11_shuts_24 <| zz_iconst_1 C dX11_shuts_25 <| zpc 26 rfl <| ?_
    refine zf_callVI C hR [_, _] (c_bad0 hT _ (by decide) (by first | exact zI_self _ _ _ _ | assumption)) lX11_181 rfl (tM_K hT) (by decide) rfl ⟨zle rfl, zle rfl, zle rfl, zle rfl⟩ (zle rfl) dX11_shuts_26 ?_
    refine zz_if_eq C 34 dX11_shuts_29 (by decide) (fun c29 => ?_) (fun c29 => ?_)
    · refine zz_aload_0 C dX11_shuts_34 <| zpc 35 rfl <| ?_
      refine zy_callVV C hR [] (c_lays hT hD hm0) lX11_255 rfl (tM_K hT) (by decide) rfl ⟨zle rfl, zle rfl, zle rfl, zle rfl⟩ (zle rfl) dX11_shuts_35 ?_
      intro t' h' hv; obtain ⟨rfl, a1, hw⟩ := hv
      refine zz_aload_0 C dX11_shuts_38 <| zz_iload_1 C dX11_shuts_39 <| zpc 40 rfl <| ?_
      refine zy_callVI C hR [_] (c_shutBy hT (hD.w _) hw hRo (hro0.ag3 a1) k (by omega) (by omega)) lX11_290 rfl (tM_K hT) (by decide) rfl ⟨zle rfl, zle rfl, zle rfl, zle rfl⟩ (zle rfl) dX11_shuts_40 ?_
      intro v t' h' hv; obtain ⟨rfl, rfl, f2, g2, a2, c2, rfl⟩ := hv
      refine zy_ireturn C hE (zle rfl) (zle rfl) dX11_shuts_43 ?_
      have a3 := a1.tr (zAg3.sc _ f2 g2 a2 c2)
      refine ⟨?_, rfl, (zAg4.th h 0).tr (.of3 a3), a3.th (zI_self _ _ _ _), a3.sd hD hm0⟩
      rw [zI_sI, if_neg (by omega)]
    · exact absurd rfl c29
  · refine zz_iload_1 C dX11_shuts_10 <| zz_iconst_2 C dX11_shuts_11 <| zpc 12 rfl <| ?_
    refine zz_icmp_eq C 24 dX11_shuts_12 (by decide) (fun c12 => ?_) (fun c12 => ?_)
    · refine zz_iconst_0 C dX11_shuts_24 <| zz_iconst_1 C dX11_shuts_25 <| zpc 26 rfl <| ?_
      refine zf_callVI C hR [_, _] (c_bad0 hT _ (by decide) (by first | exact zI_self _ _ _ _ | assumption)) lX11_181 rfl (tM_K hT) (by decide) rfl ⟨zle rfl, zle rfl, zle rfl, zle rfl⟩ (zle rfl) dX11_shuts_26 ?_
      refine zz_if_eq C 34 dX11_shuts_29 (by decide) (fun c29 => ?_) (fun c29 => ?_)
      · refine zz_aload_0 C dX11_shuts_34 <| zpc 35 rfl <| ?_
        refine zy_callVV C hR [] (c_lays hT hD hm0) lX11_255 rfl (tM_K hT) (by decide) rfl ⟨zle rfl, zle rfl, zle rfl, zle rfl⟩ (zle rfl) dX11_shuts_35 ?_
        intro t' h' hv; obtain ⟨rfl, a1, hw⟩ := hv
        refine zz_aload_0 C dX11_shuts_38 <| zz_iload_1 C dX11_shuts_39 <| zpc 40 rfl <| ?_
        refine zy_callVI C hR [_] (c_shutBy hT (hD.w _) hw hRo (hro0.ag3 a1) k (by omega) (by omega)) lX11_290 rfl (tM_K hT) (by decide) rfl ⟨zle rfl, zle rfl, zle rfl, zle rfl⟩ (zle rfl) dX11_shuts_40 ?_
        intro v t' h' hv; obtain ⟨rfl, rfl, f2, g2, a2, c2, rfl⟩ := hv
        refine zy_ireturn C hE (zle rfl) (zle rfl) dX11_shuts_43 ?_
        have a3 := a1.tr (zAg3.sc _ f2 g2 a2 c2)
        refine ⟨?_, rfl, (zAg4.th h 0).tr (.of3 a3), a3.th (zI_self _ _ _ _), a3.sd hD hm0⟩
        rw [zI_sI, if_neg (by omega)]
      · exact absurd rfl c29
    · refine zz_iload_1 C dX11_shuts_15 <| zz_iconst_3 C dX11_shuts_16 <| zpc 17 rfl <| ?_
      refine zz_icmp_eq C 24 dX11_shuts_17 (by decide) (fun c17 => ?_) (fun c17 => ?_)
      · refine zz_iconst_0 C dX11_shuts_24 <| zz_iconst_1 C dX11_shuts_25 <| zpc 26 rfl <| ?_
        refine zf_callVI C hR [_, _] (c_bad0 hT _ (by decide) (by first | exact zI_self _ _ _ _ | assumption)) lX11_181 rfl (tM_K hT) (by decide) rfl ⟨zle rfl, zle rfl, zle rfl, zle rfl⟩ (zle rfl) dX11_shuts_26 ?_
        refine zz_if_eq C 34 dX11_shuts_29 (by decide) (fun c29 => ?_) (fun c29 => ?_)
        · refine zz_aload_0 C dX11_shuts_34 <| zpc 35 rfl <| ?_
          refine zy_callVV C hR [] (c_lays hT hD hm0) lX11_255 rfl (tM_K hT) (by decide) rfl ⟨zle rfl, zle rfl, zle rfl, zle rfl⟩ (zle rfl) dX11_shuts_35 ?_
          intro t' h' hv; obtain ⟨rfl, a1, hw⟩ := hv
          refine zz_aload_0 C dX11_shuts_38 <| zz_iload_1 C dX11_shuts_39 <| zpc 40 rfl <| ?_
          refine zy_callVI C hR [_] (c_shutBy hT (hD.w _) hw hRo (hro0.ag3 a1) k (by omega) (by omega)) lX11_290 rfl (tM_K hT) (by decide) rfl ⟨zle rfl, zle rfl, zle rfl, zle rfl⟩ (zle rfl) dX11_shuts_40 ?_
          intro v t' h' hv; obtain ⟨rfl, rfl, f2, g2, a2, c2, rfl⟩ := hv
          refine zy_ireturn C hE (zle rfl) (zle rfl) dX11_shuts_43 ?_
          have a3 := a1.tr (zAg3.sc _ f2 g2 a2 c2)
          refine ⟨?_, rfl, (zAg4.th h 0).tr (.of3 a3), a3.th (zI_self _ _ _ _), a3.sd hD hm0⟩
          rw [zI_sI, if_neg (by omega)]
        · exact absurd rfl c29
      · exact absurd (by rcases hk with e | e | e <;> rw [e]; exact absurd rfl (by rw [e] at c7; exact c7); exact absurd rfl (by rw [e] at c12; exact c12); rfl) c17
theorem c_shuts0 {l : Launch} (hT : zTM t) (hD : sdOk D p) (hm : mSd h D p) (s : Int32) (hs : ¬ (s = 0 ∨ s = 2 ∨ s = 3)) : zMet E b l yX11_shuts cX11_shuts 2 (some .int) 5 0 0 [.ref (b + 157), .int s] t h (qI (fun v t' h' => v = 0 ∧ mCall h t D p 1 t' h')) := by
  refine zMet.of (ls := [some (.ref (b + 157)), some (.int s)]) (by decide) (zle rfl) 0 rfl ?_
  intro G hlG C hR hE hin
  refine zz_aload_0 C dX11_shuts_0 <| zz_iconst_0 C dX11_shuts_1 <| zy_putI C fX11_104 pX11_0 (tM_K hT) dX11_shuts_2 <| zz_aload_0 C dX11_shuts_5 <| zz_iload_1 C dX11_shuts_6 <| zpc 7 rfl <| ?_
  refine zz_if_eq C 24 dX11_shuts_7 (by decide) (fun c7 => ?_) (fun c7 => ?_)
  · exact absurd (Or.inl c7) hs
  · refine zz_iload_1 C dX11_shuts_10 <| zz_iconst_2 C dX11_shuts_11 <| zpc 12 rfl <| ?_
    refine zz_icmp_eq C 24 dX11_shuts_12 (by decide) (fun c12 => ?_) (fun c12 => ?_)
    · exact absurd (Or.inr (Or.inl c12)) hs
    · refine zz_iload_1 C dX11_shuts_15 <| zz_iconst_3 C dX11_shuts_16 <| zpc 17 rfl <| ?_
      refine zz_icmp_eq C 24 dX11_shuts_17 (by decide) (fun c17 => ?_) (fun c17 => ?_)
      · exact absurd (Or.inr (Or.inr c17)) hs
      · refine zz_iconst_1 C dX11_shuts_20 <| zz_goto C 25 dX11_shuts_21 (by decide) <| zz_iconst_1 C dX11_shuts_25 <| zpc 26 rfl <| ?_
        refine zf_callVI C hR [_, _] (c_bad1 hT _ (by decide) (by first | exact zI_self _ _ _ _ | assumption)) lX11_181 rfl (tM_K hT) (by decide) rfl ⟨zle rfl, zle rfl, zle rfl, zle rfl⟩ (zle rfl) dX11_shuts_26 ?_
        refine zz_if_eq C 34 dX11_shuts_29 (by decide) (fun c29 => ?_) (fun c29 => ?_)
        · exact absurd c29 (by decide)
        · refine zz_iconst_0 C dX11_shuts_32 <| zpc 33 rfl <| ?_
          refine zy_ireturn C hE (zle rfl) (zle rfl) dX11_shuts_33 ?_
          exact ⟨rfl, rfl, (zAg4.th h 0).tr (zAg4.th _ 1), zI_self _ _ _ _, (hm.th hD 0).th hD 1⟩
theorem c_day1 {l : Launch} (hT : zTM t) (hD : sdOk D p) (hm : mSd h D p) (s : Nat) (hs : s < 2 ^ D.2.1.1.1) (hd : D.2.2.2 + 1 < 2 ^ 20) : zMet E b l yX11_day cX11_day 2 (some .int) 5 0 0 [.ref (b + 157), .int (nI s)] t h (qI (fun v t' h' => v = nI (dDay D.1 D.2.1 p s (x0 D (zI h 157 41))).2.2.2.1.1 ∧ mCall h t (D.1, D.2.1, (dDay D.1 D.2.1 p s (x0 D (zI h 157 41))).1, D.2.2.2 + 1) p 0 t' h')) := by
  have hm0 := hm.th hD 0
  have hn := hD.1.1.2.2.1
  have hp : 2 ^ D.2.1.1.1 ≤ 2 ^ 11 := Nat.pow_le_pow_right (by decide) hn
  have t1 := hm0.2.2.1
  refine zMet.of (ls := [some (.ref (b + 157)), some (.int (nI s))]) (by decide) (zle rfl) 0 rfl ?_
  intro G hlG C hR hE hin
  refine zz_aload_0 C dX11_day_0 <| zz_iconst_0 C dX11_day_1 <| zy_putI C fX11_104 pX11_0 (tM_K hT) dX11_day_2 <| zz_aload_0 C dX11_day_5 <| zz_aload_0 C dX11_day_6 <| zz_iload_1 C dX11_day_7 <| zpc 8 rfl <| ?_
  refine zf_callVI C hR [_] (c_areRoads hT _) lX11_252 rfl (tM_K hT) (by decide) rfl ⟨zle rfl, zle rfl, zle rfl, zle rfl⟩ (zle rfl) dX11_day_8 ?_
  refine zz_if_ne C 18 dX11_day_11 (by decide) (fun c11 => ?_) (fun c11 => ?_)
  · refine zz_iconst_0 C dX11_day_18 <| zz_iconst_1 C dX11_day_19 <| zpc 20 rfl <| ?_
    refine zf_callVI C hR [_, _] (c_bad0 hT _ (by decide) (by first | exact zI_self _ _ _ _ | assumption)) lX11_181 rfl (tM_K hT) (by decide) rfl ⟨zle rfl, zle rfl, zle rfl, zle rfl⟩ (zle rfl) dX11_day_20 ?_
    refine zz_if_eq C 28 dX11_day_23 (by decide) (fun c23 => ?_) (fun c23 => ?_)
    · refine zz_aload_0 C dX11_day_28 <| zpc 29 rfl <| ?_
      refine zy_callVV C hR [] (c_lays hT hD hm0) lX11_255 rfl (tM_K hT) (by decide) rfl ⟨zle rfl, zle rfl, zle rfl, zle rfl⟩ (zle rfl) dX11_day_29 ?_
      intro t' h' hv; obtain ⟨rfl, a1, hw⟩ := hv
      refine zz_aload_0 C dX11_day_32 <| zz_iload_1 C dX11_day_33 <| zpc 34 rfl <| ?_
      refine zy_callVV C hR [_] (c_goesBy hT (hD.w _) hw s (by omega) hd) lX11_293 rfl (tM_K hT) (by decide) rfl ⟨zle rfl, zle rfl, zle rfl, zle rfl⟩ (zle rfl) dX11_day_34 ?_
      intro t' h' hv; obtain ⟨rfl, a2, hw2, -⟩ := hv
      refine zz_aload_0 C dX11_day_37 <| zpc 38 rfl <| ?_
      refine zy_callVV C hR [] (c_stands hT hD hm0 (a1.tr (.of2 a2)) hw2) lX11_296 rfl (tM_K hT) (by decide) rfl ⟨zle rfl, zle rfl, zle rfl, zle rfl⟩ (zle rfl) dX11_day_38 ?_
      intro t' h' hv; obtain ⟨rfl, a3, hth, hl, hsd⟩ := hv
      refine zz_aload_0 C dX11_day_41 <| zz_getL C fX11_239 (tM_K hT) dX11_day_42 <| zpc 45 rfl <| ?_
      rw [hl, hw2.2.2.2.2.1]
      refine zz_l2i C dX11_day_45 <| zpc 46 rfl <| ?_
      refine zy_ireturn C hE (zle rfl) (zle rfl) dX11_day_46 ?_
      have a4 := a1.tr (.of2 a2)
      have e1 : zI (zsI h 157 0 0) 157 41 = zI h 157 41 := by rw [zI_sI, if_neg (by omega)]
      rw [e1] at hsd
      refine ⟨?_, rfl, (zAg4.th h 0).tr ((zAg4.of3 a4).tr a3), hth.trans (a4.th (zI_self _ _ _ _)), hsd⟩
      rw [e1]
      exact lN_i _
    · exact absurd rfl c23
  · rw [zb_eq0, t1, setOk hn] at c11; exact absurd ⟨s, hs, rfl⟩ c11
theorem c_day0 {l : Launch} (hT : zTM t) (hD : sdOk D p) (hm : mSd h D p) (s : Int32) (hs : ¬ ∃ k, k < 2 ^ D.2.1.1.1 ∧ s = nI k) : zMet E b l yX11_day cX11_day 2 (some .int) 5 0 0 [.ref (b + 157), .int s] t h (qI (fun v t' h' => v = 0 ∧ mCall h t D p 1 t' h')) := by
  have hm0 := hm.th hD 0
  have hn := hD.1.1.2.2.1
  have t1 := hm0.2.2.1
  refine zMet.of (ls := [some (.ref (b + 157)), some (.int s)]) (by decide) (zle rfl) 0 rfl ?_
  intro G hlG C hR hE hin
  refine zz_aload_0 C dX11_day_0 <| zz_iconst_0 C dX11_day_1 <| zy_putI C fX11_104 pX11_0 (tM_K hT) dX11_day_2 <| zz_aload_0 C dX11_day_5 <| zz_aload_0 C dX11_day_6 <| zz_iload_1 C dX11_day_7 <| zpc 8 rfl <| ?_
  refine zf_callVI C hR [_] (c_areRoads hT _) lX11_252 rfl (tM_K hT) (by decide) rfl ⟨zle rfl, zle rfl, zle rfl, zle rfl⟩ (zle rfl) dX11_day_8 ?_
  refine zz_if_ne C 18 dX11_day_11 (by decide) (fun c11 => ?_) (fun c11 => ?_)
  · rw [zb_ne0, t1, setOk hn] at c11; exact absurd c11 hs
  · refine zz_iconst_1 C dX11_day_14 <| zz_goto C 19 dX11_day_15 (by decide) <| zz_iconst_1 C dX11_day_19 <| zpc 20 rfl <| ?_
    refine zf_callVI C hR [_, _] (c_bad1 hT _ (by decide) (by first | exact zI_self _ _ _ _ | assumption)) lX11_181 rfl (tM_K hT) (by decide) rfl ⟨zle rfl, zle rfl, zle rfl, zle rfl⟩ (zle rfl) dX11_day_20 ?_
    refine zz_if_eq C 28 dX11_day_23 (by decide) (fun c23 => ?_) (fun c23 => ?_)
    · exact absurd c23 (by decide)
    · refine zz_iconst_0 C dX11_day_26 <| zpc 27 rfl <| ?_
      refine zy_ireturn C hE (zle rfl) (zle rfl) dX11_day_27 ?_
      exact ⟨rfl, rfl, (zAg4.th h 0).tr (zAg4.th _ 1), zI_self _ _ _ _, (hm.th hD 0).th hD 1⟩
theorem c_row1 {l : Launch} (hT : zTM t) (hD : sdOk D p) (hm : mSd h D p) (hRo : roOk R) (hro : mRo h R) (s : Nat) (hs : s < 2 ^ D.2.1.1.1) (hR3 : R.1 < 30) : zMet E b l yX11_row cX11_row 2 (some .int) 3 0 0 [.ref (b + 157), .int (nI s)] t h (qIf (nI (R.1 + 1)) t (zsI (zsI (zsI h 157 0 0) 228 R.1 (nI s)) 157 20 (nI (R.1 + 1)))) := by
  have hm0 := hm.th hD 0
  have hn := hD.1.1.2.2.1
  have t1 := hm0.2.2.1
  have hr0 : zI (zsI h 157 0 0) 157 20 = nI R.1 := by rw [zI_sI, if_neg (by omega)]; exact hro.1
  have hr1 : zI (zsI (zsI h 157 0 0) 228 R.1 (nI s)) 157 20 = nI R.1 := by rw [zI_sI, if_neg (by omega)]; exact hr0
  refine zMet.of (ls := [some (.ref (b + 157)), some (.int (nI s))]) (by decide) (zle rfl) 0 rfl ?_
  intro G hlG C hR hE hin
  refine zz_aload_0 C dX11_row_0 <| zz_iconst_0 C dX11_row_1 <| zy_putI C fX11_104 pX11_0 (tM_K hT) dX11_row_2 <| zz_aload_0 C dX11_row_5 <| zz_aload_0 C dX11_row_6 <| zz_iload_1 C dX11_row_7 <| zpc 8 rfl <| ?_
  refine zf_callVI C hR [_] (c_areRoads hT _) lX11_252 rfl (tM_K hT) (by decide) rfl ⟨zle rfl, zle rfl, zle rfl, zle rfl⟩ (zle rfl) dX11_row_8 ?_
  refine zz_if_ne C 18 dX11_row_11 (by decide) (fun c11 => ?_) (fun c11 => ?_)
  · refine zz_iconst_0 C dX11_row_18 <| zz_iconst_1 C dX11_row_19 <| zpc 20 rfl <| ?_
    refine zf_callVI C hR [_, _] (c_bad0 hT _ (by decide) (by first | exact zI_self _ _ _ _ | assumption)) lX11_181 rfl (tM_K hT) (by decide) rfl ⟨zle rfl, zle rfl, zle rfl, zle rfl⟩ (zle rfl) dX11_row_20 ?_
    refine zz_if_eq C 28 dX11_row_23 (by decide) (fun c23 => ?_) (fun c23 => ?_)
    · refine zz_aload_0 C dX11_row_28 <| zz_getI C fX11_191 (tM_K hT) dX11_row_29 <| zpc 32 rfl <| ?_
      rw [hr0]
      refine zz_bipush C 30 dX11_row_32 (by decide) <| zpc 34 rfl <| ?_
      refine zz_icmp_ne C 39 dX11_row_34 (by decide) (fun c34 => ?_) (fun c34 => ?_)
      · refine zz_aload_0 C dX11_row_39 <| zz_getR C fX11_55 (tM_K hT) (tM_R_row hT) dX11_row_40 <| zz_aload_0 C dX11_row_43 <| zz_getI C fX11_191 (tM_K hT) dX11_row_44 <| zpc 47 rfl <| ?_
        rw [hr0]
        refine zz_iload_1 C dX11_row_47 <| zc_iastore C _ (tM_K_row hT) (znI (by omega)) (by omega) dX11_row_48 <| zz_aload_0 C dX11_row_49 <| zz_dup C dX11_row_50 rfl <| zz_getI C fX11_191 (tM_K hT) dX11_row_51 <| zpc 54 rfl <| ?_
        rw [hr1]
        refine zz_iconst_1 C dX11_row_54 <| zz_iadd C dX11_row_55 <| zpc 56 rfl <| ?_
        rw [show (1 : Int32) = nI 1 from rfl, nI_add]
        refine zy_putI C fX11_191 pX11_20 (tM_K hT) dX11_row_56 <| zz_aload_0 C dX11_row_59 <| zz_getI C fX11_191 (tM_K hT) dX11_row_60 <| zpc 63 rfl <| ?_
        rw [zI_self]
        exact zf_ireturn C hE (zle rfl) (zle rfl) dX11_row_63 rfl rfl rfl
      · exact absurd ((nI_eq (b := 30) (by omega) (by omega)).mp c34) (by omega)
    · exact absurd rfl c23
  · rw [zb_eq0, t1, setOk hn] at c11; exact absurd ⟨s, hs, rfl⟩ c11
theorem c_row2 {l : Launch} (hT : zTM t) (hD : sdOk D p) (hm : mSd h D p) (hro : mRo h R) (s : Nat) (hs : s < 2 ^ D.2.1.1.1) (hR3 : R.1 = 30) : zMet E b l yX11_row cX11_row 2 (some .int) 3 0 0 [.ref (b + 157), .int (nI s)] t h (qIf (-1) t (zsI h 157 0 0)) := by
  have hm0 := hm.th hD 0
  have hn := hD.1.1.2.2.1
  have t1 := hm0.2.2.1
  have hr0 : zI (zsI h 157 0 0) 157 20 = nI R.1 := by rw [zI_sI, if_neg (by omega)]; exact hro.1
  rw [hR3] at hr0
  refine zMet.of (ls := [some (.ref (b + 157)), some (.int (nI s))]) (by decide) (zle rfl) 0 rfl ?_
  intro G hlG C hR hE hin
  refine zz_aload_0 C dX11_row_0 <| zz_iconst_0 C dX11_row_1 <| zy_putI C fX11_104 pX11_0 (tM_K hT) dX11_row_2 <| zz_aload_0 C dX11_row_5 <| zz_aload_0 C dX11_row_6 <| zz_iload_1 C dX11_row_7 <| zpc 8 rfl <| ?_
  refine zf_callVI C hR [_] (c_areRoads hT _) lX11_252 rfl (tM_K hT) (by decide) rfl ⟨zle rfl, zle rfl, zle rfl, zle rfl⟩ (zle rfl) dX11_row_8 ?_
  refine zz_if_ne C 18 dX11_row_11 (by decide) (fun c11 => ?_) (fun c11 => ?_)
  · refine zz_iconst_0 C dX11_row_18 <| zz_iconst_1 C dX11_row_19 <| zpc 20 rfl <| ?_
    refine zf_callVI C hR [_, _] (c_bad0 hT _ (by decide) (by first | exact zI_self _ _ _ _ | assumption)) lX11_181 rfl (tM_K hT) (by decide) rfl ⟨zle rfl, zle rfl, zle rfl, zle rfl⟩ (zle rfl) dX11_row_20 ?_
    refine zz_if_eq C 28 dX11_row_23 (by decide) (fun c23 => ?_) (fun c23 => ?_)
    · refine zz_aload_0 C dX11_row_28 <| zz_getI C fX11_191 (tM_K hT) dX11_row_29 <| zpc 32 rfl <| ?_
      rw [hr0]
      refine zz_bipush C 30 dX11_row_32 (by decide) <| zpc 34 rfl <| ?_
      refine zz_icmp_ne C 39 dX11_row_34 (by decide) (fun c34 => ?_) (fun c34 => ?_)
      · exact absurd rfl c34
      · refine zz_iconst_m1 C dX11_row_37 <| zpc 38 rfl <| ?_
        exact zf_ireturn C hE (zle rfl) (zle rfl) dX11_row_38 rfl rfl rfl
    · exact absurd rfl c23
  · rw [zb_eq0, t1, setOk hn] at c11; exact absurd ⟨s, hs, rfl⟩ c11
theorem c_row0 {l : Launch} (hT : zTM t) (hD : sdOk D p) (hm : mSd h D p) (s : Int32) (hs : ¬ ∃ k, k < 2 ^ D.2.1.1.1 ∧ s = nI k) : zMet E b l yX11_row cX11_row 2 (some .int) 3 0 0 [.ref (b + 157), .int s] t h (qIf 0 t (zsI (zsI h 157 0 0) 157 0 1)) := by
  have hm0 := hm.th hD 0
  have hn := hD.1.1.2.2.1
  have t1 := hm0.2.2.1
  refine zMet.of (ls := [some (.ref (b + 157)), some (.int s)]) (by decide) (zle rfl) 0 rfl ?_
  intro G hlG C hR hE hin
  refine zz_aload_0 C dX11_row_0 <| zz_iconst_0 C dX11_row_1 <| zy_putI C fX11_104 pX11_0 (tM_K hT) dX11_row_2 <| zz_aload_0 C dX11_row_5 <| zz_aload_0 C dX11_row_6 <| zz_iload_1 C dX11_row_7 <| zpc 8 rfl <| ?_
  refine zf_callVI C hR [_] (c_areRoads hT _) lX11_252 rfl (tM_K hT) (by decide) rfl ⟨zle rfl, zle rfl, zle rfl, zle rfl⟩ (zle rfl) dX11_row_8 ?_
  refine zz_if_ne C 18 dX11_row_11 (by decide) (fun c11 => ?_) (fun c11 => ?_)
  · rw [zb_ne0, t1, setOk hn] at c11; exact absurd c11 hs
  · refine zz_iconst_1 C dX11_row_14 <| zz_goto C 19 dX11_row_15 (by decide) <| zz_iconst_1 C dX11_row_19 <| zpc 20 rfl <| ?_
    refine zf_callVI C hR [_, _] (c_bad1 hT _ (by decide) (by first | exact zI_self _ _ _ _ | assumption)) lX11_181 rfl (tM_K hT) (by decide) rfl ⟨zle rfl, zle rfl, zle rfl, zle rfl⟩ (zle rfl) dX11_row_20 ?_
    refine zz_if_eq C 28 dX11_row_23 (by decide) (fun c23 => ?_) (fun c23 => ?_)
    · exact absurd c23 (by decide)
    · refine zz_iconst_0 C dX11_row_26 <| zpc 27 rfl <| ?_
      exact zf_ireturn C hE (zle rfl) (zle rfl) dX11_row_27 rfl rfl rfl
theorem c_clear {l : Launch} (hT : zTM t) (hro : mRo h R) : zMet E b l yX11_clear cX11_clear 2 (some .int) 1 0 0 [.ref (b + 157)] t h (qIf (nI R.1) t (zsI (zsI h 157 0 0) 157 20 0)) := by
  have hr0 : zI (zsI h 157 0 0) 157 20 = nI R.1 := by rw [zI_sI, if_neg (by omega)]; exact hro.1
  refine zMet.of (ls := [some (.ref (b + 157)), none]) (by decide) (zle rfl) 1 rfl ?_
  intro G hlG C hR hE hin
  refine zz_aload_0 C dX11_clear_0 <| zz_iconst_0 C dX11_clear_1 <| zy_putI C fX11_104 pX11_0 (tM_K hT) dX11_clear_2 <| zz_aload_0 C dX11_clear_5 <| zz_getI C fX11_191 (tM_K hT) dX11_clear_6 <| zpc 9 rfl <| ?_
  rw [hr0]
  refine zz_istore_1 C (zle rfl) rfl dX11_clear_9 <| zz_aload_0 C dX11_clear_10 <| zz_iconst_0 C dX11_clear_11 <| zy_putI C fX11_191 pX11_20 (tM_K hT) dX11_clear_12 <| zz_iload_1 C dX11_clear_15 <| zpc 16 rfl <| ?_
  exact zf_ireturn C hE (zle rfl) (zle rfl) dX11_clear_16 rfl rfl rfl
end MCL
