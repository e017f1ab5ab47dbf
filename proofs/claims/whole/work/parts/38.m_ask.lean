/-! ===== the reference: told, road, going, fault, way, by ===== -/
theorem idxOk {s : Int32} {n : Nat} (hn : n ≤ 14) : (0 ≤ s ∧ s ≤ nI n - 1) ↔ ∃ k, k < n ∧ s = nI k := by
  cases n with
  | zero =>
    refine ⟨fun q => ?_, fun ⟨k, hk, _⟩ => absurd hk (Nat.not_lt_zero k)⟩
    have h1 : nI 0 - 1 = (-1 : Int32) := by decide
    rw [h1] at q
    exact absurd (Int32.le_trans q.1 q.2) (by decide)
  | succ m =>
    rw [nI_pred]
    constructor
    · intro q
      obtain ⟨j, hj, e⟩ := nI_of2 (x := s) (n := m) (nI_toInt (by omega)) (Int32.not_lt.mpr q.1) q.2
      exact ⟨j, by omega, e⟩
    · rintro ⟨k, hk, rfl⟩
      exact ⟨nI_pos' (by omega), nI_le (by omega) (by omega)⟩
theorem upTo {s : Int32} (M : Int32) (n : Nat) (hM : M = nI n) (hn : n < 2 ^ 31) : (0 ≤ s ∧ s ≤ M) ↔ ∃ k, k ≤ n ∧ s = nI k := by
  subst hM
  constructor
  · intro q
    obtain ⟨j, hj, e⟩ := nI_of2 (x := s) (n := n) (nI_toInt hn) (Int32.not_lt.mpr q.1) q.2
    exact ⟨j, hj, e⟩
  · rintro ⟨k, hk, rfl⟩
    exact ⟨nI_pos' (by omega), nI_le hk hn⟩
section MA
variable {E : zE} {b : Nat} {G : zG} {t : zT} {h : zH} {D : yD} {p : yP} {R : Nat × (Nat → Nat)}
theorem c_fault {l : Launch} (hT : zTM t) : zMet E b l yX11_fault cX11_fault 1 (some .int) 1 0 0 [.ref (b + 157)] t h (qIf (zI h 157 3) t (zsI h 157 0 0)) := by
  refine zMet.of (ls := [some (.ref (b + 157))]) (by decide) (zle rfl) 0 rfl ?_
  intro G hlG C hR hE hin
  refine zz_aload_0 C dX11_fault_0 <| zz_iconst_0 C dX11_fault_1 <| zy_putI C fX11_104 pX11_0 (tM_K hT) dX11_fault_2 <| zz_aload_0 C dX11_fault_5 <| zz_getI C fX11_9 (tM_K hT) dX11_fault_6 <| zpc 9 rfl <| ?_
  exact zf_ireturn C hE (zle rfl) (zle rfl) dX11_fault_9 rfl rfl rfl
theorem c_told0 {l : Launch} (hT : zTM t) (s : Int32) (hs : ¬ ∃ k, k ≤ 6 ∧ s = nI k) : zMet E b l yX11_told cX11_told 2 (some .int) 2 0 0 [.ref (b + 157), .int s] t h (qIf 0 t (zsI (zsI h 157 0 0) 157 0 1)) := by
  refine zMet.of (ls := [some (.ref (b + 157)), some (.int s)]) (by decide) (zle rfl) 0 rfl ?_
  intro G hlG C hR hE hin
  refine zz_aload_0 C dX11_told_0 <| zz_iconst_0 C dX11_told_1 <| zy_putI C fX11_104 pX11_0 (tM_K hT) dX11_told_2 <| zz_aload_0 C dX11_told_5 <| zz_iload_1 C dX11_told_6 <| zz_iconst_0 C dX11_told_7 <| zz_bipush C 6 dX11_told_8 (by decide) <| zpc 10 rfl <| ?_
  refine zf_callSI C hR [_, _, _] (c_in _ _ _) lX11_138 rfl ⟨zle rfl, zle rfl, zle rfl, zle rfl⟩ (zle rfl) dX11_told_10 ?_
  refine zz_if_ne C 20 dX11_told_13 (by decide) (fun c13 => ?_) (fun c13 => ?_)
  · rw [zb_ne0, upTo 6 6 rfl (by omega)] at c13; exact absurd c13 hs
  · refine zz_iconst_1 C dX11_told_16 <| zz_goto C 21 dX11_told_17 (by decide) <| zz_iconst_1 C dX11_told_21 <| zpc 22 rfl <| ?_
    refine zf_callVI C hR [_, _] (c_bad1 hT _ (by decide) (by first | exact zI_self _ _ _ _ | assumption)) lX11_181 rfl (tM_K hT) (by decide) rfl ⟨zle rfl, zle rfl, zle rfl, zle rfl⟩ (zle rfl) dX11_told_22 ?_
    refine zz_if_eq C 30 dX11_told_25 (by decide) (fun c25 => ?_) (fun c25 => ?_)
    · exact absurd c25 (by decide)
    · refine zz_iconst_0 C dX11_told_28 <| zpc 29 rfl <| ?_
      exact zf_ireturn C hE (zle rfl) (zle rfl) dX11_told_29 rfl rfl rfl
theorem c_told1 {l : Launch} (hT : zTM t) (k : Nat) (hk : k ≤ 6) : zMet E b l yX11_told cX11_told 2 (some .int) 2 0 0 [.ref (b + 157), .int (nI k)] t h (qIf (if k = 6 then zI h 157 19 else zI h 160 k) t (zsI h 157 0 0)) := by
  have hok : (0 ≤ nI k ∧ nI k ≤ 6) := (upTo 6 6 rfl (by omega)).mpr ⟨k, hk, rfl⟩
  by_cases h6 : k = 6
  · rw [if_pos h6]
    refine zMet.of (ls := [some (.ref (b + 157)), some (.int (nI k))]) (by decide) (zle rfl) 0 rfl ?_
    intro G hlG C hR hE hin
    refine zz_aload_0 C dX11_told_0 <| zz_iconst_0 C dX11_told_1 <| zy_putI C fX11_104 pX11_0 (tM_K hT) dX11_told_2 <| zz_aload_0 C dX11_told_5 <| zz_iload_1 C dX11_told_6 <| zz_iconst_0 C dX11_told_7 <| zz_bipush C 6 dX11_told_8 (by decide) <| zpc 10 rfl <| ?_
    refine zf_callSI C hR [_, _, _] (c_in _ _ _) lX11_138 rfl ⟨zle rfl, zle rfl, zle rfl, zle rfl⟩ (zle rfl) dX11_told_10 ?_
    refine zz_if_ne C 20 dX11_told_13 (by decide) (fun c13 => ?_) (fun c13 => ?_)
    · refine zz_iconst_0 C dX11_told_20 <| zz_iconst_1 C dX11_told_21 <| zpc 22 rfl <| ?_
      refine zf_callVI C hR [_, _] (c_bad0 hT _ (by decide) (by first | exact zI_self _ _ _ _ | assumption)) lX11_181 rfl (tM_K hT) (by decide) rfl ⟨zle rfl, zle rfl, zle rfl, zle rfl⟩ (zle rfl) dX11_told_22 ?_
      refine zz_if_eq C 30 dX11_told_25 (by decide) (fun c25 => ?_) (fun c25 => ?_)
      · refine zz_iload_1 C dX11_told_30 <| zz_bipush C 6 dX11_told_31 (by decide) <| zpc 33 rfl <| ?_
        refine zz_icmp_ne C 43 dX11_told_33 (by decide) (fun c33 => ?_) (fun c33 => ?_)
        · exact absurd (by rw [h6]; rfl) c33
        · refine zz_aload_0 C dX11_told_36 <| zz_getI C fX11_188 (tM_K hT) dX11_told_37 <| zz_goto C 49 dX11_told_40 (by decide) <| zpc 49 rfl <| ?_
          exact zf_ireturn C hE (zle rfl) (zle rfl) dX11_told_49 rfl rfl rfl
      · exact absurd rfl c25
    · rw [zb_eq0] at c13; exact absurd hok c13
  · rw [if_neg h6]
    refine zMet.of (ls := [some (.ref (b + 157)), some (.int (nI k))]) (by decide) (zle rfl) 0 rfl ?_
    intro G hlG C hR hE hin
    refine zz_aload_0 C dX11_told_0 <| zz_iconst_0 C dX11_told_1 <| zy_putI C fX11_104 pX11_0 (tM_K hT) dX11_told_2 <| zz_aload_0 C dX11_told_5 <| zz_iload_1 C dX11_told_6 <| zz_iconst_0 C dX11_told_7 <| zz_bipush C 6 dX11_told_8 (by decide) <| zpc 10 rfl <| ?_
    refine zf_callSI C hR [_, _, _] (c_in _ _ _) lX11_138 rfl ⟨zle rfl, zle rfl, zle rfl, zle rfl⟩ (zle rfl) dX11_told_10 ?_
    refine zz_if_ne C 20 dX11_told_13 (by decide) (fun c13 => ?_) (fun c13 => ?_)
    · refine zz_iconst_0 C dX11_told_20 <| zz_iconst_1 C dX11_told_21 <| zpc 22 rfl <| ?_
      refine zf_callVI C hR [_, _] (c_bad0 hT _ (by decide) (by first | exact zI_self _ _ _ _ | assumption)) lX11_181 rfl (tM_K hT) (by decide) rfl ⟨zle rfl, zle rfl, zle rfl, zle rfl⟩ (zle rfl) dX11_told_22 ?_
      refine zz_if_eq C 30 dX11_told_25 (by decide) (fun c25 => ?_) (fun c25 => ?_)
      · refine zz_iload_1 C dX11_told_30 <| zz_bipush C 6 dX11_told_31 (by decide) <| zpc 33 rfl <| ?_
        refine zz_icmp_ne C 43 dX11_told_33 (by decide) (fun c33 => ?_) (fun c33 => ?_)
        · refine zz_aload_0 C dX11_told_43 <| zz_getR C fX11_20 (tM_K hT) (tM_R_told hT) dX11_told_44 <| zz_iload_1 C dX11_told_47 <| zc_iaload C _ (tM_K_told hT) (znI (by omega)) (by omega) dX11_told_48 <| zpc 49 rfl <| ?_
          exact zf_ireturn C hE (zle rfl) (zle rfl) dX11_told_49 rfl rfl rfl
        · exact absurd ((nI_eq (b := 6) (by omega) (by omega)).mp c33) h6
      · exact absurd rfl c25
    · rw [zb_eq0] at c13; exact absurd hok c13
theorem c_going0 {l : Launch} (hT : zTM t) (hD : sdOk D p) (hm : mSd h D p) (s q : Int32) (hs : ¬ ∃ k, k < D.1.1.2.1 ∧ s = nI k) : zMet E b l yX11_going cX11_going 3 (some .int) 3 0 0 [.ref (b + 157), .int s, .int q] t h (qIf 0 t (zsI (zsI h 157 0 0) 157 0 1)) := by
  have t3 := (hm.th hD 0).1.2.1
  have hng := hD.1.2.1.2.2.1
  refine zMet.of (ls := [some (.ref (b + 157)), some (.int s), some (.int q)]) (by decide) (zle rfl) 0 rfl ?_
  intro G hlG C hR hE hin
  refine zz_aload_0 C dX11_going_0 <| zz_iconst_0 C dX11_going_1 <| zy_putI C fX11_104 pX11_0 (tM_K hT) dX11_going_2 <| zz_aload_0 C dX11_going_5 <| zz_aload_0 C dX11_going_6 <| zz_iload_1 C dX11_going_7 <| zpc 8 rfl <| ?_
  refine zf_callVI C hR [_] (c_isGoing hT _) lX11_200 rfl (tM_K hT) (by decide) rfl ⟨zle rfl, zle rfl, zle rfl, zle rfl⟩ (zle rfl) dX11_going_8 ?_
  refine zz_if_ne C 18 dX11_going_11 (by decide) (fun c11 => ?_) (fun c11 => ?_)
  · rw [zb_ne0, t3, idxOk hng] at c11; exact absurd c11 hs
  · refine zz_iconst_1 C dX11_going_14 <| zz_goto C 19 dX11_going_15 (by decide) <| zz_iconst_1 C dX11_going_19 <| zpc 20 rfl <| ?_
    refine zf_callVI C hR [_, _] (c_bad1 hT _ (by decide) (by first | exact zI_self _ _ _ _ | assumption)) lX11_181 rfl (tM_K hT) (by decide) rfl ⟨zle rfl, zle rfl, zle rfl, zle rfl⟩ (zle rfl) dX11_going_20 ?_
    refine zz_if_ne C 48 dX11_going_23 (by decide) (fun c23 => ?_) (fun c23 => ?_)
    · refine zz_iconst_0 C dX11_going_48 <| zpc 49 rfl <| ?_
      exact zf_ireturn C hE (zle rfl) (zle rfl) dX11_going_49 rfl rfl rfl
    · exact absurd c23 (by decide)
theorem c_going2 {l : Launch} (hT : zTM t) (hD : sdOk D p) (hm : mSd h D p) (g : Nat) (hg : g < D.1.1.2.1) (q : Int32) (hq : ¬ ∃ k, k ≤ 5 ∧ q = nI k) : zMet E b l yX11_going cX11_going 3 (some .int) 3 0 0 [.ref (b + 157), .int (nI g), .int q] t h (qIf 0 t (zsI (zsI h 157 0 0) 157 0 2)) := by
  have t3 := (hm.th hD 0).1.2.1
  have hng := hD.1.2.1.2.2.1
  refine zMet.of (ls := [some (.ref (b + 157)), some (.int (nI g)), some (.int q)]) (by decide) (zle rfl) 0 rfl ?_
  intro G hlG C hR hE hin
  refine zz_aload_0 C dX11_going_0 <| zz_iconst_0 C dX11_going_1 <| zy_putI C fX11_104 pX11_0 (tM_K hT) dX11_going_2 <| zz_aload_0 C dX11_going_5 <| zz_aload_0 C dX11_going_6 <| zz_iload_1 C dX11_going_7 <| zpc 8 rfl <| ?_
  refine zf_callVI C hR [_] (c_isGoing hT _) lX11_200 rfl (tM_K hT) (by decide) rfl ⟨zle rfl, zle rfl, zle rfl, zle rfl⟩ (zle rfl) dX11_going_8 ?_
  refine zz_if_ne C 18 dX11_going_11 (by decide) (fun c11 => ?_) (fun c11 => ?_)
  · refine zz_iconst_0 C dX11_going_18 <| zz_iconst_1 C dX11_going_19 <| zpc 20 rfl <| ?_
    refine zf_callVI C hR [_, _] (c_bad0 hT _ (by decide) (by first | exact zI_self _ _ _ _ | assumption)) lX11_181 rfl (tM_K hT) (by decide) rfl ⟨zle rfl, zle rfl, zle rfl, zle rfl⟩ (zle rfl) dX11_going_20 ?_
    refine zz_if_ne C 48 dX11_going_23 (by decide) (fun c23 => ?_) (fun c23 => ?_)
    · exact absurd rfl c23
    · refine zz_aload_0 C dX11_going_26 <| zz_iload_2 C dX11_going_27 <| zz_iconst_0 C dX11_going_28 <| zz_iconst_5 C dX11_going_29 <| zpc 30 rfl <| ?_
      refine zf_callSI C hR [_, _, _] (c_in _ _ _) lX11_138 rfl ⟨zle rfl, zle rfl, zle rfl, zle rfl⟩ (zle rfl) dX11_going_30 ?_
      refine zz_if_ne C 40 dX11_going_33 (by decide) (fun c33 => ?_) (fun c33 => ?_)
      · rw [zb_ne0, upTo 5 5 rfl (by omega)] at c33; exact absurd c33 hq
      · refine zz_iconst_1 C dX11_going_36 <| zz_goto C 41 dX11_going_37 (by decide) <| zz_iconst_2 C dX11_going_41 <| zpc 42 rfl <| ?_
        refine zf_callVI C hR [_, _] (c_bad1 hT _ (by decide) (by first | exact zI_self _ _ _ _ | assumption)) lX11_181 rfl (tM_K hT) (by decide) rfl ⟨zle rfl, zle rfl, zle rfl, zle rfl⟩ (zle rfl) dX11_going_42 ?_
        refine zz_if_eq C 50 dX11_going_45 (by decide) (fun c45 => ?_) (fun c45 => ?_)
        · exact absurd c45 (by decide)
        · refine zz_iconst_0 C dX11_going_48 <| zpc 49 rfl <| ?_
          exact zf_ireturn C hE (zle rfl) (zle rfl) dX11_going_49 rfl rfl rfl
  · rw [zb_eq0, t3, idxOk hng] at c11; exact absurd ⟨g, hg, rfl⟩ c11
theorem c_going1 {l : Launch} (hT : zTM t) (hD : sdOk D p) (hm : mSd h D p) (g q : Nat) (hg : g < D.1.1.2.1) (hq : q ≤ 5) : zMet E b l yX11_going cX11_going 3 (some .int) 3 0 0 [.ref (b + 157), .int (nI g), .int (nI q)] t h (qIf (nI (D.1.2.1 g q)) t (zsI h 157 0 0)) := by
  have t3 := (hm.th hD 0).1.2.1
  have hgq := (hm.th hD 0).1.2.2.2.1 g hg q (by omega)
  have hng := hD.1.2.1.2.2.1
  have hok : (0 ≤ nI q ∧ nI q ≤ 5) := (upTo 5 5 rfl (by omega)).mpr ⟨q, hq, rfl⟩
  refine zMet.of (ls := [some (.ref (b + 157)), some (.int (nI g)), some (.int (nI q))]) (by decide) (zle rfl) 0 rfl ?_
  intro G hlG C hR hE hin
  refine zz_aload_0 C dX11_going_0 <| zz_iconst_0 C dX11_going_1 <| zy_putI C fX11_104 pX11_0 (tM_K hT) dX11_going_2 <| zz_aload_0 C dX11_going_5 <| zz_aload_0 C dX11_going_6 <| zz_iload_1 C dX11_going_7 <| zpc 8 rfl <| ?_
  refine zf_callVI C hR [_] (c_isGoing hT _) lX11_200 rfl (tM_K hT) (by decide) rfl ⟨zle rfl, zle rfl, zle rfl, zle rfl⟩ (zle rfl) dX11_going_8 ?_
  refine zz_if_ne C 18 dX11_going_11 (by decide) (fun c11 => ?_) (fun c11 => ?_)
  · refine zz_iconst_0 C dX11_going_18 <| zz_iconst_1 C dX11_going_19 <| zpc 20 rfl <| ?_
    refine zf_callVI C hR [_, _] (c_bad0 hT _ (by decide) (by first | exact zI_self _ _ _ _ | assumption)) lX11_181 rfl (tM_K hT) (by decide) rfl ⟨zle rfl, zle rfl, zle rfl, zle rfl⟩ (zle rfl) dX11_going_20 ?_
    refine zz_if_ne C 48 dX11_going_23 (by decide) (fun c23 => ?_) (fun c23 => ?_)
    · exact absurd rfl c23
    · refine zz_aload_0 C dX11_going_26 <| zz_iload_2 C dX11_going_27 <| zz_iconst_0 C dX11_going_28 <| zz_iconst_5 C dX11_going_29 <| zpc 30 rfl <| ?_
      refine zf_callSI C hR [_, _, _] (c_in _ _ _) lX11_138 rfl ⟨zle rfl, zle rfl, zle rfl, zle rfl⟩ (zle rfl) dX11_going_30 ?_
      refine zz_if_ne C 40 dX11_going_33 (by decide) (fun c33 => ?_) (fun c33 => ?_)
      · refine zz_iconst_0 C dX11_going_40 <| zz_iconst_2 C dX11_going_41 <| zpc 42 rfl <| ?_
        refine zf_callVI C hR [_, _] (c_bad0 hT _ (by decide) (by first | exact zI_self _ _ _ _ | assumption)) lX11_181 rfl (tM_K hT) (by decide) rfl ⟨zle rfl, zle rfl, zle rfl, zle rfl⟩ (zle rfl) dX11_going_42 ?_
        refine zz_if_eq C 50 dX11_going_45 (by decide) (fun c45 => ?_) (fun c45 => ?_)
        · refine zz_aload_0 C dX11_going_50 <| zz_getR C fX11_46 (tM_K hT) (tM_R_going hT) dX11_going_51 <| zz_iload_1 C dX11_going_54 <| zc_row C _ (tM_K_going hT) (tM_row_going hT) (znI (by omega)) (by omega) dX11_going_55 <| fun r55 => ?_
          refine zz_iload_2 C dX11_going_56 <| zc_iaload C _ (tM_KR_going hT _ r55) (znI (by omega)) (by omega) dX11_going_57 <| zpc 58 rfl <| ?_
          rw [hgq]
          exact zf_ireturn C hE (zle rfl) (zle rfl) dX11_going_58 rfl rfl rfl
        · exact absurd rfl c45
      · rw [zb_eq0] at c33; exact absurd hok c33
  · rw [zb_eq0, t3, idxOk hng] at c11; exact absurd ⟨g, hg, rfl⟩ c11
end MA
