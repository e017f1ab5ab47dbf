/-! ===== the class: State ===== -/
section CS
variable {E : zE} {b : Nat} {G : zG} {t : zT} {h : zH} {l : Launch} {i j n n0 N day : Nat} {L : yL} {A : yN} {w r : Nat → Nat} {F : Nat → Nat → Nat} {R : Nat × (Nat → Nat)} {a c e : Nat}
theorem c6_makeWhole (hS : zTS t j) (k : Nat) (hk : k < 11) (x : Int32) : zMet E b l yX6_makeWhole cX6_makeWhole 3 none 1 0 0 [.ref (b + j), .int (nI k), .int x] t h (qVf t (zsI (zsI h (j + 1) k 0) (j + 2) k x)) := by
  refine zMet.of (ls := [some (.ref (b + j)), some (.int (nI k)), some (.int x)]) (by decide) (zle rfl) 0 rfl ?_
  intro G hlG C hR hE hin
  refine zz_aload_0 C dX6_makeWhole_0 <| zz_getR C fX6_9 (tS_K hS) (tS_R_wear hS) dX6_makeWhole_1 <| zz_iload_1 C dX6_makeWhole_4 <| zz_iconst_0 C dX6_makeWhole_5 <| zc_iastore C _ (tS_K_wear hS) (znI (by omega)) (by omega) dX6_makeWhole_6 <| zz_aload_0 C dX6_makeWhole_7 <| zz_getR C fX6_15 (tS_K hS) (tS_R_rested hS) dX6_makeWhole_8 <| zz_iload_1 C dX6_makeWhole_11 <| zz_iload_2 C dX6_makeWhole_12 <| zc_iastore C _ (tS_K_rested hS) (znI (by omega)) (by omega) dX6_makeWhole_13 <| zpc 14 rfl <| ?_
  exact zf_return C hE (zle rfl) (zle rfl) dX6_makeWhole_14 rfl rfl
theorem c6_makeNew (hS : zTS t j) (x : Int32) : zMet E b l yX6_makeNew cX6_makeNew 3 none 2 0 0 [.ref (b + j), .int x] t h (qV (fun t' h' => t' = t ∧ cAg j (j + 3) h h' ∧ (zI h' j 0 = 0 ∧ zI h' j 4 = 0) ∧ ∀ k, k < 11 → zI h' (j + 1) k = 0 ∧ zI h' (j + 2) k = x)) := by
  refine zMet.of (ls := [some (.ref (b + j)), some (.int x), none]) (by decide) (zle rfl) 1 rfl ?_
  intro G hlG C hR hE hin
  have lp : ∀ k, k ≤ 11 → ∀ hc : zH, cAg j (j + 3) h hc → (zI hc j 0 = 0 ∧ zI hc j 4 = 0) → (∀ q, q < k → zI hc (j + 1) q = 0 ∧ zI hc (j + 2) q = x) → zAW E b G 3 0 0 12 [some (.ref (b + j)), some (.int x), some (.int (nI k))] [] t hc := by
    refine zLoop 11 fun k hk ih hc ag h1 h2 => ?_
    refine zz_iload_2 C dX6_makeNew_12 <| zz_aload_0 C dX6_makeNew_13 <| zz_getR C fX6_9 (tS_K hS) (tS_R_wear hS) dX6_makeNew_14 <| zz_alenI C (tS_K_wear hS) dX6_makeNew_17 <| zpc 18 rfl <| ?_
    rw [show Int32.ofNat 11 = nI 11 from rfl]
    refine zz_icmp_ge C 33 dX6_makeNew_18 (by decide) (fun c18 => ?_) (fun c18 => ?_)
    · rw [nI_leI (by omega) (by omega)] at c18
      refine zy_return C hE (zle rfl) (zle rfl) dX6_makeNew_33 ?_
      exact ⟨rfl, ag, h1, fun q hq => h2 q (by omega)⟩
    · rw [nI_leI (by omega) (by omega)] at c18
      refine zz_aload_0 C dX6_makeNew_21 <| zz_iload_2 C dX6_makeNew_22 <| zz_iload_1 C dX6_makeNew_23 <| zpc 24 rfl <| ?_
      refine zf_callVV C hR [_, _] (c6_makeWhole hS k (by omega) x) lX6_28 rfl (tS_K hS) (by decide) rfl ⟨zle rfl, zle rfl, zle rfl, zle rfl⟩ (zle rfl) dX6_makeNew_24 ?_
      refine zz_iinc_2 C _ (zle rfl) rfl dX6_makeNew_27 nI_s <| zz_goto C 12 dX6_makeNew_30 (by decide) <| zpc 12 rfl <| ?_
      refine ih (by omega) _ ((ag.sI (by omega) (by omega)).sI (by omega) (by omega)) ?_ (fun q hq => ?_)
      · rw [zI_sI, if_neg (by omega), zI_sI, if_neg (by omega), zI_sI, if_neg (by omega), zI_sI, if_neg (by omega)]; exact h1
      · by_cases hqk : q = k
        · subst hqk
          rw [zI_sI, if_neg (by omega), zI_self, zI_self]; exact ⟨rfl, rfl⟩
        · rw [zI_sI, if_neg (by omega), zI_sI, if_neg (by omega), zI_sI, if_neg (by omega), zI_sI, if_neg (by omega)]
          exact h2 q (by omega)
  refine zz_aload_0 C dX6_makeNew_0 <| zz_iconst_0 C dX6_makeNew_1 <| zy_putI C fX6_21 pX6_0 (tS_K hS) dX6_makeNew_2 <| zz_aload_0 C dX6_makeNew_5 <| zz_iconst_0 C dX6_makeNew_6 <| zy_putI C fX6_25 pX6_4 (tS_K hS) dX6_makeNew_7 <| zz_iconst_0 C dX6_makeNew_10 <| zz_istore_2 C (zle rfl) rfl dX6_makeNew_11 <| zpc 12 rfl <| ?_
  refine lp 0 (by omega) _ (((cAg.rf h).sI (by omega) (by omega)).sI (by omega) (by omega)) ⟨?_, zI_self _ _ _ _⟩ (fun q hq => absurd hq (by omega))
  rw [zI_sI, if_neg (by omega), zI_self]
/-- all of a State taken over from another -/
def cTk (h : zH) (j i : Nat) (h' : zH) : Prop := cAg j (j + 3) h h' ∧ (zI h' j 0 = zI h i 0 ∧ zI h' j 4 = zI h i 4) ∧ (∀ k, k < 11 → zI h' (j + 1) k = zI h (i + 1) k ∧ zI h' (j + 2) k = zI h (i + 2) k) ∧ ∀ k, k < 30 → zI h' (j + 3) k = zI h (i + 3) k
theorem cTk.st {h h' : zH} {j i n N day : Nat} {w r : Nat → Nat} {R : Nat × (Nat → Nat)} (hk : cTk h j i h') (hn : n ≤ 11) (hR : R.1 ≤ 30) (hm : cSt h i n N day w r R) : cSt h' j n N day w r R := by
  obtain ⟨-, ⟨a1, a2⟩, a3, a4⟩ := hk
  obtain ⟨⟨h1, h2⟩, h3, h4, h5⟩ := hm
  refine ⟨⟨a1.trans h1, a2.trans h2⟩, fun k hk => ?_, fun k hk hk2 => ?_, fun k hk => ?_⟩
  · rw [(a3 k (by omega)).1, (a3 k (by omega)).2]; exact h3 k hk
  · rw [(a3 k hk2).1, (a3 k hk2).2]; exact h4 k hk hk2
  · rw [a4 k (by omega)]; exact h5 k hk
theorem c6_take (hS : zTS t j) (hS2 : zTS t i) (hij : i + 3 < j ∨ j + 3 < i) : zMet E b l yX6_take cX6_take 2 none 1 0 0 [.ref (b + j), .ref (b + i)] t h (qV (fun t' h' => t' = t ∧ cTk h j i h')) := by
  refine zMet.of (ls := [some (.ref (b + j)), some (.ref (b + i))]) (by decide) (zle rfl) 0 rfl ?_
  intro G hlG C hR hE hin
  refine zz_aload_0 C dX6_take_0 <| zz_aload_1 C dX6_take_1 <| zz_getI C fX6_21 (tS_K hS2) dX6_take_2 <| zy_putI C fX6_21 pX6_0 (tS_K hS) dX6_take_5 <| zz_aload_0 C dX6_take_8 <| zz_aload_1 C dX6_take_9 <| zz_getI C fX6_25 (tS_K hS2) dX6_take_10 <| zy_putI C fX6_25 pX6_4 (tS_K hS) dX6_take_13 <| zz_aload_1 C dX6_take_16 <| zz_getR C fX6_9 (tS_K hS2) (tS_R_wear hS2) dX6_take_17 <| zz_iconst_0 C dX6_take_20 <| zz_aload_0 C dX6_take_21 <| zz_getR C fX6_9 (tS_K hS) (tS_R_wear hS) dX6_take_22 <| zz_iconst_0 C dX6_take_25 <| ?_
  refine zz_aload_0 C dX6_take_26 <| zz_getR C fX6_9 (tS_K hS) (tS_R_wear hS) dX6_take_27 <| zz_alenI C (tS_K_wear hS) dX6_take_30 <| zz_copyI C hR (zle rfl) mX6_32 (by decide) (tS_K_wear hS2) (tS_K_wear hS) (zle rfl) dX6_take_31 <| zz_aload_1 C dX6_take_34 <| zz_getR C fX6_15 (tS_K hS2) (tS_R_rested hS2) dX6_take_35 <| zz_iconst_0 C dX6_take_38 <| zz_aload_0 C dX6_take_39 <| zz_getR C fX6_15 (tS_K hS) (tS_R_rested hS) dX6_take_40 <| zz_iconst_0 C dX6_take_43 <| zz_aload_0 C dX6_take_44 <| zz_getR C fX6_15 (tS_K hS) (tS_R_rested hS) dX6_take_45 <| zz_alenI C (tS_K_rested hS) dX6_take_48 <| zz_copyI C hR (zle rfl) mX6_32 (by decide) (tS_K_rested hS2) (tS_K_rested hS) (zle rfl) dX6_take_49 <| ?_
  refine zz_aload_1 C dX6_take_52 <| zz_getR C fX6_18 (tS_K hS2) (tS_R_row hS2) dX6_take_53 <| zz_iconst_0 C dX6_take_56 <| zz_aload_0 C dX6_take_57 <| zz_getR C fX6_18 (tS_K hS) (tS_R_row hS) dX6_take_58 <| zz_iconst_0 C dX6_take_61 <| zz_aload_0 C dX6_take_62 <| zz_getR C fX6_18 (tS_K hS) (tS_R_row hS) dX6_take_63 <| zz_alenI C (tS_K_row hS) dX6_take_66 <| zz_copyI C hR (zle rfl) mX6_32 (by decide) (tS_K_row hS2) (tS_K_row hS) (zle rfl) dX6_take_67 <| zpc 70 rfl <| ?_
  refine zy_return C hE (zle rfl) (zle rfl) dX6_take_70 ?_
  refine ⟨rfl, ((((((cAg.rf h).sI (by omega) (by omega)).sI (by omega) (by omega)).rI (by omega) (by omega)).rI (by omega) (by omega)).rI (by omega) (by omega)), ⟨?_, ?_⟩, fun k hk => ⟨?_, ?_⟩, fun k hk => ?_⟩
  · rw [zI_rI, if_neg (by omega), zI_rI, if_neg (by omega), zI_rI, if_neg (by omega), zI_sI, if_neg (by omega), zI_self]
  · rw [zI_rI, if_neg (by omega), zI_rI, if_neg (by omega), zI_rI, if_neg (by omega), zI_self, zI_sI, if_neg (by omega)]
  · rw [zI_rI, if_neg (by omega), zI_rI, if_neg (by omega), zI_rI, if_pos rfl, if_pos hk, zI_sI, if_neg (by omega), zI_sI, if_neg (by omega)]
  · rw [zI_rI, if_neg (by omega), zI_rI, if_pos rfl, if_pos hk, zI_rI, if_neg (by omega), zI_sI, if_neg (by omega), zI_sI, if_neg (by omega)]
  · rw [zI_rI, if_pos rfl, if_pos hk, zI_rI, if_neg (by omega), zI_rI, if_neg (by omega), zI_sI, if_neg (by omega), zI_sI, if_neg (by omega)]
/-- the roads of a land and their wear in a State -/
def cWr (h : zH) (i j n : Nat) (F : Nat → Nat → Nat) (w : Nat → Nat) : Prop := (zI h i 1 = nI n ∧ n ≤ 10) ∧ ∀ k, k < n → (zI h (j + 1) k = nI (w k) ∧ w k ≤ 99) ∧ (zI h (i + 1 + 1 + k) 4 = nI (F k 4) ∧ F k 4 ≤ 30)
theorem c6_isPastUse (hS : zTS t j) (hL : zTL t i) (hm : cWr h i j n F w) (k : Nat) (hk : k < n) : zMet E b l yX6_isPastUse cX6_isPastUse 3 (some .boolean) 1 0 0 [.ref (b + j), .ref (b + i), .int (nI k)] t h (qIf (zb (F k 4 < w k)) t h) := by
  obtain ⟨⟨h1, hn⟩, h2⟩ := hm
  obtain ⟨⟨h3, h4⟩, h5, h6⟩ := h2 k hk
  refine zMet.of (ls := [some (.ref (b + j)), some (.ref (b + i)), some (.int (nI k))]) (by decide) (zle rfl) 0 rfl ?_
  intro G hlG C hR hE hin
  refine zz_aload_0 C dX6_isPastUse_0 <| zz_getR C fX6_9 (tS_K hS) (tS_R_wear hS) dX6_isPastUse_1 <| zz_iload_2 C dX6_isPastUse_4 <| zc_iaload C _ (tS_K_wear hS) (znI (by omega)) (by omega) dX6_isPastUse_5 <| zz_aload_1 C dX6_isPastUse_6 <| zz_getR C fX6_38 (tL_K hL) (tL_R_roadFacts hL) dX6_isPastUse_7 <| zz_iload_2 C dX6_isPastUse_10 <| zc_row C _ (tL_K_roadFacts hL) (tL_row_roadFacts hL) (znI (by omega)) (by omega) dX6_isPastUse_11 <| fun r11 => ?_
  refine zz_iconst_4 C dX6_isPastUse_12 <| zc_iaload C 4 (tL_KR_roadFacts hL _ r11) (zlit _ (by decide)) (by decide) dX6_isPastUse_13 <| zpc 14 rfl <| ?_
  rw [h3, h5]
  refine zz_icmp_le C 21 dX6_isPastUse_14 (by decide) (fun c14 => ?_) (fun c14 => ?_)
  · rw [nI_leI (by omega) (by omega)] at c14
    refine zz_iconst_0 C dX6_isPastUse_21 <| zpc 22 rfl <| ?_
    exact zf_zreturn C hE (zle rfl) (zle rfl) dX6_isPastUse_22 (by decide) (by symm; first | exact zb_t (by omega) | exact zb_f (by omega)) rfl rfl
  · rw [nI_leI (by omega) (by omega)] at c14
    refine zz_iconst_1 C dX6_isPastUse_17 <| zz_goto C 22 dX6_isPastUse_18 (by decide) <| zpc 22 rfl <| ?_
    exact zf_zreturn C hE (zle rfl) (zle rfl) dX6_isPastUse_22 (by decide) (by symm; first | exact zb_t (by omega) | exact zb_f (by omega)) rfl rfl
theorem c6_firstPastUse (hS : zTS t j) (hL : zTL t i) (hm : cWr h i j n F w) : zMet E b l yX6_firstPastUse cX6_firstPastUse 3 (some .int) 2 0 0 [.ref (b + j), .ref (b + i)] t h (qIf (oI (rPast F w n)) t h) := by
  have hn := hm.1.2
  refine zMet.of (ls := [some (.ref (b + j)), some (.ref (b + i)), none]) (by decide) (zle rfl) 1 rfl ?_
  intro G hlG C hR hE hin
  have lp : ∀ k, k ≤ n → (∀ q, q < k → w q ≤ F q 4) → zAW E b G 3 0 0 2 [some (.ref (b + j)), some (.ref (b + i)), some (.int (nI k))] [] t h := by
    refine zLoop n fun k hk ih h2 => ?_
    refine zz_iload_2 C dX6_firstPastUse_2 <| zz_aload_1 C dX6_firstPastUse_3 <| zz_getI C fX6_44 (tL_K hL) dX6_firstPastUse_4 <| zpc 7 rfl <| ?_
    rw [hm.1.1]
    refine zz_icmp_ge C 27 dX6_firstPastUse_7 (by decide) (fun c7 => ?_) (fun c7 => ?_)
    · rw [nI_leI (by omega) (by omega)] at c7
      refine zz_iconst_m1 C dX6_firstPastUse_27 <| zpc 28 rfl <| ?_
      exact zf_ireturn C hE (zle rfl) (zle rfl) dX6_firstPastUse_28 (by rw [rPast_none (fun q hq => h2 q (by omega))]; rfl) rfl rfl
    · rw [nI_leI (by omega) (by omega)] at c7
      refine zz_aload_0 C dX6_firstPastUse_10 <| zz_aload_1 C dX6_firstPastUse_11 <| zz_iload_2 C dX6_firstPastUse_12 <| zpc 13 rfl <| ?_
      refine zf_callVI C hR [_, _] (c6_isPastUse hS hL hm k (by omega)) lX6_47 rfl (tS_K hS) (by decide) rfl ⟨zle rfl, zle rfl, zle rfl, zle rfl⟩ (zle rfl) dX6_firstPastUse_13 ?_
      refine zz_if_eq C 21 dX6_firstPastUse_16 (by decide) (fun c16 => ?_) (fun c16 => ?_)
      · refine zz_iinc_2 C _ (zle rfl) rfl dX6_firstPastUse_21 nI_s <| zz_goto C 2 dX6_firstPastUse_24 (by decide) <| zpc 2 rfl <| ?_
        rw [zb_eq0] at c16
        refine ih (by omega) (fun q hq => ?_)
        by_cases hqk : q = k
        · rw [hqk]; omega
        · exact h2 q (by omega)
      · refine zz_iload_2 C dX6_firstPastUse_19 <| zpc 20 rfl <| ?_
        exact zf_ireturn C hE (zle rfl) (zle rfl) dX6_firstPastUse_20 (by rw [zb_ne0] at c16; rw [rPast_some (by omega) c16 h2]; rfl) rfl rfl
  refine zz_iconst_0 C dX6_firstPastUse_0 <| zz_istore_2 C (zle rfl) rfl dX6_firstPastUse_1 <| zpc 2 rfl <| ?_
  exact lp 0 (by omega) (fun q hq => absurd hq (by omega))
theorem c6_pastUseCount (hS : zTS t j) (hL : zTL t i) (hm : cWr h i j n F w) : zMet E b l yX6_pastUseCount cX6_pastUseCount 4 (some .int) 2 0 0 [.ref (b + j), .ref (b + i)] t h (qIf (nI (wCnt F w n)) t h) := by
  have hn := hm.1.2
  refine zMet.of (ls := [some (.ref (b + j)), some (.ref (b + i)), none, none]) (by decide) (zle rfl) 2 rfl ?_
  intro G hlG C hR hE hin
  have lp : ∀ k, k ≤ n → zAW E b G 4 0 0 4 [some (.ref (b + j)), some (.ref (b + i)), some (.int (nI (wCnt F w k))), some (.int (nI k))] [] t h := by
    refine zLoop n fun k hk ih => ?_
    have e1 : wCnt F w (k + 1) = wCnt F w k + (if F k 4 < w k then 1 else 0) := rfl
    refine zz_iload_3 C dX6_pastUseCount_4 <| zz_aload_1 C dX6_pastUseCount_5 <| zz_getI C fX6_44 (tL_K hL) dX6_pastUseCount_6 <| zpc 9 rfl <| ?_
    rw [hm.1.1]
    refine zz_icmp_ge C 30 dX6_pastUseCount_9 (by decide) (fun c9 => ?_) (fun c9 => ?_)
    · rw [nI_leI (by omega) (by omega)] at c9
      refine zz_iload_2 C dX6_pastUseCount_30 <| zpc 31 rfl <| ?_
      exact zf_ireturn C hE (zle rfl) (zle rfl) dX6_pastUseCount_31 (by rw [show k = n by omega]) rfl rfl
    · rw [nI_leI (by omega) (by omega)] at c9
      refine zz_aload_0 C dX6_pastUseCount_12 <| zz_aload_1 C dX6_pastUseCount_13 <| zz_iload_3 C dX6_pastUseCount_14 <| zpc 15 rfl <| ?_
      refine zf_callVI C hR [_, _] (c6_isPastUse hS hL hm k (by omega)) lX6_47 rfl (tS_K hS) (by decide) rfl ⟨zle rfl, zle rfl, zle rfl, zle rfl⟩ (zle rfl) dX6_pastUseCount_15 ?_
      refine zz_if_eq C 24 dX6_pastUseCount_18 (by decide) (fun c18 => ?_) (fun c18 => ?_)
      · refine zz_iinc_3 C _ (zle rfl) rfl dX6_pastUseCount_24 nI_s <| zz_goto C 4 dX6_pastUseCount_27 (by decide) <| zpc 4 rfl <| ?_
        first
        | (rw [zb_ne0] at c18; have := ih (by omega); rw [e1, if_pos c18] at this; exact this)
        | (rw [zb_eq0] at c18; have := ih (by omega); rw [e1, if_neg c18] at this; exact this)
      · refine zz_iinc_2 C _ (zle rfl) rfl dX6_pastUseCount_21 nI_s <| zz_iinc_3 C _ (zle rfl) rfl dX6_pastUseCount_24 nI_s <| zz_goto C 4 dX6_pastUseCount_27 (by decide) <| zpc 4 rfl <| ?_
        first
        | (rw [zb_ne0] at c18; have := ih (by omega); rw [e1, if_pos c18] at this; exact this)
        | (rw [zb_eq0] at c18; have := ih (by omega); rw [e1, if_neg c18] at this; exact this)
  refine zz_iconst_0 C dX6_pastUseCount_0 <| zz_istore_2 C (zle rfl) rfl dX6_pastUseCount_1 <| zz_iconst_0 C dX6_pastUseCount_2 <| zz_istore_3 C (zle rfl) rfl dX6_pastUseCount_3 <| zpc 4 rfl <| ?_
  exact lp 0 (by omega)
theorem c6_mostWear (hS : zTS t j) (hL : zTL t i) (hm : cWr h i j n F w) : zMet E b l yX6_mostWear cX6_mostWear 4 (some .int) 2 0 0 [.ref (b + j), .ref (b + i)] t h (qIf (nI (wMax w n)) t h) := by
  have hn := hm.1.2
  refine zMet.of (ls := [some (.ref (b + j)), some (.ref (b + i)), none, none]) (by decide) (zle rfl) 2 rfl ?_
  intro G hlG C hR hE hin
  have lp : ∀ k, k ≤ n → zAW E b G 4 0 0 4 [some (.ref (b + j)), some (.ref (b + i)), some (.int (nI (wMax w k))), some (.int (nI k))] [] t h := by
    refine zLoop n fun k hk ih => ?_
    have e1 : wMax w (k + 1) = if wMax w k < w k then w k else wMax w k := rfl
    have hmx := wMax_le (w := w) (m := 99) (n := k) (fun q hq => (hm.2 q (by omega)).1.2)
    refine zz_iload_3 C dX6_mostWear_4 <| zz_aload_1 C dX6_mostWear_5 <| zz_getI C fX6_44 (tL_K hL) dX6_mostWear_6 <| zpc 9 rfl <| ?_
    rw [hm.1.1]
    refine zz_icmp_ge C 29 dX6_mostWear_9 (by decide) (fun c9 => ?_) (fun c9 => ?_)
    · rw [nI_leI (by omega) (by omega)] at c9
      refine zz_iload_2 C dX6_mostWear_29 <| zpc 30 rfl <| ?_
      exact zf_ireturn C hE (zle rfl) (zle rfl) dX6_mostWear_30 (by rw [show k = n by omega]) rfl rfl
    · rw [nI_leI (by omega) (by omega)] at c9
      refine zz_iload_2 C dX6_mostWear_12 <| zz_aload_0 C dX6_mostWear_13 <| zz_getR C fX6_9 (tS_K hS) (tS_R_wear hS) dX6_mostWear_14 <| zz_iload_3 C dX6_mostWear_17 <| zc_iaload C _ (tS_K_wear hS) (znI (by omega)) (by omega) dX6_mostWear_18 <| zpc 19 rfl <| ?_
      rw [(hm.2 k (by omega)).1.1]
      refine zz_mmax C hR (zle rfl) mX6_51 (zle rfl) (zle rfl) (zle rfl) dX6_mostWear_19 <| zpc 22 rfl <| ?_
      rw [nI_max (by omega) (by have := (hm.2 k (by omega)).1.2; omega)]
      refine zz_istore_2 C (zle rfl) rfl dX6_mostWear_22 <| zz_iinc_3 C _ (zle rfl) rfl dX6_mostWear_23 nI_s <| zz_goto C 4 dX6_mostWear_26 (by decide) <| zpc 4 rfl <| ?_
      have := ih (by omega)
      rw [e1] at this
      have e2 : (if wMax w k < w k then w k else wMax w k) = max (wMax w k) (w k) := by split <;> omega
      rw [e2] at this
      exact this
  refine zz_iconst_0 C dX6_mostWear_0 <| zz_istore_2 C (zle rfl) rfl dX6_mostWear_1 <| zz_iconst_0 C dX6_mostWear_2 <| zz_istore_3 C (zle rfl) rfl dX6_mostWear_3 <| zpc 4 rfl <| ?_
  exact lp 0 (by omega)
/-- a road at a day's end: the load with the rain -/
theorem c6_endDay (hS : zTS t j) (k : Nat) (hk : k < 11) {ld rn wk rk : Nat} (hN3 : 3 ≤ N) (hN : N ≤ 11) (hW : ld + rn ≤ 2 ^ 20) (hw : zI h (j + 1) k = nI wk) (hw9 : wk ≤ 99) (hr : zI h (j + 2) k = nI rk) (hr9 : rk ≤ 11) : zMet E b l yX6_endDay cX6_endDay 4 none 2 0 0 [.ref (b + j), .int (nI k), .int (nI (ld + rn)), .int (nI N)] t h (qVf t (zsI (zsI h (j + 1) k (nI (eW N ld rn wk rk))) (j + 2) k (nI (eR N ld rn rk)))) := by
  have h99 : (99 : Int32) = nI 99 := rfl
  have h1 : (1 : Int32) = nI 1 := rfl
  refine zMet.of (ls := [some (.ref (b + j)), some (.int (nI k)), some (.int (nI (ld + rn))), some (.int (nI N))]) (by decide) (zle rfl) 0 rfl ?_
  intro G hlG C hR hE hin
  refine zz_iload_2 C dX6_endDay_0 <| zpc 1 rfl <| ?_
  refine zz_if_le C 31 dX6_endDay_1 (by decide) (fun c1 => ?_) (fun c1 => ?_)
  · refine zz_aload_0 C dX6_endDay_31 <| zz_getR C fX6_15 (tS_K hS) (tS_R_rested hS) dX6_endDay_32 <| zz_iload_1 C dX6_endDay_35 <| zz_iload_3 C dX6_endDay_36 <| zz_aload_0 C dX6_endDay_37 <| zz_getR C fX6_15 (tS_K hS) (tS_R_rested hS) dX6_endDay_38 <| zz_iload_1 C dX6_endDay_41 <| zc_iaload C _ (tS_K_rested hS) (znI (by omega)) (by omega) dX6_endDay_42 <| zpc 43 rfl <| ?_
    rw [hr]
    refine zz_iconst_1 C dX6_endDay_43 <| zz_iadd C dX6_endDay_44 <| zpc 45 rfl <| ?_
    rw [h1, nI_add]
    refine zz_mmin C hR (zle rfl) mX6_57 (zle rfl) (zle rfl) (zle rfl) dX6_endDay_45 <| zpc 48 rfl <| ?_
    rw [nI_min (by omega) (by omega)]
    refine zc_iastore C _ (tS_K_rested hS) (znI (by omega)) (by omega) dX6_endDay_48 <| zz_aload_0 C dX6_endDay_49 <| zz_getR C fX6_15 (tS_K hS) (tS_R_rested hS) dX6_endDay_50 <| zz_iload_1 C dX6_endDay_53 <| zc_iaload C _ (tS_K_rested hS) (znI (by omega)) (by omega) dX6_endDay_54 <| zpc 55 rfl <| ?_
    rw [zI_self]
    refine zz_iload_3 C dX6_endDay_55 <| zpc 56 rfl <| ?_
    refine zz_icmp_ne C 66 dX6_endDay_56 (by decide) (fun c56 => ?_) (fun c56 => ?_)
    · refine zf_return C hE (zle rfl) (zle rfl) dX6_endDay_66 rfl ?_
      rw [show (0 : Int32) = nI 0 from rfl, nI_leI (by omega) (by omega)] at c1
      rw [nI_eq (by omega) (by omega)] at c56
      have e2 : eR N ld rn rk = min N (rk + 1) := by unfold eR; rw [if_pos (by omega)]; split <;> omega
      rw [e2]
      first
        | (have e1 : eW N ld rn wk rk = 0 := by unfold eW; rw [if_pos (by omega), if_pos (by omega)]
           rw [e1]
           refine zH_ext (fun x y => ?_) (fun x y => rfl)
           simp only [zI_sI]
           split
           · rename_i q; rw [if_neg (by omega)]; rfl
           · rfl)
        | (have e1 : eW N ld rn wk rk = wk := by unfold eW; rw [if_pos (by omega), if_neg (by omega)]
           rw [e1]
           refine zH_ext (fun x y => ?_) (fun x y => rfl)
           simp only [zI_sI]
           split
           · rfl
           · split
             · rename_i q; rw [q.1, q.2]; exact hw
             · rfl)
    · refine zz_aload_0 C dX6_endDay_59 <| zz_getR C fX6_9 (tS_K hS) (tS_R_wear hS) dX6_endDay_60 <| zz_iload_1 C dX6_endDay_63 <| zz_iconst_0 C dX6_endDay_64 <| zc_iastore C _ (tS_K_wear hS) (znI (by omega)) (by omega) dX6_endDay_65 <| zpc 66 rfl <| ?_
      refine zf_return C hE (zle rfl) (zle rfl) dX6_endDay_66 rfl ?_
      rw [show (0 : Int32) = nI 0 from rfl, nI_leI (by omega) (by omega)] at c1
      rw [nI_eq (by omega) (by omega)] at c56
      have e2 : eR N ld rn rk = min N (rk + 1) := by unfold eR; rw [if_pos (by omega)]; split <;> omega
      rw [e2]
      first
        | (have e1 : eW N ld rn wk rk = 0 := by unfold eW; rw [if_pos (by omega), if_pos (by omega)]
           rw [e1]
           refine zH_ext (fun x y => ?_) (fun x y => rfl)
           simp only [zI_sI]
           split
           · rename_i q; rw [if_neg (by omega)]; rfl
           · rfl)
        | (have e1 : eW N ld rn wk rk = wk := by unfold eW; rw [if_pos (by omega), if_neg (by omega)]
           rw [e1]
           refine zH_ext (fun x y => ?_) (fun x y => rfl)
           simp only [zI_sI]
           split
           · rfl
           · split
             · rename_i q; rw [q.1, q.2]; exact hw
             · rfl)
  · refine zz_aload_0 C dX6_endDay_4 <| zz_getR C fX6_9 (tS_K hS) (tS_R_wear hS) dX6_endDay_5 <| zz_iload_1 C dX6_endDay_8 <| zz_bipush C 99 dX6_endDay_9 (by decide) <| zz_aload_0 C dX6_endDay_11 <| zz_getR C fX6_9 (tS_K hS) (tS_R_wear hS) dX6_endDay_12 <| zz_iload_1 C dX6_endDay_15 <| zc_iaload C _ (tS_K_wear hS) (znI (by omega)) (by omega) dX6_endDay_16 <| zpc 17 rfl <| ?_
    rw [hw]
    refine zz_iload_2 C dX6_endDay_17 <| zz_iadd C dX6_endDay_18 <| zpc 19 rfl <| ?_
    rw [nI_add, h99]
    refine zz_mmin C hR (zle rfl) mX6_57 (zle rfl) (zle rfl) (zle rfl) dX6_endDay_19 <| zpc 22 rfl <| ?_
    rw [nI_min (by omega) (by omega)]
    refine zc_iastore C _ (tS_K_wear hS) (znI (by omega)) (by omega) dX6_endDay_22 <| zz_aload_0 C dX6_endDay_23 <| zz_getR C fX6_15 (tS_K hS) (tS_R_rested hS) dX6_endDay_24 <| zz_iload_1 C dX6_endDay_27 <| zz_iconst_0 C dX6_endDay_28 <| zc_iastore C _ (tS_K_rested hS) (znI (by omega)) (by omega) dX6_endDay_29 <| zpc 30 rfl <| ?_
    refine zf_return C hE (zle rfl) (zle rfl) dX6_endDay_30 rfl ?_
    rw [show (0 : Int32) = nI 0 from rfl, nI_leI (by omega) (by omega)] at c1
    have e1 : eW N ld rn wk rk = min 99 (wk + (ld + rn)) := by
      unfold eW; rw [if_neg (by omega)]; split <;> omega
    have e2 : eR N ld rn rk = 0 := by unfold eR; rw [if_neg (by omega)]
    rw [e1, e2]; rfl
end CS
