/-! ===== the reference: shutBy, many days ===== -/
theorem mWk.sc {h : zH} {L : yL} {A : yN} {p : yP} {x : yS} (hS : sOk L A p x.1.1) (hm : mWk h L A p x) (f g : Nat → Int32) (a c : Int32) : mWk (mSc h f g a c) L A p x := by
  obtain ⟨h1, h2, h3, h4, h5, h6, h7, h8, h9⟩ := hm
  have hn := hS.1.2.2.1
  have a1 := zAg1.sc h f g a c
  refine ⟨mSt.ag a1 hS h1, fun k hk => ?_, ?_, ?_, h5, h6, ?_, ?_, ?_⟩
  · rw [a1.1 _ _ (by unfold sc1; omega)]; exact h2 k hk
  · rw [a1.1 _ _ (by unfold sc1; omega)]; exact h3
  · rw [a1.1 _ _ (by unfold sc1; omega)]; exact h4
  · rw [zI_mSc]; simpa using h7
  · rw [zI_mSc]; simpa using h8
  · rw [zI_mSc]; simpa using h9
theorem mRo.ag {h h' : zH} {R : Nat × (Nat → Nat)} (a : zAg2 h h') (hm : mRo h R) : mRo h' R := by
  refine ⟨?_, fun k hk => ?_⟩
  · rw [a.1 _ _ (by unfold sc2 sc1; omega)]; exact hm.1
  · rw [a.1 _ _ (by unfold sc2 sc1; omega)]; exact hm.2 k hk
theorem eW_le {N ld rn w r : Nat} (h : w ≤ 99) : eW N ld rn w r ≤ 99 := by
  unfold eW
  split
  · split <;> omega
  · split <;> omega
theorem eR_le {N ld rn r : Nat} : eR N ld rn r ≤ N := by
  unfold eR
  split
  · split <;> omega
  · omega
theorem wOk.day {L : yL} {A : yN} {p : yP} {x : yS} (s : Nat) (hW : wOk L A p x) : wOk L A p (dDay L A p s x) := by
  obtain ⟨⟨⟨n1, n2, n3, n4, n5⟩, hL, hp⟩, hN3, hN11, hrN⟩ := hW
  refine ⟨⟨⟨n1, n2, n3, n4, fun k hk => ?_⟩, hL, hp⟩, hN3, hN11, fun k hk => eR_le⟩
  obtain ⟨a1, a2, a3, a4, a5, a6, a7, a8⟩ := n5 k hk
  exact ⟨a1, a2, a3, a4, a5, a6, a7, eW_le a8⟩
/-- so many days by a rule -/
noncomputable def dDays (L : yL) (A : yN) (p : yP) (R : Nat × (Nat → Nat)) (rule : Nat) : Nat → yS → yS
  | 0, x => x
  | d + 1, x => dDay L A p (rShut L A p R (dDays L A p R rule d x) rule) (dDays L A p R rule d x)
theorem dDays_tm (L : yL) (A : yN) (p : yP) (R : Nat × (Nat → Nat)) (rule : Nat) (x : yS) : ∀ d, (dDays L A p R rule d x).2.1 = (x.2.1.1 + d, x.2.1.2 + d)
  | 0 => rfl
  | d + 1 => by
    show ((dDays L A p R rule d x).2.1.1 + 1, (dDays L A p R rule d x).2.1.2 + 1) = _
    rw [dDays_tm L A p R rule x d]; rfl
theorem wOk.days {L : yL} {A : yN} {p : yP} {x : yS} (R : Nat × (Nat → Nat)) (rule : Nat) (hW : wOk L A p x) : ∀ d, wOk L A p (dDays L A p R rule d x)
  | 0 => hW
  | d + 1 => (wOk.days R rule hW d).day _
theorem rShut_lt {L : yL} {A : yN} {p : yP} {x : yS} {R : Nat × (Nat → Nat)} {rule : Nat} (hW : wOk L A p x) (hR : roOk R) (hr : rule = 1 → 0 < R.1) : rShut L A p R x rule < 2 ^ 30 := by
  have hn := hW.1.1.2.2.1
  match rule with
  | 0 => exact (by decide : 0 < 2 ^ 30)
  | 1 => exact hR.2 _ (Nat.mod_lt _ (hr rfl))
  | 2 =>
    show (match rWst A.2 x.1.1 A.1.1 with | none => 0 | some k => @ite _ (rAll L A p x.1.1 x.2.1.1 x.2.1.2 (2 ^ k)) (Classical.propDecidable _) (2 ^ k) 0) < 2 ^ 30
    split
    · decide
    · rename_i k hq
      have := rWst_lt hq
      have hp : 2 ^ k < 2 ^ 30 := Nat.pow_lt_pow_right (by decide) (by omega)
      split <;> omega
  | q + 3 =>
    have h1 := rRst_lt L A p x.1.1 x.1.2 x.2.1.1 x.2.1.2 A.1.1
    have h2 : 2 ^ A.1.1 ≤ 2 ^ 11 := Nat.pow_le_pow_right (by decide) (by omega)
    show rRst L A p x.1.1 x.1.2 x.2.1.1 x.2.1.2 A.1.1 < _
    omega
section MU
variable {E : zE} {b : Nat} {G : zG} {t : zT} {h : zH} {L : yL} {A : yN} {p : yP} {x : yS} {R : Nat × (Nat → Nat)}
theorem c_shutBy {l : Launch} (hT : zTM t) (hW : wOk L A p x) (hm : mWk h L A p x) (hRo : roOk R) (hro : mRo h R) (rule : Nat) (h3 : rule ≤ 3) (hr1 : rule = 1 → 0 < R.1) : zMet E b l yX11_shutBy cX11_shutBy 5 (some .int) 4 0 0 [.ref (b + 157), .int (nI rule)] t h (qI (mShPost h t (rShut L A p R x rule))) := by
  obtain ⟨hS, hN3, hN11, hrN⟩ := hW
  obtain ⟨hst, hr, hrl, hp7, -⟩ := hm
  have hq : rule = 0 ∨ rule = 1 ∨ rule = 2 ∨ rule = 3 := by omega
  rcases hq with e | e | e | e
  ·
    refine zMet.of (ls := [some (.ref (b + 157)), some (.int (nI rule)), none, none, none]) (by decide) (zle rfl) 3 rfl ?_
    intro G hlG C hR hE hin
    subst e
    refine zz_iload_1 C dX11_shutBy_0 <| zpc 1 rfl <| ?_
    refine zz_if_ne C 6 dX11_shutBy_1 (by decide) (fun c1 => ?_) (fun c1 => ?_)
    · exact absurd rfl c1
    · refine zz_iconst_0 C dX11_shutBy_4 <| zpc 5 rfl <| ?_
      refine zy_ireturn C hE (zle rfl) (zle rfl) dX11_shutBy_5 ?_
      exact ⟨rfl, rfl, _, _, _, _, (mSc_self h).symm⟩
  · have hR0 := hr1 e
    have hR30 := hRo.1
    obtain ⟨-, -, hg3, hg4⟩ := hst.2.2.2
    have hmod : x.2.1.2 % R.1 < R.1 := Nat.mod_lt _ hR0
    refine zMet.of (ls := [some (.ref (b + 157)), some (.int (nI rule)), none, none, none]) (by decide) (zle rfl) 3 rfl ?_
    intro G hlG C hR hE hin
    subst e
    refine zz_iload_1 C dX11_shutBy_0 <| zpc 1 rfl <| ?_
    refine zz_if_ne C 6 dX11_shutBy_1 (by decide) (fun c1 => ?_) (fun c1 => ?_)
    · refine zz_iload_1 C dX11_shutBy_6 <| zz_iconst_1 C dX11_shutBy_7 <| zpc 8 rfl <| ?_
      refine zz_icmp_ne C 26 dX11_shutBy_8 (by decide) (fun c8 => ?_) (fun c8 => ?_)
      · exact absurd rfl c8
      · refine zz_aload_0 C dX11_shutBy_11 <| zz_getR C fX11_55 (tM_K hT) (tM_R_row hT) dX11_shutBy_12 <| zz_aload_0 C dX11_shutBy_15 <| zz_getI C fX11_236 (tM_K hT) dX11_shutBy_16 <| zpc 19 rfl <| ?_
        rw [hp7]
        refine zz_aload_0 C dX11_shutBy_19 <| zz_getI C fX11_191 (tM_K hT) dX11_shutBy_20 <| zpc 23 rfl <| ?_
        rw [hro.1]
        refine zz_irem C dX11_shutBy_23 (by exact nI_ne0 hR0 (by omega)) <| zpc 24 rfl <| ?_
        rw [pk_rem (by omega) (by omega) (by omega)]
        refine zc_iaload C _ (tM_K_row hT) (znI (by omega)) (by omega) dX11_shutBy_24 <| zpc 25 rfl <| ?_
        rw [hro.2 _ hmod]
        refine zy_ireturn C hE (zle rfl) (zle rfl) dX11_shutBy_25 ?_
        exact ⟨rfl, rfl, _, _, _, _, (mSc_self h).symm⟩
    · exact absurd c1 (by decide)
  ·
    refine zMet.of (ls := [some (.ref (b + 157)), some (.int (nI rule)), none, none, none]) (by decide) (zle rfl) 3 rfl ?_
    intro G hlG C hR hE hin
    subst e
    refine zz_iload_1 C dX11_shutBy_0 <| zpc 1 rfl <| ?_
    refine zz_if_ne C 6 dX11_shutBy_1 (by decide) (fun c1 => ?_) (fun c1 => ?_)
    · refine zz_iload_1 C dX11_shutBy_6 <| zz_iconst_1 C dX11_shutBy_7 <| zpc 8 rfl <| ?_
      refine zz_icmp_ne C 26 dX11_shutBy_8 (by decide) (fun c8 => ?_) (fun c8 => ?_)
      · refine zz_iconst_0 C dX11_shutBy_26 <| zz_istore_2 C (zle rfl) rfl dX11_shutBy_27 <| zz_iload_1 C dX11_shutBy_28 <| zz_iconst_2 C dX11_shutBy_29 <| zpc 30 rfl <| ?_
        refine zz_icmp_ne C 121 dX11_shutBy_30 (by decide) (fun c30 => ?_) (fun c30 => ?_)
        · exact absurd rfl c30
        · refine zz_iconst_m1 C dX11_shutBy_33 <| zz_istore_3 C (zle rfl) rfl dX11_shutBy_34 <| zz_iconst_0 C dX11_shutBy_35 <| zz_istore_4 C (zle rfl) rfl dX11_shutBy_36 <| zpc 38 rfl <| ?_
          exact l_wst hT hS hst C (fun x4 => l_wst2 hT hS hst C hR rfl hE x4) A.1.1 0 (by omega)
      · exact absurd c8 (by decide)
    · exact absurd c1 (by decide)
  ·
    refine zMet.of (ls := [some (.ref (b + 157)), some (.int (nI rule)), none, none, none]) (by decide) (zle rfl) 3 rfl ?_
    intro G hlG C hR hE hin
    subst e
    rw [show h = mSc h (fun k => zI h 236 k) (fun k => zI h 237 k) (zI h 157 50) (zI h 157 51) from (mSc_self h).symm]
    generalize (fun k => zI h 236 k) = f0
    generalize (fun k => zI h 237 k) = g0
    generalize zI h 157 50 = a0
    generalize zI h 157 51 = c0
    refine zz_iload_1 C dX11_shutBy_0 <| zpc 1 rfl <| ?_
    refine zz_if_ne C 6 dX11_shutBy_1 (by decide) (fun c1 => ?_) (fun c1 => ?_)
    · refine zz_iload_1 C dX11_shutBy_6 <| zz_iconst_1 C dX11_shutBy_7 <| zpc 8 rfl <| ?_
      refine zz_icmp_ne C 26 dX11_shutBy_8 (by decide) (fun c8 => ?_) (fun c8 => ?_)
      · refine zz_iconst_0 C dX11_shutBy_26 <| zz_istore_2 C (zle rfl) rfl dX11_shutBy_27 <| zz_iload_1 C dX11_shutBy_28 <| zz_iconst_2 C dX11_shutBy_29 <| zpc 30 rfl <| ?_
        refine zz_icmp_ne C 121 dX11_shutBy_30 (by decide) (fun c30 => ?_) (fun c30 => ?_)
        · refine zz_iconst_0 C dX11_shutBy_121 <| zz_istore_3 C (zle rfl) rfl dX11_shutBy_122 <| zpc 123 rfl <| ?_
          exact l_rst (r := x.1.2) hT hS hst hr (fun k hk => by have := hrN k hk; omega) C hR hE A.1.1 0 f0 g0 a0 c0 (by omega)
        · exact absurd c30 (by decide)
      · exact absurd c8 (by decide)
    · exact absurd c1 (by decide)
/-- many days by a rule -/
theorem l_goes (hT : zTM t) (hW : wOk L A p x) (hRo : roOk R) (hro : mRo h R) {rule days : Nat} (h3 : rule ≤ 3) (hr1 : rule = 1 → 0 < R.1) (hd : days < 2 ^ 19) (htm : x.2.1.1 + days < 2 ^ 20) (C : zCx E b G RX11 cX11_goes 4 none) (hR : zRoom G 5 0 0) (hE : zEnd E b G 0 0 (qV (fun t' h' => t' = t ∧ zAg2 h h' ∧ mWk h' L A p (dDays L A p R rule days x)))) :
    ∀ (m d : Nat) (hc : zH), d + m = days → zAg2 h hc → mWk hc L A p (dDays L A p R rule d x) → zAW E b G 4 0 0 2 [some (.ref (b + 157)), some (.int (nI rule)), some (.int (nI days)), some (.int (nI d))] [] t hc := by
  intro m
  induction m with
  | zero =>
    intro d hc hdd ha hm
    refine zz_iload_3 C dX11_goes_2 <| zz_iload_2 C dX11_goes_3 <| zpc 4 rfl <| ?_
    refine zz_icmp_ge C 22 dX11_goes_4 (by decide) (fun c4 => ?_) (fun c4 => ?_)
    · refine zy_return C hE (zle rfl) (zle rfl) dX11_goes_22 ?_
      exact ⟨rfl, ha, by rw [show days = d by omega]; exact hm⟩
    · exact absurd (nI_le (by omega) (by omega)) c4
  | succ m ih =>
    intro d hc hdd ha hm
    have hWd := hW.days R rule d
    have hlt := rShut_lt (rule := rule) hWd hRo hr1
    have htd : (dDays L A p R rule d x).2.1.1 = x.2.1.1 + d := by rw [dDays_tm]
    refine zz_iload_3 C dX11_goes_2 <| zz_iload_2 C dX11_goes_3 <| zpc 4 rfl <| ?_
    refine zz_icmp_ge C 22 dX11_goes_4 (by decide) (fun c4 => ?_) (fun c4 => ?_)
    · exact absurd c4 (nI_ge (by omega) (by omega))
    · refine zz_aload_0 C dX11_goes_7 <| zz_aload_0 C dX11_goes_8 <| zz_iload_1 C dX11_goes_9 <| zpc 10 rfl <| ?_
      refine zy_callVI C hR [_] (c_shutBy hT hWd hm hRo (hro.ag ha) rule h3 hr1) lX11_290 rfl (tM_K hT) (by decide) rfl ⟨zle rfl, zle rfl, zle rfl, zle rfl⟩ (zle rfl) dX11_goes_10 ?_
      intro v t' h' hv; obtain ⟨rfl, rfl, f2, g2, a2, c2, rfl⟩ := hv
      refine zy_callVV C hR [_] (c_goesBy hT hWd (hm.sc hWd.1 f2 g2 a2 c2) (rShut L A p R (dDays L A p R rule d x) rule) (by omega) (by rw [htd]; omega)) lX11_293 rfl (tM_K hT) (by decide) rfl ⟨zle rfl, zle rfl, zle rfl, zle rfl⟩ (zle rfl) dX11_goes_13 ?_
      intro t' h' hv; obtain ⟨rfl, a3, hm3, -⟩ := hv
      refine zz_iinc_3 C _ (zle rfl) rfl dX11_goes_16 nI_s <| zz_goto C 2 dX11_goes_19 (by decide) <| zpc 2 rfl <| ?_
      exact ih (d + 1) _ (by omega) ((ha.tr (zAg2.of1 (zAg1.sc _ _ _ _ _))).tr a3) hm3
theorem c_goes {l : Launch} (hT : zTM t) (hW : wOk L A p x) (hm : mWk h L A p x) (hRo : roOk R) (hro : mRo h R) (rule days : Nat) (h3 : rule ≤ 3) (hr1 : rule = 1 → 0 < R.1) (hd : days < 2 ^ 19) (htm : x.2.1.1 + days < 2 ^ 20) : zMet E b l yX11_goes cX11_goes 4 none 5 0 0 [.ref (b + 157), .int (nI rule), .int (nI days)] t h (qV (fun t' h' => t' = t ∧ zAg2 h h' ∧ mWk h' L A p (dDays L A p R rule days x))) := by
  refine zMet.of (ls := [some (.ref (b + 157)), some (.int (nI rule)), some (.int (nI days)), none]) (by decide) (zle rfl) 1 rfl ?_
  intro G hlG C hR hE hin
  refine zz_iconst_0 C dX11_goes_0 <| zz_istore_3 C (zle rfl) rfl dX11_goes_1 <| zpc 2 rfl <| ?_
  exact l_goes hT hW hRo hro h3 hr1 hd htm C hR hE days 0 h (by omega) (zAg2.rf h) hm
/-- the first road past use -/
def rPast (F : Nat → Nat → Nat) (w : Nat → Nat) (n : Nat) : Option Nat := (List.range n).find? (fun k => decide (F k 4 < w k))
theorem rPast_some {F : Nat → Nat → Nat} {w : Nat → Nat} {n k : Nat} (hk : k < n) (h1 : F k 4 < w k) (h2 : ∀ j, j < k → w j ≤ F j 4) : rPast F w n = some k := by
  unfold rPast
  rw [List.find?_range_eq_some]
  simp only [decide_eq_true_eq, List.mem_range, Bool.not_eq_true', decide_eq_false_iff_not]
  exact ⟨h1, hk, fun j hj => by have := h2 j hj; omega⟩
theorem rPast_none {F : Nat → Nat → Nat} {w : Nat → Nat} {n : Nat} (h2 : ∀ j, j < n → w j ≤ F j 4) : rPast F w n = none := by
  unfold rPast
  rw [List.find?_eq_none]
  intro j hj
  have := h2 j (List.mem_range.mp hj)
  simp; omega
theorem l_past {w : Nat → Nat} {P n tl : Nat} {F : Nat → Nat → Nat} (hT : zTM t) (hN : nOk P n tl F w) (hm : mNet h P n tl F w) (C : zCx E b G RX11 cX11_pastUse 2 (some .int)) (hE : zEnd E b G 0 0 (qIf (oI (rPast F w n)) t h)) :
    ∀ (m k : Nat), k + m = n → (∀ j, j < k → w j ≤ F j 4) → zAW E b G 2 0 0 2 [some (.ref (b + 157)), some (.int (nI k))] [] t h := by
  obtain ⟨-, -, hn, -, hb⟩ := hN
  obtain ⟨-, hr, -, hf⟩ := hm
  intro m
  induction m with
  | zero =>
    intro k hk hno
    refine zz_iload_1 C dX11_pastUse_2 <| zz_aload_0 C dX11_pastUse_3 <| zz_getI C fX11_204 (tM_K hT) dX11_pastUse_4 <| zpc 7 rfl <| ?_
    rw [hr]
    refine zz_icmp_ge C 35 dX11_pastUse_7 (by decide) (fun c7 => ?_) (fun c7 => ?_)
    · refine zz_iconst_m1 C dX11_pastUse_35 <| zpc 36 rfl <| ?_
      exact zf_ireturn C hE (zle rfl) (zle rfl) dX11_pastUse_36 (by rw [rPast_none (fun j hj => hno j (by omega))]; rfl) rfl rfl
    · exact absurd (nI_le (by omega) (by omega)) c7
  | succ m ih =>
    intro k hk hno
    have hwk := (hf k (by omega)).2
    have hfk := (hf k (by omega)).1 4 (by omega)
    have hbk := (hb k (by omega))
    refine zz_iload_1 C dX11_pastUse_2 <| zz_aload_0 C dX11_pastUse_3 <| zz_getI C fX11_204 (tM_K hT) dX11_pastUse_4 <| zpc 7 rfl <| ?_
    rw [hr]
    refine zz_icmp_ge C 35 dX11_pastUse_7 (by decide) (fun c7 => ?_) (fun c7 => ?_)
    · exact absurd c7 (nI_ge (by omega) (by omega))
    · refine zz_aload_0 C dX11_pastUse_10 <| zz_getR C fX11_61 (tM_K hT) (tM_R_w hT) dX11_pastUse_11 <| zz_iload_1 C dX11_pastUse_14 <| zc_iaload C _ (tM_K_w hT) (znI (by omega)) (by omega) dX11_pastUse_15 <| zpc 16 rfl <| ?_
      rw [hwk]
      refine zz_aload_0 C dX11_pastUse_16 <| zz_getR C fX11_34 (tM_K hT) (tM_R_road hT) dX11_pastUse_17 <| zz_iload_1 C dX11_pastUse_20 <| zc_row C _ (tM_K_road hT) (tM_row_road hT) (znI (by omega)) (by omega) dX11_pastUse_21 <| fun r21 => ?_
      refine zz_iconst_4 C dX11_pastUse_22 <| zc_iaload C 4 (tM_KR_road hT _ r21) (zlit _ (by decide)) (by decide) dX11_pastUse_23 <| zpc 24 rfl <| ?_
      rw [hfk]
      refine zz_icmp_le C 29 dX11_pastUse_24 (by decide) (fun c24 => ?_) (fun c24 => ?_)
      · refine zz_iinc_1 C _ (zle rfl) rfl dX11_pastUse_29 nI_s <| zz_goto C 2 dX11_pastUse_32 (by decide) <| zpc 2 rfl <| ?_
        refine ih (k + 1) (by omega) (fun j hj => ?_)
        rw [nI_leI (by omega) (by omega)] at c24
        by_cases hjk : j = k
        · rw [hjk]; exact c24
        · exact hno j (by omega)
      · refine zz_iload_1 C dX11_pastUse_27 <| zpc 28 rfl <| ?_
        refine zf_ireturn C hE (zle rfl) (zle rfl) dX11_pastUse_28 ?_ rfl rfl
        rw [nI_leI (by omega) (by omega)] at c24
        rw [rPast_some (by omega) (Nat.not_le.mp c24) hno]; rfl
theorem c_pastUse {l : Launch} {w : Nat → Nat} {P n tl : Nat} {F : Nat → Nat → Nat} (hT : zTM t) (hN : nOk P n tl F w) (hm : mNet h P n tl F w) : zMet E b l yX11_pastUse cX11_pastUse 2 (some .int) 1 0 0 [.ref (b + 157)] t h (qIf (oI (rPast F w n)) t h) := by
  refine zMet.of (ls := [some (.ref (b + 157)), none]) (by decide) (zle rfl) 1 rfl ?_
  intro G hlG C hR hE hin
  refine zz_iconst_0 C dX11_pastUse_0 <| zz_istore_1 C (zle rfl) rfl dX11_pastUse_1 <| zpc 2 rfl <| ?_
  exact l_past hT hN hm C hE n 0 (by omega) (fun j hj => absurd hj (by omega))
end MU
