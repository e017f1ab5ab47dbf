/-! ===== the class: agreement but for a stretch of cells; what its cells hold ===== -/
def cAg (lo hi : Nat) (h h' : zH) : Prop := (∀ i k, ¬ (lo ≤ i ∧ i ≤ hi) → zI h' i k = zI h i k) ∧ ∀ i k, ¬ (lo ≤ i ∧ i ≤ hi) → zL h' i k = zL h i k
theorem cAg.rf {lo hi : Nat} (h : zH) : cAg lo hi h h := ⟨fun _ _ _ => rfl, fun _ _ _ => rfl⟩
theorem cAg.tr {lo hi : Nat} {h h1 h2 : zH} (a : cAg lo hi h h1) (c : cAg lo hi h1 h2) : cAg lo hi h h2 := ⟨fun i k q => (c.1 i k q).trans (a.1 i k q), fun i k q => (c.2 i k q).trans (a.2 i k q)⟩
theorem cAg.wd {lo hi lo' hi' : Nat} {h h' : zH} (a : cAg lo hi h h') (h1 : lo' ≤ lo) (h2 : hi ≤ hi') : cAg lo' hi' h h' := ⟨fun i k q => a.1 i k (by omega), fun i k q => a.2 i k (by omega)⟩
theorem cAg.sI {lo hi : Nat} {h h' : zH} (a : cAg lo hi h h') {i k : Nat} {v : Int32} (h1 : lo ≤ i) (h2 : i ≤ hi) : cAg lo hi h (zsI h' i k v) := ⟨fun j q hn => by
  rw [zI_sI, if_neg (by omega)]
  exact a.1 j q hn, a.2⟩
theorem cAg.sL {lo hi : Nat} {h h' : zH} (a : cAg lo hi h h') {i k : Nat} {v : Int64} (h1 : lo ≤ i) (h2 : i ≤ hi) : cAg lo hi h (zsL h' i k v) := ⟨a.1, fun j q hn => by
  rw [zL_sL, if_neg (by omega)]
  exact a.2 j q hn⟩
theorem cAg.rI {lo hi : Nat} {h h' : zH} (a : cAg lo hi h h') {i : Nat} {f : Nat → Int32} (h1 : lo ≤ i) (h2 : i ≤ hi) : cAg lo hi h (zrI h' i f) := ⟨fun j q hn => by
  rw [zI_rI, if_neg (by omega)]
  exact a.1 j q hn, a.2⟩
/-- a Land at i: places, roads, goings, wet days -/
def cLd (h : zH) (i : Nat) (L : yL) (n0 : Nat) : Prop := (zI h i 0 = nI L.1.1 ∧ zI h i 1 = nI n0 ∧ zI h i 3 = nI L.1.2.1 ∧ zI h i 4 = nI L.1.2.2) ∧ (∀ g, g < L.1.2.1 → ∀ q, q < 6 → zI h (i + 16 + 1 + g) q = nI (L.2.1 g q)) ∧ ∀ k, k < L.1.2.2 → zI h (i + 31) k = nI (L.2.2 k)
/-- where a road's facts lie, with one that might be behind all others -/
def rid (i n0 : Nat) (ex : Option Nat) (k : Nat) : Nat := match ex with
  | none => i + 1 + 1 + k
  | some x => if k < n0 then i + 1 + 1 + k else i + 1 + 1 + (10 + x)
def exN (ex : Option Nat) : Nat := match ex with
  | none => 0
  | some _ => 1
def cRd (h : zH) (i n0 : Nat) (ex : Option Nat) (A : yN) : Prop := (n0 ≤ 10 ∧ A.1.1 = n0 + exN ex ∧ ∀ x, ex = some x → x < 4) ∧ ∀ k, k < A.1.1 → ∀ q, q < 5 → zI h (rid i n0 ex k) q = nI (A.2 k q)
/-- a State at j: n roads of the walk, behind them whole ones by the rest N -/
def cSt (h : zH) (j n N day : Nat) (w r : Nat → Nat) (R : Nat × (Nat → Nat)) : Prop := (zI h j 0 = nI day ∧ zI h j 4 = nI R.1) ∧ (∀ k, k < n → zI h (j + 1) k = nI (w k) ∧ zI h (j + 2) k = nI (r k)) ∧ (∀ k, n ≤ k → k < 11 → zI h (j + 1) k = 0 ∧ zI h (j + 2) k = nI N) ∧ ∀ k, k < R.1 → zI h (j + 3) k = nI (R.2 k)
theorem cLd.ag {h h' : zH} {lo hi i n0 : Nat} {L : yL} (a : cAg lo hi h h') (hi : i + 31 < lo ∨ hi < i) (hg : L.1.2.1 ≤ 14) (hm : cLd h i L n0) : cLd h' i L n0 := by
  obtain ⟨⟨h1, h2, h3, h4⟩, h5, h6⟩ := hm
  refine ⟨⟨?_, ?_, ?_, ?_⟩, fun g hg q hq => ?_, fun k hk => ?_⟩
  · rw [a.1 _ _ (by omega)]; exact h1
  · rw [a.1 _ _ (by omega)]; exact h2
  · rw [a.1 _ _ (by omega)]; exact h3
  · rw [a.1 _ _ (by omega)]; exact h4
  · rw [a.1 _ _ (by omega)]; exact h5 g hg q hq
  · rw [a.1 _ _ (by omega)]; exact h6 k hk
theorem rid_lt {i n0 : Nat} {ex : Option Nat} {k : Nat} (h0 : n0 ≤ 10) (hx : ∀ x, ex = some x → x < 4) (hk : k < n0 + exN ex) : i + 2 ≤ rid i n0 ex k ∧ rid i n0 ex k < i + 16 := by
  cases ex with
  | none => unfold rid exN at *; dsimp only at *; omega
  | some x =>
    have := hx x rfl
    unfold rid exN at *
    dsimp only at *
    split <;> omega
theorem cRd.ag {h h' : zH} {lo hi i n0 : Nat} {ex : Option Nat} {A : yN} (a : cAg lo hi h h') (hi : i + 31 < lo ∨ hi < i) (hm : cRd h i n0 ex A) : cRd h' i n0 ex A := by
  refine ⟨hm.1, fun k hk q hq => ?_⟩
  have := rid_lt (i := i) (k := k) hm.1.1 hm.1.2.2 (by rw [← hm.1.2.1]; exact hk)
  rw [a.1 _ _ (by omega)]
  exact hm.2 k hk q hq
theorem cSt.ag {h h' : zH} {lo hi j n N day : Nat} {w r : Nat → Nat} {R : Nat × (Nat → Nat)} (a : cAg lo hi h h') (hi : j + 3 < lo ∨ hi < j) (hm : cSt h j n N day w r R) : cSt h' j n N day w r R := by
  obtain ⟨⟨h1, h2⟩, h3, h4, h5⟩ := hm
  refine ⟨⟨?_, ?_⟩, fun k hk => ?_, fun k hk hk2 => ?_, fun k hk => ?_⟩
  · rw [a.1 _ _ (by omega)]; exact h1
  · rw [a.1 _ _ (by omega)]; exact h2
  · rw [a.1 _ _ (by omega), a.1 _ _ (by omega)]; exact h3 k hk
  · rw [a.1 _ _ (by omega), a.1 _ _ (by omega)]; exact h4 k hk hk2
  · rw [a.1 _ _ (by omega)]; exact h5 k hk
section CL
variable {E : zE} {b : Nat} {G : zG} {t : zT} {h : zH} {l : Launch} {i j n n0 N day : Nat} {L : yL} {A : yN} {w r : Nat → Nat} {R : Nat × (Nat → Nat)} {a c e : Nat}
/-! ===== Land ===== -/
theorem l1_wet (hL : zTL t i) (hO : lOkL L) (hm : cLd h i L n0) (hd : day < 2 ^ 31) (C : zCx E b G RX1 cX1_isWet 3 (some .boolean)) {f : Int32} (hE : zEnd E b G 0 0 (qIf f t h)) (hf1 : dWet L day → f = 1) (hf0 : ¬ dWet L day → f = 0) :
    ∀ k, k ≤ L.1.2.2 → (∀ j, j < k → ¬ L.2.2 j = day) → zAW E b G 3 0 0 2 [some (.ref (b + i)), some (.int (nI day)), some (.int (nI k))] [] t h := by
  refine zLoop L.1.2.2 fun k hk ih hno => ?_
  have hw8 := hO.2.2.2.1
  have hl4 := hm.1.2.2.2
  refine zz_iload_2 C dX1_isWet_2 <| zz_aload_0 C dX1_isWet_3 <| zz_getI C fX1_39 (tL_K hL) dX1_isWet_4 <| zpc 7 rfl <| ?_
  rw [hl4]
  refine zz_icmp_ge C 28 dX1_isWet_7 (by decide) (fun c7 => ?_) (fun c7 => ?_)
  · rw [nI_leI (by omega) (by omega)] at c7
    refine zz_iconst_0 C dX1_isWet_28 <| zpc 29 rfl <| ?_
    exact zf_zreturn C hE (zle rfl) (zle rfl) dX1_isWet_29 (by decide) (by exact (hf0 (fun q => by obtain ⟨j, hj, he⟩ := q; exact hno j (by omega) he)).symm) rfl rfl
  · rw [nI_leI (by omega) (by omega)] at c7
    refine zz_aload_0 C dX1_isWet_10 <| zz_getR C fX1_19 (tL_K hL) (tL_R_wetDays hL) dX1_isWet_11 <| zz_iload_2 C dX1_isWet_14 <| zc_iaload C _ (tL_K_wetDays hL) (znI (by omega)) (by omega) dX1_isWet_15 <| zpc 16 rfl <| ?_
    rw [hm.2.2 k (by omega)]
    refine zz_iload_1 C dX1_isWet_16 <| zpc 17 rfl <| ?_
    refine zz_icmp_ne C 22 dX1_isWet_17 (by decide) (fun c17 => ?_) (fun c17 => ?_)
    · refine zz_iinc_2 C _ (zle rfl) rfl dX1_isWet_22 nI_s <| zz_goto C 2 dX1_isWet_25 (by decide) <| zpc 2 rfl <| ?_
      have := hO.2.2.2.2.2 k (by omega)
      rw [nI_eq (by omega) (by omega)] at c17
      refine ih (by omega) (fun j hj => ?_)
      by_cases hjk : j = k
      · rw [hjk]; exact c17
      · exact hno j (by omega)
    · refine zz_iconst_1 C dX1_isWet_20 <| zpc 21 rfl <| ?_
      refine zf_zreturn C hE (zle rfl) (zle rfl) dX1_isWet_21 (by decide) ?_ rfl rfl
      have := hO.2.2.2.2.2 k (by omega)
      rw [nI_eq (by omega) (by omega)] at c17
      exact (hf1 ⟨k, by omega, c17⟩).symm
theorem c1_isWet (hL : zTL t i) (hO : lOkL L) (hm : cLd h i L n0) (hd : day < 2 ^ 31) (f : Int32) (hf1 : dWet L day → f = 1) (hf0 : ¬ dWet L day → f = 0) : zMet E b l yX1_isWet cX1_isWet 3 (some .boolean) 1 0 0 [.ref (b + i), .int (nI day)] t h (qIf f t h) := by
  refine zMet.of (ls := [some (.ref (b + i)), some (.int (nI day)), none]) (by decide) (zle rfl) 1 rfl ?_
  intro G hlG C hR hE hin
  refine zz_iconst_0 C dX1_isWet_0 <| zz_istore_2 C (zle rfl) rfl dX1_isWet_1 <| zpc 2 rfl <| ?_
  exact l1_wet hL hO hm hd C hE hf1 hf0 0 (by omega) (fun j hj => absurd hj (by omega))
theorem c1_goesOn (hL : zTL t i) (hO : lOkL L) (hm : cLd h i L n0) (hd : day < 2 ^ 31) (g : Nat) (hg : g < L.1.2.1) : zMet E b l yX1_goesOn cX1_goesOn 3 (some .boolean) 1 0 0 [.ref (b + i), .int (nI g), .int (nI day)] t h (qIf (zb (gBit (L.2.1 g 2) day)) t h) := by
  have hng := hO.2.2.1
  have hGg := hO.2.2.2.2.1 g hg
  have h2 := hm.2.1 g hg 2 (by omega)
  have hz7 : (7 : Int32) = nI 7 := rfl
  refine zMet.of (ls := [some (.ref (b + i)), some (.int (nI g)), some (.int (nI day))]) (by decide) (zle rfl) 0 rfl ?_
  intro G hlG C hR hE hin
  refine zz_aload_0 C dX1_goesOn_0 <| zz_getR C fX1_16 (tL_K hL) (tL_R_goingFacts hL) dX1_goesOn_1 <| zz_iload_1 C dX1_goesOn_4 <| zc_row C _ (tL_K_goingFacts hL) (tL_row_goingFacts hL) (znI (by omega)) (by omega) dX1_goesOn_5 <| fun r5 => ?_
  refine zz_iconst_2 C dX1_goesOn_6 <| zc_iaload C 2 (tL_KR_goingFacts hL _ r5) (zlit _ (by decide)) (by decide) dX1_goesOn_7 <| zpc 8 rfl <| ?_
  rw [h2]
  refine zz_iload_2 C dX1_goesOn_8 <| zz_bipush C 7 dX1_goesOn_9 (by decide) <| zz_irem C dX1_goesOn_11 (by decide) <| zpc 12 rfl <| ?_
  rw [hz7, pk_rem (by omega) (by omega) (by omega)]
  refine zz_ishr C dX1_goesOn_12 <| zz_iconst_1 C dX1_goesOn_13 <| zz_iand C dX1_goesOn_14 <| zpc 15 rfl <| ?_
  rw [zbit (by omega) (by omega)]
  refine zz_iconst_1 C dX1_goesOn_15 <| zpc 16 rfl <| ?_
  refine zz_icmp_ne C 23 dX1_goesOn_16 (by decide) (fun c16 => ?_) (fun c16 => ?_)
  · refine zz_iconst_0 C dX1_goesOn_23 <| zpc 24 rfl <| ?_
    refine zf_zreturn C hE (zle rfl) (zle rfl) dX1_goesOn_24 (by decide) ?_ rfl rfl
    symm
    rw [show (1 : Int32) = nI 1 from rfl, nI_eq (by omega) (by omega)] at c16
    first | exact zb_t c16 | exact zb_f c16
  · refine zz_iconst_1 C dX1_goesOn_19 <| zz_goto C 24 dX1_goesOn_20 (by decide) <| zpc 24 rfl <| ?_
    refine zf_zreturn C hE (zle rfl) (zle rfl) dX1_goesOn_24 (by decide) ?_ rfl rfl
    symm
    rw [show (1 : Int32) = nI 1 from rfl, nI_eq (by omega) (by omega)] at c16
    first | exact zb_t c16 | exact zb_f c16
theorem c1_roadsWith {ex : Option Nat} (hL : zTL t i) (hx : ∀ x, ex = some x → x < 4) (h1 : zI h i 1 = nI n0) : zMet E b l yX1_roadsWith cX1_roadsWith 2 (some .int) 1 0 0 [.ref (b + i), .int (oI ex)] t h (qIf (nI (n0 + exN ex)) t h) := by
  have hq := oI_n1 (o := ex) (fun x q => by have := hx x q; omega)
  refine zMet.of (ls := [some (.ref (b + i)), some (.int (oI ex))]) (by decide) (zle rfl) 0 rfl ?_
  intro G hlG C hR hE hin
  refine zz_iload_1 C dX1_roadsWith_0 <| zz_iconst_m1 C dX1_roadsWith_1 <| zpc 2 rfl <| ?_
  refine zz_icmp_ne C 12 dX1_roadsWith_2 (by decide) (fun c2 => ?_) (fun c2 => ?_)
  · refine zz_aload_0 C dX1_roadsWith_12 <| zz_getI C fX1_30 (tL_K hL) dX1_roadsWith_13 <| zz_iconst_1 C dX1_roadsWith_16 <| zz_iadd C dX1_roadsWith_17 <| zpc 18 rfl <| ?_
    refine zf_ireturn C hE (zle rfl) (zle rfl) dX1_roadsWith_18 ?_ rfl rfl
    first
    | (rw [hq] at c2; rw [h1, c2]; rfl)
    | (rw [hq] at c2
       cases ex with
       | none => exact absurd rfl c2
       | some x => rw [h1, show (1 : Int32) = nI 1 from rfl, nI_add]; rfl)
  · refine zz_aload_0 C dX1_roadsWith_5 <| zz_getI C fX1_30 (tL_K hL) dX1_roadsWith_6 <| zz_goto C 18 dX1_roadsWith_9 (by decide) <| zpc 18 rfl <| ?_
    refine zf_ireturn C hE (zle rfl) (zle rfl) dX1_roadsWith_18 ?_ rfl rfl
    first
    | (rw [hq] at c2; rw [h1, c2]; rfl)
    | (rw [hq] at c2
       cases ex with
       | none => exact absurd rfl c2
       | some x => rw [h1, show (1 : Int32) = nI 1 from rfl, nI_add]; rfl)
theorem c1_factsWith {ex : Option Nat} (hL : zTL t i) (hx : ∀ x, ex = some x → x < 4) (h0 : n0 ≤ 10) (h1 : zI h i 1 = nI n0) (k : Nat) (hk : k < n0 + exN ex) : zMet E b l yX1_factsWith cX1_factsWith 3 (some (.array .int)) 1 0 0 [.ref (b + i), .int (nI k), .int (oI ex)] t h (qR b (fun r t' h' => r = rid i n0 ex k ∧ t' = t ∧ h' = h)) := by
  have hq := oI_n1 (o := ex) (fun x q => by have := hx x q; omega)
  refine zMet.of (ls := [some (.ref (b + i)), some (.int (nI k)), some (.int (oI ex))]) (by decide) (zle rfl) 0 rfl ?_
  intro G hlG C hR hE hin
  cases ex with
  | none =>
    unfold exN at hk
    dsimp only at hk
    refine zz_iload_1 C dX1_factsWith_0 <| zz_aload_0 C dX1_factsWith_1 <| zz_getI C fX1_30 (tL_K hL) dX1_factsWith_2 <| zpc 5 rfl <| ?_
    rw [h1]
    refine zz_icmp_lt C 13 dX1_factsWith_5 (by decide) (fun c5 => ?_) (fun c5 => ?_)
    · refine zz_aload_0 C dX1_factsWith_13 <| zz_getR C fX1_11 (tL_K hL) (tL_R_roadFacts hL) dX1_factsWith_14 <| zz_iload_1 C dX1_factsWith_17 <| zc_row C _ (tL_K_roadFacts hL) (tL_row_roadFacts hL) (znI (by omega)) (by omega) dX1_factsWith_18 <| fun r18 => ?_
      refine zz_goto C 31 dX1_factsWith_19 (by decide) <| zpc 31 rfl <| ?_
      refine zy_areturn C hE (zle rfl) (zle rfl) dX1_factsWith_31 ?_
      exact ⟨rfl, rfl, rfl⟩
    · exact absurd (nI_lt (by omega) (by omega)) c5
  | some x =>
    have hx4 := hx x rfl
    unfold exN at hk
    dsimp only at hk
    have e10 : (10 : Int32) + oI (some x) = nI (10 + x) := by
      show nI 10 + nI x = _
      exact nI_add 10 x
    refine zz_iload_1 C dX1_factsWith_0 <| zz_aload_0 C dX1_factsWith_1 <| zz_getI C fX1_30 (tL_K hL) dX1_factsWith_2 <| zpc 5 rfl <| ?_
    rw [h1]
    refine zz_icmp_lt C 13 dX1_factsWith_5 (by decide) (fun c5 => ?_) (fun c5 => ?_)
    · rw [nI_ltI (by omega) (by omega)] at c5
      refine zz_aload_0 C dX1_factsWith_13 <| zz_getR C fX1_11 (tL_K hL) (tL_R_roadFacts hL) dX1_factsWith_14 <| zz_iload_1 C dX1_factsWith_17 <| zc_row C _ (tL_K_roadFacts hL) (tL_row_roadFacts hL) (znI (by omega)) (by omega) dX1_factsWith_18 <| fun r18 => ?_
      refine zz_goto C 31 dX1_factsWith_19 (by decide) <| zpc 31 rfl <| ?_
      refine zy_areturn C hE (zle rfl) (zle rfl) dX1_factsWith_31 ?_
      refine ⟨?_, rfl, rfl⟩
      unfold rid
      dsimp only
      first | rw [if_pos c5] | rw [if_neg c5]
    · rw [nI_ltI (by omega) (by omega)] at c5
      refine zz_iload_2 C dX1_factsWith_8 <| zz_iconst_m1 C dX1_factsWith_9 <| zpc 10 rfl <| ?_
      refine zz_icmp_ne C 22 dX1_factsWith_10 (by decide) (fun c10 => ?_) (fun c10 => ?_)
      · refine zz_aload_0 C dX1_factsWith_22 <| zz_getR C fX1_11 (tL_K hL) (tL_R_roadFacts hL) dX1_factsWith_23 <| zz_bipush C 10 dX1_factsWith_26 (by decide) <| zz_iload_2 C dX1_factsWith_28 <| zz_iadd C dX1_factsWith_29 <| zpc 30 rfl <| ?_
        rw [e10]
        refine zc_row C _ (tL_K_roadFacts hL) (tL_row_roadFacts hL) (znI (by omega)) (by omega) dX1_factsWith_30 <| fun r30 => ?_
        refine zy_areturn C hE (zle rfl) (zle rfl) dX1_factsWith_31 ?_
        refine ⟨?_, rfl, rfl⟩
        unfold rid
        dsimp only
        first | rw [if_pos c5] | rw [if_neg c5]
      · exact absurd (hq.mp c10) (fun q => by cases q)
/-! ===== Plan ===== -/
def hPlain (h : zH) (N : Int32) : zH := zsI (zsI (zsI (zsI (zsI (zsI (zsI (zsI (zsI (zsI h 82 0 0) 82 1 (-1)) 82 2 0) 82 3 0) 82 4 0) 82 5 (-1)) 82 6 N) 82 7 0) 82 8 0) 82 9 0
theorem zI_hPlain (h : zH) (N : Int32) (i k : Nat) : zI (hPlain h N) i k = if i = 82 ∧ k < 10 then (if k = 1 ∨ k = 5 then -1 else if k = 6 then N else 0) else zI h i k := by
  unfold hPlain
  simp only [zI_sI]
  by_cases hi : i = 82
  · subst hi
    match k with
    | 0 => rfl
    | 1 => rfl
    | 2 => rfl
    | 3 => rfl
    | 4 => rfl
    | 5 => rfl
    | 6 => rfl
    | 7 => rfl
    | 8 => rfl
    | 9 => rfl
    | k + 10 =>
      simp
      intro q
      omega
  · simp [hi]
theorem c2_makePlain (hX : zTX t a c e) (hL : zTL t i) (hi : i ≠ 82) : zMet E b l yX2_makePlain cX2_makePlain 2 none 1 0 0 [.ref (b + 82), .ref (b + i)] t h (qVf t (hPlain h (zI h i 5))) := by
  refine zMet.of (ls := [some (.ref (b + 82)), some (.ref (b + i))]) (by decide) (zle rfl) 0 rfl ?_
  intro G hlG C hR hE hin
  refine zz_aload_0 C dX2_makePlain_0 <| zz_iconst_0 C dX2_makePlain_1 <| zy_putI C fX2_9 pX2_0 (tX_K_plan hX) dX2_makePlain_2 <| zz_aload_0 C dX2_makePlain_5 <| zz_iconst_m1 C dX2_makePlain_6 <| zy_putI C fX2_15 pX2_1 (tX_K_plan hX) dX2_makePlain_7 <| zz_aload_0 C dX2_makePlain_10 <| zz_iconst_0 C dX2_makePlain_11 <| zy_putZ C fX2_18 pX2_2 (by decide) (tX_K_plan hX) dX2_makePlain_12 <| zz_aload_0 C dX2_makePlain_15 <| zz_iconst_0 C dX2_makePlain_16 <| zy_putZ C fX2_22 pX2_3 (by decide) (tX_K_plan hX) dX2_makePlain_17 <| zz_aload_0 C dX2_makePlain_20 <| zz_iconst_0 C dX2_makePlain_21 <| ?_
  refine zy_putI C fX2_25 pX2_4 (tX_K_plan hX) dX2_makePlain_22 <| zz_aload_0 C dX2_makePlain_25 <| zz_iconst_m1 C dX2_makePlain_26 <| zy_putI C fX2_28 pX2_5 (tX_K_plan hX) dX2_makePlain_27 <| zz_aload_0 C dX2_makePlain_30 <| zz_aload_1 C dX2_makePlain_31 <| zz_getI C fX2_31 (tL_K hL) dX2_makePlain_32 <| zpc 35 rfl <| ?_
  rw [zI_sI, if_neg (by omega), zI_sI, if_neg (by omega), zI_sI, if_neg (by omega), zI_sI, if_neg (by omega), zI_sI, if_neg (by omega), zI_sI, if_neg (by omega)]
  refine zy_putI C fX2_36 pX2_6 (tX_K_plan hX) dX2_makePlain_35 <| zz_aload_0 C dX2_makePlain_38 <| zz_iconst_0 C dX2_makePlain_39 <| zy_putZ C fX2_37 pX2_7 (by decide) (tX_K_plan hX) dX2_makePlain_40 <| zz_aload_0 C dX2_makePlain_43 <| zz_iconst_0 C dX2_makePlain_44 <| zy_putZ C fX2_40 pX2_8 (by decide) (tX_K_plan hX) dX2_makePlain_45 <| zz_aload_0 C dX2_makePlain_48 <| zz_iconst_0 C dX2_makePlain_49 <| zy_putI C fX2_43 pX2_9 (tX_K_plan hX) dX2_makePlain_50 <| zpc 53 rfl <| ?_
  exact zf_return C hE (zle rfl) (zle rfl) dX2_makePlain_53 rfl rfl
theorem c2_isHeedless (hX : zTX t a c e) (g : Int32) : zMet E b l yX2_isHeedless cX2_isHeedless 2 (some .boolean) 1 0 0 [.ref (b + 82), .int g] t h (qIf (zb (¬ zI h 82 2 = 0 ∧ g = zI h 82 1)) t h) := by
  refine zMet.of (ls := [some (.ref (b + 82)), some (.int g)]) (by decide) (zle rfl) 0 rfl ?_
  intro G hlG C hR hE hin
  refine zz_aload_0 C dX2_isHeedless_0 <| zz_getI C fX2_18 (tX_K_plan hX) dX2_isHeedless_1 <| zpc 4 rfl <| ?_
  refine zz_if_eq C 19 dX2_isHeedless_4 (by decide) (fun c4 => ?_) (fun c4 => ?_)
  · refine zz_iconst_0 C dX2_isHeedless_19 <| zpc 20 rfl <| ?_
    exact zf_zreturn C hE (zle rfl) (zle rfl) dX2_isHeedless_20 (by decide) (by symm; first | exact zb_t ⟨c4, c12⟩ | exact zb_f (fun q => c12 q.2) | exact zb_f (fun q => q.1 c4)) rfl rfl
  · refine zz_iload_1 C dX2_isHeedless_7 <| zz_aload_0 C dX2_isHeedless_8 <| zz_getI C fX2_15 (tX_K_plan hX) dX2_isHeedless_9 <| zpc 12 rfl <| ?_
    refine zz_icmp_ne C 19 dX2_isHeedless_12 (by decide) (fun c12 => ?_) (fun c12 => ?_)
    · refine zz_iconst_0 C dX2_isHeedless_19 <| zpc 20 rfl <| ?_
      exact zf_zreturn C hE (zle rfl) (zle rfl) dX2_isHeedless_20 (by decide) (by symm; first | exact zb_t ⟨c4, c12⟩ | exact zb_f (fun q => c12 q.2) | exact zb_f (fun q => q.1 c4)) rfl rfl
    · refine zz_iconst_1 C dX2_isHeedless_15 <| zz_goto C 20 dX2_isHeedless_16 (by decide) <| zpc 20 rfl <| ?_
      exact zf_zreturn C hE (zle rfl) (zle rfl) dX2_isHeedless_20 (by decide) (by symm; first | exact zb_t ⟨c4, c12⟩ | exact zb_f (fun q => c12 q.2) | exact zb_f (fun q => q.1 c4)) rfl rfl
theorem c2_isAbsent (hX : zTX t a c e) (g : Int32) : zMet E b l yX2_isAbsent cX2_isAbsent 2 (some .boolean) 1 0 0 [.ref (b + 82), .int g] t h (qIf (zb (¬ zI h 82 3 = 0 ∧ g = zI h 82 1)) t h) := by
  refine zMet.of (ls := [some (.ref (b + 82)), some (.int g)]) (by decide) (zle rfl) 0 rfl ?_
  intro G hlG C hR hE hin
  refine zz_aload_0 C dX2_isAbsent_0 <| zz_getI C fX2_22 (tX_K_plan hX) dX2_isAbsent_1 <| zpc 4 rfl <| ?_
  refine zz_if_eq C 19 dX2_isAbsent_4 (by decide) (fun c4 => ?_) (fun c4 => ?_)
  · refine zz_iconst_0 C dX2_isAbsent_19 <| zpc 20 rfl <| ?_
    exact zf_zreturn C hE (zle rfl) (zle rfl) dX2_isAbsent_20 (by decide) (by symm; first | exact zb_t ⟨c4, c12⟩ | exact zb_f (fun q => c12 q.2) | exact zb_f (fun q => q.1 c4)) rfl rfl
  · refine zz_iload_1 C dX2_isAbsent_7 <| zz_aload_0 C dX2_isAbsent_8 <| zz_getI C fX2_15 (tX_K_plan hX) dX2_isAbsent_9 <| zpc 12 rfl <| ?_
    refine zz_icmp_ne C 19 dX2_isAbsent_12 (by decide) (fun c12 => ?_) (fun c12 => ?_)
    · refine zz_iconst_0 C dX2_isAbsent_19 <| zpc 20 rfl <| ?_
      exact zf_zreturn C hE (zle rfl) (zle rfl) dX2_isAbsent_20 (by decide) (by symm; first | exact zb_t ⟨c4, c12⟩ | exact zb_f (fun q => c12 q.2) | exact zb_f (fun q => q.1 c4)) rfl rfl
    · refine zz_iconst_1 C dX2_isAbsent_15 <| zz_goto C 20 dX2_isAbsent_16 (by decide) <| zpc 20 rfl <| ?_
      exact zf_zreturn C hE (zle rfl) (zle rfl) dX2_isAbsent_20 (by decide) (by symm; first | exact zb_t ⟨c4, c12⟩ | exact zb_f (fun q => c12 q.2) | exact zb_f (fun q => q.1 c4)) rfl rfl
theorem c2_delayOf (hX : zTX t a c e) (g : Int32) : zMet E b l yX2_delayOf cX2_delayOf 2 (some .int) 1 0 0 [.ref (b + 82), .int g] t h (qIf (if g = zI h 82 1 then zI h 82 4 else 0) t h) := by
  refine zMet.of (ls := [some (.ref (b + 82)), some (.int g)]) (by decide) (zle rfl) 0 rfl ?_
  intro G hlG C hR hE hin
  refine zz_iload_1 C dX2_delayOf_0 <| zz_aload_0 C dX2_delayOf_1 <| zz_getI C fX2_15 (tX_K_plan hX) dX2_delayOf_2 <| zpc 5 rfl <| ?_
  refine zz_icmp_ne C 15 dX2_delayOf_5 (by decide) (fun c5 => ?_) (fun c5 => ?_)
  · refine zz_iconst_0 C dX2_delayOf_15 <| zpc 16 rfl <| ?_
    exact zf_ireturn C hE (zle rfl) (zle rfl) dX2_delayOf_16 (by symm; first | exact if_pos c5 | exact if_neg c5) rfl rfl
  · refine zz_aload_0 C dX2_delayOf_8 <| zz_getI C fX2_25 (tX_K_plan hX) dX2_delayOf_9 <| zz_goto C 16 dX2_delayOf_12 (by decide) <| zpc 16 rfl <| ?_
    exact zf_ireturn C hE (zle rfl) (zle rfl) dX2_delayOf_16 (by symm; first | exact if_pos c5 | exact if_neg c5) rfl rfl
theorem lot7 (x : Int32) : (x.toUInt32 >>> ((16 : Int32).toUInt32 &&& Int32.toUInt32 31)).toInt32 &&& (7 : Int32) = (x >>> (16 : Int32)) &&& (7 : Int32) := by
  apply Int32.toBitVec_inj.mp
  apply BitVec.eq_of_getLsbD_eq
  intro k hk
  have h7 : ∀ k, k < 32 → (7 : Int32).toBitVec.getLsbD k = decide (k < 3) := by decide
  rw [Int32.toBitVec_and, Int32.toBitVec_and, BitVec.getLsbD_and, BitVec.getLsbD_and, h7 k hk]
  by_cases h3 : k < 3
  · have e1 : (x.toUInt32 >>> ((16 : Int32).toUInt32 &&& Int32.toUInt32 31)).toInt32.toBitVec = x.toBitVec >>> (16 : Nat) := rfl
    have e2 : (x >>> (16 : Int32)).toBitVec = x.toBitVec.sshiftRight 16 := rfl
    rw [e1, e2, BitVec.getLsbD_ushiftRight, BitVec.getLsbD_sshiftRight]
    have h48 : 16 + k < 32 := by omega
    have h32 : ¬ 32 ≤ k := by omega
    simp [h3, h48, h32]
  · simp [h3]
theorem c2_nextLot (hX : zTX t a c e) : zMet E b l yX2_nextLot cX2_nextLot 1 (some .int) 1 0 0 [.ref (b + 82)] t h (qIf (((gNext (zI h 82 9)) >>> 16) &&& 7) t (zsI h 82 9 (gNext (zI h 82 9)))) := by
  refine zMet.of (ls := [some (.ref (b + 82))]) (by decide) (zle rfl) 0 rfl ?_
  intro G hlG C hR hE hin
  refine zz_aload_0 C dX2_nextLot_0 <| zz_aload_0 C dX2_nextLot_1 <| zz_getI C fX2_43 (tX_K_plan hX) dX2_nextLot_2 <| zz_ldc C dX2_nextLot_5 kX2_46 <| zz_imul C dX2_nextLot_7 <| zz_sipush C 12345 dX2_nextLot_8 (by decide) <| zz_iadd C dX2_nextLot_11 <| zy_putI C fX2_43 pX2_9 (tX_K_plan hX) dX2_nextLot_12 <| zz_aload_0 C dX2_nextLot_15 <| zz_getI C fX2_43 (tX_K_plan hX) dX2_nextLot_16 <| zpc 19 rfl <| ?_
  rw [zI_self]
  refine zz_bipush C 16 dX2_nextLot_19 (by decide) <| zz_iushr C dX2_nextLot_21 <| zz_bipush C 7 dX2_nextLot_22 (by decide) <| zz_iand C dX2_nextLot_24 <| zpc 25 rfl <| ?_
  exact zf_ireturn C hE (zle rfl) (zle rfl) dX2_nextLot_25 (by exact lot7 _) rfl rfl
/-! ===== Tally ===== -/
theorem c7_beginDay (hX : zTX t a c e) : zMet E b l yX7_beginDay cX7_beginDay 1 none 1 0 0 [.ref (b + 83)] t h (qVf t (zsI (zsI h 83 5 (-1)) 83 6 0)) := by
  refine zMet.of (ls := [some (.ref (b + 83))]) (by decide) (zle rfl) 0 rfl ?_
  intro G hlG C hR hE hin
  refine zz_aload_0 C dX7_beginDay_0 <| zz_iconst_m1 C dX7_beginDay_1 <| zy_putI C fX7_31 pX7_5 (tX_K_tally hX) dX7_beginDay_2 <| zz_aload_0 C dX7_beginDay_5 <| zz_iconst_0 C dX7_beginDay_6 <| zy_putI C fX7_34 pX7_6 (tX_K_tally hX) dX7_beginDay_7 <| zpc 10 rfl <| ?_
  exact zf_return C hE (zle rfl) (zle rfl) dX7_beginDay_10 rfl rfl
theorem c7_makeEmpty (hX : zTX t a c e) : zMet E b l yX7_makeEmpty cX7_makeEmpty 1 none 2 0 0 [.ref (b + 83)] t h (qVf t (zsI (zsI (zsI (zsI (zsL (zsL (zsL h 83 0 0) 83 1 0) 83 2 0) 83 3 0) 83 4 0) 83 5 (-1)) 83 6 0)) := by
  refine zMet.of (ls := [some (.ref (b + 83))]) (by decide) (zle rfl) 0 rfl ?_
  intro G hlG C hR hE hin
  refine zz_aload_0 C dX7_makeEmpty_0 <| zz_lconst_0 C dX7_makeEmpty_1 <| zy_putL C fX7_9 pX7_0 (tX_K_tally hX) dX7_makeEmpty_2 <| zz_aload_0 C dX7_makeEmpty_5 <| zz_lconst_0 C dX7_makeEmpty_6 <| zy_putL C fX7_15 pX7_1 (tX_K_tally hX) dX7_makeEmpty_7 <| zz_aload_0 C dX7_makeEmpty_10 <| zz_lconst_0 C dX7_makeEmpty_11 <| zy_putL C fX7_18 pX7_2 (tX_K_tally hX) dX7_makeEmpty_12 <| zz_aload_0 C dX7_makeEmpty_15 <| zz_iconst_0 C dX7_makeEmpty_16 <| zy_putI C fX7_21 pX7_3 (tX_K_tally hX) dX7_makeEmpty_17 <| zz_aload_0 C dX7_makeEmpty_20 <| zz_iconst_0 C dX7_makeEmpty_21 <| ?_
  refine zy_putI C fX7_25 pX7_4 (tX_K_tally hX) dX7_makeEmpty_22 <| zz_aload_0 C dX7_makeEmpty_25 <| zpc 26 rfl <| ?_
  refine zf_callVV C hR [] (c7_beginDay hX) lX7_28 rfl (tX_K_tally hX) (by decide) rfl ⟨zle rfl, zle rfl, zle rfl, zle rfl⟩ (zle rfl) dX7_makeEmpty_26 ?_
  exact zf_return C hE (zle rfl) (zle rfl) dX7_makeEmpty_29 rfl rfl
theorem c7_noteStay (hX : zTX t a c e) (g : Int32) : zMet E b l yX7_noteStay cX7_noteStay 2 none 1 0 0 [.ref (b + 83), .int g] t h (qVf t (zsI (zsL (zsI h 83 3 (zI h 83 3 + 1)) 83 0 (zL h 83 0 + 1000)) 83 5 (if zI h 83 5 = -1 then g else zI h 83 5))) := by
  refine zMet.of (ls := [some (.ref (b + 83)), some (.int g)]) (by decide) (zle rfl) 0 rfl ?_
  intro G hlG C hR hE hin
  refine zz_aload_0 C dX7_noteStay_0 <| zz_dup C dX7_noteStay_1 rfl <| zz_getI C fX7_21 (tX_K_tally hX) dX7_noteStay_2 <| zz_iconst_1 C dX7_noteStay_5 <| zz_iadd C dX7_noteStay_6 <| zy_putI C fX7_21 pX7_3 (tX_K_tally hX) dX7_noteStay_7 <| zz_aload_0 C dX7_noteStay_10 <| zz_dup C dX7_noteStay_11 rfl <| zz_getL C fX7_9 (tX_K_tally hX) dX7_noteStay_12 <| zz_ldc2 C dX7_noteStay_15 kX7_37 <| zz_ladd C dX7_noteStay_18 <| zy_putL C fX7_9 pX7_0 (tX_K_tally hX) dX7_noteStay_19 <| zz_aload_0 C dX7_noteStay_22 <| zz_getI C fX7_31 (tX_K_tally hX) dX7_noteStay_23 <| ?_
  refine zz_iconst_m1 C dX7_noteStay_26 <| zpc 27 rfl <| ?_
  refine zz_icmp_ne C 35 dX7_noteStay_27 (by decide) (fun c27 => ?_) (fun c27 => ?_)
  · refine zf_return C hE (zle rfl) (zle rfl) dX7_noteStay_35 rfl ?_
    have e5 : zI (zsL (zsI h 83 3 (zI h 83 3 + 1)) 83 0 (zL h 83 0 + 1000)) 83 5 = zI h 83 5 := (by show zI (zsI h 83 3 (zI h 83 3 + 1)) 83 5 = _; rw [zI_sI, if_neg (by omega)])
    have c27' : _ = _ ∨ _ ≠ _ := Classical.em (zI h 83 5 = -1)
    first
      | (rw [if_pos (e5.symm.trans c27)]; rfl)
      | (rw [if_neg (fun q => c27 (e5.trans q))]
         refine zH_ext (fun i k => ?_) (fun i k => rfl)
         rw [zI_sI]
         split
         · rename_i q; rw [q.1, q.2]; exact e5
         · rfl)
  · refine zz_aload_0 C dX7_noteStay_30 <| zz_iload_1 C dX7_noteStay_31 <| zy_putI C fX7_31 pX7_5 (tX_K_tally hX) dX7_noteStay_32 <| zpc 35 rfl <| ?_
    refine zf_return C hE (zle rfl) (zle rfl) dX7_noteStay_35 rfl ?_
    have e5 : zI (zsL (zsI h 83 3 (zI h 83 3 + 1)) 83 0 (zL h 83 0 + 1000)) 83 5 = zI h 83 5 := (by show zI (zsI h 83 3 (zI h 83 3 + 1)) 83 5 = _; rw [zI_sI, if_neg (by omega)])
    have c27' : _ = _ ∨ _ ≠ _ := Classical.em (zI h 83 5 = -1)
    first
      | (rw [if_pos (e5.symm.trans c27)]; rfl)
      | (rw [if_neg (fun q => c27 (e5.trans q))]
         refine zH_ext (fun i k => ?_) (fun i k => rfl)
         rw [zI_sI]
         split
         · rename_i q; rw [q.1, q.2]; exact e5
         · rfl)
theorem c7_noteWay (hX : zTX t a c e) : zMet E b l yX7_noteWay cX7_noteWay 2 none 2 0 0 [.ref (b + 83), .ref (b + 74)] t h (qVf t (zsI (zsL (zsL (zsI h 83 4 (zI h 83 4 + 1)) 83 0 (zL h 83 0 + (zI h 74 1).toInt64)) 83 2 (zL h 83 2 + (zI h 74 2).toInt64)) 83 6 (if zI h 83 6 < zI h 74 1 then zI h 74 1 else zI h 83 6))) := by
  refine zMet.of (ls := [some (.ref (b + 83)), some (.ref (b + 74))]) (by decide) (zle rfl) 0 rfl ?_
  intro G hlG C hR hE hin
  refine zz_aload_0 C dX7_noteWay_0 <| zz_dup C dX7_noteWay_1 rfl <| zz_getI C fX7_25 (tX_K_tally hX) dX7_noteWay_2 <| zz_iconst_1 C dX7_noteWay_5 <| zz_iadd C dX7_noteWay_6 <| zy_putI C fX7_25 pX7_4 (tX_K_tally hX) dX7_noteWay_7 <| zz_aload_0 C dX7_noteWay_10 <| zz_dup C dX7_noteWay_11 rfl <| zz_getL C fX7_9 (tX_K_tally hX) dX7_noteWay_12 <| zz_aload_1 C dX7_noteWay_15 <| zz_getI C fX7_39 (tX_K_ways hX) dX7_noteWay_16 <| zz_i2l C dX7_noteWay_19 <| zz_ladd C dX7_noteWay_20 <| zy_putL C fX7_9 pX7_0 (tX_K_tally hX) dX7_noteWay_21 <| ?_
  refine zz_aload_0 C dX7_noteWay_24 <| zz_dup C dX7_noteWay_25 rfl <| zz_getL C fX7_18 (tX_K_tally hX) dX7_noteWay_26 <| zz_aload_1 C dX7_noteWay_29 <| zz_getI C fX7_44 (tX_K_ways hX) dX7_noteWay_30 <| zz_i2l C dX7_noteWay_33 <| zz_ladd C dX7_noteWay_34 <| zy_putL C fX7_18 pX7_2 (tX_K_tally hX) dX7_noteWay_35 <| zz_aload_0 C dX7_noteWay_38 <| zz_aload_0 C dX7_noteWay_39 <| zz_getI C fX7_34 (tX_K_tally hX) dX7_noteWay_40 <| zz_aload_1 C dX7_noteWay_43 <| zz_getI C fX7_39 (tX_K_ways hX) dX7_noteWay_44 <| zz_mmax C hR (zle rfl) mX7_47 (zle rfl) (zle rfl) (zle rfl) dX7_noteWay_47 <| ?_
  refine zy_putI C fX7_34 pX7_6 (tX_K_tally hX) dX7_noteWay_50 <| zpc 53 rfl <| ?_
  exact zf_return C hE (zle rfl) (zle rfl) dX7_noteWay_53 rfl rfl
end CL
