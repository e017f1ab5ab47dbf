/-! ===== the law: what stands at first ===== -/
theorem zIns : ∀ (c : Nat), c < zNc → Cond.instantiable (zRn c) (zNf c) ∈ zW
  | 0, _ => nX8_32.2.1
  | 1, _ => nX10_16.2.1
  | 2, _ => nX8_18.2.1
  | 3, _ => nX10_7.2.1
  | 4, _ => nX10_52.2.1
  | 5, _ => nX10_45.2.1
  | 6, _ => nX10_23.2.1
  | 7, _ => nX8_25.2.1
  | 8, _ => nX10_38.2.1
  | 9, _ => nX8_9.2.1
  | 10, _ => nL_8.2.1
  | 11, _ => nL_118.2.1
  | c + 12, h => absurd h (by unfold zNc; omega)
theorem zCl_lt {c : Nat} {q : vw_C} (h : vwCl[c]? = some q) : c < zNc ∧ q = (zRn c, zTb c, zNf c) := by
  have h1 : c < vwCl.length := (List.getElem?_eq_some_iff.mp h).1
  have h2 : c < zNc := h1
  exact ⟨h2, Option.some.inj (h.symm.trans (zCl_at c h2))⟩
theorem zE_ex {s : State} {sb : Nat} (hts : ∀ w ∈ lw_tbl, w.before #[Value.ref sb] s = true) : ∃ E : zE, zS0 E = s ∧ va_K E.1 vwCl (zTys E) s := by
  have hz : ∀ w ∈ zW, w.before #[Value.ref sb] s = true := fun w hw => hts w (zW_tbl w hw)
  have hk : ∀ c, ∃ q : ClassId × (Nat → Nat), c < zNc → u_Kn s (zRn c) (zTb c) (zNf c) q.1 q.2 := fun c => by
    by_cases hc : c < zNc
    · obtain ⟨cC, iS, h⟩ := u_known hz (zCl_ws c hc) (hz _ (zIns c hc))
      exact ⟨(cC, iS), fun _ => h⟩
    · exact ⟨(0, fun _ => 0), fun z => absurd z hc⟩
  obtain ⟨cI, kI, mI, i1, i2, i3⟩ := Cond.arrayClass_spec (hz _ wAI)
  obtain ⟨cL, kL, mL, l1, l2, l3⟩ := Cond.arrayClass_spec (hz _ wAL)
  obtain ⟨mS, cS, kS, s1, -, s3, s4, s5⟩ := Cond.arrayOver_spec (hts _ wAO)
  obtain ⟨mA, cA, kA, a1, -, a3, a4, a5⟩ := arrayOverA_spec (hts _ wAA)
  refine ⟨((fun c => (Classical.choose (hk c)).1, fun c => (Classical.choose (hk c)).2), cI, cL, cS, cA, s), rfl, fun c q hq => ?_, fun k q hq => ?_⟩
  · obtain ⟨hc, rfl⟩ := zCl_lt hq
    exact Classical.choose_spec (hk c) hc
  · match k, hq with
    | 0, hq => cases hq; exact ⟨fun N z => ⟨(fun k h => by cases h), kI, i2, mI, i3⟩, i1⟩
    | 1, hq => cases hq; exact ⟨fun N z => ⟨(fun k h => by cases h), kL, l2, mL, l3⟩, l1⟩
    | 2, hq => cases hq; exact ⟨fun N z => ⟨(fun k h => by cases h), kS, s3, mS, s4⟩, kS, mS, s3, s4, s1, s5⟩
    | 3, hq => cases hq; exact ⟨fun N z => ⟨(fun k h => by cases h), kA, a3, mA, a4⟩, a5⟩
    | k + 4, hq => cases hq
/-- nothing yet -/
def zT0 : zT := ((0, true), (fun _ => (16, 0)), fun _ _ => none)
theorem zHp_0 {E : zE} {H : Heap} : zHp E H.size zT0 zH0 H := by
  refine ⟨⟨Nat.le_refl _, fun _ => rfl⟩, fun i hi => absurd hi (by show ¬ (16 : Nat) < 16; omega), ?_⟩
  intro k q hk
  cases hk
theorem zGd_0 : zGd zT0 zH0 0 := ⟨rfl, fun _ _ _ => ⟨rfl, rfl⟩⟩
/-- all cells -/
def kt_A : zT := zA1 (kt_M (zA1 kt_X 157 11 0)) 250 13 1
theorem kt_X_1 : kt_X.1 = (157, true) := by decide +kernel
theorem kt_A_M : zTM kt_A := by
  refine ⟨?_, ?_⟩
  · decide +kernel
  · decide +kernel
theorem kt_A_X : zTX kt_A 36 2 91 := by
  refine ⟨?_, ?_, ?_, by omega, by omega⟩
  · decide +kernel
  · decide +kernel
  · decide +kernel
theorem kt_A_o : zK kt_A 250 = (13, 1) := by decide +kernel
theorem zTM_fl {t : zT} (h : zTM t) : zTM (zFl t) := h
theorem zTX_fl {t : zT} {a c e : Nat} (h : zTX t a c e) : zTX (zFl t) a c e := h
theorem ht_X_0 (i q : Nat) (hi : 157 ≤ i) : zI ht_X i q = 0 := by
  unfold ht_X hct_i8 hct_i3 hct_i1 hct_e1
  simp only [zI_sI]
  repeat rw [if_neg (by omega)]
  rfl
theorem ht_X_L (i q : Nat) : zL ht_X i q = 0 := rfl
theorem ht_M_at (h : zH) (i q : Nat) : zI (ht_M h) i q = if i = 160 ∧ q = 5 then 9 else if i = 160 ∧ q = 0 then 4 else if i = 157 ∧ q = 52 then -1 else if i = 157 ∧ q = 40 then -1 else if i = 157 ∧ q = 37 then -1 else if i = 157 ∧ q = 36 then -1 else if i = 157 ∧ q = 35 then -1 else if i = 157 ∧ q = 3 then -1 else zI h i q := rfl
/-- what stands at first -/
def S_0 : yJ := ((rD r0, rMo r0, (0, fun _ => 0)), (0, fun _ => (((fun _ => 0), fun _ => 0), 0, (0, fun _ => 0))), (0, fun _ => 0), -1)
theorem jOk_0 : jOk S_0 0 := ⟨rD_ok rOk_0, Nat.zero_le _, ⟨Nat.zero_le _, fun k hk => absurd hk (Nat.not_lt_zero k)⟩, Nat.zero_le _, fun i hi => absurd hi (Nat.not_lt_zero i)⟩
theorem ct_vals : zI ht_X 36 0 = 4 ∧ zI ht_X 36 1 = 0 ∧ zI ht_X 36 2 = 0 ∧ zI ht_X 36 3 = 0 ∧ zI ht_X 36 4 = 0 ∧ zI ht_X 36 5 = 9 ∧ zI ht_X 0 4 = 0 ∧ zI ht_X 1 0 = 0 ∧ zI ht_X 1 2 = -1 := by decide +kernel
theorem jC_0 {h h' : zH} (e1 : ∀ i q, i < 157 → ¬ (68 ≤ i ∧ i ≤ 71) → zI h i q = zI ht_X i q) (e2 : ∀ i q, 68 ≤ i ∧ i ≤ 71 → zI h i q = zI h' i q) (q2 : zI h' 68 0 = 0 ∧ zI h' 68 4 = 0) (q3 : ∀ k, k < 11 → zI h' 69 k = 0 ∧ zI h' 70 k = 9) : jC h 36 S_0 := by
  obtain ⟨v0, v1, v2, v3, v4, v5, v6, v7, v8⟩ := ct_vals
  refine ⟨⟨⟨⟨?_, ?_, ?_, ?_⟩, fun g hg => absurd hg (Nat.not_lt_zero g), fun k hk => absurd hk (Nat.not_lt_zero k)⟩, ⟨⟨Nat.zero_le _, rfl, fun x hx => by cases hx⟩, fun k hk => absurd hk (Nat.not_lt_zero k)⟩, ⟨?_, ?_, fun k hk => absurd hk (Nat.not_lt_zero k)⟩, ⟨⟨?_, ?_⟩, fun k hk => absurd hk (Nat.not_lt_zero k), fun k _ hk => ⟨?_, ?_⟩, fun k hk => absurd hk (Nat.not_lt_zero k)⟩⟩, ?_, fun k hk => absurd hk (Nat.not_lt_zero k), ⟨?_, fun i hi => absurd hi (Nat.not_lt_zero i)⟩, ?_⟩
  · rw [e1 _ _ (by omega) (by omega), v0]; rfl
  · rw [e1 _ _ (by omega) (by omega), v1]; rfl
  · rw [e1 _ _ (by omega) (by omega), v3]; rfl
  · rw [e1 _ _ (by omega) (by omega), v4]; rfl
  · rw [e1 _ _ (by omega) (by omega), v2]; rfl
  · rw [e1 _ _ (by omega) (by omega), v5]; rfl
  · rw [e2 _ _ (by omega), q2.1]; rfl
  · rw [e2 _ _ (by omega), q2.2]; rfl
  · rw [e2 _ _ (by omega)]; exact (q3 k hk).1
  · rw [e2 _ _ (by omega)]; exact (q3 k hk).2
  · rw [e1 _ _ (by omega) (by omega), v6]; rfl
  · rw [e1 _ _ (by omega) (by omega), v7]; rfl
  · rw [e1 _ _ (by omega) (by omega), v8]; rfl
theorem jM_0 {h : zH} (e : ∀ i q, 157 ≤ i → zI h i q = 0) : jM (ht_M h) S_0 := by
  refine ⟨⟨⟨?_, ?_, ?_, fun g hg => absurd hg (Nat.not_lt_zero g), fun k hk => absurd hk (Nat.not_lt_zero k)⟩, ⟨?_, ?_, fun z => absurd rfl z, ?_, ?_, ?_, ?_⟩, ?_, ?_, ?_, fun k hk => absurd hk (Nat.not_lt_zero k), ?_⟩, ⟨?_, fun k hk => absurd hk (Nat.not_lt_zero k)⟩, ⟨?_, fun k hk => absurd hk (Nat.not_lt_zero k)⟩, ?_, fun k hk => absurd hk (Nat.not_lt_zero k), ⟨?_, fun i hi => absurd hi (Nat.not_lt_zero i)⟩, ?_⟩
  all_goals first
    | (rw [ht_M_at, if_neg (by omega), if_pos (by omega)]; rfl)
    | (rw [ht_M_at, if_pos (by omega)]; rfl)
    | (rw [ht_M_at, if_neg (by omega), if_neg (by omega), if_pos (by omega)]; rfl)
    | (rw [ht_M_at, if_neg (by omega), if_neg (by omega), if_neg (by omega), if_pos (by omega)]; rfl)
    | (rw [ht_M_at, if_neg (by omega), if_neg (by omega), if_neg (by omega), if_neg (by omega), if_pos (by omega)]; rfl)
    | (rw [ht_M_at, if_neg (by omega), if_neg (by omega), if_neg (by omega), if_neg (by omega), if_neg (by omega), if_pos (by omega)]; rfl)
    | (rw [ht_M_at, if_neg (by omega), if_neg (by omega), if_neg (by omega), if_neg (by omega), if_neg (by omega), if_neg (by omega), if_pos (by omega)]; rfl)
    | (rw [ht_M_at, if_neg (by omega), if_neg (by omega), if_neg (by omega), if_neg (by omega), if_neg (by omega), if_neg (by omega), if_neg (by omega), if_pos (by omega)]; rfl)
    | (rw [ht_M_at, if_neg (by omega), if_neg (by omega), if_neg (by omega), if_neg (by omega), if_neg (by omega), if_neg (by omega), if_neg (by omega), if_neg (by omega), e _ _ (by omega)]; rfl)
theorem jI_0 {h' : zH} (q1 : cAg 68 71 ht_X h') (q2 : zI h' 68 0 = 0 ∧ zI h' 68 4 = 0) (q3 : ∀ k, k < 11 → zI h' 69 k = 0 ∧ zI h' 70 k = 9) : jAft (zFl kt_A) (ht_M h') 0 := by
  have em : ∀ i q, i < 157 → zI (ht_M h') i q = zI h' i q := fun i q hi => by
    rw [ht_M_at, if_neg (by omega), if_neg (by omega), if_neg (by omega), if_neg (by omega), if_neg (by omega), if_neg (by omega), if_neg (by omega), if_neg (by omega)]
  exact ⟨36, 2, 91, S_0, ⟨zTM_fl kt_A_M, zTX_fl kt_A_X, rfl, kt_A_o⟩, jOk_0, jC_0 (h' := h') (fun i q hi z => (em i q hi).trans (q1.1 i q z)) (fun i q z => em i q (by omega)) q2 q3, jM_0 (fun i q hi => (q1.1 i q (by omega)).trans (ht_X_0 i q hi))⟩
