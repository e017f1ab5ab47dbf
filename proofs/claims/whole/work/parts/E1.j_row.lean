/-! ===== both sides: the row and images ===== -/
theorem cSt.fs {h h' : zH} {j n N day : Nat} {w r : Nat → Nat} {R : Nat × (Nat → Nat)} (g : ∀ i k, j ≤ i → i ≤ j + 3 → zI h' i k = zI h i k) (hm : cSt h j n N day w r R) : cSt h' j n N day w r R := by
  obtain ⟨⟨h1, h2⟩, h3, h4, h5⟩ := hm
  refine ⟨⟨?_, ?_⟩, fun k hk => ⟨?_, ?_⟩, fun k hk hk2 => ⟨?_, ?_⟩, fun k hk => ?_⟩
  · rw [g _ _ (by omega) (by omega)]; exact h1
  · rw [g _ _ (by omega) (by omega)]; exact h2
  · rw [g _ _ (by omega) (by omega)]; exact (h3 k hk).1
  · rw [g _ _ (by omega) (by omega)]; exact (h3 k hk).2
  · rw [g _ _ (by omega) (by omega)]; exact (h4 k hk hk2).1
  · rw [g _ _ (by omega) (by omega)]; exact (h4 k hk hk2).2
  · rw [g _ _ (by omega) (by omega)]; exact h5 k hk
theorem cSn.mk2 {h h' : zH} {a : Nat} {D : yD} {Mo : Nat × (Nat → Nat → Nat)} {R R' : Nat × (Nat → Nat)} {w : (Nat → Nat) × (Nat → Nat)} {day : Nat} (hO : dOk D Mo R) (g : ∀ i k, a ≤ i → i ≤ a + 31 → zI h' i k = zI h i k) (hs : cSt h' 68 D.2.1.1.1 D.2.1.1.2.2 day w.1 w.2 R') (hm : cSn h a D Mo R) : cSn h' a (D.1, D.2.1, w, day) Mo R' := by
  obtain ⟨⟨⟨h1, h2, h3, h4⟩, h5, h6⟩, ⟨r1, r2⟩, ⟨n1, n2, n3⟩, -⟩ := hm
  have hng := hO.1.1.2.1.2.2.1
  have hmo := hO.2.2.2.2.1
  refine ⟨⟨⟨?_, ?_, ?_, ?_⟩, fun q hq i hi => ?_, fun k hk => ?_⟩, ⟨r1, fun k hk q hq => ?_⟩, ⟨?_, ?_, fun k hk q hq => ?_⟩, hs⟩
  · rw [g _ _ (by omega) (by omega)]; exact h1
  · rw [g _ _ (by omega) (by omega)]; exact h2
  · rw [g _ _ (by omega) (by omega)]; exact h3
  · rw [g _ _ (by omega) (by omega)]; exact h4
  · have hq' : q < D.1.1.2.1 := hq
    rw [g _ _ (by omega) (by omega)]; exact h5 q hq i hi
  · rw [g _ _ (by omega) (by omega)]; exact h6 k hk
  · have := rid_lt (i := a) (k := k) r1.1 r1.2.2 (by rw [← r1.2.1]; exact hk)
    show zI h' (rid a D.2.1.1.1 none k) q = _
    rw [g _ _ (by omega) (by omega)]; exact r2 k hk q hq
  · rw [g _ _ (by omega) (by omega)]; exact n1
  · rw [g _ _ (by omega) (by omega)]; exact n2
  · rw [g _ _ (by omega) (by omega)]; exact n3 k hk q hq
/-- what the reference's land and State hang on -/
def nS (i k : Nat) : Prop := i = 160 ∨ i = 162 ∨ (175 ≤ i ∧ i ≤ 185) ∨ (212 ≤ i ∧ i ≤ 225) ∨ (i = 157 ∧ 35 ≤ k ∧ k ≤ 52)
theorem mSd.fs {h h' : zH} {D : yD} {Mo : Nat × (Nat → Nat → Nat)} {R : Nat × (Nat → Nat)} {w : (Nat → Nat) × (Nat → Nat)} {day : Nat} (hO : dOk D Mo R) (g : ∀ i k, nS i k → zI h' i k = zI h i k) (hs : (∀ k, k < D.2.1.1.1 → zI h' 226 k = nI (w.1 k) ∧ zI h' 227 k = nI (w.2 k)) ∧ zI h' 157 19 = nI day) (hm : mSd h D yP0) : mSd h' (D.1, D.2.1, w, day) yP0 := by
  obtain ⟨⟨a1, a2, a3, a4, a5⟩, ⟨b1, b2, b3, b4, b5, b6, b7⟩, c1, c2, c3, c4, c5⟩ := hm
  have hng := hO.1.1.2.1.2.2.1
  have hn := hO.2.2.1
  refine ⟨⟨?_, ?_, ?_, fun q hq i hi => ?_, fun k hk => ?_⟩, ⟨?_, ?_, fun z => absurd rfl z, ?_, ?_, ?_, ?_⟩, ?_, ?_, ?_, fun k hk => ⟨fun i hi => ?_, (hs.1 k hk).1, (hs.1 k hk).2⟩, hs.2⟩
  · rw [g _ _ (by unfold nS; omega)]; exact a1
  · rw [g _ _ (by unfold nS; omega)]; exact a2
  · rw [g _ _ (by unfold nS; omega)]; exact a3
  · have hq' : q < D.1.1.2.1 := hq
    rw [g _ _ (by unfold nS; omega)]; exact a4 q hq i hi
  · rw [g _ _ (by unfold nS; omega)]; exact a5 k hk
  · rw [g _ _ (by unfold nS; omega)]; exact b1
  · rw [g _ _ (by unfold nS; omega)]; exact b2
  · rw [g _ _ (by unfold nS; omega)]; exact b4
  · rw [g _ _ (by unfold nS; omega)]; exact b5
  · rw [g _ _ (by unfold nS; omega)]; exact b6
  · rw [g _ _ (by unfold nS; omega)]; exact b7
  · rw [g _ _ (by unfold nS; omega)]; exact c1
  · rw [g _ _ (by unfold nS; omega)]; exact c2
  · rw [g _ _ (by unfold nS; omega)]; exact c3
  · have hk' : k < D.2.1.1.1 := hk
    rw [g _ _ (by unfold nS; omega)]; exact (c4 k hk).1 i hi
theorem mMo.fs {h h' : zH} {Mo : Nat × (Nat → Nat → Nat)} (hM : Mo.1 ≤ 4) (g : ∀ i k, i = 160 ∨ (192 ≤ i ∧ i ≤ 195) → zI h' i k = zI h i k) (hm : mMo h Mo) : mMo h' Mo := ⟨by rw [g _ _ (by omega)]; exact hm.1, fun k hk q hq => by rw [g _ _ (by omega)]; exact hm.2 k hk q hq⟩
/-- another row -/
abbrev jR (S : yJ) (R : Nat × (Nat → Nat)) : yJ := ((S.1.1, S.1.2.1, R), S.2)
section JR
variable {E : zE} {b : Nat} {l : Launch} {t : zT} {h : zH} {a c e : Nat} {S : yJ} {K : Nat} {R' : Nat × (Nat → Nat)}
theorem jOk.r (hO : jOk S K) (hR : roOk R') : jOk (jR S R') K := ⟨⟨hO.1.1, hO.1.2.1, hO.1.2.2.1, hR, hO.1.2.2.2.2⟩, hO.2⟩
theorem jC.row {h' : zH} (ha : a = 2 ∨ a = 36) (hO : jOk S K) (e1 : ∀ i k, ¬ (i = 71 ∨ (i = 68 ∧ k = 4)) → zI h' i k = zI h i k) (e2 : zI h' 68 4 = nI R'.1) (e3 : ∀ k, k < R'.1 → zI h' 71 k = nI (R'.2 k)) (hm : jC h a S) : jC h' a (jR S R') := by
  obtain ⟨m1, m2, m3, ⟨m4, m5⟩, m6⟩ := hm
  refine ⟨m1.mk2 hO.1 (fun i k z y => e1 i k (by omega)) ?_, ?_, fun k hk => (m3 k hk).fs (fun i q z y => e1 i q (by omega)), ⟨?_, fun i hi => ?_⟩, ?_⟩
  · obtain ⟨⟨s1, -⟩, s3, s4, -⟩ := m1.2.2.2
    refine ⟨⟨?_, e2⟩, fun k hk => ⟨?_, ?_⟩, fun k hk hk2 => ⟨?_, ?_⟩, e3⟩
    · rw [e1 _ _ (by omega)]; exact s1
    · rw [e1 _ _ (by omega)]; exact (s3 k hk).1
    · rw [e1 _ _ (by omega)]; exact (s3 k hk).2
    · rw [e1 _ _ (by omega)]; exact (s4 k hk hk2).1
    · rw [e1 _ _ (by omega)]; exact (s4 k hk hk2).2
  · rw [e1 _ _ (by omega)]; exact m2
  · rw [e1 _ _ (by omega)]; exact m4
  · rw [e1 _ _ (by omega)]; exact m5 i hi
  · rw [e1 _ _ (by omega)]; exact m6
theorem jM.row {h' : zH} (hO : jOk S K) (e1 : ∀ i k, ¬ (i = 228 ∨ (i = 157 ∧ (k = 20 ∨ k = 0))) → zI h' i k = zI h i k) (hr : mRo h' R') (hm : jM h S) : jM h' (jR S R') := by
  obtain ⟨m1, m2, m3, m4, m5, ⟨m6, m7⟩, m8⟩ := hm
  refine ⟨m1.fs hO.1 (fun i k z => e1 i k (by unfold nS at z; omega)) ⟨fun k hk => ⟨?_, ?_⟩, ?_⟩, hr, m3.fs hO.1.2.2.2.2.1 (fun i k z => e1 i k (by omega)), ?_, fun k hk => (m5 k hk).fr (fun j => e1 _ _ ?_), ⟨?_, fun i hi => ?_⟩, ?_⟩
  · rw [e1 _ _ (by omega)]; exact (m1.2.2.2.2.2.1 k hk).2.1
  · rw [e1 _ _ (by omega)]; exact (m1.2.2.2.2.2.1 k hk).2.2
  · rw [e1 _ _ (by omega)]; exact m1.2.2.2.2.2.2
  · rw [e1 _ _ (by omega)]; exact m4
  · omega
  · rw [e1 _ _ (by omega)]; exact m6
  · rw [e1 _ _ (by omega)]; exact m7 i hi
  · rw [e1 _ _ (by omega)]; exact m8
theorem jw_row (I : jI t h a c e S K) (hK : K ≤ 511) (hlt : l.stackTraces = false) (p0 : Int32) : zMetW E b l yL_row cL_row 4 (some .int) [(0, 9, 12, 13)] 15 1 6 [.ref (b + 0), .int p0, .ref (b + 250)] t h (qI (jMI E b l yX11_row cX11_row 2 (some .int) [.int p0] (K + 1))) := by
  by_cases c1 : ∃ k, k < 2 ^ S.1.1.2.1.1.1 ∧ p0 = nI k
  · obtain ⟨s, hs, rfl⟩ := c1
    have hR3 := I.Ro.1
    by_cases c2 : S.1.2.2.1 = 30
    · exact jqI (dm := 3) I (wo_row _ (by omega) I.kX (jaF (c10_row2b I.X I.O I.C s hs c2)) I.hP) (by omega) (fun e' t' h' J eq => jmF J (c_row2 J.T J.D J.M J.ro s hs c2))
    · refine zMetW.mono (wo_row _ (by omega) I.kX (c10_row1b I.X I.O I.C s hs (by omega)) (fun v t' h' hp => by rw [hp.2.1]; exact I.1.2.2.2)) (fun v t' h' hp => ?_)
      obtain ⟨k, rfl, rfl, v, h1, ⟨rfl, rfl, rfl⟩, rfl⟩ := hp
      have hsb : s < 2 ^ 30 := Nat.lt_of_lt_of_le hs (Nat.pow_le_pow_right (by omega) (by have := I.n; omega))
      have hro' : roOk (S.1.2.2.1 + 1, fun k => if k = S.1.2.2.1 then s else S.1.2.2.2 k) := by
        refine ⟨by show S.1.2.2.1 + 1 ≤ 30; omega, fun k hk => ?_⟩
        show (if k = S.1.2.2.1 then s else S.1.2.2.2 k) < 2 ^ 30
        have hk' : k < S.1.2.2.1 + 1 := hk
        split
        · exact hsb
        · exact I.Ro.2 k (by omega)
      have hC : jC (zsI (zsI h 71 S.1.2.2.1 (nI s)) 68 4 (nI (S.1.2.2.1 + 1))) a (jR S (S.1.2.2.1 + 1, fun k => if k = S.1.2.2.1 then s else S.1.2.2.2 k)) := by
        refine I.2.2.1.row (tX_a2 I.X) I.2.1 (fun i k z => ?_) (zI_self _ _ _ _) (fun k hk => ?_)
        · rw [zI_sI, if_neg (by omega), zI_sI, if_neg (by omega)]
        · have hk' : k < S.1.2.2.1 + 1 := hk
          rw [zI_sI, if_neg (by omega), zI_sI]
          show _ = nI (if k = S.1.2.2.1 then s else S.1.2.2.2 k)
          by_cases z : k = S.1.2.2.1
          · rw [if_pos ⟨rfl, z⟩, if_pos z]
          · rw [if_neg (fun q => z q.2), if_neg z]
            exact I.C.2.2.2.2.2.2 k (by omega)
      have g0 : gX h (zsI (zsI h 71 S.1.2.2.1 (nI s)) 68 4 (nI (S.1.2.2.1 + 1))) := fun i k z => ⟨by rw [zI_sI, if_neg (by omega), zI_sI, if_neg (by omega)], rfl⟩
      have hM0 : jM (zsI (zsI h 71 S.1.2.2.1 (nI s)) 68 4 (nI (S.1.2.2.1 + 1))) S := I.2.2.2.fr g0
      have hM : jM (zsL (zsI (zsI h 71 S.1.2.2.1 (nI s)) 68 4 (nI (S.1.2.2.1 + 1))) 250 0 (nI (S.1.2.2.1 + 1)).toInt64) S := hM0
      refine ⟨0, rfl, I.T, 3, by omega, (c_row1 I.T I.D hM.1 I.Ro hM.2.1 s hs (by omega)).mono (fun r t'' h'' hr => ?_)⟩
      obtain ⟨r, rfl, rfl, rfl, rfl⟩ := hr
      refine ⟨_, rfl, ?_, fun _ => by rw [zL_sI, zL_sI, zL_sI]; exact zL_self _ _ _ _, a, c, e, _, jFin (h1 := zsL (zsI (zsI h 71 S.1.2.2.1 (nI s)) 68 4 (nI (S.1.2.2.1 + 1))) 250 0 (nI (S.1.2.2.1 + 1)).toInt64) I.1 rfl (I.2.1.up.r hro') hC (fun i k z => ⟨?_, rfl⟩) (hM.row I.2.1 (fun i k z => ?_) ⟨zI_self _ _ _ _, fun k hk => ?_⟩)⟩
      · rw [zI_sI, if_neg (by omega), zI_sI, if_neg (by omega), zI_self]
      · rw [zI_sI, if_neg (by omega), zI_sI, if_neg (by omega), zI_sI, if_neg (by omega)]
      · rw [zI_sI, if_neg (by omega), zI_sI, if_neg (by omega), zI_sI, if_neg (by omega)]
      · have hk' : k < S.1.2.2.1 + 1 := hk
        rw [zI_sI, if_neg (by omega), zI_sI]
        show _ = nI (if k = S.1.2.2.1 then s else S.1.2.2.2 k)
        by_cases z : k = S.1.2.2.1
        · rw [if_pos ⟨rfl, z⟩, if_pos z]
        · rw [if_neg (fun q => z q.2), if_neg z, zI_sI, if_neg (by omega)]
          exact hM.2.1.2 k (by omega)
  · exact jxI I (by decide) (wx_row_A _ (by omega) I.kX (c10_row0b I.X hlt I.F I.O I.C p0 c1)) (by omega) (jyF I (c_row0 I.T I.D I.M p0 c1))
/-- a call without a wrapper that only asks -/
theorem jeI {y ym : MethodName} {cc cm : ByteArray} {ml mlm d dm mc ms : Nat} {rt rtm : Option FieldType} {av avm : List Value} {V : Int32} (I : jI t h a c e S K) (hW : zMet E b l y cc ml rt d mc ms av t h (qI (fun v t' h' => v = V ∧ cAsk t a h t' h'))) (hd : dm ≤ 13) (hm : ∀ e' t' h', jI t' h' a c e' S K → zI h' 157 41 = zI h 157 41 → zMet E b l ym cm mlm rtm dm 0 0 (.ref (b + 157) :: avm) t' h' (qI (fun v t'' h'' => v = V ∧ mCl h' t' S.1.1 0 t'' h''))) : zMet E b l y cc ml rt d mc ms av t h (qI (jEI E b l ym cm mlm rtm avm (K + 1))) := by
  refine hW.mono (fun v t' h' hp => ?_)
  obtain ⟨v, rfl, rfl, hq⟩ := hp
  obtain ⟨e', I', g⟩ := I.ask hq
  refine ⟨v, rfl, I'.1.1, dm, hd, (hm e' t' _ I' (g 157 41 (by omega)).1).mono (fun r t'' h'' hr => ?_)⟩
  obtain ⟨r, rfl, rfl, hc⟩ := hr
  exact ⟨r, rfl, rfl, a, c, e', S, (I'.cl hc).1⟩
theorem jeJ {y ym : MethodName} {cc cm : ByteArray} {ml mlm d dm mc ms : Nat} {rt rtm : Option FieldType} {av avm : List Value} {V : Int64} (I : jI t h a c e S K) (hW : zMet E b l y cc ml rt d mc ms av t h (qJ (fun v t' h' => v = V ∧ cAsk t a h t' h'))) (hd : dm ≤ 13) (hm : ∀ e' t' h', jI t' h' a c e' S K → zI h' 157 41 = zI h 157 41 → zMet E b l ym cm mlm rtm dm 0 0 (.ref (b + 157) :: avm) t' h' (qJ (fun v t'' h'' => v = V ∧ mCl h' t' S.1.1 0 t'' h''))) : zMet E b l y cc ml rt d mc ms av t h (qJ (jEJ E b l ym cm mlm rtm avm (K + 1))) := by
  refine hW.mono (fun v t' h' hp => ?_)
  obtain ⟨v, rfl, rfl, hq⟩ := hp
  obtain ⟨e', I', g⟩ := I.ask hq
  refine ⟨v, rfl, I'.1.1, dm, hd, (hm e' t' _ I' (g 157 41 (by omega)).1).mono (fun r t'' h'' hr => ?_)⟩
  obtain ⟨r, rfl, rfl, hc⟩ := hr
  exact ⟨r, rfl, rfl, a, c, e', S, (I'.cl hc).1⟩
theorem je_fault (I : jI t h a c e S K) (hK : K ≤ 511) : zMet E b l yX10_fault cX10_fault 1 (some .int) 1 0 0 [.ref (b + 0)] t h (qI (jEI E b l yX11_fault cX11_fault 1 (some .int) [] (K + 1))) := by
  exact jeI (dm := 1) I (jaF (c10_fault I.X)) (by omega) (fun e' t' h' J eq => by rw [I.2.2.1.2.2.2.2, ← J.2.2.2.2.2.2.2.2.2]; exact jmF J (c_fault J.T))
theorem je_minutes (I : jI t h a c e S K) (hK : K ≤ 511) : zMet E b l yX10_minutes cX10_minutes 1 (some .long) 8 0 0 [.ref (b + 0)] t h (qJ (jEJ E b l yX11_minutes cX11_minutes 2 (some .long) [] (K + 1))) := by
  exact jeJ (dm := 6) I (c10_minutes I.X I.O I.C (zI h 157 41)) (by omega) (fun e' t' h' J eq => by rw [← eq]; exact jn4 (c_minutes J.T J.D J.M J.Ro J.ro (J.td hK (by have := J.Ro.1; omega))))
theorem je_count (I : jI t h a c e S K) (hK : K ≤ 511) (p0 : Int32) : zMet E b l yX10_count cX10_count 2 (some .int) 1 0 0 [.ref (b + 0), .int p0] t h (qI (jEI E b l yX11_count cX11_count 2 (some .int) [.int p0] (K + 1))) := by
  exact jeI (dm := 1) I (jaF (c10_count I.X I.C p0 I.2.2.1.2.1 I.2.2.1.2.2.2.1.1)) (by omega) (fun e' t' h' J eq => jmF J (c_count J.T J.ro p0 J.2.2.2.2.2.2.1 J.2.2.2.2.2.2.2.2.1.1))
theorem je_clear (I : jI t h a c e S K) (hK : K ≤ 511) : zMet E b l yX10_clear cX10_clear 2 (some .int) 1 0 0 [.ref (b + 0)] t h (qI (jEI E b l yX11_clear cX11_clear 2 (some .int) [] (K + 1))) := by
  refine zMet.mono (c10_clear I.X I.C) (fun v t' h' hp => ?_)
  obtain ⟨v, rfl, rfl, rfl, rfl⟩ := hp
  have g0 : gX h (zsI h 68 4 0) := fun i k z => ⟨by rw [zI_sI, if_neg (by omega)], rfl⟩
  have hM0 : jM (zsI h 68 4 0) S := I.2.2.2.fr g0
  have hC : jC (zsI h 68 4 0) a (jR S (0, S.1.2.2.2)) := I.2.2.1.row (tX_a2 I.X) I.2.1 (fun i k z => by rw [zI_sI, if_neg (by omega)]) (zI_self _ _ _ _) (fun k hk => absurd hk (Nat.not_lt_zero k))
  refine ⟨_, rfl, I.T, 1, by omega, (c_clear I.T hM0.2.1).mono (fun r t'' h'' hr => ?_)⟩
  obtain ⟨r, rfl, rfl, rfl, rfl⟩ := hr
  refine ⟨_, rfl, rfl, a, c, e, _, jFin (h1 := zsI h 68 4 0) I.1 rfl (I.2.1.up.r ⟨Nat.zero_le _, fun k hk => absurd hk (Nat.not_lt_zero k)⟩) hC (fun i k z => ⟨?_, rfl⟩) (hM0.row I.2.1 (fun i k z => ?_) ⟨zI_self _ _ _ _, fun k hk => absurd hk (Nat.not_lt_zero k)⟩)⟩
  · rw [zI_sI, if_neg (by omega), zI_sI, if_neg (by omega)]
  · rw [zI_sI, if_neg (by omega), zI_sI, if_neg (by omega)]
end JR
