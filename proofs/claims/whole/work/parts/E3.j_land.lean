/-! ===== both sides: feed and land ===== -/
section JL
variable {E : zE} {b : Nat} {l : Launch} {t : zT} {h : zH} {a c e : Nat} {S : yJ} {K : Nat}
/-- other bytes -/
abbrev jB (S : yJ) (T : Nat × (Nat → Nat)) (p : Int32) : yJ := (S.1, S.2.1, T, p)
theorem jC.tp {h' : zH} {T : Nat × (Nat → Nat)} {p : Int32} (ha : a = 2 ∨ a = 36) (hO : jOk S K) (e1 : ∀ i q, (a ≤ i ∧ i ≤ a + 31) ∨ 68 ≤ i ∨ i = 0 → zI h' i q = zI h i q) (e2 : zI h' 1 0 = nI T.1) (e3 : ∀ i, i < T.1 → zI h' 34 i = nI (T.2 i)) (e4 : zI h' 1 2 = p) (hm : jC h a S) : jC h' a (jB S T p) := by
  obtain ⟨m1, m2, m3, -, -⟩ := hm
  refine ⟨m1.mk2 hO.1 (fun i q z y => e1 i q (by omega)) (m1.2.2.2.fs (fun i q z y => e1 i q (by omega))), ?_, fun k hk => (m3 k hk).fs (fun i q z y => e1 i q (by omega)), ⟨e2, e3⟩, e4⟩
  rw [e1 _ _ (by omega)]; exact m2
theorem jM.tp {h' : zH} {T : Nat × (Nat → Nat)} {p : Int32} (hO : jOk S K) (e1 : ∀ i q, nS i q ∨ (192 ≤ i ∧ i ≤ 195) ∨ (226 ≤ i ∧ i ≤ 232) ∨ (i = 157 ∧ (q = 19 ∨ q = 20 ∨ q = 21)) → zI h' i q = zI h i q) (e2 : zI h' 157 1 = nI T.1) (e3 : ∀ i, i < T.1 → zI h' 158 i = nI (T.2 i)) (e4 : zI h' 157 3 = p) (hm : jM h S) : jM h' (jB S T p) := by
  obtain ⟨m1, m2, m3, m4, m5, -, -⟩ := hm
  have hi := hO.2.2.1.1
  refine ⟨m1.fs hO.1 (fun i q z => e1 i q (Or.inl z)) ⟨fun j hj => ⟨?_, ?_⟩, ?_⟩, ⟨?_, fun j hj => ?_⟩, m3.fs hO.1.2.2.2.2.1 (fun i q z => e1 i q (by unfold nS; omega)), ?_, fun k hk => (m5 k hk).fr (fun q => e1 _ _ ?_), ⟨e2, e3⟩, e4⟩
  · rw [e1 _ _ (by omega)]; exact (m1.2.2.2.2.2.1 j hj).2.1
  · rw [e1 _ _ (by omega)]; exact (m1.2.2.2.2.2.1 j hj).2.2
  · rw [e1 _ _ (by omega)]; exact m1.2.2.2.2.2.2
  · rw [e1 _ _ (by omega)]; exact m2.1
  · rw [e1 _ _ (by omega)]; exact m2.2 j hj
  · rw [e1 _ _ (by omega)]; exact m4
  · have hk' : k < S.2.1.1 := hk
    omega
theorem jOk.bt {T : Nat × (Nat → Nat)} {p : Int32} (hO : jOk S K) (h1 : T.1 ≤ 600) (h2 : ∀ i, i < T.1 → T.2 i < 256) : jOk (jB S T p) K := ⟨hO.1, hO.2.1, hO.2.2.1, h1, h2⟩
theorem feedB_ok (u v w x y : Int32) (j : Nat) : nI (feedB u v w x y j).toNatClampNeg = feedB u v w x y j ∧ (feedB u v w x y j).toNatClampNeg < 256 := by
  unfold feedB
  obtain ⟨k, hk, ek⟩ := byteOf_lt (if j < 4 then u else if j < 8 then v else if j < 12 then w else if j < 16 then x else y) (j % 4)
  rw [ek, nI_clamp (by omega)]
  exact ⟨rfl, hk⟩
abbrev fdB (T : Nat × (Nat → Nat)) (f : Nat → Int32) : Nat × (Nat → Nat) := (T.1 + 20, fun i => if i < T.1 then T.2 i else (f (i - T.1)).toNatClampNeg)
theorem je_feed (I : jI t h a c e S K) (hK : K ≤ 511) (p0 : Int32) (p1 : Int32) (p2 : Int32) (p3 : Int32) (p4 : Int32) : zMet E b l yX10_feed cX10_feed 6 (some .int) 2 0 0 [.ref (b + 0), .int p0, .int p1, .int p2, .int p3, .int p4] t h (qI (jEI E b l yX11_feed cX11_feed 8 (some .int) [.int p0, .int p1, .int p2, .int p3, .int p4] (K + 1))) := by
  have htp := I.2.1.2.2.2.1
  by_cases c1 : S.2.2.1.1 + 20 ≤ 600
  · refine zMet.mono (c10_feed1 I.X c1 I.2.2.1.2.2.2.1.1 p0 p1 p2 p3 p4) (fun v t' h' hp => ?_)
    obtain ⟨v, rfl, rfl, rfl, f1, f2, f3, f4⟩ := hp
    have hC : jC h' a (jB S (fdB S.2.2.1 (feedB p0 p1 p2 p3 p4)) S.2.2.2) := by
      refine I.2.2.1.tp (tX_a2 I.X) I.2.1 (fun i q z => f1 i q (by have := tX_a2 I.X; omega)) f3 (fun i hi => ?_) ?_
      · have hi' : i < S.2.2.1.1 + 20 := hi
        show _ = nI (if i < S.2.2.1.1 then S.2.2.1.2 i else _)
        by_cases z : i < S.2.2.1.1
        · rw [if_pos z, f1 _ _ (by omega)]; exact I.2.2.1.2.2.2.1.2 i z
        · rw [if_neg z, (feedB_ok p0 p1 p2 p3 p4 _).1, ← f4 (i - S.2.2.1.1) (by omega), show S.2.2.1.1 + (i - S.2.2.1.1) = i by omega]
      · rw [f1 _ _ (by omega)]; exact I.2.2.1.2.2.2.2
    have g0 : gX h h' := fun i q z => ⟨f1 i q (by omega), f2 i q⟩
    have hM0 := I.2.2.2.fr g0
    have hO : jOk (jB S (fdB S.2.2.1 (feedB p0 p1 p2 p3 p4)) S.2.2.2) (K + 1) := by
      refine I.2.1.up.bt c1 (fun i hi => ?_)
      show (if i < S.2.2.1.1 then S.2.2.1.2 i else _) < 256
      split
      · exact I.2.1.2.2.2.2 i ‹_›
      · exact (feedB_ok p0 p1 p2 p3 p4 _).2
    refine ⟨_, rfl, I.T, 1, by omega, (c_feed1 I.T c1 hM0.2.2.2.2.2.1.1 p0 p1 p2 p3 p4).mono (fun r t'' h'' hr => ?_)⟩
    obtain ⟨r, rfl, rfl, rfl, k1, k2, k3, k4⟩ := hr
    have k5 : ∀ i q, ¬ ((i = 157 ∧ (q = 0 ∨ q = 1)) ∨ (i = 158 ∧ S.2.2.1.1 ≤ q)) → zI h'' i q = zI h' i q := fun i q z => by
      rw [k1 i q (by omega), zI_sI, if_neg (by omega)]
    refine ⟨_, rfl, rfl, a, c, e, _, jFin I.1 rfl hO hC (fun i q z => ⟨k5 i q (by omega), k2 i q⟩) (hM0.tp I.2.1 (fun i q z => k5 i q (by unfold nS at z; omega)) k3 (fun i hi => ?_) ?_)⟩
    · have hi' : i < S.2.2.1.1 + 20 := hi
      show _ = nI (if i < S.2.2.1.1 then S.2.2.1.2 i else _)
      by_cases z : i < S.2.2.1.1
      · rw [if_pos z, k5 _ _ (by omega)]; exact hM0.2.2.2.2.2.1.2 i z
      · rw [if_neg z, (feedB_ok p0 p1 p2 p3 p4 _).1, ← k4 (i - S.2.2.1.1) (by omega), show S.2.2.1.1 + (i - S.2.2.1.1) = i by omega]
    · rw [k5 _ _ (by omega)]; exact hM0.2.2.2.2.2.2
  · exact jeI (dm := 1) I (jaF (c10_feed2 I.X (by omega) htp I.2.2.1.2.2.2.1.1 p0 p1 p2 p3 p4)) (by omega) (fun e' t' h' J eq => jmF J (c_feed2 J.T (by omega) htp J.2.2.2.2.2.2.2.2.1.1 p0 p1 p2 p3 p4))
theorem jT.sw (hT : jT t a c e) : jT (zsR (zsR t 0 1 (some c)) 1 3 (some a)) c a e := ⟨(hT.1.sR (by omega)).sR (by omega), hT.2.1.sw, hT.2.2.1, hT.2.2.2⟩
theorem jw_land (I : jI t h a c e S K) (hK : K ≤ 511) (hlt : l.stackTraces = false) (p0 : Int32) : zMetW E b l yL_land cL_land 4 (some .int) [(0, 9, 12, 13)] 15 1 6 [.ref (b + 0), .int p0, .ref (b + 250)] t h (qI (jMI E b l yX11_land cX11_land 4 (some .int) [.int p0] (K + 1))) := by
  have htp := I.2.1.2.2.2.1
  have hac := I.X.2.2.2.1
  by_cases c1 : ∃ k, k ≤ S.2.2.1.1 ∧ p0 = nI k
  · obtain ⟨n, hn, rfl⟩ := c1
    have hB : ∀ i, i < S.2.2.1.1 → zI h 34 i = nI (S.2.2.1.2 i) ∧ S.2.2.1.2 i < 256 := fun i hi => ⟨I.2.2.1.2.2.2.1.2 i hi, I.2.1.2.2.2.2 i hi⟩
    have hc := c10_land1 (E := E) (b := b) (l := l) c3_kindOf I.X htp I.2.2.1.2.2.2.1.1 hB n hn
    have hm : ∀ t' h', zTM t' → jM h' S → zMet E b l yX11_land cX11_land 4 (some .int) 7 0 0 [.ref (b + 157), .int (nI n)] t' h' (qI (fun v t'' h'' => t'' = t' ∧ mLnd h' (rdT S.2.2.1.2 n) v h'')) := fun t' h' hT hM => c_land1 hT I.D I.t0 hM.1 htp hM.2.2.2.2.2.1.1 (fun i hi => ⟨hM.2.2.2.2.2.1.2 i hi, I.2.1.2.2.2.2 i hi⟩) n hn
    cases hr : rdT S.2.2.1.2 n with
    | inl f =>
      rw [hr] at hc
      simp only [hr] at hm
      refine zMetW.mono (wo_land _ (by omega) I.kX hc (fun v t' h' hp => by
        obtain ⟨-, -, -, rfl, -⟩ := hp
        exact I.1.2.2.2)) (fun v t' h' hp => ?_)
      obtain ⟨k, rfl, rfl, v, h1, ⟨rfl, f1, f2, rfl, f3, f4, f5⟩, rfl⟩ := hp
      have hC : jC h1 a (jB S (0, S.2.2.1.2) (nI f.2)) := I.2.2.1.tp (tX_a2 I.X) I.2.1 (fun i q z => f3.1 i q (by unfold sY; omega)) f4 (fun i hi => absurd hi (Nat.not_lt_zero i)) f5
      have g0 : gX h h1 := fun i q z => ⟨f3.1 i q (by unfold sY; omega), f3.2 i q⟩
      have hM1 : jM h1 S := I.2.2.2.fr g0
      have hM0 : jM (zsL h1 250 0 (nI f.1 - 10).toInt64) S := hM1
      refine ⟨0, rfl, I.T, 7, by omega, (hm t' _ I.T hM0).mono (fun r t'' h'' hr => ?_)⟩
      obtain ⟨r, rfl, rfl, rfl, -, -, k1, k2, k3, k4, k5⟩ := hr
      refine ⟨_, rfl, k3, fun _ => by rw [k2]; exact zL_self _ _ _ _, a, c, e, _, jFin (h1 := zsL h1 250 0 (nI f.1 - 10).toInt64) I.1 rfl (I.2.1.up.bt (Nat.zero_le _) (fun i hi => absurd hi (Nat.not_lt_zero i))) hC (fun i q z => ⟨k1 i q (by unfold sLn sC; omega), k2 i q⟩) (hM0.tp I.2.1 (fun i q z => k1 i q (by unfold sLn sC; unfold nS at z; omega)) k4 (fun i hi => absurd hi (Nat.not_lt_zero i)) k5)⟩
    | inr r =>
      rw [hr] at hc
      simp only [hr] at hm
      refine zMetW.mono (wo_land _ (by omega) I.kX hc (fun v t' h' hp => by
        obtain ⟨-, rfl, -⟩ := hp
        exact I.1.2.2.2)) (fun v t' h' hp => ?_)
      obtain ⟨k, rfl, rfl, v, h1, ⟨rfl, rfl, ⟨cn, ok⟩, f1, f2, f3, f4, f5, f6⟩, rfl⟩ := hp
      have hC : jC h1 c ((rD r, rMo r, (0, fun _ => 0)), (0, S.2.1.2), (0, S.2.2.1.2), -1) := ⟨f5, f6, fun k hk => absurd hk (Nat.not_lt_zero k), ⟨f3, fun i hi => absurd hi (Nat.not_lt_zero i)⟩, f4⟩
      have hO : jOk ((rD r, rMo r, (0, fun _ => 0)), (0, S.2.1.2), (0, S.2.2.1.2), -1) (K + 1) := ⟨rD_ok ok, Nat.zero_le _, ⟨Nat.zero_le _, fun k hk => absurd hk (Nat.not_lt_zero k)⟩, Nat.zero_le _, fun i hi => absurd hi (Nat.not_lt_zero i)⟩
      have g0 : gX h h1 := fun i q z => ⟨f1 i q (by unfold sY; omega), f2 i q (by omega)⟩
      have hM1 : jM h1 S := I.2.2.2.fr g0
      have hM0 : jM (zsL h1 250 0 (nI r.1.2.1).toInt64) S := hM1
      have hT := I.1.sw
      refine ⟨0, rfl, hT.1, 7, by omega, (hm _ _ hT.1 hM0).mono (fun r' t'' h'' hr => ?_)⟩
      obtain ⟨r', rfl, rfl, rfl, -, k1, k2, k3, k4, k5, k6, k7, k8, k9⟩ := hr
      refine ⟨_, rfl, k3, fun _ => by rw [k2]; exact zL_self _ _ _ _, c, a, e, _, jFin (h1 := zsL h1 250 0 (nI r.1.2.1).toInt64) hT rfl hO hC (fun i q z => ⟨k1 i q (by unfold sLm sLn sC; omega), k2 i q⟩) ⟨k6, k8, k7, k9, fun k hk => absurd hk (Nat.not_lt_zero k), ⟨k4, fun i hi => absurd hi (Nat.not_lt_zero i)⟩, k5⟩⟩
  · exact jxI I (by decide) (wx_land_A _ (by omega) I.kX (c10_land0 I.X hlt I.F htp I.2.2.1.2.2.2.1.1 p0 c1)) (by omega) (jy5 (c_land0 I.T I.D I.M htp I.2.2.2.2.2.2.2.2.1.1 p0 c1))
end JL
