/-! ===== both sides: images ===== -/
section JI
variable {E : zE} {b : Nat} {l : Launch} {t : zT} {h : zH} {a c e : Nat} {S : yJ} {K : Nat}
/-- one image more -/
abbrev jIm (S : yJ) (k : Nat) : yJ := (S.1, (k + 1, fun j => if j = k then (S.1.1.2.2.1, S.1.1.2.2.2, S.1.2.2) else S.2.1.2 j), S.2.2)
theorem jIm_k (S : yJ) (k : Nat) : (jIm S k).2.1.2 k = (S.1.1.2.2.1, S.1.1.2.2.2, S.1.2.2) := if_pos rfl
theorem jIm_n (S : yJ) {k j : Nat} (h : ¬ j = k) : (jIm S k).2.1.2 j = S.2.1.2 j := if_neg h
theorem jOk.im {k : Nat} (hO : jOk S K) (hk : k < 3) (ek : S.2.1.1 = k) : jOk (jIm S k) K := by
  refine ⟨hO.1, hO.2.1, ⟨by show k + 1 ≤ 3; omega, fun j hj => ?_⟩, hO.2.2.2⟩
  have hj' : j < k + 1 := hj
  by_cases z : j = k
  · subst z
    rw [jIm_k]
    exact ⟨hO.1, hO.2.1⟩
  · rw [jIm_n S z]
    exact hO.2.2.1.2 j (by omega)
theorem jC.im {h' : zH} {k : Nat} (ha : a = 2 ∨ a = 36) (hO : jOk S K) (hk : k < 3) (ek : S.2.1.1 = k) (tk : cTk h (145 + 4 * k) 68 h') (hm : jC h a S) : jC (zsI h' 0 4 (nI (k + 1))) a (jIm S k) := by
  obtain ⟨m1, m2, m3, ⟨m4, m5⟩, m6⟩ := hm
  have e1 : ∀ i q, ¬ (145 + 4 * k ≤ i ∧ i ≤ 145 + 4 * k + 3) → ¬ i = 0 → zI (zsI h' 0 4 (nI (k + 1))) i q = zI h i q := fun i q z y => by
    rw [zI_sI, if_neg (fun x => y x.1)]; exact tk.1.1 i q z
  have e2 : ∀ i q, ¬ i = 0 → zI (zsI h' 0 4 (nI (k + 1))) i q = zI h' i q := fun i q y => by rw [zI_sI, if_neg (fun x => y x.1)]
  refine ⟨m1.mk2 hO.1 (fun i q z y => e1 i q (by omega) (by omega)) (m1.2.2.2.fs (fun i q z y => e1 i q (by omega) (by omega))), zI_self _ _ _ _, fun j hj => ?_, ⟨?_, fun i hi => ?_⟩, ?_⟩
  · have hj' : j < k + 1 := hj
    by_cases z : j = k
    · subst z
      rw [jIm_k]
      exact (tk.st (by have := hO.1.2.2.1; omega) hO.1.2.2.2.1.1 m1.2.2.2).fs (fun i q z y => e2 i q (by omega))
    · rw [jIm_n S z]
      exact (m3 j (by omega)).fs (fun i q z y => e1 i q (by omega) (by omega))
  · rw [e1 _ _ (by omega) (by omega)]; exact m4
  · rw [e1 _ _ (by omega) (by omega)]; exact m5 i hi
  · rw [e1 _ _ (by omega) (by omega)]; exact m6
theorem jM.im {h' : zH} {k : Nat} (hO : jOk S K) (hk : k < 3) (ek : S.2.1.1 = k) (mi : mI0 (zsI h 157 0 0) k 52 h') (hm : jM h S) : jM (zsI h' 157 21 (nI (k + 1))) (jIm S k) := by
  obtain ⟨m1, m2, m3, m4, m5, ⟨m6, m7⟩, m8⟩ := hm
  have hn := hO.1.2.2.1
  have hr := hO.1.2.2.2.1.1
  have e1 : ∀ i q, ¬ (i = 229 + 1 + k ∨ (i = 157 ∧ (q = 22 ∨ q = 0 ∨ q = 21))) → zI (zsI h' 157 21 (nI (k + 1))) i q = zI h i q := fun i q z => by
    rw [zI_sI, if_neg (by omega), mi.1 i q (by omega), zI_sI, if_neg (by omega)]
  have e2 : ∀ j, j < 52 → zI (zsI h' 157 21 (nI (k + 1))) (229 + 1 + k) j = imgOf (zsI h 157 0 0) j := fun j hj => by
    rw [zI_sI, if_neg (by omega)]; exact mi.2.2.2 j hj
  have e3 : ∀ i q, ¬ (i = 157 ∧ q = 0) → zI (zsI h 157 0 0) i q = zI h i q := fun i q z => by rw [zI_sI, if_neg z]
  refine ⟨m1.fs hO.1 (fun i q z => e1 i q (by unfold nS at z; omega)) ⟨fun j hj => ⟨?_, ?_⟩, ?_⟩, ⟨?_, fun j hj => ?_⟩, m3.fs hO.1.2.2.2.2.1 (fun i q z => e1 i q (by omega)), zI_self _ _ _ _, fun j hj => ?_, ⟨?_, fun i hi => ?_⟩, ?_⟩
  · rw [e1 _ _ (by omega)]; exact (m1.2.2.2.2.2.1 j hj).2.1
  · rw [e1 _ _ (by omega)]; exact (m1.2.2.2.2.2.1 j hj).2.2
  · rw [e1 _ _ (by omega)]; exact m1.2.2.2.2.2.2
  · rw [e1 _ _ (by omega)]; exact m2.1
  · rw [e1 _ _ (by omega)]; exact m2.2 j hj
  · have hj' : j < k + 1 := hj
    by_cases z : j = k
    · subst z
      rw [jIm_k]
      refine ⟨?_, ?_, fun q hq => ⟨?_, ?_⟩, fun q hq => ?_⟩
      · rw [e2 _ (by omega)]
        unfold imgOf
        rw [if_pos rfl, e3 _ _ (by omega)]; exact m1.2.2.2.2.2.2
      · rw [e2 _ (by omega)]
        unfold imgOf
        rw [if_neg (by omega), if_pos rfl, e3 _ _ (by omega)]; exact m2.1
      · have hq' : q < S.1.1.2.1.1.1 := hq
        rw [e2 _ (by omega)]
        unfold imgOf
        rw [if_neg (by omega), if_neg (by omega), if_pos (by omega), if_pos (by omega), e3 _ _ (by omega), show (2 + 2 * q) / 2 - 1 = q by omega]; exact (m1.2.2.2.2.2.1 q hq').2.1
      · have hq' : q < S.1.1.2.1.1.1 := hq
        rw [e2 _ (by omega)]
        unfold imgOf
        rw [if_neg (by omega), if_neg (by omega), if_pos (by omega), if_neg (by omega), e3 _ _ (by omega), show (3 + 2 * q) / 2 - 1 = q by omega]; exact (m1.2.2.2.2.2.1 q hq').2.2
      · have hq' : q < S.1.2.2.1 := hq
        rw [e2 _ (by omega)]
        unfold imgOf
        rw [if_neg (by omega), if_neg (by omega), if_neg (by omega), e3 _ _ (by omega), show 22 + q - 22 = q by omega]; exact m2.2 q hq'
    · rw [jIm_n S z]
      exact (m5 j (by omega)).fr (fun q => e1 _ _ (by omega))
  · rw [e1 _ _ (by omega)]; exact m6
  · rw [e1 _ _ (by omega)]; exact m7 i hi
  · rw [e1 _ _ (by omega)]; exact m8
theorem je_image (I : jI t h a c e S K) (hK : K ≤ 511) : zMet E b l yX10_image cX10_image 1 (some .int) 2 0 0 [.ref (b + 0)] t h (qI (jEI E b l yX11_image cX11_image 1 (some .int) [] (K + 1))) := by
  have hi3 := I.2.1.2.2.1.1
  by_cases c1 : S.2.1.1 = 3
  · exact jeI (dm := 3) I (jaF (c10_image2 I.X (by rw [I.2.2.1.2.1, c1]))) (by omega) (fun e' t' h' J eq => jmF J (c_image2 J.T (by rw [J.2.2.2.2.2.2.1, c1])))
  · refine zMet.mono (c10_image1 I.X (k := S.2.1.1) (by omega) I.2.2.1.2.1) (fun v t' h' hp => ?_)
    obtain ⟨v, rfl, rfl, rfl, h2, tk, rfl⟩ := hp
    have hC := I.2.2.1.im (tX_a2 I.X) I.2.1 (by omega) rfl tk
    have g0 : gX h (zsI h2 0 4 (nI (S.2.1.1 + 1))) := fun i q z => ⟨by rw [zI_sI, if_neg (by omega)]; exact tk.1.1 i q (by omega), tk.1.2 i q (by omega)⟩
    have hM0 := I.2.2.2.fr g0
    refine ⟨_, rfl, I.T, 3, by omega, (c_image1 I.T S.2.1.1 (by omega) hM0.2.2.2.1).mono (fun r t'' h'' hr => ?_)⟩
    obtain ⟨r, rfl, rfl, rfl, h4, mi, rfl⟩ := hr
    refine ⟨_, rfl, rfl, a, c, e, _, jFin I.1 rfl (I.2.1.up.im (by omega) rfl) hC (fun i q z => ⟨?_, ?_⟩) (hM0.im I.2.1 (by omega) rfl mi)⟩
    · rw [zI_sI, if_neg (by omega), mi.1 i q (by omega), zI_sI, if_neg (by omega)]
    · exact (mi.2.1 i q)
/-- the newest image taken -/
abbrev jOn (S : yJ) (k : Nat) : yJ := (((S.1.1.1, S.1.1.2.1, (S.2.1.2 k).1, (S.2.1.2 k).2.1), S.1.2.1, (S.2.1.2 k).2.2), (k, S.2.1.2), S.2.2)
theorem jOk.on {k : Nat} (hO : jOk S K) (ek : S.2.1.1 = k + 1) : jOk (jOn S k) K := ⟨(hO.2.2.1.2 k (by omega)).1, (hO.2.2.1.2 k (by omega)).2, ⟨by have := hO.2.2.1.1; show k ≤ 3; omega, fun j hj => hO.2.2.1.2 j (by have hj' : j < k := hj; omega)⟩, hO.2.2.2⟩
theorem jC.on {h' : zH} {k : Nat} (ha : a = 2 ∨ a = 36) (hO : jOk S K) (ek : S.2.1.1 = k + 1) (tk : cTk (zsI h 0 4 (nI k)) 68 (145 + 4 * k) h') (hm : jC h a S) : jC h' a (jOn S k) := by
  obtain ⟨m1, m2, m3, ⟨m4, m5⟩, m6⟩ := hm
  have e0 : ∀ i q, ¬ i = 0 → zI (zsI h 0 4 (nI k)) i q = zI h i q := fun i q y => by rw [zI_sI, if_neg (fun x => y x.1)]
  have e1 : ∀ i q, ¬ (68 ≤ i ∧ i ≤ 71) → ¬ i = 0 → zI h' i q = zI h i q := fun i q z y => by
    rw [tk.1.1 i q z]; exact e0 i q y
  have hr := (hO.2.2.1.2 k (by omega)).1.2.2.2.1.1
  refine ⟨m1.mk2 hO.1 (fun i q z y => e1 i q (by omega) (by omega)) (tk.st (by have := hO.1.2.2.1; omega) hr ((m3 k (by omega)).fs (fun i q z y => e0 i q (by omega)))), ?_, fun j hj => ?_, ⟨?_, fun i hi => ?_⟩, ?_⟩
  · rw [tk.1.1 _ _ (by omega)]; exact zI_self _ _ _ _
  · have hj' : j < k := hj
    exact (m3 j (by omega)).fs (fun i q z y => e1 i q (by omega) (by omega))
  · rw [e1 _ _ (by omega) (by omega)]; exact m4
  · rw [e1 _ _ (by omega) (by omega)]; exact m5 i hi
  · rw [e1 _ _ (by omega) (by omega)]; exact m6
theorem jM.on {h' : zH} {k : Nat} (hO : jOk S K) (ek : S.2.1.1 = k + 1) (mi : mI1 (zsI (zsI h 157 0 0) 157 21 (nI k)) k 52 h') (hm : jM h S) : jM h' (jOn S k) := by
  obtain ⟨m1, m2, m3, m4, m5, ⟨m6, m7⟩, m8⟩ := hm
  have hn := hO.1.2.2.1
  have hk3 := hO.2.2.1.1
  have hr := (hO.2.2.1.2 k (by omega)).1.2.2.2.1.1
  have e0 : ∀ i q, ¬ (i = 157 ∧ (q = 0 ∨ q = 21)) → zI (zsI (zsI h 157 0 0) 157 21 (nI k)) i q = zI h i q := fun i q z => by rw [zI_sI, if_neg (by omega), zI_sI, if_neg (by omega)]
  have e1 : ∀ i q, ¬ (i = 226 ∨ i = 227 ∨ i = 228 ∨ (i = 157 ∧ (q = 22 ∨ q = 19 ∨ q = 20 ∨ q = 0 ∨ q = 21))) → zI h' i q = zI h i q := fun i q z => by
    rw [mi.1 i q (by omega)]; exact e0 i q (by omega)
  have e2 : ∀ i j s, posAt i j s → s < 52 → zI h' i j = zI h (229 + 1 + k) s := fun i j s z y => by
    rw [mi.2.2.2 i j s z y]; exact e0 _ _ (by omega)
  obtain ⟨i1, i2, i3, i4⟩ := m5 k (by omega)
  refine ⟨m1.fs hO.1 (fun i q z => e1 i q (by unfold nS at z; omega)) ⟨fun j hj => ⟨?_, ?_⟩, ?_⟩, ⟨?_, fun j hj => ?_⟩, m3.fs hO.1.2.2.2.2.1 (fun i q z => e1 i q (by omega)), ?_, fun j hj => ?_, ⟨?_, fun i hi => ?_⟩, ?_⟩
  · rw [e2 226 j (2 + 2 * j) (by unfold posAt; omega) (by omega)]; exact (i3 j hj).1
  · rw [e2 227 j (3 + 2 * j) (by unfold posAt; omega) (by omega)]; exact (i3 j hj).2
  · rw [e2 157 19 0 (by unfold posAt; omega) (by omega)]; exact i1
  · rw [e2 157 20 1 (by unfold posAt; omega) (by omega)]; exact i2
  · have hj' : j < (S.2.1.2 k).2.2.1 := hj
    rw [e2 228 j (22 + j) (by unfold posAt; omega) (by omega)]; exact i4 j hj'
  · rw [mi.1 _ _ (by omega)]; exact zI_self _ _ _ _
  · have hj' : j < k := hj
    exact (m5 j (by omega)).fr (fun q => e1 _ _ (by omega))
  · rw [e1 _ _ (by omega)]; exact m6
  · rw [e1 _ _ (by omega)]; exact m7 i hi
  · rw [e1 _ _ (by omega)]; exact m8
theorem je_on (I : jI t h a c e S K) (hK : K ≤ 511) : zMet E b l yX10_on cX10_on 1 (some .int) 2 0 0 [.ref (b + 0)] t h (qI (jEI E b l yX11_on cX11_on 1 (some .int) [] (K + 1))) := by
  have hi3 := I.2.1.2.2.1.1
  by_cases c1 : S.2.1.1 = 0
  · exact jeI (dm := 3) I (jaF (c10_on2 I.X (by rw [I.2.2.1.2.1, c1]; rfl))) (by omega) (fun e' t' h' J eq => jmF J (c_on2 J.T (by rw [J.2.2.2.2.2.2.1, c1]; rfl)))
  · obtain ⟨k, ek⟩ : ∃ k, S.2.1.1 = k + 1 := ⟨S.2.1.1 - 1, by omega⟩
    refine zMet.mono (c10_on1 I.X (k := k) (by omega) (by rw [I.2.2.1.2.1, ek])) (fun v t' h' hp => ?_)
    obtain ⟨v, rfl, rfl, rfl, tk⟩ := hp
    have hC := I.2.2.1.on (tX_a2 I.X) I.2.1 ek tk
    have g0 : gX h h' := fun i q z => ⟨by rw [tk.1.1 i q (by omega), zI_sI, if_neg (by omega)], tk.1.2 i q (by omega)⟩
    have hM0 := I.2.2.2.fr g0
    refine ⟨_, rfl, I.T, 3, by omega, (c_on1 I.T k (by omega) (by rw [hM0.2.2.2.1, ek])).mono (fun r t'' h'' hr => ?_)⟩
    obtain ⟨r, rfl, rfl, rfl, mi⟩ := hr
    refine ⟨_, rfl, rfl, a, c, e, _, jFin I.1 rfl (I.2.1.up.on ek) hC (fun i q z => ⟨?_, ?_⟩) (hM0.on I.2.1 ek mi)⟩
    · rw [mi.1 i q (by omega), zI_sI, if_neg (by omega), zI_sI, if_neg (by omega)]
    · exact (mi.2.1 i q)
end JI
