/-! ===== both sides: calls that change what stands ===== -/
theorem dOk.go {D : yD} {Mo : Nat × (Nat → Nat → Nat)} {R : Nat × (Nat → Nat)} {x : yS} {day : Nat} (hO : dOk D Mo R) (hW : wOk D.1 D.2.1 yP0 x) (hd : day < 2 ^ 20) : dOk (D.1, D.2.1, x.1, day) Mo R := ⟨⟨hW.1, hW.2.1, hW.2.2.1, hW.2.2.2, hd⟩, hO.2⟩
/-- another State on the same land -/
abbrev jW (S : yJ) (w : (Nat → Nat) × (Nat → Nat)) (day : Nat) : yJ := (((S.1.1.1, S.1.1.2.1, w, day), S.1.2), S.2)
theorem jOk.w {S : yJ} {K : Nat} {w : (Nat → Nat) × (Nat → Nat)} {day : Nat} (hO : jOk S K) (h1 : dOk (S.1.1.1, S.1.1.2.1, w, day) S.1.2.1 S.1.2.2) (h2 : day ≤ 366 * (K + 1)) : jOk (jW S w day) (K + 1) := ⟨h1, h2, hO.up.2.2⟩
/-- both have come through -/
theorem jFin {t t' : zT} {h1 h2 : zH} {a c e : Nat} {S : yJ} {K : Nat} (hT : jT t a c e) (et : t' = t) (hO : jOk S K) (hC : jC h1 a S) (g : gM h1 h2) (hM : jM h2 S) : jI t' h2 a c e S K := by
  subst et
  exact ⟨hT, hO, hC.fr g (tX_a2 hT.2.1) hO, hM⟩
section JD
variable {E : zE} {b : Nat} {l : Launch} {t : zT} {h : zH} {a c e : Nat} {S : yJ} {K : Nat} {y ym : MethodName} {cc cm : ByteArray} {ml mlm : Nat} {rt rtm : Option FieldType} {hh : List (Nat × Nat × Nat × Nat)} {d dm mc ms : Nat} {av avm : List Value}
theorem jC.do {h' : zH} {w : (Nat → Nat) × (Nat → Nat)} {day : Nat} (g : cAg 68 144 h h') (hm : jC h a S) (hs : cSn h' a (S.1.1.1, S.1.1.2.1, w, day) S.1.2.1 S.1.2.2) : jC h' a (jW S w day) := by
  obtain ⟨m1, m2, m3, ⟨m4, m5⟩, m6⟩ := hm
  refine ⟨hs, ?_, fun k hk => (m3 k hk).ag g (by omega), ⟨?_, fun i hi => ?_⟩, ?_⟩
  · rw [g.1 _ _ (by omega)]; exact m2
  · rw [g.1 _ _ (by omega)]; exact m4
  · rw [g.1 _ _ (by omega)]; exact m5 i hi
  · rw [g.1 _ _ (by omega)]; exact m6
/-- days that go by -/
theorem jdI {V : Int32} {w : (Nat → Nat) × (Nat → Nat)} {day : Nat} (I : jI t h a c e S K) (h1 : dOk (S.1.1.1, S.1.1.2.1, w, day) S.1.2.1 S.1.2.2) (h2 : day ≤ 366 * (K + 1)) (hW : zMetW E b l y cc ml rt hh d mc ms av t h (qI (fun k t' h' => k = 0 ∧ ∃ v h1, (v = V ∧ cDo t a h t' h1 ∧ cSn h1 a (S.1.1.1, S.1.1.2.1, w, day) S.1.2.1 S.1.2.2) ∧ h' = zsL h1 250 0 v.toInt64))) (hd : dm ≤ 13) (hm : ∀ t' h', zTM t' → jM h' S → zI h' 157 41 = zI h 157 41 → zMet E b l ym cm mlm rtm dm 0 0 (.ref (b + 157) :: avm) t' h' (qI (fun v t'' h'' => v = V ∧ mCall h' t' (S.1.1.1, S.1.1.2.1, w, day) yP0 0 t'' h''))) : zMetW E b l y cc ml rt hh d mc ms av t h (qI (jMI E b l ym cm mlm rtm avm (K + 1))) := by
  refine hW.mono (fun v t' h' hp => ?_)
  obtain ⟨k, rfl, rfl, v, hx, ⟨rfl, hq, hs⟩, rfl⟩ := hp
  obtain ⟨e', hT⟩ := I.1.ask hq.1
  have g := gX.of hq.2 (by omega)
  have hC := I.2.2.1.do hq.2 hs
  have hM0 : jM hx S := I.2.2.2.fr g
  have hM : jM (zsL hx 250 0 v.toInt64) S := hM0
  refine ⟨0, rfl, hT.1, dm, hd, (hm t' _ hT.1 hM (g 157 41 (by omega)).1).mono (fun r t'' h'' hr => ?_)⟩
  obtain ⟨r, rfl, rfl, hc⟩ := hr
  have hc := mCl.of4 hc
  have gm := hc.2.1.gM
  exact ⟨r, rfl, hc.2.2.1, fun _ => by rw [(gm 250 0 (by omega)).2]; exact zL_self _ _ _ _, a, c, e', jW S w day, jFin (h1 := zsL hx 250 0 r.toInt64) hT hc.1 (I.2.1.w h1 h2) hC gm (hM.cl I.2.1 hc.2.1 hc.2.2.2 rfl)⟩
theorem jdJ {V : Int64} {w : (Nat → Nat) × (Nat → Nat)} {day : Nat} (I : jI t h a c e S K) (h1 : dOk (S.1.1.1, S.1.1.2.1, w, day) S.1.2.1 S.1.2.2) (h2 : day ≤ 366 * (K + 1)) (hW : zMetW E b l y cc ml rt hh d mc ms av t h (qI (fun k t' h' => k = 0 ∧ ∃ v h1, (v = V ∧ cDo t a h t' h1 ∧ cSn h1 a (S.1.1.1, S.1.1.2.1, w, day) S.1.2.1 S.1.2.2) ∧ h' = zsL h1 250 0 v))) (hd : dm ≤ 13) (hm : ∀ t' h', zTM t' → jM h' S → zI h' 157 41 = zI h 157 41 → zMet E b l ym cm mlm rtm dm 0 0 (.ref (b + 157) :: avm) t' h' (qJ (fun v t'' h'' => v = V ∧ mCall h' t' (S.1.1.1, S.1.1.2.1, w, day) yP0 0 t'' h''))) : zMetW E b l y cc ml rt hh d mc ms av t h (qI (jMJ E b l ym cm mlm rtm avm (K + 1))) := by
  refine hW.mono (fun v t' h' hp => ?_)
  obtain ⟨k, rfl, rfl, v, hx, ⟨rfl, hq, hs⟩, rfl⟩ := hp
  obtain ⟨e', hT⟩ := I.1.ask hq.1
  have g := gX.of hq.2 (by omega)
  have hC := I.2.2.1.do hq.2 hs
  have hM0 : jM hx S := I.2.2.2.fr g
  have hM : jM (zsL hx 250 0 v) S := hM0
  refine ⟨0, rfl, hT.1, dm, hd, (hm t' _ hT.1 hM (g 157 41 (by omega)).1).mono (fun r t'' h'' hr => ?_)⟩
  obtain ⟨r, rfl, rfl, hc⟩ := hr
  have hc := mCl.of4 hc
  have gm := hc.2.1.gM
  exact ⟨r, rfl, hc.2.2.1, fun _ => by rw [(gm 250 0 (by omega)).2]; exact zL_self _ _ _ _, a, c, e', jW S w day, jFin (h1 := zsL hx 250 0 r) hT hc.1 (I.2.1.w h1 h2) hC gm (hM.cl I.2.1 hc.2.1 hc.2.2.2 rfl)⟩
theorem jw_day (I : jI t h a c e S K) (hK : K ≤ 511) (hlt : l.stackTraces = false) (p0 : Int32) : zMetW E b l yL_day cL_day 4 (some .int) [(0, 9, 12, 13)] 15 1 6 [.ref (b + 0), .int p0, .ref (b + 250)] t h (qI (jMI E b l yX11_day cX11_day 2 (some .int) [.int p0] (K + 1))) := by
  by_cases c1 : ∃ k, k < 2 ^ S.1.1.2.1.1.1 ∧ p0 = nI k
  · obtain ⟨s, hs, rfl⟩ := c1
    refine jdI (dm := 5) I (I.O.go ((I.D.w (zI h 157 41)).day s) (I.td hK (by omega))) (by have := I.2.1.2.1; omega) (wo_day _ (by omega) I.kX (c10_day1 I.X I.O I.C (zI h 157 41) s hs) (fun v t' h' hp => (I.1.ask hp.2.1.1).elim (fun _ z => z.2.2.2))) (by omega) (fun t' h' hT hM eq => ?_)
    rw [← eq]
    exact c_day1 hT I.D hM.1 s hs (I.td hK (by omega))
  · exact jxI I (by decide) (wx_day_A _ (by omega) I.kX (c10_day0 I.X hlt I.F I.O I.C p0 c1)) (by omega) (jy5 (jm4 (c_day0 I.T I.D I.M p0 c1)))
theorem jw_run (I : jI t h a c e S K) (hK : K ≤ 511) (hlt : l.stackTraces = false) (p0 : Int32) (p1 : Int32) : zMetW E b l yL_run cL_run 5 (some .int) [(0, 9, 12, 13), (0, 9, 16, 46)] 15 1 6 [.ref (b + 0), .int p0, .int p1, .ref (b + 250)] t h (qI (jMJ E b l yX11_run cX11_run 3 (some .long) [.int p0, .int p1] (K + 1))) := by
  by_cases c1 : ∃ k n, k ≤ 3 ∧ 1 ≤ n ∧ n ≤ 366 ∧ p0 = nI k ∧ p1 = nI n
  · obtain ⟨k, n, hk, hn1, hn, rfl, rfl⟩ := c1
    by_cases c2 : k = 1 ∧ S.1.2.2.1 = 0
    · obtain ⟨rfl, c2⟩ := c2
      exact jxJ I (by decide) (wx_run_S _ _ (by omega) I.kX (c10_run2 I.X hlt I.F I.C n hn1 hn c2)) (by omega) (jz5 (jn4 (c_run2 I.T I.D I.M I.ro n hn1 hn c2)))
    · have hkr : k = 1 → 0 < S.1.2.2.1 := fun z => Nat.pos_of_ne_zero (fun y => c2 ⟨z, y⟩)
      refine jdJ (dm := 6) I (I.O.go ((I.D.w (zI h 157 41)).days S.1.2.2 k n) (I.td hK (by omega))) (by have := I.2.1.2.1; omega) (wo_run _ _ (by omega) I.kX (c10_run1 I.X I.O I.C (zI h 157 41) k n hk hn1 hn hkr) (fun v t' h' hp => (I.1.ask hp.2.1.1).elim (fun _ z => z.2.2.2))) (by omega) (fun t' h' hT hM eq => ?_)
      rw [← eq]
      exact c_run1 hT I.D hM.1 I.Ro hM.2.1 k n hk hn1 hn hkr (I.td hK (by omega))
  · exact jxJ I (by decide) (wx_run_A _ _ (by omega) I.kX (c10_run0 I.X hlt I.F p0 p1 c1)) (by omega) (jz5 (jn4 (c_run0 I.T I.D I.M p0 p1 c1)))
end JD
