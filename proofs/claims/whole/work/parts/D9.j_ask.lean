/-! ===== both sides: calls that ask ===== -/
theorem gWay_ind {tl W : Nat} {F : Nat → Nat → Nat} {w : Nat → Nat} {mk : Bool} {g : Nat} {x y : yA} (hxy : x.2 = y.2) : ∀ o, (gWay tl W F w mk g o x).2 = (gWay tl W F w mk g o y).2
  | none => by unfold gWay; simp only [hxy]
  | some l => by unfold gWay; simp only [hxy]
theorem gTurn_ind {L : yL} {A : yN} {p : yP} (hp : p.2.2.1 = false) (s : Nat) (w : Nat → Nat) (day gone g : Nat) {x y : yA} (hxy : x.2 = y.2) : (gTurn L A p s w day gone g x).2 = (gTurn L A p s w day gone g y).2 := by
  unfold gTurn
  split
  · have nl : ¬ gLot p (L.2.1 g 4) := fun q => by have := q.1; rw [hp] at this; cases this
    rw [if_neg nl, if_neg nl]
    exact gWay_ind hxy _
  · exact hxy
theorem gTurns_ind {L : yL} {A : yN} {p : yP} (hp : p.2.2.1 = false) (s : Nat) (w : Nat → Nat) (day gone : Nat) {x y : yA} (hxy : x.2 = y.2) : ∀ g, (gTurns L A p s w day gone g x).2 = (gTurns L A p s w day gone g y).2
  | 0 => hxy
  | g + 1 => gTurn_ind hp s w day gone g (gTurns_ind hp s w day gone hxy g)
theorem dDay_ind {L : yL} {A : yN} {p : yP} (hp : p.2.2.1 = false) (s : Nat) {x y : yS} (h1 : x.1 = y.1) (h2 : x.2.1 = y.2.1) (h3 : x.2.2.2 = y.2.2.2) : (dDay L A p s x).1 = (dDay L A p s y).1 ∧ (dDay L A p s x).2.1 = (dDay L A p s y).2.1 ∧ (dDay L A p s x).2.2.2 = (dDay L A p s y).2.2.2 := by
  have k : (dGo L A p s x).2 = (dGo L A p s y).2 := by
    unfold dGo
    rw [h1, h2]
    exact gTurns_ind hp s _ _ _ (by show (_, _, _) = (_, _, _); rw [h3]) _
  unfold dDay
  rw [h1, h2, k]
  exact ⟨rfl, rfl, rfl⟩
theorem dDays_ind {L : yL} {A : yN} {p : yP} (hp : p.2.2.1 = false) (R : Nat × (Nat → Nat)) {x y : yS} (h1 : x.1 = y.1) (h2 : x.2.1 = y.2.1) (h3 : x.2.2.2 = y.2.2.2) : ∀ d, (dDays L A p R 0 d x).1 = (dDays L A p R 0 d y).1 ∧ (dDays L A p R 0 d x).2.1 = (dDays L A p R 0 d y).2.1 ∧ (dDays L A p R 0 d x).2.2.2 = (dDays L A p R 0 d y).2.2.2
  | 0 => ⟨h1, h2, h3⟩
  | d + 1 => by
    obtain ⟨k1, k2, k3⟩ := dDays_ind (L := L) (A := A) hp R h1 h2 h3 d
    exact dDay_ind hp 0 k1 k2 k3
/-- without lots the cost is the same whatever the seed -/
theorem dCo_ind {D : yD} {p : yP} (hp : p.2.2.1 = false) (R : Nat × (Nat → Nat)) (d : Nat) (sd sd' : Int32) : dCo D p R 0 d sd = dCo D p R 0 d sd' := by
  have := (dDays_ind (L := D.1) (A := D.2.1) hp R (x := x0 D sd) (y := x0 D sd') rfl rfl rfl d).2.2
  unfold dCo
  rw [this]
section JQ
variable {E : zE} {b : Nat} {l : Launch} {t : zT} {h : zH} {a c e : Nat} {S : yJ} {K : Nat}
theorem jgap {y : MethodName} {cc : ByteArray} {ml d mc ms n : Nat} {rt : Option FieldType} {av : List Value} {D : yD} {R : Nat × (Nat → Nat)} {z : Nat} {sd : Int32} (hM : zMet E b l y cc ml rt d mc ms av t h (qI (fun v t' h' => (∃ sd, v = (lN (dCo D yP0 R 0 n sd) - lN z).toInt32) ∧ mCl h t D 0 t' h'))) : zMet E b l y cc ml rt d mc ms av t h (qI (fun v t' h' => v = (lN (dCo D yP0 R 0 n sd) - lN z).toInt32 ∧ mCl h t D 0 t' h')) := hM.mono (fun v t' h' hp => by
  obtain ⟨r, rfl, ⟨sd', q1⟩, q2⟩ := hp
  exact ⟨r, rfl, by rw [q1, dCo_ind rfl R n sd' sd], q2⟩)
theorem tAsk_m (I : jI t h a c e S K) (k : Nat) (hk : k ≤ 6) : (if k = 6 then zI h 157 19 else zI h 160 k) = nI (tAsk S.1.1 S.1.2.1.1 k) := by
  have h1 := I.M
  obtain ⟨⟨a1, a2, a3, -, -⟩, -, c1, c2, -, -, c5⟩ := I.M
  have m1 := I.mo.1
  match k, hk with
  | 0, _ => exact a1
  | 1, _ => exact c1
  | 2, _ => exact m1
  | 3, _ => exact a2
  | 4, _ => exact a3
  | 5, _ => exact c2
  | 6, _ => exact c5
theorem jw_told (I : jI t h a c e S K) (hK : K ≤ 511) (hlt : l.stackTraces = false) (p0 : Int32) : zMetW E b l yL_told cL_told 4 (some .int) [(0, 9, 12, 13)] 15 1 6 [.ref (b + 0), .int p0, .ref (b + 250)] t h (qI (jMI E b l yX11_told cX11_told 2 (some .int) [.int p0] (K + 1))) := by
  by_cases c1 : ∃ k, k ≤ 6 ∧ p0 = nI k
  · obtain ⟨k, hk, rfl⟩ := c1
    exact jqI (dm := 2) I (wo_told _ (by omega) I.kX (jaF (c10_told1 I.X I.C k hk)) I.hP) (by omega) (fun e' t' h' J eq => by have hv := tAsk_m J k hk; rw [← hv]; exact jmF J (c_told1 J.T k hk))
  · exact jxI I (by decide) (wx_told_A _ (by omega) I.kX (c10_told0 I.X hlt I.F p0 c1)) (by omega) (jyF I (c_told0 I.T p0 c1))
theorem jw_road (I : jI t h a c e S K) (hK : K ≤ 511) (hlt : l.stackTraces = false) (p0 : Int32) (p1 : Int32) : zMetW E b l yL_road cL_road 5 (some .int) [(0, 10, 13, 22), (0, 10, 17, 13)] 15 1 6 [.ref (b + 0), .int p0, .int p1, .ref (b + 250)] t h (qI (jMI E b l yX11_road cX11_road 3 (some .int) [.int p0, .int p1] (K + 1))) := by
  by_cases c1 : ∃ k, k < S.1.1.2.1.1.1 ∧ p0 = nI k
  · obtain ⟨g, hg, rfl⟩ := c1
    by_cases c2 : ∃ k, k ≤ 7 ∧ p1 = nI k
    · obtain ⟨q, hq, rfl⟩ := c2
      exact jqI (dm := 3) I (wo_road _ _ (by omega) I.kX (jaF (c10_road1b I.X I.O I.C g q hg hq)) I.hP) (by omega) (fun e' t' h' J eq => by exact jmF J (c_road1 J.T J.D J.M g q hg hq))
    · exact jxI I (by decide) (wx_road_A _ _ (by omega) I.kX (c10_road2b I.X hlt I.F I.O I.C g hg p1 c2)) (by omega) (jyF I (c_road2 I.T I.D I.M g hg p1 c2))
  · exact jxI I (by decide) (wx_road_R _ _ (by omega) I.kX (c10_road0b I.X hlt I.F I.O I.C p0 p1 c1)) (by omega) (jyF I (c_road0 I.T I.D I.M p0 p1 c1))
theorem jw_going (I : jI t h a c e S K) (hK : K ≤ 511) (hlt : l.stackTraces = false) (p0 : Int32) (p1 : Int32) : zMetW E b l yL_going cL_going 5 (some .int) [(0, 10, 13, 27), (0, 10, 17, 13)] 15 1 6 [.ref (b + 0), .int p0, .int p1, .ref (b + 250)] t h (qI (jMI E b l yX11_going cX11_going 3 (some .int) [.int p0, .int p1] (K + 1))) := by
  by_cases c1 : ∃ k, k < S.1.1.1.1.2.1 ∧ p0 = nI k
  · obtain ⟨g, hg, rfl⟩ := c1
    by_cases c2 : ∃ k, k ≤ 5 ∧ p1 = nI k
    · obtain ⟨q, hq, rfl⟩ := c2
      exact jqI (dm := 3) I (wo_going _ _ (by omega) I.kX (jaF (c10_going1b I.X I.O I.C g q hg hq)) I.hP) (by omega) (fun e' t' h' J eq => by exact jmF J (c_going1 J.T J.D J.M g q hg hq))
    · exact jxI I (by decide) (wx_going_A _ _ (by omega) I.kX (c10_going2b I.X hlt I.F I.O I.C g hg p1 c2)) (by omega) (jyF I (c_going2 I.T I.D I.M g hg p1 c2))
  · exact jxI I (by decide) (wx_going_N _ _ (by omega) I.kX (c10_going0b I.X hlt I.F I.O I.C p0 p1 c1)) (by omega) (jyF I (c_going0 I.T I.D I.M p0 p1 c1))
theorem jw_way (I : jI t h a c e S K) (hK : K ≤ 511) (hlt : l.stackTraces = false) (p0 : Int32) (p1 : Int32) : zMetW E b l yL_way cL_way 5 (some .int) [(0, 10, 13, 27), (0, 10, 17, 13)] 15 1 6 [.ref (b + 0), .int p0, .int p1, .ref (b + 250)] t h (qI (jMI E b l yX11_way cX11_way 3 (some .int) [.int p0, .int p1] (K + 1))) := by
  by_cases c1 : ∃ k, k < S.1.1.1.1.2.1 ∧ p0 = nI k
  · obtain ⟨g, hg, rfl⟩ := c1
    by_cases c2 : ∃ k, k < 2 ^ S.1.1.2.1.1.1 ∧ p1 = nI k
    · obtain ⟨s, hs, rfl⟩ := c2
      exact jqI (dm := 4) I (wo_way _ _ (by omega) I.kX (c10_way1b I.X I.O I.C g s hg hs) I.hP) (by omega) (fun e' t' h' J eq => by exact jm4 (c_way1 J.T J.D J.M g s hg hs))
    · exact jxI I (by decide) (wx_way_A _ _ (by omega) I.kX (c10_way2b I.X hlt I.F I.O I.C g hg p1 c2)) (by omega) (jy5 (jm4 (c_way2 I.T I.D I.M g hg p1 c2)))
  · exact jxI I (by decide) (wx_way_N _ _ (by omega) I.kX (c10_way0b I.X hlt I.F I.O I.C p0 p1 c1)) (by omega) (jy5 (jm4 (c_way0 I.T I.D I.M p0 p1 c1)))
theorem jw_by (I : jI t h a c e S K) (hK : K ≤ 511) (hlt : l.stackTraces = false) (p0 : Int32) (p1 : Int32) (p2 : Int32) : zMetW E b l yL_by cL_by 6 (some .int) [(0, 12, 15, 27), (0, 12, 19, 13)] 15 1 6 [.ref (b + 0), .int p0, .int p1, .int p2, .ref (b + 250)] t h (qI (jMI E b l yX11_by cX11_by 4 (some .int) [.int p0, .int p1, .int p2] (K + 1))) := by
  by_cases c1 : ∃ k, k < S.1.1.1.1.2.1 ∧ p0 = nI k
  · obtain ⟨g, hg, rfl⟩ := c1
    by_cases c2 : ∃ k, k < 2 ^ S.1.1.2.1.1.1 ∧ p1 = nI k
    · obtain ⟨s, hs, rfl⟩ := c2
      by_cases c3 : ∃ k, k < ((gw S.1.1 g s).getD []).length ∧ p2 = nI k
      · obtain ⟨i, hi, rfl⟩ := c3
        exact jqI (dm := 4) I (wo_by _ _ _ (by omega) I.kX (c10_by1b I.X I.O I.C g s hg hs i hi) I.hP) (by omega) (fun e' t' h' J eq => by exact jm4 (c_by1 J.T J.D J.M g s hg hs i hi))
      · exact jqI (dm := 4) I (wo_by _ _ _ (by omega) I.kX (c10_by3b I.X I.O I.C g s hg hs p2 c3) I.hP) (by omega) (fun e' t' h' J eq => by exact jm4 (c_by3 J.T J.D J.M g s hg hs p2 c3))
    · exact jxI I (by decide) (wx_by_A _ _ _ (by omega) I.kX (c10_by2b I.X hlt I.F I.O I.C g hg p1 p2 c2)) (by omega) (jy5 (jm4 (c_by2 I.T I.D I.M g hg p1 p2 c2)))
  · exact jxI I (by decide) (wx_by_N _ _ _ (by omega) I.kX (c10_by0b I.X hlt I.F I.O I.C p0 p1 p2 c1)) (by omega) (jy5 (jm4 (c_by0 I.T I.D I.M p0 p1 p2 c1)))
theorem jw_shuts (I : jI t h a c e S K) (hK : K ≤ 511) (hlt : l.stackTraces = false) (p0 : Int32) : zMetW E b l yL_shuts cL_shuts 4 (some .int) [(0, 9, 12, 13)] 15 1 6 [.ref (b + 0), .int p0, .ref (b + 250)] t h (qI (jMI E b l yX11_shuts cX11_shuts 2 (some .int) [.int p0] (K + 1))) := by
  by_cases c1 : p0 = 0 ∨ p0 = 2 ∨ p0 = 3
  · obtain ⟨k, hk, rfl⟩ : ∃ k, (k = 0 ∨ k = 2 ∨ k = 3) ∧ p0 = nI k := by
      rcases c1 with rfl | rfl | rfl
      · exact ⟨0, Or.inl rfl, by decide⟩
      · exact ⟨2, Or.inr (Or.inl rfl), by decide⟩
      · exact ⟨3, Or.inr (Or.inr rfl), by decide⟩
    exact jqI (dm := 5) I (wo_shuts _ (by omega) I.kX (c10_shuts1 I.X I.O I.C (zI h 157 41) k hk) I.hP) (by omega) (fun e' t' h' J eq => by rw [← eq]; exact jm4 (c_shuts1 J.T J.D J.M J.Ro J.ro k hk))
  · exact jxI I (by decide) (wx_shuts_A _ (by omega) I.kX (c10_shuts0 I.X hlt I.F p0 c1)) (by omega) (jy5 (jm4 (c_shuts0 I.T I.D I.M p0 c1)))
theorem jw_would (I : jI t h a c e S K) (hK : K ≤ 511) (hlt : l.stackTraces = false) (p0 : Int32) (p1 : Int32) (p2 : Int32) : zMetW E b l yL_would cL_would 6 (some .int) [(0, 11, 14, 13), (0, 11, 18, 46)] 15 1 6 [.ref (b + 0), .int p0, .int p1, .int p2, .ref (b + 250)] t h (qI (jMJ E b l yX11_would cX11_would 7 (some .long) [.int p0, .int p1, .int p2] (K + 1))) := by
  by_cases c1 : (∃ k n, k ≤ 3 ∧ 1 ≤ n ∧ n ≤ 366 ∧ p0 = nI k ∧ p1 = nI n) ∧ ∃ k, k ≤ 3 ∧ p2 = nI k
  · obtain ⟨⟨k, n, hk, hn1, hn, rfl, rfl⟩, q, hq, rfl⟩ := c1
    by_cases c2 : k = 1 ∧ S.1.2.2.1 = 0
    · obtain ⟨rfl, c2⟩ := c2
      exact jxJ I (by decide) (wx_would_S _ _ _ (by omega) I.kX (c10_would2 I.X hlt I.F I.C n q hn1 hn hq c2)) (by omega) (jz5 (jn4 (c_would2 I.T I.D I.M I.ro n q hn1 hn hq c2)))
    · have hkr : k = 1 → 0 < S.1.2.2.1 := fun z => Nat.pos_of_ne_zero (fun y => c2 ⟨z, y⟩)
      exact jqJ (dm := 6) I (wo_would _ _ _ (by omega) I.kX (c10_would1 I.X I.O I.C (zI h 157 41) k n q hk hn1 hn hq hkr) I.hP) (by omega) (fun e' t' h' J eq => by rw [← eq]; exact jn4 (c_would1 J.T J.D J.M J.Ro J.ro k n q hk hn1 hn hq hkr (J.td hK (by omega))))
  · exact jxJ I (by decide) (wx_would_A _ _ _ (by omega) I.kX (c10_would0 I.X hlt I.F p0 p1 p2 c1)) (by omega) (jz5 (jn4 (c_would0 I.T I.D I.M p0 p1 p2 c1)))
theorem jw_judge (I : jI t h a c e S K) (hK : K ≤ 511) (hlt : l.stackTraces = false) (p0 : Int32) : zMetW E b l yL_judge cL_judge 4 (some .int) [(0, 9, 12, 13)] 15 1 6 [.ref (b + 0), .int p0, .ref (b + 250)] t h (qI (jMI E b l yX11_judge cX11_judge 7 (some .int) [.int p0] (K + 1))) := by
  by_cases c1 : ∃ k, k ≤ 3 ∧ p0 = nI k
  · obtain ⟨q, hq, rfl⟩ := c1
    exact jqI (dm := 6) I (wo_judge _ (by omega) I.kX (c10_judge1 I.X I.O I.C (zI h 157 41) q hq) I.hP) (by omega) (fun e' t' h' J eq => by rw [← eq]; exact jm4 (c_judge1 J.T J.D J.M J.Ro J.ro (J.td hK (by have := J.Ro.1; omega)) q hq))
  · exact jxI I (by decide) (wx_judge_A _ (by omega) I.kX (c10_judge0 I.X hlt I.F p0 c1)) (by omega) (jy5 (jm4 (c_judge0 I.T I.D I.M p0 c1)))
theorem jw_ever (I : jI t h a c e S K) (hK : K ≤ 511) (hlt : l.stackTraces = false) (p0 : Int32) : zMetW E b l yL_ever cL_ever 4 (some .int) [(0, 9, 12, 13), (0, 9, 15, 46)] 15 1 6 [.ref (b + 0), .int p0, .ref (b + 250)] t h (qI (jMI E b l yX11_ever cX11_ever 2 (some .int) [.int p0] (K + 1))) := by
  by_cases c1 : ∃ k, k ≤ 3 ∧ p0 = nI k
  · obtain ⟨q, hq, rfl⟩ := c1
    by_cases c2 : S.1.2.2.1 = 0
    · exact jxI I (by decide) (wx_ever_S _ (by omega) I.kX (c10_ever2 I.X hlt I.F I.C q hq c2)) (by omega) (jy5 (c_ever2 I.T I.D I.M I.ro c2 q hq))
    · exact jqI (dm := 6) I (wo_ever _ (by omega) I.kX (c10_ever1 I.X I.O I.C (zI h 157 41) q hq (Nat.pos_of_ne_zero c2)) I.hP) (by omega) (fun e' t' h' J eq => by rw [← eq]; exact c_ever1 J.T J.D J.M J.n J.Ro J.ro (Nat.pos_of_ne_zero c2) (J.td hK (by omega)) q hq)
  · exact jxI I (by decide) (wx_ever_A _ (by omega) I.kX (c10_ever0 I.X hlt I.F p0 c1)) (by omega) (jy5 (c_ever0 I.T I.D I.M p0 c1))
theorem jw_fewest (I : jI t h a c e S K) (hK : K ≤ 511) (hlt : l.stackTraces = false) (p0 : Int32) (p1 : Int32) (p2 : Int32) : zMetW E b l yL_fewest cL_fewest 6 (some .int) [(0, 12, 15, 13)] 15 1 6 [.ref (b + 0), .int p0, .int p1, .int p2, .ref (b + 250)] t h (qI (jMI E b l yX11_fewest cX11_fewest 6 (some .int) [.int p0, .int p1, .int p2] (K + 1))) := by
  by_cases c1 : (∃ k, 1 ≤ k ∧ k ≤ 99 ∧ p0 = nI k) ∧ (∃ k, 1 ≤ k ∧ k ≤ 99 ∧ p1 = nI k) ∧ ∃ k, k ≤ 2 ∧ p2 = nI k
  · obtain ⟨⟨x, x1, x2, rfl⟩, ⟨y, y1, y2, rfl⟩, q, hq, rfl⟩ := c1
    exact jqI (dm := 2) I (wo_fewest _ _ _ (by omega) I.kX (jaF (c10_fewest1 I.X I.C.2.2.1.2.1 I.D.2.1 I.D.2.2.1 x y q x1 x2 y1 y2 hq)) I.hP) (by omega) (fun e' t' h' J eq => by exact jmF J (c_fewest1 J.T J.M.2.2.2.1 J.D.2.1 J.D.2.2.1 x y q x1 x2 y1 y2 hq))
  · exact jxI I (by decide) (wx_fewest_A _ _ _ (by omega) I.kX (c10_fewest0 I.X hlt I.F p0 p1 p2 c1)) (by omega) (jyF I (c_fewest0 I.T p0 p1 p2 c1))
theorem jw_lasts (I : jI t h a c e S K) (hK : K ≤ 511) (hlt : l.stackTraces = false) (p0 : Int32) (p1 : Int32) (p2 : Int32) : zMetW E b l yL_lasts cL_lasts 6 (some .int) [(0, 12, 15, 13)] 15 1 6 [.ref (b + 0), .int p0, .int p1, .int p2, .ref (b + 250)] t h (qI (jMI E b l yX11_lasts cX11_lasts 5 (some .int) [.int p0, .int p1, .int p2] (K + 1))) := by
  by_cases c1 : (∃ k, 1 ≤ k ∧ k ≤ 4 ∧ p0 = nI k) ∧ (∃ k, 1 ≤ k ∧ k ≤ 99 ∧ p1 = nI k ∧ ∃ c, 1 ≤ c ∧ c ≤ 9 * k ∧ p2 = nI c)
  · obtain ⟨⟨k, k1, k2, rfl⟩, x, x1, x2, rfl, y, y1, y2, rfl⟩ := c1
    exact jqI (dm := 2) I (wo_lasts _ _ _ (by omega) I.kX (jaF (c10_lasts1 I.X I.C.2.2.1.2.1 I.D.2.1 I.D.2.2.1 k x y k1 k2 x1 x2 y1 y2)) I.hP) (by omega) (fun e' t' h' J eq => by exact jmF J (c_lasts1 J.T J.M.2.2.2.1 J.D.2.1 J.D.2.2.1 k x y k1 k2 x1 x2 y1 y2))
  · exact jxI I (by decide) (wx_lasts_A _ _ _ (by omega) I.kX (c10_lasts0 I.X hlt I.F p0 p1 p2 c1)) (by omega) (jyF I (c_lasts0 I.T p0 p1 p2 c1))
theorem jw_best (I : jI t h a c e S K) (hK : K ≤ 511) (hlt : l.stackTraces = false) (p0 : Int32) (p1 : Int32) : zMetW E b l yL_best cL_best 5 (some .int) [(0, 10, 13, 13)] 15 1 6 [.ref (b + 0), .int p0, .int p1, .ref (b + 250)] t h (qI (jMI E b l yX11_best cX11_best 3 (some .int) [.int p0, .int p1] (K + 1))) := by
  by_cases c1 : (∃ k, 1 ≤ k ∧ k ≤ 3 ∧ p0 = nI k) ∧ ∃ k, k ≤ 1 ∧ p1 = nI k
  · obtain ⟨⟨d, d1, d2, rfl⟩, q, hq, rfl⟩ := c1
    by_cases c2 : S.1.1.2.1.1.1 ≤ 6
    · exact jqI (dm := 9) I (wo_best _ _ (by omega) I.kX (c10_best1 I.X I.O I.C d q d1 d2 hq c2) I.hP) (by omega) (fun e' t' h' J eq => by exact c_best1 J.T J.D J.t0 J.n J.M d q d1 d2 hq c2 (J.td hK (by omega)))
    · exact jqI (dm := 9) I (wo_best _ _ (by omega) I.kX (jaF (c10_best2 I.X I.O I.C d q d1 d2 hq (by omega))) I.hP) (by omega) (fun e' t' h' J eq => by exact jmF J (c_best2 J.T J.D J.M d q d1 d2 hq (by omega) J.n))
  · exact jxI I (by decide) (wx_best_A _ _ (by omega) I.kX (c10_best0 I.X hlt I.F p0 p1 c1)) (by omega) (jyF I (c_best0 I.T p0 p1 c1))
theorem jw_gap (I : jI t h a c e S K) (hK : K ≤ 511) (hlt : l.stackTraces = false) (p0 : Int32) : zMetW E b l yL_gap cL_gap 4 (some .int) [(0, 9, 12, 13)] 15 1 6 [.ref (b + 0), .int p0, .ref (b + 250)] t h (qI (jMI E b l yX11_gap cX11_gap 2 (some .int) [.int p0] (K + 1))) := by
  by_cases c1 : ∃ k, 1 ≤ k ∧ k ≤ 3 ∧ p0 = nI k
  · obtain ⟨d, d1, d2, rfl⟩ := c1
    by_cases c2 : S.1.1.2.1.1.1 ≤ 6
    · exact jqI (dm := 9) I (wo_gap _ (by omega) I.kX (c10_gap1 I.X I.O I.C (zI h 157 41) d d1 d2 c2) I.hP) (by omega) (fun e' t' h' J eq => by exact jgap (c_gap1 J.T J.D J.t0 J.n J.M J.Ro J.ro d d1 d2 c2 (J.td hK (by omega))))
    · exact jqI (dm := 9) I (wo_gap _ (by omega) I.kX (jaF (c10_gap2 I.X I.O I.C d d1 d2 (by omega))) I.hP) (by omega) (fun e' t' h' J eq => by exact jmF J (c_gap2 J.T J.D J.M d d1 d2 (by omega) J.n))
  · exact jxI I (by decide) (wx_gap_A _ (by omega) I.kX (c10_gap0 I.X hlt I.F p0 c1)) (by omega) (jyF I (c_gap0 I.T p0 c1))
theorem jw_toll (I : jI t h a c e S K) (hK : K ≤ 511) (hlt : l.stackTraces = false) (p0 : Int32) (p1 : Int32) (p2 : Int32) : zMetW E b l yL_toll cL_toll 6 (some .int) [(0, 11, 14, 13)] 15 1 6 [.ref (b + 0), .int p0, .int p1, .int p2, .ref (b + 250)] t h (qI (jMJ E b l yX11_toll cX11_toll 6 (some .long) [.int p0, .int p1, .int p2] (K + 1))) := by
  by_cases c1 : (∃ k, k ≤ 20 ∧ p0 = nI k) ∧ (∃ k, 1 ≤ k ∧ k ≤ 366 ∧ p1 = nI k) ∧ ∃ k, k ≤ 1 ∧ p2 = nI k
  · obtain ⟨⟨x, hx, rfl⟩, ⟨d, d1, d2, rfl⟩, q, hq, rfl⟩ := c1
    exact jqJ (dm := 8) I (wo_toll _ _ _ (by omega) I.kX (c10_toll1 I.X I.O I.C (zI h 157 41) x d q hx d1 d2 hq) I.hP) (by omega) (fun e' t' h' J eq => by rw [← eq]; exact jn4 (c_toll1 J.T J.D J.M J.t0 J.Ro J.ro x d q hx d1 d2 hq (J.td hK (by omega))))
  · exact jxJ I (by decide) (wx_toll_A _ _ _ (by omega) I.kX (c10_toll0 I.X hlt I.F p0 p1 p2 c1)) (by omega) (jz5 (jn4 (c_toll0 I.T I.D I.M p0 p1 p2 c1)))
theorem jw_keep (I : jI t h a c e S K) (hK : K ≤ 511) (hlt : l.stackTraces = false) (p0 : Int32) : zMetW E b l yL_keep cL_keep 4 (some .int) [(0, 9, 12, 13)] 15 1 6 [.ref (b + 0), .int p0, .ref (b + 250)] t h (qI (jMI E b l yX11_keep cX11_keep 8 (some .int) [.int p0] (K + 1))) := by
  by_cases c1 : ∃ k, 1 ≤ k ∧ k ≤ 366 ∧ p0 = nI k
  · obtain ⟨d, d1, d2, rfl⟩ := c1
    exact jqI (dm := 8) I (wo_keep _ (by omega) I.kX (c10_keep1 I.X I.O I.C (zI h 157 41) d d1 d2) I.hP) (by omega) (fun e' t' h' J eq => by rw [← eq]; exact c_keep1 J.T J.D J.M J.Ro J.ro d d1 d2 (J.td hK (by omega)) J.t0)
  · exact jxI I (by decide) (wx_keep_A _ (by omega) I.kX (c10_keep0 I.X hlt I.F p0 c1)) (by omega) (jy5 (c_keep0 I.T I.D I.M p0 c1))
theorem jw_careless (I : jI t h a c e S K) (hK : K ≤ 511) (hlt : l.stackTraces = false) (p0 : Int32) (p1 : Int32) : zMetW E b l yL_careless cL_careless 5 (some .int) [(0, 9, 12, 27), (0, 9, 16, 13), (0, 9, 20, 46)] 15 1 6 [.ref (b + 0), .int p0, .int p1, .ref (b + 250)] t h (qI (jMJ E b l yX11_careless cX11_careless 7 (some .long) [.int p0, .int p1] (K + 1))) := by
  by_cases c1 : ∃ k, k < S.1.1.1.1.2.1 ∧ p0 = nI k
  · obtain ⟨g, hg, rfl⟩ := c1
    by_cases c2 : ∃ k, 1 ≤ k ∧ k ≤ 366 ∧ p1 = nI k
    · obtain ⟨d, d1, d2, rfl⟩ := c2
      by_cases c3 : S.1.2.2.1 = 0
      · exact jxJ I (by decide) (wx_careless_S _ _ (by omega) I.kX (c10_careless3 I.X hlt I.F I.O I.C g d hg d1 d2 c3)) (by omega) (jz5 (jn4 (c_careless3 I.T I.D I.M I.ro c3 g d hg d1 d2)))
      · exact jqJ (dm := 7) I (wo_careless _ _ (by omega) I.kX (c10_careless1 I.X I.O I.C (zI h 157 41) g d hg d1 d2 (Nat.pos_of_ne_zero c3)) I.hP) (by omega) (fun e' t' h' J eq => by rw [← eq]; exact jn4 (c_careless1 J.T J.D J.M rfl rfl rfl J.Ro J.ro (Nat.pos_of_ne_zero c3) g d hg d1 d2 (J.td hK (by omega))))
    · exact jxJ I (by decide) (wx_careless_A _ _ (by omega) I.kX (c10_careless2 I.X hlt I.F I.O I.C g hg p1 c2)) (by omega) (jz5 (jn4 (c_careless2 I.T I.D I.M g hg p1 c2)))
  · exact jxJ I (by decide) (wx_careless_N _ _ (by omega) I.kX (c10_careless0 I.X hlt I.F I.O I.C p0 p1 c1)) (by omega) (jz5 (jn4 (c_careless0 I.T I.D I.M p0 p1 c1)))
theorem jw_each (I : jI t h a c e S K) (hK : K ≤ 511) (hlt : l.stackTraces = false) (p0 : Int32) (p1 : Int32) : zMetW E b l yL_each cL_each 5 (some .int) [(0, 9, 12, 27), (0, 9, 16, 13)] 15 1 6 [.ref (b + 0), .int p0, .int p1, .ref (b + 250)] t h (qI (jMJ E b l yX11_each cX11_each 7 (some .long) [.int p0, .int p1] (K + 1))) := by
  by_cases c1 : ∃ k, k < S.1.1.1.1.2.1 ∧ p0 = nI k
  · obtain ⟨g, hg, rfl⟩ := c1
    by_cases c2 : ∃ k, 1 ≤ k ∧ k ≤ 366 ∧ p1 = nI k
    · obtain ⟨d, d1, d2, rfl⟩ := c2
      exact jqJ (dm := 7) I (wo_each _ _ (by omega) I.kX (c10_each1 I.X I.O I.C (zI h 157 41) g d hg d1 d2) I.hP) (by omega) (fun e' t' h' J eq => by rw [← eq]; exact jn4 (c_each1 J.T J.D J.M rfl rfl rfl J.Ro J.ro g d hg d1 d2 (J.td hK (by omega))))
    · exact jxJ I (by decide) (wx_each_A _ _ (by omega) I.kX (c10_each2 I.X hlt I.F I.O I.C g hg p1 c2)) (by omega) (jz5 (jn4 (c_each2 I.T I.D I.M g hg p1 c2)))
  · exact jxJ I (by decide) (wx_each_N _ _ (by omega) I.kX (c10_each0 I.X hlt I.F I.O I.C p0 p1 c1)) (by omega) (jz5 (jn4 (c_each0 I.T I.D I.M p0 p1 c1)))
theorem jw_hold (I : jI t h a c e S K) (hK : K ≤ 511) (hlt : l.stackTraces = false) (p0 : Int32) (p1 : Int32) (p2 : Int32) : zMetW E b l yL_hold cL_hold 6 (some .int) [(0, 11, 14, 27), (0, 11, 18, 13)] 15 1 6 [.ref (b + 0), .int p0, .int p1, .int p2, .ref (b + 250)] t h (qI (jMJ E b l yX11_hold cX11_hold 6 (some .long) [.int p0, .int p1, .int p2] (K + 1))) := by
  by_cases c1 : ∃ k, k < S.1.1.1.1.2.1 ∧ p0 = nI k
  · obtain ⟨g, hg, rfl⟩ := c1
    by_cases c2 : (∃ k, 1 ≤ k ∧ k ≤ S.1.1.1.2.1 g 5 ∧ p1 = nI k) ∧ ∃ k, 1 ≤ k ∧ k ≤ 366 ∧ p2 = nI k
    · obtain ⟨⟨y, y1, y2, rfl⟩, d, d1, d2, rfl⟩ := c2
      exact jqJ (dm := 8) I (wo_hold _ _ _ (by omega) I.kX (c10_hold1 I.X I.O I.C (zI h 157 41) g y d hg y1 y2 d1 d2) I.hP) (by omega) (fun e' t' h' J eq => by rw [← eq]; exact jn4 (c_hold1 J.T J.D J.M rfl rfl J.Ro J.ro g y d hg y1 y2 d1 d2 (J.td hK (by omega))))
    · exact jxJ I (by decide) (wx_hold_A _ _ _ (by omega) I.kX (c10_hold2 I.X hlt I.F I.O I.C g hg p1 p2 c2)) (by omega) (jz5 (jn4 (c_hold2 I.T I.D I.M g hg p1 p2 c2)))
  · exact jxJ I (by decide) (wx_hold_N _ _ _ (by omega) I.kX (c10_hold0 I.X hlt I.F I.O I.C p0 p1 p2 c1)) (by omega) (jz5 (jn4 (c_hold0 I.T I.D I.M p0 p1 p2 c1)))
theorem jw_who (I : jI t h a c e S K) (hK : K ≤ 511) (hlt : l.stackTraces = false) (p0 : Int32) : zMetW E b l yL_who cL_who 4 (some .int) [(0, 9, 12, 13)] 15 1 6 [.ref (b + 0), .int p0, .ref (b + 250)] t h (qI (jMI E b l yX11_who cX11_who 9 (some .int) [.int p0] (K + 1))) := by
  by_cases c1 : ∃ k, 1 ≤ k ∧ k ≤ 366 ∧ p0 = nI k
  · obtain ⟨d, d1, d2, rfl⟩ := c1
    exact jqI (dm := 8) I (wo_who _ (by omega) I.kX (c10_who1 I.X I.O I.C (zI h 157 41) d d1 d2) I.hP) (by omega) (fun e' t' h' J eq => by rw [← eq]; exact c_who1 J.T J.D J.M J.Ro J.ro d d1 d2 (J.td hK (by omega)) )
  · exact jxI I (by decide) (wx_who_A _ (by omega) I.kX (c10_who0 I.X hlt I.F p0 c1)) (by omega) (jy5 (c_who0 I.T I.D I.M p0 c1))
theorem jw_more (I : jI t h a c e S K) (hK : K ≤ 511) (hlt : l.stackTraces = false) (p0 : Int32) (p1 : Int32) : zMetW E b l yL_more cL_more 5 (some .int) [(0, 9, 12, 13)] 15 1 6 [.ref (b + 0), .int p0, .int p1, .ref (b + 250)] t h (qI (jMJ E b l yX11_more cX11_more 5 (some .long) [.int p0, .int p1] (K + 1))) := by
  by_cases c1 : (∃ k, k < S.1.2.1.1 ∧ p0 = nI k) ∧ ∃ k, 1 ≤ k ∧ k ≤ 366 ∧ p1 = nI k
  · obtain ⟨⟨k, hk, rfl⟩, d, d1, d2, rfl⟩ := c1
    exact jqJ (dm := 7) I (wo_more _ _ (by omega) I.kX (c10_more1 I.X I.O I.C (zI h 157 41) k d hk d1 d2) I.hP) (by omega) (fun e' t' h' J eq => by rw [← eq]; exact c_more1 J.T J.D J.M J.n J.Mo J.mo J.Ro J.ro k d hk d1 d2 (J.td hK (by omega)))
  · exact jxJ I (by decide) (wx_more_A _ _ (by omega) I.kX (c10_more0 I.X hlt I.F I.O I.C p0 p1 c1)) (by omega) (jz5 (c_more0 I.T I.D I.M I.Mo.1 I.mo p0 p1 c1))
theorem jw_which (I : jI t h a c e S K) (hK : K ≤ 511) (hlt : l.stackTraces = false) (p0 : Int32) : zMetW E b l yL_which cL_which 4 (some .int) [(0, 9, 12, 13)] 15 1 6 [.ref (b + 0), .int p0, .ref (b + 250)] t h (qI (jMI E b l yX11_which cX11_which 8 (some .int) [.int p0] (K + 1))) := by
  by_cases c1 : ∃ k, 1 ≤ k ∧ k ≤ 366 ∧ p0 = nI k
  · obtain ⟨d, d1, d2, rfl⟩ := c1
    exact jqI (dm := 7) I (wo_which _ (by omega) I.kX (c10_which1 I.X I.O I.C (zI h 157 41) d d1 d2) I.hP) (by omega) (fun e' t' h' J eq => by rw [← eq]; exact c_which1 J.T J.D J.M J.n J.Mo J.mo J.Ro J.ro d d1 d2 (J.td hK (by omega)))
  · exact jxI I (by decide) (wx_which_A _ (by omega) I.kX (c10_which0 I.X hlt I.F p0 c1)) (by omega) (jy5 (c_which0 I.T I.D I.M p0 c1))
theorem jw_men (I : jI t h a c e S K) (hK : K ≤ 511) (hlt : l.stackTraces = false) (p0 : Int32) (p1 : Int32) : zMetW E b l yL_men cL_men 5 (some .int) [(0, 9, 12, 22), (0, 9, 16, 13)] 15 1 6 [.ref (b + 0), .int p0, .int p1, .ref (b + 250)] t h (qI (jMJ E b l yX11_men cX11_men 5 (some .long) [.int p0, .int p1] (K + 1))) := by
  by_cases c1 : ∃ k, k < S.1.1.2.1.1.1 ∧ p0 = nI k
  · obtain ⟨k, hk, rfl⟩ := c1
    by_cases c2 : ∃ k, 1 ≤ k ∧ k ≤ 366 ∧ p1 = nI k
    · obtain ⟨d, d1, d2, rfl⟩ := c2
      exact jqJ (dm := 7) I (wo_men _ _ (by omega) I.kX (c10_men1 I.X I.O I.C (zI h 157 41) k d hk d1 d2) I.hP) (by omega) (fun e' t' h' J eq => by rw [← eq]; exact jn4 (c_men1 J.T J.D J.M rfl J.Ro J.ro k d hk d1 d2 (J.td hK (by omega))))
    · exact jxJ I (by decide) (wx_men_A _ _ (by omega) I.kX (c10_men2 I.X hlt I.F I.O I.C k hk p1 c2)) (by omega) (jz5 (jn4 (c_men2 I.T I.D I.M k hk p1 c2)))
  · exact jxJ I (by decide) (wx_men_R _ _ (by omega) I.kX (c10_men0 I.X hlt I.F I.O I.C p0 p1 c1)) (by omega) (jz5 (jn4 (c_men0 I.T I.D I.M p0 p1 c1)))
theorem jw_beside (I : jI t h a c e S K) (hK : K ≤ 511) (hlt : l.stackTraces = false) (p0 : Int32) : zMetW E b l yL_beside cL_beside 4 (some .int) [(0, 9, 12, 13)] 15 1 6 [.ref (b + 0), .int p0, .ref (b + 250)] t h (qI (jMI E b l yX11_beside cX11_beside 8 (some .int) [.int p0] (K + 1))) := by
  by_cases c1 : ∃ k, 1 ≤ k ∧ k ≤ 366 ∧ p0 = nI k
  · obtain ⟨d, d1, d2, rfl⟩ := c1
    exact jqI (dm := 7) I (wo_beside _ (by omega) I.kX (c10_beside1 I.X I.O I.C (zI h 157 41) d d1 d2) I.hP) (by omega) (fun e' t' h' J eq => by rw [← eq]; exact c_beside1 J.T J.D J.M J.Ro J.ro d d1 d2 (J.td hK (by omega)) )
  · exact jxI I (by decide) (wx_beside_A _ (by omega) I.kX (c10_beside0 I.X hlt I.F p0 c1)) (by omega) (jy5 (c_beside0 I.T I.D I.M p0 c1))
theorem jw_law (I : jI t h a c e S K) (hK : K ≤ 511) (hlt : l.stackTraces = false) (p0 : Int32) (p1 : Int32) : zMetW E b l yL_law cL_law 5 (some .int) [(0, 9, 12, 13)] 15 1 6 [.ref (b + 0), .int p0, .int p1, .ref (b + 250)] t h (qI (jMJ E b l yX11_law cX11_law 3 (some .long) [.int p0, .int p1] (K + 1))) := by
  by_cases c1 : (∃ k, 3 ≤ k ∧ k ≤ 11 ∧ p0 = nI k) ∧ ∃ k, 1 ≤ k ∧ k ≤ 366 ∧ p1 = nI k
  · obtain ⟨⟨k, k1, k2, rfl⟩, d, d1, d2, rfl⟩ := c1
    exact jqJ (dm := 7) I (wo_law _ _ (by omega) I.kX (c10_law1 I.X I.O I.C (zI h 157 41) k d k1 k2 d1 d2) I.hP) (by omega) (fun e' t' h' J eq => by rw [← eq]; exact jn4 (c_law1 J.T J.D J.M J.Ro J.ro k d k1 k2 d1 d2 (J.td hK (by omega))))
  · exact jxJ I (by decide) (wx_law_A _ _ (by omega) I.kX (c10_law0 I.X hlt I.F p0 p1 c1)) (by omega) (jz5 (jn4 (c_law0 I.T I.D I.M p0 p1 c1)))
theorem jw_other (I : jI t h a c e S K) (hK : K ≤ 511) (hlt : l.stackTraces = false) (p0 : Int32) : zMetW E b l yL_other cL_other 4 (some .int) [(0, 9, 12, 13)] 15 1 6 [.ref (b + 0), .int p0, .ref (b + 250)] t h (qI (jMI E b l yX11_other cX11_other 8 (some .int) [.int p0] (K + 1))) := by
  by_cases c1 : ∃ k, 1 ≤ k ∧ k ≤ 366 ∧ p0 = nI k
  · obtain ⟨d, d1, d2, rfl⟩ := c1
    exact jqI (dm := 7) I (wo_other _ (by omega) I.kX (c10_other1 I.X I.O I.C (zI h 157 41) d d1 d2) I.hP) (by omega) (fun e' t' h' J eq => by rw [← eq]; exact c_other1 J.T J.D J.M J.Ro J.ro d d1 d2 (J.td hK (by omega)) )
  · exact jxI I (by decide) (wx_other_A _ (by omega) I.kX (c10_other0 I.X hlt I.F p0 c1)) (by omega) (jy5 (c_other0 I.T I.D I.M p0 c1))
theorem jw_fits (I : jI t h a c e S K) (hK : K ≤ 511) (hlt : l.stackTraces = false) (p0 : Int64) (p1 : Int32) : zMetW E b l yL_fits cL_fits 6 (some .int) [(0, 11, 14, 13)] 15 1 6 [.ref (b + 0), .long p0, .int p1, .ref (b + 250)] t h (qI (jMI E b l yX11_fits cX11_fits 11 (some .int) [.long p0, .int p1] (K + 1))) := by
  by_cases c1 : ∃ d K, d ≤ 20 ∧ K < 3 ^ d ∧ p1 = nI d ∧ p0 = lN K
  · obtain ⟨d, k, d1, k1, rfl, rfl⟩ := c1
    exact jqI (dm := 4) I (wo_fits _ _ (by omega) I.kX (jaF (c10_fits1 I.X I.C.2.2.1.2.1 (by have := I.D.2.2.1; omega) d k d1 k1)) I.hP) (by omega) (fun e' t' h' J eq => by exact jmF J (c_fits1 J.T J.M.2.2.2.1 (by have := J.D.2.2.1; omega) d k d1 k1))
  · exact jxI I (by decide) (wx_fits_A _ _ (by omega) I.kX (c10_fits0 I.X hlt I.F p0 p1 c1)) (by omega) (jyF I (c_fits0 I.T p0 p1 c1))
theorem jw_seed (I : jI t h a c e S K) (hK : K ≤ 511) (hlt : l.stackTraces = false) (p0 : Int32) (p1 : Int32) (p2 : Int32) (p3 : Int32) : zMetW E b l yL_seed cL_seed 7 (some .int) [(0, 13, 16, 13), (0, 13, 20, 46)] 15 1 6 [.ref (b + 0), .int p0, .int p1, .int p2, .int p3, .ref (b + 250)] t h (qI (jMJ E b l yX11_seed cX11_seed 5 (some .long) [.int p0, .int p1, .int p2, .int p3] (K + 1))) := by
  by_cases c1 : (∃ k n, k ≤ 3 ∧ 1 ≤ n ∧ n ≤ 366 ∧ p0 = nI k ∧ p1 = nI n) ∧ ∃ k, k ≤ 2 ∧ p3 = nI k
  · obtain ⟨⟨k, n, hk, hn1, hn, rfl, rfl⟩, q, hq, rfl⟩ := c1
    by_cases c2 : k = 1 ∧ S.1.2.2.1 = 0
    · obtain ⟨rfl, c2⟩ := c2
      exact jxJ I (by decide) (wx_seed_S _ _ _ _ (by omega) I.kX (c10_seed2 I.X hlt I.F I.C n q p2 hn1 hn hq c2)) (by omega) (jz5 (c_seed2 I.T I.D I.M I.ro n q p2 hn1 hn hq c2))
    · have hkr : k = 1 → 0 < S.1.2.2.1 := fun z => Nat.pos_of_ne_zero (fun y => c2 ⟨z, y⟩)
      exact jqJ (dm := 6) I (wo_seed _ _ _ _ (by omega) I.kX (c10_seed1 I.X I.O I.C k n q p2 hk hn1 hn hq hkr) I.hP) (by omega) (fun e' t' h' J eq => by exact c_seed1 J.T J.D J.M J.Ro J.ro k n q p2 hk hn1 hn hq hkr (J.td hK (by omega)))
  · exact jxJ I (by decide) (wx_seed_A _ _ _ _ (by omega) I.kX (c10_seed0 I.X hlt I.F p0 p1 p2 p3 c1)) (by omega) (jz5 (c_seed0 I.T I.D I.M p0 p1 p2 p3 c1))
end JQ
