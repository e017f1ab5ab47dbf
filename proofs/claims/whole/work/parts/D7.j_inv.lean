/-! ===== both sides between two calls ===== -/
/-- an image: wear and rest, the day, the row -/
abbrev yI : Type := ((Nat → Nat) × (Nat → Nat)) × Nat × (Nat × (Nat → Nat))
/-- what stands: land and State, new roads, row; images; what is fed; the fault's place -/
abbrev yJ : Type := (yD × (Nat × (Nat → Nat → Nat)) × (Nat × (Nat → Nat))) × (Nat × (Nat → yI)) × (Nat × (Nat → Nat)) × Int32
def jC (h : zH) (a : Nat) (S : yJ) : Prop := cSn h a S.1.1 S.1.2.1 S.1.2.2 ∧ zI h 0 4 = nI S.2.1.1 ∧ (∀ k, k < S.2.1.1 → cSt h (145 + 4 * k) S.1.1.2.1.1.1 S.1.1.2.1.1.2.2 (S.2.1.2 k).2.1 (S.2.1.2 k).1.1 (S.2.1.2 k).1.2 (S.2.1.2 k).2.2) ∧ (zI h 1 0 = nI S.2.2.1.1 ∧ ∀ i, i < S.2.2.1.1 → zI h 34 i = nI (S.2.2.1.2 i)) ∧ zI h 1 2 = S.2.2.2
def mIm (h : zH) (k n : Nat) (I : yI) : Prop := zI h (229 + 1 + k) 0 = nI I.2.1 ∧ zI h (229 + 1 + k) 1 = nI I.2.2.1 ∧ (∀ j, j < n → zI h (229 + 1 + k) (2 + 2 * j) = nI (I.1.1 j) ∧ zI h (229 + 1 + k) (3 + 2 * j) = nI (I.1.2 j)) ∧ ∀ j, j < I.2.2.1 → zI h (229 + 1 + k) (22 + j) = nI (I.2.2.2 j)
def jM (h : zH) (S : yJ) : Prop := mSd h S.1.1 yP0 ∧ mRo h S.1.2.2 ∧ mMo h S.1.2.1 ∧ zI h 157 21 = nI S.2.1.1 ∧ (∀ k, k < S.2.1.1 → mIm h k S.1.1.2.1.1.1 (S.2.1.2 k)) ∧ (zI h 157 1 = nI S.2.2.1.1 ∧ ∀ i, i < S.2.2.1.1 → zI h 158 i = nI (S.2.2.1.2 i)) ∧ zI h 157 3 = S.2.2.2
def jOk (S : yJ) (K : Nat) : Prop := dOk S.1.1 S.1.2.1 S.1.2.2 ∧ S.1.1.2.2.2 ≤ 366 * K ∧ (S.2.1.1 ≤ 3 ∧ ∀ k, k < S.2.1.1 → dOk (S.1.1.1, S.1.1.2.1, (S.2.1.2 k).1, (S.2.1.2 k).2.1) S.1.2.1 (S.2.1.2 k).2.2 ∧ (S.2.1.2 k).2.1 ≤ 366 * K) ∧ S.2.2.1.1 ≤ 600 ∧ ∀ i, i < S.2.2.1.1 → S.2.2.1.2 i < 256
def jT (t : zT) (a c e : Nat) : Prop := zTM t ∧ zTX t a c e ∧ t.1.2 = false ∧ zK t 250 = (13, 1)
def jI (t : zT) (h : zH) (a c e : Nat) (S : yJ) (K : Nat) : Prop := jT t a c e ∧ jOk S K ∧ jC h a S ∧ jM h S
/-- only the class's cells have changed -/
def gX (h h' : zH) : Prop := ∀ i k, 157 ≤ i → zI h' i k = zI h i k ∧ zL h' i k = zL h i k
/-- only the reference's cells have changed -/
def gM (h h' : zH) : Prop := ∀ i k, i < 157 ∨ 250 ≤ i → zI h' i k = zI h i k ∧ zL h' i k = zL h i k
theorem gM.cAg {h h' : zH} (g : gM h h') : cAg 157 249 h h' := ⟨fun i k q => (g i k (by omega)).1, fun i k q => (g i k (by omega)).2⟩
theorem gX.of {lo hi : Nat} {h h' : zH} (g : cAg lo hi h h') (hh : hi < 157) : gX h h' := fun i k q => ⟨g.1 i k (by omega), g.2 i k (by omega)⟩
theorem zAg5.gM {h h' : zH} (a : zAg5 h h') : gM h h' := fun i k q => ⟨a.1 i k (by unfold sc5 sc4 sc3 sc2 sc1; omega), a.2 i k (by unfold sl3; omega)⟩
theorem jOk.up {S : yJ} {K : Nat} (h : jOk S K) : jOk S (K + 1) := ⟨h.1, by have := h.2.1; omega, ⟨h.2.2.1.1, fun k hk => ⟨(h.2.2.1.2 k hk).1, by have := (h.2.2.1.2 k hk).2; omega⟩⟩, h.2.2.2⟩
theorem jC.fr {h h' : zH} {a : Nat} {S : yJ} {K : Nat} (g : gM h h') (ha : a = 2 ∨ a = 36) (hO : jOk S K) (hm : jC h a S) : jC h' a S := by
  obtain ⟨m1, m2, m3, ⟨m4, m5⟩, m6⟩ := hm
  have hi := hO.2.2.1.1
  refine ⟨m1.ag g.cAg (by omega) ha hO.1, ?_, fun k hk => (m3 k hk).ag g.cAg (by omega), ⟨?_, fun i hi => ?_⟩, ?_⟩
  · rw [(g _ _ (by omega)).1]; exact m2
  · rw [(g _ _ (by omega)).1]; exact m4
  · rw [(g _ _ (by omega)).1]; exact m5 i hi
  · rw [(g _ _ (by omega)).1]; exact m6
theorem mSd.fr {h h' : zH} {D : yD} {p : yP} (g : ∀ i k, 157 ≤ i → zI h' i k = zI h i k) (hm : mSd h D p) : mSd h' D p := by
  obtain ⟨⟨a1, a2, a3, a4, a5⟩, ⟨b1, b2, b3, b4, b5, b6, b7⟩, c1, c2, c3, c4, c5⟩ := hm
  refine ⟨⟨?_, ?_, ?_, fun q hq i hi => ?_, fun k hk => ?_⟩, ⟨?_, ?_, fun z => ?_, ?_, ?_, ?_, ?_⟩, ?_, ?_, ?_, fun k hk => ⟨fun i hi => ?_, ?_, ?_⟩, ?_⟩
  · rw [g _ _ (by omega)]; exact a1
  · rw [g _ _ (by omega)]; exact a2
  · rw [g _ _ (by omega)]; exact a3
  · rw [g _ _ (by omega)]; exact a4 q hq i hi
  · rw [g _ _ (by omega)]; exact a5 k hk
  · rw [g _ _ (by omega)]; exact b1
  · rw [g _ _ (by omega)]; exact b2
  · rw [g _ _ (by omega)]; exact b3 z
  · rw [g _ _ (by omega)]; exact b4
  · rw [g _ _ (by omega)]; exact b5
  · rw [g _ _ (by omega)]; exact b6
  · rw [g _ _ (by omega)]; exact b7
  · rw [g _ _ (by omega)]; exact c1
  · rw [g _ _ (by omega)]; exact c2
  · rw [g _ _ (by omega)]; exact c3
  · rw [g _ _ (by omega)]; exact (c4 k hk).1 i hi
  · rw [g _ _ (by omega)]; exact (c4 k hk).2.1
  · rw [g _ _ (by omega)]; exact (c4 k hk).2.2
  · rw [g _ _ (by omega)]; exact c5
theorem mRo.fr {h h' : zH} {R : Nat × (Nat → Nat)} (g : ∀ i k, 157 ≤ i → zI h' i k = zI h i k) (hm : mRo h R) : mRo h' R := ⟨by rw [g _ _ (by omega)]; exact hm.1, fun k hk => by rw [g _ _ (by omega)]; exact hm.2 k hk⟩
theorem mMo.fr {h h' : zH} {Mo : Nat × (Nat → Nat → Nat)} (g : ∀ i k, 157 ≤ i → zI h' i k = zI h i k) (hm : mMo h Mo) : mMo h' Mo := ⟨by rw [g _ _ (by omega)]; exact hm.1, fun k hk q hq => by rw [g _ _ (by omega)]; exact hm.2 k hk q hq⟩
theorem mIm.fr {h h' : zH} {k n : Nat} {I : yI} (g : ∀ j, zI h' (229 + 1 + k) j = zI h (229 + 1 + k) j) (hm : mIm h k n I) : mIm h' k n I := by
  obtain ⟨a1, a2, a3, a4⟩ := hm
  refine ⟨?_, ?_, fun j hj => ⟨?_, ?_⟩, fun j hj => ?_⟩
  · rw [g]; exact a1
  · rw [g]; exact a2
  · rw [g]; exact (a3 j hj).1
  · rw [g]; exact (a3 j hj).2
  · rw [g]; exact a4 j hj
theorem jM.fr {h h' : zH} {S : yJ} (g : gX h h') (hm : jM h S) : jM h' S := by
  obtain ⟨m1, m2, m3, m4, m5, ⟨m6, m7⟩, m8⟩ := hm
  have g' : ∀ i k, 157 ≤ i → zI h' i k = zI h i k := fun i k q => (g i k q).1
  refine ⟨m1.fr g', m2.fr g', m3.fr g', ?_, fun k hk => (m5 k hk).fr (fun j => g' _ _ (by omega)), ⟨?_, fun i hi => ?_⟩, ?_⟩
  · rw [g' _ _ (by omega)]; exact m4
  · rw [g' _ _ (by omega)]; exact m6
  · rw [g' _ _ (by omega)]; exact m7 i hi
  · rw [g' _ _ (by omega)]; exact m8
/-- the same with another State -/
def jD (S : yJ) (D' : yD) : yJ := ((D', S.1.2), S.2)
/-- a call of the reference that leaves row, images, tape as they were -/
theorem jM.cl {h h' : zH} {S : yJ} {K : Nat} {D' : yD} (hO : jOk S K) (a : zAg5 h h') (hd : mSd h' D' yP0) (en : D'.2.1.1.1 = S.1.1.2.1.1.1) (hm : jM h S) : jM h' (jD S D') := by
  obtain ⟨m1, m2, m3, m4, m5, ⟨m6, m7⟩, m8⟩ := hm
  have hi := hO.2.2.1.1
  have hM := hO.1.2.2.2.2.1
  refine ⟨hd, m2.ag5 a, m3.ag5 hM a, ?_, fun k hk => ?_, ⟨?_, fun i hi => ?_⟩, ?_⟩
  · rw [a.1 _ _ (by unfold sc5 sc4 sc3 sc2 sc1; omega)]; exact m4
  · show mIm h' k D'.2.1.1.1 _
    rw [en]
    have hk2 : k < S.2.1.1 := hk
    exact (m5 k hk).fr (fun j => a.1 _ _ (by unfold sc5 sc4 sc3 sc2 sc1; omega))
  · rw [a.1 _ _ (by unfold sc5 sc4 sc3 sc2 sc1; omega)]; exact m6
  · rw [a.1 _ _ (by unfold sc5 sc4 sc3 sc2 sc1; omega)]; exact m7 i hi
  · rw [a.1 _ _ (by unfold sc5 sc4 sc3 sc2 sc1; omega)]; exact m8
theorem jM.q {h h' : zH} {S : yJ} {K : Nat} {t t' : zT} {e : Int32} (hO : jOk S K) (hc : mCl h t S.1.1 e t' h') (hm : jM h S) : jM h' S := hm.cl hO hc.2.1 hc.2.2.2 rfl
/-- a question put to the class -/
theorem jT.ask {t t' : zT} {a c e : Nat} (hT : jT t a c e) (h : t' = t ∨ t' = zsR t 73 6 (some a)) : ∃ e', jT t' a c e' := by
  rcases h with rfl | rfl
  · exact ⟨e, hT⟩
  · exact ⟨a, hT.1.sR (by omega), hT.2.1.wl (by have := tX_a2 hT.2.1; omega), hT.2.2.1, hT.2.2.2⟩
theorem jC.ask {h h' : zH} {a : Nat} {S : yJ} {K : Nat} (g : cAg 73 144 h h') (ha : a = 2 ∨ a = 36) (hO : jOk S K) (hm : jC h a S) : jC h' a S := by
  obtain ⟨m1, m2, m3, ⟨m4, m5⟩, m6⟩ := hm
  refine ⟨m1.ag g (by omega) ha hO.1, ?_, fun k hk => (m3 k hk).ag g (by omega), ⟨?_, fun i hi => ?_⟩, ?_⟩
  · rw [g.1 _ _ (by omega)]; exact m2
  · rw [g.1 _ _ (by omega)]; exact m4
  · rw [g.1 _ _ (by omega)]; exact m5 i hi
  · rw [g.1 _ _ (by omega)]; exact m6
theorem jI.ask {t t' : zT} {h h' : zH} {a c e : Nat} {S : yJ} {K : Nat} (I : jI t h a c e S K) (hq : cAsk t a h t' h') : ∃ e', jI t' h' a c e' S K ∧ gX h h' := by
  obtain ⟨e', hT⟩ := I.1.ask hq.1
  have g := gX.of hq.2 (by omega)
  exact ⟨e', ⟨hT, I.2.1, I.2.2.1.ask hq.2 (tX_a2 I.1.2.1) I.2.1, I.2.2.2.fr g⟩, g⟩
/-- longs elsewhere don't matter -/
theorem jI.sL {t : zT} {h : zH} {a c e : Nat} {S : yJ} {K : Nat} (I : jI t h a c e S K) (i k : Nat) (v : Int64) : jI t (zsL h i k v) a c e S K := I
/-- a question put to the reference -/
theorem jI.cl {t t' : zT} {h h' : zH} {a c e : Nat} {S : yJ} {K : Nat} {x : Int32} (I : jI t h a c e S K) (hc : mCl h t S.1.1 x t' h') : jI t' h' a c e S (K + 1) ∧ gM h h' := by
  have g := hc.2.1.gM
  obtain ⟨rfl, -⟩ := id hc
  exact ⟨⟨I.1, I.2.1.up, I.2.2.1.fr g (tX_a2 I.1.2.1) I.2.1, I.2.2.2.q I.2.1 hc⟩, g⟩
theorem mCl.of4 {h h' : zH} {t t' : zT} {D : yD} {x : Int32} (hc : mCall h t D yP0 x t' h') : mCl h t D x t' h' := ⟨hc.1, .of4 hc.2.1, hc.2.2⟩
theorem mCl.th {h : zH} {t : zT} {D : yD} (hD : sdOk D yP0) (hm : mSd h D yP0) : mCl h t D 0 t (zsI h 157 0 0) := ⟨rfl, .of4 (.th h 0), zI_self _ _ _ _, hm.th hD 0⟩
theorem mCl.th2 {h : zH} {t : zT} {D : yD} (hD : sdOk D yP0) (hm : mSd h D yP0) (x : Int32) : mCl h t D x t (zsI (zsI h 157 0 0) 157 0 x) := ⟨rfl, .of4 ((zAg4.th h 0).tr (.th _ x)), zI_self _ _ _ _, (hm.th hD 0).th hD x⟩
