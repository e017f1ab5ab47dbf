/-! ===== the reference: the search ===== -/
def sct (m i k : Nat) : Prop := sc2 i k ∨ (240 + 1 ≤ i ∧ i ≤ 240 + 1 + m) ∨ (245 + 1 ≤ i ∧ i ≤ 245 + 1 + m) ∨ (i = 157 ∧ k = 59)
def zAgT (m : Nat) (h h' : zH) : Prop := (∀ i k, ¬ sct m i k → zI h' i k = zI h i k) ∧ ∀ i k, ¬ sl3 i k → zL h' i k = zL h i k
theorem zAgT.rf (m : Nat) (h : zH) : zAgT m h h := ⟨fun _ _ _ => rfl, fun _ _ _ => rfl⟩
theorem zAgT.tr {m : Nat} {h h1 h2 : zH} (a : zAgT m h h1) (c : zAgT m h1 h2) : zAgT m h h2 := ⟨fun i k q => (c.1 i k q).trans (a.1 i k q), fun i k q => (c.2 i k q).trans (a.2 i k q)⟩
theorem zAgT.of2 {m : Nat} {h h' : zH} (a : zAg2 h h') : zAgT m h h' := ⟨fun i k q => a.1 i k (fun z => q (Or.inl z)), fun i k q => (zAg3.of2 a).2 i k q⟩
theorem zAgT.up {m : Nat} {h h' : zH} (a : zAgT m h h') : zAgT (m + 1) h h' := ⟨fun i k q => a.1 i k (fun z => q (by unfold sct at z ⊢; rcases z with z | z | z | z; exact Or.inl z; exact Or.inr (Or.inl (by omega)); exact Or.inr (Or.inr (Or.inl (by omega))); exact Or.inr (Or.inr (Or.inr z)))), a.2⟩
theorem zAgT.sI {m : Nat} {h h' : zH} (a : zAgT m h h') {i k : Nat} {v : Int32} (hs : sct m i k) : zAgT m h (zsI h' i k v) := ⟨fun j q hn => by
  rw [zI_sI, if_neg (fun z => hn (by rw [z.1, z.2]; exact hs))]
  exact a.1 j q hn, a.2⟩
theorem zAgT.sL {m : Nat} {h h' : zH} (a : zAgT m h h') {i k : Nat} {v : Int64} (hs : sl3 i k) : zAgT m h (zsL h' i k v) := ⟨a.1, fun j q hn => by
  rw [zL_sL, if_neg (fun z => hn (by rw [z.1, z.2]; exact hs))]
  exact a.2 j q hn⟩
theorem zAgT.ag3 {m : Nat} {h h' : zH} (hm : m ≤ 3) (a : zAgT m h h') : zAg3 h h' := ⟨fun i k q => a.1 i k (fun z => q (by unfold sct at z; unfold sc3; rcases z with z | z | z | z; exact Or.inl z; exact Or.inr (Or.inl (by omega)); exact Or.inr (Or.inl (by omega)); exact Or.inr (Or.inr (by omega)))), a.2⟩
def mBs (h : zH) (B : Nat × Int32) : Prop := zL h 157 58 = lN B.1 ∧ zI h 157 59 = B.2
section MTR
variable {E : zE} {b : Nat} {G : zG} {t : zT} {h : zH} {l : Launch} {L : yL} {A : yN}
/-- a walk on its way, but for what it paid and how many went -/
def mQs (h : zH) (L : yL) (A : yN) (q : yQ) (c gn : Nat) : Prop := ∃ (sd : Int32) (cm pa : Nat) (sw : (Nat × Nat × Option Nat) × (Nat → Nat)) (z7 : Nat), mWk7 h L A yP0 (q.1, (q.2, gn), (sd, (c, cm, pa), sw)) z7
theorem mQs.eq {h h' : zH} {q : yQ} {c gn : Nat} (hn : A.1.1 ≤ 11) (hg : L.1.2.1 ≤ 14) (hm : mQs h L A q c gn) (e1 : ∀ i k, ¬ ((240 ≤ i ∧ i ≤ 245 + 4) ∨ (i = 157 ∧ k = 59)) → zI h' i k = zI h i k) (e2 : ∀ i k, ¬ (i = 157 ∧ k = 58) → zL h' i k = zL h i k) : mQs h' L A q c gn := by
  obtain ⟨sd, cm, pa, sw, z7, hm⟩ := hm
  refine ⟨sd, cm, pa, sw, z7, ?_⟩
  obtain ⟨⟨⟨g1, g2, g3, g4⟩, ⟨l1, l2, l3, l4, l5⟩, ⟨p1, p2, p3, p4, p5, p6, p7⟩, ⟨t1, t2, t3, t4⟩⟩, h2, h3, h4, h5, h6, h7, h8, h9⟩ := hm
  have rd : ∀ i j, ¬ ((240 ≤ i ∧ i ≤ 245 + 4) ∨ (i = 157 ∧ j = 59)) → ∀ v, zI h i j = v → zI h' i j = v := fun i j q v e => (e1 i j q).trans e
  refine ⟨⟨⟨rd _ _ ?_ _ g1, rd _ _ ?_ _ g2, rd _ _ ?_ _ g3, fun j hj => ⟨fun i hi => rd _ _ ?_ _ ((g4 j hj).1 i hi), rd _ _ ?_ _ (g4 j hj).2⟩⟩, ⟨rd _ _ ?_ _ l1, rd _ _ ?_ _ l2, rd _ _ ?_ _ l3, fun g hg i hi => rd _ _ ?_ _ (l4 g hg i hi), fun j hj => rd _ _ ?_ _ (l5 j hj)⟩, ⟨rd _ _ ?_ _ p1, rd _ _ ?_ _ p2, fun z => rd _ _ ?_ _ (p3 z), rd _ _ ?_ _ p4, rd _ _ ?_ _ p5, rd _ _ ?_ _ p6, rd _ _ ?_ _ p7⟩, ⟨rd _ _ ?_ _ t1, rd _ _ ?_ _ t2, t3, t4⟩⟩, fun j hj => rd _ _ ?_ _ (h2 j hj), rd _ _ ?_ _ h3, rd _ _ ?_ _ h4, (e2 _ _ (by omega)).trans h5, (e2 _ _ (by omega)).trans h6, rd _ _ ?_ _ h7, rd _ _ ?_ _ h8, rd _ _ ?_ _ h9⟩ <;> omega
/-- put back -/
theorem mQs.back {h h' : zH} {q q2 : yQ} {c c2 gn gn2 : Nat} (hn : A.1.1 ≤ 11) (hg : L.1.2.1 ≤ 14) (hm : mQs h L A q2 c2 gn2) (e1 : ∀ i k, ¬ (i = 233 ∨ i = 234 ∨ (i = 157 ∧ k = 32)) → zI h' i k = zI h i k) (e2 : ∀ i k, ¬ (i = 157 ∧ k = 43) → zL h' i k = zL h i k) (e3 : zL h' 157 43 = lN c) (e4 : zI h' 157 32 = nI q.2) (e5 : ∀ j, j < A.1.1 → zI h' 233 j = nI (q.1.1 j) ∧ zI h' 234 j = nI (q.1.2 j)) (e6 : q2.2 - gn2 = q.2 - gn) (e7 : gn ≤ q.2) (e8 : q.2 < 2 ^ 20) : mQs h' L A q c gn := by
  obtain ⟨sd, cm, pa, sw, z7, hm⟩ := hm
  refine ⟨sd, cm, pa, sw, z7, ?_⟩
  obtain ⟨⟨⟨g1, g2, g3, g4⟩, ⟨l1, l2, l3, l4, l5⟩, ⟨p1, p2, p3, p4, p5, p6, p7⟩, ⟨t1, t2, t3, t4⟩⟩, h2, h3, h4, h5, h6, h7, h8, h9⟩ := hm
  have rd : ∀ i j, ¬ (i = 233 ∨ i = 234 ∨ (i = 157 ∧ j = 32)) → ∀ v, zI h i j = v → zI h' i j = v := fun i j q v e => (e1 i j q).trans e
  refine ⟨⟨⟨rd _ _ ?_ _ g1, rd _ _ ?_ _ g2, rd _ _ ?_ _ g3, fun j hj => ⟨fun i hi => rd _ _ ?_ _ ((g4 j hj).1 i hi), (e5 j hj).1⟩⟩, ⟨rd _ _ ?_ _ l1, rd _ _ ?_ _ l2, rd _ _ ?_ _ l3, fun g hg i hi => rd _ _ ?_ _ (l4 g hg i hi), fun j hj => rd _ _ ?_ _ (l5 j hj)⟩, ⟨rd _ _ ?_ _ p1, rd _ _ ?_ _ p2, fun z => rd _ _ ?_ _ (p3 z), rd _ _ ?_ _ p4, rd _ _ ?_ _ p5, rd _ _ ?_ _ p6, rd _ _ ?_ _ p7⟩, ⟨e4, rd _ _ ?_ _ (t2.trans (congrArg nI e6)), e7, e8⟩⟩, fun j hj => (e5 j hj).2, rd _ _ ?_ _ h3, rd _ _ ?_ _ h4, e3, (e2 _ _ (by omega)).trans h6, rd _ _ ?_ _ h7, rd _ _ ?_ _ h8, rd _ _ ?_ _ h9⟩ <;> omega
theorem mQs.f {h : zH} {q : yQ} {c gn : Nat} (hm : mQs h L A q c gn) : zL h 157 43 = lN c ∧ zI h 157 32 = nI q.2 ∧ zI h 157 30 = nI A.1.1 ∧ (∀ j, j < A.1.1 → zI h 233 j = nI (q.1.1 j) ∧ zI h 234 j = nI (q.1.2 j)) ∧ gn ≤ q.2 := by
  obtain ⟨sd, cm, pa, sw, z7, hm⟩ := hm
  exact ⟨hm.2.2.2.2.1, hm.1.2.2.2.1, hm.1.1.2.1, fun j hj => ⟨(hm.1.1.2.2.2 j hj).2, hm.2.1 j hj⟩, hm.1.2.2.2.2.2.1⟩
theorem c_goesQ (hT : zTM t) {q : yQ} {c gn : Nat} (hqo : qOk L A q) (hm : mQs h L A q c gn) (s : Nat) (hs : s < 2 ^ 31) (hday : q.2 + 1 < 2 ^ 20) : zMet E b l yX11_goesBy cX11_goesBy 5 none 3 0 0 [.ref (b + 157), .int (nI s)] t h (qV (fun t' h' => t' = t ∧ zAg2 h h' ∧ mQs h' L A (nxQ L A s q) (c + dSC L A s q.1.1 q.2 L.1.2.1) (gn + 1))) := by
  obtain ⟨sd, cm, pa, sw, z7, hm⟩ := hm
  have hW : wOk L A yP0 (q.1, (q.2, gn), (sd, (c, cm, pa), sw)) := hqo
  refine (c_goesBy7 hT hW hm s hs hday).mono ?_
  sorry
end MTR
