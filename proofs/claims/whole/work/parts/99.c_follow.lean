/-! ===== the class: a ring followed ===== -/
/-- all ten, those there are none of as whole -/
def wAll (n : Nat) (w : Nat → Nat) (k : Nat) : Nat := if k < n then w k else 0
def rAll9 (n N : Nat) (r : Nat → Nat) (k : Nat) : Nat := if k < n then r k else N
abbrev strd (n : Nat) : Nat := if n % 7 = 0 then max n 7 else n * 7
/-- the days of a ring -/
noncomputable abbrev xRg (D : yD) (R : Nat × (Nat → Nat)) (sd : Int32) (d : Nat) : yS := dDays D.1 D.2.1 yPd R 1 d (x0 D sd)
noncomputable abbrev lo9 (D : yD) (R : Nat × (Nat → Nat)) (sd : Int32) (f : Nat) (d : Nat) : Nat := kP (wAll D.2.1.1.1 (xRg D R sd d).1.1) (rAll9 D.2.1.1.1 D.2.1.1.2.2 (xRg D R sd d).1.2) f 5
noncomputable abbrev bad9 (D : yD) (R : Nat × (Nat → Nat)) (sd : Int32) (d : Nat) : Prop := (xRg D R sd (d + 1)).2.2.2.2.1.2.2 ≠ none ∨ rPast D.2.1.2 (xRg D R sd (d + 1)).1.1 D.2.1.1.1 ≠ none
noncomputable abbrev eR9 (D : yD) (R : Nat × (Nat → Nat)) (sd : Int32) : Nat → Nat → Prop := eQ D.2.1.1.1 (xRg D R sd) R.1 D.2.2.2
theorem wAll_b {D : yD} {R : Nat × (Nat → Nat)} {sd : Int32} (hD : sdOk D yPd) (d k : Nat) : wAll D.2.1.1.1 (xRg D R sd d).1.1 k < 128 ∧ rAll9 D.2.1.1.1 D.2.1.1.2.2 (xRg D R sd d).1.2 k < 16 := by
  have hW := (hD.w sd).days R 1 d
  have hN11 := hD.2.2.1
  refine ⟨?_, ?_⟩
  · unfold wAll
    split
    · have h9 : (xRg D R sd d).1.1 k ≤ 99 := (hW.1.1.2.2.2.2 k ‹_›).2.2.2.2.2.2.2; omega
    · omega
  · unfold rAll9
    split
    · have : (xRg D R sd d).1.2 k ≤ D.2.1.1.2.2 := hW.2.2.2 k ‹_›; omega
    · omega
theorem same9 {D : yD} {R : Nat × (Nat → Nat)} {sd : Int32} (hD : sdOk D yPd) (hn : D.2.1.1.1 ≤ 10) (hR : 0 < R.1) {i d : Nat} (hid : i ≤ d) : eR9 D R sd i d ↔ ((d - i) % strd R.1 = 0 ∧ lo9 D R sd 0 i = lo9 D R sd 0 d ∧ lo9 D R sd 5 i = lo9 D R sd 5 d) := by
  unfold eR9 eQ
  rw [stride_iff hR hid]
  constructor
  · rintro ⟨h1, h2⟩
    have e : ∀ k, wAll D.2.1.1.1 (xRg D R sd i).1.1 k = wAll D.2.1.1.1 (xRg D R sd d).1.1 k ∧ rAll9 D.2.1.1.1 D.2.1.1.2.2 (xRg D R sd i).1.2 k = rAll9 D.2.1.1.1 D.2.1.1.2.2 (xRg D R sd d).1.2 k := fun k => by
      unfold wAll rAll9
      by_cases z : k < D.2.1.1.1
      · rw [if_pos z, if_pos z, if_pos z, if_pos z]; exact h1 k z
      · rw [if_neg z, if_neg z, if_neg z, if_neg z]; exact ⟨rfl, rfl⟩
    exact ⟨h2, kP_eq 5 (fun k _ => e _), kP_eq 5 (fun k _ => e _)⟩
  · rintro ⟨h1, h2, h3⟩
    refine ⟨fun k hk => ?_, h1⟩
    have hb : ∀ f k, k < 5 → wAll D.2.1.1.1 (xRg D R sd i).1.1 (f + k) < 128 ∧ wAll D.2.1.1.1 (xRg D R sd d).1.1 (f + k) < 128 ∧ rAll9 D.2.1.1.1 D.2.1.1.2.2 (xRg D R sd i).1.2 (f + k) < 16 ∧ rAll9 D.2.1.1.1 D.2.1.1.2.2 (xRg D R sd d).1.2 (f + k) < 16 := fun f k _ => ⟨(wAll_b hD i _).1, (wAll_b hD d _).1, (wAll_b hD i _).2, (wAll_b hD d _).2⟩
    have key : ∀ f k, k < 5 → f + k < D.2.1.1.1 → (wAll D.2.1.1.1 (xRg D R sd i).1.1 (f + k) = wAll D.2.1.1.1 (xRg D R sd d).1.1 (f + k) ∧ rAll9 D.2.1.1.1 D.2.1.1.2.2 (xRg D R sd i).1.2 (f + k) = rAll9 D.2.1.1.1 D.2.1.1.2.2 (xRg D R sd d).1.2 (f + k)) → (xRg D R sd i).1.1 (f + k) = (xRg D R sd d).1.1 (f + k) ∧ (xRg D R sd i).1.2 (f + k) = (xRg D R sd d).1.2 (f + k) := fun f k _ z e => by
      unfold wAll rAll9 at e
      rw [if_pos z, if_pos z, if_pos z, if_pos z] at e
      exact e
    by_cases z : k < 5
    · have := key 0 k z (by omega) (kP_inj 5 (hb 0) h2 k z)
      rw [Nat.zero_add] at this
      exact this
    · have := key 5 (k - 5) (by omega) (by omega) (kP_inj 5 (hb 5) h3 (k - 5) (by omega))
      rw [show 5 + (k - 5) = k by omega] at this
      exact this
section CFO
variable {E : zE} {b : Nat} {G : zG} {t : zT} {h : zH} {l : Launch} {a c : Nat} {D : yD} {Mo : Nat × (Nat → Nat → Nat)} {R : Nat × (Nat → Nat)} {sd : Int32}
/-- as far as the ring was followed -/
def cFo (h : zH) (D : yD) (R : Nat × (Nat → Nat)) (sd : Int32) (d : Nat) (hc : zH) : Prop := (∀ i, i ≤ d → zL hc 142 i = lN (lo9 D R sd 0 i) ∧ zL hc 143 i = lN (lo9 D R sd 5 i)) ∧ zI hc 141 0 = oI ((rF (eR9 D R sd) d).map Prod.fst) ∧ zI hc 141 1 = oI ((rF (eR9 D R sd) d).map Prod.snd) ∧ zI hc 141 2 = oI (tF (eR9 D R sd) (bad9 D R sd) d) ∧ cAg 73 143 h hc
theorem cWk.ten {h : zH} (hO : dOk D Mo R) {d : Nat} (hw : cWk h a D.2.1.1.1 none D.1 D.2.1 yPd (xRg D R sd d) D.2.1.1.2.2 R) : ∀ k, k < 10 → zI h (87 + 1) k = nI (wAll D.2.1.1.1 (xRg D R sd d).1.1 k) ∧ zI h (87 + 2) k = nI (rAll9 D.2.1.1.1 D.2.1.1.2.2 (xRg D R sd d).1.2 k) ∧ wAll D.2.1.1.1 (xRg D R sd d).1.1 k < 128 ∧ rAll9 D.2.1.1.1 D.2.1.1.2.2 (xRg D R sd d).1.2 k < 16 := by
  intro k hk
  have hD : sdOk D yPd := hO.1
  have hb := wAll_b (R := R) (sd := sd) hD d k
  refine ⟨?_, ?_, hb.1, hb.2⟩
  · unfold wAll
    by_cases z : k < D.2.1.1.1
    · rw [if_pos z]; exact (hw.1.2.2.2.1.2.1 k z).1
    · rw [if_neg z]; exact (hw.1.2.2.2.1.2.2.1 k (show D.2.1.1.1 ≤ k by omega) (by omega)).1
  · unfold rAll9
    by_cases z : k < D.2.1.1.1
    · rw [if_pos z]; exact (hw.1.2.2.2.1.2.1 k z).2
    · rw [if_neg z]; exact (hw.1.2.2.2.1.2.2.1 k (show D.2.1.1.1 ≤ k by omega) (by omega)).2
end CFO
