/-! ===== the class: what is read so far, as cells ===== -/
def cRr (h : zH) (c : Nat) (r : yR) : Prop := (zI h c 0 = nI r.1.1 ∧ zI h c 1 = nI r.1.2.1 ∧ zI h c 2 = nI r.1.2.2 ∧ zI h c 3 = nI r.2.1.1 ∧ zI h c 4 = nI r.2.1.2.1 ∧ zI h c 5 = nI r.2.1.2.2) ∧ (∀ k, k < r.1.2.1 → ∀ i, i < 5 → zI h (c + 1 + 1 + k) i = nI (r.2.2.1 k i)) ∧ (∀ k, k < r.1.2.2 → ∀ i, i < 5 → zI h (c + 1 + 1 + (10 + k)) i = nI (r.2.2.2.1 k i)) ∧ (∀ k, k < r.2.1.1 → ∀ i, i < 6 → zI h (c + 16 + 1 + k) i = nI (r.2.2.2.2.1 k i)) ∧ ∀ k, k < r.2.1.2.1 → zI h (c + 31) k = nI (r.2.2.2.2.2 k)
/-- where what is read lies -/
abbrev iC (c i : Nat) : Prop := c ≤ i ∧ i ≤ c + 31
section CRR
variable {h h' : zH} {r : yR} {cn c : Nat} {v : Nat → Nat}
theorem cRr.eq (ok : rOk cn r) (q : ∀ i j, iC c i → zI h' i j = zI h i j) (m : cRr h c r) : cRr h' c r := by
  obtain ⟨⟨b1, b2, b3, b4⟩, ⟨b5, b6, b7, b8⟩, -⟩ := ok
  obtain ⟨⟨m0, m1, m2, m3, m4, m5⟩, m6, m7, m8, m9⟩ := m
  have p : ∀ i j, iC c i → ∀ x, zI h i j = x → zI h' i j = x := fun i j a x e => (q i j a).trans e
  exact ⟨⟨p _ _ (by omega) _ m0, p _ _ (by omega) _ m1, p _ _ (by omega) _ m2, p _ _ (by omega) _ m3, p _ _ (by omega) _ m4, p _ _ (by omega) _ m5⟩, fun k hk i hi => p _ _ (by omega) _ (m6 k hk i hi), fun k hk i hi => p _ _ (by omega) _ (m7 k hk i hi), fun k hk i hi => p _ _ (by omega) _ (m8 k hk i hi), fun k hk => p _ _ (by omega) _ (m9 k hk)⟩
theorem cr0 (ok : rOk cn r) (q : ∀ i j, iC c i → ¬ (i = c ∧ j = 0) → zI h' i j = zI h i j) (e : zI h' c 0 = nI (v 0)) (m : cRr h c r) : cRr h' c (tellR 0 v r) := by
  obtain ⟨⟨b1, b2, b3, b4⟩, ⟨b5, b6, b7, b8⟩, -⟩ := ok
  obtain ⟨⟨m0, m1, m2, m3, m4, m5⟩, m6, m7, m8, m9⟩ := m
  have p : ∀ i j, iC c i → ¬ (i = c ∧ j = 0) → ∀ x, zI h i j = x → zI h' i j = x := fun i j a c x e => (q i j a c).trans e
  exact ⟨⟨e, p _ _ (by omega) (by omega) _ m1, p _ _ (by omega) (by omega) _ m2, p _ _ (by omega) (by omega) _ m3, p _ _ (by omega) (by omega) _ m4, p _ _ (by omega) (by omega) _ m5⟩, fun k (hk : k < r.1.2.1) i hi => p _ _ (by omega) (by omega) _ (m6 k hk i hi), fun k (hk : k < r.1.2.2) i hi => p _ _ (by omega) (by omega) _ (m7 k hk i hi), fun k (hk : k < r.2.1.1) i hi => p _ _ (by omega) (by omega) _ (m8 k hk i hi), fun k (hk : k < r.2.1.2.1) => p _ _ (by omega) (by omega) _ (m9 k hk)⟩
theorem cr1 (ok : rOk cn r) (q : ∀ i j, iC c i → ¬ (i = c ∧ j = 1) → ¬ i = c + 1 + 1 + r.1.2.1 → zI h' i j = zI h i j) (e : zI h' c 1 = nI (r.1.2.1 + 1)) (hf : r.1.2.1 < 10) (w : ∀ i, i < 5 → zI h' (c + 1 + 1 + r.1.2.1) i = nI (v i)) (m : cRr h c r) : cRr h' c (tellR 1 v r) := by
  obtain ⟨⟨b1, b2, b3, b4⟩, ⟨b5, b6, b7, b8⟩, -⟩ := ok
  obtain ⟨⟨m0, m1, m2, m3, m4, m5⟩, m6, m7, m8, m9⟩ := m
  have p : ∀ i j, iC c i → ¬ (i = c ∧ j = 1) → ¬ i = c + 1 + 1 + r.1.2.1 → ∀ x, zI h i j = x → zI h' i j = x := fun i j a c d x e => (q i j a c d).trans e
  refine ⟨⟨p _ _ (by omega) (by omega) (by omega) _ m0, e, p _ _ (by omega) (by omega) (by omega) _ m2, p _ _ (by omega) (by omega) (by omega) _ m3, p _ _ (by omega) (by omega) (by omega) _ m4, p _ _ (by omega) (by omega) (by omega) _ m5⟩, fun k (hk : k < r.1.2.1 + 1) i hi => ?_, fun k (hk : k < r.1.2.2) i hi => p _ _ (by omega) (by omega) (by omega) _ (m7 k hk i hi), fun k (hk : k < r.2.1.1) i hi => p _ _ (by omega) (by omega) (by omega) _ (m8 k hk i hi), fun k (hk : k < r.2.1.2.1) => p _ _ (by omega) (by omega) (by omega) _ (m9 k hk)⟩
  show _ = nI (if k = r.1.2.1 then v i else r.2.2.1 k i)
  by_cases z : k = r.1.2.1
  · rw [if_pos z, z]; exact w i hi
  · rw [if_neg z]; exact p _ _ (by omega) (by omega) (by omega) _ (m6 k (by omega) i hi)
theorem cr2 (ok : rOk cn r) (q : ∀ i j, iC c i → ¬ (i = c ∧ j = 2) → ¬ i = c + 1 + 1 + (10 + r.1.2.2) → zI h' i j = zI h i j) (e : zI h' c 2 = nI (r.1.2.2 + 1)) (hf : r.1.2.2 < 4) (w : ∀ i, i < 5 → zI h' (c + 1 + 1 + (10 + r.1.2.2)) i = nI (v i)) (m : cRr h c r) : cRr h' c (tellR 2 v r) := by
  obtain ⟨⟨b1, b2, b3, b4⟩, ⟨b5, b6, b7, b8⟩, -⟩ := ok
  obtain ⟨⟨m0, m1, m2, m3, m4, m5⟩, m6, m7, m8, m9⟩ := m
  have p : ∀ i j, iC c i → ¬ (i = c ∧ j = 2) → ¬ i = c + 1 + 1 + (10 + r.1.2.2) → ∀ x, zI h i j = x → zI h' i j = x := fun i j a c d x e => (q i j a c d).trans e
  refine ⟨⟨p _ _ (by omega) (by omega) (by omega) _ m0, p _ _ (by omega) (by omega) (by omega) _ m1, e, p _ _ (by omega) (by omega) (by omega) _ m3, p _ _ (by omega) (by omega) (by omega) _ m4, p _ _ (by omega) (by omega) (by omega) _ m5⟩, fun k (hk : k < r.1.2.1) i hi => p _ _ (by omega) (by omega) (by omega) _ (m6 k hk i hi), fun k (hk : k < r.1.2.2 + 1) i hi => ?_, fun k (hk : k < r.2.1.1) i hi => p _ _ (by omega) (by omega) (by omega) _ (m8 k hk i hi), fun k (hk : k < r.2.1.2.1) => p _ _ (by omega) (by omega) (by omega) _ (m9 k hk)⟩
  show _ = nI (if k = r.1.2.2 then v i else r.2.2.2.1 k i)
  by_cases z : k = r.1.2.2
  · rw [if_pos z, z]; exact w i hi
  · rw [if_neg z]; exact p _ _ (by omega) (by omega) (by omega) _ (m7 k (by omega) i hi)
theorem cr3 (ok : rOk cn r) (q : ∀ i j, iC c i → ¬ (i = c ∧ j = 3) → ¬ i = c + 16 + 1 + r.2.1.1 → zI h' i j = zI h i j) (e : zI h' c 3 = nI (r.2.1.1 + 1)) (hf : r.2.1.1 < 14) (w : ∀ i, i < 4 → zI h' (c + 16 + 1 + r.2.1.1) i = nI (v i)) (w4 : zI h' (c + 16 + 1 + r.2.1.1) 4 = 8) (w5 : zI h' (c + 16 + 1 + r.2.1.1) 5 = 0) (m : cRr h c r) : cRr h' c (tellR 3 v r) := by
  obtain ⟨⟨b1, b2, b3, b4⟩, ⟨b5, b6, b7, b8⟩, -⟩ := ok
  obtain ⟨⟨m0, m1, m2, m3, m4, m5⟩, m6, m7, m8, m9⟩ := m
  have p : ∀ i j, iC c i → ¬ (i = c ∧ j = 3) → ¬ i = c + 16 + 1 + r.2.1.1 → ∀ x, zI h i j = x → zI h' i j = x := fun i j a c d x e => (q i j a c d).trans e
  refine ⟨⟨p _ _ (by omega) (by omega) (by omega) _ m0, p _ _ (by omega) (by omega) (by omega) _ m1, p _ _ (by omega) (by omega) (by omega) _ m2, e, p _ _ (by omega) (by omega) (by omega) _ m4, p _ _ (by omega) (by omega) (by omega) _ m5⟩, fun k (hk : k < r.1.2.1) i hi => p _ _ (by omega) (by omega) (by omega) _ (m6 k hk i hi), fun k (hk : k < r.1.2.2) i hi => p _ _ (by omega) (by omega) (by omega) _ (m7 k hk i hi), fun k (hk : k < r.2.1.1 + 1) i hi => ?_, fun k (hk : k < r.2.1.2.1) => p _ _ (by omega) (by omega) (by omega) _ (m9 k hk)⟩
  show _ = nI (if k = r.2.1.1 then (if i < 4 then v i else if i = 4 then 8 else 0) else r.2.2.2.2.1 k i)
  by_cases z : k = r.2.1.1
  · rw [if_pos z, z]
    by_cases y : i < 4
    · rw [if_pos y]; exact w i y
    · rw [if_neg y]
      obtain rfl | rfl : i = 4 ∨ i = 5 := by omega
      · rw [w4]; rfl
      · rw [w5]; rfl
  · rw [if_neg z]; exact p _ _ (by omega) (by omega) (by omega) _ (m8 k (by omega) i hi)
theorem cr45 (ok : rOk cn r) (kd : Nat) (hkd : kd = 4 ∨ kd = 5) (q : ∀ i j, iC c i → ¬ (i = c + 16 + 1 + v 0 ∧ j = kd) → zI h' i j = zI h i j) (h0 : v 0 < r.2.1.1) (e : zI h' (c + 16 + 1 + v 0) kd = nI (v 1)) (m : cRr h c r) : cRr h' c (tellR kd v r) := by
  obtain ⟨⟨b1, b2, b3, b4⟩, ⟨b5, b6, b7, b8⟩, -⟩ := ok
  obtain ⟨⟨m0, m1, m2, m3, m4, m5⟩, m6, m7, m8, m9⟩ := m
  have p : ∀ i j, iC c i → ¬ (i = c + 16 + 1 + v 0 ∧ j = kd) → ∀ x, zI h i j = x → zI h' i j = x := fun i j a c x e => (q i j a c).trans e
  have key : ∀ k, k < r.2.1.1 → ∀ i, i < 6 → zI h' (c + 16 + 1 + k) i = nI (if k = v 0 ∧ i = kd then v 1 else r.2.2.2.2.1 k i) := fun k hk i hi => by
    by_cases z : k = v 0 ∧ i = kd
    · rw [if_pos z, z.1, z.2]; exact e
    · rw [if_neg z]; exact p _ _ (by omega) (by omega) _ (m8 k hk i hi)
  rcases hkd with rfl | rfl
  · exact ⟨⟨p _ _ (by omega) (by omega) _ m0, p _ _ (by omega) (by omega) _ m1, p _ _ (by omega) (by omega) _ m2, p _ _ (by omega) (by omega) _ m3, p _ _ (by omega) (by omega) _ m4, p _ _ (by omega) (by omega) _ m5⟩, fun k (hk : k < r.1.2.1) i hi => p _ _ (by omega) (by omega) _ (m6 k hk i hi), fun k (hk : k < r.1.2.2) i hi => p _ _ (by omega) (by omega) _ (m7 k hk i hi), key, fun k (hk : k < r.2.1.2.1) => p _ _ (by omega) (by omega) _ (m9 k hk)⟩
  · exact ⟨⟨p _ _ (by omega) (by omega) _ m0, p _ _ (by omega) (by omega) _ m1, p _ _ (by omega) (by omega) _ m2, p _ _ (by omega) (by omega) _ m3, p _ _ (by omega) (by omega) _ m4, p _ _ (by omega) (by omega) _ m5⟩, fun k (hk : k < r.1.2.1) i hi => p _ _ (by omega) (by omega) _ (m6 k hk i hi), fun k (hk : k < r.1.2.2) i hi => p _ _ (by omega) (by omega) _ (m7 k hk i hi), key, fun k (hk : k < r.2.1.2.1) => p _ _ (by omega) (by omega) _ (m9 k hk)⟩
theorem cr6 (ok : rOk cn r) (q : ∀ i j, iC c i → ¬ (i = c ∧ j = 4) → ¬ i = c + 31 → zI h' i j = zI h i j) (e1 : (∃ j, j < r.2.1.2.1 ∧ r.2.2.2.2.2 j = v 0) → zI h' c 4 = nI r.2.1.2.1 ∧ ∀ j, j < r.2.1.2.1 → zI h' (c + 31) j = nI (r.2.2.2.2.2 j)) (e2 : ¬ (∃ j, j < r.2.1.2.1 ∧ r.2.2.2.2.2 j = v 0) → zI h' c 4 = nI (r.2.1.2.1 + 1) ∧ ∀ j, j < r.2.1.2.1 + 1 → zI h' (c + 31) j = nI (nUp r.2.2.2.2.2 r.2.1.2.1 (v 0) j)) (m : cRr h c r) : cRr h' c (tellR 6 v r) := by
  obtain ⟨⟨b1, b2, b3, b4⟩, ⟨b5, b6, b7, b8⟩, -⟩ := ok
  obtain ⟨⟨m0, m1, m2, m3, m4, m5⟩, m6, m7, m8, m9⟩ := m
  have p : ∀ i j, iC c i → ¬ (i = c ∧ j = 4) → ¬ i = c + 31 → ∀ x, zI h i j = x → zI h' i j = x := fun i j a c d x e => (q i j a c d).trans e
  show cRr h' c (@ite _ (∃ k, k < r.2.1.2.1 ∧ r.2.2.2.2.2 k = v 0) (Classical.propDecidable _) r (r.1, (r.2.1.1, r.2.1.2.1 + 1, r.2.1.2.2), r.2.2.1, r.2.2.2.1, r.2.2.2.2.1, nUp r.2.2.2.2.2 r.2.1.2.1 (v 0)))
  by_cases z : ∃ k, k < r.2.1.2.1 ∧ r.2.2.2.2.2 k = v 0
  · rw [if_pos z]
    exact ⟨⟨p _ _ (by omega) (by omega) (by omega) _ m0, p _ _ (by omega) (by omega) (by omega) _ m1, p _ _ (by omega) (by omega) (by omega) _ m2, p _ _ (by omega) (by omega) (by omega) _ m3, (e1 z).1, p _ _ (by omega) (by omega) (by omega) _ m5⟩, fun k hk i hi => p _ _ (by omega) (by omega) (by omega) _ (m6 k hk i hi), fun k hk i hi => p _ _ (by omega) (by omega) (by omega) _ (m7 k hk i hi), fun k hk i hi => p _ _ (by omega) (by omega) (by omega) _ (m8 k hk i hi), (e1 z).2⟩
  · rw [if_neg z]
    exact ⟨⟨p _ _ (by omega) (by omega) (by omega) _ m0, p _ _ (by omega) (by omega) (by omega) _ m1, p _ _ (by omega) (by omega) (by omega) _ m2, p _ _ (by omega) (by omega) (by omega) _ m3, (e2 z).1, p _ _ (by omega) (by omega) (by omega) _ m5⟩, fun k (hk : k < r.1.2.1) i hi => p _ _ (by omega) (by omega) (by omega) _ (m6 k hk i hi), fun k (hk : k < r.1.2.2) i hi => p _ _ (by omega) (by omega) (by omega) _ (m7 k hk i hi), fun k (hk : k < r.2.1.1) i hi => p _ _ (by omega) (by omega) (by omega) _ (m8 k hk i hi), (e2 z).2⟩
theorem cr7 (ok : rOk cn r) (q : ∀ i j, iC c i → ¬ (i = c ∧ j = 5) → zI h' i j = zI h i j) (e : zI h' c 5 = nI (v 0)) (m : cRr h c r) : cRr h' c (tellR 7 v r) := by
  obtain ⟨⟨b1, b2, b3, b4⟩, ⟨b5, b6, b7, b8⟩, -⟩ := ok
  obtain ⟨⟨m0, m1, m2, m3, m4, m5⟩, m6, m7, m8, m9⟩ := m
  have p : ∀ i j, iC c i → ¬ (i = c ∧ j = 5) → ∀ x, zI h i j = x → zI h' i j = x := fun i j a c x e => (q i j a c).trans e
  exact ⟨⟨p _ _ (by omega) (by omega) _ m0, p _ _ (by omega) (by omega) _ m1, p _ _ (by omega) (by omega) _ m2, p _ _ (by omega) (by omega) _ m3, p _ _ (by omega) (by omega) _ m4, e⟩, fun k (hk : k < r.1.2.1) i hi => p _ _ (by omega) (by omega) _ (m6 k hk i hi), fun k (hk : k < r.1.2.2) i hi => p _ _ (by omega) (by omega) _ (m7 k hk i hi), fun k (hk : k < r.2.1.1) i hi => p _ _ (by omega) (by omega) _ (m8 k hk i hi), fun k (hk : k < r.2.1.2.1) => p _ _ (by omega) (by omega) _ (m9 k hk)⟩
end CRR
section CTE
variable {E : zE} {b : Nat} {G : zG} {t : zT} {h : zH} {l : Launch} {a c e : Nat} {r : yR} {v : Nat → Nat}
theorem tX_c2 (hX : zTX t a c e) : c = 2 ∨ c = 36 := by rcases hX.2.2.2.1 with ⟨-, z⟩ | ⟨-, z⟩ <;> omega
theorem c3_tellRoad (hX : zTX t a c e) (w : Nat) (hw : w < 14) (hv : ∀ j, j < 5 → zI h 35 j = nI (v j)) : zMet E b l yX3_tellRoad cX3_tellRoad 3 none 1 0 0 [.ref (b + 1), .int (nI w)] t h (qV (fun t' h' => t' = t ∧ (∀ i j, ¬ i = c + 1 + 1 + w → zI h' i j = zI h i j) ∧ (∀ i j, zL h' i j = zL h i j) ∧ ∀ i, i < 5 → zI h' (c + 1 + 1 + w) i = nI (v i))) := by
  have hcc := tX_c2 hX
  refine zMet.of (ls := [some (.ref (b + 1)), some (.int (nI w)), none]) (by decide) (zle rfl) 1 rfl ?_
  intro G hlG C hR hE hin
  have lp : ∀ k, k ≤ 5 → ∀ hc, (∀ i j, ¬ i = c + 1 + 1 + w → zI hc i j = zI h i j) → (∀ i j, zL hc i j = zL h i j) → (∀ i, i < k → zI hc (c + 1 + 1 + w) i = nI (v i)) → zAW E b G 3 0 0 2 [some (.ref (b + 1)), some (.int (nI w)), some (.int (nI k))] [] t hc := by
    refine zLoop 5 fun k hk ih hc q1 q2 q3 => ?_
    have ev : k < 5 → zI hc 35 k = nI (v k) := fun z => (q1 _ _ (by omega)).trans (hv k z)
    refine zz_iload_2 C dX3_tellRoad_2 <| zz_iconst_5 C dX3_tellRoad_3 <| zpc 4 rfl <| ?_
    refine zz_icmp_ge C 30 dX3_tellRoad_4 (by decide) (fun c4 => ?_) (fun c4 => ?_)
    · rw [show (5 : Int32) = nI 5 from rfl, nI_leI (by omega) (by omega)] at c4
      refine zy_return C hE (zle rfl) (zle rfl) dX3_tellRoad_30 ?_
      exact ⟨rfl, q1, q2, fun i hi => q3 i (by omega)⟩
    · rw [show (5 : Int32) = nI 5 from rfl, nI_leI (by omega) (by omega)] at c4
      refine zz_aload_0 C dX3_tellRoad_7 <| zz_getR C fX3_24 (tX_K_reader hX) (tX_R_into hX) dX3_tellRoad_8 <| zz_getR C fX3_169 (tL_K (tX_Lc hX)) (tL_R_roadFacts (tX_Lc hX)) dX3_tellRoad_11 <| zz_iload_1 C dX3_tellRoad_14 <| zc_row C _ (tL_K_roadFacts (tX_Lc hX)) (tL_row_roadFacts (tX_Lc hX)) (znI (by omega)) (by omega) dX3_tellRoad_15 <| fun r15 => ?_
      refine zz_iload_2 C dX3_tellRoad_16 <| zz_aload_0 C dX3_tellRoad_17 <| zz_getR C fX3_32 (tX_K_reader hX) (tX_R_numbers hX) dX3_tellRoad_18 <| zz_iload_2 C dX3_tellRoad_21 <| zc_iaload C _ (tX_K_numbers hX) (znI (by omega)) (by omega) dX3_tellRoad_22 <| zpc 23 rfl <| ?_
      rw [ev (by omega)]
      refine zc_iastore C _ (tL_KR_roadFacts (tX_Lc hX) _ r15) (znI (by omega)) (by omega) dX3_tellRoad_23 <| zz_iinc_2 C _ (zle rfl) rfl dX3_tellRoad_24 nI_s <| zz_goto C 2 dX3_tellRoad_27 (by decide) <| zpc 2 rfl <| ?_
      refine ih (by omega) _ (fun i j z => ?_) q2 (fun i hi => ?_)
      · rw [zI_sI, if_neg (by omega)]; exact q1 i j z
      · rw [zI_sI]
        by_cases z : i = k
        · rw [if_pos ⟨rfl, z⟩, z]
        · rw [if_neg (by omega)]; exact q3 i (by omega)
  refine zz_iconst_0 C dX3_tellRoad_0 <| zz_istore_2 C (zle rfl) rfl dX3_tellRoad_1 <| zpc 2 rfl <| ?_
  exact lp 0 (by omega) h (fun _ _ _ => rfl) (fun _ _ => rfl) (fun i hi => absurd hi (by omega))
theorem c3_tellGoing (hX : zTX t a c e) (w : Nat) (hw : w < 14) (hv : ∀ j, j < 4 → zI h 35 j = nI (v j)) : zMet E b l yX3_tellGoing cX3_tellGoing 4 none 1 0 0 [.ref (b + 1), .int (nI w)] t h (qV (fun t' h' => t' = t ∧ (∀ i j, ¬ i = c + 16 + 1 + w → zI h' i j = zI h i j) ∧ (∀ i j, zL h' i j = zL h i j) ∧ (∀ i, i < 4 → zI h' (c + 16 + 1 + w) i = nI (v i)) ∧ zI h' (c + 16 + 1 + w) 4 = 8 ∧ zI h' (c + 16 + 1 + w) 5 = 0)) := by
  have hcc := tX_c2 hX
  have hK := tL_KR_goingFacts (tX_Lc hX) w hw
  refine zMet.of (ls := [some (.ref (b + 1)), some (.int (nI w)), none, none]) (by decide) (zle rfl) 2 rfl ?_
  intro G hlG C hR hE hin
  have lp : ∀ k, k ≤ 4 → ∀ hc, (∀ i j, ¬ i = c + 16 + 1 + w → zI hc i j = zI h i j) → (∀ i j, zL hc i j = zL h i j) → (∀ i, i < k → zI hc (c + 16 + 1 + w) i = nI (v i)) → zAW E b G 4 0 0 12 [some (.ref (b + 1)), some (.int (nI w)), some (.ref (b + ((c + 16 + 1 + w)))), some (.int (nI k))] [] t hc := by
    refine zLoop 4 fun k hk ih hc q1 q2 q3 => ?_
    have ev : k < 4 → zI hc 35 k = nI (v k) := fun z => (q1 _ _ (by omega)).trans (hv k z)
    refine zz_iload_3 C dX3_tellGoing_12 <| zz_gets C (by decide) sX3_70 wX3_70 dX3_tellGoing_13 <| fun sa13 ta13 => ?_
    refine zz_iconst_3 C dX3_tellGoing_16 <| zc_tald C 3 ta13 (zlit _ (by decide)) (by decide) dX3_tellGoing_17 <| zpc 18 rfl <| ?_
    rw [show ([1, 5, 5, 4, 2, 2, 1, 1] : List Nat).getD 3 0 = 4 from rfl]
    refine zz_icmp_ge C 36 dX3_tellGoing_18 (by decide) (fun c18 => ?_) (fun c18 => ?_)
    · rw [nI_leI (by omega) (by omega)] at c18
      refine zz_aload_2 C dX3_tellGoing_36 <| zz_iconst_4 C dX3_tellGoing_37 <| zz_bipush C 8 dX3_tellGoing_38 (by decide) <| zc_iastore C 4 hK (zlit _ (by decide)) (by decide) dX3_tellGoing_40 <| zz_aload_2 C dX3_tellGoing_41 <| zz_iconst_5 C dX3_tellGoing_42 <| zz_iconst_0 C dX3_tellGoing_43 <| zc_iastore C 5 hK (zlit _ (by decide)) (by decide) dX3_tellGoing_44 <| zpc 45 rfl <| ?_
      refine zy_return C hE (zle rfl) (zle rfl) dX3_tellGoing_45 ?_
      refine ⟨rfl, fun i j z => ?_, q2, fun i hi => ?_, ?_, zI_self _ _ _ _⟩
      · rw [zI_sI, if_neg (by omega), zI_sI, if_neg (by omega)]; exact q1 i j z
      · rw [zI_sI, if_neg (by omega), zI_sI, if_neg (by omega)]; exact q3 i (by omega)
      · rw [zI_sI, if_neg (by omega)]; exact zI_self _ _ _ _
    · rw [nI_leI (by omega) (by omega)] at c18
      refine zz_aload_2 C dX3_tellGoing_21 <| zz_iload_3 C dX3_tellGoing_22 <| zz_aload_0 C dX3_tellGoing_23 <| zz_getR C fX3_32 (tX_K_reader hX) (tX_R_numbers hX) dX3_tellGoing_24 <| zz_iload_3 C dX3_tellGoing_27 <| zc_iaload C _ (tX_K_numbers hX) (znI (by omega)) (by omega) dX3_tellGoing_28 <| zpc 29 rfl <| ?_
      rw [ev (by omega)]
      refine zc_iastore C _ hK (znI (by omega)) (by omega) dX3_tellGoing_29 <| zz_iinc_3 C _ (zle rfl) rfl dX3_tellGoing_30 nI_s <| zz_goto C 12 dX3_tellGoing_33 (by decide) <| zpc 12 rfl <| ?_
      refine ih (by omega) _ (fun i j z => ?_) q2 (fun i hi => ?_)
      · rw [zI_sI, if_neg (by omega)]; exact q1 i j z
      · rw [zI_sI]
        by_cases z : i = k
        · rw [if_pos ⟨rfl, z⟩, z]
        · rw [if_neg (by omega)]; exact q3 i (by omega)
  refine zz_aload_0 C dX3_tellGoing_0 <| zz_getR C fX3_24 (tX_K_reader hX) (tX_R_into hX) dX3_tellGoing_1 <| zz_getR C fX3_159 (tL_K (tX_Lc hX)) (tL_R_goingFacts (tX_Lc hX)) dX3_tellGoing_4 <| zz_iload_1 C dX3_tellGoing_7 <| zc_row C _ (tL_K_goingFacts (tX_Lc hX)) (tL_row_goingFacts (tX_Lc hX)) (znI (by omega)) (by omega) dX3_tellGoing_8 <| fun r8 => ?_
  refine zz_astore_2 C (zle rfl) rfl dX3_tellGoing_9 <| zz_iconst_0 C dX3_tellGoing_10 <| zz_istore_3 C (zle rfl) rfl dX3_tellGoing_11 <| zpc 12 rfl <| ?_
  exact lp 0 (by omega) h (fun _ _ _ => rfl) (fun _ _ => rfl) (fun i hi => absurd hi (by omega))
theorem c1_wet9 {i nw : Nat} {Wt : Nat → Nat} (hL : zTL t i) (hnw : nw ≤ 8) (h4 : zI h i 4 = nI nw) (hw : ∀ k, k < nw → zI h (i + 31) k = nI (Wt k) ∧ Wt k < 1000) (d : Nat) (hd : d < 2 ^ 31) (f : Int32) (hf1 : (∃ k, k < nw ∧ Wt k = d) → f = 1) (hf0 : ¬ (∃ k, k < nw ∧ Wt k = d) → f = 0) : zMet E b l yX1_isWet cX1_isWet 3 (some .boolean) 1 0 0 [.ref (b + i), .int (nI d)] t h (qIf f t h) := by
  refine zMet.of (ls := [some (.ref (b + i)), some (.int (nI d)), none]) (by decide) (zle rfl) 1 rfl ?_
  intro G hlG C hR hE hin
  have lp : ∀ k, k ≤ nw → (∀ j, j < k → ¬ Wt j = d) → zAW E b G 3 0 0 2 [some (.ref (b + i)), some (.int (nI d)), some (.int (nI k))] [] t h := by
    refine zLoop nw fun k hk ih no => ?_
    have hwk : k < nw → _ := hw k
    refine zz_iload_2 C dX1_isWet_2 <| zz_aload_0 C dX1_isWet_3 <| zz_getI C fX1_39 (tL_K hL) dX1_isWet_4 <| zpc 7 rfl <| ?_
    rw [h4]
    refine zz_icmp_ge C 28 dX1_isWet_7 (by decide) (fun c7 => ?_) (fun c7 => ?_)
    · rw [nI_leI (by omega) (by omega)] at c7
      refine zz_iconst_0 C dX1_isWet_28 <| zpc 29 rfl <| ?_
      exact zf_zreturn C hE (zle rfl) (zle rfl) dX1_isWet_29 (by decide) (by exact (hf0 (fun ⟨j, hj, e9⟩ => no j (by omega) e9)).symm) rfl rfl
    · rw [nI_leI (by omega) (by omega)] at c7
      refine zz_aload_0 C dX1_isWet_10 <| zz_getR C fX1_19 (tL_K hL) (tL_R_wetDays hL) dX1_isWet_11 <| zz_iload_2 C dX1_isWet_14 <| zc_iaload C _ (tL_K_wetDays hL) (znI (by omega)) (by omega) dX1_isWet_15 <| zpc 16 rfl <| ?_
      rw [(hwk (by omega)).1]
      refine zz_iload_1 C dX1_isWet_16 <| zpc 17 rfl <| ?_
      refine zz_icmp_ne C 22 dX1_isWet_17 (by decide) (fun c17 => ?_) (fun c17 => ?_)
      · rw [nI_eq (by have := (hwk (by omega)).2; omega) hd] at c17
        refine zz_iinc_2 C _ (zle rfl) rfl dX1_isWet_22 nI_s <| zz_goto C 2 dX1_isWet_25 (by decide) <| zpc 2 rfl <| ?_
        refine ih (by omega) (fun j hj => ?_)
        by_cases z : j = k
        · rw [z]; exact c17
        · exact no j (by omega)
      · rw [nI_eq (by have := (hwk (by omega)).2; omega) hd] at c17
        refine zz_iconst_1 C dX1_isWet_20 <| zpc 21 rfl <| ?_
        exact zf_zreturn C hE (zle rfl) (zle rfl) dX1_isWet_21 (by decide) (by exact (hf1 ⟨k, by omega, c17⟩).symm) rfl rfl
  refine zz_iconst_0 C dX1_isWet_0 <| zz_istore_2 C (zle rfl) rfl dX1_isWet_1 <| zpc 2 rfl <| ?_
  exact lp 0 (by omega) (fun j hj => absurd hj (by omega))
theorem c3_tellWet (hX : zTX t a c e) {nw : Nat} {Wt : Nat → Nat} (hnw : nw < 8) (h4 : zI h c 4 = nI nw) (hw : ∀ k, k < nw → zI h (c + 31) k = nI (Wt k) ∧ Wt k < 1000) (d : Nat) (hd : d < 2 ^ 31) : zMet E b l yX3_tellWet cX3_tellWet 2 none 2 0 0 [.ref (b + 1), .int (nI d)] t h (qV (fun t' h' => t' = t ∧ (∀ i j, ¬ (i = c ∧ j = 4) → ¬ i = c + 31 → zI h' i j = zI h i j) ∧ (∀ i j, zL h' i j = zL h i j) ∧ ((∃ j, j < nw ∧ Wt j = d) → zI h' c 4 = nI nw ∧ ∀ j, j < nw → zI h' (c + 31) j = nI (Wt j)) ∧ (¬ (∃ j, j < nw ∧ Wt j = d) → zI h' c 4 = nI (nw + 1) ∧ ∀ j, j < nw + 1 → zI h' (c + 31) j = nI (nUp Wt nw d j)))) := by
  have hcc := tX_c2 hX
  by_cases ex : ∃ j, j < nw ∧ Wt j = d
  ·
    refine zMet.of (ls := [some (.ref (b + 1)), some (.int (nI d))]) (by decide) (zle rfl) 0 rfl ?_
    intro G hlG C hR hE hin
    refine zz_aload_0 C dX3_tellWet_0 <| zz_getR C fX3_24 (tX_K_reader hX) (tX_R_into hX) dX3_tellWet_1 <| zz_iload_1 C dX3_tellWet_4 <| zpc 5 rfl <| ?_
    refine zf_callVI C hR [_] (c1_wet9 (tX_Lc hX) (by omega) h4 hw d hd 1 (fun _ => rfl) (fun z => absurd ex z)) lX3_172 rfl (tL_K (tX_Lc hX)) (by decide) rfl ⟨zle rfl, zle rfl, zle rfl, zle rfl⟩ (zle rfl) dX3_tellWet_5 ?_
    refine zz_if_ne C 40 dX3_tellWet_8 (by decide) (fun c8 => ?_) (fun c8 => ?_)
    · refine zy_return C hE (zle rfl) (zle rfl) dX3_tellWet_40 ?_
      exact ⟨rfl, fun _ _ _ _ => rfl, fun _ _ => rfl, fun _ => ⟨h4, fun j hj => (hw j hj).1⟩, fun z => absurd ex z⟩
    · exact absurd c8 (by decide)
  ·
    refine zMet.of (ls := [some (.ref (b + 1)), some (.int (nI d))]) (by decide) (zle rfl) 0 rfl ?_
    intro G hlG C hR hE hin
    refine zz_aload_0 C dX3_tellWet_0 <| zz_getR C fX3_24 (tX_K_reader hX) (tX_R_into hX) dX3_tellWet_1 <| zz_iload_1 C dX3_tellWet_4 <| zpc 5 rfl <| ?_
    refine zf_callVI C hR [_] (c1_wet9 (tX_Lc hX) (by omega) h4 hw d hd 0 (fun z => absurd z ex) (fun _ => rfl)) lX3_172 rfl (tL_K (tX_Lc hX)) (by decide) rfl ⟨zle rfl, zle rfl, zle rfl, zle rfl⟩ (zle rfl) dX3_tellWet_5 ?_
    refine zz_if_ne C 40 dX3_tellWet_8 (by decide) (fun c8 => ?_) (fun c8 => ?_)
    · exact absurd rfl c8
    · refine zz_aload_0 C dX3_tellWet_11 <| zz_getR C fX3_24 (tX_K_reader hX) (tX_R_into hX) dX3_tellWet_12 <| zz_getR C fX3_175 (tL_K (tX_Lc hX)) (tL_R_wetDays (tX_Lc hX)) dX3_tellWet_15 <| zz_aload_0 C dX3_tellWet_18 <| zz_getR C fX3_24 (tX_K_reader hX) (tX_R_into hX) dX3_tellWet_19 <| zz_getI C fX3_125 (tL_K (tX_Lc hX)) dX3_tellWet_22 <| zpc 25 rfl <| ?_
      rw [h4]
      refine zz_iload_1 C dX3_tellWet_25 <| zc_iastore C _ (tL_K_wetDays (tX_Lc hX)) (znI (by omega)) (by omega) dX3_tellWet_26 <| zz_aload_0 C dX3_tellWet_27 <| zz_getR C fX3_24 (tX_K_reader hX) (tX_R_into hX) dX3_tellWet_28 <| zz_dup C dX3_tellWet_31 rfl <| zz_getI C fX3_125 (tL_K (tX_Lc hX)) dX3_tellWet_32 <| zpc 35 rfl <| ?_
      rw [zI_sI, if_neg (by omega), h4]
      refine zz_iconst_1 C dX3_tellWet_35 <| zz_iadd C dX3_tellWet_36 <| zpc 37 rfl <| ?_
      rw [show (1 : Int32) = nI 1 from rfl, nI_add]
      refine zy_putI C fX3_125 pX1_4 (tL_K (tX_Lc hX)) dX3_tellWet_37 <| zpc 40 rfl <| ?_
      refine zy_return C hE (zle rfl) (zle rfl) dX3_tellWet_40 ?_
      refine ⟨rfl, fun i j z y => ?_, fun _ _ => rfl, fun z => absurd z ex, fun _ => ⟨zI_self _ _ _ _, fun j hj => ?_⟩⟩
      · rw [zI_sI, if_neg (by omega), zI_sI, if_neg (by omega)]
      · rw [zI_sI, if_neg (by omega), zI_sI]
        unfold nUp
        by_cases z : j = nw
        · rw [if_pos ⟨rfl, z⟩, if_pos z]
        · rw [if_neg (by omega), if_neg z]; exact (hw j (by omega)).1
end CTE
