/-! ===== what is made: one cell more ===== -/
/-- one cell more, of kind k and size n -/
def zNw (t : zT) (k n : Nat) : zT := ((t.1.1 + 1, t.1.2), (fun i => if i = t.1.1 then (k, n) else t.2.1 i), fun i q => if i = t.1.1 then none else t.2.2 i q)
/-- its contents are 0 -/
def zNh (t : zT) (h : zH) : zH := (fun i q => if i = t.1.1 then 0 else h.1 i q, fun i q => if i = t.1.1 then 0 else h.2 i q)
theorem zK_nw (t : zT) (k n i : Nat) : zK (zNw t k n) i = if i = t.1.1 then (k, n) else zK t i := rfl
theorem zR_nw (t : zT) (k n i q : Nat) : zR (zNw t k n) i q = if i = t.1.1 then none else zR t i q := rfl
theorem zI_nh (t : zT) (h : zH) (i q : Nat) : zI (zNh t h) i q = if i = t.1.1 then 0 else zI h i q := rfl
theorem zL_nh (t : zT) (h : zH) (i q : Nat) : zL (zNh t h) i q = if i = t.1.1 then 0 else zL h i q := rfl
theorem zEnt_nw {E : zE} {b : Nat} {t : zT} {h : zH} {k n i : Nat} (hi : i ≠ t.1.1) : zEnt E b (zNw t k n) (zNh t h) i = zEnt E b t h i := by
  have hK : zK (zNw t k n) i = zK t i := by rw [zK_nw, if_neg hi]
  have hI : ∀ q, zI (zNh t h) i q = zI h i q := fun q => by rw [zI_nh, if_neg hi]
  have hL : ∀ q, zL (zNh t h) i q = zL h i q := fun q => by rw [zL_nh, if_neg hi]
  have hR : ∀ q, zR (zNw t k n) i q = zR t i q := fun q => by rw [zR_nw, if_neg hi]
  have hF : ∀ q ty, zFv b (zNw t k n) (zNh t h) i q ty = zFv b t h i q ty := fun q ty => by
    unfold zFv
    split <;> first | rw [hL] | rw [hR] | rw [hI]
  unfold zEnt zFs
  simp only [hI, hL, hR, hF, hK]
theorem zAd_nw {b : Nat} {t : zT} {k n : Nat} (hk : k < 16) : zAd b (zNw t k n) = zAd b t ++ [b + t.1.1] := by
  unfold zAd
  show ((List.range (t.1.1 + 1)).filter _).map _ = _
  rw [List.range_succ, List.filter_append, List.map_append]
  congr 1
  · congr 1
    apply List.filter_congr
    intro i hi
    have := List.mem_range.mp hi
    rw [zK_nw, if_neg (by omega)]
  · have : decide ((zK (zNw t k n) t.1.1).1 < 16) = true := by rw [zK_nw, if_pos rfl]; exact decide_eq_true hk
    simp [List.filter_cons, this]
theorem zHp.nw {E : zE} {b : Nat} {t : zT} {h : zH} {H H1 : Heap} {k n : Nat} (hH : zHp E b t h H) (hx : t.1.2 = true) (hk : k < 16) (e1 : va_at E.1 vwCl (b + t.1.1, zEnt E b (zNw t k n) (zNh t h) t.1.1) H1) (z1 : H1.size = H.size + 1) (o1 : ∀ q, q < H.size → H1[q]? = H[q]?) : zHp E b (zNw t k n) (zNh t h) H1 := by
  obtain ⟨⟨h1, h2⟩, h3, h4⟩ := hH
  have hs := h2 hx
  refine ⟨⟨by show b + (t.1.1 + 1) ≤ _; omega, fun _ => by show _ = b + (t.1.1 + 1); omega⟩, fun i hi => ?_, ?_⟩
  · show i < t.1.1 + 1
    by_cases z : i = t.1.1
    · omega
    · rw [zK_nw, if_neg z] at hi
      have := h3 i hi
      omega
  · have e2 : zWd E b (zNw t k n) (zNh t h) = zWd E b t h ++ [(b + t.1.1, zEnt E b (zNw t k n) (zNh t h) t.1.1)] := by
      unfold zWd va_pl
      rw [zAd_nw hk, List.map_append]
      congr 1
      · apply List.map_congr_left
        intro a ha
        obtain ⟨i, hi, rfl⟩ := List.mem_map.mp ha
        have := List.mem_range.mp (List.mem_filter.mp hi).1
        rw [zEf_at, zEf_at, zEnt_nw (by omega)]
      · show [(b + t.1.1, zEf E b (zNw t k n) (zNh t h) (b + t.1.1))] = _
        rw [zEf_at]
    rw [e2]
    refine va_P.app (h4.kept (fun k9 x hx9 => o1 x.1 ((h4 k9 x hx9).lt))) (fun k9 x hx9 => ?_)
    have h0 : k9 < 1 := (List.getElem?_eq_some_iff.mp hx9).1
    rw [show k9 = 0 by omega] at hx9
    cases hx9
    exact e1
