/-! ===== the reference: images, counts ===== -/
/-- what an image keeps, place by place -/
def imgOf (h : zH) (j : Nat) : Int32 := if j = 0 then zI h 157 19 else if j = 1 then zI h 157 20 else if j < 22 then (if j % 2 = 0 then zI h 226 (j / 2 - 1) else zI h 227 (j / 2 - 1)) else zI h 228 (j - 22)
section MIM
variable {E : zE} {b : Nat} {G : zG} {t : zT} {h : zH} {l : Launch} {D : yD} {Mo : Nat × (Nat → Nat → Nat)} {R : Nat × (Nat → Nat)}
theorem c_moves0 (hT : zTM t) (k s : Nat) (hk : k < 3) (hs : s < 60) (v : Int32) (e0 : zI h 157 22 = nI s) : zMet E b l yX11_moves cX11_moves 4 (some .int) 1 0 0 [.ref (b + 157), .ref (b + ((229 + 1 + k))), .int v, .int 0] t h (qIf v t (zsI (zsI h (229 + 1 + k) s v) 157 22 (nI (s + 1)))) := by
  have hK := tM_KR_kept hT k hk
  have e1 : zI (zsI h (229 + 1 + k) s v) 157 22 = nI s := by rw [zI_sI, if_neg (by omega)]; exact e0
  refine zMet.of (ls := [some (.ref (b + 157)), some (.ref (b + ((229 + 1 + k)))), some (.int v), some (.int 0)]) (by decide) (zle rfl) 0 rfl ?_
  intro G hlG C hR hE hin
  refine zz_iload_3 C dX11_moves_0 <| zpc 1 rfl <| ?_
  refine zz_if_ne C 11 dX11_moves_1 (by decide) (fun c1 => ?_) (fun c1 => ?_)
  · exact absurd rfl c1
  · refine zz_aload_1 C dX11_moves_4 <| zz_aload_0 C dX11_moves_5 <| zz_getI C fX11_370 (tM_K hT) dX11_moves_6 <| zpc 9 rfl <| ?_
    rw [e0]
    refine zz_iload_2 C dX11_moves_9 <| zc_iastore C _ hK (znI (by omega)) (by omega) dX11_moves_10 <| zz_aload_0 C dX11_moves_11 <| zz_dup C dX11_moves_12 rfl <| zz_getI C fX11_370 (tM_K hT) dX11_moves_13 <| zpc 16 rfl <| ?_
    rw [e1]
    refine zz_iconst_1 C dX11_moves_16 <| zz_iadd C dX11_moves_17 <| zpc 18 rfl <| ?_
    rw [show (1 : Int32) = nI 1 from rfl, nI_add]
    refine zy_putI C fX11_370 pX11_22 (tM_K hT) dX11_moves_18 <| zz_aload_1 C dX11_moves_21 <| zz_aload_0 C dX11_moves_22 <| zz_getI C fX11_370 (tM_K hT) dX11_moves_23 <| zpc 26 rfl <| ?_
    rw [zI_self]
    refine zz_iconst_1 C dX11_moves_26 <| zz_isub C dX11_moves_27 <| zpc 28 rfl <| ?_
    rw [show (1 : Int32) = nI 1 from rfl, pk_sub (by omega), Nat.add_sub_cancel]
    refine zc_iaload C _ hK (znI (by omega)) (by omega) dX11_moves_28 <| zpc 29 rfl <| ?_
    exact zf_ireturn C hE (zle rfl) (zle rfl) dX11_moves_29 (by rw [zI_sI, if_neg (by omega), zI_self]) rfl rfl
theorem c_moves1 (hT : zTM t) (k s : Nat) (hk : k < 3) (hs : s < 60) (v : Int32) (e0 : zI h 157 22 = nI s) : zMet E b l yX11_moves cX11_moves 4 (some .int) 1 0 0 [.ref (b + 157), .ref (b + ((229 + 1 + k))), .int v, .int 1] t h (qIf (zI h (229 + 1 + k) s) t (zsI h 157 22 (nI (s + 1)))) := by
  have hK := tM_KR_kept hT k hk
  refine zMet.of (ls := [some (.ref (b + 157)), some (.ref (b + ((229 + 1 + k)))), some (.int v), some (.int 1)]) (by decide) (zle rfl) 0 rfl ?_
  intro G hlG C hR hE hin
  refine zz_iload_3 C dX11_moves_0 <| zpc 1 rfl <| ?_
  refine zz_if_ne C 11 dX11_moves_1 (by decide) (fun c1 => ?_) (fun c1 => ?_)
  · refine zz_aload_0 C dX11_moves_11 <| zz_dup C dX11_moves_12 rfl <| zz_getI C fX11_370 (tM_K hT) dX11_moves_13 <| zpc 16 rfl <| ?_
    rw [e0]
    refine zz_iconst_1 C dX11_moves_16 <| zz_iadd C dX11_moves_17 <| zpc 18 rfl <| ?_
    rw [show (1 : Int32) = nI 1 from rfl, nI_add]
    refine zy_putI C fX11_370 pX11_22 (tM_K hT) dX11_moves_18 <| zz_aload_1 C dX11_moves_21 <| zz_aload_0 C dX11_moves_22 <| zz_getI C fX11_370 (tM_K hT) dX11_moves_23 <| zpc 26 rfl <| ?_
    rw [zI_self]
    refine zz_iconst_1 C dX11_moves_26 <| zz_isub C dX11_moves_27 <| zpc 28 rfl <| ?_
    rw [show (1 : Int32) = nI 1 from rfl, pk_sub (by omega), Nat.add_sub_cancel]
    refine zc_iaload C _ hK (znI (by omega)) (by omega) dX11_moves_28 <| zpc 29 rfl <| ?_
    exact zf_ireturn C hE (zle rfl) (zle rfl) dX11_moves_29 (by rw [zI_sI, if_neg (by omega)]) rfl rfl
  · exact absurd c1 (by decide)
/-- so far into the image -/
def mI0 (h : zH) (k s : Nat) (hc : zH) : Prop := (∀ i j, ¬ (i = 229 + 1 + k ∨ (i = 157 ∧ j = 22)) → zI hc i j = zI h i j) ∧ (∀ i j, zL hc i j = zL h i j) ∧ zI hc 157 22 = nI s ∧ ∀ j, j < s → zI hc (229 + 1 + k) j = imgOf h j
theorem mI0.step {k s : Nat} {hc : zH} (hk : k < 3) (x : mI0 h k s hc) (i j : Nat) (hi : i = 157 ∧ ¬ j = 22 ∨ i = 226 ∨ i = 227 ∨ i = 228) (v : Int32) (hv : zI hc i j = v) (hw : v = imgOf h s) : mI0 h k (s + 1) (zsI (zsI (zsI hc (229 + 1 + k) s v) 157 22 (nI (s + 1))) i j v) := by
  obtain ⟨x1, x2, x3, x4⟩ := x
  have key : ∀ i' j', ¬ (i' = 157 ∧ j' = 22) → zI (zsI (zsI (zsI hc (229 + 1 + k) s v) 157 22 (nI (s + 1))) i j v) i' j' = zI (zsI hc (229 + 1 + k) s v) i' j' := fun i' j' q => by
    rw [zI_sI]
    by_cases z : i' = i ∧ j' = j
    · rw [if_pos z, z.1, z.2, zI_sI, if_neg (by omega), hv]
    · rw [if_neg z, zI_sI, if_neg q]
  refine ⟨fun i' j' q => ?_, x2, ?_, fun j' hj => ?_⟩
  · rw [key _ _ (by omega), zI_sI, if_neg (by omega)]; exact x1 i' j' q
  · rw [zI_sI, if_neg (by omega), zI_self]
  · rw [key _ _ (by omega), zI_sI]
    by_cases z : j' = s
    · rw [if_pos ⟨rfl, z⟩, hw, z]
    · rw [if_neg (by omega)]; exact x4 j' (by omega)
theorem c_movesAll0 (hT : zTM t) (k : Nat) (hk : k < 3) : zMet E b l yX11_movesAll cX11_movesAll 4 none 2 0 0 [.ref (b + 157), .ref (b + ((229 + 1 + k))), .int 0] t h (qV (fun t' h' => t' = t ∧ mI0 h k 52 h')) := by
  have hK := tM_KR_kept hT k hk
  refine zMet.of (ls := [some (.ref (b + 157)), some (.ref (b + ((229 + 1 + k)))), some (.int 0), none]) (by decide) (zle rfl) 1 rfl ?_
  intro G hlG C hR hE hin
  have l2 : ∀ j, j ≤ 30 → ∀ hc : zH, mI0 h k (22 + j) hc → zAW E b G 4 0 0 85 [some (.ref (b + 157)), some (.ref (b + ((229 + 1 + k)))), some (.int 0), some (.int (nI j))] [] t hc := by
    refine zLoop 30 fun j hj ih hc x => ?_
    have e1 : zI hc 228 j = imgOf h (22 + j) := by
      rw [x.1 _ _ (by omega)]
      unfold imgOf
      rw [if_neg (by omega), if_neg (by omega), if_neg (by omega), Nat.add_sub_cancel_left]
    refine zz_iload_3 C dX11_movesAll_85 <| zz_bipush C 30 dX11_movesAll_86 (by decide) <| zpc 88 rfl <| ?_
    refine zz_icmp_ge C 115 dX11_movesAll_88 (by decide) (fun c88 => ?_) (fun c88 => ?_)
    · rw [show (30 : Int32) = nI 30 from rfl, nI_leI (by omega) (by omega)] at c88
      refine zy_return C hE (zle rfl) (zle rfl) dX11_movesAll_115 ?_
      rw [show j = 30 by omega] at x; exact ⟨rfl, x⟩
    · rw [show (30 : Int32) = nI 30 from rfl, nI_leI (by omega) (by omega)] at c88
      refine zz_aload_0 C dX11_movesAll_91 <| zz_getR C fX11_55 (tM_K hT) (tM_R_row hT) dX11_movesAll_92 <| zz_iload_3 C dX11_movesAll_95 <| zz_aload_0 C dX11_movesAll_96 <| zz_aload_1 C dX11_movesAll_97 <| zz_aload_0 C dX11_movesAll_98 <| zz_getR C fX11_55 (tM_K hT) (tM_R_row hT) dX11_movesAll_99 <| zz_iload_3 C dX11_movesAll_102 <| zc_iaload C _ (tM_K_row hT) (znI (by omega)) (by omega) dX11_movesAll_103 <| zz_iload_2 C dX11_movesAll_104 <| zpc 105 rfl <| ?_
      refine zf_callVI C hR [_, _, _] (c_moves0 hT k (22 + j) hk (by omega) _ x.2.2.1) lX11_373 rfl (tM_K hT) (by decide) rfl ⟨zle rfl, zle rfl, zle rfl, zle rfl⟩ (zle rfl) dX11_movesAll_105 ?_
      refine zc_iastore C _ (tM_K_row hT) (znI (by omega)) (by omega) dX11_movesAll_108 <| zz_iinc_3 C _ (zle rfl) rfl dX11_movesAll_109 nI_s <| zz_goto C 85 dX11_movesAll_112 (by decide) <| zpc 85 rfl <| ?_
      exact ih (by omega) _ (x.step hk 228 j (Or.inr (Or.inr (Or.inr rfl))) _ rfl e1)
  have l1 : ∀ j, j ≤ 10 → ∀ hc : zH, mI0 h k (2 + 2 * j) hc → zAW E b G 4 0 0 35 [some (.ref (b + 157)), some (.ref (b + ((229 + 1 + k)))), some (.int 0), some (.int (nI j))] [] t hc := by
    refine zLoop 10 fun j hj ih hc x => ?_
    have e1 : j < 10 → zI hc 226 j = imgOf h (2 + 2 * j) := fun z => by
      rw [x.1 _ _ (by omega)]
      unfold imgOf
      rw [if_neg (by omega), if_neg (by omega), if_pos (by omega), if_pos (by omega), show (2 + 2 * j) / 2 - 1 = j by omega]
    have e2 : j < 10 → ∀ h2, mI0 h k (2 + 2 * j + 1) h2 → zI h2 227 j = imgOf h (2 + 2 * j + 1) := fun z h2 y => by
      rw [y.1 _ _ (by omega)]
      unfold imgOf
      rw [if_neg (by omega), if_neg (by omega), if_pos (by omega), if_neg (by omega), show (2 + 2 * j + 1) / 2 - 1 = j by omega]
    refine zz_iload_3 C dX11_movesAll_35 <| zz_bipush C 10 dX11_movesAll_36 (by decide) <| zpc 38 rfl <| ?_
    refine zz_icmp_ge C 83 dX11_movesAll_38 (by decide) (fun c38 => ?_) (fun c38 => ?_)
    · rw [show (10 : Int32) = nI 10 from rfl, nI_leI (by omega) (by omega)] at c38
      refine zz_iconst_0 C dX11_movesAll_83 <| zz_istore_3 C (zle rfl) rfl dX11_movesAll_84 <| zpc 85 rfl <| ?_
      refine l2 0 (by omega) _ ?_; rw [show j = 10 by omega] at x; exact x
    · rw [show (10 : Int32) = nI 10 from rfl, nI_leI (by omega) (by omega)] at c38
      refine zz_aload_0 C dX11_movesAll_41 <| zz_getR C fX11_49 (tM_K hT) (tM_R_wear hT) dX11_movesAll_42 <| zz_iload_3 C dX11_movesAll_45 <| zz_aload_0 C dX11_movesAll_46 <| zz_aload_1 C dX11_movesAll_47 <| zz_aload_0 C dX11_movesAll_48 <| zz_getR C fX11_49 (tM_K hT) (tM_R_wear hT) dX11_movesAll_49 <| zz_iload_3 C dX11_movesAll_52 <| zc_iaload C _ (tM_K_wear hT) (znI (by omega)) (by omega) dX11_movesAll_53 <| zz_iload_2 C dX11_movesAll_54 <| zpc 55 rfl <| ?_
      refine zf_callVI C hR [_, _, _] (c_moves0 hT k (2 + 2 * j) hk (by omega) _ x.2.2.1) lX11_373 rfl (tM_K hT) (by decide) rfl ⟨zle rfl, zle rfl, zle rfl, zle rfl⟩ (zle rfl) dX11_movesAll_55 ?_
      refine zc_iastore C _ (tM_K_wear hT) (znI (by omega)) (by omega) dX11_movesAll_58 <| zpc 59 rfl <| ?_
      have y := x.step hk 226 j (Or.inr (Or.inl rfl)) _ rfl (e1 (by omega))
      refine zz_aload_0 C dX11_movesAll_59 <| zz_getR C fX11_52 (tM_K hT) (tM_R_rested hT) dX11_movesAll_60 <| zz_iload_3 C dX11_movesAll_63 <| zz_aload_0 C dX11_movesAll_64 <| zz_aload_1 C dX11_movesAll_65 <| zz_aload_0 C dX11_movesAll_66 <| zz_getR C fX11_52 (tM_K hT) (tM_R_rested hT) dX11_movesAll_67 <| zz_iload_3 C dX11_movesAll_70 <| zc_iaload C _ (tM_K_rested hT) (znI (by omega)) (by omega) dX11_movesAll_71 <| zz_iload_2 C dX11_movesAll_72 <| zpc 73 rfl <| ?_
      refine zf_callVI C hR [_, _, _] (c_moves0 hT k (2 + 2 * j + 1) hk (by omega) _ y.2.2.1) lX11_373 rfl (tM_K hT) (by decide) rfl ⟨zle rfl, zle rfl, zle rfl, zle rfl⟩ (zle rfl) dX11_movesAll_73 ?_
      refine zc_iastore C _ (tM_K_rested hT) (znI (by omega)) (by omega) dX11_movesAll_76 <| zz_iinc_3 C _ (zle rfl) rfl dX11_movesAll_77 nI_s <| zz_goto C 35 dX11_movesAll_80 (by decide) <| zpc 35 rfl <| ?_
      exact ih (by omega) _ (y.step hk 227 j (Or.inr (Or.inr (Or.inl rfl))) _ rfl (e2 (by omega) _ y))
  have x0 : mI0 h k 0 (zsI h 157 22 0) := ⟨fun i j q => by rw [zI_sI, if_neg (by omega)], fun _ _ => rfl, zI_self _ _ _ _, fun j hj => absurd hj (by omega)⟩
  have x1 := x0.step hk 157 19 (Or.inl ⟨rfl, by decide⟩) _ rfl (by rw [zI_sI, if_neg (by omega)]; rfl)
  have x2 := x1.step hk 157 20 (Or.inl ⟨rfl, by decide⟩) _ rfl (by rw [x1.1 _ _ (by omega)]; rfl)
  refine zz_aload_0 C dX11_movesAll_0 <| zz_iconst_0 C dX11_movesAll_1 <| zy_putI C fX11_370 pX11_22 (tM_K hT) dX11_movesAll_2 <| zz_aload_0 C dX11_movesAll_5 <| zz_aload_0 C dX11_movesAll_6 <| zz_aload_1 C dX11_movesAll_7 <| zz_aload_0 C dX11_movesAll_8 <| zz_getI C fX11_188 (tM_K hT) dX11_movesAll_9 <| zz_iload_2 C dX11_movesAll_12 <| zpc 13 rfl <| ?_
  refine zf_callVI C hR [_, _, _] (c_moves0 hT k 0 hk (by omega) _ x0.2.2.1) lX11_373 rfl (tM_K hT) (by decide) rfl ⟨zle rfl, zle rfl, zle rfl, zle rfl⟩ (zle rfl) dX11_movesAll_13 ?_
  refine zy_putI C fX11_188 pX11_19 (tM_K hT) dX11_movesAll_16 <| zz_aload_0 C dX11_movesAll_19 <| zz_aload_0 C dX11_movesAll_20 <| zz_aload_1 C dX11_movesAll_21 <| zz_aload_0 C dX11_movesAll_22 <| zz_getI C fX11_191 (tM_K hT) dX11_movesAll_23 <| zz_iload_2 C dX11_movesAll_26 <| zpc 27 rfl <| ?_
  refine zf_callVI C hR [_, _, _] (c_moves0 hT k 1 hk (by omega) _ x1.2.2.1) lX11_373 rfl (tM_K hT) (by decide) rfl ⟨zle rfl, zle rfl, zle rfl, zle rfl⟩ (zle rfl) dX11_movesAll_27 ?_
  refine zy_putI C fX11_191 pX11_20 (tM_K hT) dX11_movesAll_30 <| zz_iconst_0 C dX11_movesAll_33 <| zz_istore_3 C (zle rfl) rfl dX11_movesAll_34 <| zpc 35 rfl <| ?_
  exact l1 0 (by omega) _ x2
/-- the place of each in an image -/
def posAt (i j s : Nat) : Prop := (i = 157 ∧ j = 19 ∧ s = 0) ∨ (i = 157 ∧ j = 20 ∧ s = 1) ∨ (i = 226 ∧ s = 2 + 2 * j ∧ j < 10) ∨ (i = 227 ∧ s = 3 + 2 * j ∧ j < 10) ∨ (i = 228 ∧ s = 22 + j ∧ j < 30)
/-- so far out of the image -/
def mI1 (h : zH) (k s : Nat) (hc : zH) : Prop := (∀ i j, ¬ (i = 226 ∨ i = 227 ∨ i = 228 ∨ (i = 157 ∧ (j = 22 ∨ j = 19 ∨ j = 20))) → zI hc i j = zI h i j) ∧ (∀ i j, zL hc i j = zL h i j) ∧ zI hc 157 22 = nI s ∧ ∀ i j s', posAt i j s' → s' < s → zI hc i j = zI h (229 + 1 + k) s'
theorem mI1.step {k s : Nat} {hc : zH} (hk : k < 3) (x : mI1 h k s hc) (i j : Nat) (hp : posAt i j s) : mI1 h k (s + 1) (zsI (zsI hc 157 22 (nI (s + 1))) i j (zI hc (229 + 1 + k) s)) := by
  obtain ⟨x1, x2, x3, x4⟩ := x
  refine ⟨fun i' j' q => ?_, x2, ?_, fun i' j' s' hp' hs' => ?_⟩
  · unfold posAt at hp
    rw [zI_sI, if_neg (by omega), zI_sI, if_neg (by omega)]; exact x1 i' j' q
  · unfold posAt at hp
    rw [zI_sI, if_neg (by omega), zI_self]
  · by_cases z : i' = i ∧ j' = j
    · have e : s' = s := by unfold posAt at hp hp'; omega
      rw [zI_sI, if_pos z, e]
      exact x1 _ _ (by omega)
    · have e : s' < s := by unfold posAt at hp hp'; omega
      have e2 : ¬ (i' = 157 ∧ j' = 22) := by unfold posAt at hp'; omega
      rw [zI_sI, if_neg z, zI_sI, if_neg e2]
      exact x4 i' j' s' hp' e
theorem c_movesAll1 (hT : zTM t) (k : Nat) (hk : k < 3) : zMet E b l yX11_movesAll cX11_movesAll 4 none 2 0 0 [.ref (b + 157), .ref (b + ((229 + 1 + k))), .int 1] t h (qV (fun t' h' => t' = t ∧ mI1 h k 52 h')) := by
  have hK := tM_KR_kept hT k hk
  refine zMet.of (ls := [some (.ref (b + 157)), some (.ref (b + ((229 + 1 + k)))), some (.int 1), none]) (by decide) (zle rfl) 1 rfl ?_
  intro G hlG C hR hE hin
  have l2 : ∀ j, j ≤ 30 → ∀ hc : zH, mI1 h k (22 + j) hc → zAW E b G 4 0 0 85 [some (.ref (b + 157)), some (.ref (b + ((229 + 1 + k)))), some (.int 1), some (.int (nI j))] [] t hc := by
    refine zLoop 30 fun j hj ih hc x => ?_
    refine zz_iload_3 C dX11_movesAll_85 <| zz_bipush C 30 dX11_movesAll_86 (by decide) <| zpc 88 rfl <| ?_
    refine zz_icmp_ge C 115 dX11_movesAll_88 (by decide) (fun c88 => ?_) (fun c88 => ?_)
    · rw [show (30 : Int32) = nI 30 from rfl, nI_leI (by omega) (by omega)] at c88
      refine zy_return C hE (zle rfl) (zle rfl) dX11_movesAll_115 ?_
      rw [show j = 30 by omega] at x; exact ⟨rfl, x⟩
    · rw [show (30 : Int32) = nI 30 from rfl, nI_leI (by omega) (by omega)] at c88
      refine zz_aload_0 C dX11_movesAll_91 <| zz_getR C fX11_55 (tM_K hT) (tM_R_row hT) dX11_movesAll_92 <| zz_iload_3 C dX11_movesAll_95 <| zz_aload_0 C dX11_movesAll_96 <| zz_aload_1 C dX11_movesAll_97 <| zz_aload_0 C dX11_movesAll_98 <| zz_getR C fX11_55 (tM_K hT) (tM_R_row hT) dX11_movesAll_99 <| zz_iload_3 C dX11_movesAll_102 <| zc_iaload C _ (tM_K_row hT) (znI (by omega)) (by omega) dX11_movesAll_103 <| zz_iload_2 C dX11_movesAll_104 <| zpc 105 rfl <| ?_
      refine zf_callVI C hR [_, _, _] (c_moves1 hT k (22 + j) hk (by omega) _ x.2.2.1) lX11_373 rfl (tM_K hT) (by decide) rfl ⟨zle rfl, zle rfl, zle rfl, zle rfl⟩ (zle rfl) dX11_movesAll_105 ?_
      refine zc_iastore C _ (tM_K_row hT) (znI (by omega)) (by omega) dX11_movesAll_108 <| zz_iinc_3 C _ (zle rfl) rfl dX11_movesAll_109 nI_s <| zz_goto C 85 dX11_movesAll_112 (by decide) <| zpc 85 rfl <| ?_
      exact ih (by omega) _ (x.step hk 228 j (by unfold posAt; omega))
  have l1 : ∀ j, j ≤ 10 → ∀ hc : zH, mI1 h k (2 + 2 * j) hc → zAW E b G 4 0 0 35 [some (.ref (b + 157)), some (.ref (b + ((229 + 1 + k)))), some (.int 1), some (.int (nI j))] [] t hc := by
    refine zLoop 10 fun j hj ih hc x => ?_
    refine zz_iload_3 C dX11_movesAll_35 <| zz_bipush C 10 dX11_movesAll_36 (by decide) <| zpc 38 rfl <| ?_
    refine zz_icmp_ge C 83 dX11_movesAll_38 (by decide) (fun c38 => ?_) (fun c38 => ?_)
    · rw [show (10 : Int32) = nI 10 from rfl, nI_leI (by omega) (by omega)] at c38
      refine zz_iconst_0 C dX11_movesAll_83 <| zz_istore_3 C (zle rfl) rfl dX11_movesAll_84 <| zpc 85 rfl <| ?_
      refine l2 0 (by omega) _ ?_; rw [show j = 10 by omega] at x; exact x
    · rw [show (10 : Int32) = nI 10 from rfl, nI_leI (by omega) (by omega)] at c38
      refine zz_aload_0 C dX11_movesAll_41 <| zz_getR C fX11_49 (tM_K hT) (tM_R_wear hT) dX11_movesAll_42 <| zz_iload_3 C dX11_movesAll_45 <| zz_aload_0 C dX11_movesAll_46 <| zz_aload_1 C dX11_movesAll_47 <| zz_aload_0 C dX11_movesAll_48 <| zz_getR C fX11_49 (tM_K hT) (tM_R_wear hT) dX11_movesAll_49 <| zz_iload_3 C dX11_movesAll_52 <| zc_iaload C _ (tM_K_wear hT) (znI (by omega)) (by omega) dX11_movesAll_53 <| zz_iload_2 C dX11_movesAll_54 <| zpc 55 rfl <| ?_
      refine zf_callVI C hR [_, _, _] (c_moves1 hT k (2 + 2 * j) hk (by omega) _ x.2.2.1) lX11_373 rfl (tM_K hT) (by decide) rfl ⟨zle rfl, zle rfl, zle rfl, zle rfl⟩ (zle rfl) dX11_movesAll_55 ?_
      refine zc_iastore C _ (tM_K_wear hT) (znI (by omega)) (by omega) dX11_movesAll_58 <| zpc 59 rfl <| ?_
      have y := x.step hk 226 j (by unfold posAt; omega)
      refine zz_aload_0 C dX11_movesAll_59 <| zz_getR C fX11_52 (tM_K hT) (tM_R_rested hT) dX11_movesAll_60 <| zz_iload_3 C dX11_movesAll_63 <| zz_aload_0 C dX11_movesAll_64 <| zz_aload_1 C dX11_movesAll_65 <| zz_aload_0 C dX11_movesAll_66 <| zz_getR C fX11_52 (tM_K hT) (tM_R_rested hT) dX11_movesAll_67 <| zz_iload_3 C dX11_movesAll_70 <| zc_iaload C _ (tM_K_rested hT) (znI (by omega)) (by omega) dX11_movesAll_71 <| zz_iload_2 C dX11_movesAll_72 <| zpc 73 rfl <| ?_
      refine zf_callVI C hR [_, _, _] (c_moves1 hT k (2 + 2 * j + 1) hk (by omega) _ y.2.2.1) lX11_373 rfl (tM_K hT) (by decide) rfl ⟨zle rfl, zle rfl, zle rfl, zle rfl⟩ (zle rfl) dX11_movesAll_73 ?_
      refine zc_iastore C _ (tM_K_rested hT) (znI (by omega)) (by omega) dX11_movesAll_76 <| zz_iinc_3 C _ (zle rfl) rfl dX11_movesAll_77 nI_s <| zz_goto C 35 dX11_movesAll_80 (by decide) <| zpc 35 rfl <| ?_
      exact ih (by omega) _ (y.step hk 227 j (by unfold posAt; omega))
  have x0 : mI1 h k 0 (zsI h 157 22 0) := ⟨fun i j q => by rw [zI_sI, if_neg (by omega)], fun _ _ => rfl, zI_self _ _ _ _, fun _ _ j _ hj => absurd hj (by omega)⟩
  have x1 := x0.step hk 157 19 (by unfold posAt; omega)
  have x2 := x1.step hk 157 20 (by unfold posAt; omega)
  refine zz_aload_0 C dX11_movesAll_0 <| zz_iconst_0 C dX11_movesAll_1 <| zy_putI C fX11_370 pX11_22 (tM_K hT) dX11_movesAll_2 <| zz_aload_0 C dX11_movesAll_5 <| zz_aload_0 C dX11_movesAll_6 <| zz_aload_1 C dX11_movesAll_7 <| zz_aload_0 C dX11_movesAll_8 <| zz_getI C fX11_188 (tM_K hT) dX11_movesAll_9 <| zz_iload_2 C dX11_movesAll_12 <| zpc 13 rfl <| ?_
  refine zf_callVI C hR [_, _, _] (c_moves1 hT k 0 hk (by omega) _ x0.2.2.1) lX11_373 rfl (tM_K hT) (by decide) rfl ⟨zle rfl, zle rfl, zle rfl, zle rfl⟩ (zle rfl) dX11_movesAll_13 ?_
  refine zy_putI C fX11_188 pX11_19 (tM_K hT) dX11_movesAll_16 <| zz_aload_0 C dX11_movesAll_19 <| zz_aload_0 C dX11_movesAll_20 <| zz_aload_1 C dX11_movesAll_21 <| zz_aload_0 C dX11_movesAll_22 <| zz_getI C fX11_191 (tM_K hT) dX11_movesAll_23 <| zz_iload_2 C dX11_movesAll_26 <| zpc 27 rfl <| ?_
  refine zf_callVI C hR [_, _, _] (c_moves1 hT k 1 hk (by omega) _ x1.2.2.1) lX11_373 rfl (tM_K hT) (by decide) rfl ⟨zle rfl, zle rfl, zle rfl, zle rfl⟩ (zle rfl) dX11_movesAll_27 ?_
  refine zy_putI C fX11_191 pX11_20 (tM_K hT) dX11_movesAll_30 <| zz_iconst_0 C dX11_movesAll_33 <| zz_istore_3 C (zle rfl) rfl dX11_movesAll_34 <| zpc 35 rfl <| ?_
  exact l1 0 (by omega) _ x2
theorem c_image2 (hT : zTM t) (hi : zI h 157 21 = nI 3) : zMet E b l yX11_image cX11_image 1 (some .int) 3 0 0 [.ref (b + 157)] t h (qIf (-1) t (zsI h 157 0 0)) := by
  have hi0 : zI (zsI h 157 0 0) 157 21 = nI 3 := by rw [zI_sI, if_neg (by omega)]; exact hi
  refine zMet.of (ls := [some (.ref (b + 157))]) (by decide) (zle rfl) 0 rfl ?_
  intro G hlG C hR hE hin
  refine zz_aload_0 C dX11_image_0 <| zz_iconst_0 C dX11_image_1 <| zy_putI C fX11_104 pX11_0 (tM_K hT) dX11_image_2 <| zz_aload_0 C dX11_image_5 <| zz_getI C fX11_194 (tM_K hT) dX11_image_6 <| zpc 9 rfl <| ?_
  rw [hi0]
  refine zz_iconst_3 C dX11_image_9 <| zpc 10 rfl <| ?_
  refine zz_icmp_ne C 15 dX11_image_10 (by decide) (fun c10 => ?_) (fun c10 => ?_)
  · exact absurd rfl c10
  · refine zz_iconst_m1 C dX11_image_13 <| zpc 14 rfl <| ?_
    exact zf_ireturn C hE (zle rfl) (zle rfl) dX11_image_14 rfl rfl rfl
theorem c_image1 (hT : zTM t) (k : Nat) (hk : k < 3) (hi : zI h 157 21 = nI k) : zMet E b l yX11_image cX11_image 1 (some .int) 3 0 0 [.ref (b + 157)] t h (qI (fun v t' h' => v = nI (k + 1) ∧ t' = t ∧ ∃ h2, mI0 (zsI h 157 0 0) k 52 h2 ∧ h' = zsI h2 157 21 (nI (k + 1)))) := by
  have hi0 : zI (zsI h 157 0 0) 157 21 = nI k := by rw [zI_sI, if_neg (by omega)]; exact hi
  refine zMet.of (ls := [some (.ref (b + 157))]) (by decide) (zle rfl) 0 rfl ?_
  intro G hlG C hR hE hin
  refine zz_aload_0 C dX11_image_0 <| zz_iconst_0 C dX11_image_1 <| zy_putI C fX11_104 pX11_0 (tM_K hT) dX11_image_2 <| zz_aload_0 C dX11_image_5 <| zz_getI C fX11_194 (tM_K hT) dX11_image_6 <| zpc 9 rfl <| ?_
  rw [hi0]
  refine zz_iconst_3 C dX11_image_9 <| zpc 10 rfl <| ?_
  refine zz_icmp_ne C 15 dX11_image_10 (by decide) (fun c10 => ?_) (fun c10 => ?_)
  · refine zz_aload_0 C dX11_image_15 <| zz_aload_0 C dX11_image_16 <| zz_getR C fX11_58 (tM_K hT) (tM_R_kept hT) dX11_image_17 <| zz_aload_0 C dX11_image_20 <| zz_getI C fX11_194 (tM_K hT) dX11_image_21 <| zpc 24 rfl <| ?_
    rw [hi0]
    refine zc_row C _ (tM_K_kept hT) (tM_row_kept hT) (znI (by omega)) (by omega) dX11_image_24 <| fun r24 => ?_
    refine zz_iconst_0 C dX11_image_25 <| zpc 26 rfl <| ?_
    refine zy_callVV C hR [_, _] (c_movesAll0 hT k hk) lX11_377 rfl (tM_K hT) (by decide) rfl ⟨zle rfl, zle rfl, zle rfl, zle rfl⟩ (zle rfl) dX11_image_26 ?_
    intro t2 h2 hv; obtain ⟨rfl, x⟩ := hv; have hi2 : zI h2 157 21 = nI k := (x.1 _ _ (by omega)).trans hi0
    refine zz_aload_0 C dX11_image_29 <| zz_dup C dX11_image_30 rfl <| zz_getI C fX11_194 (tM_K hT) dX11_image_31 <| zpc 34 rfl <| ?_
    rw [hi2]
    refine zz_iconst_1 C dX11_image_34 <| zz_iadd C dX11_image_35 <| zpc 36 rfl <| ?_
    rw [show (1 : Int32) = nI 1 from rfl, nI_add]
    refine zy_putI C fX11_194 pX11_21 (tM_K hT) dX11_image_36 <| zz_aload_0 C dX11_image_39 <| zz_getI C fX11_194 (tM_K hT) dX11_image_40 <| zpc 43 rfl <| ?_
    refine zy_ireturn C hE (zle rfl) (zle rfl) dX11_image_43 ?_
    exact ⟨zI_self _ _ _ _, rfl, h2, x, rfl⟩
  · rw [show (3 : Int32) = nI 3 from rfl, nI_eq (by omega) (by omega)] at c10; omega
theorem c_on2 (hT : zTM t) (hi : zI h 157 21 = 0) : zMet E b l yX11_on cX11_on 1 (some .int) 3 0 0 [.ref (b + 157)] t h (qIf (-1) t (zsI h 157 0 0)) := by
  have hi0 : zI (zsI h 157 0 0) 157 21 = 0 := by rw [zI_sI, if_neg (by omega)]; exact hi
  refine zMet.of (ls := [some (.ref (b + 157))]) (by decide) (zle rfl) 0 rfl ?_
  intro G hlG C hR hE hin
  refine zz_aload_0 C dX11_on_0 <| zz_iconst_0 C dX11_on_1 <| zy_putI C fX11_104 pX11_0 (tM_K hT) dX11_on_2 <| zz_aload_0 C dX11_on_5 <| zz_getI C fX11_194 (tM_K hT) dX11_on_6 <| zpc 9 rfl <| ?_
  rw [hi0]
  refine zz_if_ne C 14 dX11_on_9 (by decide) (fun c9 => ?_) (fun c9 => ?_)
  · exact absurd rfl c9
  · refine zz_iconst_m1 C dX11_on_12 <| zpc 13 rfl <| ?_
    exact zf_ireturn C hE (zle rfl) (zle rfl) dX11_on_13 rfl rfl rfl
theorem c_on1 (hT : zTM t) (k : Nat) (hk : k < 3) (hi : zI h 157 21 = nI (k + 1)) : zMet E b l yX11_on cX11_on 1 (some .int) 3 0 0 [.ref (b + 157)] t h (qI (fun v t' h' => v = nI k ∧ t' = t ∧ mI1 (zsI (zsI h 157 0 0) 157 21 (nI k)) k 52 h')) := by
  have hi0 : zI (zsI h 157 0 0) 157 21 = nI (k + 1) := by rw [zI_sI, if_neg (by omega)]; exact hi
  have hi3 : zI (zsI (zsI h 157 0 0) 157 21 (nI k)) 157 21 = nI k := zI_self _ _ _ _
  refine zMet.of (ls := [some (.ref (b + 157))]) (by decide) (zle rfl) 0 rfl ?_
  intro G hlG C hR hE hin
  refine zz_aload_0 C dX11_on_0 <| zz_iconst_0 C dX11_on_1 <| zy_putI C fX11_104 pX11_0 (tM_K hT) dX11_on_2 <| zz_aload_0 C dX11_on_5 <| zz_getI C fX11_194 (tM_K hT) dX11_on_6 <| zpc 9 rfl <| ?_
  rw [hi0]
  refine zz_if_ne C 14 dX11_on_9 (by decide) (fun c9 => ?_) (fun c9 => ?_)
  · refine zz_aload_0 C dX11_on_14 <| zz_dup C dX11_on_15 rfl <| zz_getI C fX11_194 (tM_K hT) dX11_on_16 <| zpc 19 rfl <| ?_
    rw [hi0]
    refine zz_iconst_1 C dX11_on_19 <| zz_isub C dX11_on_20 <| zpc 21 rfl <| ?_
    rw [show (1 : Int32) = nI 1 from rfl, pk_sub (by omega), Nat.add_sub_cancel]
    refine zy_putI C fX11_194 pX11_21 (tM_K hT) dX11_on_21 <| zz_aload_0 C dX11_on_24 <| zz_aload_0 C dX11_on_25 <| zz_getR C fX11_58 (tM_K hT) (tM_R_kept hT) dX11_on_26 <| zz_aload_0 C dX11_on_29 <| zz_getI C fX11_194 (tM_K hT) dX11_on_30 <| zpc 33 rfl <| ?_
    rw [hi3]
    refine zc_row C _ (tM_K_kept hT) (tM_row_kept hT) (znI (by omega)) (by omega) dX11_on_33 <| fun r33 => ?_
    refine zz_iconst_1 C dX11_on_34 <| zpc 35 rfl <| ?_
    refine zy_callVV C hR [_, _] (c_movesAll1 hT k hk) lX11_377 rfl (tM_K hT) (by decide) rfl ⟨zle rfl, zle rfl, zle rfl, zle rfl⟩ (zle rfl) dX11_on_35 ?_
    intro t2 h2 hv; obtain ⟨rfl, x⟩ := hv
    refine zz_aload_0 C dX11_on_38 <| zz_getI C fX11_194 (tM_K hT) dX11_on_39 <| zpc 42 rfl <| ?_
    refine zy_ireturn C hE (zle rfl) (zle rfl) dX11_on_42 ?_
    exact ⟨(x.1 _ _ (by omega)).trans hi3, rfl, x⟩
  · exact absurd c9 (nI_ne0 (by omega) (by omega))
theorem c_count (hT : zTM t) (hro : mRo h R) (x : Int32) {ic tp : Nat} (hi : zI h 157 21 = nI ic) (ht : zI h 157 1 = nI tp) : zMet E b l yX11_count cX11_count 2 (some .int) 1 0 0 [.ref (b + 157), .int x] t h (qIf (if x = 0 then nI R.1 else if x = 1 then nI ic else if x = 2 then nI tp else -1) t (zsI h 157 0 0)) := by
  refine zMet.of (ls := [some (.ref (b + 157)), some (.int x)]) (by decide) (zle rfl) 0 rfl ?_
  intro G hlG C hR hE hin
  refine zz_aload_0 C dX11_count_0 <| zz_iconst_0 C dX11_count_1 <| zy_putI C fX11_104 pX11_0 (tM_K hT) dX11_count_2 <| zz_iload_1 C dX11_count_5 <| zpc 6 rfl <| ?_
  refine zz_if_ne C 16 dX11_count_6 (by decide) (fun c6 => ?_) (fun c6 => ?_)
  · refine zz_iload_1 C dX11_count_16 <| zz_iconst_1 C dX11_count_17 <| zpc 18 rfl <| ?_
    refine zz_icmp_ne C 28 dX11_count_18 (by decide) (fun c18 => ?_) (fun c18 => ?_)
    · refine zz_iload_1 C dX11_count_28 <| zz_iconst_2 C dX11_count_29 <| zpc 30 rfl <| ?_
      refine zz_icmp_ne C 40 dX11_count_30 (by decide) (fun c30 => ?_) (fun c30 => ?_)
      · refine zz_iconst_m1 C dX11_count_40 <| zpc 41 rfl <| ?_
        refine zf_ireturn C hE (zle rfl) (zle rfl) dX11_count_41 ?_ rfl rfl
        first
        | (rw [if_pos c6, zI_sI, if_neg (by omega)]; exact hro.1)
        | (rw [if_neg c6, if_pos c18, zI_sI, if_neg (by omega)]; exact hi)
        | (rw [if_neg c6, if_neg c18, if_pos c30, zI_sI, if_neg (by omega)]; exact ht)
        | (rw [if_neg c6, if_neg c18, if_neg c30])
      · refine zz_aload_0 C dX11_count_33 <| zz_getI C fX11_107 (tM_K hT) dX11_count_34 <| zz_goto C 41 dX11_count_37 (by decide) <| zpc 41 rfl <| ?_
        refine zf_ireturn C hE (zle rfl) (zle rfl) dX11_count_41 ?_ rfl rfl
        first
        | (rw [if_pos c6, zI_sI, if_neg (by omega)]; exact hro.1)
        | (rw [if_neg c6, if_pos c18, zI_sI, if_neg (by omega)]; exact hi)
        | (rw [if_neg c6, if_neg c18, if_pos c30, zI_sI, if_neg (by omega)]; exact ht)
        | (rw [if_neg c6, if_neg c18, if_neg c30])
    · refine zz_aload_0 C dX11_count_21 <| zz_getI C fX11_194 (tM_K hT) dX11_count_22 <| zz_goto C 41 dX11_count_25 (by decide) <| zpc 41 rfl <| ?_
      refine zf_ireturn C hE (zle rfl) (zle rfl) dX11_count_41 ?_ rfl rfl
      first
      | (rw [if_pos c6, zI_sI, if_neg (by omega)]; exact hro.1)
      | (rw [if_neg c6, if_pos c18, zI_sI, if_neg (by omega)]; exact hi)
      | (rw [if_neg c6, if_neg c18, if_pos c30, zI_sI, if_neg (by omega)]; exact ht)
      | (rw [if_neg c6, if_neg c18, if_neg c30])
  · refine zz_aload_0 C dX11_count_9 <| zz_getI C fX11_191 (tM_K hT) dX11_count_10 <| zz_goto C 41 dX11_count_13 (by decide) <| zpc 41 rfl <| ?_
    refine zf_ireturn C hE (zle rfl) (zle rfl) dX11_count_41 ?_ rfl rfl
    first
    | (rw [if_pos c6, zI_sI, if_neg (by omega)]; exact hro.1)
    | (rw [if_neg c6, if_pos c18, zI_sI, if_neg (by omega)]; exact hi)
    | (rw [if_neg c6, if_neg c18, if_pos c30, zI_sI, if_neg (by omega)]; exact ht)
    | (rw [if_neg c6, if_neg c18, if_neg c30])
end MIM
