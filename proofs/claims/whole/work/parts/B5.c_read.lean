/-! ===== the class: blanks, a number, the end of a clause ===== -/
def cTx (h : zH) (B : Nat → Nat) (n : Nat) : Prop := zI h 1 6 = nI n ∧ ∀ i, i < n → zI h 34 i = nI (B i)
/-- where the reading stands -/
def cAt (h : zH) (st : yT) (n : Nat) : Prop := match st with
  | .inl f => zI h 1 1 = nI f.1 ∧ 1 ≤ f.1 ∧ f.1 ≤ 4 ∧ zI h 1 2 = nI f.2 ∧ ∃ k, k ≤ n ∧ zI h 1 7 = nI k
  | .inr k => zI h 1 1 = 0 ∧ zI h 1 7 = nI k ∧ k ≤ n ∧ zI h 1 2 = -1
def cMv (h : zH) (p : Nat) (h' : zH) : Prop := zI h' 1 7 = nI p ∧ (∀ i j, ¬ (i = 1 ∧ j = 7) → zI h' i j = zI h i j) ∧ ∀ i j, zL h' i j = zL h i j
def cAgR (h h' : zH) : Prop := (∀ i j, ¬ (i = 35 ∨ (i = 1 ∧ (j = 1 ∨ j = 2 ∨ j = 7))) → zI h' i j = zI h i j) ∧ ∀ i j, zL h' i j = zL h i j
theorem cAgR.rf (h : zH) : cAgR h h := ⟨fun _ _ _ => rfl, fun _ _ => rfl⟩
theorem cAgR.tr {h h1 h2 : zH} (a : cAgR h h1) (c : cAgR h1 h2) : cAgR h h2 := ⟨fun i k q => (c.1 i k q).trans (a.1 i k q), fun i k => (c.2 i k).trans (a.2 i k)⟩
theorem cAgR.sI {h h' : zH} (a : cAgR h h') {i j : Nat} {v : Int32} (hs : i = 35 ∨ (i = 1 ∧ (j = 1 ∨ j = 2 ∨ j = 7))) : cAgR h (zsI h' i j v) := ⟨fun i' q hn => by
  rw [zI_sI, if_neg (fun z => hn (by rw [z.1, z.2]; exact hs))]
  exact a.1 i' q hn, a.2⟩
theorem cMv.ag {h h' : zH} {p : Nat} (a : cMv h p h') : cAgR h h' := ⟨fun i j z => a.2.1 i j (fun y => z (Or.inr ⟨y.1, Or.inr (Or.inr y.2)⟩)), a.2.2⟩
theorem cTx.ag {h h' : zH} {B : Nat → Nat} {n : Nat} (a : cAgR h h') (hx : cTx h B n) : cTx h' B n := ⟨by rw [a.1 _ _ (by omega)]; exact hx.1, fun i hi => by rw [a.1 _ _ (by omega)]; exact hx.2 i hi⟩
theorem cMv.nx {h h' : zH} {p : Nat} (a : cMv h p h') (q : Nat) : cMv h q (zsI h' 1 7 (nI q)) := ⟨zI_self _ _ _ _, fun i j z => by rw [zI_sI, if_neg z]; exact a.2.1 i j z, a.2.2⟩
section CRD
variable {E : zE} {b : Nat} {G : zG} {t : zT} {h : zH} {l : Launch} {a c e : Nat} {B : Nat → Nat} {n : Nat}
theorem c3_skip (hX : zTX t a c e) (ht : txOk B n) (hx : cTx h B n) (k : Nat) (hk : k ≤ n) (ha : zI h 1 7 = nI k) : zMet E b l yX3_skipBlanks cX3_skipBlanks 1 none 1 0 0 [.ref (b + 1)] t h (qV (fun t' h' => t' = t ∧ cMv h (sc (isBl B) n k) h')) := by
  have hn := ht.1
  refine zMet.of (ls := [some (.ref (b + 1))]) (by decide) (zle rfl) 0 rfl ?_
  intro G hlG C hR hE hin
  have lp : ∀ j, j ≤ n → ∀ hc, cMv h j hc → sc (isBl B) n j = sc (isBl B) n k → zAW E b G 1 0 0 0 [some (.ref (b + 1))] [] t hc := by
    refine zLoop n fun j hj ih hc mv ej => ?_
    have hx2 := hx.ag mv.ag
    have hxj : j < n → _ := hx2.2 j
    have hBj : j < n → B j < 256 := ht.2 j
    have fin : ¬ (j < n ∧ B j = 32) → cMv h (sc (isBl B) n k) hc := fun z => by
      rw [← ej, sc_f (fun y => z ⟨y.1, of_decide_eq_true y.2⟩)]; exact mv
    refine zz_aload_0 C dX3_skipBlanks_0 <| zz_getI C fX3_47 (tX_K_reader hX) dX3_skipBlanks_1 <| zpc 4 rfl <| ?_
    rw [mv.1]
    refine zz_aload_0 C dX3_skipBlanks_4 <| zz_getI C fX3_41 (tX_K_reader hX) dX3_skipBlanks_5 <| zpc 8 rfl <| ?_
    rw [hx2.1]
    refine zz_icmp_ge C 38 dX3_skipBlanks_8 (by decide) (fun c8 => ?_) (fun c8 => ?_)
    · rw [nI_leI (by omega) (by omega)] at c8
      refine zy_return C hE (zle rfl) (zle rfl) dX3_skipBlanks_38 ?_
      first
      | exact ⟨rfl, fin (fun z => by omega)⟩
      | exact ⟨rfl, fin (fun z => c22 z.2)⟩
    · rw [nI_leI (by omega) (by omega)] at c8
      refine zz_aload_0 C dX3_skipBlanks_11 <| zz_getR C fX3_28 (tX_K_reader hX) (tX_R_tape hX) dX3_skipBlanks_12 <| zz_aload_0 C dX3_skipBlanks_15 <| zz_getI C fX3_47 (tX_K_reader hX) dX3_skipBlanks_16 <| zpc 19 rfl <| ?_
      rw [mv.1]
      refine zc_iaload C _ (tX_K_tape hX) (znI (by omega)) (by omega) dX3_skipBlanks_19 <| zpc 20 rfl <| ?_
      rw [hxj (by omega)]
      refine zz_bipush C 32 dX3_skipBlanks_20 (by decide) <| zpc 22 rfl <| ?_
      refine zz_icmp_ne C 38 dX3_skipBlanks_22 (by decide) (fun c22 => ?_) (fun c22 => ?_)
      · rw [show (32 : Int32) = nI 32 from rfl, nI_eq (by have := hBj (by omega); omega) (by omega)] at c22
        refine zy_return C hE (zle rfl) (zle rfl) dX3_skipBlanks_38 ?_
        first
        | exact ⟨rfl, fin (fun z => by omega)⟩
        | exact ⟨rfl, fin (fun z => c22 z.2)⟩
      · rw [show (32 : Int32) = nI 32 from rfl, nI_eq (by have := hBj (by omega); omega) (by omega)] at c22
        refine zz_aload_0 C dX3_skipBlanks_25 <| zz_dup C dX3_skipBlanks_26 rfl <| zz_getI C fX3_47 (tX_K_reader hX) dX3_skipBlanks_27 <| zpc 30 rfl <| ?_
        rw [mv.1]
        refine zz_iconst_1 C dX3_skipBlanks_30 <| zz_iadd C dX3_skipBlanks_31 <| zpc 32 rfl <| ?_
        rw [show (1 : Int32) = nI 1 from rfl, nI_add]
        refine zy_putI C fX3_47 pX3_7 (tX_K_reader hX) dX3_skipBlanks_32 <| zz_goto C 0 dX3_skipBlanks_35 (by decide) <| zpc 0 rfl <| ?_
        exact ih (by omega) _ (mv.nx (j + 1)) (by rw [← sc_t (by omega) (by unfold isBl; exact decide_eq_true c22)]; exact ej)
  exact lp k hk h ⟨ha, fun _ _ _ => rfl, fun _ _ => rfl⟩ rfl
theorem c3_fail (hX : zTX t a c e) (x y : Int32) : zMet E b l yX3_fail cX3_fail 3 none 1 0 0 [.ref (b + 1), .int x, .int y] t h (qVf t (zsI (zsI h 1 1 x) 1 2 y)) := by
  refine zMet.of (ls := [some (.ref (b + 1)), some (.int x), some (.int y)]) (by decide) (zle rfl) 0 rfl ?_
  intro G hlG C hR hE hin
  refine zz_aload_0 C dX3_fail_0 <| zz_iload_1 C dX3_fail_1 <| zy_putI C fX3_15 pX3_1 (tX_K_reader hX) dX3_fail_2 <| zz_aload_0 C dX3_fail_5 <| zz_iload_2 C dX3_fail_6 <| zy_putI C fX3_18 pX3_2 (tX_K_reader hX) dX3_fail_7 <| zpc 10 rfl <| ?_
  exact zf_return C hE (zle rfl) (zle rfl) dX3_fail_10 rfl rfl
theorem c3_readEnd (hX : zTX t a c e) (ht : txOk B n) (hx : cTx h B n) (k : Nat) (hs : cAt h (.inr k) n) : zMet E b l yX3_readEnd cX3_readEnd 1 none 2 0 0 [.ref (b + 1)] t h (qV (fun t' h' => t' = t ∧ (∀ i j, ¬ (i = 1 ∧ (j = 1 ∨ j = 2 ∨ j = 7)) → zI h' i j = zI h i j) ∧ (∀ i j, zL h' i j = zL h i j) ∧ cAt h' (endR B n (.inr k)) n)) := by
  have hn := ht.1
  obtain ⟨f1, f2, hk, f9⟩ := hs
  obtain ⟨s, es⟩ : ∃ s, s = sc (isBl B) n k := ⟨_, rfl⟩
  have hsn : s ≤ n := by rw [es]; exact sc_le hk
  have een : endR B n (.inr k) = if s < n ∧ B s = 59 then .inr (s + 1) else .inl (1, s) := by rw [es]; rfl
  have hBs : s < n → B s < 256 := ht.2 s
  have bad : ∀ h1, cMv h s h1 → ¬ (s < n ∧ B s = 59) → t = t ∧ (∀ i j, ¬ (i = 1 ∧ (j = 1 ∨ j = 2 ∨ j = 7)) → zI (zsI (zsI h1 1 1 1) 1 2 (nI s)) i j = zI h i j) ∧ (∀ i j, zL (zsI (zsI h1 1 1 1) 1 2 (nI s)) i j = zL h i j) ∧ cAt (zsI (zsI h1 1 1 1) 1 2 (nI s)) (endR B n (.inr k)) n := fun h1 mv z => by
    rw [een, if_neg z]
    refine ⟨rfl, fun i j y => ?_, mv.2.2, ?_, by omega, by omega, zI_self _ _ _ _, s, hsn, ?_⟩
    · rw [zI_sI, if_neg (by omega), zI_sI, if_neg (by omega)]; exact mv.2.1 _ _ (by omega)
    · rw [zI_sI, if_neg (by omega)]; exact zI_self _ _ _ _
    · rw [zI_sI, if_neg (by omega), zI_sI, if_neg (by omega)]; exact mv.1
  refine zMet.of (ls := [some (.ref (b + 1))]) (by decide) (zle rfl) 0 rfl ?_
  intro G hlG C hR hE hin
  refine zz_aload_0 C dX3_readEnd_0 <| zpc 1 rfl <| ?_
  refine zy_callVV C hR [] (c3_skip hX ht hx k hk f2) lX3_53 rfl (tX_K_reader hX) (by decide) rfl ⟨zle rfl, zle rfl, zle rfl, zle rfl⟩ (zle rfl) dX3_readEnd_1 ?_
  intro t1 h1 hv; obtain ⟨rfl, mv⟩ := hv; rw [← es] at mv; have hx2 := hx.ag mv.ag; have hxs : s < n → _ := hx2.2 s
  refine zz_aload_0 C dX3_readEnd_4 <| zz_getI C fX3_47 (tX_K_reader hX) dX3_readEnd_5 <| zpc 8 rfl <| ?_
  rw [mv.1]
  refine zz_aload_0 C dX3_readEnd_8 <| zz_getI C fX3_41 (tX_K_reader hX) dX3_readEnd_9 <| zpc 12 rfl <| ?_
  rw [hx2.1]
  refine zz_icmp_ge C 42 dX3_readEnd_12 (by decide) (fun c12 => ?_) (fun c12 => ?_)
  · rw [nI_leI (by omega) (by omega)] at c12
    refine zz_aload_0 C dX3_readEnd_42 <| zz_iconst_1 C dX3_readEnd_43 <| zz_aload_0 C dX3_readEnd_44 <| zz_getI C fX3_47 (tX_K_reader hX) dX3_readEnd_45 <| zpc 48 rfl <| ?_
    rw [mv.1]
    refine zf_callVV C hR [_, _] (c3_fail hX _ _) lX3_66 rfl (tX_K_reader hX) (by decide) rfl ⟨zle rfl, zle rfl, zle rfl, zle rfl⟩ (zle rfl) dX3_readEnd_48 ?_
    refine zy_return C hE (zle rfl) (zle rfl) dX3_readEnd_51 ?_
    first
    | exact bad h1 mv (fun z => by omega)
    | exact bad h1 mv (fun z => c26 z.2)
    | (rw [een, if_pos ⟨by omega, c26⟩]
       exact ⟨rfl, fun i j y => (by rw [zI_sI, if_neg (by omega)]; exact mv.2.1 _ _ (by omega)), mv.2.2, (by rw [zI_sI, if_neg (by omega), mv.2.1 _ _ (by omega)]; exact f1), zI_self _ _ _ _, (by omega), (by rw [zI_sI, if_neg (by omega), mv.2.1 _ _ (by omega)]; exact f9)⟩)
  · rw [nI_leI (by omega) (by omega)] at c12
    refine zz_aload_0 C dX3_readEnd_15 <| zz_getR C fX3_28 (tX_K_reader hX) (tX_R_tape hX) dX3_readEnd_16 <| zz_aload_0 C dX3_readEnd_19 <| zz_getI C fX3_47 (tX_K_reader hX) dX3_readEnd_20 <| zpc 23 rfl <| ?_
    rw [mv.1]
    refine zc_iaload C _ (tX_K_tape hX) (znI (by omega)) (by omega) dX3_readEnd_23 <| zpc 24 rfl <| ?_
    rw [hxs (by omega)]
    refine zz_bipush C 59 dX3_readEnd_24 (by decide) <| zpc 26 rfl <| ?_
    refine zz_icmp_ne C 42 dX3_readEnd_26 (by decide) (fun c26 => ?_) (fun c26 => ?_)
    · rw [show (59 : Int32) = nI 59 from rfl, nI_eq (by have := hBs (by omega); omega) (by omega)] at c26
      refine zz_aload_0 C dX3_readEnd_42 <| zz_iconst_1 C dX3_readEnd_43 <| zz_aload_0 C dX3_readEnd_44 <| zz_getI C fX3_47 (tX_K_reader hX) dX3_readEnd_45 <| zpc 48 rfl <| ?_
      rw [mv.1]
      refine zf_callVV C hR [_, _] (c3_fail hX _ _) lX3_66 rfl (tX_K_reader hX) (by decide) rfl ⟨zle rfl, zle rfl, zle rfl, zle rfl⟩ (zle rfl) dX3_readEnd_48 ?_
      refine zy_return C hE (zle rfl) (zle rfl) dX3_readEnd_51 ?_
      first
      | exact bad h1 mv (fun z => by omega)
      | exact bad h1 mv (fun z => c26 z.2)
      | (rw [een, if_pos ⟨by omega, c26⟩]
         exact ⟨rfl, fun i j y => (by rw [zI_sI, if_neg (by omega)]; exact mv.2.1 _ _ (by omega)), mv.2.2, (by rw [zI_sI, if_neg (by omega), mv.2.1 _ _ (by omega)]; exact f1), zI_self _ _ _ _, (by omega), (by rw [zI_sI, if_neg (by omega), mv.2.1 _ _ (by omega)]; exact f9)⟩)
    · rw [show (59 : Int32) = nI 59 from rfl, nI_eq (by have := hBs (by omega); omega) (by omega)] at c26
      refine zz_aload_0 C dX3_readEnd_29 <| zz_dup C dX3_readEnd_30 rfl <| zz_getI C fX3_47 (tX_K_reader hX) dX3_readEnd_31 <| zpc 34 rfl <| ?_
      rw [mv.1]
      refine zz_iconst_1 C dX3_readEnd_34 <| zz_iadd C dX3_readEnd_35 <| zpc 36 rfl <| ?_
      rw [show (1 : Int32) = nI 1 from rfl, nI_add]
      refine zy_putI C fX3_47 pX3_7 (tX_K_reader hX) dX3_readEnd_36 <| zz_goto C 51 dX3_readEnd_39 (by decide) <| zpc 51 rfl <| ?_
      refine zy_return C hE (zle rfl) (zle rfl) dX3_readEnd_51 ?_
      first
      | exact bad h1 mv (fun z => by omega)
      | exact bad h1 mv (fun z => c26 z.2)
      | (rw [een, if_pos ⟨by omega, c26⟩]
         exact ⟨rfl, fun i j y => (by rw [zI_sI, if_neg (by omega)]; exact mv.2.1 _ _ (by omega)), mv.2.2, (by rw [zI_sI, if_neg (by omega), mv.2.1 _ _ (by omega)]; exact f1), zI_self _ _ _ _, (by omega), (by rw [zI_sI, if_neg (by omega), mv.2.1 _ _ (by omega)]; exact f9)⟩)
/-- bounds of numbers -/
theorem c3_leastOf (hX : zTX t a c e) (kd i : Nat) (hk : kd < 8) (hi : i < kCt kd) : zMet E b l yX3_leastOf cX3_leastOf 3 (some .int) 1 0 0 [.ref (b + 1), .int (nI kd), .int (nI i)] t h (qIf (nI (kLo kd i)) t h) := by
  refine zMet.of (ls := [some (.ref (b + 1)), some (.int (nI kd)), some (.int (nI i))]) (by decide) (zle rfl) 0 rfl ?_
  intro G hlG C hR hE hin
  obtain rfl | rfl | rfl | rfl | rfl | rfl | rfl | rfl : kd = 0 ∨ kd = 1 ∨ kd = 2 ∨ kd = 3 ∨ kd = 4 ∨ kd = 5 ∨ kd = 6 ∨ kd = 7 := by omega
  ·
    refine zz_iload_1 C dX3_leastOf_0 <| zz_tableIn C 48 dX3_leastOf_1 (by decide) (by decide) (by first | rfl | decide) (by decide) <| zz_iconst_2 C dX3_leastOf_48 <| zpc 49 rfl <| ?_
    exact zf_ireturn C hE (zle rfl) (zle rfl) dX3_leastOf_49 rfl rfl rfl
  ·
    have hi : i < 5 := hi
    have hv : ∀ j, j < 5 → ([0, 0, 1, 0, 1] : List Nat).getD j 0 = kLo 1 j := by decide
    refine zz_iload_1 C dX3_leastOf_0 <| zz_tableIn C 50 dX3_leastOf_1 (by decide) (by decide) (by first | rfl | decide) (by decide) <| zz_gets C (by decide) sX3_139 wX3_139 dX3_leastOf_50 <| fun sa50 ta50 => ?_
    refine zz_iload_2 C dX3_leastOf_53 <| zc_tald C _ ta50 (znI (by omega)) (by show _ < 5; omega) dX3_leastOf_54 <| zpc 55 rfl <| ?_
    exact zf_ireturn C hE (zle rfl) (zle rfl) dX3_leastOf_55 (by rw [hv i hi]) rfl rfl
  ·
    have hi : i < 5 := hi
    have hv : ∀ j, j < 5 → ([0, 0, 1, 0, 1] : List Nat).getD j 0 = kLo 2 j := by decide
    refine zz_iload_1 C dX3_leastOf_0 <| zz_tableIn C 50 dX3_leastOf_1 (by decide) (by decide) (by first | rfl | decide) (by decide) <| zz_gets C (by decide) sX3_139 wX3_139 dX3_leastOf_50 <| fun sa50 ta50 => ?_
    refine zz_iload_2 C dX3_leastOf_53 <| zc_tald C _ ta50 (znI (by omega)) (by show _ < 5; omega) dX3_leastOf_54 <| zpc 55 rfl <| ?_
    exact zf_ireturn C hE (zle rfl) (zle rfl) dX3_leastOf_55 (by rw [hv i hi]) rfl rfl
  ·
    have hi : i < 4 := hi
    have hv : ∀ j, j < 4 → ([0, 0, 1, 1] : List Nat).getD j 0 = kLo 3 j := by decide
    refine zz_iload_1 C dX3_leastOf_0 <| zz_tableIn C 56 dX3_leastOf_1 (by decide) (by decide) (by first | rfl | decide) (by decide) <| zz_gets C (by decide) sX3_142 wX3_142 dX3_leastOf_56 <| fun sa56 ta56 => ?_
    refine zz_iload_2 C dX3_leastOf_59 <| zc_tald C _ ta56 (znI (by omega)) (by show _ < 4; omega) dX3_leastOf_60 <| zpc 61 rfl <| ?_
    exact zf_ireturn C hE (zle rfl) (zle rfl) dX3_leastOf_61 (by rw [hv i hi]) rfl rfl
  ·
    have hi : i < 2 := hi
    refine zz_iload_1 C dX3_leastOf_0 <| zz_tableIn C 62 dX3_leastOf_1 (by decide) (by decide) (by first | rfl | decide) (by decide) <| zz_iload_2 C dX3_leastOf_62 <| zpc 63 rfl <| ?_
    refine zz_if_ne C 70 dX3_leastOf_63 (by decide) (fun c63 => ?_) (fun c63 => ?_)
    · rw [show (0 : Int32) = nI 0 from rfl, nI_eq (by omega) (by omega)] at c63
      refine zz_iconst_1 C dX3_leastOf_70 <| zpc 71 rfl <| ?_
      exact zf_ireturn C hE (zle rfl) (zle rfl) dX3_leastOf_71 (by show _ = nI (if i = 0 then 0 else 1); first | (rw [if_pos c63]; rfl) | (rw [if_neg c63]; rfl)) rfl rfl
    · rw [show (0 : Int32) = nI 0 from rfl, nI_eq (by omega) (by omega)] at c63
      refine zz_iconst_0 C dX3_leastOf_66 <| zz_goto C 71 dX3_leastOf_67 (by decide) <| zpc 71 rfl <| ?_
      exact zf_ireturn C hE (zle rfl) (zle rfl) dX3_leastOf_71 (by show _ = nI (if i = 0 then 0 else 1); first | (rw [if_pos c63]; rfl) | (rw [if_neg c63]; rfl)) rfl rfl
  ·
    refine zz_iload_1 C dX3_leastOf_0 <| zz_tableIn C 74 dX3_leastOf_1 (by decide) (by decide) (by first | rfl | decide) (by decide) <| zz_iconst_0 C dX3_leastOf_74 <| zpc 75 rfl <| ?_
    exact zf_ireturn C hE (zle rfl) (zle rfl) dX3_leastOf_75 rfl rfl rfl
  ·
    refine zz_iload_1 C dX3_leastOf_0 <| zz_tableIn C 74 dX3_leastOf_1 (by decide) (by decide) (by first | rfl | decide) (by decide) <| zz_iconst_0 C dX3_leastOf_74 <| zpc 75 rfl <| ?_
    exact zf_ireturn C hE (zle rfl) (zle rfl) dX3_leastOf_75 rfl rfl rfl
  ·
    refine zz_iload_1 C dX3_leastOf_0 <| zz_tableIn C 72 dX3_leastOf_1 (by decide) (by decide) (by first | rfl | decide) (by decide) <| zz_iconst_3 C dX3_leastOf_72 <| zpc 73 rfl <| ?_
    exact zf_ireturn C hE (zle rfl) (zle rfl) dX3_leastOf_73 rfl rfl rfl
theorem c3_mostOf (hX : zTX t a c e) (kd i P ng : Nat) (hk : kd < 8) (hi : i < kCt kd) (hP : zI h c 0 = nI P) (hg : zI h c 3 = nI ng) : zMet E b l yX3_mostOf cX3_mostOf 3 (some .int) 1 0 0 [.ref (b + 1), .int (nI kd), .int (nI i)] t h (qIf (nI (kUp kd P ng i) - 1) t h) := by
  refine zMet.of (ls := [some (.ref (b + 1)), some (.int (nI kd)), some (.int (nI i))]) (by decide) (zle rfl) 0 rfl ?_
  intro G hlG C hR hE hin
  obtain rfl | rfl | rfl | rfl | rfl | rfl | rfl | rfl : kd = 0 ∨ kd = 1 ∨ kd = 2 ∨ kd = 3 ∨ kd = 4 ∨ kd = 5 ∨ kd = 6 ∨ kd = 7 := by omega
  ·
    refine zz_iload_1 C dX3_mostOf_0 <| zz_tableIn C 44 dX3_mostOf_1 (by decide) (by decide) (by first | rfl | decide) (by decide) <| zz_bipush C 12 dX3_mostOf_44 (by decide) <| zpc 46 rfl <| ?_
    exact zf_ireturn C hE (zle rfl) (zle rfl) dX3_mostOf_46 (by show (12 : Int32) = nI 13 - 1; decide) rfl rfl
  ·
    have hi : i < 5 := hi
    have hv : ¬ i ≤ 1 → nI (([0, 0, 99, 9, 30] : List Nat).getD i 0) = nI (kUp 1 P ng i) - 1 := fun z => by
      obtain rfl | rfl | rfl : i = 2 ∨ i = 3 ∨ i = 4 := by omega
      · show nI 99 = nI 100 - 1; decide
      · show nI 9 = nI 10 - 1; decide
      · show nI 30 = nI 31 - 1; decide
    refine zz_iload_1 C dX3_mostOf_0 <| zz_tableIn C 47 dX3_mostOf_1 (by decide) (by decide) (by first | rfl | decide) (by decide) <| zz_iload_2 C dX3_mostOf_47 <| zz_iconst_1 C dX3_mostOf_48 <| zpc 49 rfl <| ?_
    refine zz_icmp_gt C 64 dX3_mostOf_49 (by decide) (fun c49 => ?_) (fun c49 => ?_)
    · rw [show (1 : Int32) = nI 1 from rfl, nI_ltI (by omega) (by omega)] at c49
      refine zz_gets C (by decide) sX3_147 wX3_147 dX3_mostOf_64 <| fun sa64 ta64 => ?_
      refine zz_iload_2 C dX3_mostOf_67 <| zc_tald C _ ta64 (znI (by omega)) (by show _ < 5; omega) dX3_mostOf_68 <| zpc 69 rfl <| ?_
      exact zf_ireturn C hE (zle rfl) (zle rfl) dX3_mostOf_69 (by first | exact hv (by omega) | (show _ = nI (if i ≤ 1 then P else if i = 2 then 100 else if i = 3 then 10 else 31) - 1; rw [if_pos (by omega)])) rfl rfl
    · rw [show (1 : Int32) = nI 1 from rfl, nI_ltI (by omega) (by omega)] at c49
      refine zz_aload_0 C dX3_mostOf_52 <| zz_getR C fX3_24 (tX_K_reader hX) (tX_R_into hX) dX3_mostOf_53 <| zz_getI C fX3_145 (tL_K (tX_Lc hX)) dX3_mostOf_56 <| zpc 59 rfl <| ?_
      rw [hP]
      refine zz_iconst_1 C dX3_mostOf_59 <| zz_isub C dX3_mostOf_60 <| zz_goto C 69 dX3_mostOf_61 (by decide) <| zpc 69 rfl <| ?_
      exact zf_ireturn C hE (zle rfl) (zle rfl) dX3_mostOf_69 (by first | exact hv (by omega) | (show _ = nI (if i ≤ 1 then P else if i = 2 then 100 else if i = 3 then 10 else 31) - 1; rw [if_pos (by omega)])) rfl rfl
  ·
    have hi : i < 5 := hi
    have hv : ¬ i ≤ 1 → nI (([0, 0, 99, 9, 30] : List Nat).getD i 0) = nI (kUp 2 P ng i) - 1 := fun z => by
      obtain rfl | rfl | rfl : i = 2 ∨ i = 3 ∨ i = 4 := by omega
      · show nI 99 = nI 100 - 1; decide
      · show nI 9 = nI 10 - 1; decide
      · show nI 30 = nI 31 - 1; decide
    refine zz_iload_1 C dX3_mostOf_0 <| zz_tableIn C 47 dX3_mostOf_1 (by decide) (by decide) (by first | rfl | decide) (by decide) <| zz_iload_2 C dX3_mostOf_47 <| zz_iconst_1 C dX3_mostOf_48 <| zpc 49 rfl <| ?_
    refine zz_icmp_gt C 64 dX3_mostOf_49 (by decide) (fun c49 => ?_) (fun c49 => ?_)
    · rw [show (1 : Int32) = nI 1 from rfl, nI_ltI (by omega) (by omega)] at c49
      refine zz_gets C (by decide) sX3_147 wX3_147 dX3_mostOf_64 <| fun sa64 ta64 => ?_
      refine zz_iload_2 C dX3_mostOf_67 <| zc_tald C _ ta64 (znI (by omega)) (by show _ < 5; omega) dX3_mostOf_68 <| zpc 69 rfl <| ?_
      exact zf_ireturn C hE (zle rfl) (zle rfl) dX3_mostOf_69 (by first | exact hv (by omega) | (show _ = nI (if i ≤ 1 then P else if i = 2 then 100 else if i = 3 then 10 else 31) - 1; rw [if_pos (by omega)])) rfl rfl
    · rw [show (1 : Int32) = nI 1 from rfl, nI_ltI (by omega) (by omega)] at c49
      refine zz_aload_0 C dX3_mostOf_52 <| zz_getR C fX3_24 (tX_K_reader hX) (tX_R_into hX) dX3_mostOf_53 <| zz_getI C fX3_145 (tL_K (tX_Lc hX)) dX3_mostOf_56 <| zpc 59 rfl <| ?_
      rw [hP]
      refine zz_iconst_1 C dX3_mostOf_59 <| zz_isub C dX3_mostOf_60 <| zz_goto C 69 dX3_mostOf_61 (by decide) <| zpc 69 rfl <| ?_
      exact zf_ireturn C hE (zle rfl) (zle rfl) dX3_mostOf_69 (by first | exact hv (by omega) | (show _ = nI (if i ≤ 1 then P else if i = 2 then 100 else if i = 3 then 10 else 31) - 1; rw [if_pos (by omega)])) rfl rfl
  ·
    have hi : i < 4 := hi
    have hv : ¬ i ≤ 1 → nI (([0, 0, 127, 9] : List Nat).getD i 0) = nI (kUp 3 P ng i) - 1 := fun z => by
      obtain rfl | rfl : i = 2 ∨ i = 3 := by omega
      · show nI 127 = nI 128 - 1; decide
      · show nI 9 = nI 10 - 1; decide
    refine zz_iload_1 C dX3_mostOf_0 <| zz_tableIn C 70 dX3_mostOf_1 (by decide) (by decide) (by first | rfl | decide) (by decide) <| zz_iload_2 C dX3_mostOf_70 <| zz_iconst_1 C dX3_mostOf_71 <| zpc 72 rfl <| ?_
    refine zz_icmp_gt C 87 dX3_mostOf_72 (by decide) (fun c72 => ?_) (fun c72 => ?_)
    · rw [show (1 : Int32) = nI 1 from rfl, nI_ltI (by omega) (by omega)] at c72
      refine zz_gets C (by decide) sX3_150 wX3_150 dX3_mostOf_87 <| fun sa87 ta87 => ?_
      refine zz_iload_2 C dX3_mostOf_90 <| zc_tald C _ ta87 (znI (by omega)) (by show _ < 4; omega) dX3_mostOf_91 <| zpc 92 rfl <| ?_
      exact zf_ireturn C hE (zle rfl) (zle rfl) dX3_mostOf_92 (by first | exact hv (by omega) | (show _ = nI (if i ≤ 1 then P else if i = 2 then 128 else 10) - 1; rw [if_pos (by omega)])) rfl rfl
    · rw [show (1 : Int32) = nI 1 from rfl, nI_ltI (by omega) (by omega)] at c72
      refine zz_aload_0 C dX3_mostOf_75 <| zz_getR C fX3_24 (tX_K_reader hX) (tX_R_into hX) dX3_mostOf_76 <| zz_getI C fX3_145 (tL_K (tX_Lc hX)) dX3_mostOf_79 <| zpc 82 rfl <| ?_
      rw [hP]
      refine zz_iconst_1 C dX3_mostOf_82 <| zz_isub C dX3_mostOf_83 <| zz_goto C 92 dX3_mostOf_84 (by decide) <| zpc 92 rfl <| ?_
      exact zf_ireturn C hE (zle rfl) (zle rfl) dX3_mostOf_92 (by first | exact hv (by omega) | (show _ = nI (if i ≤ 1 then P else if i = 2 then 128 else 10) - 1; rw [if_pos (by omega)])) rfl rfl
  ·
    have hi : i < 2 := hi
    refine zz_iload_1 C dX3_mostOf_0 <| zz_tableIn C 93 dX3_mostOf_1 (by decide) (by decide) (by first | rfl | decide) (by decide) <| zz_iload_2 C dX3_mostOf_93 <| zpc 94 rfl <| ?_
    refine zz_if_ne C 109 dX3_mostOf_94 (by decide) (fun c94 => ?_) (fun c94 => ?_)
    · rw [show (0 : Int32) = nI 0 from rfl, nI_eq (by omega) (by omega)] at c94
      refine zz_bipush C 8 dX3_mostOf_109 (by decide) <| zpc 111 rfl <| ?_
      exact zf_ireturn C hE (zle rfl) (zle rfl) dX3_mostOf_111 (by show _ = nI (if i = 0 then ng else 9) - 1; first | rw [if_pos c94] | (rw [if_neg c94]; decide)) rfl rfl
    · rw [show (0 : Int32) = nI 0 from rfl, nI_eq (by omega) (by omega)] at c94
      refine zz_aload_0 C dX3_mostOf_97 <| zz_getR C fX3_24 (tX_K_reader hX) (tX_R_into hX) dX3_mostOf_98 <| zz_getI C fX3_122 (tL_K (tX_Lc hX)) dX3_mostOf_101 <| zpc 104 rfl <| ?_
      rw [hg]
      refine zz_iconst_1 C dX3_mostOf_104 <| zz_isub C dX3_mostOf_105 <| zz_goto C 111 dX3_mostOf_106 (by decide) <| zpc 111 rfl <| ?_
      exact zf_ireturn C hE (zle rfl) (zle rfl) dX3_mostOf_111 (by show _ = nI (if i = 0 then ng else 9) - 1; first | rw [if_pos c94] | (rw [if_neg c94]; decide)) rfl rfl
  ·
    have hi : i < 2 := hi
    refine zz_iload_1 C dX3_mostOf_0 <| zz_tableIn C 112 dX3_mostOf_1 (by decide) (by decide) (by first | rfl | decide) (by decide) <| zz_iload_2 C dX3_mostOf_112 <| zpc 113 rfl <| ?_
    refine zz_if_ne C 128 dX3_mostOf_113 (by decide) (fun c113 => ?_) (fun c113 => ?_)
    · rw [show (0 : Int32) = nI 0 from rfl, nI_eq (by omega) (by omega)] at c113
      refine zz_bipush C 6 dX3_mostOf_128 (by decide) <| zpc 130 rfl <| ?_
      exact zf_ireturn C hE (zle rfl) (zle rfl) dX3_mostOf_130 (by show _ = nI (if i = 0 then ng else 7) - 1; first | rw [if_pos c113] | (rw [if_neg c113]; decide)) rfl rfl
    · rw [show (0 : Int32) = nI 0 from rfl, nI_eq (by omega) (by omega)] at c113
      refine zz_aload_0 C dX3_mostOf_116 <| zz_getR C fX3_24 (tX_K_reader hX) (tX_R_into hX) dX3_mostOf_117 <| zz_getI C fX3_122 (tL_K (tX_Lc hX)) dX3_mostOf_120 <| zpc 123 rfl <| ?_
      rw [hg]
      refine zz_iconst_1 C dX3_mostOf_123 <| zz_isub C dX3_mostOf_124 <| zz_goto C 130 dX3_mostOf_125 (by decide) <| zpc 130 rfl <| ?_
      exact zf_ireturn C hE (zle rfl) (zle rfl) dX3_mostOf_130 (by show _ = nI (if i = 0 then ng else 7) - 1; first | rw [if_pos c113] | (rw [if_neg c113]; decide)) rfl rfl
  ·
    refine zz_iload_1 C dX3_mostOf_0 <| zz_tableIn C 131 dX3_mostOf_1 (by decide) (by decide) (by first | rfl | decide) (by decide) <| zz_sipush C 999 dX3_mostOf_131 (by decide) <| zpc 134 rfl <| ?_
    exact zf_ireturn C hE (zle rfl) (zle rfl) dX3_mostOf_134 (by show (999 : Int32) = nI 1000 - 1; decide) rfl rfl
  ·
    refine zz_iload_1 C dX3_mostOf_0 <| zz_tableOut C 135 dX3_mostOf_1 (by decide) (by decide) <| zz_bipush C 11 dX3_mostOf_135 (by decide) <| zpc 137 rfl <| ?_
    exact zf_ireturn C hE (zle rfl) (zle rfl) dX3_mostOf_137 (by show (11 : Int32) = nI 12 - 1; decide) rfl rfl
theorem c3_same (hX : zTX t a c e) (kd i v x : Nat) (hk : kd < 8) (hi : i < 8) (hv : v < 2 ^ 31) (hx : x < 2 ^ 31) (h0 : i = 1 → zI h 35 0 = nI x) : zMet E b l yX3_isSameEnd cX3_isSameEnd 4 (some .boolean) 1 0 0 [.ref (b + 1), .int (nI kd), .int (nI i), .int (nI v)] t h (qIf (zb (kSm kd = true ∧ i = 1 ∧ v = x)) t h) := by
  have ek : kSm kd = true ↔ 1 ≤ kd ∧ kd ≤ 3 := decide_eq_true_iff
  rw [show zb (kSm kd = true ∧ i = 1 ∧ v = x) = zb ((1 ≤ kd ∧ kd ≤ 3) ∧ i = 1 ∧ v = x) by unfold zb; simp only [ek]]
  refine zMet.of (ls := [some (.ref (b + 1)), some (.int (nI kd)), some (.int (nI i)), some (.int (nI v))]) (by decide) (zle rfl) 0 rfl ?_
  intro G hlG C hR hE hin
  refine zz_iload_1 C dX3_isSameEnd_0 <| zz_iconst_1 C dX3_isSameEnd_1 <| zpc 2 rfl <| ?_
  refine zz_icmp_eq C 15 dX3_isSameEnd_2 (by decide) (fun c2 => ?_) (fun c2 => ?_)
  · rw [show (1 : Int32) = nI 1 from rfl, nI_eq (by omega) (by omega)] at c2
    refine zz_iload_2 C dX3_isSameEnd_15 <| zz_iconst_1 C dX3_isSameEnd_16 <| zpc 17 rfl <| ?_
    refine zz_icmp_ne C 34 dX3_isSameEnd_17 (by decide) (fun c17 => ?_) (fun c17 => ?_)
    · rw [show (1 : Int32) = nI 1 from rfl, nI_eq (by omega) (by omega)] at c17
      refine zz_iconst_0 C dX3_isSameEnd_34 <| zpc 35 rfl <| ?_
      refine zf_zreturn C hE (zle rfl) (zle rfl) dX3_isSameEnd_35 (by decide) ?_ rfl rfl
      first
      | (have k9 : (1 ≤ kd ∧ kd ≤ 3) ∧ i = 1 ∧ v = x := ⟨by omega, c17, c27⟩
         exact (zb_t k9).symm)
      | (have k9 : ¬ ((1 ≤ kd ∧ kd ≤ 3) ∧ i = 1 ∧ v = x) := fun z => by omega
         exact (zb_f k9).symm)
    · rw [show (1 : Int32) = nI 1 from rfl, nI_eq (by omega) (by omega)] at c17
      refine zz_iload_3 C dX3_isSameEnd_20 <| zz_aload_0 C dX3_isSameEnd_21 <| zz_getR C fX3_32 (tX_K_reader hX) (tX_R_numbers hX) dX3_isSameEnd_22 <| zz_iconst_0 C dX3_isSameEnd_25 <| zc_iaload C 0 (tX_K_numbers hX) (zlit _ (by decide)) (by decide) dX3_isSameEnd_26 <| zpc 27 rfl <| ?_
      rw [h0 c17]
      refine zz_icmp_ne C 34 dX3_isSameEnd_27 (by decide) (fun c27 => ?_) (fun c27 => ?_)
      · rw [nI_eq (by omega) (by omega)] at c27
        refine zz_iconst_0 C dX3_isSameEnd_34 <| zpc 35 rfl <| ?_
        refine zf_zreturn C hE (zle rfl) (zle rfl) dX3_isSameEnd_35 (by decide) ?_ rfl rfl
        first
        | (have k9 : (1 ≤ kd ∧ kd ≤ 3) ∧ i = 1 ∧ v = x := ⟨by omega, c17, c27⟩
           exact (zb_t k9).symm)
        | (have k9 : ¬ ((1 ≤ kd ∧ kd ≤ 3) ∧ i = 1 ∧ v = x) := fun z => by omega
           exact (zb_f k9).symm)
      · rw [nI_eq (by omega) (by omega)] at c27
        refine zz_iconst_1 C dX3_isSameEnd_30 <| zz_goto C 35 dX3_isSameEnd_31 (by decide) <| zpc 35 rfl <| ?_
        refine zf_zreturn C hE (zle rfl) (zle rfl) dX3_isSameEnd_35 (by decide) ?_ rfl rfl
        first
        | (have k9 : (1 ≤ kd ∧ kd ≤ 3) ∧ i = 1 ∧ v = x := ⟨by omega, c17, c27⟩
           exact (zb_t k9).symm)
        | (have k9 : ¬ ((1 ≤ kd ∧ kd ≤ 3) ∧ i = 1 ∧ v = x) := fun z => by omega
           exact (zb_f k9).symm)
  · rw [show (1 : Int32) = nI 1 from rfl, nI_eq (by omega) (by omega)] at c2
    refine zz_iload_1 C dX3_isSameEnd_5 <| zz_iconst_2 C dX3_isSameEnd_6 <| zpc 7 rfl <| ?_
    refine zz_icmp_eq C 15 dX3_isSameEnd_7 (by decide) (fun c7 => ?_) (fun c7 => ?_)
    · rw [show (2 : Int32) = nI 2 from rfl, nI_eq (by omega) (by omega)] at c7
      refine zz_iload_2 C dX3_isSameEnd_15 <| zz_iconst_1 C dX3_isSameEnd_16 <| zpc 17 rfl <| ?_
      refine zz_icmp_ne C 34 dX3_isSameEnd_17 (by decide) (fun c17 => ?_) (fun c17 => ?_)
      · rw [show (1 : Int32) = nI 1 from rfl, nI_eq (by omega) (by omega)] at c17
        refine zz_iconst_0 C dX3_isSameEnd_34 <| zpc 35 rfl <| ?_
        refine zf_zreturn C hE (zle rfl) (zle rfl) dX3_isSameEnd_35 (by decide) ?_ rfl rfl
        first
        | (have k9 : (1 ≤ kd ∧ kd ≤ 3) ∧ i = 1 ∧ v = x := ⟨by omega, c17, c27⟩
           exact (zb_t k9).symm)
        | (have k9 : ¬ ((1 ≤ kd ∧ kd ≤ 3) ∧ i = 1 ∧ v = x) := fun z => by omega
           exact (zb_f k9).symm)
      · rw [show (1 : Int32) = nI 1 from rfl, nI_eq (by omega) (by omega)] at c17
        refine zz_iload_3 C dX3_isSameEnd_20 <| zz_aload_0 C dX3_isSameEnd_21 <| zz_getR C fX3_32 (tX_K_reader hX) (tX_R_numbers hX) dX3_isSameEnd_22 <| zz_iconst_0 C dX3_isSameEnd_25 <| zc_iaload C 0 (tX_K_numbers hX) (zlit _ (by decide)) (by decide) dX3_isSameEnd_26 <| zpc 27 rfl <| ?_
        rw [h0 c17]
        refine zz_icmp_ne C 34 dX3_isSameEnd_27 (by decide) (fun c27 => ?_) (fun c27 => ?_)
        · rw [nI_eq (by omega) (by omega)] at c27
          refine zz_iconst_0 C dX3_isSameEnd_34 <| zpc 35 rfl <| ?_
          refine zf_zreturn C hE (zle rfl) (zle rfl) dX3_isSameEnd_35 (by decide) ?_ rfl rfl
          first
          | (have k9 : (1 ≤ kd ∧ kd ≤ 3) ∧ i = 1 ∧ v = x := ⟨by omega, c17, c27⟩
             exact (zb_t k9).symm)
          | (have k9 : ¬ ((1 ≤ kd ∧ kd ≤ 3) ∧ i = 1 ∧ v = x) := fun z => by omega
             exact (zb_f k9).symm)
        · rw [nI_eq (by omega) (by omega)] at c27
          refine zz_iconst_1 C dX3_isSameEnd_30 <| zz_goto C 35 dX3_isSameEnd_31 (by decide) <| zpc 35 rfl <| ?_
          refine zf_zreturn C hE (zle rfl) (zle rfl) dX3_isSameEnd_35 (by decide) ?_ rfl rfl
          first
          | (have k9 : (1 ≤ kd ∧ kd ≤ 3) ∧ i = 1 ∧ v = x := ⟨by omega, c17, c27⟩
             exact (zb_t k9).symm)
          | (have k9 : ¬ ((1 ≤ kd ∧ kd ≤ 3) ∧ i = 1 ∧ v = x) := fun z => by omega
             exact (zb_f k9).symm)
    · rw [show (2 : Int32) = nI 2 from rfl, nI_eq (by omega) (by omega)] at c7
      refine zz_iload_1 C dX3_isSameEnd_10 <| zz_iconst_3 C dX3_isSameEnd_11 <| zpc 12 rfl <| ?_
      refine zz_icmp_ne C 34 dX3_isSameEnd_12 (by decide) (fun c12 => ?_) (fun c12 => ?_)
      · rw [show (3 : Int32) = nI 3 from rfl, nI_eq (by omega) (by omega)] at c12
        refine zz_iconst_0 C dX3_isSameEnd_34 <| zpc 35 rfl <| ?_
        refine zf_zreturn C hE (zle rfl) (zle rfl) dX3_isSameEnd_35 (by decide) ?_ rfl rfl
        first
        | (have k9 : (1 ≤ kd ∧ kd ≤ 3) ∧ i = 1 ∧ v = x := ⟨by omega, c17, c27⟩
           exact (zb_t k9).symm)
        | (have k9 : ¬ ((1 ≤ kd ∧ kd ≤ 3) ∧ i = 1 ∧ v = x) := fun z => by omega
           exact (zb_f k9).symm)
      · rw [show (3 : Int32) = nI 3 from rfl, nI_eq (by omega) (by omega)] at c12
        refine zz_iload_2 C dX3_isSameEnd_15 <| zz_iconst_1 C dX3_isSameEnd_16 <| zpc 17 rfl <| ?_
        refine zz_icmp_ne C 34 dX3_isSameEnd_17 (by decide) (fun c17 => ?_) (fun c17 => ?_)
        · rw [show (1 : Int32) = nI 1 from rfl, nI_eq (by omega) (by omega)] at c17
          refine zz_iconst_0 C dX3_isSameEnd_34 <| zpc 35 rfl <| ?_
          refine zf_zreturn C hE (zle rfl) (zle rfl) dX3_isSameEnd_35 (by decide) ?_ rfl rfl
          first
          | (have k9 : (1 ≤ kd ∧ kd ≤ 3) ∧ i = 1 ∧ v = x := ⟨by omega, c17, c27⟩
             exact (zb_t k9).symm)
          | (have k9 : ¬ ((1 ≤ kd ∧ kd ≤ 3) ∧ i = 1 ∧ v = x) := fun z => by omega
             exact (zb_f k9).symm)
        · rw [show (1 : Int32) = nI 1 from rfl, nI_eq (by omega) (by omega)] at c17
          refine zz_iload_3 C dX3_isSameEnd_20 <| zz_aload_0 C dX3_isSameEnd_21 <| zz_getR C fX3_32 (tX_K_reader hX) (tX_R_numbers hX) dX3_isSameEnd_22 <| zz_iconst_0 C dX3_isSameEnd_25 <| zc_iaload C 0 (tX_K_numbers hX) (zlit _ (by decide)) (by decide) dX3_isSameEnd_26 <| zpc 27 rfl <| ?_
          rw [h0 c17]
          refine zz_icmp_ne C 34 dX3_isSameEnd_27 (by decide) (fun c27 => ?_) (fun c27 => ?_)
          · rw [nI_eq (by omega) (by omega)] at c27
            refine zz_iconst_0 C dX3_isSameEnd_34 <| zpc 35 rfl <| ?_
            refine zf_zreturn C hE (zle rfl) (zle rfl) dX3_isSameEnd_35 (by decide) ?_ rfl rfl
            first
            | (have k9 : (1 ≤ kd ∧ kd ≤ 3) ∧ i = 1 ∧ v = x := ⟨by omega, c17, c27⟩
               exact (zb_t k9).symm)
            | (have k9 : ¬ ((1 ≤ kd ∧ kd ≤ 3) ∧ i = 1 ∧ v = x) := fun z => by omega
               exact (zb_f k9).symm)
          · rw [nI_eq (by omega) (by omega)] at c27
            refine zz_iconst_1 C dX3_isSameEnd_30 <| zz_goto C 35 dX3_isSameEnd_31 (by decide) <| zpc 35 rfl <| ?_
            refine zf_zreturn C hE (zle rfl) (zle rfl) dX3_isSameEnd_35 (by decide) ?_ rfl rfl
            first
            | (have k9 : (1 ≤ kd ∧ kd ≤ 3) ∧ i = 1 ∧ v = x := ⟨by omega, c17, c27⟩
               exact (zb_t k9).symm)
            | (have k9 : ¬ ((1 ≤ kd ∧ kd ≤ 3) ∧ i = 1 ∧ v = x) := fun z => by omega
               exact (zb_f k9).symm)
end CRD
