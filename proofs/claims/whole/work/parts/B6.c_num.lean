/-! ===== the class: a number read ===== -/
theorem kUp_le {kd P ng i : Nat} (h1 : P ≤ 12) (h2 : ng ≤ 14) : kUp kd P ng i ≤ 1000 := by
  unfold kUp
  repeat' split
  all_goals omega
theorem kLo_le {kd i : Nat} : kLo kd i ≤ 3 := by
  unfold kLo
  repeat' split
  all_goals omega
theorem kCt_le {kd : Nat} : kCt kd ≤ 5 := by
  unfold kCt
  repeat' split
  all_goals omega
theorem nI_gtS {x u : Nat} (hx : x < 2 ^ 30) (hu : u < 2 ^ 30) : nI u - 1 < nI x ↔ u ≤ x := by
  rw [← Int32.not_le, nI_leS hx hu]
  omega
/-- a number read: the rest as it was -/
def cNu (h : zH) (n i : Nat) (r : (Nat × Nat) ⊕ (Nat × Nat)) (h' : zH) : Prop := (∀ i' j, ¬ (i' = 35 ∧ j = i) → ¬ (i' = 1 ∧ (j = 1 ∨ j = 2 ∨ j = 7)) → zI h' i' j = zI h i' j) ∧ (∀ i' j, zL h' i' j = zL h i' j) ∧ cAt h' (rP r) n ∧ ∀ p, rP r = .inr p → zI h' 35 i = nI (rV r)
section CNU
variable {E : zE} {b : Nat} {G : zG} {t : zT} {h : zH} {l : Launch} {a c e : Nat} {B : Nat → Nat} {n : Nat}
theorem c3_number (hX : zTX t a c e) (ht : txOk B n) (hx : cTx h B n) (k : Nat) (hs : cAt h (.inr k) n) (kd i P ng x : Nat) (hkd : kd < 8) (hi : i < kCt kd) (hP : zI h c 0 = nI P) (hg : zI h c 3 = nI ng) (hP2 : P ≤ 12) (hg2 : ng ≤ 14) (hx0 : x < 2 ^ 31) (h0 : i = 1 → zI h 35 0 = nI x) : zMet E b l yX3_readNumber cX3_readNumber 5 none 2 0 0 [.ref (b + 1), .int (nI kd), .int (nI i)] t h (qV (fun t' h' => t' = t ∧ cNu h n i (numR B n (.inr k) (kLo kd i) (kUp kd P ng i) (if kSm kd = true ∧ i = 1 then some x else none)) h')) := by
  have hn := ht.1
  have hi5 : i < 5 := Nat.lt_of_lt_of_le hi kCt_le
  have hcc : c = 2 ∨ c = 36 := by rcases hX.2.2.2.1 with ⟨-, z⟩ | ⟨-, z⟩ <;> omega
  obtain ⟨f1, f2, hk, f9⟩ := hs
  obtain ⟨s, es⟩ : ∃ s, s = sc (isBl B) n k := ⟨_, rfl⟩
  have hsn : s ≤ n := by rw [es]; exact sc_le hk
  obtain ⟨lo, elo⟩ : ∃ lo, lo = kLo kd i := ⟨_, rfl⟩
  obtain ⟨u, eu⟩ : ∃ u, u = kUp kd P ng i := ⟨_, rfl⟩
  have hlo : lo ≤ 3 := by rw [elo]; exact kLo_le
  have hu : u ≤ 1000 := by rw [eu]; exact kUp_le hP2 hg2
  obtain ⟨no, eno⟩ : ∃ no, no = (if kSm kd = true ∧ i = 1 then some x else none) := ⟨_, rfl⟩
  rw [← elo, ← eu, ← eno]
  have enum : numR B n (.inr k) lo u no = if sc (isDg B) n s = s then .inl (1, s) else if dg B n s 0 < lo ∨ u ≤ dg B n s 0 ∨ no = some (dg B n s 0) then .inl (2, s) else .inr (dg B n s 0, sc (isDg B) n s) := by rw [es]; rfl
  have en2 : ∀ v, no = some v ↔ (kSm kd = true ∧ i = 1 ∧ v = x) := fun v => by
    rw [eno]
    by_cases z : kSm kd = true ∧ i = 1
    · rw [if_pos z]
      exact ⟨fun y => ⟨z.1, z.2, (Option.some.inj y).symm⟩, fun y => by rw [y.2.2]⟩
    · rw [if_neg z]
      exact ⟨fun y => (by cases y), fun y => absurd ⟨y.1, y.2.1⟩ z⟩
  refine zMet.of (ls := [some (.ref (b + 1)), some (.int (nI kd)), some (.int (nI i)), none, none]) (by decide) (zle rfl) 2 rfl ?_
  intro G hlG C hR hE hin
  have bad : ∀ (hc : zH) (p w : Nat), cMv h p hc → p ≤ n → 1 ≤ w → w ≤ 4 → numR B n (.inr k) lo u no = .inl (w, s) → t = t ∧ cNu h n i (numR B n (.inr k) lo u no) (zsI (zsI hc 1 1 (nI w)) 1 2 (nI s)) := fun hc p w mv hp h1 h4 e => by
    rw [e]
    refine ⟨rfl, fun i' j z y => ?_, mv.2.2, ⟨?_, h1, h4, zI_self _ _ _ _, p, hp, ?_⟩, fun p z => by cases z⟩
    · rw [zI_sI, if_neg (by omega), zI_sI, if_neg (by omega)]; exact mv.2.1 _ _ (by omega)
    · rw [zI_sI, if_neg (by omega)]; exact zI_self _ _ _ _
    · rw [zI_sI, if_neg (by omega), zI_sI, if_neg (by omega)]; exact mv.1
  have s89 : ∀ (hc : zH) (p v : Nat), cMv h p hc → p ≤ n → v ≤ 100000 → sc (isDg B) n s = p → dg B n s 0 = v → zAW E b G 5 0 0 89 [some (.ref (b + 1)), some (.int (nI kd)), some (.int (nI i)), some (.int (nI s)), some (.int (nI v))] [] t hc := by
    intro hc p v mv hp hv ep ev
    rw [ep, ev] at enum
    have e1 : zI hc c 0 = nI P := (mv.2.1 _ _ (by omega)).trans hP
    have e2 : zI hc c 3 = nI ng := (mv.2.1 _ _ (by omega)).trans hg
    have e3 : i = 1 → zI hc 35 0 = nI x := fun z => (mv.2.1 _ _ (by omega)).trans (h0 z)
    have s139 : numR B n (.inr k) lo u no = .inl (2, s) → zAW E b G 5 0 0 139 [some (.ref (b + 1)), some (.int (nI kd)), some (.int (nI i)), some (.int (nI s)), some (.int (nI v))] [] t hc := by
      intro z
      refine zz_aload_0 C dX3_readNumber_139 <| zz_iconst_2 C dX3_readNumber_140 <| zz_iload_3 C dX3_readNumber_141 <| zpc 142 rfl <| ?_
      refine zf_callVV C hR [_, _] (c3_fail hX _ _) lX3_66 rfl (tX_K_reader hX) (by decide) rfl ⟨zle rfl, zle rfl, zle rfl, zle rfl⟩ (zle rfl) dX3_readNumber_142 ?_
      refine zz_goto C 156 dX3_readNumber_145 (by decide) <| zpc 156 rfl <| ?_
      refine zy_return C hE (zle rfl) (zle rfl) dX3_readNumber_156 ?_
      exact bad hc p 2 mv hp (by omega) (by omega) z
    refine zz_aload_0 C dX3_readNumber_89 <| zz_getI C fX3_47 (tX_K_reader hX) dX3_readNumber_90 <| zpc 93 rfl <| ?_
    rw [mv.1]
    refine zz_iload_3 C dX3_readNumber_93 <| zpc 94 rfl <| ?_
    refine zz_icmp_ne C 106 dX3_readNumber_94 (by decide) (fun c94 => ?_) (fun c94 => ?_)
    · rw [nI_eq (by omega) (by omega)] at c94
      refine zz_iload_4 C dX3_readNumber_106 <| zz_aload_0 C dX3_readNumber_108 <| zz_iload_1 C dX3_readNumber_109 <| zz_iload_2 C dX3_readNumber_110 <| zpc 111 rfl <| ?_
      refine zf_callVI C hR [_, _] (c3_leastOf hX kd i hkd hi) lX3_129 rfl (tX_K_reader hX) (by decide) rfl ⟨zle rfl, zle rfl, zle rfl, zle rfl⟩ (zle rfl) dX3_readNumber_111 ?_
      rw [← elo]
      refine zz_icmp_lt C 139 dX3_readNumber_114 (by decide) (fun c114 => ?_) (fun c114 => ?_)
      · rw [nI_ltI (by omega) (by omega)] at c114
        first
        | exact s139 (by rw [enum, if_neg c94, if_pos (Or.inl c114)])
        | exact s139 (by rw [enum, if_neg c94, if_pos (Or.inr (Or.inl c125))])
        | exact s139 (by rw [enum, if_neg c94, if_pos (Or.inr (Or.inr c136))])
      · rw [nI_ltI (by omega) (by omega)] at c114
        refine zz_iload_4 C dX3_readNumber_117 <| zz_aload_0 C dX3_readNumber_119 <| zz_iload_1 C dX3_readNumber_120 <| zz_iload_2 C dX3_readNumber_121 <| zpc 122 rfl <| ?_
        refine zf_callVI C hR [_, _] (c3_mostOf hX kd i P ng hkd hi e1 e2) lX3_132 rfl (tX_K_reader hX) (by decide) rfl ⟨zle rfl, zle rfl, zle rfl, zle rfl⟩ (zle rfl) dX3_readNumber_122 ?_
        rw [← eu]
        refine zz_icmp_gt C 139 dX3_readNumber_125 (by decide) (fun c125 => ?_) (fun c125 => ?_)
        · rw [nI_gtS (by omega) (by omega)] at c125
          first
          | exact s139 (by rw [enum, if_neg c94, if_pos (Or.inl c114)])
          | exact s139 (by rw [enum, if_neg c94, if_pos (Or.inr (Or.inl c125))])
          | exact s139 (by rw [enum, if_neg c94, if_pos (Or.inr (Or.inr c136))])
        · rw [nI_gtS (by omega) (by omega)] at c125
          refine zz_aload_0 C dX3_readNumber_128 <| zz_iload_1 C dX3_readNumber_129 <| zz_iload_2 C dX3_readNumber_130 <| zz_iload_4 C dX3_readNumber_131 <| zpc 133 rfl <| ?_
          refine zf_callVI C hR [_, _, _] (c3_same hX kd i v x hkd (by omega) (by omega) hx0 e3) lX3_135 rfl (tX_K_reader hX) (by decide) rfl ⟨zle rfl, zle rfl, zle rfl, zle rfl⟩ (zle rfl) dX3_readNumber_133 ?_
          refine zz_if_eq C 148 dX3_readNumber_136 (by decide) (fun c136 => ?_) (fun c136 => ?_)
          · first | rw [zb_ne0, ← en2] at c136 | rw [zb_eq0, ← en2] at c136
            refine zz_aload_0 C dX3_readNumber_148 <| zz_getR C fX3_32 (tX_K_reader hX) (tX_R_numbers hX) dX3_readNumber_149 <| zz_iload_2 C dX3_readNumber_152 <| zz_iload_4 C dX3_readNumber_153 <| zc_iastore C _ (tX_K_numbers hX) (znI (by omega)) (by omega) dX3_readNumber_155 <| zpc 156 rfl <| ?_
            refine zy_return C hE (zle rfl) (zle rfl) dX3_readNumber_156 ?_
            first
            | exact bad hc p 1 mv hp (by omega) (by omega) (by rw [enum, if_pos c94])
            | (rw [enum, if_neg c94, if_neg (by rintro (y | y | y); exact c114 y; exact c125 y; exact c136 y)]
               exact ⟨rfl, fun i' j z y => (by rw [zI_sI, if_neg (by omega)]; exact mv.2.1 _ _ (by omega)), mv.2.2, ⟨(by rw [zI_sI, if_neg (by omega), mv.2.1 _ _ (by omega)]; exact f1), (by rw [zI_sI, if_neg (by omega)]; exact mv.1), hp, (by rw [zI_sI, if_neg (by omega), mv.2.1 _ _ (by omega)]; exact f9)⟩, fun q _ => zI_self _ _ _ _⟩)
          · first | rw [zb_ne0, ← en2] at c136 | rw [zb_eq0, ← en2] at c136
            first
            | exact s139 (by rw [enum, if_neg c94, if_pos (Or.inl c114)])
            | exact s139 (by rw [enum, if_neg c94, if_pos (Or.inr (Or.inl c125))])
            | exact s139 (by rw [enum, if_neg c94, if_pos (Or.inr (Or.inr c136))])
    · rw [nI_eq (by omega) (by omega)] at c94
      refine zz_aload_0 C dX3_readNumber_97 <| zz_iconst_1 C dX3_readNumber_98 <| zz_iload_3 C dX3_readNumber_99 <| zpc 100 rfl <| ?_
      refine zf_callVV C hR [_, _] (c3_fail hX _ _) lX3_66 rfl (tX_K_reader hX) (by decide) rfl ⟨zle rfl, zle rfl, zle rfl, zle rfl⟩ (zle rfl) dX3_readNumber_100 ?_
      refine zz_goto C 156 dX3_readNumber_103 (by decide) <| zpc 156 rfl <| ?_
      refine zy_return C hE (zle rfl) (zle rfl) dX3_readNumber_156 ?_
      first
      | exact bad hc p 1 mv hp (by omega) (by omega) (by rw [enum, if_pos c94])
      | (rw [enum, if_neg c94, if_neg (by rintro (y | y | y); exact c114 y; exact c125 y; exact c136 y)]
         exact ⟨rfl, fun i' j z y => (by rw [zI_sI, if_neg (by omega)]; exact mv.2.1 _ _ (by omega)), mv.2.2, ⟨(by rw [zI_sI, if_neg (by omega), mv.2.1 _ _ (by omega)]; exact f1), (by rw [zI_sI, if_neg (by omega)]; exact mv.1), hp, (by rw [zI_sI, if_neg (by omega), mv.2.1 _ _ (by omega)]; exact f9)⟩, fun q _ => zI_self _ _ _ _⟩)
  have lp : ∀ p, p ≤ n → ∀ (hc : zH) (v : Nat), cMv h p hc → v ≤ 100000 → sc (isDg B) n s = sc (isDg B) n p → dg B n s 0 = dg B n p v → zAW E b G 5 0 0 12 [some (.ref (b + 1)), some (.int (nI kd)), some (.int (nI i)), some (.int (nI s)), some (.int (nI v))] [] t hc := by
    refine zLoop n fun p hp ih hc v mv hv ep ev => ?_
    have hx2 := hx.ag mv.ag
    have hxp : p < n → _ := hx2.2 p
    have hBp : p < n → B p < 256 := ht.2 p
    have fin : ¬ (p < n ∧ isDg B p = true) → zAW E b G 5 0 0 89 [some (.ref (b + 1)), some (.int (nI kd)), some (.int (nI i)), some (.int (nI s)), some (.int (nI v))] [] t hc := fun z => s89 hc p v mv hp hv (by rw [ep, sc_f z]) (by rw [ev, dg_f z])
    have dgI : isDg B p = true ↔ 48 ≤ B p ∧ B p ≤ 57 := decide_eq_true_iff
    refine zz_aload_0 C dX3_readNumber_12 <| zz_getI C fX3_47 (tX_K_reader hX) dX3_readNumber_13 <| zpc 16 rfl <| ?_
    rw [mv.1]
    refine zz_aload_0 C dX3_readNumber_16 <| zz_getI C fX3_41 (tX_K_reader hX) dX3_readNumber_17 <| zpc 20 rfl <| ?_
    rw [hx2.1]
    refine zz_icmp_ge C 89 dX3_readNumber_20 (by decide) (fun c20 => ?_) (fun c20 => ?_)
    · rw [nI_leI (by omega) (by omega)] at c20
      first
      | exact fin (fun z => by omega)
      | exact fin (fun z => by have := dgI.mp z.2; omega)
    · rw [nI_leI (by omega) (by omega)] at c20
      refine zz_aload_0 C dX3_readNumber_23 <| zz_getR C fX3_28 (tX_K_reader hX) (tX_R_tape hX) dX3_readNumber_24 <| zz_aload_0 C dX3_readNumber_27 <| zz_getI C fX3_47 (tX_K_reader hX) dX3_readNumber_28 <| zpc 31 rfl <| ?_
      rw [mv.1]
      refine zc_iaload C _ (tX_K_tape hX) (znI (by omega)) (by omega) dX3_readNumber_31 <| zpc 32 rfl <| ?_
      rw [hxp (by omega)]
      refine zz_bipush C 48 dX3_readNumber_32 (by decide) <| zpc 34 rfl <| ?_
      refine zz_icmp_lt C 89 dX3_readNumber_34 (by decide) (fun c34 => ?_) (fun c34 => ?_)
      · rw [show (48 : Int32) = nI 48 from rfl, nI_ltI (by have := hBp (by omega); omega) (by omega)] at c34
        first
        | exact fin (fun z => by omega)
        | exact fin (fun z => by have := dgI.mp z.2; omega)
      · rw [show (48 : Int32) = nI 48 from rfl, nI_ltI (by have := hBp (by omega); omega) (by omega)] at c34
        refine zz_aload_0 C dX3_readNumber_37 <| zz_getR C fX3_28 (tX_K_reader hX) (tX_R_tape hX) dX3_readNumber_38 <| zz_aload_0 C dX3_readNumber_41 <| zz_getI C fX3_47 (tX_K_reader hX) dX3_readNumber_42 <| zpc 45 rfl <| ?_
        rw [mv.1]
        refine zc_iaload C _ (tX_K_tape hX) (znI (by omega)) (by omega) dX3_readNumber_45 <| zpc 46 rfl <| ?_
        rw [hxp (by omega)]
        refine zz_bipush C 57 dX3_readNumber_46 (by decide) <| zpc 48 rfl <| ?_
        refine zz_icmp_gt C 89 dX3_readNumber_48 (by decide) (fun c48 => ?_) (fun c48 => ?_)
        · rw [show (57 : Int32) = nI 57 from rfl, nI_ltI (by omega) (by have := hBp (by omega); omega)] at c48
          first
          | exact fin (fun z => by omega)
          | exact fin (fun z => by have := dgI.mp z.2; omega)
        · rw [show (57 : Int32) = nI 57 from rfl, nI_ltI (by omega) (by have := hBp (by omega); omega)] at c48
          refine zz_ldc C dX3_readNumber_51 kX3_128 <| zz_iload_4 C dX3_readNumber_53 <| zz_bipush C 10 dX3_readNumber_55 (by decide) <| zz_imul C dX3_readNumber_57 <| zpc 58 rfl <| ?_
          rw [show (10 : Int32) = nI 10 from rfl, pk_mul]
          refine zz_aload_0 C dX3_readNumber_58 <| zz_getR C fX3_28 (tX_K_reader hX) (tX_R_tape hX) dX3_readNumber_59 <| zz_aload_0 C dX3_readNumber_62 <| zz_getI C fX3_47 (tX_K_reader hX) dX3_readNumber_63 <| zpc 66 rfl <| ?_
          rw [mv.1]
          refine zc_iaload C _ (tX_K_tape hX) (znI (by omega)) (by omega) dX3_readNumber_66 <| zpc 67 rfl <| ?_
          rw [hxp (by omega)]
          refine zz_iadd C dX3_readNumber_67 <| zpc 68 rfl <| ?_
          rw [nI_add]
          refine zz_bipush C 48 dX3_readNumber_68 (by decide) <| zz_isub C dX3_readNumber_70 <| zpc 71 rfl <| ?_
          rw [show (48 : Int32) = nI 48 from rfl, pk_sub (by omega)]
          refine zz_mmin C hR (zle rfl) mX3_35 (zle rfl) (zle rfl) (zle rfl) dX3_readNumber_71 <| zpc 74 rfl <| ?_
          rw [show (100000 : Int32) = nI 100000 from rfl, nI_min (by omega) (by have := hBp (by omega); omega)]
          refine zz_istore_4 C (zle rfl) rfl dX3_readNumber_74 <| zz_aload_0 C dX3_readNumber_76 <| zz_dup C dX3_readNumber_77 rfl <| zz_getI C fX3_47 (tX_K_reader hX) dX3_readNumber_78 <| zpc 81 rfl <| ?_
          rw [mv.1]
          refine zz_iconst_1 C dX3_readNumber_81 <| zz_iadd C dX3_readNumber_82 <| zpc 83 rfl <| ?_
          rw [show (1 : Int32) = nI 1 from rfl, nI_add]
          refine zy_putI C fX3_47 pX3_7 (tX_K_reader hX) dX3_readNumber_83 <| zz_goto C 12 dX3_readNumber_86 (by decide) <| zpc 12 rfl <| ?_
          have hd : isDg B p = true := dgI.mpr ⟨by omega, by omega⟩
          have hpn : p < n := by omega
          refine ih hpn _ _ (mv.nx (p + 1)) (Nat.min_le_left _ _) (by rw [ep]; exact sc_t hpn hd) ?_
          rw [ev, dg_t hpn hd]
          congr 1
          have := (dgI.mp hd).1
          congr 1
          omega
  refine zz_aload_0 C dX3_readNumber_0 <| zpc 1 rfl <| ?_
  refine zy_callVV C hR [] (c3_skip hX ht hx k hk f2) lX3_53 rfl (tX_K_reader hX) (by decide) rfl ⟨zle rfl, zle rfl, zle rfl, zle rfl⟩ (zle rfl) dX3_readNumber_1 ?_
  intro t1 h1 hv; obtain ⟨rfl, mv⟩ := hv; rw [← es] at mv
  refine zz_aload_0 C dX3_readNumber_4 <| zz_getI C fX3_47 (tX_K_reader hX) dX3_readNumber_5 <| zpc 8 rfl <| ?_
  rw [mv.1]
  refine zz_istore_3 C (zle rfl) rfl dX3_readNumber_8 <| zz_iconst_0 C dX3_readNumber_9 <| zz_istore_4 C (zle rfl) rfl dX3_readNumber_10 <| zpc 12 rfl <| ?_
  exact lp s hsn h1 0 mv (by omega) rfl rfl
end CNU
