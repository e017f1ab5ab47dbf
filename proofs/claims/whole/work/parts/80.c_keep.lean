/-! ===== the least of some: as both find it ===== -/
def zMin (cost : Nat → Int64) (key : Nat → Int32) (s : Int32 × Int64) : Nat → Int32 × Int64
  | 0 => s
  | k + 1 => if cost k < (zMin cost key s k).2 then (key k, cost k) else zMin cost key s k
def zMinW (cost : Nat → Int64) : Nat → Int32 × Int64
  | 0 => (-1, 0)
  | k + 1 => if (zMinW cost k).1 = -1 ∨ cost k < (zMinW cost k).2 then (nI k, cost k) else zMinW cost k
noncomputable def kMin (D : yD) (R : Nat × (Nat → Nat)) (d : Nat) (sd : Int32) : Nat → Int32 × Int64 := zMin (fun k => lN (dCo (dTl D (1 + k)) yP0 R 0 d sd)) (fun k => nI (1 + k)) (0, lN (dCo (dTl D 0) yP0 R 0 d sd))
noncomputable def oMin (D : yD) (R : Nat × (Nat → Nat)) (d : Nat) (sd : Int32) : Nat → Int32 × Int64 := zMin (fun k => lN (dCo (dLw D (4 + k)) yP0 R 0 d sd)) (fun k => nI (4 + k)) (3, lN (dCo (dLw D 3) yP0 R 0 d sd))
noncomputable def bMin (D : yD) (R : Nat × (Nat → Nat)) (d : Nat) (sd : Int32) : Nat → Int32 × Int64 := zMin (fun k => lN (dCo (dMe D k) yP0 R 0 d sd)) nI (-1, lN (dCo D yP0 R 0 d sd))
noncomputable def wMin (D : yD) (Mo : Nat × (Nat → Nat → Nat)) (R : Nat × (Nat → Nat)) (d : Nat) (sd : Int32) : Nat → Int32 × Int64 := zMinW (fun k => lN (dCo (dNw D Mo k) yP0 R 0 d sd))
noncomputable def hMin (D : yD) (R : Nat × (Nat → Nat)) (d : Nat) (sd : Int32) (g : Nat) (s : Int32 × Int64) : Nat → Int32 × Int64 := zMin (fun y => lN (dCo D (pHe yP0 g (1 + y)) R 0 d sd)) (fun y => nI (10 * g + (1 + y))) s
noncomputable def gMin (D : yD) (R : Nat × (Nat → Nat)) (d : Nat) (sd : Int32) : Nat → Int32 × Int64
  | 0 => (-1, lN (dCo D yP0 R 0 d sd))
  | g + 1 => hMin D R d sd g (gMin D R d sd g) (D.1.2.1 g 5)
theorem zMin_p {cost : Nat → Int64} {key : Nat → Int32} {s : Int32 × Int64} {k : Nat} (q : cost k < (zMin cost key s k).2) : zMin cost key s (k + 1) = (key k, cost k) := if_pos q
theorem zMin_n {cost : Nat → Int64} {key : Nat → Int32} {s : Int32 × Int64} {k : Nat} (q : ¬ cost k < (zMin cost key s k).2) : zMin cost key s (k + 1) = zMin cost key s k := if_neg q
theorem zMinW_p {cost : Nat → Int64} {k : Nat} (q : (zMinW cost k).1 = -1 ∨ cost k < (zMinW cost k).2) : zMinW cost (k + 1) = (nI k, cost k) := if_pos q
theorem zMinW_n {cost : Nat → Int64} {k : Nat} (q : ¬ ((zMinW cost k).1 = -1 ∨ cost k < (zMinW cost k).2)) : zMinW cost (k + 1) = zMinW cost k := if_neg q
section CK
variable {E : zE} {b : Nat} {G : zG} {t : zT} {h : zH} {l : Launch} {a c e : Nat} {D : yD} {Mo : Nat × (Nat → Nat → Nat)} {R : Nat × (Nat → Nat)}
theorem c10_keep1 (hX : zTX t a c e) (hO : dOk D Mo R) (hm : cSn h a D Mo R) (sd : Int32) (d : Nat) (hd1 : 1 ≤ d) (hd : d ≤ 366) : zMet E b l yX10_keep cX10_keep 8 (some .int) 9 0 0 [.ref (b + 0), .int (nI d)] t h (qI (fun v t' h' => v = (kMin D R d sd 20).1 ∧ cAsk t a h t' h')) := by
  have hn := hO.2.2.1
  refine zMet.of (ls := [some (.ref (b + 0)), some (.int (nI d)), none, none, none, none, none, none]) (by decide) (zle rfl) 6 rfl ?_
  intro G hlG C hR hE hin
  have lp : ∀ k, k ≤ 20 → ∀ (tc : zT) (hc : zH) (v : Int32) (w : Int64) (y6 y7 : Option Value), cCo t a h tc hc → v = (kMin D R d sd k).1 → w = (kMin D R d sd k).2 → zAW E b G 8 0 0 16 [some (.ref (b + 0)), some (.int (nI d)), some (.int v), some (.long w), none, some (.int (nI ((1 + k)))), y6, y7] [] tc hc := by
    refine zLoop (20) fun k hk ih tc hc v w y6 y7 k1 ev ew => ?_
    have hmc := k1.sn hX hO hm
    have hX := k1.X hX
    refine zz_iload_5 C dX10_keep_16 <| zz_bipush C 20 dX10_keep_18 (by decide) <| zpc 20 rfl <| ?_
    refine zz_icmp_gt C 51 dX10_keep_20 (by decide) (fun c20 => ?_) (fun c20 => ?_)
    · rw [show (20 : Int32) = nI 20 from rfl, nI_ltI (by omega) (by omega)] at c20
      refine zz_iload_2 C dX10_keep_51 <| zpc 52 rfl <| ?_
      refine zy_ireturn C hE (zle rfl) (zle rfl) dX10_keep_52 ?_
      have e9 : k = 20 := by omega
      subst e9
      exact ⟨ev, k1.ask⟩
    · rw [show (20 : Int32) = nI 20 from rfl, nI_ltI (by omega) (by omega)] at c20
      refine zz_aload_0 C dX10_keep_23 <| zz_iload_5 C dX10_keep_24 <| zz_iload_1 C dX10_keep_26 <| zpc 27 rfl <| ?_
      refine zy_callVJ C hR [_, _] (c10_tollCost hX hO hmc sd (1 + k) d (by omega) hd) lX10_275 rfl (tX_K_X hX) (by decide) rfl ⟨zle rfl, zle rfl, zle rfl, zle rfl⟩ (zle rfl) dX10_keep_27 ?_
      intro w2 t2 h2 hv; obtain ⟨k2, ew2, -⟩ := hv
      refine zz_lstore_6 C (zle rfl) rfl dX10_keep_30 <| zz_lload_6 C dX10_keep_32 <| zz_lload_3 C dX10_keep_34 <| zz_lcmp C dX10_keep_35 <| zpc 36 rfl <| ?_
      refine zz_if_ge C 45 dX10_keep_36 (by decide) (fun c36 => ?_) (fun c36 => ?_)
      · rw [lg_cmp_ge, ← Int64.not_lt, ew2, ew] at c36
        refine zz_iinc_5 C _ (zle rfl) rfl dX10_keep_45 nI_s <| zz_goto C 16 dX10_keep_48 (by decide) <| zpc 16 rfl <| ?_
        first
        | (have hp := zMin_p (Classical.not_not.mp c36); exact ih (by omega) _ _ _ _ _ _ (k1.tr k2) (congrArg Prod.fst hp).symm (ew2.trans (congrArg Prod.snd hp).symm))
        | (have hp := zMin_n c36; exact ih (by omega) _ _ _ _ _ _ (k1.tr k2) (ev.trans (congrArg Prod.fst hp).symm) (ew.trans (congrArg Prod.snd hp).symm))
      · rw [lg_cmp_ge, ← Int64.not_lt, ew2, ew] at c36
        refine zz_lload_6 C dX10_keep_39 <| zz_lstore_3 C (zle rfl) rfl dX10_keep_41 <| zz_iload_5 C dX10_keep_42 <| zz_istore_2 C (zle rfl) rfl dX10_keep_44 <| zz_iinc_5 C _ (zle rfl) rfl dX10_keep_45 nI_s <| zz_goto C 16 dX10_keep_48 (by decide) <| zpc 16 rfl <| ?_
        first
        | (have hp := zMin_p (Classical.not_not.mp c36); exact ih (by omega) _ _ _ _ _ _ (k1.tr k2) (congrArg Prod.fst hp).symm (ew2.trans (congrArg Prod.snd hp).symm))
        | (have hp := zMin_n c36; exact ih (by omega) _ _ _ _ _ _ (k1.tr k2) (ev.trans (congrArg Prod.fst hp).symm) (ew.trans (congrArg Prod.snd hp).symm))
  refine zz_iload_1 C dX10_keep_0 <| zpc 1 rfl <| ?_
  refine zf_callSV C hR [_] (c10_days1 d hd1 hd) lX10_192 rfl ⟨zle rfl, zle rfl, zle rfl, zle rfl⟩ (zle rfl) dX10_keep_1 ?_
  refine zz_iconst_0 C dX10_keep_4 <| zz_istore_2 C (zle rfl) rfl dX10_keep_5 <| zz_aload_0 C dX10_keep_6 <| zz_iconst_0 C dX10_keep_7 <| zz_iload_1 C dX10_keep_8 <| zpc 9 rfl <| ?_
  refine zy_callVJ C hR [_, _] (c10_tollCost hX hO hm sd 0 d (by omega) hd) lX10_275 rfl (tX_K_X hX) (by decide) rfl ⟨zle rfl, zle rfl, zle rfl, zle rfl⟩ (zle rfl) dX10_keep_9 ?_
  intro w t2 h2 hv; obtain ⟨k2, ew, -⟩ := hv
  refine zz_lstore_3 C (zle rfl) rfl dX10_keep_12 <| zz_iconst_1 C dX10_keep_13 <| zz_istore_5 C (zle rfl) rfl dX10_keep_14 <| zpc 16 rfl <| ?_
  exact lp 0 (by omega) _ _ _ _ _ _ k2 rfl ew
theorem c10_other1 (hX : zTX t a c e) (hO : dOk D Mo R) (hm : cSn h a D Mo R) (sd : Int32) (d : Nat) (hd1 : 1 ≤ d) (hd : d ≤ 366) : zMet E b l yX10_other cX10_other 8 (some .int) 9 0 0 [.ref (b + 0), .int (nI d)] t h (qI (fun v t' h' => v = (oMin D R d sd 8).1 ∧ cAsk t a h t' h')) := by
  have hn := hO.2.2.1
  refine zMet.of (ls := [some (.ref (b + 0)), some (.int (nI d)), none, none, none, none, none, none]) (by decide) (zle rfl) 6 rfl ?_
  intro G hlG C hR hE hin
  have lp : ∀ k, k ≤ 8 → ∀ (tc : zT) (hc : zH) (v : Int32) (w : Int64) (y6 y7 : Option Value), cCo t a h tc hc → v = (oMin D R d sd k).1 → w = (oMin D R d sd k).2 → zAW E b G 8 0 0 16 [some (.ref (b + 0)), some (.int (nI d)), some (.int v), some (.long w), none, some (.int (nI ((4 + k)))), y6, y7] [] tc hc := by
    refine zLoop (8) fun k hk ih tc hc v w y6 y7 k1 ev ew => ?_
    have hmc := k1.sn hX hO hm
    have hX := k1.X hX
    refine zz_iload_5 C dX10_other_16 <| zz_bipush C 11 dX10_other_18 (by decide) <| zpc 20 rfl <| ?_
    refine zz_icmp_gt C 51 dX10_other_20 (by decide) (fun c20 => ?_) (fun c20 => ?_)
    · rw [show (11 : Int32) = nI 11 from rfl, nI_ltI (by omega) (by omega)] at c20
      refine zz_iload_2 C dX10_other_51 <| zpc 52 rfl <| ?_
      refine zy_ireturn C hE (zle rfl) (zle rfl) dX10_other_52 ?_
      have e9 : k = 8 := by omega
      subst e9
      exact ⟨ev, k1.ask⟩
    · rw [show (11 : Int32) = nI 11 from rfl, nI_ltI (by omega) (by omega)] at c20
      refine zz_aload_0 C dX10_other_23 <| zz_iload_5 C dX10_other_24 <| zz_iload_1 C dX10_other_26 <| zpc 27 rfl <| ?_
      refine zy_callVJ C hR [_, _] (c10_lawCost hX hO hmc sd (4 + k) d (by omega) (by omega) hd) lX10_320 rfl (tX_K_X hX) (by decide) rfl ⟨zle rfl, zle rfl, zle rfl, zle rfl⟩ (zle rfl) dX10_other_27 ?_
      intro w2 t2 h2 hv; obtain ⟨k2, ew2⟩ := hv
      refine zz_lstore_6 C (zle rfl) rfl dX10_other_30 <| zz_lload_6 C dX10_other_32 <| zz_lload_3 C dX10_other_34 <| zz_lcmp C dX10_other_35 <| zpc 36 rfl <| ?_
      refine zz_if_ge C 45 dX10_other_36 (by decide) (fun c36 => ?_) (fun c36 => ?_)
      · rw [lg_cmp_ge, ← Int64.not_lt, ew2, ew] at c36
        refine zz_iinc_5 C _ (zle rfl) rfl dX10_other_45 nI_s <| zz_goto C 16 dX10_other_48 (by decide) <| zpc 16 rfl <| ?_
        first
        | (have hp := zMin_p (Classical.not_not.mp c36); exact ih (by omega) _ _ _ _ _ _ (k1.tr k2) (congrArg Prod.fst hp).symm (ew2.trans (congrArg Prod.snd hp).symm))
        | (have hp := zMin_n c36; exact ih (by omega) _ _ _ _ _ _ (k1.tr k2) (ev.trans (congrArg Prod.fst hp).symm) (ew.trans (congrArg Prod.snd hp).symm))
      · rw [lg_cmp_ge, ← Int64.not_lt, ew2, ew] at c36
        refine zz_lload_6 C dX10_other_39 <| zz_lstore_3 C (zle rfl) rfl dX10_other_41 <| zz_iload_5 C dX10_other_42 <| zz_istore_2 C (zle rfl) rfl dX10_other_44 <| zz_iinc_5 C _ (zle rfl) rfl dX10_other_45 nI_s <| zz_goto C 16 dX10_other_48 (by decide) <| zpc 16 rfl <| ?_
        first
        | (have hp := zMin_p (Classical.not_not.mp c36); exact ih (by omega) _ _ _ _ _ _ (k1.tr k2) (congrArg Prod.fst hp).symm (ew2.trans (congrArg Prod.snd hp).symm))
        | (have hp := zMin_n c36; exact ih (by omega) _ _ _ _ _ _ (k1.tr k2) (ev.trans (congrArg Prod.fst hp).symm) (ew.trans (congrArg Prod.snd hp).symm))
  refine zz_iload_1 C dX10_other_0 <| zpc 1 rfl <| ?_
  refine zf_callSV C hR [_] (c10_days1 d hd1 hd) lX10_192 rfl ⟨zle rfl, zle rfl, zle rfl, zle rfl⟩ (zle rfl) dX10_other_1 ?_
  refine zz_iconst_3 C dX10_other_4 <| zz_istore_2 C (zle rfl) rfl dX10_other_5 <| zz_aload_0 C dX10_other_6 <| zz_iconst_3 C dX10_other_7 <| zz_iload_1 C dX10_other_8 <| zpc 9 rfl <| ?_
  refine zy_callVJ C hR [_, _] (c10_lawCost hX hO hm sd 3 d (by omega) (by omega) hd) lX10_320 rfl (tX_K_X hX) (by decide) rfl ⟨zle rfl, zle rfl, zle rfl, zle rfl⟩ (zle rfl) dX10_other_9 ?_
  intro w t2 h2 hv; obtain ⟨k2, ew⟩ := hv
  refine zz_lstore_3 C (zle rfl) rfl dX10_other_12 <| zz_iconst_4 C dX10_other_13 <| zz_istore_5 C (zle rfl) rfl dX10_other_14 <| zpc 16 rfl <| ?_
  exact lp 0 (by omega) _ _ _ _ _ _ k2 rfl ew
theorem c10_beside1 (hX : zTX t a c e) (hO : dOk D Mo R) (hm : cSn h a D Mo R) (sd : Int32) (d : Nat) (hd1 : 1 ≤ d) (hd : d ≤ 366) : zMet E b l yX10_beside cX10_beside 8 (some .int) 9 0 0 [.ref (b + 0), .int (nI d)] t h (qI (fun v t' h' => v = (bMin D R d sd D.2.1.1.1).1 ∧ cAsk t a h t' h')) := by
  have hn := hO.2.2.1
  refine zMet.of (ls := [some (.ref (b + 0)), some (.int (nI d)), none, none, none, none, none, none]) (by decide) (zle rfl) 6 rfl ?_
  intro G hlG C hR hE hin
  have lp : ∀ k, k ≤ D.2.1.1.1 → ∀ (tc : zT) (hc : zH) (v : Int32) (w : Int64) (y6 y7 : Option Value), cCo t a h tc hc → v = (bMin D R d sd k).1 → w = (bMin D R d sd k).2 → zAW E b G 8 0 0 16 [some (.ref (b + 0)), some (.int (nI d)), some (.long w), none, some (.int v), some (.int (nI ((k)))), y6, y7] [] tc hc := by
    refine zLoop (D.2.1.1.1) fun k hk ih tc hc v w y6 y7 k1 ev ew => ?_
    have hmc := k1.sn hX hO hm
    have hX := k1.X hX
    refine zz_iload_5 C dX10_beside_16 <| zz_aload_0 C dX10_beside_18 <| zz_getR C fX10_19 (tX_K_X hX) (tX_R_land hX) dX10_beside_19 <| zz_getI C fX10_89 (tL_K (tX_La hX)) dX10_beside_22 <| zpc 25 rfl <| ?_
    rw [hmc.1.1.2.1]
    refine zz_icmp_ge C 57 dX10_beside_25 (by decide) (fun c25 => ?_) (fun c25 => ?_)
    · rw [nI_leI (by omega) (by omega)] at c25
      refine zz_iload_4 C dX10_beside_57 <| zpc 59 rfl <| ?_
      refine zy_ireturn C hE (zle rfl) (zle rfl) dX10_beside_59 ?_
      have e9 : k = D.2.1.1.1 := by omega
      subst e9
      exact ⟨ev, k1.ask⟩
    · rw [nI_leI (by omega) (by omega)] at c25
      refine zz_aload_0 C dX10_beside_28 <| zz_iload_5 C dX10_beside_29 <| zz_iload_1 C dX10_beside_31 <| zpc 32 rfl <| ?_
      refine zy_callVJ C hR [_, _] (c10_mendedCost hX hO hmc sd k d (by omega) hd) lX10_317 rfl (tX_K_X hX) (by decide) rfl ⟨zle rfl, zle rfl, zle rfl, zle rfl⟩ (zle rfl) dX10_beside_32 ?_
      intro w2 t2 h2 hv; obtain ⟨k2, ew2⟩ := hv
      refine zz_lstore_6 C (zle rfl) rfl dX10_beside_35 <| zz_lload_6 C dX10_beside_37 <| zz_lload_2 C dX10_beside_39 <| zz_lcmp C dX10_beside_40 <| zpc 41 rfl <| ?_
      refine zz_if_ge C 51 dX10_beside_41 (by decide) (fun c41 => ?_) (fun c41 => ?_)
      · rw [lg_cmp_ge, ← Int64.not_lt, ew2, ew] at c41
        refine zz_iinc_5 C _ (zle rfl) rfl dX10_beside_51 nI_s <| zz_goto C 16 dX10_beside_54 (by decide) <| zpc 16 rfl <| ?_
        first
        | (have hp := zMin_p (Classical.not_not.mp c41); exact ih (by omega) _ _ _ _ _ _ (k1.tr k2) (congrArg Prod.fst hp).symm (ew2.trans (congrArg Prod.snd hp).symm))
        | (have hp := zMin_n c41; exact ih (by omega) _ _ _ _ _ _ (k1.tr k2) (ev.trans (congrArg Prod.fst hp).symm) (ew.trans (congrArg Prod.snd hp).symm))
      · rw [lg_cmp_ge, ← Int64.not_lt, ew2, ew] at c41
        refine zz_lload_6 C dX10_beside_44 <| zz_lstore_2 C (zle rfl) rfl dX10_beside_46 <| zz_iload_5 C dX10_beside_47 <| zz_istore_4 C (zle rfl) rfl dX10_beside_49 <| zz_iinc_5 C _ (zle rfl) rfl dX10_beside_51 nI_s <| zz_goto C 16 dX10_beside_54 (by decide) <| zpc 16 rfl <| ?_
        first
        | (have hp := zMin_p (Classical.not_not.mp c41); exact ih (by omega) _ _ _ _ _ _ (k1.tr k2) (congrArg Prod.fst hp).symm (ew2.trans (congrArg Prod.snd hp).symm))
        | (have hp := zMin_n c41; exact ih (by omega) _ _ _ _ _ _ (k1.tr k2) (ev.trans (congrArg Prod.fst hp).symm) (ew.trans (congrArg Prod.snd hp).symm))
  refine zz_iload_1 C dX10_beside_0 <| zpc 1 rfl <| ?_
  refine zf_callSV C hR [_] (c10_days1 d hd1 hd) lX10_192 rfl ⟨zle rfl, zle rfl, zle rfl, zle rfl⟩ (zle rfl) dX10_beside_1 ?_
  refine zz_aload_0 C dX10_beside_4 <| zz_iload_1 C dX10_beside_5 <| zpc 6 rfl <| ?_
  refine zy_callVJ C hR [_] (c10_openCost hX hO hm sd d hd) lX10_271 rfl (tX_K_X hX) (by decide) rfl ⟨zle rfl, zle rfl, zle rfl, zle rfl⟩ (zle rfl) dX10_beside_6 ?_
  intro w t2 h2 hv; obtain ⟨k2, ew⟩ := hv
  refine zz_lstore_2 C (zle rfl) rfl dX10_beside_9 <| zz_iconst_m1 C dX10_beside_10 <| zz_istore_4 C (zle rfl) rfl dX10_beside_11 <| zz_iconst_0 C dX10_beside_13 <| zz_istore_5 C (zle rfl) rfl dX10_beside_14 <| zpc 16 rfl <| ?_
  exact lp 0 (by omega) _ _ _ _ _ _ k2 rfl ew
theorem c10_which1 (hX : zTX t a c e) (hO : dOk D Mo R) (hm : cSn h a D Mo R) (sd : Int32) (d : Nat) (hd1 : 1 ≤ d) (hd : d ≤ 366) : zMet E b l yX10_which cX10_which 8 (some .int) 9 0 0 [.ref (b + 0), .int (nI d)] t h (qI (fun v t' h' => v = (wMin D Mo R d sd Mo.1).1 ∧ cAsk t a h t' h')) := by
  have hM4 := hO.2.2.2.2.1
  refine zMet.of (ls := [some (.ref (b + 0)), some (.int (nI d)), none, none, none, none, none, none]) (by decide) (zle rfl) 6 rfl ?_
  intro G hlG C hR hE hin
  have lp : ∀ k, k ≤ Mo.1 → ∀ (tc : zT) (hc : zH) (v : Int32) (w : Int64) (y6 y7 : Option Value), (cCo t a h tc hc ∨ tc = t ∧ hc = h) → v = (wMin D Mo R d sd k).1 → w = (wMin D Mo R d sd k).2 → zAW E b G 8 0 0 11 [some (.ref (b + 0)), some (.int (nI d)), some (.int v), some (.long w), none, some (.int (nI k)), y6, y7] [] tc hc := by
    refine zLoop Mo.1 fun k hk ih tc hc v w y6 y7 k1 ev ew => ?_
    have hmc : cSn hc a D Mo R := by
      rcases k1 with k1 | ⟨rfl, rfl⟩
      · exact k1.sn hX hO hm
      · exact hm
    have hX : ∃ e2, zTX tc a c e2 := by
      rcases k1 with k1 | ⟨rfl, rfl⟩
      · exact ⟨a, k1.X hX⟩
      · exact ⟨e, hX⟩
    obtain ⟨e2, hX⟩ := hX
    refine zz_iload_5 C dX10_which_11 <| zz_aload_0 C dX10_which_13 <| zz_getR C fX10_19 (tX_K_X hX) (tX_R_land hX) dX10_which_14 <| zz_getI C fX10_98 (tL_K (tX_La hX)) dX10_which_17 <| zpc 20 rfl <| ?_
    rw [hmc.2.2.1.1]
    refine zz_icmp_ge C 56 dX10_which_20 (by decide) (fun c20 => ?_) (fun c20 => ?_)
    · rw [nI_leI (by omega) (by omega)] at c20
      refine zz_iload_2 C dX10_which_56 <| zpc 57 rfl <| ?_
      refine zy_ireturn C hE (zle rfl) (zle rfl) dX10_which_57 ?_
      have e9 : k = Mo.1 := by omega
      subst e9
      refine ⟨ev, ?_⟩
      rcases k1 with k1 | ⟨rfl, rfl⟩
      · exact k1.ask
      · exact ⟨Or.inl rfl, cAg.rf _⟩
    · rw [nI_leI (by omega) (by omega)] at c20
      refine zz_aload_0 C dX10_which_23 <| zz_iload_5 C dX10_which_24 <| zz_iload_1 C dX10_which_26 <| zpc 27 rfl <| ?_
      refine zy_callVJ C hR [_, _] (c10_newCost hX hO hmc sd k d (by omega) hd) lX10_307 rfl (tX_K_X hX) (by decide) rfl ⟨zle rfl, zle rfl, zle rfl, zle rfl⟩ (zle rfl) dX10_which_27 ?_
      intro w2 t2 h2 hv; obtain ⟨k2, ew2⟩ := hv; have k3 : cCo t a h t2 h2 := (by rcases k1 with k1 | ⟨rfl, rfl⟩; exact k1.tr k2; exact k2)
      refine zz_lstore_6 C (zle rfl) rfl dX10_which_30 <| zz_iload_2 C dX10_which_32 <| zz_iconst_m1 C dX10_which_33 <| zpc 34 rfl <| ?_
      refine zz_icmp_eq C 44 dX10_which_34 (by decide) (fun c34 => ?_) (fun c34 => ?_)
      · rw [ev] at c34
        refine zz_lload_6 C dX10_which_44 <| zz_lstore_3 C (zle rfl) rfl dX10_which_46 <| zz_iload_5 C dX10_which_47 <| zz_istore_2 C (zle rfl) rfl dX10_which_49 <| zz_iinc_5 C _ (zle rfl) rfl dX10_which_50 nI_s <| zz_goto C 11 dX10_which_53 (by decide) <| zpc 11 rfl <| ?_
        first
        | (have hp := zMinW_p (Or.inl c34); exact ih (by omega) _ _ _ _ _ _ (Or.inl k3) (congrArg Prod.fst hp).symm (ew2.trans (congrArg Prod.snd hp).symm))
        | (have hp := zMinW_p (Or.inr (Classical.not_not.mp c41)); exact ih (by omega) _ _ _ _ _ _ (Or.inl k3) (congrArg Prod.fst hp).symm (ew2.trans (congrArg Prod.snd hp).symm))
        | (have hp := zMinW_n (fun z => z.elim c34 c41); exact ih (by omega) _ _ _ _ _ _ (Or.inl k3) (ev.trans (congrArg Prod.fst hp).symm) (ew.trans (congrArg Prod.snd hp).symm))
      · rw [ev] at c34
        refine zz_lload_6 C dX10_which_37 <| zz_lload_3 C dX10_which_39 <| zz_lcmp C dX10_which_40 <| zpc 41 rfl <| ?_
        refine zz_if_ge C 50 dX10_which_41 (by decide) (fun c41 => ?_) (fun c41 => ?_)
        · rw [lg_cmp_ge, ← Int64.not_lt, ew2, ew] at c41
          refine zz_iinc_5 C _ (zle rfl) rfl dX10_which_50 nI_s <| zz_goto C 11 dX10_which_53 (by decide) <| zpc 11 rfl <| ?_
          first
          | (have hp := zMinW_p (Or.inl c34); exact ih (by omega) _ _ _ _ _ _ (Or.inl k3) (congrArg Prod.fst hp).symm (ew2.trans (congrArg Prod.snd hp).symm))
          | (have hp := zMinW_p (Or.inr (Classical.not_not.mp c41)); exact ih (by omega) _ _ _ _ _ _ (Or.inl k3) (congrArg Prod.fst hp).symm (ew2.trans (congrArg Prod.snd hp).symm))
          | (have hp := zMinW_n (fun z => z.elim c34 c41); exact ih (by omega) _ _ _ _ _ _ (Or.inl k3) (ev.trans (congrArg Prod.fst hp).symm) (ew.trans (congrArg Prod.snd hp).symm))
        · rw [lg_cmp_ge, ← Int64.not_lt, ew2, ew] at c41
          refine zz_lload_6 C dX10_which_44 <| zz_lstore_3 C (zle rfl) rfl dX10_which_46 <| zz_iload_5 C dX10_which_47 <| zz_istore_2 C (zle rfl) rfl dX10_which_49 <| zz_iinc_5 C _ (zle rfl) rfl dX10_which_50 nI_s <| zz_goto C 11 dX10_which_53 (by decide) <| zpc 11 rfl <| ?_
          first
          | (have hp := zMinW_p (Or.inl c34); exact ih (by omega) _ _ _ _ _ _ (Or.inl k3) (congrArg Prod.fst hp).symm (ew2.trans (congrArg Prod.snd hp).symm))
          | (have hp := zMinW_p (Or.inr (Classical.not_not.mp c41)); exact ih (by omega) _ _ _ _ _ _ (Or.inl k3) (congrArg Prod.fst hp).symm (ew2.trans (congrArg Prod.snd hp).symm))
          | (have hp := zMinW_n (fun z => z.elim c34 c41); exact ih (by omega) _ _ _ _ _ _ (Or.inl k3) (ev.trans (congrArg Prod.fst hp).symm) (ew.trans (congrArg Prod.snd hp).symm))
  refine zz_iload_1 C dX10_which_0 <| zpc 1 rfl <| ?_
  refine zf_callSV C hR [_] (c10_days1 d hd1 hd) lX10_192 rfl ⟨zle rfl, zle rfl, zle rfl, zle rfl⟩ (zle rfl) dX10_which_1 ?_
  refine zz_iconst_m1 C dX10_which_4 <| zz_istore_2 C (zle rfl) rfl dX10_which_5 <| zz_lconst_0 C dX10_which_6 <| zz_lstore_3 C (zle rfl) rfl dX10_which_7 <| zz_iconst_0 C dX10_which_8 <| zz_istore_5 C (zle rfl) rfl dX10_which_9 <| zpc 11 rfl <| ?_
  exact lp 0 (by omega) _ _ _ _ _ _ (Or.inr ⟨rfl, rfl⟩) rfl rfl
theorem c10_who1 (hX : zTX t a c e) (hO : dOk D Mo R) (hm : cSn h a D Mo R) (sd : Int32) (d : Nat) (hd1 : 1 ≤ d) (hd : d ≤ 366) : zMet E b l yX10_who cX10_who 10 (some .int) 9 0 0 [.ref (b + 0), .int (nI d)] t h (qI (fun v t' h' => v = (gMin D R d sd D.1.1.2.1).1 ∧ cAsk t a h t' h')) := by
  have hng := hO.1.1.2.1.2.2.1
  refine zMet.of (ls := [some (.ref (b + 0)), some (.int (nI d)), none, none, none, none, none, none, none, none]) (by decide) (zle rfl) 8 rfl ?_
  intro G hlG C hR hE hin
  have lp : ∀ g, g ≤ D.1.1.2.1 → ∀ (tc : zT) (hc : zH) (v : Int32) (w : Int64) (y6 y7 y8 y9 : Option Value), cCo t a h tc hc → v = (gMin D R d sd g).1 → w = (gMin D R d sd g).2 → zAW E b G 10 0 0 16 [some (.ref (b + 0)), some (.int (nI d)), some (.long w), none, some (.int v), some (.int (nI g)), y6, y7, y8, y9] [] tc hc := by
    refine zLoop D.1.1.2.1 fun g hg ih tc hc v w y6 y7 y8 y9 k1 ev ew => ?_
    have hmc := k1.sn hX hO hm
    have hX0 := hX
    have hX := k1.X hX
    have li : g < D.1.1.2.1 → ∀ y, y ≤ D.1.2.1 g 5 → ∀ (tc : zT) (hc : zH) (v : Int32) (w : Int64) (y8 y9 : Option Value), cCo t a h tc hc → v = (hMin D R d sd g (gMin D R d sd g) y).1 → w = (hMin D R d sd g (gMin D R d sd g) y).2 → zAW E b G 10 0 0 45 [some (.ref (b + 0)), some (.int (nI d)), some (.long w), none, some (.int v), some (.int (nI g)), some (.int (nI ((D.1.2.1 g 5)))), some (.int (nI ((1 + y)))), y8, y9] [] tc hc := by
      intro hgl
      have hgg := hO.1.1.2.1.2.2.2.2.1 g hgl
      refine zLoop (D.1.2.1 g 5) fun y hy ihy tc hc v w y8 y9 k1 ev ew => ?_
      have hmc := k1.sn hX0 hO hm
      have hX := k1.X hX0
      refine zz_iload_7 C dX10_who_45 <| zz_iload_6 C dX10_who_47 <| zpc 49 rfl <| ?_
      refine zz_icmp_gt C 89 dX10_who_49 (by decide) (fun c49 => ?_) (fun c49 => ?_)
      · rw [nI_ltI (by omega) (by omega)] at c49
        refine zz_iinc_5 C _ (zle rfl) rfl dX10_who_89 nI_s <| zz_goto C 16 dX10_who_92 (by decide) <| zpc 16 rfl <| ?_
        have e9 : y = D.1.2.1 g 5 := by omega
        subst e9
        exact ih hgl _ _ _ _ _ _ _ _ k1 ev ew
      · rw [nI_ltI (by omega) (by omega)] at c49
        refine zz_aload_0 C dX10_who_52 <| zz_iload_5 C dX10_who_53 <| zz_iload_7 C dX10_who_55 <| zz_iload_1 C dX10_who_57 <| zpc 58 rfl <| ?_
        refine zy_callVJ C hR [_, _, _] (c10_heldCost hX hO hmc sd g (1 + y) d (by omega) (by omega) hd) lX10_300 rfl (tX_K_X hX) (by decide) rfl ⟨zle rfl, zle rfl, zle rfl, zle rfl⟩ (zle rfl) dX10_who_58 ?_
        intro w2 t2 h2 hv; obtain ⟨k2, ew2⟩ := hv
        refine zz_lstore_8 C (zle rfl) rfl dX10_who_61 <| zz_lload_8 C dX10_who_63 <| zz_lload_2 C dX10_who_65 <| zz_lcmp C dX10_who_66 <| zpc 67 rfl <| ?_
        refine zz_if_ge C 83 dX10_who_67 (by decide) (fun c67 => ?_) (fun c67 => ?_)
        · rw [lg_cmp_ge, ← Int64.not_lt, ew2, ew] at c67
          refine zz_iinc_7 C _ (zle rfl) rfl dX10_who_83 nI_s <| zz_goto C 45 dX10_who_86 (by decide) <| zpc 45 rfl <| ?_
          first
          | (have hp := zMin_p (Classical.not_not.mp c67); exact ihy (by omega) _ _ _ _ _ _ (k1.tr k2) (congrArg Prod.fst hp).symm (ew2.trans (congrArg Prod.snd hp).symm))
          | (have hp := zMin_n c67; exact ihy (by omega) _ _ _ _ _ _ (k1.tr k2) (ev.trans (congrArg Prod.fst hp).symm) (ew.trans (congrArg Prod.snd hp).symm))
        · rw [lg_cmp_ge, ← Int64.not_lt, ew2, ew] at c67
          refine zz_lload_8 C dX10_who_70 <| zz_lstore_2 C (zle rfl) rfl dX10_who_72 <| zz_bipush C 10 dX10_who_73 (by decide) <| zz_iload_5 C dX10_who_75 <| zz_imul C dX10_who_77 <| zz_iload_7 C dX10_who_78 <| zz_iadd C dX10_who_80 <| zpc 81 rfl <| ?_
          rw [show (10 : Int32) = nI 10 from rfl, pk_mul, nI_add]
          refine zz_istore_4 C (zle rfl) rfl dX10_who_81 <| zz_iinc_7 C _ (zle rfl) rfl dX10_who_83 nI_s <| zz_goto C 45 dX10_who_86 (by decide) <| zpc 45 rfl <| ?_
          first
          | (have hp := zMin_p (Classical.not_not.mp c67); exact ihy (by omega) _ _ _ _ _ _ (k1.tr k2) (congrArg Prod.fst hp).symm (ew2.trans (congrArg Prod.snd hp).symm))
          | (have hp := zMin_n c67; exact ihy (by omega) _ _ _ _ _ _ (k1.tr k2) (ev.trans (congrArg Prod.fst hp).symm) (ew.trans (congrArg Prod.snd hp).symm))
    refine zz_iload_5 C dX10_who_16 <| zz_aload_0 C dX10_who_18 <| zz_getR C fX10_19 (tX_K_X hX) (tX_R_land hX) dX10_who_19 <| zz_getI C fX10_101 (tL_K (tX_La hX)) dX10_who_22 <| zpc 25 rfl <| ?_
    rw [hmc.1.1.2.2.1]
    refine zz_icmp_ge C 95 dX10_who_25 (by decide) (fun c25 => ?_) (fun c25 => ?_)
    · rw [nI_leI (by omega) (by omega)] at c25
      refine zz_iload_4 C dX10_who_95 <| zpc 97 rfl <| ?_
      refine zy_ireturn C hE (zle rfl) (zle rfl) dX10_who_97 ?_
      have e9 : g = D.1.1.2.1 := by omega
      subst e9
      exact ⟨ev, k1.ask⟩
    · rw [nI_leI (by omega) (by omega)] at c25
      refine zz_aload_0 C dX10_who_28 <| zz_getR C fX10_19 (tX_K_X hX) (tX_R_land hX) dX10_who_29 <| zz_getR C fX10_130 (tL_K (tX_La hX)) (tL_R_goingFacts (tX_La hX)) dX10_who_32 <| zz_iload_5 C dX10_who_35 <| zc_row C _ (tL_K_goingFacts (tX_La hX)) (tL_row_goingFacts (tX_La hX)) (znI (by omega)) (by omega) dX10_who_37 <| fun r37 => ?_
      refine zz_iconst_5 C dX10_who_38 <| zc_iaload C 5 (tL_KR_goingFacts (tX_La hX) _ r37) (zlit _ (by decide)) (by decide) dX10_who_39 <| zpc 40 rfl <| ?_
      rw [hmc.1.2.1 g (by omega) 5 (by omega)]
      refine zz_istore_6 C (zle rfl) rfl dX10_who_40 <| zz_iconst_1 C dX10_who_42 <| zz_istore_7 C (zle rfl) rfl dX10_who_43 <| zpc 45 rfl <| ?_
      exact li (by omega) 0 (by omega) _ _ _ _ _ _ k1 ev ew
  refine zz_iload_1 C dX10_who_0 <| zpc 1 rfl <| ?_
  refine zf_callSV C hR [_] (c10_days1 d hd1 hd) lX10_192 rfl ⟨zle rfl, zle rfl, zle rfl, zle rfl⟩ (zle rfl) dX10_who_1 ?_
  refine zz_aload_0 C dX10_who_4 <| zz_iload_1 C dX10_who_5 <| zpc 6 rfl <| ?_
  refine zy_callVJ C hR [_] (c10_openCost hX hO hm sd d hd) lX10_271 rfl (tX_K_X hX) (by decide) rfl ⟨zle rfl, zle rfl, zle rfl, zle rfl⟩ (zle rfl) dX10_who_6 ?_
  intro w t2 h2 hv; obtain ⟨k2, ew⟩ := hv
  refine zz_lstore_2 C (zle rfl) rfl dX10_who_9 <| zz_iconst_m1 C dX10_who_10 <| zz_istore_4 C (zle rfl) rfl dX10_who_11 <| zz_iconst_0 C dX10_who_13 <| zz_istore_5 C (zle rfl) rfl dX10_who_14 <| zpc 16 rfl <| ?_
  exact lp 0 (by omega) _ _ _ _ _ _ _ _ k2 rfl ew
theorem c10_keep0 (hX : zTX t a c e) (hlt : l.stackTraces = false) (hf : t.1.2 = false) (d : Int32) (hd : ¬ ∃ k, 1 ≤ k ∧ k ≤ 366 ∧ d = nI k) : zMetX E b l yX10_keep cX10_keep 8 (some .int) 9 1 6 [.ref (b + 0), .int d] t h xA := by
  refine zMetX.of (ls := [some (.ref (b + 0)), some (.int d), none, none, none, none, none, none]) hlt (by decide) (zle rfl) 6 rfl ?_
  intro G hlG C hR hE
  rw [← hlG] at hlt
  refine zz_iload_1 C dX10_keep_0 <| zpc 1 rfl <| ?_
  exact zx_callS C hR hE [_] (c10_days0 hlt hf d hd) lX10_192 rfl ⟨zle rfl, zle rfl, zle rfl, zle rfl⟩ (zle rfl) (zle rfl) (zle rfl) dX10_keep_1
theorem c10_who0 (hX : zTX t a c e) (hlt : l.stackTraces = false) (hf : t.1.2 = false) (d : Int32) (hd : ¬ ∃ k, 1 ≤ k ∧ k ≤ 366 ∧ d = nI k) : zMetX E b l yX10_who cX10_who 10 (some .int) 9 1 6 [.ref (b + 0), .int d] t h xA := by
  refine zMetX.of (ls := [some (.ref (b + 0)), some (.int d), none, none, none, none, none, none, none, none]) hlt (by decide) (zle rfl) 8 rfl ?_
  intro G hlG C hR hE
  rw [← hlG] at hlt
  refine zz_iload_1 C dX10_who_0 <| zpc 1 rfl <| ?_
  exact zx_callS C hR hE [_] (c10_days0 hlt hf d hd) lX10_192 rfl ⟨zle rfl, zle rfl, zle rfl, zle rfl⟩ (zle rfl) (zle rfl) (zle rfl) dX10_who_1
theorem c10_which0 (hX : zTX t a c e) (hlt : l.stackTraces = false) (hf : t.1.2 = false) (d : Int32) (hd : ¬ ∃ k, 1 ≤ k ∧ k ≤ 366 ∧ d = nI k) : zMetX E b l yX10_which cX10_which 8 (some .int) 9 1 6 [.ref (b + 0), .int d] t h xA := by
  refine zMetX.of (ls := [some (.ref (b + 0)), some (.int d), none, none, none, none, none, none]) hlt (by decide) (zle rfl) 6 rfl ?_
  intro G hlG C hR hE
  rw [← hlG] at hlt
  refine zz_iload_1 C dX10_which_0 <| zpc 1 rfl <| ?_
  exact zx_callS C hR hE [_] (c10_days0 hlt hf d hd) lX10_192 rfl ⟨zle rfl, zle rfl, zle rfl, zle rfl⟩ (zle rfl) (zle rfl) (zle rfl) dX10_which_1
theorem c10_beside0 (hX : zTX t a c e) (hlt : l.stackTraces = false) (hf : t.1.2 = false) (d : Int32) (hd : ¬ ∃ k, 1 ≤ k ∧ k ≤ 366 ∧ d = nI k) : zMetX E b l yX10_beside cX10_beside 8 (some .int) 9 1 6 [.ref (b + 0), .int d] t h xA := by
  refine zMetX.of (ls := [some (.ref (b + 0)), some (.int d), none, none, none, none, none, none]) hlt (by decide) (zle rfl) 6 rfl ?_
  intro G hlG C hR hE
  rw [← hlG] at hlt
  refine zz_iload_1 C dX10_beside_0 <| zpc 1 rfl <| ?_
  exact zx_callS C hR hE [_] (c10_days0 hlt hf d hd) lX10_192 rfl ⟨zle rfl, zle rfl, zle rfl, zle rfl⟩ (zle rfl) (zle rfl) (zle rfl) dX10_beside_1
theorem c10_other0 (hX : zTX t a c e) (hlt : l.stackTraces = false) (hf : t.1.2 = false) (d : Int32) (hd : ¬ ∃ k, 1 ≤ k ∧ k ≤ 366 ∧ d = nI k) : zMetX E b l yX10_other cX10_other 8 (some .int) 9 1 6 [.ref (b + 0), .int d] t h xA := by
  refine zMetX.of (ls := [some (.ref (b + 0)), some (.int d), none, none, none, none, none, none]) hlt (by decide) (zle rfl) 6 rfl ?_
  intro G hlG C hR hE
  rw [← hlG] at hlt
  refine zz_iload_1 C dX10_other_0 <| zpc 1 rfl <| ?_
  exact zx_callS C hR hE [_] (c10_days0 hlt hf d hd) lX10_192 rfl ⟨zle rfl, zle rfl, zle rfl, zle rfl⟩ (zle rfl) (zle rfl) (zle rfl) dX10_other_1
end CK
