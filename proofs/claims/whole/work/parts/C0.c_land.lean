/-! ===== the class: read, land ===== -/
def sY (c i : Nat) : Prop := i = 1 ∨ i = 35 ∨ (c ≤ i ∧ i ≤ c + 31)
def cAgY (c : Nat) (h h' : zH) : Prop := (∀ i j, ¬ sY c i → zI h' i j = zI h i j) ∧ ∀ i j, zL h' i j = zL h i j
theorem cAgY.tr {c : Nat} {h h1 h2 : zH} (a : cAgY c h h1) (d : cAgY c h1 h2) : cAgY c h h2 := ⟨fun i k q => (d.1 i k q).trans (a.1 i k q), fun i k => (d.2 i k).trans (a.2 i k)⟩
theorem cAgY.ofX {c : Nat} {h h' : zH} (a : cAgX c h h') : cAgY c h h' := ⟨fun i j z => a.1 i j (fun y => z (by unfold sX at y; unfold sY; omega)), a.2⟩
/-- how the reading came out -/
def cRdR (h : zH) (c : Nat) (x : (Nat × Nat) ⊕ yR) : Prop := match x with
  | .inl f => zI h 1 1 = nI f.1 ∧ 1 ≤ f.1 ∧ f.1 ≤ 4 ∧ zI h 1 2 = nI f.2
  | .inr r => zI h 1 1 = 0 ∧ zI h 1 2 = -1 ∧ cRr h c r ∧ ∃ cn, rOk cn r
/-- while the text is read -/
def cB (h : zH) (c : Nat) (B : Nat → Nat) (n : Nat) (hc : zH) : Prop := cAgY c h hc ∧ zI hc 1 0 = 0 ∧ cTx hc B n
theorem cB.agX {h hc h2 : zH} {c : Nat} {B : Nat → Nat} {n : Nat} (hcc : c = 2 ∨ c = 36) (m : cB h c B n hc) (a : cAgX c hc h2) : cB h c B n h2 := ⟨m.1.tr (.ofX a), (a.1 _ _ (by unfold sX; omega)).trans m.2.1, m.2.2.agX hcc a⟩
section CLD
variable {E : zE} {b : Nat} {G : zG} {t : zT} {h : zH} {l : Launch} {a c e : Nat} {B : Nat → Nat}
theorem c3_read (hKd : oKnd) (hX : zTX t a c e) {tp : Nat} (htp : tp ≤ 600) (etp : zI h 1 0 = nI tp) (hfed : ∀ i, i < tp → zI h 34 i = nI (B i) ∧ B i < 256) (n : Nat) (hn : n ≤ tp) : zMet E b l yX3_read cX3_read 3 none 12 0 0 [.ref (b + 1), .int (nI n)] t h (qV (fun t' h' => t' = t ∧ cAgY c h h' ∧ zI h' 1 0 = 0 ∧ cRdR h' c (rdT B n))) := by
  have hcc := tX_c2 hX
  have ht : txOk B n := ⟨by omega, fun i hi => (hfed i (by omega)).2⟩
  refine zMet.of (ls := [some (.ref (b + 1)), some (.int (nI n)), none]) (by decide) (zle rfl) 1 rfl ?_
  intro G hlG C hR hE hin
  have s50f : ∀ (hc : zH) (f : Nat × Nat) (i : Nat), i ≤ 61 → cB h c B n hc → cAt hc (.inl f) n → rdT B n = .inl f → zAW E b G 3 0 0 50 [some (.ref (b + 1)), some (.int (nI n)), some (.int (nI i))] [] t hc := by
    rintro hc f i hi m ⟨m1, m2, m3, m4, k, m5, m6⟩ er
    have fin : t = t ∧ cAgY c h hc ∧ zI hc 1 0 = 0 ∧ cRdR hc c (rdT B n) := ⟨rfl, m.1, m.2.1, by rw [er]; exact ⟨m1, m2, m3, m4⟩⟩
    refine zz_iload_2 C dX3_read_50 <| zz_bipush C 60 dX3_read_51 (by decide) <| zpc 53 rfl <| ?_
    refine zz_icmp_gt C 88 dX3_read_53 (by decide) (fun c53 => ?_) (fun c53 => ?_)
    · refine zy_return C hE (zle rfl) (zle rfl) dX3_read_88 ?_
      exact fin
    · refine zz_aload_0 C dX3_read_56 <| zz_getI C fX3_47 (tX_K_reader hX) dX3_read_57 <| zz_aload_0 C dX3_read_60 <| zz_getI C fX3_41 (tX_K_reader hX) dX3_read_61 <| zpc 64 rfl <| ?_
      refine zz_icmp_ge C 88 dX3_read_64 (by decide) (fun c64 => ?_) (fun c64 => ?_)
      · refine zy_return C hE (zle rfl) (zle rfl) dX3_read_88 ?_
        exact fin
      · refine zz_aload_0 C dX3_read_67 <| zz_getI C fX3_15 (tX_K_reader hX) dX3_read_68 <| zpc 71 rfl <| ?_
        refine zz_if_ne C 88 dX3_read_71 (by decide) (fun c71 => ?_) (fun c71 => ?_)
        · refine zy_return C hE (zle rfl) (zle rfl) dX3_read_88 ?_
          exact fin
        · exact absurd c71 (by rw [m1]; exact nI_ne0 (by omega) (by omega))
  have s50 : ∀ cn, cn ≤ 60 → ∀ (hc : zH) (s : Nat) (r : yR), cB h c B n hc → cAt hc (.inr s) n → sc (isBl B) n s = s → zI hc 1 8 = nI cn → cRr hc c r → rOk cn r → rdT B n = rdL B n (61 - cn) s cn r → zAW E b G 3 0 0 50 [some (.ref (b + 1)), some (.int (nI n)), some (.int (nI cn))] [] t hc := by
    refine zLoop 60 fun cn hcn ih hc s r m at1 es ec hr ok er => ?_
    have at0 := at1
    obtain ⟨m1, m2, m3, m4⟩ := at1
    have er2 : rdT B n = if s < n then (match clR B n s cn r with | .inl e => .inl e | .inr x => rdL B n (60 - cn) x.1 (cn + 1) x.2) else .inr r := by
      rw [er, show 61 - cn = (60 - cn) + 1 by omega]
      show (if sc (isBl B) n s < n then (match clR B n (sc (isBl B) n s) cn r with | .inl e => (.inl e : (Nat × Nat) ⊕ yR) | .inr x => rdL B n (60 - cn) x.1 (cn + 1) x.2) else .inr r) = _
      rw [es]
    have s78 : s < n → ∀ h1, cAgX c hc h1 → cRes h1 c n cn (clR B n s cn r) → zAW E b G 3 0 0 78 [some (.ref (b + 1)), some (.int (nI n)), some (.int (nI cn))] [] t h1 := by
      intro hsn h1 a1 res
      have mm := m.agX hcc a1
      rw [if_pos hsn] at er2
      cases e9 : clR B n s cn r with
      | inl f =>
        rw [e9] at res er2
        obtain ⟨g1, g2, g3, g4, k', g5, g6⟩ := id res
        refine zz_aload_0 C dX3_read_78 <| zpc 79 rfl <| ?_
        refine zy_callVV C hR [] (c3_skip hX ht mm.2.2 k' g5 g6) lX3_53 rfl (tX_K_reader hX) (by decide) rfl ⟨zle rfl, zle rfl, zle rfl, zle rfl⟩ (zle rfl) dX3_read_79 ?_
        intro t2 h2 hv; obtain ⟨rfl, mv⟩ := hv
        refine zz_iinc_2 C _ (zle rfl) rfl dX3_read_82 nI_s <| zz_goto C 50 dX3_read_85 (by decide) <| zpc 50 rfl <| ?_
        exact s50f h2 f (cn + 1) (by omega) (mm.agX hcc (.ofR mv.ag)) ⟨(mv.2.1 _ _ (by omega)).trans g1, g2, g3, (mv.2.1 _ _ (by omega)).trans g4, _, sc_le g5, mv.1⟩ er2
      | inr y =>
        rw [e9] at res er2
        obtain ⟨g0, g1, g2⟩ := res
        obtain ⟨w1, w2, w3, w4⟩ := id g0
        have ok2 := clR_ok ok e9
        refine zz_aload_0 C dX3_read_78 <| zpc 79 rfl <| ?_
        refine zy_callVV C hR [] (c3_skip hX ht mm.2.2 y.1 w3 w2) lX3_53 rfl (tX_K_reader hX) (by decide) rfl ⟨zle rfl, zle rfl, zle rfl, zle rfl⟩ (zle rfl) dX3_read_79 ?_
        intro t2 h2 hv; obtain ⟨rfl, mv⟩ := hv
        refine zz_iinc_2 C _ (zle rfl) rfl dX3_read_82 nI_s <| zz_goto C 50 dX3_read_85 (by decide) <| zpc 50 rfl <| ?_
        refine ih ok2.2 h2 (sc (isBl B) n y.1) y.2 (mm.agX hcc (.ofR mv.ag)) ⟨(mv.2.1 _ _ (by omega)).trans w1, mv.1, sc_le w3, (mv.2.1 _ _ (by omega)).trans w4⟩ (sc_sc _ _ _) ((mv.2.1 _ _ (by omega)).trans g1) (g2.eq ok2.1 (fun i j z => mv.2.1 _ _ (by omega))) ok2.1 ?_
        rw [er2, show 61 - (cn + 1) = 60 - cn by omega]
        cases e8 : 60 - cn with
        | zero => exact absurd ok2.2 (by omega)
        | succ f =>
          show (if sc (isBl B) n y.1 < n then (match clR B n (sc (isBl B) n y.1) (cn + 1) y.2 with | .inl e => (.inl e : (Nat × Nat) ⊕ yR) | .inr x => rdL B n f x.1 (cn + 1 + 1) x.2) else .inr y.2) = (if sc (isBl B) n (sc (isBl B) n y.1) < n then (match clR B n (sc (isBl B) n (sc (isBl B) n y.1)) (cn + 1) y.2 with | .inl e => (.inl e : (Nat × Nat) ⊕ yR) | .inr x => rdL B n f x.1 (cn + 1 + 1) x.2) else .inr y.2)
          rw [sc_sc]
    refine zz_iload_2 C dX3_read_50 <| zz_bipush C 60 dX3_read_51 (by decide) <| zpc 53 rfl <| ?_
    refine zz_icmp_gt C 88 dX3_read_53 (by decide) (fun c53 => ?_) (fun c53 => ?_)
    · rw [show (60 : Int32) = nI 60 from rfl, nI_ltI (by omega) (by omega)] at c53; omega
    · refine zz_aload_0 C dX3_read_56 <| zz_getI C fX3_47 (tX_K_reader hX) dX3_read_57 <| zpc 60 rfl <| ?_
      rw [m2]
      refine zz_aload_0 C dX3_read_60 <| zz_getI C fX3_41 (tX_K_reader hX) dX3_read_61 <| zpc 64 rfl <| ?_
      rw [m.2.2.1]
      refine zz_icmp_ge C 88 dX3_read_64 (by decide) (fun c64 => ?_) (fun c64 => ?_)
      · rw [nI_leI (by omega) (by omega)] at c64
        refine zy_return C hE (zle rfl) (zle rfl) dX3_read_88 ?_
        exact ⟨rfl, m.1, m.2.1, by rw [er2, if_neg (by omega)]; exact ⟨m1, m4, hr, cn, ok⟩⟩
      · rw [nI_leI (by omega) (by omega)] at c64
        refine zz_aload_0 C dX3_read_67 <| zz_getI C fX3_15 (tX_K_reader hX) dX3_read_68 <| zpc 71 rfl <| ?_
        refine zz_if_ne C 88 dX3_read_71 (by decide) (fun c71 => ?_) (fun c71 => ?_)
        · exact absurd m1 c71
        · refine zz_aload_0 C dX3_read_74 <| zpc 75 rfl <| ?_
          refine zy_callVV C hR [] (c3_clause hKd hX ht m.2.2 s cn at0 ec hcn hr ok) lX3_56 rfl (tX_K_reader hX) (by decide) rfl ⟨zle rfl, zle rfl, zle rfl, zle rfl⟩ (zle rfl) dX3_read_75 ?_
          intro t1 h1 hv; obtain ⟨rfl, a1, res⟩ := hv
          exact s78 (by omega) h1 a1 res
  have s44 : ∀ hc : zH, cB h c B n hc → zI hc 1 7 = 0 → zI hc 1 8 = 0 → zI hc 1 1 = 0 → zI hc 1 2 = -1 → cRr hc c r0 → zAW E b G 3 0 0 44 [some (.ref (b + 1)), some (.int (nI n)), none] [] t hc := by
    intro hc m a1 a2 a3 a4 hr
    refine zz_aload_0 C dX3_read_44 <| zpc 45 rfl <| ?_
    refine zy_callVV C hR [] (c3_skip hX ht m.2.2 0 (by omega) a1) lX3_53 rfl (tX_K_reader hX) (by decide) rfl ⟨zle rfl, zle rfl, zle rfl, zle rfl⟩ (zle rfl) dX3_read_45 ?_
    intro t2 h2 hv; obtain ⟨rfl, mv⟩ := hv
    refine zz_iconst_0 C dX3_read_48 <| zz_istore_2 C (zle rfl) rfl dX3_read_49 <| zpc 50 rfl <| ?_
    refine s50 0 (by omega) h2 (sc (isBl B) n 0) r0 (m.agX hcc (.ofR mv.ag)) ⟨(mv.2.1 _ _ (by omega)).trans a3, mv.1, sc_le (by omega), (mv.2.1 _ _ (by omega)).trans a4⟩ (sc_sc _ _ _) ((mv.2.1 _ _ (by omega)).trans a2) (hr.eq rOk_0 (fun i j z => mv.2.1 _ _ (by omega))) rOk_0 ?_
    show (if sc (isBl B) n 0 < n then (match clR B n (sc (isBl B) n 0) 0 r0 with | .inl e => (.inl e : (Nat × Nat) ⊕ yR) | .inr x => rdL B n 60 x.1 (0 + 1) x.2) else .inr r0) = (if sc (isBl B) n (sc (isBl B) n 0) < n then (match clR B n (sc (isBl B) n (sc (isBl B) n 0)) 0 r0 with | .inl e => (.inl e : (Nat × Nat) ⊕ yR) | .inr x => rdL B n 60 x.1 (0 + 1) x.2) else .inr r0)
    rw [sc_sc]
  refine zz_aload_0 C dX3_read_0 <| zz_iload_1 C dX3_read_1 <| zz_aload_0 C dX3_read_2 <| zz_getI C fX3_9 (tX_K_reader hX) dX3_read_3 <| zpc 6 rfl <| ?_
  rw [etp]
  refine zz_mmin C hR (zle rfl) mX3_35 (zle rfl) (zle rfl) (zle rfl) dX3_read_6 <| zpc 9 rfl <| ?_
  rw [nI_min (by omega) (by omega), show min n tp = n by omega]
  refine zy_putI C fX3_41 pX3_6 (tX_K_reader hX) dX3_read_9 <| zz_aload_0 C dX3_read_12 <| zz_iconst_0 C dX3_read_13 <| zy_putI C fX3_9 pX3_0 (tX_K_reader hX) dX3_read_14 <| zz_aload_0 C dX3_read_17 <| zz_getR C fX3_24 (tX_K_reader hX) (tX_R_into hX) dX3_read_18 <| zpc 21 rfl <| ?_
  refine zy_callVNV C hR [] (c1_makeEmpty (tX_Lc hX)) lX3_44 rfl (tL_K (tX_Lc hX)) (by decide) rfl ⟨zle rfl, zle rfl, zle rfl, zle rfl⟩ (zle rfl) dX3_read_21 ?_
  intro t1 h1 hv; obtain ⟨rfl, q1, q2, q3⟩ := hv
  refine zz_aload_0 C dX3_read_24 <| zz_iconst_0 C dX3_read_25 <| zy_putI C fX3_47 pX3_7 (tX_K_reader hX) dX3_read_26 <| zz_aload_0 C dX3_read_29 <| zz_iconst_0 C dX3_read_30 <| zy_putI C fX3_50 pX3_8 (tX_K_reader hX) dX3_read_31 <| zz_aload_0 C dX3_read_34 <| zz_iconst_0 C dX3_read_35 <| zy_putI C fX3_15 pX3_1 (tX_K_reader hX) dX3_read_36 <| zz_aload_0 C dX3_read_39 <| zz_iconst_m1 C dX3_read_40 <| zy_putI C fX3_18 pX3_2 (tX_K_reader hX) dX3_read_41 <| zpc 44 rfl <| ?_
  refine s44 _ ⟨⟨fun i j z => ?_, q2⟩, ?_, ?_, fun i hi => ?_⟩ ?_ ?_ ?_ (zI_self _ _ _ _) (q3.eq rOk_0 (fun i j z => ?_))
  · have z1 : ¬ i = 1 ∧ ¬ i = c := by unfold sY at z; omega
    rw [zI_sI, if_neg (by omega), zI_sI, if_neg (by omega), zI_sI, if_neg (by omega), zI_sI, if_neg (by omega), q1 _ _ (by omega), zI_sI, if_neg (by omega), zI_sI, if_neg (by omega)]
  · rw [zI_sI, if_neg (by omega), zI_sI, if_neg (by omega), zI_sI, if_neg (by omega), zI_sI, if_neg (by omega), q1 _ _ (by omega), zI_self]
  · rw [zI_sI, if_neg (by omega), zI_sI, if_neg (by omega), zI_sI, if_neg (by omega), zI_sI, if_neg (by omega), q1 _ _ (by omega), zI_sI, if_neg (by omega), zI_self]
  · rw [zI_sI, if_neg (by omega), zI_sI, if_neg (by omega), zI_sI, if_neg (by omega), zI_sI, if_neg (by omega), q1 _ _ (by omega), zI_sI, if_neg (by omega), zI_sI, if_neg (by omega)]; exact (hfed i (by omega)).1
  · rw [zI_sI, if_neg (by omega), zI_sI, if_neg (by omega), zI_sI, if_neg (by omega), zI_self]
  · rw [zI_sI, if_neg (by omega), zI_sI, if_neg (by omega), zI_self]
  · rw [zI_sI, if_neg (by omega), zI_self]
  · rw [zI_sI, if_neg (by omega), zI_sI, if_neg (by omega), zI_sI, if_neg (by omega), zI_sI, if_neg (by omega)]
end CLD
