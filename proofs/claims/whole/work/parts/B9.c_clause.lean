/-! ===== the class: a clause ===== -/
def kCl (kd : Nat) : Int32 := if kd = 8 then -1 else nI kd
/-- what is owed of kindOf: strings -/
def oKnd : Prop := ∀ (E : zE) (b : Nat) (l : Launch) (t : zT) (h : zH) (a c e : Nat) (B : Nat → Nat) (n k : Nat), zTX t a c e → txOk B n → cTx h B n → k ≤ n → zI h 1 7 = nI (sc (isLt B) n k) → zMet E b l yX3_kindOf cX3_kindOf 2 (some .int) 10 0 0 [.ref (b + 1), .int (nI k)] t h (qIf (kCl (knd B k (sc (isLt B) n k))) t h)
def sX (c i j : Nat) : Prop := i = 35 ∨ (c ≤ i ∧ i ≤ c + 31) ∨ (i = 1 ∧ (j = 1 ∨ j = 2 ∨ j = 7 ∨ j = 8))
def cAgX (c : Nat) (h h' : zH) : Prop := (∀ i j, ¬ sX c i j → zI h' i j = zI h i j) ∧ ∀ i j, zL h' i j = zL h i j
theorem cAgX.tr {c : Nat} {h h1 h2 : zH} (a : cAgX c h h1) (d : cAgX c h1 h2) : cAgX c h h2 := ⟨fun i k q => (d.1 i k q).trans (a.1 i k q), fun i k => (d.2 i k).trans (a.2 i k)⟩
theorem cAgX.ofR {c : Nat} {h h' : zH} (a : cAgR h h') : cAgX c h h' := ⟨fun i j z => a.1 i j (fun y => z (by unfold sX; omega)), a.2⟩
theorem cAgX.sI {c : Nat} {h h' : zH} (a : cAgX c h h') {i j : Nat} {v : Int32} (hs : sX c i j) : cAgX c h (zsI h' i j v) := ⟨fun i' q hn => by
  rw [zI_sI, if_neg (fun z => hn (by rw [z.1, z.2]; exact hs))]
  exact a.1 i' q hn, a.2⟩
theorem cTx.agX {c : Nat} {h h' : zH} {B : Nat → Nat} {n : Nat} (hc : c = 2 ∨ c = 36) (a : cAgX c h h') (hx : cTx h B n) : cTx h' B n := ⟨by rw [a.1 _ _ (by unfold sX; omega)]; exact hx.1, fun i hi => by rw [a.1 _ _ (by unfold sX; omega)]; exact hx.2 i hi⟩
def cRes (h : zH) (c n cn : Nat) (x : (Nat × Nat) ⊕ (Nat × yR)) : Prop := match x with
  | .inl f => cAt h (.inl f) n
  | .inr y => cAt h (.inr y.1) n ∧ zI h 1 8 = nI (cn + 1) ∧ cRr h c y.2
theorem cAt_ok {h : zH} {st : yT} {n : Nat} (m : cAt h st n) (z : zI h 1 1 = 0) : ∃ p, st = .inr p := by
  cases st with
  | inl f =>
    obtain ⟨m1, m2, m3, -⟩ := m
    rw [m1] at z
    exact absurd z (nI_ne0 (by omega) (by omega))
  | inr p => exact ⟨p, rfl⟩
theorem cAt_no {h : zH} {st : yT} {n : Nat} (m : cAt h st n) (z : ¬ zI h 1 1 = 0) : ∃ f, st = .inl f := by
  cases st with
  | inl f => exact ⟨f, rfl⟩
  | inr p => exact absurd m.1 z
section CCL
variable {E : zE} {b : Nat} {G : zG} {t : zT} {h : zH} {l : Launch} {a c e : Nat} {B : Nat → Nat} {n : Nat} {r : yR}
theorem c3_clause (hKd : oKnd) (hX : zTX t a c e) (ht : txOk B n) (hx : cTx h B n) (k cn : Nat) (hs : cAt h (.inr k) n) (hcn : zI h 1 8 = nI cn) (hc60 : cn ≤ 60) (hr : cRr h c r) (ok : rOk cn r) : zMet E b l yX3_readClause cX3_readClause 5 none 11 0 0 [.ref (b + 1)] t h (qV (fun t' h' => t' = t ∧ cAgX c h h' ∧ cRes h' c n cn (clR B n k cn r))) := by
  have hn := ht.1
  have hcc := tX_c2 hX
  obtain ⟨f1, f2, hk, f9⟩ := hs
  obtain ⟨j, ej⟩ : ∃ j, j = sc (isLt B) n k := ⟨_, rfl⟩
  have hj : j ≤ n := by rw [ej]; exact sc_le hk
  obtain ⟨kd, ekd⟩ : ∃ kd, knd B k (sc (isLt B) n k) = kd := ⟨_, rfl⟩
  obtain ⟨⟨b1, b2, b3, b4⟩, ⟨b5, b6, b7, b8⟩, -⟩ := id ok
  refine zMet.of (ls := [some (.ref (b + 1)), none, none, none, none]) (by decide) (zle rfl) 4 rfl ?_
  intro G hlG C hR hE hin
  have fl : ∀ (hc : zH) (w : Nat), cMv h j hc → 1 ≤ w → w ≤ 4 → clR B n k cn r = .inl (w, k) → cAgX c h (zsI (zsI hc 1 1 (nI w)) 1 2 (nI k)) ∧ cRes (zsI (zsI hc 1 1 (nI w)) 1 2 (nI k)) c n cn (clR B n k cn r) := fun hc w mv h1 h4 e => by
    rw [e]
    refine ⟨((cAgX.ofR mv.ag).sI (by unfold sX; omega)).sI (by unfold sX; omega), ?_, h1, h4, zI_self _ _ _ _, j, hj, ?_⟩
    · rw [zI_sI, if_neg (by omega)]; exact zI_self _ _ _ _
    · rw [zI_sI, if_neg (by omega), zI_sI, if_neg (by omega)]; exact mv.1
  have s73 : ∀ (hc : zH) (w : Nat) (q : Int32), cMv h j hc → 1 ≤ w → w ≤ 4 → clR B n k cn r = .inl (w, k) → zAW E b G 5 0 0 69 [some (.ref (b + 1)), some (.int (nI k)), some (.int q), some (.int (nI w)), none] [] t hc := by
    intro hc w q mv h1 h4 e
    refine zz_iload_3 C dX3_readClause_69 <| zpc 70 rfl <| ?_
    refine zz_if_eq C 80 dX3_readClause_70 (by decide) (fun c70 => ?_) (fun c70 => ?_)
    · exact absurd c70 (nI_ne0 (by omega) (by omega))
    · refine zz_aload_0 C dX3_readClause_73 <| zz_iload_3 C dX3_readClause_74 <| zz_iload_1 C dX3_readClause_75 <| zpc 76 rfl <| ?_
      refine zf_callVV C hR [_, _] (c3_fail hX _ _) lX3_66 rfl (tX_K_reader hX) (by decide) rfl ⟨zle rfl, zle rfl, zle rfl, zle rfl⟩ (zle rfl) dX3_readClause_76 ?_
      refine zy_return C hE (zle rfl) (zle rfl) dX3_readClause_79 ?_
      exact ⟨rfl, fl hc w mv h1 h4 e⟩
  have s80 : ∀ hc : zH, cMv h j hc → kd < 8 → ¬ (60 ≤ cn ∨ kFull kd r) → ¬ (kd = 0 ∧ 0 < cn) → zAW E b G 5 0 0 80 [some (.ref (b + 1)), some (.int (nI k)), some (.int (nI kd)), some (.int 0), none] [] t hc := by
    intro hc mv z8 z3 z4
    have K : clR B n k cn r = clE (endR B n (clN B n j kd r (kCt kd)).1) (tellR kd (clN B n j kd r (kCt kd)).2 r) := by rw [ej]; exact clR_5 ekd z8 z3 z4
    have K2 : ∀ p, (clN B n j kd r (kCt kd)).1 = .inr p → rOk (cn + 1) (tellR kd (clN B n j kd r (kCt kd)).2 r) := fun p hp => tellR_ok z8 ok (fun z => z3 (Or.inr z)) z4 (clN_ok hp)
    have hct : ∀ q, q < 8 → ([1, 5, 5, 4, 2, 2, 1, 1] : List Nat).getD q 0 = kCt q := by decide
    have hk5 : kCt kd ≤ 5 := kCt_le
    have s124f : ∀ (hd : zH) (f : Nat × Nat) (x4 : Option Value), cAgX c h hd → cAt hd (.inl f) n → clR B n k cn r = .inl f → zAW E b G 5 0 0 124 [some (.ref (b + 1)), some (.int (nI k)), some (.int (nI kd)), some (.int 0), x4] [] t hd := by
      intro hd f x4 ag m e
      refine zz_aload_0 C dX3_readClause_124 <| zz_getI C fX3_15 (tX_K_reader hX) dX3_readClause_125 <| zpc 128 rfl <| ?_
      refine zz_if_ne C 146 dX3_readClause_128 (by decide) (fun c128 => ?_) (fun c128 => ?_)
      · refine zy_return C hE (zle rfl) (zle rfl) dX3_readClause_146 ?_
        exact ⟨rfl, ag, by rw [e]; exact m⟩
      · obtain ⟨p, hp⟩ := cAt_ok m c128; cases hp
    have s124k : ∀ (hd : zH) (k' : Nat) (x4 : Option Value), cAgX c h hd → cAt hd (.inr k') n → zI hd 1 8 = nI cn → clR B n k cn r = clE (.inr k') (tellR kd (clN B n j kd r (kCt kd)).2 r) → rOk (cn + 1) (tellR kd (clN B n j kd r (kCt kd)).2 r) → vOk kd r (clN B n j kd r (kCt kd)).2 → (∀ q, q < kCt kd → zI hd 35 q = nI ((clN B n j kd r (kCt kd)).2 q)) → cRr hd c r → zAW E b G 5 0 0 124 [some (.ref (b + 1)), some (.int (nI k)), some (.int (nI kd)), some (.int 0), x4] [] t hd := by
      intro hd k' x4 ag m c1 e ok2 vk hv hrd
      have ex : ∀ i j, ¬ (i = 1 ∧ j = 8) → zI (zsI hd 1 8 (nI (cn + 1))) i j = zI hd i j := fun i j z => by rw [zI_sI, if_neg z]
      refine zz_aload_0 C dX3_readClause_124 <| zz_getI C fX3_15 (tX_K_reader hX) dX3_readClause_125 <| zpc 128 rfl <| ?_
      refine zz_if_ne C 146 dX3_readClause_128 (by decide) (fun c128 => ?_) (fun c128 => ?_)
      · exact absurd m.1 c128
      · refine zz_aload_0 C dX3_readClause_131 <| zz_dup C dX3_readClause_132 rfl <| zz_getI C fX3_50 (tX_K_reader hX) dX3_readClause_133 <| zpc 136 rfl <| ?_
        rw [c1]
        refine zz_iconst_1 C dX3_readClause_136 <| zz_iadd C dX3_readClause_137 <| zpc 138 rfl <| ?_
        rw [show (1 : Int32) = nI 1 from rfl, nI_add]
        refine zy_putI C fX3_50 pX3_8 (tX_K_reader hX) dX3_readClause_138 <| zz_aload_0 C dX3_readClause_141 <| zz_iload_2 C dX3_readClause_142 <| zpc 143 rfl <| ?_
        refine zy_callVV C hR [_] (c3_tell hX kd z8 ok (fun z => z3 (Or.inr z)) vk (fun q hq => (ex _ _ (by omega)).trans (hv q hq)) (hrd.eq ok (fun i j z => ex _ _ (by omega)))) lX3_79 rfl (tX_K_reader hX) (by decide) rfl ⟨zle rfl, zle rfl, zle rfl, zle rfl⟩ (zle rfl) dX3_readClause_143 ?_
        intro t1 h1 hv1; obtain ⟨rfl, q1, q2⟩ := hv1
        refine zy_return C hE (zle rfl) (zle rfl) dX3_readClause_146 ?_
        refine ⟨rfl, (ag.sI (by unfold sX; omega)).tr ⟨fun i j z => q1.1 i j (fun y => z (by unfold sX; omega)), q1.2⟩, ?_⟩
        rw [e]
        exact ⟨⟨by rw [q1.1 _ _ (by omega), ex _ _ (by omega)]; exact m.1, by rw [q1.1 _ _ (by omega), ex _ _ (by omega)]; exact m.2.1, m.2.2.1, by rw [q1.1 _ _ (by omega), ex _ _ (by omega)]; exact m.2.2.2⟩, by rw [q1.1 _ _ (by omega)]; exact zI_self _ _ _ _, q2⟩
    have s113 : ∀ (hd : zH) (x4 : Option Value), cAgR h hd → cAt hd (clN B n j kd r (kCt kd)).1 n → (∀ p, (clN B n j kd r (kCt kd)).1 = .inr p → ∀ q, q < kCt kd → zI hd 35 q = nI ((clN B n j kd r (kCt kd)).2 q)) → zAW E b G 5 0 0 113 [some (.ref (b + 1)), some (.int (nI k)), some (.int (nI kd)), some (.int 0), x4] [] t hd := by
      intro hd x4 ag m hv
      cases e : (clN B n j kd r (kCt kd)).1 with
      | inl f =>
        rw [e] at m K
        have m9 := m
        refine zz_aload_0 C dX3_readClause_113 <| zz_getI C fX3_15 (tX_K_reader hX) dX3_readClause_114 <| zpc 117 rfl <| ?_
        refine zz_if_ne C 124 dX3_readClause_117 (by decide) (fun c117 => ?_) (fun c117 => ?_)
        · exact s124f hd f _ (.ofR ag) m9 K
        · obtain ⟨p, hp⟩ := cAt_ok m c117; cases hp
      | inr p =>
        rw [e] at m K
        have ok2 := K2 p e
        have vk := clN_ok e
        have hv2 := hv p e
        refine zz_aload_0 C dX3_readClause_113 <| zz_getI C fX3_15 (tX_K_reader hX) dX3_readClause_114 <| zpc 117 rfl <| ?_
        refine zz_if_ne C 124 dX3_readClause_117 (by decide) (fun c117 => ?_) (fun c117 => ?_)
        · exact absurd m.1 c117
        · refine zz_aload_0 C dX3_readClause_120 <| zpc 121 rfl <| ?_
          refine zy_callVV C hR [] (c3_readEnd hX ht (hx.ag ag) p m) lX3_76 rfl (tX_K_reader hX) (by decide) rfl ⟨zle rfl, zle rfl, zle rfl, zle rfl⟩ (zle rfl) dX3_readClause_121 ?_
          intro t1 h1 hv1; obtain ⟨rfl, q1, q2, m1⟩ := hv1; have ag1 : cAgX c h h1 := (cAgX.ofR ag).tr ⟨fun i j z => q1 i j (fun y => z (by unfold sX; omega)), q2⟩
          cases e2 : endR B n (.inr p) with
          | inl f => rw [e2] at m1 K; exact s124f h1 f _ ag1 m1 K
          | inr k' =>
            rw [e2] at m1 K
            have c1 : zI h1 1 8 = nI cn := by rw [q1 _ _ (by omega), ag.1 _ _ (by omega)]; exact hcn
            exact s124k h1 k' _ ag1 m1 c1 K ok2 vk (fun q hq => (q1 _ _ (by omega)).trans (hv2 q hq)) (hr.eq ok (fun i j z => by rw [q1 _ _ (by omega)]; exact ag.1 _ _ (by omega)))
    have lp : ∀ i, i ≤ kCt kd → ∀ hd, cAgR h hd → cAt hd (clN B n j kd r i).1 n → (∀ p, (clN B n j kd r i).1 = .inr p → ∀ q, q < i → zI hd 35 q = nI ((clN B n j kd r i).2 q)) → zAW E b G 5 0 0 83 [some (.ref (b + 1)), some (.int (nI k)), some (.int (nI kd)), some (.int 0), some (.int (nI i))] [] t hd := by
      refine zLoop (kCt kd) fun i hi ih hd ag m hv => ?_
      have hxd := hx.ag ag
      have s100 : i < kCt kd → ∀ p, (clN B n j kd r i).1 = .inr p → zAW E b G 5 0 0 100 [some (.ref (b + 1)), some (.int (nI k)), some (.int (nI kd)), some (.int 0), some (.int (nI i))] [] t hd := by
        intro hik p ep
        rw [ep] at m
        have e1 : zI hd c 0 = nI r.1.1 := by rw [ag.1 _ _ (by omega)]; exact hr.1.1
        have e2 : zI hd c 3 = nI r.2.1.1 := by rw [ag.1 _ _ (by omega)]; exact hr.1.2.2.2.1
        have eN : clN B n j kd r (i + 1) = (rP (numR B n (.inr p) (kLo kd i) (kUp kd r.1.1 r.2.1.1 i) (if kSm kd = true ∧ i = 1 then some ((clN B n j kd r i).2 0) else none)), nUp (clN B n j kd r i).2 i (rV (numR B n (.inr p) (kLo kd i) (kUp kd r.1.1 r.2.1.1 i) (if kSm kd = true ∧ i = 1 then some ((clN B n j kd r i).2 0) else none)))) := by rw [← ep]; rfl
        refine zz_aload_0 C dX3_readClause_100 <| zz_iload_2 C dX3_readClause_101 <| zz_iload_4 C dX3_readClause_102 <| zpc 104 rfl <| ?_
        refine zy_callVV C hR [_, _] (c3_number hX ht hxd p m kd i r.1.1 r.2.1.1 ((clN B n j kd r i).2 0) z8 hik e1 e2 b2 b5 (by have : (clN B n j kd r i).2 0 ≤ 100000 := nms_v i 0; omega) (fun z => hv p ep 0 (by omega))) lX3_73 rfl (tX_K_reader hX) (by decide) rfl ⟨zle rfl, zle rfl, zle rfl, zle rfl⟩ (zle rfl) dX3_readClause_104 ?_
        intro t1 h1 hv1; obtain ⟨rfl, q1, q2, q3, q4⟩ := hv1
        refine zz_iinc_4 C _ (zle rfl) rfl dX3_readClause_107 nI_s <| zz_goto C 83 dX3_readClause_110 (by decide) <| zpc 83 rfl <| ?_
        refine ih hik h1 (ag.tr ⟨fun i' j' z => q1 i' j' (by omega) (by omega), q2⟩) (by rw [eN]; exact q3) (fun p2 hp2 q hq => ?_)
        rw [eN] at hp2 ⊢
        show zI h1 35 q = nI (nUp (clN B n j kd r i).2 i _ q)
        unfold nUp
        by_cases z : q = i
        · rw [if_pos z, z]; exact q4 p2 hp2
        · rw [if_neg z, q1 _ _ (by omega) (by omega)]; exact hv p ep q (by omega)
      have out : ∀ x4 : Option Value, (i = kCt kd ∨ ¬ zI hd 1 1 = 0) → zAW E b G 5 0 0 113 [some (.ref (b + 1)), some (.int (nI k)), some (.int (nI kd)), some (.int 0), x4] [] t hd := fun x4 z => by
        rcases z with z | z
        · rw [z] at m hv; exact s113 hd x4 ag m hv
        · obtain ⟨f, hf⟩ := cAt_no m z
          have e9 : (clN B n j kd r (kCt kd)).1 = .inl f := by
            have := nms_fault (kCt kd - i) i hf
            rw [show i + (kCt kd - i) = kCt kd by omega] at this
            exact this
          refine s113 hd x4 ag (by rw [e9, ← hf]; exact m) (fun p hp => ?_)
          rw [e9] at hp; cases hp
      refine zz_iload_4 C dX3_readClause_83 <| zz_gets C (by decide) sX3_70 wX3_70 dX3_readClause_85 <| fun sa85 ta85 => ?_
      refine zz_iload_2 C dX3_readClause_88 <| zc_tald C _ ta85 (znI (by omega)) (by show _ < 8; omega) dX3_readClause_89 <| zpc 90 rfl <| ?_
      rw [hct kd z8]
      refine zz_icmp_ge C 113 dX3_readClause_90 (by decide) (fun c90 => ?_) (fun c90 => ?_)
      · rw [nI_leI (by omega) (by omega)] at c90
        first
        | exact out _ (Or.inl (by omega))
        | exact out _ (Or.inr c97)
      · rw [nI_leI (by omega) (by omega)] at c90
        refine zz_aload_0 C dX3_readClause_93 <| zz_getI C fX3_15 (tX_K_reader hX) dX3_readClause_94 <| zpc 97 rfl <| ?_
        refine zz_if_ne C 113 dX3_readClause_97 (by decide) (fun c97 => ?_) (fun c97 => ?_)
        · first
          | exact out _ (Or.inl (by omega))
          | exact out _ (Or.inr c97)
        · obtain ⟨p, hp⟩ := cAt_ok m c97; exact s100 (by omega) p hp
    refine zz_iconst_0 C dX3_readClause_80 <| zz_istore_4 C (zle rfl) rfl dX3_readClause_81 <| zpc 83 rfl <| ?_
    exact lp 0 (by omega) hc mv.ag ⟨(mv.2.1 _ _ (by omega)).trans f1, mv.1, hj, (mv.2.1 _ _ (by omega)).trans f9⟩ (fun p hp q hq => absurd hq (by omega))
  have s57 : ∀ hc, cMv h j hc → zAW E b G 5 0 0 57 [some (.ref (b + 1)), some (.int (nI k)), none, none, none] [] t hc := by
    intro hc mv
    have ea : zI hc 1 7 = nI (sc (isLt B) n k) := by rw [← ej]; exact mv.1
    have hcn2 : zI hc 1 8 = nI cn := (mv.2.1 _ _ (by omega)).trans hcn
    have hr2 : cRr hc c r := hr.eq ok (fun i j z => mv.2.1 _ _ (by omega))
    rcases knd_lt (B := B) (s := k) (j := sc (isLt B) n k) with ⟨z8, -⟩ | z8
    · rw [ekd] at z8
      have kc : kCl kd = nI kd := if_neg (by omega)
      by_cases z3 : 60 ≤ cn ∨ kFull kd r
      ·
        refine zz_aload_0 C dX3_readClause_57 <| zz_iload_1 C dX3_readClause_58 <| zpc 59 rfl <| ?_
        refine zf_callVI C hR [_] (hKd _ _ _ _ _ a c e B n k hX ht (hx.ag mv.ag) hk ea) lX3_59 rfl (tX_K_reader hX) (by decide) rfl ⟨zle rfl, zle rfl, zle rfl, zle rfl⟩ (zle rfl) dX3_readClause_59 ?_
        rw [ekd, kc]
        refine zz_istore_2 C (zle rfl) rfl dX3_readClause_62 <| zz_aload_0 C dX3_readClause_63 <| zz_iload_2 C dX3_readClause_64 <| zpc 65 rfl <| ?_
        refine zf_callVI C hR [_] (c3_word hX kd z8 ok hcn2 hc60 hr2 3 (fun _ => rfl) (fun y => absurd z3 y) (fun y => absurd z3 y)) lX3_63 rfl (tX_K_reader hX) (by decide) rfl ⟨zle rfl, zle rfl, zle rfl, zle rfl⟩ (zle rfl) dX3_readClause_65 ?_
        refine zz_istore_3 C (zle rfl) rfl dX3_readClause_68 <| zpc 69 rfl <| ?_
        exact s73 hc 3 (nI kd) mv (by omega) (by omega) (clR_3 (by rw [ekd]; omega) (by rw [ekd]; exact z3))
      · by_cases z4 : kd = 0 ∧ 0 < cn
        ·
          refine zz_aload_0 C dX3_readClause_57 <| zz_iload_1 C dX3_readClause_58 <| zpc 59 rfl <| ?_
          refine zf_callVI C hR [_] (hKd _ _ _ _ _ a c e B n k hX ht (hx.ag mv.ag) hk ea) lX3_59 rfl (tX_K_reader hX) (by decide) rfl ⟨zle rfl, zle rfl, zle rfl, zle rfl⟩ (zle rfl) dX3_readClause_59 ?_
          rw [ekd, kc]
          refine zz_istore_2 C (zle rfl) rfl dX3_readClause_62 <| zz_aload_0 C dX3_readClause_63 <| zz_iload_2 C dX3_readClause_64 <| zpc 65 rfl <| ?_
          refine zf_callVI C hR [_] (c3_word hX kd z8 ok hcn2 hc60 hr2 4 (fun y => absurd y z3) (fun _ _ => rfl) (fun _ y => absurd z4 y)) lX3_63 rfl (tX_K_reader hX) (by decide) rfl ⟨zle rfl, zle rfl, zle rfl, zle rfl⟩ (zle rfl) dX3_readClause_65 ?_
          refine zz_istore_3 C (zle rfl) rfl dX3_readClause_68 <| zpc 69 rfl <| ?_
          exact s73 hc 4 (nI kd) mv (by omega) (by omega) (clR_4 (by rw [ekd]; exact z3) (by rw [ekd]; exact z4))
        ·
          refine zz_aload_0 C dX3_readClause_57 <| zz_iload_1 C dX3_readClause_58 <| zpc 59 rfl <| ?_
          refine zf_callVI C hR [_] (hKd _ _ _ _ _ a c e B n k hX ht (hx.ag mv.ag) hk ea) lX3_59 rfl (tX_K_reader hX) (by decide) rfl ⟨zle rfl, zle rfl, zle rfl, zle rfl⟩ (zle rfl) dX3_readClause_59 ?_
          rw [ekd, kc]
          refine zz_istore_2 C (zle rfl) rfl dX3_readClause_62 <| zz_aload_0 C dX3_readClause_63 <| zz_iload_2 C dX3_readClause_64 <| zpc 65 rfl <| ?_
          refine zf_callVI C hR [_] (c3_word hX kd z8 ok hcn2 hc60 hr2 0 (fun y => absurd y z3) (fun _ y => absurd y z4) (fun _ _ => rfl)) lX3_63 rfl (tX_K_reader hX) (by decide) rfl ⟨zle rfl, zle rfl, zle rfl, zle rfl⟩ (zle rfl) dX3_readClause_65 ?_
          refine zz_istore_3 C (zle rfl) rfl dX3_readClause_68 <| zz_iload_3 C dX3_readClause_69 <| zpc 70 rfl <| ?_
          refine zz_if_eq C 80 dX3_readClause_70 (by decide) (fun c70 => ?_) (fun c70 => ?_)
          · exact s80 hc mv z8 z3 z4
          · exact absurd rfl c70
    ·
      refine zz_aload_0 C dX3_readClause_57 <| zz_iload_1 C dX3_readClause_58 <| zpc 59 rfl <| ?_
      refine zf_callVI C hR [_] (hKd _ _ _ _ _ a c e B n k hX ht (hx.ag mv.ag) hk ea) lX3_59 rfl (tX_K_reader hX) (by decide) rfl ⟨zle rfl, zle rfl, zle rfl, zle rfl⟩ (zle rfl) dX3_readClause_59 ?_
      rw [z8, show kCl 8 = -1 from rfl]
      refine zz_istore_2 C (zle rfl) rfl dX3_readClause_62 <| zz_aload_0 C dX3_readClause_63 <| zz_iload_2 C dX3_readClause_64 <| zpc 65 rfl <| ?_
      refine zf_callVI C hR [_] (c3_word8 hX) lX3_63 rfl (tX_K_reader hX) (by decide) rfl ⟨zle rfl, zle rfl, zle rfl, zle rfl⟩ (zle rfl) dX3_readClause_65 ?_
      refine zz_istore_3 C (zle rfl) rfl dX3_readClause_68 <| zpc 69 rfl <| ?_
      exact s73 hc 1 (-1) mv (by omega) (by omega) (clR_1 z8)
  have lp : ∀ p, p ≤ n → ∀ hc, cMv h p hc → sc (isLt B) n p = j → zAW E b G 5 0 0 5 [some (.ref (b + 1)), some (.int (nI k)), none, none, none] [] t hc := by
    refine zLoop n fun p hp ih hc mv ep => ?_
    have hx2 := hx.ag mv.ag
    have hxp : p < n → _ := hx2.2 p
    have hBp : p < n → B p < 256 := ht.2 p
    have fin : ¬ (p < n ∧ isLt B p = true) → zAW E b G 5 0 0 57 [some (.ref (b + 1)), some (.int (nI k)), none, none, none] [] t hc := fun z => by
      rw [sc_f z] at ep
      rw [ep] at mv
      exact s57 hc mv
    refine zz_aload_0 C dX3_readClause_5 <| zz_getI C fX3_47 (tX_K_reader hX) dX3_readClause_6 <| zpc 9 rfl <| ?_
    rw [mv.1]
    refine zz_aload_0 C dX3_readClause_9 <| zz_getI C fX3_41 (tX_K_reader hX) dX3_readClause_10 <| zpc 13 rfl <| ?_
    rw [hx2.1]
    refine zz_icmp_ge C 57 dX3_readClause_13 (by decide) (fun c13 => ?_) (fun c13 => ?_)
    · rw [nI_leI (by omega) (by omega)] at c13
      first
      | exact fin (fun z => by omega)
      | exact fin (fun z => by have := isLt_iff.mp z.2; omega)
    · rw [nI_leI (by omega) (by omega)] at c13
      refine zz_aload_0 C dX3_readClause_16 <| zz_getR C fX3_28 (tX_K_reader hX) (tX_R_tape hX) dX3_readClause_17 <| zz_aload_0 C dX3_readClause_20 <| zz_getI C fX3_47 (tX_K_reader hX) dX3_readClause_21 <| zpc 24 rfl <| ?_
      rw [mv.1]
      refine zc_iaload C _ (tX_K_tape hX) (znI (by omega)) (by omega) dX3_readClause_24 <| zpc 25 rfl <| ?_
      rw [hxp (by omega)]
      refine zz_bipush C 97 dX3_readClause_25 (by decide) <| zpc 27 rfl <| ?_
      refine zz_icmp_lt C 57 dX3_readClause_27 (by decide) (fun c27 => ?_) (fun c27 => ?_)
      · rw [show (97 : Int32) = nI 97 from rfl, nI_ltI (by have := hBp (by omega); omega) (by omega)] at c27
        first
        | exact fin (fun z => by omega)
        | exact fin (fun z => by have := isLt_iff.mp z.2; omega)
      · rw [show (97 : Int32) = nI 97 from rfl, nI_ltI (by have := hBp (by omega); omega) (by omega)] at c27
        refine zz_aload_0 C dX3_readClause_30 <| zz_getR C fX3_28 (tX_K_reader hX) (tX_R_tape hX) dX3_readClause_31 <| zz_aload_0 C dX3_readClause_34 <| zz_getI C fX3_47 (tX_K_reader hX) dX3_readClause_35 <| zpc 38 rfl <| ?_
        rw [mv.1]
        refine zc_iaload C _ (tX_K_tape hX) (znI (by omega)) (by omega) dX3_readClause_38 <| zpc 39 rfl <| ?_
        rw [hxp (by omega)]
        refine zz_bipush C 122 dX3_readClause_39 (by decide) <| zpc 41 rfl <| ?_
        refine zz_icmp_gt C 57 dX3_readClause_41 (by decide) (fun c41 => ?_) (fun c41 => ?_)
        · rw [show (122 : Int32) = nI 122 from rfl, nI_ltI (by omega) (by have := hBp (by omega); omega)] at c41
          first
          | exact fin (fun z => by omega)
          | exact fin (fun z => by have := isLt_iff.mp z.2; omega)
        · rw [show (122 : Int32) = nI 122 from rfl, nI_ltI (by omega) (by have := hBp (by omega); omega)] at c41
          refine zz_aload_0 C dX3_readClause_44 <| zz_dup C dX3_readClause_45 rfl <| zz_getI C fX3_47 (tX_K_reader hX) dX3_readClause_46 <| zpc 49 rfl <| ?_
          rw [mv.1]
          refine zz_iconst_1 C dX3_readClause_49 <| zz_iadd C dX3_readClause_50 <| zpc 51 rfl <| ?_
          rw [show (1 : Int32) = nI 1 from rfl, nI_add]
          refine zy_putI C fX3_47 pX3_7 (tX_K_reader hX) dX3_readClause_51 <| zz_goto C 5 dX3_readClause_54 (by decide) <| zpc 5 rfl <| ?_
          exact ih (by omega) _ (mv.nx (p + 1)) (by rw [← sc_t (by omega) (isLt_iff.mpr ⟨by omega, by omega⟩)]; exact ep)
  refine zz_aload_0 C dX3_readClause_0 <| zz_getI C fX3_47 (tX_K_reader hX) dX3_readClause_1 <| zpc 4 rfl <| ?_
  rw [f2]
  refine zz_istore_1 C (zle rfl) rfl dX3_readClause_4 <| zpc 5 rfl <| ?_
  exact lp k hk h ⟨f2, fun _ _ _ => rfl, fun _ _ => rfl⟩ ej.symm
end CCL
