/-! ===== the class: a ring followed, the walk ===== -/
section CFW
def cFe (h : zH) (D : yD) (R : Nat × (Nat → Nat)) (sd : Int32) (hc : zH) : Prop := zI hc 141 0 = oI ((rF (eR9 D R sd) 4000).map Prod.fst) ∧ zI hc 141 1 = oI ((rF (eR9 D R sd) 4000).map Prod.snd) ∧ zI hc 141 2 = oI (tF (eR9 D R sd) (bad9 D R sd) 4000) ∧ cAg 73 143 h hc
variable {E : zE} {b : Nat} {G : zG} {t : zT} {h : zH} {l : Launch} {a c : Nat} {D : yD} {Mo : Nat × (Nat → Nat → Nat)} {R : Nat × (Nat → Nat)} {sd : Int32}
theorem cWk.fr {h h' : zH} {e n0 : Nat} {ex : Option Nat} {L : yL} {A : yN} {p : yP} {x : yS} {N0 : Nat} (he : e + 31 < 73) (hg : L.1.2.1 ≤ 14) (a : cAg 91 156 h h') (hm : cWk h e n0 ex L A p x N0 R) : cWk h' e n0 ex L A p x N0 R := by
  obtain ⟨⟨k1, k2, k3, k4, k5⟩, k6⟩ := hm
  refine ⟨⟨k1.ag a (by omega) hg, k2.ag a (by omega), k3.ad (fun k hk => a.1 _ _ (by omega)), k4.ag a (by omega), ?_⟩, k6.eq (fun k => a.1 _ _ (by omega)) (fun k => a.2 _ _ (by omega)) (a.1 _ _ (by omega))⟩
  rw [a.1 _ _ (by omega)]; exact k5
theorem c4_follow (hX : zTX t a c a) (hO : dOk D Mo R) (hR0 : 0 < R.1) (hw0 : cWk h a D.2.1.1.1 none D.1 D.2.1 yPd (x0 D sd) D.2.1.1.2.2 R) : zMet E b l yX4_follow cX4_follow 6 none 7 0 0 [.ref (b + 141), .ref (b + 73)] t h (qV (fun t' h' => t' = t ∧ cFe h D R sd h')) := by
  have ha := tX_a2 hX
  have hn := hO.2.2.1
  have hng := hO.1.1.2.1.2.2.1
  have htd := hO.1.2.2.2.2
  have hR3 := hO.2.2.2.1.1
  have hD : sdOk D yPd := hO.1
  have hpx : pX yPd := ⟨(fun x z => by cases z), (fun x z => by cases z), (fun x z => by cases z)⟩
  have hst1 : 1 ≤ strd R.1 ∧ strd R.1 ≤ 210 := by
    show 1 ≤ (if R.1 % 7 = 0 then max R.1 7 else R.1 * 7) ∧ (if R.1 % 7 = 0 then max R.1 7 else R.1 * 7) ≤ 210
    split <;> omega
  have er : nI R.1 - nI R.1 / 7 * 7 = nI (R.1 % 7) := by
    have : ∀ k : Nat, k < 31 → nI k - nI k / 7 * 7 = nI (k % 7) := by decide
    exact this _ (by omega)
  have hlo : ∀ f d, lo9 D R sd f d < 2 ^ 63 := fun f d => by
    have := kP_lt (f := f) 5 (fun k _ => wAll_b (R := R) (sd := sd) hD d (f + k))
    have e : (2048 : Nat) ^ 5 < 2 ^ 63 := by decide
    exact Nat.lt_trans this e
  refine zMet.of (ls := [some (.ref (b + 141)), some (.ref (b + 73)), none, none, none, none]) (by decide) (zle rfl) 4 rfl ?_
  intro G hlG C hR hE hin
  have lp : ∀ d, d ≤ 4000 → ∀ (hc : zH) (y5 : Option Value), cFo h D R sd d hc → cWk hc a D.2.1.1.1 none D.1 D.2.1 yPd (xRg D R sd d) D.2.1.1.2.2 R → zAW E b G 6 0 0 56 [some (.ref (b + 141)), some (.ref (b + 73)), some (.int (nI R.1)), some (.int (nI ((strd R.1)))), some (.int (nI ((d + 1)))), y5] [] t hc := by
    refine zLoop 4000 fun d hd ih hc y5 fo hw => ?_
    have fin : (d = 4000 ∨ ∃ x, rF (eR9 D R sd) d = some x) → cFe h D R sd hc := by
      rintro (z | ⟨x, z⟩)
      · rw [z] at fo; exact fo.2
      · obtain ⟨-, f1, f2, f3, f4⟩ := fo
        refine ⟨?_, ?_, ?_, f4⟩
        · rw [rF_keep z 4000 hd, ← z]; exact f1
        · rw [rF_keep z 4000 hd, ← z]; exact f2
        · rw [tF_keep z 4000 hd]; exact f3
    have hb1 : ∀ x, (rF (eR9 D R sd) d).map Prod.snd = some x → x < 2 ^ 31 := fun x z => by
      cases e : rF (eR9 D R sd) d with
      | none => rw [e] at z; cases z
      | some y =>
        rw [e] at z
        have z2 : y.2 = x := Option.some.inj z
        have := rF_lt d y e
        omega
    have hb2 : ∀ x, tF (eR9 D R sd) (bad9 D R sd) d = some x → x < 2 ^ 31 := fun x z => by have := tF_lt d x z; omega
    have etm := dDays_tm D.1 D.2.1 yPd R 1 (x0 D sd) d
    have hWq := (hD.w sd).days R 1 d
    have ht1 : (xRg D R sd d).2.1.1 = D.2.2.2 + d := by show (dDays _ _ _ _ _ _ _).2.1.1 = _; rw [etm]; rfl
    have ht2 : (xRg D R sd d).2.1.2 = 0 + d := by show (dDays _ _ _ _ _ _ _).2.1.2 = _; rw [etm]; rfl
    have s135 : d < 4000 → rF (eR9 D R sd) d = none → ∀ (h9 : zH) (v5 : Int32), cWk h9 a D.2.1.1.1 none D.1 D.2.1 yPd (xRg D R sd (d + 1)) D.2.1.1.2.2 R → cAg 73 143 h h9 → (∀ i, i ≤ d → zL h9 142 i = lN (lo9 D R sd 0 i) ∧ zL h9 143 i = lN (lo9 D R sd 5 i)) → zI h9 141 0 = -1 → zI h9 141 1 = -1 → zI h9 141 2 = oI (tF (eR9 D R sd) (bad9 D R sd) (d + 1)) → zAW E b G 6 0 0 135 [some (.ref (b + 141)), some (.ref (b + 73)), some (.int (nI R.1)), some (.int (nI ((strd R.1)))), some (.int (nI ((d + 1)))), some (.int v5)] [] t h9 := by
      intro hdl hno h9 v5 hw9 ag9 mk9 b9 l9 f9
      refine zz_aload_0 C dX4_follow_135 <| zz_iload_4 C dX4_follow_136 <| zz_aload_1 C dX4_follow_138 <| zz_getR C fX4_28 (tX_K_walk hX) (tX_R_state hX) dX4_follow_139 <| zpc 142 rfl <| ?_
      refine zy_callVV C hR [_, _] (c4_mark hX (tX_S87 hX) (d + 1) (by omega) (hw9.ten hO)) lX4_45 rfl (tX_K_rounds hX) (by decide) rfl ⟨zle rfl, zle rfl, zle rfl, zle rfl⟩ (zle rfl) dX4_follow_142 ?_
      intro t1 h1 hv; obtain ⟨rfl, rfl⟩ := hv; have mk1 : ∀ i, i ≤ d + 1 → zL (zsL (zsL h9 142 (d + 1) (lN (lo9 D R sd 0 (d + 1)))) 143 (d + 1) (lN (lo9 D R sd 5 (d + 1)))) 142 i = lN (lo9 D R sd 0 i) ∧ zL (zsL (zsL h9 142 (d + 1) (lN (lo9 D R sd 0 (d + 1)))) 143 (d + 1) (lN (lo9 D R sd 5 (d + 1)))) 143 i = lN (lo9 D R sd 5 i) := (fun i hi => by rw [zL_sL, if_neg (by omega), zL_sL, zL_sL]; by_cases z : i = d + 1; rw [if_pos ⟨rfl, z⟩, if_pos ⟨rfl, z⟩, z]; exact ⟨rfl, rfl⟩; rw [if_neg (by omega), if_neg (by omega), zL_sL, if_neg (by omega)]; exact mk9 i (by omega))
      refine zz_aload_0 C dX4_follow_145 <| zz_iload_4 C dX4_follow_146 <| zz_iload_3 C dX4_follow_148 <| zpc 149 rfl <| ?_
      refine zy_callVV C hR [_, _] (c4_lookBack (h := zsL (zsL h9 142 (d + 1) (lN (lo9 D R sd 0 (d + 1)))) 143 (d + 1) (lN (lo9 D R sd 5 (d + 1)))) hX (d + 1) (strd R.1) (by omega) hst1.1 hst1.2 l9 (lo := lo9 D R sd 0) (hi := lo9 D R sd 5) (fun i hi => ⟨(mk1 i hi).1, (mk1 i hi).2, hlo _ _, hlo _ _⟩)) lX4_74 rfl (tX_K_rounds hX) (by decide) rfl ⟨zle rfl, zle rfl, zle rfl, zle rfl⟩ (zle rfl) dX4_follow_149 ?_
      intro t2 h2 hv; obtain ⟨rfl, lk⟩ := hv
      refine zz_iinc_4 C _ (zle rfl) rfl dX4_follow_152 nI_s <| zz_goto C 56 dX4_follow_155 (by decide) <| zpc 56 rfl <| ?_
      rcases lk with ⟨i, q1, q2, q3, q4, rfl⟩ | ⟨rfl, q⟩
      · have hE := (same9 hD hn hR0 (show i ≤ d + 1 by omega)).mpr ⟨q2, q3, q4⟩
        have hit := rF_hit (eQ_tr _ _ _ _) hno (show i ≤ d by omega) hE
        refine ih hdl _ _ ⟨mk1, ?_, ?_, ?_, ?_⟩ ?_
        · rw [hit, zI_sI, if_neg (by omega)]; exact zI_self _ _ _ _
        · rw [hit]; exact zI_self _ _ _ _
        · rw [zI_sI, if_neg (by omega), zI_sI, if_neg (by omega)]; exact f9
        · exact (((ag9.sL (by omega) (by omega)).sL (by omega) (by omega)).sI (by omega) (by omega)).sI (by omega) (by omega)
        · exact cWk.fr (by omega) hng (((((cAg.rf _).sL (by omega) (by omega)).sL (by omega) (by omega)).sI (by omega) (by omega)).sI (by omega) (by omega)) hw9
      · have miss := rF_miss hno (fun i h1 h2 => q i (by omega) ((same9 hD hn hR0 (show i ≤ d + 1 by omega)).mp h2).1 ((same9 hD hn hR0 (show i ≤ d + 1 by omega)).mp h2).2)
        refine ih hdl _ _ ⟨mk1, ?_, ?_, f9, ?_⟩ ?_
        · rw [miss]; exact b9
        · rw [miss]; exact l9
        · exact (ag9.sL (by omega) (by omega)).sL (by omega) (by omega)
        · exact cWk.fr (by omega) hng (((cAg.rf _).sL (by omega) (by omega)).sL (by omega) (by omega)) hw9
    have s114 : d < 4000 → rF (eR9 D R sd) d = none → ∀ (h8 : zH) (v5 : Int32), cWk h8 a D.2.1.1.1 none D.1 D.2.1 yPd (xRg D R sd (d + 1)) D.2.1.1.2.2 R → cAg 73 90 hc h8 → (v5 = 1 ∧ bad9 D R sd d ∨ v5 = 0 ∧ ¬ bad9 D R sd d) → zAW E b G 6 0 0 114 [some (.ref (b + 141)), some (.ref (b + 73)), some (.int (nI R.1)), some (.int (nI ((strd R.1)))), some (.int (nI ((d + 1)))), some (.int v5)] [] t h8 := by
      intro hdl hno h8 v5 hw8 ag8 hv5
      obtain ⟨mk, f1, f2, f3, f4⟩ := fo
      have mk8 : ∀ i, i ≤ d → zL h8 142 i = lN (lo9 D R sd 0 i) ∧ zL h8 143 i = lN (lo9 D R sd 5 i) := fun i hi => ⟨(ag8.2 _ _ (by omega)).trans (mk i hi).1, (ag8.2 _ _ (by omega)).trans (mk i hi).2⟩
      have b8 : zI h8 141 0 = -1 := by rw [ag8.1 _ _ (by omega), f1, hno]; rfl
      have l8 : zI h8 141 1 = -1 := by rw [ag8.1 _ _ (by omega), f2, hno]; rfl
      have f8 : zI h8 141 2 = oI (tF (eR9 D R sd) (bad9 D R sd) d) := (ag8.1 _ _ (by omega)).trans f3
      have g8 : cAg 73 143 h h8 := f4.tr (ag8.wd (by omega) (by omega))
      have nb : v5 = 0 → ¬ bad9 D R sd d := fun z => by
        rcases hv5 with ⟨y, -⟩ | ⟨-, y⟩
        · rw [y] at z; exact absurd z (by decide)
        · exact y
      have yb : ¬ v5 = 0 → bad9 D R sd d := fun z => by
        rcases hv5 with ⟨-, y⟩ | ⟨y, -⟩
        · exact y
        · exact absurd y z
      have k1 : ¬ tF (eR9 D R sd) (bad9 D R sd) d = none → _ := fun z => s135 hdl hno h8 v5 hw8 g8 mk8 b8 l8 (by
        obtain ⟨x, hx⟩ := Option.ne_none_iff_exists'.mp z
        rw [tF_had hno hx, ← hx]; exact f8)
      have k2 : tF (eR9 D R sd) (bad9 D R sd) d = none → ¬ bad9 D R sd d → _ := fun z y => s135 hdl hno h8 v5 hw8 g8 mk8 b8 l8 (by rw [tF_none hno z y, ← z]; exact f8)
      have k3 : tF (eR9 D R sd) (bad9 D R sd) d = none → bad9 D R sd d → _ := fun z y => s135 hdl hno (zsI h8 141 2 (nI d)) v5 (cWk.fr (by omega) hng ((cAg.rf h8).sI (by omega) (by omega)) hw8) (g8.sI (by omega) (by omega)) mk8 (by rw [zI_sI, if_neg (by omega)]; exact b8) (by rw [zI_sI, if_neg (by omega)]; exact l8) (by rw [tF_new hno z y]; exact zI_self _ _ _ _)
      refine zz_aload_0 C dX4_follow_114 <| zz_getI C fX4_25 (tX_K_rounds hX) dX4_follow_115 <| zpc 118 rfl <| ?_
      rw [f8]
      refine zz_iconst_m1 C dX4_follow_118 <| zpc 119 rfl <| ?_
      refine zz_icmp_ne C 135 dX4_follow_119 (by decide) (fun c119 => ?_) (fun c119 => ?_)
      · rw [oI_m1 hb2] at c119
        first
        | exact k1 c119
        | exact k2 c119 (nb c124)
        | exact k3 c119 (yb c124)
      · rw [oI_m1 hb2] at c119
        refine zz_iload_5 C dX4_follow_122 <| zpc 124 rfl <| ?_
        refine zz_if_eq C 135 dX4_follow_124 (by decide) (fun c124 => ?_) (fun c124 => ?_)
        · first
          | exact k1 c119
          | exact k2 c119 (nb c124)
          | exact k3 c119 (yb c124)
        · refine zz_aload_0 C dX4_follow_127 <| zz_iload_4 C dX4_follow_128 <| zz_iconst_1 C dX4_follow_130 <| zz_isub C dX4_follow_131 <| zpc 132 rfl <| ?_
          rw [show (1 : Int32) = nI 1 from rfl, pk_sub (by omega), Nat.add_sub_cancel]
          refine zy_putI C fX4_25 pX4_2 (tX_K_rounds hX) dX4_follow_132 <| zpc 135 rfl <| ?_
          first
          | exact k1 c119
          | exact k2 c119 (nb c124)
          | exact k3 c119 (yb c124)
    have hno9 : (rF (eR9 D R sd) d).map Prod.snd = none → rF (eR9 D R sd) d = none := fun z => by
      cases e : rF (eR9 D R sd) d with
      | none => rfl
      | some x => rw [e] at z; cases z
    refine zz_iload_4 C dX4_follow_56 <| zz_sipush C 4000 dX4_follow_58 (by decide) <| zpc 61 rfl <| ?_
    refine zz_icmp_gt C 158 dX4_follow_61 (by decide) (fun c61 => ?_) (fun c61 => ?_)
    · rw [show (4000 : Int32) = nI 4000 from rfl, nI_ltI (by omega) (by omega)] at c61
      refine zy_return C hE (zle rfl) (zle rfl) dX4_follow_158 ?_
      first
      | exact ⟨rfl, fin (Or.inl (by omega))⟩
      | (refine ⟨rfl, fin (Or.inr ?_)⟩
         cases e : rF (eR9 D R sd) d with
         | none => rw [e] at c69; exact absurd rfl c69
         | some x => exact ⟨x, rfl⟩)
    · rw [show (4000 : Int32) = nI 4000 from rfl, nI_ltI (by omega) (by omega)] at c61
      refine zz_aload_0 C dX4_follow_64 <| zz_getI C fX4_22 (tX_K_rounds hX) dX4_follow_65 <| zpc 68 rfl <| ?_
      rw [fo.2.2.1]
      refine zz_iconst_m1 C dX4_follow_68 <| zpc 69 rfl <| ?_
      refine zz_icmp_ne C 158 dX4_follow_69 (by decide) (fun c69 => ?_) (fun c69 => ?_)
      · rw [oI_m1 hb1] at c69
        refine zy_return C hE (zle rfl) (zle rfl) dX4_follow_158 ?_
        first
        | exact ⟨rfl, fin (Or.inl (by omega))⟩
        | (refine ⟨rfl, fin (Or.inr ?_)⟩
           cases e : rF (eR9 D R sd) d with
           | none => rw [e] at c69; exact absurd rfl c69
           | some x => exact ⟨x, rfl⟩)
      · rw [oI_m1 hb1] at c69
        have hno := hno9 c69
        refine zz_aload_1 C dX4_follow_72 <| zz_aload_1 C dX4_follow_73 <| zz_iconst_1 C dX4_follow_74 <| zpc 75 rfl <| ?_
        refine zy_callVI C hR [_] (c8_shutBy hX (by omega) hWq hw (show (xRg D R sd d).2.1.1 < 2 ^ 30 by omega) (show (xRg D R sd d).2.1.2 < 2 ^ 30 by omega) hO.2.2.2.1 1 ⟨by omega, fun _ => hR0, fun z => absurd z (by omega)⟩) lX4_49 rfl (tX_K_walk hX) (by decide) rfl ⟨zle rfl, zle rfl, zle rfl, zle rfl⟩ (zle rfl) dX4_follow_75 ?_
        intro v t9 h9 hv; obtain ⟨rfl, ag9, rfl⟩ := hv
        refine zy_callVV C hR [_] (c8_passDay hX (by omega) hWq hpx (by show (xRg D R sd d).2.1.2 ≤ (xRg D R sd d).2.1.1; omega) (hw.ag (by omega) hng ag9) (show (xRg D R sd d).2.1.1 < 2 ^ 30 by omega) _ (by have := rShut_lt (rule := 1) hWq hO.2.2.2.1 (fun _ => hR0); omega)) lX4_53 rfl (tX_K_walk hX) (by decide) rfl ⟨zle rfl, zle rfl, zle rfl, zle rfl⟩ (zle rfl) dX4_follow_78 ?_
        intro t8 h8 hv; obtain ⟨rfl, ag8, hw8, -⟩ := hv; have hw8 : cWk h8 a D.2.1.1.1 none D.1 D.2.1 yPd (xRg D R sd (d + 1)) D.2.1.1.2.2 R := hw8; have agc : cAg 73 90 hc h8 := (ag9.wd (by omega) (by omega)).tr ag8; have hW8 := (hD.w sd).days R 1 (d + 1); have hwr : cWr h8 a 87 D.2.1.1.1 D.2.1.2 (xRg D R sd (d + 1)).1.1 := ⟨⟨hw8.1.1.1.2.1, hn⟩, fun j hj => ⟨⟨(hw8.1.2.2.2.1.2.1 j hj).1, (hW8.1.1.2.2.2.2 j hj).2.2.2.2.2.2.2⟩, hw8.1.2.1.2 j hj 4 (by omega), (hW8.1.1.2.2.2.2 j hj).2.2.2.2.2.2.1⟩⟩; have hfs : ∀ x, (xRg D R sd (d + 1)).2.2.2.2.1.2.2 = some x → x < 2 ^ 31 := (fun x z => by have := gTurns_fs D.1 D.2.1 yPd _ _ _ _ _ rfl _ x z; omega); have hpp : ∀ x, rPast D.2.1.2 (xRg D R sd (d + 1)).1.1 D.2.1.1.1 = some x → x < 2 ^ 31 := (fun x z => by have := rPast_lt z; omega)
        refine zz_aload_1 C dX4_follow_81 <| zz_getR C fX4_57 (tX_K_walk hX) (tX_R_tally hX) dX4_follow_82 <| zz_getI C fX4_61 (tX_K_tally hX) dX4_follow_85 <| zpc 88 rfl <| ?_
        rw [hw8.2.2.1.2.2]
        refine zz_iconst_m1 C dX4_follow_88 <| zpc 89 rfl <| ?_
        refine zz_icmp_ne C 107 dX4_follow_89 (by decide) (fun c89 => ?_) (fun c89 => ?_)
        · rw [oI_m1 hfs] at c89
          refine zz_iconst_1 C dX4_follow_107 <| zz_goto C 112 dX4_follow_108 (by decide) <| zz_istore_5 C (zle rfl) rfl dX4_follow_112 <| zpc 114 rfl <| ?_
          first
          | exact s114 (by omega) hno h8 _ hw8 agc (Or.inl ⟨rfl, Or.inl c89⟩)
          | exact s114 (by omega) hno h8 _ hw8 agc (Or.inl ⟨rfl, Or.inr c104⟩)
          | exact s114 (by omega) hno h8 _ hw8 agc (Or.inr ⟨rfl, fun z => z.elim (fun y => y c89) (fun y => y c104)⟩)
        · rw [oI_m1 hfs] at c89
          refine zz_aload_1 C dX4_follow_92 <| zz_getR C fX4_28 (tX_K_walk hX) (tX_R_state hX) dX4_follow_93 <| zz_aload_1 C dX4_follow_96 <| zz_getR C fX4_66 (tX_K_walk hX) (tX_R_wland hX) dX4_follow_97 <| zpc 100 rfl <| ?_
          refine zf_callVI C hR [_] (c6_firstPastUse (tX_S87 hX) (tX_Le hX) hwr) lX4_70 rfl (tS_K (tX_S87 hX)) (by decide) rfl ⟨zle rfl, zle rfl, zle rfl, zle rfl⟩ (zle rfl) dX4_follow_100 ?_
          refine zz_iconst_m1 C dX4_follow_103 <| zpc 104 rfl <| ?_
          refine zz_icmp_eq C 111 dX4_follow_104 (by decide) (fun c104 => ?_) (fun c104 => ?_)
          · rw [oI_m1 hpp] at c104
            refine zz_iconst_0 C dX4_follow_111 <| zz_istore_5 C (zle rfl) rfl dX4_follow_112 <| zpc 114 rfl <| ?_
            first
            | exact s114 (by omega) hno h8 _ hw8 agc (Or.inl ⟨rfl, Or.inl c89⟩)
            | exact s114 (by omega) hno h8 _ hw8 agc (Or.inl ⟨rfl, Or.inr c104⟩)
            | exact s114 (by omega) hno h8 _ hw8 agc (Or.inr ⟨rfl, fun z => z.elim (fun y => y c89) (fun y => y c104)⟩)
          · rw [oI_m1 hpp] at c104
            refine zz_iconst_1 C dX4_follow_107 <| zz_goto C 112 dX4_follow_108 (by decide) <| zz_istore_5 C (zle rfl) rfl dX4_follow_112 <| zpc 114 rfl <| ?_
            first
            | exact s114 (by omega) hno h8 _ hw8 agc (Or.inl ⟨rfl, Or.inl c89⟩)
            | exact s114 (by omega) hno h8 _ hw8 agc (Or.inl ⟨rfl, Or.inr c104⟩)
            | exact s114 (by omega) hno h8 _ hw8 agc (Or.inr ⟨rfl, fun z => z.elim (fun y => y c89) (fun y => y c104)⟩)
  have s43 : ∀ v : Int32, v = nI (strd R.1) → ∀ y4 y5, zAW E b G 6 0 0 44 [some (.ref (b + 141)), some (.ref (b + 73)), some (.int (nI R.1)), some (.int v), y4, y5] [] t (zsI (zsI (zsI h 141 0 (-1)) 141 1 (-1)) 141 2 (-1)) := by
    intro v ev y4 y5
    subst ev
    have ag : cAg 91 156 h (zsI (zsI (zsI h 141 0 (-1)) 141 1 (-1)) 141 2 (-1)) := (((cAg.rf h).sI (by omega) (by omega)).sI (by omega) (by omega)).sI (by omega) (by omega)
    have hw1 := cWk.fr (by omega) hng ag hw0
    have ag2 : cAg 73 143 h (zsI (zsI (zsI h 141 0 (-1)) 141 1 (-1)) 141 2 (-1)) := (((cAg.rf h).sI (by omega) (by omega)).sI (by omega) (by omega)).sI (by omega) (by omega)
    refine zz_aload_0 C dX4_follow_44 <| zz_iconst_0 C dX4_follow_45 <| zz_aload_1 C dX4_follow_46 <| zz_getR C fX4_28 (tX_K_walk hX) (tX_R_state hX) dX4_follow_47 <| zpc 50 rfl <| ?_
    refine zy_callVV C hR [_, _] (c4_mark hX (tX_S87 hX) 0 (by omega) (cWk.ten (d := 0) hO hw1)) lX4_45 rfl (tX_K_rounds hX) (by decide) rfl ⟨zle rfl, zle rfl, zle rfl, zle rfl⟩ (zle rfl) dX4_follow_50 ?_
    intro t1 h1 hv; obtain ⟨rfl, rfl⟩ := hv
    refine zz_iconst_1 C dX4_follow_53 <| zz_istore_4 C (zle rfl) rfl dX4_follow_54 <| zpc 56 rfl <| ?_
    refine lp 0 (by omega) _ _ ⟨fun i hi => ?_, ?_, ?_, ?_, (ag2.sL (by omega) (by omega)).sL (by omega) (by omega)⟩ (cWk.fr (by omega) hng (((cAg.rf _).sL (by omega) (by omega)).sL (by omega) (by omega)) hw1)
    · rw [show i = 0 by omega, zL_sL, if_neg (by omega), zL_sL, if_pos ⟨rfl, rfl⟩, zL_sL, if_pos ⟨rfl, rfl⟩]; exact ⟨rfl, rfl⟩
    · show zI (zsI (zsI (zsI h 141 0 (-1)) 141 1 (-1)) 141 2 (-1)) 141 0 = _
      rw [zI_sI, if_neg (by omega), zI_sI, if_neg (by omega), zI_self]; rfl
    · show zI (zsI (zsI (zsI h 141 0 (-1)) 141 1 (-1)) 141 2 (-1)) 141 1 = _
      rw [zI_sI, if_neg (by omega), zI_self]; rfl
    · show zI (zsI (zsI (zsI h 141 0 (-1)) 141 1 (-1)) 141 2 (-1)) 141 2 = -1
      exact zI_self _ _ _ _
  have hrl : zI (zsI (zsI (zsI h 141 0 (-1)) 141 1 (-1)) 141 2 (-1)) 87 4 = nI R.1 := by
    rw [zI_sI, if_neg (by omega), zI_sI, if_neg (by omega), zI_sI, if_neg (by omega)]; exact hw0.1.2.2.2.1.1.2
  refine zz_aload_0 C dX4_follow_0 <| zz_iconst_m1 C dX4_follow_1 <| zy_putI C fX4_18 pX4_0 (tX_K_rounds hX) dX4_follow_2 <| zz_aload_0 C dX4_follow_5 <| zz_iconst_m1 C dX4_follow_6 <| zy_putI C fX4_22 pX4_1 (tX_K_rounds hX) dX4_follow_7 <| zz_aload_0 C dX4_follow_10 <| zz_iconst_m1 C dX4_follow_11 <| zy_putI C fX4_25 pX4_2 (tX_K_rounds hX) dX4_follow_12 <| zz_aload_1 C dX4_follow_15 <| zz_getR C fX4_28 (tX_K_walk hX) (tX_R_state hX) dX4_follow_16 <| zz_getI C fX4_34 (tS_K (tX_S87 hX)) dX4_follow_19 <| zpc 22 rfl <| ?_
  rw [hrl]
  refine zz_istore_2 C (zle rfl) rfl dX4_follow_22 <| zz_iload_2 C dX4_follow_23 <| zz_bipush C 7 dX4_follow_24 (by decide) <| zz_irem C dX4_follow_26 (by decide) <| zpc 27 rfl <| ?_
  rw [er]
  refine zz_if_ne C 39 dX4_follow_27 (by decide) (fun c27 => ?_) (fun c27 => ?_)
  · rw [show (0 : Int32) = nI 0 from rfl, nI_eq (by omega) (by omega)] at c27
    refine zz_iload_2 C dX4_follow_39 <| zz_bipush C 7 dX4_follow_40 (by decide) <| zz_imul C dX4_follow_42 <| zz_istore_3 C (zle rfl) rfl dX4_follow_43 <| zpc 44 rfl <| ?_
    first
    | exact s43 _ (by rw [show (7 : Int32) = nI 7 from rfl, pk_mul]; show _ = nI (if R.1 % 7 = 0 then max R.1 7 else R.1 * 7); rw [if_neg c27]) _ _
    | exact s43 _ (by rw [show (7 : Int32) = nI 7 from rfl, nI_max (by omega) (by omega)]; show _ = nI (if R.1 % 7 = 0 then max R.1 7 else R.1 * 7); rw [if_pos c27]) _ _
  · rw [show (0 : Int32) = nI 0 from rfl, nI_eq (by omega) (by omega)] at c27
    refine zz_iload_2 C dX4_follow_30 <| zz_bipush C 7 dX4_follow_31 (by decide) <| zz_mmax C hR (zle rfl) mX4_39 (zle rfl) (zle rfl) (zle rfl) dX4_follow_33 <| zz_goto C 43 dX4_follow_36 (by decide) <| zz_istore_3 C (zle rfl) rfl dX4_follow_43 <| zpc 44 rfl <| ?_
    first
    | exact s43 _ (by rw [show (7 : Int32) = nI 7 from rfl, pk_mul]; show _ = nI (if R.1 % 7 = 0 then max R.1 7 else R.1 * 7); rw [if_neg c27]) _ _
    | exact s43 _ (by rw [show (7 : Int32) = nI 7 from rfl, nI_max (by omega) (by omega)]; show _ = nI (if R.1 % 7 = 0 then max R.1 7 else R.1 * 7); rw [if_pos c27]) _ _
end CFW
