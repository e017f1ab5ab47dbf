/-! ===== the class: a ring followed, the walk ===== -/
section CFW
def cFe (h : zH) (D : yD) (R : Nat × (Nat → Nat)) (sd : Int32) (hc : zH) : Prop := zI hc 141 0 = oI ((rF (eR9 D R sd) 4000).map Prod.fst) ∧ zI hc 141 1 = oI ((rF (eR9 D R sd) 4000).map Prod.snd) ∧ zI hc 141 2 = oI (tF (eR9 D R sd) (bad9 D R sd) 4000) ∧ cAg 73 143 h hc
variable {E : zE} {b : Nat} {G : zG} {t : zT} {h : zH} {l : Launch} {a c : Nat} {D : yD} {Mo : Nat × (Nat → Nat → Nat)} {R : Nat × (Nat → Nat)} {sd : Int32}
theorem cWk.fr {h h' : zH} {e n0 : Nat} {ex : Option Nat} {L : yL} {A : yN} {p : yP} {x : yS} {N0 : Nat} (he : e + 31 < 73) (hg : L.1.2.1 ≤ 14) (a : cAg 91 156 h h') (hm : cWk h e n0 ex L A p x N0 R) : cWk h' e n0 ex L A p x N0 R := by
  obtain ⟨⟨k1, k2, k3, k4, k5⟩, k6⟩ := hm
  refine ⟨⟨k1.ag a (by omega) hg, k2.ag a (by omega), k3.ad (fun k hk => a.1 _ _ (by omega)), k4.ag a (by omega), ?_⟩, k6.eq (fun k => a.1 _ _ (by omega)) (fun k => a.2 _ _ (by omega)) (a.1 _ _ (by omega))⟩
  rw [a.1 _ _ (by omega)]; exact k5
theorem c4_follow (hX : zTX t a c a) (hO : dOk D Mo R) (hR0 : 0 < R.1) (hw0 : cWk h a D.2.1.1.1 none D.1 D.2.1 yPd (x0 D sd) D.2.1.1.2.2 R) : zMet E b l yX4_follow cX4_follow 6 none 7 0 0 [.ref (b + 141), .ref (b + 73)] t h (qV (fun t' h' => t' = t ∧ cFe h D R sd h')) := by
  have ha := tX_a2 hX
  have hn := hO.2.2.1
  have hng := hO.1.1.2.1.2.2.1
  have htd := hO.1.2.2.2.2
  have hR3 := hO.2.2.2.1.1
  have hD : sdOk D yPd := hO.1
  have hpx : pX yPd := ⟨(fun x z => by cases z), (fun x z => by cases z), (fun x z => by cases z)⟩
  have hst1 : 1 ≤ strd R.1 ∧ strd R.1 ≤ 210 := by
    show 1 ≤ (if R.1 % 7 = 0 then max R.1 7 else R.1 * 7) ∧ (if R.1 % 7 = 0 then max R.1 7 else R.1 * 7) ≤ 210
    split <;> omega
  have er : nI R.1 - nI R.1 / 7 * 7 = nI (R.1 % 7) := by
    have : ∀ k : Nat, k < 31 → nI k - nI k / 7 * 7 = nI (k % 7) := by decide
    exact this _ (by omega)
  have hlo : ∀ f d, lo9 D R sd f d < 2 ^ 63 := fun f d => by
    have := kP_lt (f := f) 5 (fun k _ => wAll_b (R := R) (sd := sd) hD d (f + k))
    have e : (2048 : Nat) ^ 5 < 2 ^ 63 := by decide
    exact Nat.lt_trans this e
  refine zMet.of (ls := [some (.ref (b + 141)), some (.ref (b + 73)), none, none, none, none]) (by decide) (zle rfl) 4 rfl ?_
  intro G hlG C hR hE hin
  have lp : ∀ d, d ≤ 4000 → ∀ (hc : zH) (y5 : Option Value), cFo h D R sd d hc → cWk hc a D.2.1.1.1 none D.1 D.2.1 yPd (xRg D R sd d) D.2.1.1.2.2 R → zAW E b G 6 0 0 56 [some (.ref (b + 141)), some (.ref (b + 73)), some (.int (nI R.1)), some (.int (nI ((strd R.1)))), some (.int (nI ((d + 1)))), y5] [] t hc := by
    refine zLoop 4000 fun d hd ih hc y5 fo hw => ?_
    have fin : (d = 4000 ∨ ∃ x, rF (eR9 D R sd) d = some x) → cFe h D R sd hc := by
      rintro (z | ⟨x, z⟩)
      · rw [z] at fo; exact fo.2
      · obtain ⟨-, f1, f2, f3, f4⟩ := fo
        refine ⟨?_, ?_, ?_, f4⟩
        · rw [rF_keep z 4000 hd, ← z]; exact f1
        · rw [rF_keep z 4000 hd, ← z]; exact f2
        · rw [tF_keep z 4000 hd]; exact f3
    have hb1 : ∀ x, (rF (eR9 D R sd) d).map Prod.snd = some x → x < 2 ^ 31 := fun x z => by
      cases e : rF (eR9 D R sd) d with
      | none => rw [e] at z; cases z
      | some y =>
        rw [e] at z
        have z2 : y.2 = x := Option.some.inj z
        have := rF_lt d y e
        omega
    have hb2 : ∀ x, tF (eR9 D R sd) (bad9 D R sd) d = some x → x < 2 ^ 31 := fun x z => by have := tF_lt d x z; omega
    have etm := dDays_tm D.1 D.2.1 yPd R 1 (x0 D sd) d
    have hWq := (hD.w sd).days R 1 d
    have ht1 : (xRg D R sd d).2.1.1 = D.2.2.2 + d := by show (dDays _ _ _ _ _ _ _).2.1.1 = _; rw [etm]; rfl
    have ht2 : (xRg D R sd d).2.1.2 = 0 + d := by show (dDays _ _ _ _ _ _ _).2.1.2 = _; rw [etm]; rfl
    have s135 : d < 4000 → rF (eR9 D R sd) d = none → ∀ (h9 : zH) (v5 : Int32), cWk h9 a D.2.1.1.1 none D.1 D.2.1 yPd (xRg D R sd (d + 1)) D.2.1.1.2.2 R → cAg 73 143 h h9 → (∀ i, i ≤ d → zL h9 142 i = lN (lo9 D R sd 0 i) ∧ zL h9 143 i = lN (lo9 D R sd 5 i)) → zI h9 141 0 = -1 → zI h9 141 1 = -1 → zI h9 141 2 = oI (tF (eR9 D R sd) (bad9 D R sd) (d + 1)) → zAW E b G 6 0 0 135 [some (.ref (b + 141)), some (.ref (b + 73)), some (.int (nI R.1)), some (.int (nI ((strd R.1)))), some (.int (nI ((d + 1)))), some (.int v5)] [] t h9 := by
      intro hdl hno h9 v5 hw9 ag9 mk9 b9 l9 f9
      refine zz_aload_0 C dX4_follow_135 <| zz_iload_4 C dX4_follow_136 <| zz_aload_1 C dX4_follow_138 <| zz_getR C fX4_28 (tX_K_walk hX) (tX_R_state hX) dX4_follow_139 <| zpc 142 rfl <| ?_
      refine zy_callVV C hR [_, _] (c4_mark hX (tX_S87 hX) (d + 1) (by omega) (hw9.ten hO)) lX4_45 rfl (tX_K_rounds hX) (by decide) rfl ⟨zle rfl, zle rfl, zle rfl, zle rfl⟩ (zle rfl) dX4_follow_142 ?_
      intro t1 h1 hv; obtain ⟨rfl, rfl⟩ := hv; have mk1 : ∀ i, i ≤ d + 1 → zL (zsL (zsL h9 142 (d + 1) (lN (lo9 D R sd 0 (d + 1)))) 143 (d + 1) (lN (lo9 D R sd 5 (d + 1)))) 142 i = lN (lo9 D R sd 0 i) ∧ zL (zsL (zsL h9 142 (d + 1) (lN (lo9 D R sd 0 (d + 1)))) 143 (d + 1) (lN (lo9 D R sd 5 (d + 1)))) 143 i = lN (lo9 D R sd 5 i) := (fun i hi => by rw [zL_sL, if_neg (by omega), zL_sL, zL_sL]; by_cases z : i = d + 1; rw [if_pos ⟨rfl, z⟩, if_pos ⟨rfl, z⟩, z]; exact ⟨rfl, rfl⟩; rw [if_neg (by omega), if_neg (by omega), zL_sL, if_neg (by omega)]; exact mk9 i (by omega))
      refine zz_aload_0 C dX4_follow_145 <| zz_iload_4 C dX4_follow_146 <| zz_iload_3 C dX4_follow_148 <| zpc 149 rfl <| ?_
      refine zy_callVV C hR [_, _] (c4_lookBack (h := zsL (zsL h9 142 (d + 1) (lN (lo9 D R sd 0 (d + 1)))) 143 (d + 1) (lN (lo9 D R sd 5 (d + 1)))) hX (d + 1) (strd R.1) (by omega) hst1.1 hst1.2 l9 (lo := lo9 D R sd 0) (hi := lo9 D R sd 5) (fun i hi => ⟨(mk1 i hi).1, (mk1 i hi).2, hlo _ _, hlo _ _⟩)) lX4_74 rfl (tX_K_rounds hX) (by decide) rfl ⟨zle rfl, zle rfl, zle rfl, zle rfl⟩ (zle rfl) dX4_follow_149 ?_
      intro t2 h2 hv; obtain ⟨rfl, lk⟩ := hv
      refine zz_iinc_4 C _ (zle rfl) rfl dX4_follow_152 nI_s <| zz_goto C 56 dX4_follow_155 (by decide) <| zpc 56 rfl <| ?_
      rcases lk with ⟨i, q1, q2, q3, q4, rfl⟩ | ⟨rfl, q⟩
      · have hE := (same9 hD hn hR0 (show i ≤ d + 1 by omega)).mpr ⟨q2, q3, q4⟩
        have hit := rF_hit (eQ_tr _ _ _ _) hno (show i ≤ d by omega) hE
        refine ih hdl _ _ ⟨mk1, ?_, ?_, ?_, ?_⟩ ?_
        · rw [hit, zI_sI, if_neg (by omega)]; exact zI_self _ _ _ _
        · rw [hit]; exact zI_self _ _ _ _
        · rw [zI_sI, if_neg (by omega), zI_sI, if_neg (by omega)]; exact f9
        · exact (((ag9.sL (by omega) (by omega)).sL (by omega) (by omega)).sI (by omega) (by omega)).sI (by omega) (by omega)
        · exact cWk.fr (by omega) hng (((((cAg.rf _).sL (by omega) (by omega)).sL (by omega) (by omega)).sI (by omega) (by omega)).sI (by omega) (by omega)) hw9
      · have miss := rF_miss hno (fun i h1 h2 => q i (by omega) ((same9 hD hn hR0 (show i ≤ d + 1 by omega)).mp h2).1 ((same9 hD hn hR0 (show i ≤ d + 1 by omega)).mp h2).2)
        refine ih hdl _ _ ⟨mk1, ?_, ?_, f9, ?_⟩ ?_
        · rw [miss]; exact b9
        · rw [miss]; exact l9
        · exact (ag9.sL (by omega) (by omega)).sL (by omega) (by omega)
        · exact cWk.fr (by omega) hng (((cAg.rf _).sL (by omega) (by omega)).sL (by omega) (by omega)) hw9
    sorry
  sorry
end CFW
