/-! ===== the class: judge, minutes ===== -/
theorem dDays_row {L : yL} {A : yN} {p : yP} {R : Nat × (Nat → Nat)} {x : yS} (h0 : x.2.1.2 = 0) : ∀ d, d ≤ R.1 → dDays L A p R 1 d x = dRow L A p R.2 d x
  | 0, _ => rfl
  | d + 1, hd => by
    have ih := dDays_row (L := L) (A := A) (p := p) (R := R) h0 d (by omega)
    have etm := dDays_tm L A p R 1 x d
    show dDay L A p (rShut L A p R (dDays L A p R 1 d x) 1) (dDays L A p R 1 d x) = dDay L A p (R.2 d) (dRow L A p R.2 d x)
    have e1 : rShut L A p R (dDays L A p R 1 d x) 1 = R.2 d := by
      show R.2 ((dDays L A p R 1 d x).2.1.2 % R.1) = R.2 d
      rw [etm]
      dsimp only
      rw [h0, Nat.zero_add, Nat.mod_eq_of_lt (by omega)]
    rw [e1, ih]
section CJ
variable {E : zE} {b : Nat} {G : zG} {t : zT} {h : zH} {l : Launch} {a c e : Nat} {D : yD} {Mo : Nat × (Nat → Nat → Nat)} {R : Nat × (Nat → Nat)}
def vPair (h : zH) (at' : Nat) (o : Option (Nat × Nat)) : Prop := zI h 144 at' = oI (o.map Prod.fst) ∧ zI h 144 (at' + 1) = oI (o.map Prod.snd)
def vNext (o : Option (Nat × Nat)) (d : Nat) (w : Option Nat) : Option (Nat × Nat) := match o with
  | some z => some z
  | none => w.map (fun k => (d, k))
theorem c10_note (hX : zTX t a c e) (q : Nat) (hq : q ≤ 2) {o : Option (Nat × Nat)} (ho : ∀ i j, o = some (i, j) → i < 100) (hp : vPair h q o) (d : Nat) {w : Option Nat} (hw : ∀ x, w = some x → x < 100) : zMet E b l yX10_noteVerdict cX10_noteVerdict 4 none 1 0 0 [.ref (b + 0), .int (nI q), .int (nI d), .int (oI w)] t h (qV (fun t' h' => t' = t ∧ (∀ i k, ¬ (i = 144 ∧ (k = q ∨ k = q + 1)) → zI h' i k = zI h i k) ∧ (∀ i k, zL h' i k = zL h i k) ∧ vPair h' q (vNext o d w))) := by
  have h1 := oI_n1 (o := o.map Prod.fst) (fun x hx => by cases o with | none => cases hx | some z => cases hx; have := ho z.1 z.2 rfl; omega)
  have h2 := oI_n1 (o := w) (fun x hx => by have := hw x hx; omega)
  refine zMet.of (ls := [some (.ref (b + 0)), some (.int (nI q)), some (.int (nI d)), some (.int (oI w))]) (by decide) (zle rfl) 0 rfl ?_
  intro G hlG C hR hE hin
  refine zz_aload_0 C dX10_noteVerdict_0 <| zz_getR C fX10_59 (tX_K_X hX) (tX_R_verdict hX) dX10_noteVerdict_1 <| zz_iload_1 C dX10_noteVerdict_4 <| zc_iaload C _ (tX_K_verdict hX) (znI (by omega)) (by omega) dX10_noteVerdict_5 <| zpc 6 rfl <| ?_
  rw [hp.1]
  refine zz_iconst_m1 C dX10_noteVerdict_6 <| zpc 7 rfl <| ?_
  refine zz_icmp_ne C 31 dX10_noteVerdict_7 (by decide) (fun c7 => ?_) (fun c7 => ?_)
  · rw [h1] at c7
    refine zy_return C hE (zle rfl) (zle rfl) dX10_noteVerdict_31 ?_
    first
    | (cases o with
       | none => exact absurd rfl c7
       | some z => exact ⟨rfl, fun _ _ _ => rfl, fun _ _ => rfl, hp⟩)
    | (cases o with
       | some z => cases c7
       | none => rw [c12]; exact ⟨rfl, fun _ _ _ => rfl, fun _ _ => rfl, hp⟩)
    | (cases o with
       | some z => cases c7
       | none =>
         cases w with
         | none => exact absurd rfl c12
         | some k =>
           refine ⟨rfl, fun i j hn => ?_, fun _ _ => rfl, ?_, ?_⟩
           · rw [zI_sI, if_neg (by omega), zI_sI, if_neg (by omega)]
           · rw [zI_sI, if_neg (by omega), zI_self]; rfl
           · rw [zI_self]; rfl)
  · rw [h1] at c7
    refine zz_iload_3 C dX10_noteVerdict_10 <| zz_iconst_m1 C dX10_noteVerdict_11 <| zpc 12 rfl <| ?_
    refine zz_icmp_eq C 31 dX10_noteVerdict_12 (by decide) (fun c12 => ?_) (fun c12 => ?_)
    · rw [h2] at c12
      refine zy_return C hE (zle rfl) (zle rfl) dX10_noteVerdict_31 ?_
      first
      | (cases o with
         | none => exact absurd rfl c7
         | some z => exact ⟨rfl, fun _ _ _ => rfl, fun _ _ => rfl, hp⟩)
      | (cases o with
         | some z => cases c7
         | none => rw [c12]; exact ⟨rfl, fun _ _ _ => rfl, fun _ _ => rfl, hp⟩)
      | (cases o with
         | some z => cases c7
         | none =>
           cases w with
           | none => exact absurd rfl c12
           | some k =>
             refine ⟨rfl, fun i j hn => ?_, fun _ _ => rfl, ?_, ?_⟩
             · rw [zI_sI, if_neg (by omega), zI_sI, if_neg (by omega)]
             · rw [zI_sI, if_neg (by omega), zI_self]; rfl
             · rw [zI_self]; rfl)
    · rw [h2] at c12
      refine zz_aload_0 C dX10_noteVerdict_15 <| zz_getR C fX10_59 (tX_K_X hX) (tX_R_verdict hX) dX10_noteVerdict_16 <| zz_iload_1 C dX10_noteVerdict_19 <| zz_iload_2 C dX10_noteVerdict_20 <| zc_iastore C _ (tX_K_verdict hX) (znI (by omega)) (by omega) dX10_noteVerdict_21 <| zz_aload_0 C dX10_noteVerdict_22 <| zz_getR C fX10_59 (tX_K_X hX) (tX_R_verdict hX) dX10_noteVerdict_23 <| zz_iload_1 C dX10_noteVerdict_26 <| zz_iconst_1 C dX10_noteVerdict_27 <| zz_iadd C dX10_noteVerdict_28 <| zpc 29 rfl <| ?_
      rw [show (1 : Int32) = nI 1 from rfl, nI_add]
      refine zz_iload_3 C dX10_noteVerdict_29 <| zc_iastore C _ (tX_K_verdict hX) (znI (by omega)) (by omega) dX10_noteVerdict_30 <| zpc 31 rfl <| ?_
      refine zy_return C hE (zle rfl) (zle rfl) dX10_noteVerdict_31 ?_
      first
      | (cases o with
         | none => exact absurd rfl c7
         | some z => exact ⟨rfl, fun _ _ _ => rfl, fun _ _ => rfl, hp⟩)
      | (cases o with
         | some z => cases c7
         | none => rw [c12]; exact ⟨rfl, fun _ _ _ => rfl, fun _ _ => rfl, hp⟩)
      | (cases o with
         | some z => cases c7
         | none =>
           cases w with
           | none => exact absurd rfl c12
           | some k =>
             refine ⟨rfl, fun i j hn => ?_, fun _ _ => rfl, ?_, ?_⟩
             · rw [zI_sI, if_neg (by omega), zI_sI, if_neg (by omega)]
             · rw [zI_sI, if_neg (by omega), zI_self]; rfl
             · rw [zI_self]; rfl)
theorem c10_judgeRow (hX : zTX t a c e) (hO : dOk D Mo R) (hm : cSn h a D Mo R) (sd : Int32) : zMet E b l yX10_judgeRow cX10_judgeRow 2 none 7 0 0 [.ref (b + 0)] t h (qV (fun t' h' => t' = zsR t 73 6 (some a) ∧ cAg 73 144 h h' ∧ vPair h' 0 (jPast D.1 D.2.1 yP0 R.2 (x0 D sd) R.1) ∧ vPair h' 2 (jStay D.1 D.2.1 yP0 R.2 (x0 D sd) R.1))) := by
  have ha := tX_a2 hX
  have htd := hO.1.2.2.2.2
  have hn := hO.2.2.1
  have hR30 := hO.2.2.2.1.1
  have hng := hO.1.1.2.1.2.2.1
  have hW := hO.1.w sd
  have hld : ∀ h9, cAg 73 144 h h9 → cSn h9 a D Mo R := fun h9 ag => hm.ag ag (by omega) ha hO
  refine zMet.of (ls := [some (.ref (b + 0)), none]) (by decide) (zle rfl) 1 rfl ?_
  intro G hlG C hR hE hin
  have lp : zTX (zsR t 73 6 (some a)) a c a → ∀ d, d ≤ R.1 → ∀ hc : zH, cAg 73 144 h hc → cWk hc a D.2.1.1.1 none D.1 D.2.1 yP0 (dRow D.1 D.2.1 yP0 R.2 d (x0 D sd)) D.2.1.1.2.2 R → vPair hc 0 (jPast D.1 D.2.1 yP0 R.2 (x0 D sd) d) → vPair hc 2 (jStay D.1 D.2.1 yP0 R.2 (x0 D sd) d) → zAW E b G 2 0 0 41 [some (.ref (b + 0)), some (.int (nI d))] [] (zsR t 73 6 (some a)) hc := by
    intro hX
    refine zLoop R.1 fun d hd ih hc ag hw v0 v2 => ?_
    have hmc := hld hc ag
    have hWd := hW.row R.2 d
    have etm := dRow_tm D.1 D.2.1 yP0 R.2 (x0 D sd) d
    have et1 : (dRow D.1 D.2.1 yP0 R.2 d (x0 D sd)).2.1.1 = D.2.2.2 + d := by rw [etm]; rfl
    have et2 : (dRow D.1 D.2.1 yP0 R.2 d (x0 D sd)).2.1.2 = 0 + d := by rw [etm]; rfl
    refine zz_iload_1 C dX10_judgeRow_41 <| zz_aload_0 C dX10_judgeRow_42 <| zz_getR C fX10_26 (tX_K_X hX) (tX_R_now hX) dX10_judgeRow_43 <| zz_getI C fX10_212 (tS_K (tX_S68 hX)) dX10_judgeRow_46 <| zpc 49 rfl <| ?_
    rw [hmc.2.2.2.1.2]
    refine zz_icmp_ge C 110 dX10_judgeRow_49 (by decide) (fun c49 => ?_) (fun c49 => ?_)
    · rw [nI_leI (by omega) (by omega)] at c49
      refine zy_return C hE (zle rfl) (zle rfl) dX10_judgeRow_110 ?_
      rw [show d = R.1 by omega] at v0 v2; exact ⟨rfl, ag, v0, v2⟩
    · rw [nI_leI (by omega) (by omega)] at c49
      refine zz_aload_0 C dX10_judgeRow_52 <| zz_getR C fX10_41 (tX_K_X hX) (tX_R_walk hX) dX10_judgeRow_53 <| zz_aload_0 C dX10_judgeRow_56 <| zz_getR C fX10_26 (tX_K_X hX) (tX_R_now hX) dX10_judgeRow_57 <| zz_getR C fX10_215 (tS_K (tX_S68 hX)) (tS_R_row (tX_S68 hX)) dX10_judgeRow_60 <| zz_iload_1 C dX10_judgeRow_63 <| zc_iaload C _ (tS_K_row (tX_S68 hX)) (znI (by omega)) (by omega) dX10_judgeRow_64 <| zpc 65 rfl <| ?_
      rw [hmc.2.2.2.2.2.2 d (by omega)]
      refine zy_callVV C hR [_] (c8_passDay hX (by omega) hWd pX0 (by show _ ≤ _; omega) hw (by omega) (R.2 d) (by have := hO.2.2.2.1.2 d (by omega); omega)) lX10_169 rfl (tX_K_walk hX) (by decide) rfl ⟨zle rfl, zle rfl, zle rfl, zle rfl⟩ (zle rfl) dX10_judgeRow_65 ?_
      intro t9 h9 hv; obtain ⟨rfl, ag9, hw9, -⟩ := hv; have hW9 := hWd.day (R.2 d); have hwr : cWr h9 a 87 D.2.1.1.1 D.2.1.2 (dRow D.1 D.2.1 yP0 R.2 (d + 1) (x0 D sd)).1.1 := ⟨⟨hw9.1.1.1.2.1, hn⟩, fun j hj => ⟨⟨(hw9.1.2.2.2.1.2.1 j hj).1, by have := hW9.1.1.2.2.2.2 j hj; show (dDay D.1 D.2.1 yP0 (R.2 d) (dRow D.1 D.2.1 yP0 R.2 d (x0 D sd))).1.1 j ≤ 99; omega⟩, hw9.1.2.1.2 j hj 4 (by omega), by have := hW9.1.1.2.2.2.2 j hj; omega⟩⟩; have q0 : vPair h9 0 (jPast D.1 D.2.1 yP0 R.2 (x0 D sd) d) := ⟨(by rw [ag9.1 _ _ (by omega)]; exact v0.1), (by rw [ag9.1 _ _ (by omega)]; exact v0.2)⟩; have q2 : vPair h9 2 (jStay D.1 D.2.1 yP0 R.2 (x0 D sd) d) := ⟨(by rw [ag9.1 _ _ (by omega)]; exact v2.1), (by rw [ag9.1 _ _ (by omega)]; exact v2.2)⟩
      refine zz_aload_0 C dX10_judgeRow_68 <| zz_iconst_0 C dX10_judgeRow_69 <| zz_iload_1 C dX10_judgeRow_70 <| zz_aload_0 C dX10_judgeRow_71 <| zz_getR C fX10_41 (tX_K_X hX) (tX_R_walk hX) dX10_judgeRow_72 <| zz_getR C fX10_172 (tX_K_walk hX) (tX_R_state hX) dX10_judgeRow_75 <| zz_aload_0 C dX10_judgeRow_78 <| zz_getR C fX10_19 (tX_K_X hX) (tX_R_land hX) dX10_judgeRow_79 <| zpc 82 rfl <| ?_
      refine zf_callVI C hR [_] (c6_firstPastUse (tX_S87 hX) (tX_La hX) hwr) lX10_221 rfl (tS_K (tX_S87 hX)) (by decide) rfl ⟨zle rfl, zle rfl, zle rfl, zle rfl⟩ (zle rfl) dX10_judgeRow_82 ?_
      refine zy_callVV C hR [_, _, _] (c10_note hX 0 (by omega) (fun i j z => by have := jPast_lt z; omega) q0 d (fun x z => by have := rPast_lt z; omega)) lX10_224 rfl (tX_K_X hX) (by decide) rfl ⟨zle rfl, zle rfl, zle rfl, zle rfl⟩ (zle rfl) dX10_judgeRow_85 ?_
      intro t8 h8 hv; obtain ⟨rfl, r1, r2, r3⟩ := hv; have fs8 : zI h8 83 5 = oI (dRow D.1 D.2.1 yP0 R.2 (d + 1) (x0 D sd)).2.2.2.2.1.2.2 := (by rw [r1 _ _ (by omega)]; exact hw9.2.2.1.2.2)
      refine zz_aload_0 C dX10_judgeRow_88 <| zz_iconst_2 C dX10_judgeRow_89 <| zz_iload_1 C dX10_judgeRow_90 <| zz_aload_0 C dX10_judgeRow_91 <| zz_getR C fX10_41 (tX_K_X hX) (tX_R_walk hX) dX10_judgeRow_92 <| zz_getR C fX10_179 (tX_K_walk hX) (tX_R_tally hX) dX10_judgeRow_95 <| zz_getI C fX10_228 (tX_K_tally hX) dX10_judgeRow_98 <| zpc 101 rfl <| ?_
      rw [fs8]
      refine zy_callVV C hR [_, _, _] (c10_note hX 2 (by omega) (fun i j z => by have := jStay_lt z; omega) (o := jStay D.1 D.2.1 yP0 R.2 (x0 D sd) d) ⟨(by rw [r1 _ _ (by omega)]; exact q2.1), (by rw [r1 _ _ (by omega)]; exact q2.2)⟩ d (fun x z => by have := dRow_fs z; omega)) lX10_224 rfl (tX_K_X hX) (by decide) rfl ⟨zle rfl, zle rfl, zle rfl, zle rfl⟩ (zle rfl) dX10_judgeRow_101 ?_
      intro t7 h7 hv; obtain ⟨rfl, s1, s2, s3⟩ := hv
      refine zz_iinc_1 C _ (zle rfl) rfl dX10_judgeRow_104 nI_s <| zz_goto C 41 dX10_judgeRow_107 (by decide) <| zpc 41 rfl <| ?_
      have rr : ∀ i k, ¬ i = 144 → zI h7 i k = zI h9 i k := fun i k hi => (s1 i k (by omega)).trans (r1 i k (by omega))
      have rl : ∀ i k, zL h7 i k = zL h9 i k := fun i k => (s2 i k).trans (r2 i k)
      have ag7 : cAg 144 144 h9 h7 := ⟨fun i k hi => rr i k (by omega), fun i k _ => rl i k⟩
      refine ih (by omega) h7 (ag.tr ((ag9.wd (by omega) (by omega)).tr (ag7.wd (by omega) (by omega)))) ?_ ⟨?_, ?_⟩ s3
      · obtain ⟨⟨k1, k2, k3, k4, k5⟩, k6⟩ := hw9
        refine ⟨⟨k1.ag ag7 (by omega) hng, k2.ag ag7 (by omega), k3.ad (fun k hk => rr _ _ (by omega)), k4.ag ag7 (by omega), ?_⟩, k6.eq (fun k => rr _ _ (by omega)) (fun k => rl _ _) (rr _ _ (by omega))⟩
        rw [rr _ _ (by omega)]; exact k5
      · rw [s1 _ _ (by omega)]; exact r3.1
      · rw [s1 _ _ (by omega)]; exact r3.2
  have lp0 : ∀ k, k ≤ 4 → ∀ hc : zH, cAg 144 144 h hc → (∀ j, j < k → zI hc 144 j = -1) → zAW E b G 2 0 0 2 [some (.ref (b + 0)), some (.int (nI k))] [] t hc := by
    refine zLoop 4 fun k hk ih hc ag hv => ?_
    have hmc := hm.ag ag (by omega) ha hO
    refine zz_iload_1 C dX10_judgeRow_2 <| zz_aload_0 C dX10_judgeRow_3 <| zz_getR C fX10_59 (tX_K_X hX) (tX_R_verdict hX) dX10_judgeRow_4 <| zz_alenI C (tX_K_verdict hX) dX10_judgeRow_7 <| zpc 8 rfl <| ?_
    refine zz_icmp_ge C 24 dX10_judgeRow_8 (by decide) (fun c8 => ?_) (fun c8 => ?_)
    · rw [show Int32.ofNat 4 = nI 4 from rfl, nI_leI (by omega) (by omega)] at c8
      refine zz_aload_0 C dX10_judgeRow_24 <| zz_getR C fX10_41 (tX_K_X hX) (tX_R_walk hX) dX10_judgeRow_25 <| zz_aload_0 C dX10_judgeRow_28 <| zz_getR C fX10_19 (tX_K_X hX) (tX_R_land hX) dX10_judgeRow_29 <| zz_aload_0 C dX10_judgeRow_32 <| zz_getR C fX10_26 (tX_K_X hX) (tX_R_now hX) dX10_judgeRow_33 <| zpc 36 rfl <| ?_
      refine zy_callVV C hR [_, _] (c8_beg hX hO hmc sd) lX10_155 rfl (tX_K_walk hX) (by decide) rfl ⟨zle rfl, zle rfl, zle rfl, zle rfl⟩ (zle rfl) dX10_judgeRow_36 ?_
      intro t' h' hv2; obtain ⟨rfl, hX, ag2, hw, hsn⟩ := hv2
      refine zz_iconst_0 C dX10_judgeRow_39 <| zz_istore_1 C (zle rfl) rfl dX10_judgeRow_40 <| zpc 41 rfl <| ?_
      refine lp hX 0 (by omega) h' ((ag.wd (by omega) (by omega)).tr (ag2.wd (by omega) (by omega))) hw ⟨?_, ?_⟩ ⟨?_, ?_⟩
      · rw [ag2.1 _ _ (by omega)]; exact hv 0 (by omega)
      · rw [ag2.1 _ _ (by omega)]; exact hv 1 (by omega)
      · rw [ag2.1 _ _ (by omega)]; exact hv 2 (by omega)
      · rw [ag2.1 _ _ (by omega)]; exact hv 3 (by omega)
    · rw [show Int32.ofNat 4 = nI 4 from rfl, nI_leI (by omega) (by omega)] at c8
      refine zz_aload_0 C dX10_judgeRow_11 <| zz_getR C fX10_59 (tX_K_X hX) (tX_R_verdict hX) dX10_judgeRow_12 <| zz_iload_1 C dX10_judgeRow_15 <| zz_iconst_m1 C dX10_judgeRow_16 <| zc_iastore C _ (tX_K_verdict hX) (znI (by omega)) (by omega) dX10_judgeRow_17 <| zz_iinc_1 C _ (zle rfl) rfl dX10_judgeRow_18 nI_s <| zz_goto C 2 dX10_judgeRow_21 (by decide) <| zpc 2 rfl <| ?_
      refine ih (by omega) _ (ag.sI (by omega) (by omega)) (fun j hj => ?_)
      rw [zI_sI]
      by_cases z : j = k
      · rw [if_pos ⟨rfl, z⟩]
      · rw [if_neg (by omega)]; exact hv j (by omega)
  refine zz_iconst_0 C dX10_judgeRow_0 <| zz_istore_1 C (zle rfl) rfl dX10_judgeRow_1 <| zpc 2 rfl <| ?_
  exact lp0 0 (by omega) h (cAg.rf h) (fun j hj => absurd hj (by omega))
theorem c10_judge1 (hX : zTX t a c e) (hO : dOk D Mo R) (hm : cSn h a D Mo R) (sd : Int32) (q : Nat) (hq : q ≤ 3) : zMet E b l yX10_judge cX10_judge 2 (some .int) 8 0 0 [.ref (b + 0), .int (nI q)] t h (qI (fun v t' h' => v = oI (jWhat (jPast D.1 D.2.1 yP0 R.2 (x0 D sd) R.1) (jStay D.1 D.2.1 yP0 R.2 (x0 D sd) R.1) q) ∧ cAsk t a h t' h')) := by
  refine zMet.of (ls := [some (.ref (b + 0)), some (.int (nI q))]) (by decide) (zle rfl) 0 rfl ?_
  intro G hlG C hR hE hin
  refine zz_iload_1 C dX10_judge_0 <| zpc 1 rfl <| ?_
  refine zz_if_lt C 17 dX10_judge_1 (by decide) (fun c1 => ?_) (fun c1 => ?_)
  · exact absurd c1 (nI_pos (by omega))
  · refine zz_iload_1 C dX10_judge_4 <| zz_aload_0 C dX10_judge_5 <| zz_getR C fX10_59 (tX_K_X hX) (tX_R_verdict hX) dX10_judge_6 <| zz_alenI C (tX_K_verdict hX) dX10_judge_9 <| zpc 10 rfl <| ?_
    refine zz_icmp_ge C 17 dX10_judge_10 (by decide) (fun c10 => ?_) (fun c10 => ?_)
    · exact absurd c10 (nI_ge (b := 4) (by omega) (by omega))
    · refine zz_iconst_1 C dX10_judge_13 <| zz_goto C 18 dX10_judge_14 (by decide) <| zpc 18 rfl <| ?_
      refine zf_callSV C hR [_] (c10_demand1 _ (by decide)) lX10_76 rfl ⟨zle rfl, zle rfl, zle rfl, zle rfl⟩ (zle rfl) dX10_judge_18 ?_
      refine zz_aload_0 C dX10_judge_21 <| zpc 22 rfl <| ?_
      refine zy_callVV C hR [] (c10_judgeRow hX hO hm sd) lX10_218 rfl (tX_K_X hX) (by decide) rfl ⟨zle rfl, zle rfl, zle rfl, zle rfl⟩ (zle rfl) dX10_judge_22 ?_
      intro t' h' hv; obtain ⟨rfl, ag, v0, v2⟩ := hv; have hX := hX.wl (i := a) (tX_a hX)
      refine zz_aload_0 C dX10_judge_25 <| zz_getR C fX10_59 (tX_K_X hX) (tX_R_verdict hX) dX10_judge_26 <| zz_iload_1 C dX10_judge_29 <| zc_iaload C _ (tX_K_verdict hX) (znI (by omega)) (by omega) dX10_judge_30 <| zpc 31 rfl <| ?_
      refine zy_ireturn C hE (zle rfl) (zle rfl) dX10_judge_31 ?_
      refine ⟨?_, Or.inr rfl, ag⟩
      obtain rfl | rfl | rfl | rfl : q = 0 ∨ q = 1 ∨ q = 2 ∨ q = 3 := by omega
      · exact v0.1
      · exact v0.2
      · exact v2.1
      · exact v2.2
theorem c10_judge0 (hX : zTX t a c e) (hlt : l.stackTraces = false) (hf : t.1.2 = false) (r : Int32) (hno : ¬ ∃ k, k ≤ 3 ∧ r = nI k) : zMetX E b l yX10_judge cX10_judge 2 (some .int) 8 1 6 [.ref (b + 0), .int r] t h xA := by
  refine zMetX.of (ls := [some (.ref (b + 0)), some (.int r)]) hlt (by decide) (zle rfl) 0 rfl ?_
  intro G hlG C hR hE
  rw [← hlG] at hlt
  refine zz_iload_1 C dX10_judge_0 <| zpc 1 rfl <| ?_
  refine zz_if_lt C 17 dX10_judge_1 (by decide) (fun c1 => ?_) (fun c1 => ?_)
  · refine zz_iconst_0 C dX10_judge_17 <| zpc 18 rfl <| ?_
    exact zx_callS C hR hE [_] (c10_demand0 hlt hf) lX10_76 rfl ⟨zle rfl, zle rfl, zle rfl, zle rfl⟩ (zle rfl) (zle rfl) (zle rfl) dX10_judge_18
  · refine zz_iload_1 C dX10_judge_4 <| zz_aload_0 C dX10_judge_5 <| zz_getR C fX10_59 (tX_K_X hX) (tX_R_verdict hX) dX10_judge_6 <| zz_alenI C (tX_K_verdict hX) dX10_judge_9 <| zpc 10 rfl <| ?_
    refine zz_icmp_ge C 17 dX10_judge_10 (by decide) (fun c10 => ?_) (fun c10 => ?_)
    · refine zz_iconst_0 C dX10_judge_17 <| zpc 18 rfl <| ?_
      exact zx_callS C hR hE [_] (c10_demand0 hlt hf) lX10_76 rfl ⟨zle rfl, zle rfl, zle rfl, zle rfl⟩ (zle rfl) (zle rfl) (zle rfl) dX10_judge_18
    · refine zz_iconst_1 C dX10_judge_13 <| zz_goto C 18 dX10_judge_14 (by decide) <| zpc 18 rfl <| ?_
      obtain ⟨k, hk, ek⟩ := (ixOk (s := r) (n := 4) (by omega)).mp ⟨c1, Int32.not_le.mp c10⟩
      exact absurd ⟨k, by omega, ek⟩ hno
theorem c10_minutes (hX : zTX t a c e) (hO : dOk D Mo R) (hm : cSn h a D Mo R) (sd : Int32) : zMet E b l yX10_minutes cX10_minutes 1 (some .long) 8 0 0 [.ref (b + 0)] t h (qJ (fun v t' h' => v = lN (dRow D.1 D.2.1 yP0 R.2 R.1 (x0 D sd)).2.2.2.1.1 ∧ cAsk t a h t' h')) := by
  have ha := tX_a2 hX
  have htd := hO.1.2.2.2.2
  have hR30 := hO.2.2.2.1.1
  have hrl := hm.2.2.2.1.2
  refine zMet.of (ls := [some (.ref (b + 0))]) (by decide) (zle rfl) 0 rfl ?_
  intro G hlG C hR hE hin
  refine zz_aload_0 C dX10_minutes_0 <| zz_getR C fX10_26 (tX_K_X hX) (tX_R_now hX) dX10_minutes_1 <| zz_getI C fX10_212 (tS_K (tX_S68 hX)) dX10_minutes_4 <| zpc 7 rfl <| ?_
  rw [hrl]
  refine zz_if_ne C 12 dX10_minutes_7 (by decide) (fun c7 => ?_) (fun c7 => ?_)
  · rw [show (0 : Int32) = nI 0 from rfl, nI_eq (by omega) (by omega)] at c7
    refine zz_aload_0 C dX10_minutes_12 <| zz_getR C fX10_41 (tX_K_X hX) (tX_R_walk hX) dX10_minutes_13 <| zz_aload_0 C dX10_minutes_16 <| zz_getR C fX10_19 (tX_K_X hX) (tX_R_land hX) dX10_minutes_17 <| zz_aload_0 C dX10_minutes_20 <| zz_getR C fX10_26 (tX_K_X hX) (tX_R_now hX) dX10_minutes_21 <| zpc 24 rfl <| ?_
    refine zy_callVV C hR [_, _] (c8_beg hX hO hm sd) lX10_155 rfl (tX_K_walk hX) (by decide) rfl ⟨zle rfl, zle rfl, zle rfl, zle rfl⟩ (zle rfl) dX10_minutes_24 ?_
    intro t' h' hv; obtain ⟨rfl, hX, ag, hw, hsn⟩ := hv
    refine zz_aload_0 C dX10_minutes_27 <| zz_getR C fX10_41 (tX_K_X hX) (tX_R_walk hX) dX10_minutes_28 <| zz_iconst_1 C dX10_minutes_31 <| zz_aload_0 C dX10_minutes_32 <| zz_getR C fX10_26 (tX_K_X hX) (tX_R_now hX) dX10_minutes_33 <| zz_getI C fX10_212 (tS_K (tX_S68 hX)) dX10_minutes_36 <| zpc 39 rfl <| ?_
    rw [hsn.2.2.2.1.2]
    refine zy_callVJ C hR [_, _] (c8_goOn hX (by omega) (hO.1.w sd) pX0 (Nat.zero_le _) hw hO.2.2.2.1 1 ⟨by omega, fun _ => by omega, fun z => absurd z (by omega)⟩ R.1 (by omega) (show D.2.2.2 + R.1 < 2 ^ 30 by omega)) lX10_198 rfl (tX_K_walk hX) (by decide) rfl ⟨zle rfl, zle rfl, zle rfl, zle rfl⟩ (zle rfl) dX10_minutes_39 ?_
    intro v t' h2 hv; obtain ⟨rfl, ag2, hw2, rfl⟩ := hv
    refine zy_lreturn C hE (zle rfl) (zle rfl) dX10_minutes_42 ?_
    refine ⟨?_, Or.inr rfl, (ag.tr ag2).wd (by omega) (by omega)⟩
    rw [dDays_row (x := x0 D sd) rfl R.1 (Nat.le_refl _), show (dRow D.1 D.2.1 yP0 R.2 R.1 (x0 D sd)).2.2.2.1.2.1 = 0 from dRow_cm rfl _ _ _, Nat.add_zero]
  · rw [show (0 : Int32) = nI 0 from rfl, nI_eq (by omega) (by omega)] at c7
    refine zz_lconst_0 C dX10_minutes_10 <| zpc 11 rfl <| ?_
    refine zy_lreturn C hE (zle rfl) (zle rfl) dX10_minutes_11 ?_
    rw [c7]; exact ⟨rfl, Or.inl rfl, cAg.rf h⟩
end CJ
