/-! ===== the class: ever ===== -/
noncomputable def eWhat (D : yD) (R : Nat × (Nat → Nat)) (sd : Int32) (q : Nat) : Int32 := if q = 0 then zb ((rF (eR9 D R sd) 4000).map Prod.snd ≠ none ∧ tF (eR9 D R sd) (bad9 D R sd) 4000 = none) else if q = 1 then oI ((rF (eR9 D R sd) 4000).map Prod.fst) else if q = 2 then oI ((rF (eR9 D R sd) 4000).map Prod.snd) else oI (tF (eR9 D R sd) (bad9 D R sd) 4000)
section CEV
variable {E : zE} {b : Nat} {G : zG} {t : zT} {h : zH} {l : Launch} {a c e : Nat} {D : yD} {Mo : Nat × (Nat → Nat → Nat)} {R : Nat × (Nat → Nat)}
theorem c10_ever1 (hX : zTX t a c e) (hO : dOk D Mo R) (hm : cSn h a D Mo R) (sd : Int32) (q : Nat) (hq : q ≤ 3) (hR0 : 0 < R.1) : zMet E b l yX10_ever cX10_ever 2 (some .int) 9 0 0 [.ref (b + 0), .int (nI q)] t h (qI (fun v t' h' => v = eWhat D R sd q ∧ cAsk t a h t' h')) := by
  have ha := tX_a2 hX
  have hng := hO.1.1.2.1.2.2.1
  have hb1 : ∀ x, (rF (eR9 D R sd) 4000).map Prod.snd = some x → x < 2 ^ 31 := fun x z => by
    cases e : rF (eR9 D R sd) 4000 with
    | none => rw [e] at z; cases z
    | some y =>
      rw [e] at z
      have z2 : y.2 = x := Option.some.inj z
      have := rF_lt 4000 y e
      omega
  have hb2 : ∀ x, tF (eR9 D R sd) (bad9 D R sd) 4000 = some x → x < 2 ^ 31 := fun x z => by have := tF_lt 4000 x z; omega
  refine zMet.of (ls := [some (.ref (b + 0)), some (.int (nI q))]) (by decide) (zle rfl) 0 rfl ?_
  intro G hlG C hR hE hin
  have s58 : ∀ (h2 : zH), zTX (zsR t 73 6 (some a)) a c a → cAg 73 144 h h2 → zI h2 141 0 = oI ((rF (eR9 D R sd) 4000).map Prod.fst) → zI h2 141 1 = oI ((rF (eR9 D R sd) 4000).map Prod.snd) → zI h2 141 2 = oI (tF (eR9 D R sd) (bad9 D R sd) 4000) → zAW E b G 2 0 0 58 [some (.ref (b + 0)), some (.int (nI q))] [] (zsR t 73 6 (some a)) h2 := by
    intro h2 hX ag f1 f2 f3
    have hask : cAsk t a h (zsR t 73 6 (some a)) h2 := ⟨Or.inr rfl, ag⟩
    obtain rfl | rfl | rfl | rfl : q = 0 ∨ q = 1 ∨ q = 2 ∨ q = 3 := by omega
    ·
      refine zz_iload_1 C dX10_ever_58 <| zz_tableIn C 84 dX10_ever_59 (by decide) (by decide) (by first | rfl | decide) (by decide) <| zz_aload_0 C dX10_ever_84 <| zz_getR C fX10_55 (tX_K_X hX) (tX_R_rounds hX) dX10_ever_85 <| zpc 88 rfl <| ?_
      refine zf_callVI C hR [] (c4_lastsWell hX f2 f3 hb1 hb2) lX10_248 rfl (tX_K_rounds hX) (by decide) rfl ⟨zle rfl, zle rfl, zle rfl, zle rfl⟩ (zle rfl) dX10_ever_88 ?_
      refine zz_if_eq C 98 dX10_ever_91 (by decide) (fun c91 => ?_) (fun c91 => ?_)
      · refine zz_iconst_0 C dX10_ever_98 <| zpc 99 rfl <| ?_
        refine zy_ireturn C hE (zle rfl) (zle rfl) dX10_ever_99 ?_
        first
        | (rw [zb_eq0] at c91; refine ⟨?_, hask⟩; unfold eWhat; rw [if_pos rfl]; exact (zb_f c91).symm)
        | (rw [zb_ne0] at c91; refine ⟨?_, hask⟩; unfold eWhat; rw [if_pos rfl]; exact (zb_t c91).symm)
      · refine zz_iconst_1 C dX10_ever_94 <| zz_goto C 99 dX10_ever_95 (by decide) <| zpc 99 rfl <| ?_
        refine zy_ireturn C hE (zle rfl) (zle rfl) dX10_ever_99 ?_
        first
        | (rw [zb_eq0] at c91; refine ⟨?_, hask⟩; unfold eWhat; rw [if_pos rfl]; exact (zb_f c91).symm)
        | (rw [zb_ne0] at c91; refine ⟨?_, hask⟩; unfold eWhat; rw [if_pos rfl]; exact (zb_t c91).symm)
    ·
      refine zz_iload_1 C dX10_ever_58 <| zz_tableIn C 100 dX10_ever_59 (by decide) (by decide) (by first | rfl | decide) (by decide) <| zz_aload_0 C dX10_ever_100 <| zz_getR C fX10_55 (tX_K_X hX) (tX_R_rounds hX) dX10_ever_101 <| zz_getI C fX10_252 (tX_K_rounds hX) dX10_ever_104 <| zpc 107 rfl <| ?_
      refine zy_ireturn C hE (zle rfl) (zle rfl) dX10_ever_107 ?_
      refine ⟨?_, hask⟩; unfold eWhat; rw [if_neg (by decide), if_pos rfl]; exact f1
    ·
      refine zz_iload_1 C dX10_ever_58 <| zz_tableIn C 108 dX10_ever_59 (by decide) (by decide) (by first | rfl | decide) (by decide) <| zz_aload_0 C dX10_ever_108 <| zz_getR C fX10_55 (tX_K_X hX) (tX_R_rounds hX) dX10_ever_109 <| zz_getI C fX10_255 (tX_K_rounds hX) dX10_ever_112 <| zpc 115 rfl <| ?_
      refine zy_ireturn C hE (zle rfl) (zle rfl) dX10_ever_115 ?_
      refine ⟨?_, hask⟩; unfold eWhat; rw [if_neg (by decide), if_neg (by decide), if_pos rfl]; exact f2
    ·
      refine zz_iload_1 C dX10_ever_58 <| zz_tableOut C 116 dX10_ever_59 (by decide) (by decide) <| zz_aload_0 C dX10_ever_116 <| zz_getR C fX10_55 (tX_K_X hX) (tX_R_rounds hX) dX10_ever_117 <| zz_getI C fX10_258 (tX_K_rounds hX) dX10_ever_120 <| zpc 123 rfl <| ?_
      refine zy_ireturn C hE (zle rfl) (zle rfl) dX10_ever_123 ?_
      refine ⟨?_, hask⟩; unfold eWhat; rw [if_neg (by decide), if_neg (by decide), if_neg (by decide)]; exact f3
  refine zz_iload_1 C dX10_ever_0 <| zpc 1 rfl <| ?_
  refine zz_if_lt C 13 dX10_ever_1 (by decide) (fun c1 => ?_) (fun c1 => ?_)
  · exact absurd c1 (nI_pos (by omega))
  · refine zz_iload_1 C dX10_ever_4 <| zz_iconst_3 C dX10_ever_5 <| zpc 6 rfl <| ?_
    refine zz_icmp_gt C 13 dX10_ever_6 (by decide) (fun c6 => ?_) (fun c6 => ?_)
    · exact absurd c6 (nI_nlt (a := 3) hq (by omega))
    · refine zz_iconst_1 C dX10_ever_9 <| zz_goto C 14 dX10_ever_10 (by decide) <| zpc 14 rfl <| ?_
      refine zf_callSV C hR [_] (c10_demand1 _ (by decide)) lX10_76 rfl ⟨zle rfl, zle rfl, zle rfl, zle rfl⟩ (zle rfl) dX10_ever_14 ?_
      refine zz_aload_0 C dX10_ever_17 <| zpc 18 rfl <| ?_
      refine zf_callVV C hR [] (c10_row1 hX hO.2.2.2.1.1 hR0 hm.2.2.2.1.2) lX10_231 rfl (tX_K_X hX) (by decide) rfl ⟨zle rfl, zle rfl, zle rfl, zle rfl⟩ (zle rfl) dX10_ever_18 ?_
      refine zz_aload_0 C dX10_ever_21 <| zz_getR C fX10_41 (tX_K_X hX) (tX_R_walk hX) dX10_ever_22 <| zz_aload_0 C dX10_ever_25 <| zz_getR C fX10_19 (tX_K_X hX) (tX_R_land hX) dX10_ever_26 <| zz_aload_0 C dX10_ever_29 <| zz_getR C fX10_26 (tX_K_X hX) (tX_R_now hX) dX10_ever_30 <| zpc 33 rfl <| ?_
      refine zy_callVV C hR [_, _] (c8_beg hX hO hm sd) lX10_155 rfl (tX_K_walk hX) (by decide) rfl ⟨zle rfl, zle rfl, zle rfl, zle rfl⟩ (zle rfl) dX10_ever_33 ?_
      intro t' h' hv; obtain ⟨rfl, hX, ag, hw, hsn⟩ := hv; have hw2 : cWk (zsI h' 82 7 1) a D.2.1.1.1 none D.1 D.2.1 yPd (x0 D sd) D.2.1.1.2.2 R := (hw.pl (by omega) hng (fun i k hi => by rw [zI_sI, if_neg (by omega)]) (fun _ _ => rfl) rfl rfl (by obtain ⟨⟨p0, p1, p2, p3⟩, p4, p5, p6, p7, p8⟩ := hw.1.2.2.1; refine ⟨⟨?_, ?_, ?_, ?_⟩, ?_, ?_, ?_, zI_self _ _ _ _, ?_⟩ <;> rw [zI_sI, if_neg (by omega)] <;> assumption) (fun z => by cases z) rfl rfl rfl)
      refine zz_aload_0 C dX10_ever_36 <| zz_getR C fX10_41 (tX_K_X hX) (tX_R_walk hX) dX10_ever_37 <| zz_getR C fX10_234 (tX_K_walk hX) (tX_R_plan hX) dX10_ever_40 <| zz_iconst_1 C dX10_ever_43 <| zy_putZ C fX10_238 pX2_7 (by decide) (tX_K_plan hX) dX10_ever_44 <| zz_aload_0 C dX10_ever_47 <| zz_getR C fX10_55 (tX_K_X hX) (tX_R_rounds hX) dX10_ever_48 <| zz_aload_0 C dX10_ever_51 <| zz_getR C fX10_41 (tX_K_X hX) (tX_R_walk hX) dX10_ever_52 <| zpc 55 rfl <| ?_
      refine zy_callVV C hR [_] (c4_follow hX hO hR0 hw2) lX10_244 rfl (tX_K_rounds hX) (by decide) rfl ⟨zle rfl, zle rfl, zle rfl, zle rfl⟩ (zle rfl) dX10_ever_55 ?_
      intro t2 h2 hv; obtain ⟨rfl, f1, f2, f3, f4⟩ := hv
      exact s58 h2 hX (((ag.wd (by omega) (by omega)).sI (by omega) (by omega)).tr (f4.wd (by omega) (by omega))) f1 f2 f3
theorem c10_ever0 (hX : zTX t a c e) (hlt : l.stackTraces = false) (hf : t.1.2 = false) (x : Int32) (hno : ¬ ∃ k, k ≤ 3 ∧ x = nI k) : zMetX E b l yX10_ever cX10_ever 2 (some .int) 9 1 6 [.ref (b + 0), .int x] t h xA := by
  refine zMetX.of (ls := [some (.ref (b + 0)), some (.int x)]) hlt (by decide) (zle rfl) 0 rfl ?_
  intro G hlG C hR hE
  rw [← hlG] at hlt
  refine zz_iload_1 C dX10_ever_0 <| zpc 1 rfl <| ?_
  refine zz_if_lt C 13 dX10_ever_1 (by decide) (fun c1 => ?_) (fun c1 => ?_)
  · refine zz_iconst_0 C dX10_ever_13 <| zpc 14 rfl <| ?_
    exact zx_callS C hR hE [_] (c10_demand0 hlt hf) lX10_76 rfl ⟨zle rfl, zle rfl, zle rfl, zle rfl⟩ (zle rfl) (zle rfl) (zle rfl) dX10_ever_14
  · refine zz_iload_1 C dX10_ever_4 <| zz_iconst_3 C dX10_ever_5 <| zpc 6 rfl <| ?_
    refine zz_icmp_gt C 13 dX10_ever_6 (by decide) (fun c6 => ?_) (fun c6 => ?_)
    · refine zz_iconst_0 C dX10_ever_13 <| zpc 14 rfl <| ?_
      exact zx_callS C hR hE [_] (c10_demand0 hlt hf) lX10_76 rfl ⟨zle rfl, zle rfl, zle rfl, zle rfl⟩ (zle rfl) (zle rfl) (zle rfl) dX10_ever_14
    · refine zz_iconst_1 C dX10_ever_9 <| zz_goto C 14 dX10_ever_10 (by decide) <| zpc 14 rfl <| ?_
      exact absurd ((upTo 3 3 rfl (by omega)).mp ⟨Int32.not_lt.mp c1, Int32.not_lt.mp c6⟩) hno
theorem c10_ever2 (hX : zTX t a c e) (hlt : l.stackTraces = false) (hf : t.1.2 = false) (hm : cSn h a D Mo R) (q : Nat) (hq : q ≤ 3) (hR0 : R.1 = 0) : zMetX E b l yX10_ever cX10_ever 2 (some .int) 9 1 6 [.ref (b + 0), .int (nI q)] t h xS := by
  have hr0 : zI h 68 4 = 0 := by rw [hm.2.2.2.1.2, hR0]; rfl
  refine zMetX.of (ls := [some (.ref (b + 0)), some (.int (nI q))]) hlt (by decide) (zle rfl) 0 rfl ?_
  intro G hlG C hR hE
  rw [← hlG] at hlt
  refine zz_iload_1 C dX10_ever_0 <| zpc 1 rfl <| ?_
  refine zz_if_lt C 13 dX10_ever_1 (by decide) (fun c1 => ?_) (fun c1 => ?_)
  · exact absurd c1 (nI_pos (by omega))
  · refine zz_iload_1 C dX10_ever_4 <| zz_iconst_3 C dX10_ever_5 <| zpc 6 rfl <| ?_
    refine zz_icmp_gt C 13 dX10_ever_6 (by decide) (fun c6 => ?_) (fun c6 => ?_)
    · exact absurd c6 (nI_nlt (a := 3) hq (by omega))
    · refine zz_iconst_1 C dX10_ever_9 <| zz_goto C 14 dX10_ever_10 (by decide) <| zpc 14 rfl <| ?_
      refine zf_callSV C hR [_] (c10_demand1 _ (by decide)) lX10_76 rfl ⟨zle rfl, zle rfl, zle rfl, zle rfl⟩ (zle rfl) dX10_ever_14 ?_
      refine zz_aload_0 C dX10_ever_17 <| zpc 18 rfl <| ?_
      exact zx_callV C hR hE [] (c10_row0 hX hlt hf hr0) lX10_231 rfl (tX_K_X hX) (by decide) rfl ⟨zle rfl, zle rfl, zle rfl, zle rfl⟩ (zle rfl) (zle rfl) (zle rfl) dX10_ever_18
end CEV
