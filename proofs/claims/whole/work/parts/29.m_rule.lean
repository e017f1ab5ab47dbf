/-! ===== the reference: the rules of shutting, many days ===== -/
/-- whether each going whose day it is has a way -/
abbrev rAll (L : yL) (A : yN) (p : yP) (w : Nat → Nat) (day gone s : Nat) : Prop := ∀ g, g < L.1.2.1 → gOn L.2.1 day gone p.1 p.2.1.1 p.2.1.2 g → (nWay L.1.1 A.1.1 A.1.2.1 s A.2 w (L.2.1 g 0) (L.2.1 g 1)).isSome = true
theorem mSc_sc (h : zH) (f g f' g' : Nat → Int32) (a c a' c' : Int32) : mSc (mSc h f g a c) f' g' a' c' = mSc h f' g' a' c' := by
  refine zH_ext (fun i k => ?_) (fun i k => rfl)
  rw [zI_mSc, zI_mSc, zI_mSc]
  split
  · rfl
  · split
    · rfl
    · split
      · rfl
      · split <;> rfl
section MR
variable {E : zE} {b : Nat} {G : zG} {t : zT} {h : zH} {L : yL} {A : yN} {p : yP} {w : Nat → Nat} {day gone s : Nat}
def mHavePost (h : zH) (t : zT) (r : Prop) (v : Int32) (t' : zT) (h' : zH) : Prop := t' = t ∧ (r → v = 1) ∧ (¬ r → v = 0) ∧ ∃ f g a c, h' = mSc h f g a c
theorem l_have (hT : zTM t) (hS : sOk L A p w) (hm : mSt h L A p w day gone) (hs : s < 2 ^ 31) (C : zCx E b G RX11 cX11_allHave 3 (some .boolean)) (hR : zRoom G 3 0 0) (hE : zEnd E b G 0 0 (qI (mHavePost h t (rAll L A p w day gone s)))) :
    ∀ (m g : Nat) (f1 g1 : Nat → Int32) (a c : Int32), g + m = L.1.2.1 → (∀ j, j < g → gOn L.2.1 day gone p.1 p.2.1.1 p.2.1.2 j → (nWay L.1.1 A.1.1 A.1.2.1 s A.2 w (L.2.1 j 0) (L.2.1 j 1)).isSome = true) → zAW E b G 3 0 0 2 [some (.ref (b + 157)), some (.int (nI s)), some (.int (nI g))] [] t (mSc h f1 g1 a c) := by
  have hng := hS.2.1.2.2.1
  intro m
  induction m with
  | zero =>
    intro g f1 g1 a c hg hb
    have hst := mSt.ag (zAg1.sc h f1 g1 a c) hS hm
    have h3 := hst.2.1.2.1
    refine zz_iload_2 C dX11_allHave_2 <| zz_aload_0 C dX11_allHave_3 <| zz_getR C fX11_20 (tM_K hT) (tM_R_told hT) dX11_allHave_4 <| zz_iconst_3 C dX11_allHave_7 <| zc_iaload C 3 (tM_K_told hT) (zlit _ (by decide)) (by decide) dX11_allHave_8 <| zpc 9 rfl <| ?_
    rw [h3]
    refine zz_icmp_ge C 52 dX11_allHave_9 (by decide) (fun c9 => ?_) (fun c9 => ?_)
    · refine zz_iconst_1 C dX11_allHave_52 <| zpc 53 rfl <| ?_
      refine zy_zreturn C hE (zle rfl) (zle rfl) dX11_allHave_53 (by decide) ?_
      exact ⟨rfl, fun _ => rfl, fun q => absurd (fun j hj => hb j (by omega)) q, f1, g1, a, c, rfl⟩
    · exact absurd (nI_le (by omega) (by omega)) c9
  | succ m ih =>
    intro g f1 g1 a c hg hb
    have hst := mSt.ag (zAg1.sc h f1 g1 a c) hS hm
    obtain ⟨hm1, hl, hp, hd⟩ := hst
    have h3 := hl.2.1
    obtain ⟨hN, hL, hpo⟩ := hS
    have hgg := hL.2.2.2.2.1 g (by omega)
    have g0 := hl.2.2.2.1 g (by omega) 0 (by omega)
    have g1' := hl.2.2.2.1 g (by omega) 1 (by omega)
    refine zz_iload_2 C dX11_allHave_2 <| zz_aload_0 C dX11_allHave_3 <| zz_getR C fX11_20 (tM_K hT) (tM_R_told hT) dX11_allHave_4 <| zz_iconst_3 C dX11_allHave_7 <| zc_iaload C 3 (tM_K_told hT) (zlit _ (by decide)) (by decide) dX11_allHave_8 <| zpc 9 rfl <| ?_
    rw [h3]
    refine zz_icmp_ge C 52 dX11_allHave_9 (by decide) (fun c9 => ?_) (fun c9 => ?_)
    · exact absurd c9 (nI_ge (by omega) (by omega))
    · refine zz_aload_0 C dX11_allHave_12 <| zz_iload_2 C dX11_allHave_13 <| zpc 14 rfl <| ?_
      refine zf_callVI C hR [_] (c_isOn hT hL hl hpo hp hd _ (by omega)) lX11_264 rfl (tM_K hT) (by decide) rfl ⟨zle rfl, zle rfl, zle rfl, zle rfl⟩ (zle rfl) dX11_allHave_14 ?_
      refine zz_if_eq C 46 dX11_allHave_17 (by decide) (fun c17 => ?_) (fun c17 => ?_)
      · refine zz_iinc_2 C _ (zle rfl) rfl dX11_allHave_46 nI_s <| zz_goto C 2 dX11_allHave_49 (by decide) <| zpc 2 rfl <| ?_
        refine ih (g + 1) _ _ _ _ (by omega) (fun j hj ho => ?_)
        by_cases hjg : j = g
        · subst hjg
          first
            | exact absurd ho (zb_eq0.mp c17)
            | exact zb_ne0.mp c41
        · exact hb j (by omega) ho
      · refine zz_aload_0 C dX11_allHave_20 <| zz_aload_0 C dX11_allHave_21 <| zz_getR C fX11_46 (tM_K hT) (tM_R_going hT) dX11_allHave_22 <| zz_iload_2 C dX11_allHave_25 <| zc_row C _ (tM_K_going hT) (tM_row_going hT) (znI (by omega)) (by omega) dX11_allHave_26 <| fun r26 => ?_
        refine zz_iconst_0 C dX11_allHave_27 <| zc_iaload C 0 (tM_KR_going hT _ r26) (zlit _ (by decide)) (by decide) dX11_allHave_28 <| zpc 29 rfl <| ?_
        rw [g0]
        refine zz_aload_0 C dX11_allHave_29 <| zz_getR C fX11_46 (tM_K hT) (tM_R_going hT) dX11_allHave_30 <| zz_iload_2 C dX11_allHave_33 <| zc_row C _ (tM_K_going hT) (tM_row_going hT) (znI (by omega)) (by omega) dX11_allHave_34 <| fun r34 => ?_
        refine zz_iconst_1 C dX11_allHave_35 <| zc_iaload C 1 (tM_KR_going hT _ r34) (zlit _ (by decide)) (by decide) dX11_allHave_36 <| zpc 37 rfl <| ?_
        rw [g1']
        refine zz_iload_1 C dX11_allHave_37 <| zpc 38 rfl <| ?_
        refine zy_callVI C hR [_, _, _] (c_findWay hT hN hm1 _ _ _ hgg.1 hgg.2.1 hs) lX11_258 rfl (tM_K hT) (by decide) rfl ⟨zle rfl, zle rfl, zle rfl, zle rfl⟩ (zle rfl) dX11_allHave_38 ?_
        intro v t' h' hv; obtain ⟨rfl, rfl, -, -, f2, g2, rfl, -⟩ := hv; rw [mSc_sc]
        refine zz_if_ne C 46 dX11_allHave_41 (by decide) (fun c41 => ?_) (fun c41 => ?_)
        · refine zz_iinc_2 C _ (zle rfl) rfl dX11_allHave_46 nI_s <| zz_goto C 2 dX11_allHave_49 (by decide) <| zpc 2 rfl <| ?_
          refine ih (g + 1) _ _ _ _ (by omega) (fun j hj ho => ?_)
          by_cases hjg : j = g
          · subst hjg
            first
              | exact absurd ho (zb_eq0.mp c17)
              | exact zb_ne0.mp c41
          · exact hb j (by omega) ho
        · refine zz_iconst_0 C dX11_allHave_44 <| zpc 45 rfl <| ?_
          refine zy_zreturn C hE (zle rfl) (zle rfl) dX11_allHave_45 (by decide) ?_
          rw [zb_ne0] at c17
          rw [zb_eq0] at c41
          exact ⟨rfl, fun q => absurd (q g (by omega) c17) c41, fun _ => rfl, _, _, _, _, rfl⟩
theorem c_allHave {l : Launch} (hT : zTM t) (hS : sOk L A p w) (hm : mSt h L A p w day gone) (s : Nat) (hs : s < 2 ^ 31) : zMet E b l yX11_allHave cX11_allHave 3 (some .boolean) 3 0 0 [.ref (b + 157), .int (nI s)] t h (qI (mHavePost h t (rAll L A p w day gone s))) := by
  refine zMet.of (ls := [some (.ref (b + 157)), some (.int (nI s)), none]) (by decide) (zle rfl) 1 rfl ?_
  intro G hlG C hR hE hin
  rw [show h = mSc h (fun k => zI h 236 k) (fun k => zI h 237 k) (zI h 157 50) (zI h 157 51) from (mSc_self h).symm]
  generalize (fun k => zI h 236 k) = f0
  generalize (fun k => zI h 237 k) = g0
  generalize zI h 157 50 = a0
  generalize zI h 157 51 = c0
  refine zz_iconst_0 C dX11_allHave_0 <| zz_istore_2 C (zle rfl) rfl dX11_allHave_1 <| zpc 2 rfl <| ?_
  exact l_have hT hS hm hs C hR hE L.1.2.1 0 f0 g0 a0 c0 (by omega) (fun j hj => absurd hj (by omega))
end MR
