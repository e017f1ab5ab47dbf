/-! ===== the class: land ===== -/
def cLnd (t : zT) (a c : Nat) (h : zH) (x : (Nat × Nat) ⊕ yR) (v : Int32) (t' : zT) (h' : zH) : Prop := match x with
  | .inl f => v = nI f.1 - 10 ∧ 1 ≤ f.1 ∧ f.1 ≤ 4 ∧ t' = t ∧ cAgY c h h' ∧ zI h' 1 0 = 0 ∧ zI h' 1 2 = nI f.2
  | .inr r => v = nI r.1.2.1 ∧ t' = zsR (zsR t 0 1 (some c)) 1 3 (some a) ∧ (∃ cn, rOk cn r) ∧ (∀ i j, ¬ (sY c i ∨ (68 ≤ i ∧ i ≤ 71) ∨ (i = 0 ∧ j = 4)) → zI h' i j = zI h i j) ∧ (∀ i j, ¬ (68 ≤ i ∧ i ≤ 71) → zL h' i j = zL h i j) ∧ zI h' 1 0 = 0 ∧ zI h' 1 2 = -1 ∧ cSn h' c (rD r) (rMo r) (0, fun _ => 0) ∧ zI h' 0 4 = 0
section CLE
variable {E : zE} {b : Nat} {G : zG} {t : zT} {h : zH} {l : Launch} {a c e : Nat} {B : Nat → Nat}
theorem c10_land1 (hKd : oKnd) (hX : zTX t a c e) {tp : Nat} (htp : tp ≤ 600) (etp : zI h 1 0 = nI tp) (hfed : ∀ i, i < tp → zI h 34 i = nI (B i) ∧ B i < 256) (n : Nat) (hn : n ≤ tp) : zMet E b l yX10_land cX10_land 3 (some .int) 13 0 0 [.ref (b + 0), .int (nI n)] t h (qI (fun v t' h' => cLnd t a c h (rdT B n) v t' h')) := by
  have hcc := tX_c2 hX
  refine zMet.of (ls := [some (.ref (b + 0)), some (.int (nI n)), none]) (by decide) (zle rfl) 1 rfl ?_
  intro G hlG C hR hE hin
  have s52 : ∀ (h1 : zH) (r : yR), cAgY c h h1 → zI h1 1 0 = 0 → rdT B n = .inr r → zI h1 1 2 = -1 → cRr h1 c r → (∃ cn, rOk cn r) → zAW E b G 3 0 0 52 [some (.ref (b + 0)), some (.int (nI n)), none] [] t h1 := by
    intro h1 r ag e0 er e2 hr ok
    obtain ⟨cn, ok⟩ := ok
    obtain ⟨⟨b1, b2, b3, b4⟩, ⟨b5, b6, b7, b8⟩, -⟩ := id ok
    have hX2 := hX.sw
    have hK0 : zK (zsR t 0 1 (some c)) 0 = (10, 0) := (show zK t 0 = (10, 0) from tX_K_X hX)
    have hK1 : zK (zsR t 0 1 (some c)) 1 = (3, 0) := (show zK t 1 = (3, 0) from tX_K_reader hX)
    have hR0 : zR (zsR t 0 1 (some c)) 0 0 = some 1 := by rw [zR_sR, if_neg (by omega)]; exact tX_R_reader hX
    have s76 : zAW E b G 3 0 0 76 [some (.ref (b + 0)), some (.int (nI n)), some (.ref (b + a))] [] (zsR (zsR t 0 1 (some c)) 1 3 (some a)) h1 := by
      have hX := hX2
      refine zz_aload_0 C dX10_land_76 <| zz_getR C fX10_26 (tX_K_X hX) (tX_R_now hX) dX10_land_77 <| zz_aload_0 C dX10_land_80 <| zz_getR C fX10_19 (tX_K_X hX) (tX_R_land hX) dX10_land_81 <| zz_getI C fX10_63 (tL_K (tX_La hX)) dX10_land_84 <| zpc 87 rfl <| ?_
      rw [hr.1.2.2.2.2.2]
      refine zy_callVV C hR [_] (c6_makeNew (tX_S68 hX) _) lX10_66 rfl (tS_K (tX_S68 hX)) (by decide) rfl ⟨zle rfl, zle rfl, zle rfl, zle rfl⟩ (zle rfl) dX10_land_87 ?_
      intro t2 h2 hv; obtain ⟨rfl, g1, g2, g3⟩ := hv
      refine zz_aload_0 C dX10_land_90 <| zz_iconst_0 C dX10_land_91 <| zy_putI C fX10_34 pX10_4 (tX_K_X hX) dX10_land_92 <| zz_aload_0 C dX10_land_95 <| zz_getR C fX10_19 (tX_K_X hX) (tX_R_land hX) dX10_land_96 <| zz_getI C fX10_89 (tL_K (tX_La hX)) dX10_land_99 <| zpc 102 rfl <| ?_
      refine zy_ireturn C hE (zle rfl) (zle rfl) dX10_land_102 ?_
      have ez : ∀ i j, ¬ (68 ≤ i ∧ i ≤ 71) → ¬ (i = 0 ∧ j = 4) → zI (zsI h2 0 4 0) i j = zI h1 i j := fun i j z y => by rw [zI_sI, if_neg y]; exact g1.1 _ _ (by omega)
      have ez2 : ∀ i j, ¬ (i = 0 ∧ j = 4) → zI (zsI h2 0 4 0) i j = zI h2 i j := fun i j y => by rw [zI_sI, if_neg y]
      show cLnd t a c h (rdT B n) _ _ _
      rw [er]
      refine ⟨?_, rfl, ⟨cn, ok⟩, fun i j z => ?_, fun i j z => ?_, ?_, ?_, ⟨⟨⟨?_, ?_, ?_, ?_⟩, ?_, ?_⟩, ⟨⟨b3, rfl, fun x z => (by cases z)⟩, ?_⟩, ⟨?_, ?_, ?_⟩, ⟨?_, ?_⟩, ?_, ?_, fun k hk => absurd hk (Nat.not_lt_zero k)⟩, zI_self _ _ _ _⟩
      · rw [ez _ _ (by omega) (by omega)]; exact hr.1.2.1
      · rw [ez _ _ (by omega) (by omega)]; exact ag.1 _ _ (fun y => z (Or.inl y))
      · exact (g1.2 _ _ (by omega)).trans (ag.2 _ _)
      · rw [ez _ _ (by omega) (by omega)]; exact e0
      · rw [ez _ _ (by omega) (by omega)]; exact e2
      · rw [ez _ _ (by omega) (by omega)]; exact hr.1.1
      · rw [ez _ _ (by omega) (by omega)]; exact hr.1.2.1
      · rw [ez _ _ (by omega) (by omega)]; exact hr.1.2.2.2.1
      · rw [ez _ _ (by omega) (by omega)]; exact hr.1.2.2.2.2.1
      · intro g (hg : g < r.2.1.1) q hq
        rw [ez _ _ (by omega) (by omega)]; exact hr.2.2.2.1 g hg q hq
      · intro k (hk : k < r.2.1.2.1)
        rw [ez _ _ (by omega) (by omega)]; exact hr.2.2.2.2 k hk
      · intro k (hk : k < r.1.2.1) q hq
        show zI _ (c + 1 + 1 + k) q = _
        rw [ez _ _ (by omega) (by omega)]; exact hr.2.1 k hk q hq
      · rw [ez _ _ (by omega) (by omega)]; exact hr.1.2.2.1
      · rw [ez _ _ (by omega) (by omega)]; exact hr.1.2.2.2.2.2
      · intro k (hk : k < r.1.2.2) q hq
        rw [ez _ _ (by omega) (by omega)]; exact hr.2.2.1 k hk q hq
      · rw [ez2 _ _ (by omega)]; exact g2.1
      · rw [ez2 _ _ (by omega)]; exact g2.2
      · intro k (hk : k < r.1.2.1)
        rw [ez2 _ _ (by omega), ez2 _ _ (by omega)]
        exact g3 k (by omega)
      · intro k _ hk
        rw [ez2 _ _ (by omega), ez2 _ _ (by omega)]
        exact g3 k hk
    refine zz_aload_0 C dX10_land_52 <| zz_getR C fX10_19 (tX_K_X hX) (tX_R_land hX) dX10_land_53 <| zz_astore_2 C (zle rfl) rfl dX10_land_56 <| zz_aload_0 C dX10_land_57 <| zz_aload_0 C dX10_land_58 <| zz_getR C fX10_10 (tX_K_X hX) (tX_R_reader hX) dX10_land_59 <| zz_getR C fX10_86 (tX_K_reader hX) (tX_R_into hX) dX10_land_62 <| zz_putR C fX10_19 pX10_1 (tX_K_X hX) dX10_land_65 <| zpc 68 rfl <| ?_
    exact zz_aload_0 C dX10_land_68 <| zz_getR C fX10_10 hK0 hR0 dX10_land_69 <| zz_aload_2 C dX10_land_72 <| zz_putR C fX10_86 pX3_3 hK1 dX10_land_73 <| zpc 76 rfl <| s76
  have s31 : ∀ h1, cAgY c h h1 → zI h1 1 0 = 0 → cRdR h1 c (rdT B n) → zAW E b G 3 0 0 31 [some (.ref (b + 0)), some (.int (nI n)), none] [] t h1 := by
    intro h1 ag e0 res
    cases er : rdT B n with
    | inl f =>
      rw [er] at res
      obtain ⟨r1, r2, r3, r4⟩ := res
      refine zz_aload_0 C dX10_land_31 <| zz_getR C fX10_10 (tX_K_X hX) (tX_R_reader hX) dX10_land_32 <| zz_getI C fX10_83 (tX_K_reader hX) dX10_land_35 <| zpc 38 rfl <| ?_
      rw [r1]
      refine zz_if_eq C 52 dX10_land_38 (by decide) (fun c38 => ?_) (fun c38 => ?_)
      · exact absurd c38 (nI_ne0 (by omega) (by omega))
      · refine zz_aload_0 C dX10_land_41 <| zz_getR C fX10_10 (tX_K_X hX) (tX_R_reader hX) dX10_land_42 <| zz_getI C fX10_83 (tX_K_reader hX) dX10_land_45 <| zpc 48 rfl <| ?_
        rw [r1]
        refine zz_bipush C 10 dX10_land_48 (by decide) <| zz_isub C dX10_land_50 <| zpc 51 rfl <| ?_
        refine zy_ireturn C hE (zle rfl) (zle rfl) dX10_land_51 ?_
        show cLnd t a c h (rdT B n) _ _ _
        rw [er]
        exact ⟨rfl, r2, r3, rfl, ag, e0, r4⟩
    | inr r =>
      rw [er] at res
      obtain ⟨r1, r2, r3, r4⟩ := res
      refine zz_aload_0 C dX10_land_31 <| zz_getR C fX10_10 (tX_K_X hX) (tX_R_reader hX) dX10_land_32 <| zz_getI C fX10_83 (tX_K_reader hX) dX10_land_35 <| zpc 38 rfl <| ?_
      rw [r1]
      refine zz_if_eq C 52 dX10_land_38 (by decide) (fun c38 => ?_) (fun c38 => ?_)
      · exact s52 h1 r ag e0 er r2 r3 r4
      · exact absurd rfl c38
  refine zz_iload_1 C dX10_land_0 <| zpc 1 rfl <| ?_
  refine zz_if_lt C 19 dX10_land_1 (by decide) (fun c1 => ?_) (fun c1 => ?_)
  · exact absurd c1 (nI_pos (by omega))
  · refine zz_iload_1 C dX10_land_4 <| zz_aload_0 C dX10_land_5 <| zz_getR C fX10_10 (tX_K_X hX) (tX_R_reader hX) dX10_land_6 <| zz_getI C fX10_70 (tX_K_reader hX) dX10_land_9 <| zpc 12 rfl <| ?_
    rw [etp]
    refine zz_icmp_gt C 19 dX10_land_12 (by decide) (fun c12 => ?_) (fun c12 => ?_)
    · rw [nI_ltI (by omega) (by omega)] at c12; omega
    · refine zz_iconst_1 C dX10_land_15 <| zz_goto C 20 dX10_land_16 (by decide) <| zpc 20 rfl <| ?_
      refine zf_callSV C hR [_] (c10_demand1 _ (by decide)) lX10_76 rfl ⟨zle rfl, zle rfl, zle rfl, zle rfl⟩ (zle rfl) dX10_land_20 ?_
      refine zz_aload_0 C dX10_land_23 <| zz_getR C fX10_10 (tX_K_X hX) (tX_R_reader hX) dX10_land_24 <| zz_iload_1 C dX10_land_27 <| zpc 28 rfl <| ?_
      refine zy_callVV C hR [_] (c3_read hKd hX htp etp hfed n hn) lX10_80 rfl (tX_K_reader hX) (by decide) rfl ⟨zle rfl, zle rfl, zle rfl, zle rfl⟩ (zle rfl) dX10_land_28 ?_
      intro t1 h1 hv; obtain ⟨rfl, ag, e0, res⟩ := hv
      exact s31 h1 ag e0 res
theorem c10_land0 (hX : zTX t a c e) (hlt : l.stackTraces = false) (hf : t.1.2 = false) {tp : Nat} (htp : tp ≤ 600) (etp : zI h 1 0 = nI tp) (x : Int32) (hno : ¬ ∃ k, k ≤ tp ∧ x = nI k) : zMetX E b l yX10_land cX10_land 3 (some .int) 13 1 6 [.ref (b + 0), .int x] t h xA := by
  refine zMetX.of (ls := [some (.ref (b + 0)), some (.int x), none]) hlt (by decide) (zle rfl) 1 rfl ?_
  intro G hlG C hR hE
  rw [← hlG] at hlt
  refine zz_iload_1 C dX10_land_0 <| zpc 1 rfl <| ?_
  refine zz_if_lt C 19 dX10_land_1 (by decide) (fun c1 => ?_) (fun c1 => ?_)
  · refine zz_iconst_0 C dX10_land_19 <| zpc 20 rfl <| ?_
    exact zx_callS C hR hE [_] (c10_demand0 hlt hf) lX10_76 rfl ⟨zle rfl, zle rfl, zle rfl, zle rfl⟩ (zle rfl) (zle rfl) (zle rfl) dX10_land_20
  · refine zz_iload_1 C dX10_land_4 <| zz_aload_0 C dX10_land_5 <| zz_getR C fX10_10 (tX_K_X hX) (tX_R_reader hX) dX10_land_6 <| zz_getI C fX10_70 (tX_K_reader hX) dX10_land_9 <| zpc 12 rfl <| ?_
    rw [etp]
    refine zz_icmp_gt C 19 dX10_land_12 (by decide) (fun c12 => ?_) (fun c12 => ?_)
    · refine zz_iconst_0 C dX10_land_19 <| zpc 20 rfl <| ?_
      exact zx_callS C hR hE [_] (c10_demand0 hlt hf) lX10_76 rfl ⟨zle rfl, zle rfl, zle rfl, zle rfl⟩ (zle rfl) (zle rfl) (zle rfl) dX10_land_20
    · refine zz_iconst_1 C dX10_land_15 <| zz_goto C 20 dX10_land_16 (by decide) <| zpc 20 rfl <| ?_
      exact absurd ((upTo (nI tp) tp rfl (by omega)).mp ⟨Int32.not_lt.mp c1, Int32.not_lt.mp c12⟩) hno
end CLE
