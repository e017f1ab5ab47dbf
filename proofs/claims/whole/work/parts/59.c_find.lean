/-! ===== the class: Ways, the way itself ===== -/
theorem pdWay_snoc (tl : Nat) (w : Nat → Nat) (l : List Nat) (k : Nat) : pdWay tl w (l ++ [k]) = pdWay tl w l + tl * w k := by
  unfold pdWay
  rw [List.map_append, List.sum_append]
  simp
/-- the way so far -/
def cPt (h : zH) (tl : Nat) (F : Nat → Nat → Nat) (w : Nat → Nat) (l : List Nat) : Prop := (zI h 74 0 = nI l.length ∧ zI h 74 1 = nI (mSum F w l) ∧ zI h 74 2 = nI (pdWay tl w l)) ∧ ∀ i, i < l.length → zI h 75 i = nI (l.getD i 0)
/-- what walking a way leaves alone -/
def cAp (h h' : zH) : Prop := (∀ i k, ¬ (i = 75 ∨ (i = 74 ∧ k < 3)) → zI h' i k = zI h i k) ∧ ∀ i k, zL h' i k = zL h i k
theorem cAp.tr {h h1 h2 : zH} (a : cAp h h1) (c : cAp h1 h2) : cAp h h2 := ⟨fun i k q => (c.1 i k q).trans (a.1 i k q), fun i k => (c.2 i k).trans (a.2 i k)⟩
theorem cAp.wy {h h' : zH} {P tl : Nat} {u : List Nat} {F : Nat → Nat → Nat} {w : Nat → Nat} (a : cAp h h') (hm : cWy h P tl u F w) : cWy h' P tl u F w := by
  obtain ⟨⟨h1, h2⟩, h3⟩ := hm
  refine ⟨⟨?_, ?_⟩, fun q hq => ?_⟩
  · rw [a.1 _ _ (by omega)]; exact h1
  · rw [a.1 _ _ (by omega)]; exact h2
  · rw [a.1 _ _ (by omega), a.1 _ _ (by omega), a.1 _ _ (by omega), a.1 _ _ (by omega), a.1 _ _ (by omega)]; exact h3 q hq
theorem cAp.row {h h' : zH} {P to : Nat} {d : Nat → Nat} (a : cAp h h') (hm : cRow h P to d) : cRow h' P to d := fun p hp => by rw [a.1 _ _ (by omega)]; exact hm p hp
theorem cAp.ms {h h' : zH} {ms P n tl s : Nat} {F : Nat → Nat → Nat} {w : Nat → Nat} (a : cAp h h') (hm : cMs h ms P n tl s F w) : cMs h' ms P n tl s F w := by
  refine ⟨⟨by rw [a.1 _ _ (by omega)]; exact hm.1.1, hm.1.2⟩, fun to hto hb => ?_⟩
  obtain ⟨d, k1, k2, k3⟩ := hm.2 to hto hb
  exact ⟨d, a.row k1, k2, k3⟩
theorem cPt.snoc {h : zH} {tl k : Nat} {F : Nat → Nat → Nat} {w : Nat → Nat} {l : List Nat} (hm : cPt h tl F w l) : cPt (zsI (zsI (zsI (zsI h 75 l.length (nI k)) 74 0 (nI (l.length + 1))) 74 1 (nI (mSum F w l + nMi F w k))) 74 2 (nI (pdWay tl w l + tl * w k))) tl F w (l ++ [k]) := by
  obtain ⟨-, h3⟩ := hm
  refine ⟨⟨?_, ?_, ?_⟩, fun i hi => ?_⟩
  · rw [List.length_append, List.length_singleton, zI_sI, if_neg (by omega), zI_sI, if_neg (by omega), zI_self]
  · rw [mSum_snoc, zI_sI, if_neg (by omega), zI_self]
  · rw [pdWay_snoc, zI_self]
  · rw [List.length_append, List.length_singleton] at hi
    rw [zI_sI, if_neg (by omega), zI_sI, if_neg (by omega), zI_sI, if_neg (by omega), zI_sI]
    by_cases q : i = l.length
    · subst q; rw [if_pos ⟨rfl, rfl⟩]; simp
    · rw [if_neg (by omega), h3 i (by omega), List.getD_eq_getElem?_getD, List.getD_eq_getElem?_getD, List.getElem?_append_left (by omega)]
theorem cAp.snoc (h : zH) (a c : Nat) (v x y z : Int32) : cAp h (zsI (zsI (zsI (zsI h 75 a v) 74 0 x) 74 1 y) 74 2 z) := ⟨fun i k hn => by
  rw [zI_sI, if_neg (by omega), zI_sI, if_neg (by omega), zI_sI, if_neg (by omega), zI_sI, if_neg (by omega)], fun _ _ => rfl⟩
section CF
variable {E : zE} {b : Nat} {G : zG} {t : zT} {h : zH} {l : Launch} {P n tl s to : Nat} {F : Nat → Nat → Nat} {w : Nat → Nat} {a c e : Nat}
abbrev gE (tl s : Nat) (F : Nat → Nat → Nat) (w d : Nat → Nat) (p k : Nat) : Prop := gEdge (nOp s F w) (fun k => F k 0) (fun k => F k 1) (nCo tl F w) d p k
abbrev gO (F : Nat → Nat → Nat) (k p : Nat) : Nat := gOther (fun k => F k 0) (fun k => F k 1) k p
theorem c9_across (hX : zTX t a c e) (hN : nOk P n tl F w) (hy : cWy h P tl (usL s F w n) F w) (p q : Nat) (hp : p < P) (hq : q < (usL s F w n).length) : zMet E b l yX9_acrossFrom cX9_acrossFrom 3 (some .int) 1 0 0 [.ref (b + 74), .int (nI p), .int (nI q)] t h (qIf (if F ((usL s F w n).getD q 0) 0 = p ∨ F ((usL s F w n).getD q 0) 1 = p then nI (gO F ((usL s F w n).getD q 0) p) else -1) t h) := by
  have hP := hN.2.1
  have hn := hN.2.2.1
  have hul := usL_len s F w n
  obtain ⟨z1, z2, z3, z4, z5⟩ := hy.2 q hq
  obtain ⟨hk, ho⟩ := usL_at hq
  obtain ⟨e1, e2, e3, -⟩ := nEnds (s := s) hN _ hk ho
  dsimp only at e1 e2 e3
  generalize (usL s F w n).getD q 0 = k at *
  refine zMet.of (ls := [some (.ref (b + 74)), some (.int (nI p)), some (.int (nI q))]) (by decide) (zle rfl) 0 rfl ?_
  intro G hlG C hR hE hin
  refine zz_aload_0 C dX9_acrossFrom_0 <| zz_getR C fX9_18 (tX_K_ways hX) (tX_R_oneEnd hX) dX9_acrossFrom_1 <| zz_iload_2 C dX9_acrossFrom_4 <| zc_iaload C _ (tX_K_oneEnd hX) (znI (by omega)) (by omega) dX9_acrossFrom_5 <| zpc 6 rfl <| ?_
  rw [z2]
  refine zz_iload_1 C dX9_acrossFrom_6 <| zpc 7 rfl <| ?_
  skip
  refine zz_icmp_ne C 17 dX9_acrossFrom_7 (by decide) (fun c7 => ?_) (fun c7 => ?_)
  · rw [nI_eq (by omega) (by omega)] at c7
    refine zz_aload_0 C dX9_acrossFrom_17 <| zz_getR C fX9_21 (tX_K_ways hX) (tX_R_otherEnd hX) dX9_acrossFrom_18 <| zz_iload_2 C dX9_acrossFrom_21 <| zc_iaload C _ (tX_K_otherEnd hX) (znI (by omega)) (by omega) dX9_acrossFrom_22 <| zpc 23 rfl <| ?_
    rw [z3]
    refine zz_iload_1 C dX9_acrossFrom_23 <| zpc 24 rfl <| ?_
    refine zz_icmp_ne C 36 dX9_acrossFrom_24 (by decide) (fun c24 => ?_) (fun c24 => ?_)
    · rw [nI_eq (by omega) (by omega)] at c24
      refine zz_iconst_m1 C dX9_acrossFrom_36 <| zpc 37 rfl <| ?_
      refine zf_ireturn C hE (zle rfl) (zle rfl) dX9_acrossFrom_37 ?_ rfl rfl
      first
      | (rw [if_pos (Or.inr c24)]; unfold gO gOther; rw [if_neg c7])
      | rw [if_neg (fun q => q.elim c7 c24)]
    · rw [nI_eq (by omega) (by omega)] at c24
      refine zz_aload_0 C dX9_acrossFrom_27 <| zz_getR C fX9_18 (tX_K_ways hX) (tX_R_oneEnd hX) dX9_acrossFrom_28 <| zz_iload_2 C dX9_acrossFrom_31 <| zc_iaload C _ (tX_K_oneEnd hX) (znI (by omega)) (by omega) dX9_acrossFrom_32 <| zpc 33 rfl <| ?_
      rw [z2]
      refine zz_goto C 37 dX9_acrossFrom_33 (by decide) <| zpc 37 rfl <| ?_
      refine zf_ireturn C hE (zle rfl) (zle rfl) dX9_acrossFrom_37 ?_ rfl rfl
      first
      | (rw [if_pos (Or.inr c24)]; unfold gO gOther; rw [if_neg c7])
      | rw [if_neg (fun q => q.elim c7 c24)]
  · rw [nI_eq (by omega) (by omega)] at c7
    refine zz_aload_0 C dX9_acrossFrom_10 <| zz_getR C fX9_21 (tX_K_ways hX) (tX_R_otherEnd hX) dX9_acrossFrom_11 <| zz_iload_2 C dX9_acrossFrom_14 <| zc_iaload C _ (tX_K_otherEnd hX) (znI (by omega)) (by omega) dX9_acrossFrom_15 <| zpc 16 rfl <| ?_
    rw [z3]
    exact zf_ireturn C hE (zle rfl) (zle rfl) dX9_acrossFrom_16 (by rw [if_pos (Or.inl c7)]; unfold gO gOther; rw [if_pos c7]) rfl rfl
theorem c9_stepOn (hX : zTX t a c e) (hN : nOk P n tl F w) (hto : to < P) (hy : cWy h P tl (usL s F w n) F w) {d : Nat → Nat} (hr : cRow h P to d) (hT : dT P n tl s F w to d) (hF : dF n tl s F w d) {pre : List Nat} (hpt : cPt h tl F w pre) (hl12 : pre.length < 12) (p : Nat) (hp : p < P) (hpt2 : p ≠ to) (hpf : d p < cFar) : zMet E b l yX9_stepOn cX9_stepOn 5 (some .int) 2 0 0 [.ref (b + 74), .int (nI p), .int (nI (to * 12))] t h (qI (fun v t' h' => t' = t ∧ ∃ k, k < n ∧ gE tl s F w d p k ∧ (∀ j, j < k → ¬ gE tl s F w d p j) ∧ v = nI (gO F k p) ∧ cAp h h' ∧ cPt h' tl F w (pre ++ [k]))) := by
  have hP := hN.2.1
  have hn := hN.2.2.1
  have hul := usL_len s F w n
  have hEd := nEnds (s := s) hN
  obtain ⟨K, hK, hKe⟩ := gEdge_ex hF hT hp hpt2 hpf
  obtain ⟨qK, hqK, eqK⟩ := usL_ix (s := s) (F := F) (w := w) hK hKe.1
  obtain ⟨⟨g0, g1, g2⟩, g3⟩ := hpt
  have hpt := (⟨⟨g0, g1, g2⟩, g3⟩ : cPt h tl F w pre)
  have dp := hr p hp
  refine zMet.of (ls := [some (.ref (b + 74)), some (.int (nI p)), some (.int (nI (to * 12))), none, none]) (by decide) (zle rfl) 2 rfl ?_
  intro G hlG C hR hE hin
  have lp : ∀ q, q ≤ (usL s F w n).length → (∀ r, r < q → ¬ gE tl s F w d p ((usL s F w n).getD r 0)) → ∀ x4 : Option Value, zAW E b G 5 0 0 2 [some (.ref (b + 74)), some (.int (nI p)), some (.int (nI (to * 12))), some (.int (nI q)), x4] [] t h := by
    refine zLoop (usL s F w n).length fun q hq ih hno x4 => ?_
    have hqK2 : q ≤ qK := Nat.le_of_not_lt fun z => hno qK z (by rw [eqK]; exact hKe)
    have hq2 : q < (usL s F w n).length := by omega
    obtain ⟨hk, ho⟩ := usL_at hq2
    obtain ⟨z1, z2, z3, z4, z5⟩ := hy.2 q hq2
    obtain ⟨e1, e2, e3, e4, e5⟩ := hEd _ hk ho
    have hoth : gO F ((usL s F w n).getD q 0) p < P := gOther_lt (p := p) hEd hk ho
    have dq := hr _ hoth
    have bq : d (gO F ((usL s F w n).getD q 0) p) ≤ 1000000 := hT.2.1 _ hoth
    have bp : d p ≤ 1000000 := hT.2.1 _ hp
    have eco : nMi F w ((usL s F w n).getD q 0) + tl * w ((usL s F w n).getD q 0) = nCo tl F w ((usL s F w n).getD q 0) := rfl
    have s128 : ¬ gE tl s F w d p ((usL s F w n).getD q 0) → ∀ x4 : Option Value, zAW E b G 5 0 0 128 [some (.ref (b + 74)), some (.int (nI p)), some (.int (nI (to * 12))), some (.int (nI q)), x4] [] t h := by
      intro hng x4
      refine zz_iinc_3 C _ (zle rfl) rfl dX9_stepOn_128 nI_s <| zz_goto C 2 dX9_stepOn_131 (by decide) <| zpc 2 rfl <| ?_
      refine ih hq2 (fun r hr2 => ?_) _
      by_cases z : r = q
      · rw [z]; exact hng
      · exact hno r (by omega)
    by_cases hc : F ((usL s F w n).getD q 0) 0 = p ∨ F ((usL s F w n).getD q 0) 1 = p
    · have hac : ∀ l, zMet E b l yX9_acrossFrom cX9_acrossFrom 3 (some .int) 1 0 0 [.ref (b + 74), .int (nI p), .int (nI q)] t h (qIf (nI (gO F ((usL s F w n).getD q 0) p)) t h) := fun l => by
        have := c9_across (E := E) (b := b) (l := l) hX hN hy p q hp hq2
        rw [if_pos hc] at this
        exact this
      refine zz_iload_3 C dX9_stepOn_2 <| zz_aload_0 C dX9_stepOn_3 <| zz_getI C fX9_40 (tX_K_ways hX) dX9_stepOn_4 <| zpc 7 rfl <| ?_
      rw [hy.1.2]
      refine zz_icmp_ge C 134 dX9_stepOn_7 (by decide) (fun c7 => ?_) (fun c7 => ?_)
      · rw [nI_leI (by omega) (by omega)] at c7
        omega
      · rw [nI_leI (by omega) (by omega)] at c7
        refine zz_aload_0 C dX9_stepOn_10 <| zz_iload_1 C dX9_stepOn_11 <| zz_iload_3 C dX9_stepOn_12 <| zpc 13 rfl <| ?_
        refine zf_callVI C hR [_, _] (hac _) lX9_85 rfl (tX_K_ways hX) (by decide) rfl ⟨zle rfl, zle rfl, zle rfl, zle rfl⟩ (zle rfl) dX9_stepOn_13 ?_
        refine zz_istore_4 C (zle rfl) rfl dX9_stepOn_16 <| zz_iload_4 C dX9_stepOn_18 <| zz_iconst_m1 C dX9_stepOn_20 <| zpc 21 rfl <| ?_
        refine zz_icmp_eq C 128 dX9_stepOn_21 (by decide) (fun c21 => ?_) (fun c21 => ?_)
        · rw [show ((nI (gO F ((usL s F w n).getD q 0) p) = -1) = False) from by simp only [eq_iff_iff, iff_false]; intro z; have z2 := congrArg Int32.toInt z; rw [nI_toInt (by omega)] at z2; have z3 : (-1 : Int32).toInt = -1 := rfl; omega] at c21
          exact c21.elim
        · rw [show ((nI (gO F ((usL s F w n).getD q 0) p) = -1) = False) from by simp only [eq_iff_iff, iff_false]; intro z; have z2 := congrArg Int32.toInt z; rw [nI_toInt (by omega)] at z2; have z3 : (-1 : Int32).toInt = -1 := rfl; omega] at c21
          refine zz_aload_0 C dX9_stepOn_24 <| zz_getI C fX9_67 (tX_K_ways hX) dX9_stepOn_25 <| zpc 28 rfl <| ?_
          rw [g0]
          refine zz_aload_0 C dX9_stepOn_28 <| zz_getR C fX9_9 (tX_K_ways hX) (tX_R_path hX) dX9_stepOn_29 <| zz_alenI C (tX_K_path hX) dX9_stepOn_32 <| zpc 33 rfl <| ?_
          refine zz_icmp_ge C 128 dX9_stepOn_33 (by decide) (fun c33 => ?_) (fun c33 => ?_)
          · rw [show Int32.ofNat 12 = nI 12 from rfl, nI_leI (by omega) (by omega)] at c33
            omega
          · rw [show Int32.ofNat 12 = nI 12 from rfl, nI_leI (by omega) (by omega)] at c33
            refine zz_aload_0 C dX9_stepOn_36 <| zz_getR C fX9_30 (tX_K_ways hX) (tX_R_distance hX) dX9_stepOn_37 <| zz_iload_2 C dX9_stepOn_40 <| zz_iload_4 C dX9_stepOn_41 <| zz_iadd C dX9_stepOn_43 <| zpc 44 rfl <| ?_
            rw [nI_add]
            refine zc_iaload C _ (tX_K_distance hX) (znI (by omega)) (by omega) dX9_stepOn_44 <| zpc 45 rfl <| ?_
            rw [dq]
            refine zz_aload_0 C dX9_stepOn_45 <| zz_getR C fX9_24 (tX_K_ways hX) (tX_R_minutesOf hX) dX9_stepOn_46 <| zz_iload_3 C dX9_stepOn_49 <| zc_iaload C _ (tX_K_minutesOf hX) (znI (by omega)) (by omega) dX9_stepOn_50 <| zpc 51 rfl <| ?_
            rw [z4]
            refine zz_iadd C dX9_stepOn_51 <| zpc 52 rfl <| ?_
            rw [nI_add]
            refine zz_aload_0 C dX9_stepOn_52 <| zz_getR C fX9_27 (tX_K_ways hX) (tX_R_tollOf hX) dX9_stepOn_53 <| zz_iload_3 C dX9_stepOn_56 <| zc_iaload C _ (tX_K_tollOf hX) (znI (by omega)) (by omega) dX9_stepOn_57 <| zpc 58 rfl <| ?_
            rw [z5]
            refine zz_iadd C dX9_stepOn_58 <| zpc 59 rfl <| ?_
            rw [nI_add]
            refine zz_aload_0 C dX9_stepOn_59 <| zz_getR C fX9_30 (tX_K_ways hX) (tX_R_distance hX) dX9_stepOn_60 <| zz_iload_2 C dX9_stepOn_63 <| zz_iload_1 C dX9_stepOn_64 <| zz_iadd C dX9_stepOn_65 <| zpc 66 rfl <| ?_
            rw [nI_add]
            refine zc_iaload C _ (tX_K_distance hX) (znI (by omega)) (by omega) dX9_stepOn_66 <| zpc 67 rfl <| ?_
            rw [dp]
            refine zz_icmp_ne C 128 dX9_stepOn_67 (by decide) (fun c67 => ?_) (fun c67 => ?_)
            · rw [nI_eq (by omega) (by omega)] at c67
              exact s128 (fun z => c67 (by have z2 : d (gO F ((usL s F w n).getD q 0) p) + nCo tl F w ((usL s F w n).getD q 0) = d p := z.2.2; omega)) _
            · rw [nI_eq (by omega) (by omega)] at c67
              refine zz_aload_0 C dX9_stepOn_70 <| zz_getR C fX9_9 (tX_K_ways hX) (tX_R_path hX) dX9_stepOn_71 <| zz_aload_0 C dX9_stepOn_74 <| zz_getI C fX9_67 (tX_K_ways hX) dX9_stepOn_75 <| zpc 78 rfl <| ?_
              rw [g0]
              refine zz_aload_0 C dX9_stepOn_78 <| zz_getR C fX9_15 (tX_K_ways hX) (tX_R_number hX) dX9_stepOn_79 <| zz_iload_3 C dX9_stepOn_82 <| zc_iaload C _ (tX_K_number hX) (znI (by omega)) (by omega) dX9_stepOn_83 <| zpc 84 rfl <| ?_
              rw [z1]
              refine zc_iastore C _ (tX_K_path hX) (znI (by omega)) (by omega) dX9_stepOn_84 <| zz_aload_0 C dX9_stepOn_85 <| zz_dup C dX9_stepOn_86 rfl <| zz_getI C fX9_67 (tX_K_ways hX) dX9_stepOn_87 <| zpc 90 rfl <| ?_
              rw [zI_sI, if_neg (by omega), g0]
              refine zz_iconst_1 C dX9_stepOn_90 <| zz_iadd C dX9_stepOn_91 <| zpc 92 rfl <| ?_
              rw [show (1 : Int32) = nI 1 from rfl, nI_add]
              refine zy_putI C fX9_67 pX9_0 (tX_K_ways hX) dX9_stepOn_92 <| zz_aload_0 C dX9_stepOn_95 <| zz_dup C dX9_stepOn_96 rfl <| zz_getI C fX9_70 (tX_K_ways hX) dX9_stepOn_97 <| zpc 100 rfl <| ?_
              rw [zI_sI, if_neg (by omega), zI_sI, if_neg (by omega), g1]
              refine zz_aload_0 C dX9_stepOn_100 <| zz_getR C fX9_24 (tX_K_ways hX) (tX_R_minutesOf hX) dX9_stepOn_101 <| zz_iload_3 C dX9_stepOn_104 <| zc_iaload C _ (tX_K_minutesOf hX) (znI (by omega)) (by omega) dX9_stepOn_105 <| zpc 106 rfl <| ?_
              rw [zI_sI, if_neg (by omega), zI_sI, if_neg (by omega), z4]
              refine zz_iadd C dX9_stepOn_106 <| zpc 107 rfl <| ?_
              rw [nI_add]
              refine zy_putI C fX9_70 pX9_1 (tX_K_ways hX) dX9_stepOn_107 <| zz_aload_0 C dX9_stepOn_110 <| zz_dup C dX9_stepOn_111 rfl <| zz_getI C fX9_73 (tX_K_ways hX) dX9_stepOn_112 <| zpc 115 rfl <| ?_
              rw [zI_sI, if_neg (by omega), zI_sI, if_neg (by omega), zI_sI, if_neg (by omega), g2]
              refine zz_aload_0 C dX9_stepOn_115 <| zz_getR C fX9_27 (tX_K_ways hX) (tX_R_tollOf hX) dX9_stepOn_116 <| zz_iload_3 C dX9_stepOn_119 <| zc_iaload C _ (tX_K_tollOf hX) (znI (by omega)) (by omega) dX9_stepOn_120 <| zpc 121 rfl <| ?_
              rw [zI_sI, if_neg (by omega), zI_sI, if_neg (by omega), zI_sI, if_neg (by omega), z5]
              refine zz_iadd C dX9_stepOn_121 <| zpc 122 rfl <| ?_
              rw [nI_add]
              refine zy_putI C fX9_73 pX9_2 (tX_K_ways hX) dX9_stepOn_122 <| zz_iload_4 C dX9_stepOn_125 <| zpc 127 rfl <| ?_
              refine zy_ireturn C hE (zle rfl) (zle rfl) dX9_stepOn_127 ?_
              refine ⟨rfl, _, hk, ⟨ho, hc, by show d (gO F ((usL s F w n).getD q 0) p) + nCo tl F w ((usL s F w n).getD q 0) = d p; omega⟩, fun j hj hje => ?_, rfl, cAp.snoc _ _ 0 _ _ _ _, cPt.snoc hpt⟩
              obtain ⟨r, hr2, er⟩ := usL_ix (s := s) (F := F) (w := w) (show j < n by omega) hje.1
              refine hno r (Classical.byContradiction fun z => ?_) (by rw [er]; exact hje)
              have : r = q ∨ q < r := by omega
              rcases this with z | z
              · subst z; omega
              · have := usL_inc (s := s) (F := F) (w := w) z hr2; omega
    · have hac : ∀ l, zMet E b l yX9_acrossFrom cX9_acrossFrom 3 (some .int) 1 0 0 [.ref (b + 74), .int (nI p), .int (nI q)] t h (qIf (-1) t h) := fun l => by
        have := c9_across (E := E) (b := b) (l := l) hX hN hy p q hp hq2
        rw [if_neg hc] at this
        exact this
      refine zz_iload_3 C dX9_stepOn_2 <| zz_aload_0 C dX9_stepOn_3 <| zz_getI C fX9_40 (tX_K_ways hX) dX9_stepOn_4 <| zpc 7 rfl <| ?_
      rw [hy.1.2]
      refine zz_icmp_ge C 134 dX9_stepOn_7 (by decide) (fun c7 => ?_) (fun c7 => ?_)
      · rw [nI_leI (by omega) (by omega)] at c7
        omega
      · rw [nI_leI (by omega) (by omega)] at c7
        refine zz_aload_0 C dX9_stepOn_10 <| zz_iload_1 C dX9_stepOn_11 <| zz_iload_3 C dX9_stepOn_12 <| zpc 13 rfl <| ?_
        refine zf_callVI C hR [_, _] (hac _) lX9_85 rfl (tX_K_ways hX) (by decide) rfl ⟨zle rfl, zle rfl, zle rfl, zle rfl⟩ (zle rfl) dX9_stepOn_13 ?_
        refine zz_istore_4 C (zle rfl) rfl dX9_stepOn_16 <| zz_iload_4 C dX9_stepOn_18 <| zz_iconst_m1 C dX9_stepOn_20 <| zpc 21 rfl <| ?_
        refine zz_icmp_eq C 128 dX9_stepOn_21 (by decide) (fun c21 => ?_) (fun c21 => ?_)
        · exact s128 (fun z => hc z.2.1) _
        · exact absurd rfl c21
  refine zz_iconst_0 C dX9_stepOn_0 <| zz_istore_3 C (zle rfl) rfl dX9_stepOn_1 <| zpc 2 rfl <| ?_
  exact lp 0 (by omega) (fun r hr => absurd hr (by omega)) _
/-- what find leaves: the way, if there is one -/
def cFindPost (h : zH) (t : zT) (P n tl s : Nat) (F : Nat → Nat → Nat) (w : Nat → Nat) (fr to : Nat) (r : Int32) (t' : zT) (h' : zH) : Prop := t' = t ∧ r = zb ((nWay P n tl s F w fr to).isSome = true) ∧ ((∀ k ∈ (nWay P n tl s F w fr to).getD [], k < n) ∧ ((nWay P n tl s F w fr to).getD []).length ≤ 11) ∧ isWay P n (nOp s F w) (fun k => F k 0) (fun k => F k 1) (nCo tl F w) fr to (nWay P n tl s F w fr to) ∧ cAg 74 81 h h' ∧ cWy h' P tl (usL s F w n) F w ∧ (∃ ms, cMs h' ms P n tl s F w) ∧ cPt h' tl F w ((nWay P n tl s F w fr to).getD [])
theorem cAp.ag {h h' : zH} (a : cAp h h') : cAg 74 81 h h' := ⟨fun i k q => a.1 i k (by omega), fun i k _ => a.2 i k⟩
theorem cAm.ag {h h' : zH} {to : Nat} (a : cAm to h h') : cAg 74 81 h h' := ⟨fun i k q => a.1 i k (by omega), fun i k _ => a.2 i k⟩
theorem c9_find (hX : zTX t a c e) (hN : nOk P n tl F w) (fr to : Nat) (hfr : fr < P) (hto : to < P) {ms : Nat} (hy : cWy h P tl (usL s F w n) F w) (hms : cMs h ms P n tl s F w) : zMet E b l yX9_find cX9_find 5 (some .boolean) 3 0 0 [.ref (b + 74), .int (nI fr), .int (nI to)] t h (qI (cFindPost h t P n tl s F w fr to)) := by
  have hP := hN.2.1
  have hn := hN.2.2.1
  have hEd := nEnds (s := s) hN
  have h12 : (12 : Int32) = nI 12 := rfl
  refine zMet.of (ls := [some (.ref (b + 74)), some (.int (nI fr)), some (.int (nI to)), none, none]) (by decide) (zle rfl) 2 rfl ?_
  intro G hlG C hR hE hin
  have fin : ∀ (h1 : zH) (ms : Nat) (d : Nat → Nat), cAg 74 81 h h1 → cWy h1 P tl (usL s F w n) F w → cMs h1 ms P n tl s F w → cRow h1 P to d → dT P n tl s F w to d → dF n tl s F w d → cPt h1 tl F w [] → zAW E b G 5 0 0 31 [some (.ref (b + 74)), some (.int (nI fr)), some (.int (nI to)), none, none] [] t h1 := by
    intro h1 ms d ag hy hms hr hT hF hpt
    have bf : d fr ≤ 1000000 := hT.2.1 _ hfr
    have rf := hr _ hfr
    have hfar : (1000000 : Int32) = nI 1000000 := rfl
    have lp : d fr < cFar → ∀ (m p : Nat) (pre : List Nat) (hc : zH), p < P → d p < cFar → dCnt d (d p) P < m → pre.length + dCnt d (d p) P + 1 ≤ P → (∀ rest, gPath n (nOp s F w) (fun k => F k 0) (fun k => F k 1) (nCo tl F w) d to rest p → gPath n (nOp s F w) (fun k => F k 0) (fun k => F k 1) (nCo tl F w) d to (pre ++ rest) fr) → cAp h1 hc → cPt hc tl F w pre → zAW E b G 5 0 0 54 [some (.ref (b + 74)), some (.int (nI fr)), some (.int (nI to)), some (.int (nI p)), some (.int (nI pre.length))] [] t hc := by
      intro hff m
      induction m with
      | zero => intro p pre hc hp hpf hm; omega
      | succ m ih =>
        intro p pre hc hp hpf hcm hlen hpre ap hpc
        have hyc := ap.wy hy
        refine zz_iload_4 C dX9_find_54 <| zz_aload_0 C dX9_find_56 <| zz_getI C fX9_39 (tX_K_ways hX) dX9_find_57 <| zpc 60 rfl <| ?_
        rw [hyc.1.1]
        refine zz_icmp_ge C 84 dX9_find_60 (by decide) (fun c60 => ?_) (fun c60 => ?_)
        · rw [nI_leI (by omega) (by omega)] at c60
          omega
        · rw [nI_leI (by omega) (by omega)] at c60
          refine zz_iload_3 C dX9_find_63 <| zz_iload_2 C dX9_find_64 <| zpc 65 rfl <| ?_
          refine zz_icmp_eq C 84 dX9_find_65 (by decide) (fun c65 => ?_) (fun c65 => ?_)
          · rw [nI_eq (by omega) (by omega)] at c65
            refine zz_iconst_1 C dX9_find_84 <| zpc 85 rfl <| ?_
            refine zy_zreturn C hE (zle rfl) (zle rfl) dX9_find_85 (by decide) ?_
            have hl := hpre [] c65
            rw [List.append_nil] at hl
            have hiw : isWay P n (nOp s F w) (fun k => F k 0) (fun k => F k 1) (nCo tl F w) fr to (some pre) := ⟨cFar, d, by decide, hF, hT, hff, hl⟩
            have hw : nWay P n tl s F w fr to = some pre := zway_eq hP hEd hfr hiw
            exact ⟨rfl, by rw [hw]; rfl, by rw [hw]; exact isWay_facts hP hEd hfr hiw, by rw [hw]; exact hiw, ag.tr ap.ag, hyc, ⟨ms, ap.ms hms⟩, by rw [hw]; exact hpc⟩
          · rw [nI_eq (by omega) (by omega)] at c65
            refine zz_aload_0 C dX9_find_68 <| zz_iload_3 C dX9_find_69 <| zz_iload_2 C dX9_find_70 <| zz_bipush C 12 dX9_find_71 (by decide) <| zz_imul C dX9_find_73 <| zpc 74 rfl <| ?_
            rw [h12, pk_mul]
            refine zy_callVI C hR [_, _] (c9_stepOn hX hN hto hyc (ap.row hr) hT hF hpc (by omega) p hp c65 hpf) lX9_81 rfl (tX_K_ways hX) (by decide) rfl ⟨zle rfl, zle rfl, zle rfl, zle rfl⟩ (zle rfl) dX9_find_74 ?_
            intro v t' h' hv; obtain ⟨rfl, k, hk, hke, hkf, rfl, ap2, hpc2⟩ := hv; have hoth : gO F k p < P := gOther_lt (p := p) hEd hk hke.1; have hdq : d (gO F k p) + nCo tl F w k = d p := hke.2.2; have hnc := nCo_le hN hk; have hcnt := dCnt_lt (d := d) (x := d (gO F k p)) (y := d p) (by omega) (q := gO F k p) (by omega) (by omega) P hoth
            refine zz_istore_3 C (zle rfl) rfl dX9_find_77 <| zz_iinc_4 C _ (zle rfl) rfl dX9_find_78 nI_s <| zz_goto C 54 dX9_find_81 (by decide) <| zpc 54 rfl <| ?_
            have := ih (gO F k p) (pre ++ [k]) h' hoth (by omega) (by omega) (by rw [List.length_append, List.length_singleton]; omega) (fun rest hr => by rw [List.append_assoc]; exact hpre _ ⟨c65, hk, hke, hkf, hr⟩) (ap.tr ap2) hpc2
            rw [List.length_append, List.length_singleton] at this
            exact this
    refine zz_aload_0 C dX9_find_31 <| zz_getR C fX9_30 (tX_K_ways hX) (tX_R_distance hX) dX9_find_32 <| zz_iload_2 C dX9_find_35 <| zz_bipush C 12 dX9_find_36 (by decide) <| zz_imul C dX9_find_38 <| zpc 39 rfl <| ?_
    rw [h12, pk_mul]
    refine zz_iload_1 C dX9_find_39 <| zz_iadd C dX9_find_40 <| zpc 41 rfl <| ?_
    rw [nI_add]
    refine zc_iaload C _ (tX_K_distance hX) (znI (by omega)) (by omega) dX9_find_41 <| zpc 42 rfl <| ?_
    rw [rf]
    refine zz_ldc C dX9_find_42 kX9_80 <| zpc 44 rfl <| ?_
    rw [hfar]
    refine zz_icmp_lt C 49 dX9_find_44 (by decide) (fun c44 => ?_) (fun c44 => ?_)
    · rw [nI_ltI (by omega) (by omega)] at c44
      refine zz_iload_1 C dX9_find_49 <| zz_istore_3 C (zle rfl) rfl dX9_find_50 <| zz_iconst_0 C dX9_find_51 <| zz_istore_4 C (zle rfl) rfl dX9_find_52 <| zpc 54 rfl <| ?_
      have hc := dCnt_self (d := d) (x := d fr) (p := fr) (by omega) P hfr
      exact lp c44 (P + 1) fr [] h1 hfr c44 (by omega) (by simpa using hc) (fun rest hr => by rw [List.nil_append]; exact hr) ⟨fun _ _ _ => rfl, fun _ _ => rfl⟩ hpt
    · rw [nI_ltI (by omega) (by omega)] at c44
      refine zz_iconst_0 C dX9_find_47 <| zpc 48 rfl <| ?_
      refine zy_zreturn C hE (zle rfl) (zle rfl) dX9_find_48 (by decide) ?_
      have hiw : isWay P n (nOp s F w) (fun k => F k 0) (fun k => F k 1) (nCo tl F w) fr to none := ⟨cFar, d, by decide, hF, hT, by show cFar ≤ d fr; unfold cFar; omega⟩
      have hw : nWay P n tl s F w fr to = none := zway_eq hP hEd hfr hiw
      exact ⟨rfl, by rw [hw]; rfl, by rw [hw]; exact isWay_facts hP hEd hfr hiw, by rw [hw]; exact hiw, ag, hy, ⟨ms, hms⟩, by rw [hw]; exact hpt⟩
  have ap0 : cAp h (zsI (zsI (zsI h 74 0 0) 74 1 0) 74 2 0) := ⟨fun i k hn => by rw [zI_sI, if_neg (by omega), zI_sI, if_neg (by omega), zI_sI, if_neg (by omega)], fun _ _ => rfl⟩
  have pt0 : cPt (zsI (zsI (zsI h 74 0 0) 74 1 0) 74 2 0) tl F w [] := by
    refine ⟨⟨?_, ?_, zI_self _ _ _ _⟩, fun i hi => absurd hi (Nat.not_lt_zero i)⟩
    · rw [zI_sI, if_neg (by omega), zI_sI, if_neg (by omega), zI_self]; rfl
    · rw [zI_sI, if_neg (by omega), zI_self]; rfl
  have hy0 := ap0.wy hy
  have hms0 := ap0.ms hms
  have hms12 := hms.1.2
  refine zz_aload_0 C dX9_find_0 <| zz_iconst_0 C dX9_find_1 <| zy_putI C fX9_67 pX9_0 (tX_K_ways hX) dX9_find_2 <| zz_aload_0 C dX9_find_5 <| zz_iconst_0 C dX9_find_6 <| zy_putI C fX9_70 pX9_1 (tX_K_ways hX) dX9_find_7 <| zz_aload_0 C dX9_find_10 <| zz_iconst_0 C dX9_find_11 <| zy_putI C fX9_73 pX9_2 (tX_K_ways hX) dX9_find_12 <| zz_aload_0 C dX9_find_15 <| zz_getI C fX9_43 (tX_K_ways hX) dX9_find_16 <| zpc 19 rfl <| ?_
  rw [hms0.1.1]
  refine zz_iload_2 C dX9_find_19 <| zz_ishr C dX9_find_20 <| zz_iconst_1 C dX9_find_21 <| zz_iand C dX9_find_22 <| zpc 23 rfl <| ?_
  rw [zbit (by omega) (by omega)]
  refine zz_if_ne C 31 dX9_find_23 (by decide) (fun c23 => ?_) (fun c23 => ?_)
  · rw [show (0 : Int32) = nI 0 from rfl, nI_eq (by omega) (by omega)] at c23
    obtain ⟨d, k1, k2, k3⟩ := hms0.2 to hto (by omega)
    exact fin _ ms d ap0.ag hy0 hms0 k1 k2 k3 pt0
  · rw [show (0 : Int32) = nI 0 from rfl, nI_eq (by omega) (by omega)] at c23
    refine zz_aload_0 C dX9_find_26 <| zz_iload_2 C dX9_find_27 <| zpc 28 rfl <| ?_
    refine zy_callVV C hR [_] (c9_measure hX hN hto hy0 hms0) lX9_76 rfl (tX_K_ways hX) (by decide) rfl ⟨zle rfl, zle rfl, zle rfl, zle rfl⟩ (zle rfl) dX9_find_28 ?_
    intro t' h' hv; obtain ⟨rfl, am, hms1⟩ := hv
    obtain ⟨d, k1, k2, k3⟩ := hms1.2 to hto (bit_or.mpr (Or.inr rfl))
    refine fin _ _ d (ap0.ag.tr (((cAg.rf _).sI (by omega) (by omega)).tr am.ag)) (am.wy ?_) hms1 k1 k2 k3 ?_
    · obtain ⟨⟨y1, y2⟩, y3⟩ := hy0
      refine ⟨⟨by rw [zI_sI, if_neg (by omega)]; exact y1, by rw [zI_sI, if_neg (by omega)]; exact y2⟩, fun q hq => ?_⟩
      rw [zI_sI, if_neg (by omega), zI_sI, if_neg (by omega), zI_sI, if_neg (by omega), zI_sI, if_neg (by omega), zI_sI, if_neg (by omega)]
      exact y3 q hq
    · obtain ⟨⟨y1, y2, y3⟩, -⟩ := pt0
      refine ⟨⟨?_, ?_, ?_⟩, fun i hi => absurd hi (Nat.not_lt_zero i)⟩
      · rw [am.1 _ _ (by omega), zI_sI, if_neg (by omega)]; exact y1
      · rw [am.1 _ _ (by omega), zI_sI, if_neg (by omega)]; exact y2
      · rw [am.1 _ _ (by omega), zI_sI, if_neg (by omega)]; exact y3
end CF
