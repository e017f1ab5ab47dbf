/-! ===== the class: Ways, distances ===== -/
abbrev dT (P n tl s : Nat) (F : Nat → Nat → Nat) (w : Nat → Nat) (to : Nat) (d : Nat → Nat) : Prop := dTight P n (nOp s F w) (fun k => F k 0) (fun k => F k 1) (nCo tl F w) to cFar d
abbrev dF (n tl s : Nat) (F : Nat → Nat → Nat) (w : Nat → Nat) (d : Nat → Nat) : Prop := dFix n (nOp s F w) (fun k => F k 0) (fun k => F k 1) (nCo tl F w) cFar d
/-- a row of distances -/
def cRow (h : zH) (P to : Nat) (d : Nat → Nat) : Prop := ∀ p, p < P → zI h 81 (to * 12 + p) = nI (d p)
theorem cRow.up {h : zH} {P to : Nat} {d : Nat → Nat} (hm : cRow h P to d) (q x : Nat) : cRow (zsI h 81 (to * 12 + q) (nI x)) P to (nUp d q x) := by
  intro p hp
  rw [zI_sI]
  unfold nUp
  by_cases z : p = q
  · rw [if_pos ⟨rfl, by omega⟩, if_pos z]
  · rw [if_neg (by omega), if_neg z]; exact hm p hp
/-- the places whose distances are known: bits -/
def cMs (h : zH) (ms P n tl s : Nat) (F : Nat → Nat → Nat) (w : Nat → Nat) : Prop := (zI h 74 12 = nI ms ∧ ms < 2 ^ 12) ∧ ∀ to, to < P → ms / 2 ^ to % 2 = 1 → ∃ d, cRow h P to d ∧ dT P n tl s F w to d ∧ dF n tl s F w d
/-- what measuring to a place leaves alone -/
def cAm (to : Nat) (h h' : zH) : Prop := (∀ i k, ¬ (i = 81 ∧ to * 12 ≤ k ∧ k < to * 12 + 12) → zI h' i k = zI h i k) ∧ ∀ i k, zL h' i k = zL h i k
theorem cAm.up {h h' : zH} {to q : Nat} {v : Int32} (a : cAm to h h') (hq : q < 12) : cAm to h (zsI h' 81 (to * 12 + q) v) := ⟨fun i k h1 => by
  rw [zI_sI, if_neg (by omega)]; exact a.1 i k h1, a.2⟩
theorem cAm.wy {h h' : zH} {to P tl : Nat} {u : List Nat} {F : Nat → Nat → Nat} {w : Nat → Nat} (a : cAm to h h') (hm : cWy h P tl u F w) : cWy h' P tl u F w := by
  obtain ⟨⟨h1, h2⟩, h3⟩ := hm
  refine ⟨⟨?_, ?_⟩, fun q hq => ?_⟩
  · rw [a.1 _ _ (by omega)]; exact h1
  · rw [a.1 _ _ (by omega)]; exact h2
  · rw [a.1 _ _ (by omega), a.1 _ _ (by omega), a.1 _ _ (by omega), a.1 _ _ (by omega), a.1 _ _ (by omega)]; exact h3 q hq
theorem nI_or {x y : Nat} (hx : x < 2 ^ 31) (hy : y < 2 ^ 31) : nI x ||| nI y = nI (x ||| y) := by
  apply Int32.toBitVec_inj.mp
  rw [Int32.toBitVec_or]
  apply BitVec.eq_of_toNat_eq
  rw [BitVec.toNat_or, pk_tn (by omega), pk_tn (by omega), pk_tn (by have := Nat.or_lt_two_pow hx hy; omega)]
theorem bit_or {x q to : Nat} : (x ||| 2 ^ to) / 2 ^ q % 2 = 1 ↔ x / 2 ^ q % 2 = 1 ∨ q = to := by
  have h1 : ∀ z, z / 2 ^ q % 2 = 1 ↔ z.testBit q = true := fun z => by rw [Nat.testBit_eq_decide_div_mod_eq]; simp
  rw [h1, h1, Nat.testBit_or, Nat.testBit_two_pow]
  simp
  constructor
  · rintro (h | h)
    · exact Or.inl h
    · exact Or.inr h.symm
  · rintro (h | h)
    · exact Or.inl h
    · exact Or.inr h.symm
section CM
variable {E : zE} {b : Nat} {G : zG} {t : zT} {h : zH} {l : Launch} {P n tl s to : Nat} {F : Nat → Nat → Nat} {w : Nat → Nat} {a c e : Nat} {x3 x4 x5 x6 x7 x8 : Option Value} {d' : Nat → Nat}
/-- a road's turn -/
theorem l9_edge (hX : zTX t a c e) (hN : nOk P n tl F w) (hto : to < P) (hy : cWy h P tl (usL s F w n) F w) (C : zCx E b G RX9 cX9_measure 9 none) {v3 : Int32} {v4 q : Nat} (hq : q < (usL s F w n).length) {hc : zH} (am : cAm to h hc) {d : Nat → Nat} (hr : cRow hc P to d) (hT : dT P n tl s F w to d)
    (kont : ∀ (hc' : zH) (d2 : Nat → Nat) (v' : Int32) (x6 x7 x8 : Option Value), cAm to h hc' → cRow hc' P to d2 → dT P n tl s F w to d2 → (∀ p, p < P → d2 p ≤ d p) → (d2 (F ((usL s F w n).getD q 0) 1) ≤ d (F ((usL s F w n).getD q 0) 0) + nCo tl F w ((usL s F w n).getD q 0) ∧ d2 (F ((usL s F w n).getD q 0) 0) ≤ d (F ((usL s F w n).getD q 0) 1) + nCo tl F w ((usL s F w n).getD q 0)) → (v' = v3 ∧ d2 = d ∨ v' = 1) → zAW E b G 9 0 0 75 [some (.ref (b + 74)), some (.int (nI to)), some (.int (nI (to * 12))), some (.int (v')), some (.int (nI v4)), some (.int (nI (q + 1))), x6, x7, x8] [] t (hc')) :
    zAW E b G 9 0 0 75 [some (.ref (b + 74)), some (.int (nI to)), some (.int (nI (to * 12))), some (.int v3), some (.int (nI v4)), some (.int (nI q)), x6, x7, x8] [] t hc := by
  have hP := hN.2.1
  have hn := hN.2.2.1
  have hul := usL_len s F w n
  obtain ⟨⟨y1, y2⟩, y3⟩ := am.wy hy
  obtain ⟨z1, z2, z3, z4, z5⟩ := y3 q hq
  have hE := nEnds (s := s) hN
  obtain ⟨hk, ho⟩ := usL_at hq
  obtain ⟨e1, e2, e3, e4, e5⟩ := hE _ hk ho
  dsimp only at e1 e2 e3
  generalize (usL s F w n).getD q 0 = k at *
  have b0 : d (F k 0) ≤ 1000000 := hT.2.1 _ e1
  have b1 : d (F k 1) ≤ 1000000 := hT.2.1 _ e2
  have eco : nI (nMi F w k) + nI (tl * w k) = nI (nCo tl F w k) := nI_add _ _
  have r0 := hr _ e1
  have r1 := hr _ e2
  refine zz_iload_5 C dX9_measure_75 <| zz_aload_0 C dX9_measure_77 <| zz_getI C fX9_40 (tX_K_ways hX) dX9_measure_78 <| zpc 81 rfl <| ?_
  rw [y2]
  refine zz_icmp_ge C 210 dX9_measure_81 (by decide) (fun c81 => ?_) (fun c81 => ?_)
  · rw [nI_leI (by omega) (by omega)] at c81
    omega
  · rw [nI_leI (by omega) (by omega)] at c81
    refine zz_iload_2 C dX9_measure_84 <| zz_aload_0 C dX9_measure_85 <| zz_getR C fX9_18 (tX_K_ways hX) (tX_R_oneEnd hX) dX9_measure_86 <| zz_iload_5 C dX9_measure_89 <| zc_iaload C _ (tX_K_oneEnd hX) (znI (by omega)) (by omega) dX9_measure_91 <| zpc 92 rfl <| ?_
    rw [z2]
    refine zz_iadd C dX9_measure_92 <| zpc 93 rfl <| ?_
    rw [nI_add]
    refine zz_istore_6 C (zle rfl) rfl dX9_measure_93 <| zz_iload_2 C dX9_measure_95 <| zz_aload_0 C dX9_measure_96 <| zz_getR C fX9_21 (tX_K_ways hX) (tX_R_otherEnd hX) dX9_measure_97 <| zz_iload_5 C dX9_measure_100 <| zc_iaload C _ (tX_K_otherEnd hX) (znI (by omega)) (by omega) dX9_measure_102 <| zpc 103 rfl <| ?_
    rw [z3]
    refine zz_iadd C dX9_measure_103 <| zpc 104 rfl <| ?_
    rw [nI_add]
    refine zz_istore_7 C (zle rfl) rfl dX9_measure_104 <| zz_aload_0 C dX9_measure_106 <| zz_getR C fX9_24 (tX_K_ways hX) (tX_R_minutesOf hX) dX9_measure_107 <| zz_iload_5 C dX9_measure_110 <| zc_iaload C _ (tX_K_minutesOf hX) (znI (by omega)) (by omega) dX9_measure_112 <| zpc 113 rfl <| ?_
    rw [z4]
    refine zz_aload_0 C dX9_measure_113 <| zz_getR C fX9_27 (tX_K_ways hX) (tX_R_tollOf hX) dX9_measure_114 <| zz_iload_5 C dX9_measure_117 <| zc_iaload C _ (tX_K_tollOf hX) (znI (by omega)) (by omega) dX9_measure_119 <| zpc 120 rfl <| ?_
    rw [z5]
    refine zz_iadd C dX9_measure_120 <| zpc 121 rfl <| ?_
    rw [eco]
    refine zz_istore_8 C (zle rfl) rfl dX9_measure_121 <| zz_aload_0 C dX9_measure_123 <| zz_getR C fX9_30 (tX_K_ways hX) (tX_R_distance hX) dX9_measure_124 <| zz_iload_6 C dX9_measure_127 <| zc_iaload C _ (tX_K_distance hX) (znI (by omega)) (by omega) dX9_measure_129 <| zpc 130 rfl <| ?_
    rw [r0]
    refine zz_iload_8 C dX9_measure_130 <| zz_iadd C dX9_measure_132 <| zpc 133 rfl <| ?_
    rw [nI_add]
    refine zz_aload_0 C dX9_measure_133 <| zz_getR C fX9_30 (tX_K_ways hX) (tX_R_distance hX) dX9_measure_134 <| zz_iload_7 C dX9_measure_137 <| zc_iaload C _ (tX_K_distance hX) (znI (by omega)) (by omega) dX9_measure_139 <| zpc 140 rfl <| ?_
    rw [r1]
    refine zz_icmp_ge C 165 dX9_measure_140 (by decide) (fun c140 => ?_) (fun c140 => ?_)
    · rw [nI_leI (by omega) (by omega)] at c140
      refine zz_aload_0 C dX9_measure_165 <| zz_getR C fX9_30 (tX_K_ways hX) (tX_R_distance hX) dX9_measure_166 <| zz_iload_7 C dX9_measure_169 <| zc_iaload C _ (tX_K_distance hX) (znI (by omega)) (by omega) dX9_measure_171 <| zpc 172 rfl <| ?_
      rw [r1]
      refine zz_iload_8 C dX9_measure_172 <| zz_iadd C dX9_measure_174 <| zpc 175 rfl <| ?_
      rw [nI_add]
      refine zz_aload_0 C dX9_measure_175 <| zz_getR C fX9_30 (tX_K_ways hX) (tX_R_distance hX) dX9_measure_176 <| zz_iload_6 C dX9_measure_179 <| zc_iaload C _ (tX_K_distance hX) (znI (by omega)) (by omega) dX9_measure_181 <| zpc 182 rfl <| ?_
      rw [r0]
      refine zz_icmp_ge C 204 dX9_measure_182 (by decide) (fun c182 => ?_) (fun c182 => ?_)
      · rw [nI_leI (by omega) (by omega)] at c182
        refine zz_iinc_5 C _ (zle rfl) rfl dX9_measure_204 nI_s <| zz_goto C 75 dX9_measure_207 (by decide) <| zpc 75 rfl <| ?_
        first
        | exact kont _ d _ _ _ _ am hr hT (fun p _ => Nat.le_refl _) ⟨by omega, by omega⟩ (Or.inl ⟨rfl, rfl⟩)
        | (have hlt : d (F k 1) + nCo tl F w k < d (F k 0) := by omega
           refine kont _ (nUp d (F k 0) (d (F k 1) + nCo tl F w k)) _ _ _ _ (am.up (by omega)) (hr.up _ _) (dTight_up hE hT hk ho (Or.inr ⟨rfl, rfl⟩) hlt) (fun p _ => ?_) ⟨?_, ?_⟩ (Or.inr rfl)
           · unfold nUp; split
             · rename_i z; rw [z]; omega
             · omega
           · unfold nUp; rw [if_neg (by omega)]; omega
           · unfold nUp; rw [if_pos rfl]; omega)
        | (have hlt : d (F k 0) + nCo tl F w k < d (F k 1) := by omega
           refine kont _ (nUp d (F k 1) (d (F k 0) + nCo tl F w k)) _ _ _ _ (am.up (by omega)) (hr.up _ _) (dTight_up hE hT hk ho (Or.inl ⟨rfl, rfl⟩) hlt) (fun p _ => ?_) ⟨?_, ?_⟩ (Or.inr rfl)
           · unfold nUp; split
             · rename_i z; rw [z]; omega
             · omega
           · unfold nUp; rw [if_pos rfl]; omega
           · unfold nUp; rw [if_neg (by omega)]; omega)
      · rw [nI_leI (by omega) (by omega)] at c182
        refine zz_aload_0 C dX9_measure_185 <| zz_getR C fX9_30 (tX_K_ways hX) (tX_R_distance hX) dX9_measure_186 <| zz_iload_6 C dX9_measure_189 <| zz_aload_0 C dX9_measure_191 <| zz_getR C fX9_30 (tX_K_ways hX) (tX_R_distance hX) dX9_measure_192 <| zz_iload_7 C dX9_measure_195 <| zc_iaload C _ (tX_K_distance hX) (znI (by omega)) (by omega) dX9_measure_197 <| zpc 198 rfl <| ?_
        rw [r1]
        refine zz_iload_8 C dX9_measure_198 <| zz_iadd C dX9_measure_200 <| zpc 201 rfl <| ?_
        rw [nI_add]
        refine zc_iastore C _ (tX_K_distance hX) (znI (by omega)) (by omega) dX9_measure_201 <| zz_iconst_1 C dX9_measure_202 <| zz_istore_3 C (zle rfl) rfl dX9_measure_203 <| zz_iinc_5 C _ (zle rfl) rfl dX9_measure_204 nI_s <| zz_goto C 75 dX9_measure_207 (by decide) <| zpc 75 rfl <| ?_
        first
        | exact kont _ d _ _ _ _ am hr hT (fun p _ => Nat.le_refl _) ⟨by omega, by omega⟩ (Or.inl ⟨rfl, rfl⟩)
        | (have hlt : d (F k 1) + nCo tl F w k < d (F k 0) := by omega
           refine kont _ (nUp d (F k 0) (d (F k 1) + nCo tl F w k)) _ _ _ _ (am.up (by omega)) (hr.up _ _) (dTight_up hE hT hk ho (Or.inr ⟨rfl, rfl⟩) hlt) (fun p _ => ?_) ⟨?_, ?_⟩ (Or.inr rfl)
           · unfold nUp; split
             · rename_i z; rw [z]; omega
             · omega
           · unfold nUp; rw [if_neg (by omega)]; omega
           · unfold nUp; rw [if_pos rfl]; omega)
        | (have hlt : d (F k 0) + nCo tl F w k < d (F k 1) := by omega
           refine kont _ (nUp d (F k 1) (d (F k 0) + nCo tl F w k)) _ _ _ _ (am.up (by omega)) (hr.up _ _) (dTight_up hE hT hk ho (Or.inl ⟨rfl, rfl⟩) hlt) (fun p _ => ?_) ⟨?_, ?_⟩ (Or.inr rfl)
           · unfold nUp; split
             · rename_i z; rw [z]; omega
             · omega
           · unfold nUp; rw [if_pos rfl]; omega
           · unfold nUp; rw [if_neg (by omega)]; omega)
    · rw [nI_leI (by omega) (by omega)] at c140
      refine zz_aload_0 C dX9_measure_143 <| zz_getR C fX9_30 (tX_K_ways hX) (tX_R_distance hX) dX9_measure_144 <| zz_iload_7 C dX9_measure_147 <| zz_aload_0 C dX9_measure_149 <| zz_getR C fX9_30 (tX_K_ways hX) (tX_R_distance hX) dX9_measure_150 <| zz_iload_6 C dX9_measure_153 <| zc_iaload C _ (tX_K_distance hX) (znI (by omega)) (by omega) dX9_measure_155 <| zpc 156 rfl <| ?_
      rw [r0]
      refine zz_iload_8 C dX9_measure_156 <| zz_iadd C dX9_measure_158 <| zpc 159 rfl <| ?_
      rw [nI_add]
      refine zc_iastore C _ (tX_K_distance hX) (znI (by omega)) (by omega) dX9_measure_159 <| zz_iconst_1 C dX9_measure_160 <| zz_istore_3 C (zle rfl) rfl dX9_measure_161 <| zz_goto C 204 dX9_measure_162 (by decide) <| zz_iinc_5 C _ (zle rfl) rfl dX9_measure_204 nI_s <| zz_goto C 75 dX9_measure_207 (by decide) <| zpc 75 rfl <| ?_
      first
      | exact kont _ d _ _ _ _ am hr hT (fun p _ => Nat.le_refl _) ⟨by omega, by omega⟩ (Or.inl ⟨rfl, rfl⟩)
      | (have hlt : d (F k 1) + nCo tl F w k < d (F k 0) := by omega
         refine kont _ (nUp d (F k 0) (d (F k 1) + nCo tl F w k)) _ _ _ _ (am.up (by omega)) (hr.up _ _) (dTight_up hE hT hk ho (Or.inr ⟨rfl, rfl⟩) hlt) (fun p _ => ?_) ⟨?_, ?_⟩ (Or.inr rfl)
         · unfold nUp; split
           · rename_i z; rw [z]; omega
           · omega
         · unfold nUp; rw [if_neg (by omega)]; omega
         · unfold nUp; rw [if_pos rfl]; omega)
      | (have hlt : d (F k 0) + nCo tl F w k < d (F k 1) := by omega
         refine kont _ (nUp d (F k 1) (d (F k 0) + nCo tl F w k)) _ _ _ _ (am.up (by omega)) (hr.up _ _) (dTight_up hE hT hk ho (Or.inl ⟨rfl, rfl⟩) hlt) (fun p _ => ?_) ⟨?_, ?_⟩ (Or.inr rfl)
         · unfold nUp; split
           · rename_i z; rw [z]; omega
           · omega
         · unfold nUp; rw [if_pos rfl]; omega
         · unfold nUp; rw [if_neg (by omega)]; omega)
/-- a turn through all roads -/
theorem l9_turn (hX : zTX t a c e) (hN : nOk P n tl F w) (hto : to < P) (hy : cWy h P tl (usL s F w n) F w) (C : zCx E b G RX9 cX9_measure 9 none) {v4 : Nat} (hF' : dF n tl s F w d') (hT' : dT P n tl s F w to d') {d0 : Nat → Nat} {m : Nat} (hI : bfI P cFar d' d0 m)
    (kont : ∀ (hc : zH) (d : Nat → Nat) (v3 : Int32) (x5 x6 x7 x8 : Option Value), cAm to h hc → cRow hc P to d → dT P n tl s F w to d → bfI P cFar d' d (m + 1) → (v3 = 0 ∧ dF n tl s F w d ∨ v3 = 1) → zAW E b G 9 0 0 210 [some (.ref (b + 74)), some (.int (nI to)), some (.int (nI (to * 12))), some (.int v3), some (.int (nI v4)), x5, x6, x7, x8] [] t hc) :
    ∀ q, q ≤ (usL s F w n).length → ∀ (hc : zH) (d : Nat → Nat) (v3 : Int32) (x6 x7 x8 : Option Value), cAm to h hc → cRow hc P to d → dT P n tl s F w to d → (∀ p, p < P → d p ≤ d0 p) → (∀ r, r < q → bfJ P cFar (fun k => F k 0) (fun k => F k 1) (nCo tl F w) d' d m ((usL s F w n).getD r 0)) → (v3 = 0 ∧ d = d0 ∧ (∀ r, r < q → d (F ((usL s F w n).getD r 0) 1) ≤ d (F ((usL s F w n).getD r 0) 0) + nCo tl F w ((usL s F w n).getD r 0) ∧ d (F ((usL s F w n).getD r 0) 0) ≤ d (F ((usL s F w n).getD r 0) 1) + nCo tl F w ((usL s F w n).getD r 0)) ∨ v3 = 1) → zAW E b G 9 0 0 75 [some (.ref (b + 74)), some (.int (nI to)), some (.int (nI (to * 12))), some (.int v3), some (.int (nI v4)), some (.int (nI q)), x6, x7, x8] [] t hc := by
  have hE := nEnds (s := s) hN
  have hul := usL_len s F w n
  have hn := hN.2.2.1
  refine zLoop (usL s F w n).length fun q hq ih hc d v3 x6 x7 x8 am hr hT hle hJ hv => ?_
  by_cases hq2 : q < (usL s F w n).length
  · refine l9_edge hX hN hto hy C hq2 am hr hT ?_
    intro hc2 d2 v' y6 y7 y8 am2 hr2 hT2 hle2 hed hv2
    obtain ⟨hk, ho⟩ := usL_at hq2
    obtain ⟨e1, e2, -⟩ := hE _ hk ho
    have hId : bfI P cFar d' d m := hI.le hle
    refine ih hq2 hc2 d2 v' y6 y7 y8 am2 hr2 hT2 (fun p hp => Nat.le_trans (hle2 p hp) (hle p hp)) (fun r hr3 => ?_) ?_
    · by_cases hrq : r = q
      · subst hrq
        refine ⟨fun h1 h2 => Nat.le_trans hed.1 ?_, fun h1 h2 => Nat.le_trans hed.2 ?_⟩
        · have z := hId _ e1 h1 h2
          dsimp only at z ⊢
          omega
        · have z := hId _ e2 h1 h2
          dsimp only at z ⊢
          omega
      · obtain ⟨hk3, ho3⟩ := usL_at (s := s) (F := F) (w := w) (n := n) (q := r) (by omega)
        obtain ⟨f1, f2, -⟩ := hE _ hk3 ho3
        exact (hJ r (by omega)).le f1 f2 hle2
    · rcases hv2 with ⟨rfl, rfl⟩ | h1
      · rcases hv with ⟨rfl, rfl, hh⟩ | rfl
        · refine Or.inl ⟨rfl, rfl, fun r hr3 => ?_⟩
          by_cases hrq : r = q
          · subst hrq; exact hed
          · exact hh r (by omega)
        · exact Or.inr rfl
      · exact Or.inr h1
  · obtain ⟨⟨y1, y2⟩, -⟩ := am.wy hy
    refine zz_iload_5 C dX9_measure_75 <| zz_aload_0 C dX9_measure_77 <| zz_getI C fX9_40 (tX_K_ways hX) dX9_measure_78 <| zpc 81 rfl <| ?_
    rw [y2]
    refine zz_icmp_ge C 210 dX9_measure_81 (by decide) (fun c81 => ?_) (fun c81 => ?_)
    · rw [nI_leI (by omega) (by omega)] at c81
      refine kont hc d v3 _ _ _ _ am hr hT (bfI_s hE hT' hT.1 (fun k hk ho => ?_)) ?_
      · obtain ⟨r, hr3, er⟩ := usL_ix (s := s) (F := F) (w := w) hk ho
        have := hJ r (by omega)
        rw [er] at this
        exact this
      · rcases hv with ⟨h1, -, hh⟩ | h1
        · refine Or.inl ⟨h1, fun k hk ho => ?_⟩
          obtain ⟨r, hr3, er⟩ := usL_ix (s := s) (F := F) (w := w) hk ho
          have := hh r (by omega)
          rw [er] at this
          exact this
        · exact Or.inr h1
    · rw [nI_leI (by omega) (by omega)] at c81
      omega
/-- turn by turn -/
theorem l9_turns (hX : zTX t a c e) (hN : nOk P n tl F w) (hto : to < P) (hy : cWy h P tl (usL s F w n) F w) (C : zCx E b G RX9 cX9_measure 9 none) (hF' : dF n tl s F w d') (hT' : dT P n tl s F w to d')
    (kont : ∀ (hc : zH) (d : Nat → Nat) (x3 x4 x5 x6 x7 x8 : Option Value), cAm to h hc → cRow hc P to d → dT P n tl s F w to d → dF n tl s F w d → zAW E b G 9 0 0 216 [some (.ref (b + 74)), some (.int (nI to)), some (.int (nI (to * 12))), x3, x4, x5, x6, x7, x8] [] t hc) :
    ∀ m, m ≤ P → ∀ (hc : zH) (d : Nat → Nat) (v3 : Int32) (x5 x6 x7 x8 : Option Value), cAm to h hc → cRow hc P to d → dT P n tl s F w to d → bfI P cFar d' d m → (v3 = 0 ∧ dF n tl s F w d ∨ v3 = 1) → zAW E b G 9 0 0 57 [some (.ref (b + 74)), some (.int (nI to)), some (.int (nI (to * 12))), some (.int v3), some (.int (nI m)), x5, x6, x7, x8] [] t hc := by
  have hE := nEnds (s := s) hN
  have hP := hN.2.1
  refine zLoop P fun m hm ih hc d v3 x5 x6 x7 x8 am hr hT hI hv => ?_
  obtain ⟨⟨y1, y2⟩, -⟩ := am.wy hy
  have s210 : m < P → ∀ (hc2 : zH) (d2 : Nat → Nat) (v2 : Int32) (z5 z6 z7 z8 : Option Value), cAm to h hc2 → cRow hc2 P to d2 → dT P n tl s F w to d2 → bfI P cFar d' d2 (m + 1) → (v2 = 0 ∧ dF n tl s F w d2 ∨ v2 = 1) → zAW E b G 9 0 0 210 [some (.ref (b + 74)), some (.int (nI to)), some (.int (nI (to * 12))), some (.int v2), some (.int (nI m)), z5, z6, z7, z8] [] t hc2 := by
    intro hmP hc2 d2 v2 z5 z6 z7 z8 am2 hr2 hT2 hI2 hv2
    refine zz_iinc_4 C _ (zle rfl) rfl dX9_measure_210 nI_s <| zz_goto C 57 dX9_measure_213 (by decide) <| zpc 57 rfl <| ?_
    exact ih (by omega) hc2 d2 v2 _ _ _ _ am2 hr2 hT2 hI2 hv2
  refine zz_iload_4 C dX9_measure_57 <| zz_aload_0 C dX9_measure_59 <| zz_getI C fX9_39 (tX_K_ways hX) dX9_measure_60 <| zpc 63 rfl <| ?_
  rw [y1]
  refine zz_icmp_ge C 216 dX9_measure_63 (by decide) (fun c63 => ?_) (fun c63 => ?_)
  · rw [nI_leI (by omega) (by omega)] at c63
    first
    | exact kont hc d _ _ _ _ _ _ am hr hT (bf_done hE hF' hT' hT hI (by omega))
    | (rcases hv with ⟨-, hv⟩ | rfl
       · exact kont hc d _ _ _ _ _ _ am hr hT hv
       · exact absurd c67 (by decide))
  · rw [nI_leI (by omega) (by omega)] at c63
    refine zz_iload_3 C dX9_measure_66 <| zpc 67 rfl <| ?_
    refine zz_if_eq C 216 dX9_measure_67 (by decide) (fun c67 => ?_) (fun c67 => ?_)
    · first
      | exact kont hc d _ _ _ _ _ _ am hr hT (bf_done hE hF' hT' hT hI (by omega))
      | (rcases hv with ⟨-, hv⟩ | rfl
         · exact kont hc d _ _ _ _ _ _ am hr hT hv
         · exact absurd c67 (by decide))
    · refine zz_iconst_0 C dX9_measure_70 <| zz_istore_3 C (zle rfl) rfl dX9_measure_71 <| zz_iconst_0 C dX9_measure_72 <| zz_istore_5 C (zle rfl) rfl dX9_measure_73 <| zpc 75 rfl <| ?_
      exact l9_turn hX hN hto hy C hF' hT' hI (s210 (by omega)) 0 (by omega) hc d 0 _ _ _ am hr hT (fun p _ => Nat.le_refl _) (fun r hr => absurd hr (by omega)) (Or.inl ⟨rfl, rfl, fun r hr => absurd hr (by omega)⟩)
theorem c9_measure (hX : zTX t a c e) (hN : nOk P n tl F w) (hto : to < P) {ms : Nat} (hy : cWy h P tl (usL s F w n) F w) (hms : cMs h ms P n tl s F w) : zMet E b l yX9_measure cX9_measure 9 none 1 0 0 [.ref (b + 74), .int (nI to)] t h (qV (fun t' h' => t' = t ∧ cAm to (zsI h 74 12 (nI (ms ||| 2 ^ to))) h' ∧ cMs h' (ms ||| 2 ^ to) P n tl s F w)) := by
  have hEd := nEnds (s := s) hN
  have hP := hN.2.1
  obtain ⟨d', hF', hT'⟩ := bf_ex (to := to) (far := cFar) hEd _ (dStart to cFar) (Nat.lt_succ_self _) dTight_s
  have h12 : (12 : Int32) = nI 12 := rfl
  have hpow : 2 ^ to ≤ 2 ^ 11 := Nat.pow_le_pow_right (by decide) (by omega)
  have hor : ms ||| 2 ^ to < 2 ^ 12 := Nat.or_lt_two_pow hms.1.2 (by omega)
  refine zMet.of (ls := [some (.ref (b + 74)), some (.int (nI to)), none, none, none, none, none, none, none]) (by decide) (zle rfl) 7 rfl ?_
  intro G hlG C hR hE hin
  have fin : ∀ (hc : zH) (d : Nat → Nat) (x3 x4 x5 x6 x7 x8 : Option Value), cAm to (zsI h 74 12 (nI (ms ||| 2 ^ to))) hc → cRow hc P to d → dT P n tl s F w to d → dF n tl s F w d → zAW E b G 9 0 0 216 [some (.ref (b + 74)), some (.int (nI to)), some (.int (nI (to * 12))), x3, x4, x5, x6, x7, x8] [] t hc := by
    intro hc d x3 x4 x5 x6 x7 x8 am hr hT hF
    have h12' : zI hc 74 12 = nI (ms ||| 2 ^ to) := by rw [am.1 _ _ (by omega), zI_self]
    refine zy_return C hE (zle rfl) (zle rfl) dX9_measure_216 ?_
    refine ⟨rfl, am, ⟨h12', hor⟩, fun q hq hb => ?_⟩
    by_cases hqt : q = to
    · subst hqt; exact ⟨d, hr, hT, hF⟩
    · rcases bit_or.mp hb with hb | hb
      · obtain ⟨dd, k1, k2, k3⟩ := hms.2 q hq hb
        refine ⟨dd, fun p hp => ?_, k2, k3⟩
        rw [am.1 _ _ (by omega), zI_sI, if_neg (by omega)]; exact k1 p hp
      · exact absurd hb hqt
  have lp : ∀ p, p ≤ P → ∀ hc : zH, (∀ i k, ¬ (i = 81 ∧ to * 12 ≤ k ∧ k < to * 12 + 12) → zI hc i k = zI h i k) → (∀ i k, zL hc i k = zL h i k) → (∀ q, q < p → zI hc 81 (to * 12 + q) = nI cFar) → zAW E b G 9 0 0 7 [some (.ref (b + 74)), some (.int (nI to)), some (.int (nI (to * 12))), some (.int (nI p)), none, none, none, none, none] [] t hc := by
    refine zLoop P fun p hp ih hc e1 e2 e3 => ?_
    have y1 : zI hc 74 11 = nI P := by rw [e1 _ _ (by omega)]; exact hy.1.1
    have ym : ∀ v, zI (zsI hc 81 (to * 12 + to) v) 74 12 = nI ms := fun v => by rw [zI_sI, if_neg (by omega), e1 _ _ (by omega)]; exact hms.1.1
    refine zz_iload_3 C dX9_measure_7 <| zz_aload_0 C dX9_measure_8 <| zz_getI C fX9_39 (tX_K_ways hX) dX9_measure_9 <| zpc 12 rfl <| ?_
    rw [y1]
    refine zz_icmp_ge C 31 dX9_measure_12 (by decide) (fun c12 => ?_) (fun c12 => ?_)
    · rw [nI_leI (by omega) (by omega)] at c12
      refine zz_aload_0 C dX9_measure_31 <| zz_getR C fX9_30 (tX_K_ways hX) (tX_R_distance hX) dX9_measure_32 <| zz_iload_2 C dX9_measure_35 <| zz_iload_1 C dX9_measure_36 <| zz_iadd C dX9_measure_37 <| zpc 38 rfl <| ?_
      rw [nI_add]
      refine zz_iconst_0 C dX9_measure_38 <| zc_iastore C _ (tX_K_distance hX) (znI (by omega)) (by omega) dX9_measure_39 <| zz_aload_0 C dX9_measure_40 <| zz_dup C dX9_measure_41 rfl <| zz_getI C fX9_43 (tX_K_ways hX) dX9_measure_42 <| zpc 45 rfl <| ?_
      rw [ym]
      refine zz_iconst_1 C dX9_measure_45 <| zz_iload_1 C dX9_measure_46 <| zz_ishl C dX9_measure_47 <| zpc 48 rfl <| ?_
      rw [zshl1 (by omega)]
      refine zz_ior C dX9_measure_48 <| zpc 49 rfl <| ?_
      rw [nI_or (by have := hms.1.2; omega) (by omega)]
      refine zy_putI C fX9_43 pX9_12 (tX_K_ways hX) dX9_measure_49 <| zz_iconst_1 C dX9_measure_52 <| zz_istore_3 C (zle rfl) rfl dX9_measure_53 <| zz_iconst_0 C dX9_measure_54 <| zz_istore_4 C (zle rfl) rfl dX9_measure_55 <| zpc 57 rfl <| ?_
      refine l9_turns (h := zsI h 74 12 (nI (ms ||| 2 ^ to))) (d' := d') (P := P) (tl := tl) (s := s) (F := F) (w := w) (n := n) hX hN hto ?_ C hF' hT' ?_ 0 (by omega) _ (dStart to cFar) _ _ _ _ _ ?_ ?_ dTight_s (bfI_0 hEd hto hT' (if_pos rfl)) (Or.inr rfl)
      · obtain ⟨⟨y1, y2⟩, y3⟩ := hy
        refine ⟨⟨by rw [zI_sI, if_neg (by omega)]; exact y1, by rw [zI_sI, if_neg (by omega)]; exact y2⟩, fun q hq => ?_⟩
        rw [zI_sI, if_neg (by omega), zI_sI, if_neg (by omega), zI_sI, if_neg (by omega), zI_sI, if_neg (by omega), zI_sI, if_neg (by omega)]
        exact y3 q hq
      · exact fin
      · refine ⟨fun i k h1 => ?_, e2⟩
        rw [zI_sI, zI_sI h]
        by_cases z : i = 74 ∧ k = 12
        · rw [if_pos z, if_pos z]
        · rw [if_neg z, zI_sI, if_neg (by omega), if_neg z]; exact e1 i k h1
      · intro q hq
        rw [zI_sI, if_neg (by omega), zI_sI]
        unfold dStart
        by_cases z : q = to
        · rw [if_pos ⟨rfl, by omega⟩, if_pos z]; rfl
        · rw [if_neg (by omega), if_neg z]; exact e3 q (by omega)
    · rw [nI_leI (by omega) (by omega)] at c12
      refine zz_aload_0 C dX9_measure_15 <| zz_getR C fX9_30 (tX_K_ways hX) (tX_R_distance hX) dX9_measure_16 <| zz_iload_2 C dX9_measure_19 <| zz_iload_3 C dX9_measure_20 <| zz_iadd C dX9_measure_21 <| zpc 22 rfl <| ?_
      rw [nI_add]
      refine zz_ldc C dX9_measure_22 kX9_80 <| zc_iastore C _ (tX_K_distance hX) (znI (by omega)) (by omega) dX9_measure_24 <| zz_iinc_3 C _ (zle rfl) rfl dX9_measure_25 nI_s <| zz_goto C 7 dX9_measure_28 (by decide) <| zpc 7 rfl <| ?_
      refine ih (by omega) _ (fun i k h1 => ?_) e2 (fun q hq => ?_)
      · rw [zI_sI, if_neg (by omega)]; exact e1 i k h1
      · rw [zI_sI]
        by_cases z : q = p
        · rw [if_pos ⟨rfl, by omega⟩]; rfl
        · rw [if_neg (by omega)]; exact e3 q (by omega)
  refine zz_iload_1 C dX9_measure_0 <| zz_bipush C 12 dX9_measure_1 (by decide) <| zz_imul C dX9_measure_3 <| zpc 4 rfl <| ?_
  rw [h12, pk_mul]
  refine zz_istore_2 C (zle rfl) rfl dX9_measure_4 <| zz_iconst_0 C dX9_measure_5 <| zz_istore_3 C (zle rfl) rfl dX9_measure_6 <| zpc 7 rfl <| ?_
  exact lp 0 (by omega) h (fun _ _ _ => rfl) (fun _ _ => rfl) (fun q hq => absurd hq (by omega))
end CM
