/-! ===== the class: Ways, the look round ===== -/
abbrev cFar : Nat := 1000000
/-- the roads that may be gone along, as the class has them in a row -/
def cWy (h : zH) (P tl : Nat) (u : List Nat) (F : Nat → Nat → Nat) (w : Nat → Nat) : Prop := (zI h 74 11 = nI P ∧ zI h 74 10 = nI u.length) ∧ ∀ q, q < u.length → zI h 76 q = nI (u.getD q 0) ∧ zI h 77 q = nI (F (u.getD q 0) 0) ∧ zI h 78 q = nI (F (u.getD q 0) 1) ∧ zI h 79 q = nI (nMi F w (u.getD q 0)) ∧ zI h 80 q = nI (tl * w (u.getD q 0))
theorem cWy.snoc {h : zH} {P tl k : Nat} {u : List Nat} {F : Nat → Nat → Nat} {w : Nat → Nat} (hm : cWy h P tl u F w) : cWy (zsI (zsI (zsI (zsI (zsI (zsI h 76 u.length (nI k)) 77 u.length (nI (F k 0))) 78 u.length (nI (F k 1))) 79 u.length (nI (nMi F w k))) 80 u.length (nI (tl * w k))) 74 10 (nI (u.length + 1))) P tl (u ++ [k]) F w := by
  obtain ⟨⟨h1, h2⟩, h3⟩ := hm
  refine ⟨⟨?_, ?_⟩, fun q hq => ?_⟩
  · simp only [zI_sI]; simpa using h1
  · simp only [zI_sI]; simp
  · rw [List.length_append, List.length_singleton] at hq
    by_cases hq2 : q = u.length
    · subst hq2
      have e : (u ++ [k]).getD u.length 0 = k := by simp
      rw [e]
      simp only [zI_sI]
      simp
    · have e : (u ++ [k]).getD q 0 = u.getD q 0 := by
        rw [List.getD_eq_getElem?_getD, List.getD_eq_getElem?_getD, List.getElem?_append_left (by omega)]
      rw [e]
      simp only [zI_sI]
      simpa [hq2] using h3 q (by omega)
section CW
variable {E : zE} {b : Nat} {G : zG} {t : zT} {h : zH} {l : Launch} {i j n n0 P tl s : Nat} {ex : Option Nat} {A : yN} {w : Nat → Nat} {a c e : Nat}
theorem c9_lookRound (hX : zTX t a c e) (hL : zTL t i) (hS : zTS t j) (hi : i + 31 < 74) (hj : j + 3 < 74 ∨ 81 < j) (hN : nOk P A.1.1 A.1.2.1 A.2 w) (hP : zI h i 0 = nI P) (hn0 : zI h i 1 = nI n0) (hrd : cRd h i n0 ex A) (hw : ∀ k, k < A.1.1 → zI h (j + 1) k = nI (w k)) (htl : zI h 82 0 = nI A.1.2.1) (hex : zI h 82 5 = oI ex) (hs : s < 2 ^ 31) : zMet E b l yX9_lookRound cX9_lookRound 9 none 2 0 0 [.ref (b + 74), .ref (b + i), .ref (b + j), .ref (b + 82), .int (nI s)] t h (qV (fun t' h' => t' = t ∧ cAg 74 81 h h' ∧ cWy h' P A.1.2.1 (usL s A.2 w A.1.1) A.2 w ∧ zI h' 74 12 = nI 0)) := by
  have hx := hrd.1.2.2
  have h10 := hrd.1.1
  have hnn := hrd.1.2.1
  have hn11 := hN.2.2.1
  refine zMet.of (ls := [some (.ref (b + 74)), some (.ref (b + i)), some (.ref (b + j)), some (.ref (b + 82)), some (.int (nI s)), none, none, none, none]) (by decide) (zle rfl) 4 rfl ?_
  intro G hlG C hR hE hin
  have lp : ∀ k, k ≤ A.1.1 → ∀ (hc : zH) (x7 x8 : Option Value), cAg 74 81 h hc → cWy hc P A.1.2.1 (usL s A.2 w k) A.2 w → zI hc 74 12 = nI 0 → zAW E b G 9 0 0 31 [some (.ref (b + 74)), some (.ref (b + i)), some (.ref (b + j)), some (.ref (b + 82)), some (.int (nI s)), some (.int (nI (n0 + exN ex))), some (.int (nI k)), x7, x8] [] t hc := by
    refine zLoop A.1.1 fun k hk ih hc x7 x8 ag hy hz => ?_
    have hxe : zI hc 82 5 = oI ex := by rw [ag.1 _ _ (by omega)]; exact hex
    have hxt : zI hc 82 0 = nI A.1.2.1 := by rw [ag.1 _ _ (by omega)]; exact htl
    have hcn : zI hc i 1 = nI n0 := by rw [ag.1 _ _ (by omega)]; exact hn0
    have hul := usL_len s A.2 w k
    have hus := hy.1.2
    refine zz_iload_6 C dX9_lookRound_31 <| zz_iload_5 C dX9_lookRound_33 <| zpc 35 rfl <| ?_
    refine zz_icmp_ge C 178 dX9_lookRound_35 (by decide) (fun c35 => ?_) (fun c35 => ?_)
    · rw [nI_leI (by omega) (by omega)] at c35
      refine zy_return C hE (zle rfl) (zle rfl) dX9_lookRound_178 ?_
      refine ⟨rfl, ag, ?_, hz⟩
      rw [show A.1.1 = k by omega]; exact hy
    · rw [nI_leI (by omega) (by omega)] at c35
      refine zz_iload_6 C dX9_lookRound_38 <| zz_aload_0 C dX9_lookRound_40 <| zz_getR C fX9_15 (tX_K_ways hX) (tX_R_number hX) dX9_lookRound_41 <| zz_alenI C (tX_K_number hX) dX9_lookRound_44 <| zpc 45 rfl <| ?_
      refine zz_icmp_ge C 178 dX9_lookRound_45 (by decide) (fun c45 => ?_) (fun c45 => ?_)
      · rw [show Int32.ofNat 11 = nI 11 from rfl, nI_leI (by omega) (by omega)] at c45
        omega
      · rw [show Int32.ofNat 11 = nI 11 from rfl, nI_leI (by omega) (by omega)] at c45
        refine zz_aload_1 C dX9_lookRound_48 <| zz_iload_6 C dX9_lookRound_49 <| zz_aload_3 C dX9_lookRound_51 <| zz_getI C fX9_46 (tX_K_plan hX) dX9_lookRound_52 <| zpc 55 rfl <| ?_
        rw [hxe]
        refine zy_callVR C hR [_, _] (c1_factsWith hL hx h10 hcn k (by omega)) lX9_55 rfl (tL_K hL) (by decide) rfl ⟨zle rfl, zle rfl, zle rfl, zle rfl⟩ (zle rfl) dX9_lookRound_55 ?_
        intro r7 t7 h7 p7; obtain ⟨rfl, rfl, rfl⟩ := p7; have hkA : k < A.1.1 := (by omega); have hrl := rid_lt (i := i) h10 hx (show k < n0 + exN ex by omega); have hK7 : zK t7 (rid i n0 ex k) = (12, 5) := (by have := tL_KR_roadFacts hL (rid i n0 ex k - (i + 2)) (by omega); rw [show i + 1 + 1 + (rid i n0 ex k - (i + 2)) = rid i n0 ex k by omega] at this; exact this); have hf : ∀ q, q < 5 → zI h7 (rid i n0 ex k) q = nI (A.2 k q) := (fun q hq => by rw [ag.1 _ _ (by omega)]; exact hrd.2 k hkA q hq); have hwk : zI h7 (j + 1) k = nI (w k) := (by rw [ag.1 _ _ (by omega)]; exact hw k hkA); have hbk := hN.2.2.2.2 k hkA
        refine zz_astore_7 C (zle rfl) rfl dX9_lookRound_58 <| zz_aload_2 C dX9_lookRound_60 <| zz_getR C fX9_59 (tS_K hS) (tS_R_wear hS) dX9_lookRound_61 <| zz_iload_6 C dX9_lookRound_64 <| zc_iaload C _ (tS_K_wear hS) (znI (by omega)) (by omega) dX9_lookRound_66 <| zpc 67 rfl <| ?_
        rw [hwk]
        refine zz_istore_8 C (zle rfl) rfl dX9_lookRound_67 <| zz_iload_4 C dX9_lookRound_69 <| zz_iload_6 C dX9_lookRound_71 <| zz_ishr C dX9_lookRound_73 <| zz_iconst_1 C dX9_lookRound_74 <| zpc 75 rfl <| ?_
        skip
        refine zz_iand C dX9_lookRound_75 <| zpc 76 rfl <| ?_
        rw [zbit hs (by omega)]
        refine zz_if_ne C 172 dX9_lookRound_76 (by decide) (fun c76 => ?_) (fun c76 => ?_)
        · rw [show (0 : Int32) = nI 0 from rfl, nI_eq (by omega) (by omega)] at c76
          refine zz_iinc_6 C _ (zle rfl) rfl dX9_lookRound_172 nI_s <| zz_goto C 31 dX9_lookRound_175 (by decide) <| zpc 31 rfl <| ?_
          first
          | exact ih (by omega) _ _ _ ag (by rw [usL_no (fun q => c76 q.1)]; exact hy) hz
          | exact ih (by omega) _ _ _ ag (by rw [usL_no (fun q => by have := q.2; omega)]; exact hy) hz
          | (refine ih (by omega) _ _ _ ((((((ag.sI (by omega) (by omega)).sI (by omega) (by omega)).sI (by omega) (by omega)).sI (by omega) (by omega)).sI (by omega) (by omega)).sI (by omega) (by omega)) ?_ ?_
             · rw [usL_yes ⟨c76, by omega⟩]; exact hy.snoc
             · simp only [zI_sI]; simpa using hz)
        · rw [show (0 : Int32) = nI 0 from rfl, nI_eq (by omega) (by omega)] at c76
          refine zz_iload_8 C dX9_lookRound_79 <| zz_aload_7 C dX9_lookRound_81 <| zz_iconst_4 C dX9_lookRound_83 <| zc_iaload C 4 hK7 (zlit _ (by decide)) (by decide) dX9_lookRound_84 <| zpc 85 rfl <| ?_
          rw [hf 4 (by omega)]
          refine zz_icmp_gt C 172 dX9_lookRound_85 (by decide) (fun c85 => ?_) (fun c85 => ?_)
          · rw [nI_ltI (by omega) (by omega)] at c85
            refine zz_iinc_6 C _ (zle rfl) rfl dX9_lookRound_172 nI_s <| zz_goto C 31 dX9_lookRound_175 (by decide) <| zpc 31 rfl <| ?_
            first
            | exact ih (by omega) _ _ _ ag (by rw [usL_no (fun q => c76 q.1)]; exact hy) hz
            | exact ih (by omega) _ _ _ ag (by rw [usL_no (fun q => by have := q.2; omega)]; exact hy) hz
            | (refine ih (by omega) _ _ _ ((((((ag.sI (by omega) (by omega)).sI (by omega) (by omega)).sI (by omega) (by omega)).sI (by omega) (by omega)).sI (by omega) (by omega)).sI (by omega) (by omega)) ?_ ?_
               · rw [usL_yes ⟨c76, by omega⟩]; exact hy.snoc
               · simp only [zI_sI]; simpa using hz)
          · rw [nI_ltI (by omega) (by omega)] at c85
            refine zz_aload_0 C dX9_lookRound_88 <| zz_getR C fX9_15 (tX_K_ways hX) (tX_R_number hX) dX9_lookRound_89 <| zz_aload_0 C dX9_lookRound_92 <| zz_getI C fX9_40 (tX_K_ways hX) dX9_lookRound_93 <| zpc 96 rfl <| ?_
            rw [hus]
            refine zz_iload_6 C dX9_lookRound_96 <| zc_iastore C _ (tX_K_number hX) (znI (by omega)) (by omega) dX9_lookRound_98 <| zz_aload_0 C dX9_lookRound_99 <| zz_getR C fX9_18 (tX_K_ways hX) (tX_R_oneEnd hX) dX9_lookRound_100 <| zz_aload_0 C dX9_lookRound_103 <| zz_getI C fX9_40 (tX_K_ways hX) dX9_lookRound_104 <| zpc 107 rfl <| ?_
            rw [zI_sI, if_neg (by omega), hus]
            refine zz_aload_7 C dX9_lookRound_107 <| zz_iconst_0 C dX9_lookRound_109 <| zc_iaload C 0 hK7 (zlit _ (by decide)) (by decide) dX9_lookRound_110 <| zpc 111 rfl <| ?_
            rw [zI_sI, if_neg (by omega), hf 0 (by omega)]
            refine zc_iastore C _ (tX_K_oneEnd hX) (znI (by omega)) (by omega) dX9_lookRound_111 <| zz_aload_0 C dX9_lookRound_112 <| zz_getR C fX9_21 (tX_K_ways hX) (tX_R_otherEnd hX) dX9_lookRound_113 <| zz_aload_0 C dX9_lookRound_116 <| zz_getI C fX9_40 (tX_K_ways hX) dX9_lookRound_117 <| zpc 120 rfl <| ?_
            rw [zI_sI, if_neg (by omega), zI_sI, if_neg (by omega), hus]
            refine zz_aload_7 C dX9_lookRound_120 <| zz_iconst_1 C dX9_lookRound_122 <| zc_iaload C 1 hK7 (zlit _ (by decide)) (by decide) dX9_lookRound_123 <| zpc 124 rfl <| ?_
            rw [zI_sI, if_neg (by omega), zI_sI, if_neg (by omega), hf 1 (by omega)]
            refine zc_iastore C _ (tX_K_otherEnd hX) (znI (by omega)) (by omega) dX9_lookRound_124 <| zz_aload_0 C dX9_lookRound_125 <| zz_getR C fX9_24 (tX_K_ways hX) (tX_R_minutesOf hX) dX9_lookRound_126 <| zz_aload_0 C dX9_lookRound_129 <| zz_getI C fX9_40 (tX_K_ways hX) dX9_lookRound_130 <| zpc 133 rfl <| ?_
            rw [zI_sI, if_neg (by omega), zI_sI, if_neg (by omega), zI_sI, if_neg (by omega), hus]
            refine zz_aload_7 C dX9_lookRound_133 <| zz_iconst_2 C dX9_lookRound_135 <| zc_iaload C 2 hK7 (zlit _ (by decide)) (by decide) dX9_lookRound_136 <| zpc 137 rfl <| ?_
            rw [zI_sI, if_neg (by omega), zI_sI, if_neg (by omega), zI_sI, if_neg (by omega), hf 2 (by omega)]
            refine zz_aload_7 C dX9_lookRound_137 <| zz_iconst_3 C dX9_lookRound_139 <| zc_iaload C 3 hK7 (zlit _ (by decide)) (by decide) dX9_lookRound_140 <| zpc 141 rfl <| ?_
            rw [zI_sI, if_neg (by omega), zI_sI, if_neg (by omega), zI_sI, if_neg (by omega), hf 3 (by omega)]
            refine zz_iload_8 C dX9_lookRound_141 <| zz_imul C dX9_lookRound_143 <| zz_iadd C dX9_lookRound_144 <| zpc 145 rfl <| ?_
            rw [pk_mul, nI_add]
            refine zc_iastore C _ (tX_K_minutesOf hX) (znI (by omega)) (by omega) dX9_lookRound_145 <| zz_aload_0 C dX9_lookRound_146 <| zz_getR C fX9_27 (tX_K_ways hX) (tX_R_tollOf hX) dX9_lookRound_147 <| zz_aload_0 C dX9_lookRound_150 <| zz_getI C fX9_40 (tX_K_ways hX) dX9_lookRound_151 <| zpc 154 rfl <| ?_
            rw [zI_sI, if_neg (by omega), zI_sI, if_neg (by omega), zI_sI, if_neg (by omega), zI_sI, if_neg (by omega), hus]
            refine zz_aload_3 C dX9_lookRound_154 <| zz_getI C fX9_64 (tX_K_plan hX) dX9_lookRound_155 <| zpc 158 rfl <| ?_
            rw [zI_sI, if_neg (by omega), zI_sI, if_neg (by omega), zI_sI, if_neg (by omega), zI_sI, if_neg (by omega), hxt]
            refine zz_iload_8 C dX9_lookRound_158 <| zz_imul C dX9_lookRound_160 <| zpc 161 rfl <| ?_
            rw [pk_mul]
            refine zc_iastore C _ (tX_K_tollOf hX) (znI (by omega)) (by omega) dX9_lookRound_161 <| zz_aload_0 C dX9_lookRound_162 <| zz_dup C dX9_lookRound_163 rfl <| zz_getI C fX9_40 (tX_K_ways hX) dX9_lookRound_164 <| zpc 167 rfl <| ?_
            rw [zI_sI, if_neg (by omega), zI_sI, if_neg (by omega), zI_sI, if_neg (by omega), zI_sI, if_neg (by omega), zI_sI, if_neg (by omega), hus]
            refine zz_iconst_1 C dX9_lookRound_167 <| zz_iadd C dX9_lookRound_168 <| zpc 169 rfl <| ?_
            rw [show (1 : Int32) = nI 1 from rfl, nI_add]
            refine zy_putI C fX9_40 pX9_10 (tX_K_ways hX) dX9_lookRound_169 <| zz_iinc_6 C _ (zle rfl) rfl dX9_lookRound_172 nI_s <| zz_goto C 31 dX9_lookRound_175 (by decide) <| zpc 31 rfl <| ?_
            first
            | exact ih (by omega) _ _ _ ag (by rw [usL_no (fun q => c76 q.1)]; exact hy) hz
            | exact ih (by omega) _ _ _ ag (by rw [usL_no (fun q => by have := q.2; omega)]; exact hy) hz
            | (refine ih (by omega) _ _ _ ((((((ag.sI (by omega) (by omega)).sI (by omega) (by omega)).sI (by omega) (by omega)).sI (by omega) (by omega)).sI (by omega) (by omega)).sI (by omega) (by omega)) ?_ ?_
               · rw [usL_yes ⟨c76, by omega⟩]; exact hy.snoc
               · simp only [zI_sI]; simpa using hz)
  have hx0 : zI (zsI (zsI (zsI h 74 11 (nI P)) 74 10 0) 74 12 0) 82 5 = oI ex := by rw [zI_sI, if_neg (by omega), zI_sI, if_neg (by omega), zI_sI, if_neg (by omega)]; exact hex
  have hc0 : zI (zsI (zsI (zsI h 74 11 (nI P)) 74 10 0) 74 12 0) i 1 = nI n0 := by rw [zI_sI, if_neg (by omega), zI_sI, if_neg (by omega), zI_sI, if_neg (by omega)]; exact hn0
  refine zz_aload_0 C dX9_lookRound_0 <| zz_aload_1 C dX9_lookRound_1 <| zz_getI C fX9_33 (tL_K hL) dX9_lookRound_2 <| zpc 5 rfl <| ?_
  rw [hP]
  refine zy_putI C fX9_39 pX9_11 (tX_K_ways hX) dX9_lookRound_5 <| zz_aload_0 C dX9_lookRound_8 <| zz_iconst_0 C dX9_lookRound_9 <| zy_putI C fX9_40 pX9_10 (tX_K_ways hX) dX9_lookRound_10 <| zz_aload_0 C dX9_lookRound_13 <| zz_iconst_0 C dX9_lookRound_14 <| zy_putI C fX9_43 pX9_12 (tX_K_ways hX) dX9_lookRound_15 <| zz_aload_1 C dX9_lookRound_18 <| zz_aload_3 C dX9_lookRound_19 <| zz_getI C fX9_46 (tX_K_plan hX) dX9_lookRound_20 <| zpc 23 rfl <| ?_
  rw [hx0]
  refine zf_callVI C hR [_] (c1_roadsWith hL hx hc0) lX9_51 rfl (tL_K hL) (by decide) rfl ⟨zle rfl, zle rfl, zle rfl, zle rfl⟩ (zle rfl) dX9_lookRound_23 ?_
  refine zz_istore_5 C (zle rfl) rfl dX9_lookRound_26 <| zz_iconst_0 C dX9_lookRound_28 <| zz_istore_6 C (zle rfl) rfl dX9_lookRound_29 <| zpc 31 rfl <| ?_
  refine lp 0 (by omega) _ _ _ ((((cAg.rf h).sI (by omega) (by omega)).sI (by omega) (by omega)).sI (by omega) (by omega)) ⟨⟨?_, ?_⟩, fun q hq => absurd hq (by simp [usL_0])⟩ (zI_self _ _ _ _)
  · simp only [zI_sI]; simp
  · simp only [zI_sI]; simp [usL_0]; rfl
end CW
