/-! ===== the class: a clause told; faults of words ===== -/
def cTd (c : Nat) (h h' : zH) : Prop := (∀ i j, ¬ (c ≤ i ∧ i ≤ c + 31) → zI h' i j = zI h i j) ∧ ∀ i j, zL h' i j = zL h i j
section CTL
variable {E : zE} {b : Nat} {G : zG} {t : zT} {h : zH} {l : Launch} {a c e : Nat} {r : yR} {v : Nat → Nat} {cn : Nat}
theorem c3_tell (hX : zTX t a c e) (kd : Nat) (hk : kd < 8) (ok : rOk cn r) (hf : ¬ kFull kd r) (hvk : vOk kd r v) (hv : ∀ j, j < kCt kd → zI h 35 j = nI (v j)) (hr : cRr h c r) : zMet E b l yX3_tell cX3_tell 2 none 3 0 0 [.ref (b + 1), .int (nI kd)] t h (qV (fun t' h' => t' = t ∧ cTd c h h' ∧ cRr h' c (tellR kd v r))) := by
  have hcc := tX_c2 hX
  obtain ⟨⟨b1, b2, b3, b4⟩, ⟨b5, b6, b7, b8⟩, -, -, -, b12, -⟩ := id ok
  refine zMet.of (ls := [some (.ref (b + 1)), some (.int (nI kd))]) (by decide) (zle rfl) 0 rfl ?_
  intro G hlG C hR hE hin
  obtain rfl | rfl | rfl | rfl | rfl | rfl | rfl | rfl : kd = 0 ∨ kd = 1 ∨ kd = 2 ∨ kd = 3 ∨ kd = 4 ∨ kd = 5 ∨ kd = 6 ∨ kd = 7 := by omega
  ·
    refine zz_iload_1 C dX3_tell_0 <| zz_tableIn C 44 dX3_tell_1 (by decide) (by decide) (by first | rfl | decide) (by decide) <| zz_aload_0 C dX3_tell_44 <| zz_getR C fX3_24 (tX_K_reader hX) (tX_R_into hX) dX3_tell_45 <| zz_aload_0 C dX3_tell_48 <| zz_getR C fX3_32 (tX_K_reader hX) (tX_R_numbers hX) dX3_tell_49 <| zz_iconst_0 C dX3_tell_52 <| zc_iaload C 0 (tX_K_numbers hX) (zlit _ (by decide)) (by decide) dX3_tell_53 <| zpc 54 rfl <| ?_
    rw [hv 0 (by decide)]
    refine zy_putI C fX3_145 pX1_0 (tL_K (tX_Lc hX)) dX3_tell_54 <| zz_goto C 220 dX3_tell_57 (by decide) <| zpc 220 rfl <| ?_
    refine zy_return C hE (zle rfl) (zle rfl) dX3_tell_220 ?_
    refine ⟨rfl, ⟨fun i j z => ?_, fun _ _ => rfl⟩, cr0 ok (fun i j z y => ?_) (zI_self _ _ _ _) hr⟩
    · rw [zI_sI, if_neg (by omega)]
    · rw [zI_sI, if_neg (by omega)]
  ·
    have hnr : r.1.2.1 < 10 := by unfold kFull at hf; omega
    refine zz_iload_1 C dX3_tell_0 <| zz_tableIn C 60 dX3_tell_1 (by decide) (by decide) (by first | rfl | decide) (by decide) <| zz_aload_0 C dX3_tell_60 <| zz_aload_0 C dX3_tell_61 <| zz_getR C fX3_24 (tX_K_reader hX) (tX_R_into hX) dX3_tell_62 <| zz_getI C fX3_116 (tL_K (tX_Lc hX)) dX3_tell_65 <| zpc 68 rfl <| ?_
    rw [hr.1.2.1]
    refine zy_callVV C hR [_] (c3_tellRoad hX r.1.2.1 (by omega) (v := v) (fun j hj => hv j hj)) lX3_153 rfl (tX_K_reader hX) (by decide) rfl ⟨zle rfl, zle rfl, zle rfl, zle rfl⟩ (zle rfl) dX3_tell_68 ?_
    intro t1 h1 hv1; obtain ⟨rfl, q1, q2, q3⟩ := hv1
    refine zz_aload_0 C dX3_tell_71 <| zz_getR C fX3_24 (tX_K_reader hX) (tX_R_into hX) dX3_tell_72 <| zz_dup C dX3_tell_75 rfl <| zz_getI C fX3_116 (tL_K (tX_Lc hX)) dX3_tell_76 <| zpc 79 rfl <| ?_
    rw [q1 _ _ (by omega), hr.1.2.1]
    refine zz_iconst_1 C dX3_tell_79 <| zz_iadd C dX3_tell_80 <| zpc 81 rfl <| ?_
    rw [show (1 : Int32) = nI 1 from rfl, nI_add]
    refine zy_putI C fX3_116 pX1_1 (tL_K (tX_Lc hX)) dX3_tell_81 <| zz_goto C 220 dX3_tell_84 (by decide) <| zpc 220 rfl <| ?_
    refine zy_return C hE (zle rfl) (zle rfl) dX3_tell_220 ?_
    refine ⟨rfl, ⟨fun i j z => ?_, q2⟩, cr1 ok (fun i j z y w => ?_) (zI_self _ _ _ _) hnr (fun i hi => ?_) hr⟩
    · rw [zI_sI, if_neg (by omega)]; exact q1 _ _ (by omega)
    · rw [zI_sI, if_neg (by omega)]; exact q1 _ _ (by omega)
    · rw [zI_sI, if_neg (by omega)]; exact q3 i hi
  ·
    have hnr : r.1.2.2 < 4 := by unfold kFull at hf; omega
    refine zz_iload_1 C dX3_tell_0 <| zz_tableIn C 87 dX3_tell_1 (by decide) (by decide) (by first | rfl | decide) (by decide) <| zz_aload_0 C dX3_tell_87 <| zz_bipush C 10 dX3_tell_88 (by decide) <| zz_aload_0 C dX3_tell_90 <| zz_getR C fX3_24 (tX_K_reader hX) (tX_R_into hX) dX3_tell_91 <| zz_getI C fX3_119 (tL_K (tX_Lc hX)) dX3_tell_94 <| zpc 97 rfl <| ?_
    rw [hr.1.2.2.1]
    refine zz_iadd C dX3_tell_97 <| zpc 98 rfl <| ?_
    rw [show (10 : Int32) = nI 10 from rfl, nI_add]
    refine zy_callVV C hR [_] (c3_tellRoad hX (10 + r.1.2.2) (by omega) (v := v) (fun j hj => hv j hj)) lX3_153 rfl (tX_K_reader hX) (by decide) rfl ⟨zle rfl, zle rfl, zle rfl, zle rfl⟩ (zle rfl) dX3_tell_98 ?_
    intro t1 h1 hv1; obtain ⟨rfl, q1, q2, q3⟩ := hv1
    refine zz_aload_0 C dX3_tell_101 <| zz_getR C fX3_24 (tX_K_reader hX) (tX_R_into hX) dX3_tell_102 <| zz_dup C dX3_tell_105 rfl <| zz_getI C fX3_119 (tL_K (tX_Lc hX)) dX3_tell_106 <| zpc 109 rfl <| ?_
    rw [q1 _ _ (by omega), hr.1.2.2.1]
    refine zz_iconst_1 C dX3_tell_109 <| zz_iadd C dX3_tell_110 <| zpc 111 rfl <| ?_
    rw [show (1 : Int32) = nI 1 from rfl, nI_add]
    refine zy_putI C fX3_119 pX1_2 (tL_K (tX_Lc hX)) dX3_tell_111 <| zz_goto C 220 dX3_tell_114 (by decide) <| zpc 220 rfl <| ?_
    refine zy_return C hE (zle rfl) (zle rfl) dX3_tell_220 ?_
    refine ⟨rfl, ⟨fun i j z => ?_, q2⟩, cr2 ok (fun i j z y w => ?_) (zI_self _ _ _ _) hnr (fun i hi => ?_) hr⟩
    · rw [zI_sI, if_neg (by omega)]; exact q1 _ _ (by omega)
    · rw [zI_sI, if_neg (by omega)]; exact q1 _ _ (by omega)
    · rw [zI_sI, if_neg (by omega)]; exact q3 i hi
  ·
    have hnr : r.2.1.1 < 14 := by unfold kFull at hf; omega
    refine zz_iload_1 C dX3_tell_0 <| zz_tableIn C 117 dX3_tell_1 (by decide) (by decide) (by first | rfl | decide) (by decide) <| zz_aload_0 C dX3_tell_117 <| zz_aload_0 C dX3_tell_118 <| zz_getR C fX3_24 (tX_K_reader hX) (tX_R_into hX) dX3_tell_119 <| zz_getI C fX3_122 (tL_K (tX_Lc hX)) dX3_tell_122 <| zpc 125 rfl <| ?_
    rw [hr.1.2.2.2.1]
    refine zy_callVV C hR [_] (c3_tellGoing hX r.2.1.1 (by omega) (v := v) (fun j hj => hv j hj)) lX3_156 rfl (tX_K_reader hX) (by decide) rfl ⟨zle rfl, zle rfl, zle rfl, zle rfl⟩ (zle rfl) dX3_tell_125 ?_
    intro t1 h1 hv1; obtain ⟨rfl, q1, q2, q3, q4, q5⟩ := hv1
    refine zz_aload_0 C dX3_tell_128 <| zz_getR C fX3_24 (tX_K_reader hX) (tX_R_into hX) dX3_tell_129 <| zz_dup C dX3_tell_132 rfl <| zz_getI C fX3_122 (tL_K (tX_Lc hX)) dX3_tell_133 <| zpc 136 rfl <| ?_
    rw [q1 _ _ (by omega), hr.1.2.2.2.1]
    refine zz_iconst_1 C dX3_tell_136 <| zz_iadd C dX3_tell_137 <| zpc 138 rfl <| ?_
    rw [show (1 : Int32) = nI 1 from rfl, nI_add]
    refine zy_putI C fX3_122 pX1_3 (tL_K (tX_Lc hX)) dX3_tell_138 <| zz_goto C 220 dX3_tell_141 (by decide) <| zpc 220 rfl <| ?_
    refine zy_return C hE (zle rfl) (zle rfl) dX3_tell_220 ?_
    refine ⟨rfl, ⟨fun i j z => ?_, q2⟩, cr3 ok (fun i j z y w => ?_) (zI_self _ _ _ _) hnr (fun i hi => ?_) ?_ ?_ hr⟩
    · rw [zI_sI, if_neg (by omega)]; exact q1 _ _ (by omega)
    · rw [zI_sI, if_neg (by omega)]; exact q1 _ _ (by omega)
    · rw [zI_sI, if_neg (by omega)]; exact q3 i hi
    · rw [zI_sI, if_neg (by omega)]; exact q4
    · rw [zI_sI, if_neg (by omega)]; exact q5
  ·
    have hg0 : 0 ≤ v 0 ∧ v 0 < r.2.1.1 := hvk.1 0 (by decide)
    refine zz_iload_1 C dX3_tell_0 <| zz_tableIn C 144 dX3_tell_1 (by decide) (by decide) (by first | rfl | decide) (by decide) <| zz_aload_0 C dX3_tell_144 <| zz_getR C fX3_24 (tX_K_reader hX) (tX_R_into hX) dX3_tell_145 <| zz_getR C fX3_159 (tL_K (tX_Lc hX)) (tL_R_goingFacts (tX_Lc hX)) dX3_tell_148 <| zz_aload_0 C dX3_tell_151 <| zz_getR C fX3_32 (tX_K_reader hX) (tX_R_numbers hX) dX3_tell_152 <| zz_iconst_0 C dX3_tell_155 <| zc_iaload C 0 (tX_K_numbers hX) (zlit _ (by decide)) (by decide) dX3_tell_156 <| zpc 157 rfl <| ?_
    rw [hv 0 (by decide)]
    refine zc_row C _ (tL_K_goingFacts (tX_Lc hX)) (tL_row_goingFacts (tX_Lc hX)) (znI (by omega)) (by omega) dX3_tell_157 <| fun r157 => ?_
    refine zz_iconst_4 C dX3_tell_158 <| zz_aload_0 C dX3_tell_159 <| zz_getR C fX3_32 (tX_K_reader hX) (tX_R_numbers hX) dX3_tell_160 <| zz_iconst_1 C dX3_tell_163 <| zc_iaload C 1 (tX_K_numbers hX) (zlit _ (by decide)) (by decide) dX3_tell_164 <| zpc 165 rfl <| ?_
    rw [hv 1 (by decide)]
    refine zc_iastore C 4 (tL_KR_goingFacts (tX_Lc hX) _ r157) (zlit _ (by decide)) (by decide) dX3_tell_165 <| zz_goto C 220 dX3_tell_166 (by decide) <| zpc 220 rfl <| ?_
    refine zy_return C hE (zle rfl) (zle rfl) dX3_tell_220 ?_
    refine ⟨rfl, ⟨fun i j z => ?_, fun _ _ => rfl⟩, cr45 ok 4 (by omega) (fun i j z y => ?_) hg0.2 (zI_self _ _ _ _) hr⟩
    · rw [zI_sI, if_neg (by omega)]
    · rw [zI_sI, if_neg (by omega)]
  ·
    have hg0 : 0 ≤ v 0 ∧ v 0 < r.2.1.1 := hvk.1 0 (by decide)
    refine zz_iload_1 C dX3_tell_0 <| zz_tableIn C 169 dX3_tell_1 (by decide) (by decide) (by first | rfl | decide) (by decide) <| zz_aload_0 C dX3_tell_169 <| zz_getR C fX3_24 (tX_K_reader hX) (tX_R_into hX) dX3_tell_170 <| zz_getR C fX3_159 (tL_K (tX_Lc hX)) (tL_R_goingFacts (tX_Lc hX)) dX3_tell_173 <| zz_aload_0 C dX3_tell_176 <| zz_getR C fX3_32 (tX_K_reader hX) (tX_R_numbers hX) dX3_tell_177 <| zz_iconst_0 C dX3_tell_180 <| zc_iaload C 0 (tX_K_numbers hX) (zlit _ (by decide)) (by decide) dX3_tell_181 <| zpc 182 rfl <| ?_
    rw [hv 0 (by decide)]
    refine zc_row C _ (tL_K_goingFacts (tX_Lc hX)) (tL_row_goingFacts (tX_Lc hX)) (znI (by omega)) (by omega) dX3_tell_182 <| fun r182 => ?_
    refine zz_iconst_5 C dX3_tell_183 <| zz_aload_0 C dX3_tell_184 <| zz_getR C fX3_32 (tX_K_reader hX) (tX_R_numbers hX) dX3_tell_185 <| zz_iconst_1 C dX3_tell_188 <| zc_iaload C 1 (tX_K_numbers hX) (zlit _ (by decide)) (by decide) dX3_tell_189 <| zpc 190 rfl <| ?_
    rw [hv 1 (by decide)]
    refine zc_iastore C 5 (tL_KR_goingFacts (tX_Lc hX) _ r182) (zlit _ (by decide)) (by decide) dX3_tell_190 <| zz_goto C 220 dX3_tell_191 (by decide) <| zpc 220 rfl <| ?_
    refine zy_return C hE (zle rfl) (zle rfl) dX3_tell_220 ?_
    refine ⟨rfl, ⟨fun i j z => ?_, fun _ _ => rfl⟩, cr45 ok 5 (by omega) (fun i j z y => ?_) hg0.2 (zI_self _ _ _ _) hr⟩
    · rw [zI_sI, if_neg (by omega)]
    · rw [zI_sI, if_neg (by omega)]
  ·
    have hnr : r.2.1.2.1 < 8 := by unfold kFull at hf; omega
    have hg0 : 0 ≤ v 0 ∧ v 0 < 1000 := hvk.1 0 (by decide)
    refine zz_iload_1 C dX3_tell_0 <| zz_tableIn C 194 dX3_tell_1 (by decide) (by decide) (by first | rfl | decide) (by decide) <| zz_aload_0 C dX3_tell_194 <| zz_aload_0 C dX3_tell_195 <| zz_getR C fX3_32 (tX_K_reader hX) (tX_R_numbers hX) dX3_tell_196 <| zz_iconst_0 C dX3_tell_199 <| zc_iaload C 0 (tX_K_numbers hX) (zlit _ (by decide)) (by decide) dX3_tell_200 <| zpc 201 rfl <| ?_
    rw [hv 0 (by decide)]
    refine zy_callVV C hR [_] (c3_tellWet hX hnr hr.1.2.2.2.2.1 (fun k hk => ⟨hr.2.2.2.2 k hk, b12 k hk⟩) (v 0) (by omega)) lX3_163 rfl (tX_K_reader hX) (by decide) rfl ⟨zle rfl, zle rfl, zle rfl, zle rfl⟩ (zle rfl) dX3_tell_201 ?_
    intro t1 h1 hv1; obtain ⟨rfl, q1, q2, q3, q4⟩ := hv1
    refine zz_goto C 220 dX3_tell_204 (by decide) <| zpc 220 rfl <| ?_
    refine zy_return C hE (zle rfl) (zle rfl) dX3_tell_220 ?_
    exact ⟨rfl, ⟨fun i j z => q1 _ _ (by omega) (by omega), q2⟩, cr6 ok (fun i j z y w => q1 _ _ y w) q3 q4 hr⟩
  ·
    refine zz_iload_1 C dX3_tell_0 <| zz_tableOut C 207 dX3_tell_1 (by decide) (by decide) <| zz_aload_0 C dX3_tell_207 <| zz_getR C fX3_24 (tX_K_reader hX) (tX_R_into hX) dX3_tell_208 <| zz_aload_0 C dX3_tell_211 <| zz_getR C fX3_32 (tX_K_reader hX) (tX_R_numbers hX) dX3_tell_212 <| zz_iconst_0 C dX3_tell_215 <| zc_iaload C 0 (tX_K_numbers hX) (zlit _ (by decide)) (by decide) dX3_tell_216 <| zpc 217 rfl <| ?_
    rw [hv 0 (by decide)]
    refine zy_putI C fX3_166 pX1_5 (tL_K (tX_Lc hX)) dX3_tell_217 <| zpc 220 rfl <| ?_
    refine zy_return C hE (zle rfl) (zle rfl) dX3_tell_220 ?_
    refine ⟨rfl, ⟨fun i j z => ?_, fun _ _ => rfl⟩, cr7 ok (fun i j z y => ?_) (zI_self _ _ _ _) hr⟩
    · rw [zI_sI, if_neg (by omega)]
    · rw [zI_sI, if_neg (by omega)]
theorem c3_many (hX : zTX t a c e) (kd : Nat) (hk : kd < 8) (ok : rOk cn r) (hr : cRr h c r) (f : Int32) (hf1 : kFull kd r → f = 1) (hf0 : ¬ kFull kd r → f = 0) : zMet E b l yX3_isOneTooMany cX3_isOneTooMany 2 (some .boolean) 1 0 0 [.ref (b + 1), .int (nI kd)] t h (qIf f t h) := by
  obtain ⟨⟨b1, b2, b3, b4⟩, ⟨b5, b6, b7, b8⟩, -⟩ := id ok
  refine zMet.of (ls := [some (.ref (b + 1)), some (.int (nI kd))]) (by decide) (zle rfl) 0 rfl ?_
  intro G hlG C hR hE hin
  obtain rfl | rfl | rfl | rfl | rfl | rfl | rfl | rfl : kd = 0 ∨ kd = 1 ∨ kd = 2 ∨ kd = 3 ∨ kd = 4 ∨ kd = 5 ∨ kd = 6 ∨ kd = 7 := by omega
  ·
    refine zz_iload_1 C dX3_isOneTooMany_0 <| zz_tableOut C 111 dX3_isOneTooMany_1 (by decide) (by decide) <| zz_iconst_0 C dX3_isOneTooMany_111 <| zpc 112 rfl <| ?_
    exact zf_zreturn C hE (zle rfl) (zle rfl) dX3_isOneTooMany_112 (by decide) (by exact (hf0 (by unfold kFull; omega)).symm) rfl rfl
  ·
    refine zz_iload_1 C dX3_isOneTooMany_0 <| zz_tableIn C 40 dX3_isOneTooMany_1 (by decide) (by decide) (by first | rfl | decide) (by decide) <| zz_aload_0 C dX3_isOneTooMany_40 <| zz_getR C fX3_24 (tX_K_reader hX) (tX_R_into hX) dX3_isOneTooMany_41 <| zz_getI C fX3_116 (tL_K (tX_Lc hX)) dX3_isOneTooMany_44 <| zpc 47 rfl <| ?_
    rw [hr.1.2.1]
    refine zz_bipush C 10 dX3_isOneTooMany_47 (by decide) <| zpc 49 rfl <| ?_
    refine zz_icmp_lt C 56 dX3_isOneTooMany_49 (by decide) (fun c49 => ?_) (fun c49 => ?_)
    · rw [show (10 : Int32) = nI 10 from rfl, nI_ltI (by omega) (by omega)] at c49
      refine zz_iconst_0 C dX3_isOneTooMany_56 <| zpc 57 rfl <| ?_
      exact zf_zreturn C hE (zle rfl) (zle rfl) dX3_isOneTooMany_57 (by decide) (by first | exact (hf1 (by unfold kFull; omega)).symm | exact (hf0 (by unfold kFull; omega)).symm) rfl rfl
    · rw [show (10 : Int32) = nI 10 from rfl, nI_ltI (by omega) (by omega)] at c49
      refine zz_iconst_1 C dX3_isOneTooMany_52 <| zz_goto C 57 dX3_isOneTooMany_53 (by decide) <| zpc 57 rfl <| ?_
      exact zf_zreturn C hE (zle rfl) (zle rfl) dX3_isOneTooMany_57 (by decide) (by first | exact (hf1 (by unfold kFull; omega)).symm | exact (hf0 (by unfold kFull; omega)).symm) rfl rfl
  ·
    refine zz_iload_1 C dX3_isOneTooMany_0 <| zz_tableIn C 58 dX3_isOneTooMany_1 (by decide) (by decide) (by first | rfl | decide) (by decide) <| zz_aload_0 C dX3_isOneTooMany_58 <| zz_getR C fX3_24 (tX_K_reader hX) (tX_R_into hX) dX3_isOneTooMany_59 <| zz_getI C fX3_119 (tL_K (tX_Lc hX)) dX3_isOneTooMany_62 <| zpc 65 rfl <| ?_
    rw [hr.1.2.2.1]
    refine zz_iconst_4 C dX3_isOneTooMany_65 <| zpc 66 rfl <| ?_
    refine zz_icmp_lt C 73 dX3_isOneTooMany_66 (by decide) (fun c66 => ?_) (fun c66 => ?_)
    · rw [show (4 : Int32) = nI 4 from rfl, nI_ltI (by omega) (by omega)] at c66
      refine zz_iconst_0 C dX3_isOneTooMany_73 <| zpc 74 rfl <| ?_
      exact zf_zreturn C hE (zle rfl) (zle rfl) dX3_isOneTooMany_74 (by decide) (by first | exact (hf1 (by unfold kFull; omega)).symm | exact (hf0 (by unfold kFull; omega)).symm) rfl rfl
    · rw [show (4 : Int32) = nI 4 from rfl, nI_ltI (by omega) (by omega)] at c66
      refine zz_iconst_1 C dX3_isOneTooMany_69 <| zz_goto C 74 dX3_isOneTooMany_70 (by decide) <| zpc 74 rfl <| ?_
      exact zf_zreturn C hE (zle rfl) (zle rfl) dX3_isOneTooMany_74 (by decide) (by first | exact (hf1 (by unfold kFull; omega)).symm | exact (hf0 (by unfold kFull; omega)).symm) rfl rfl
  ·
    refine zz_iload_1 C dX3_isOneTooMany_0 <| zz_tableIn C 75 dX3_isOneTooMany_1 (by decide) (by decide) (by first | rfl | decide) (by decide) <| zz_aload_0 C dX3_isOneTooMany_75 <| zz_getR C fX3_24 (tX_K_reader hX) (tX_R_into hX) dX3_isOneTooMany_76 <| zz_getI C fX3_122 (tL_K (tX_Lc hX)) dX3_isOneTooMany_79 <| zpc 82 rfl <| ?_
    rw [hr.1.2.2.2.1]
    refine zz_bipush C 14 dX3_isOneTooMany_82 (by decide) <| zpc 84 rfl <| ?_
    refine zz_icmp_lt C 91 dX3_isOneTooMany_84 (by decide) (fun c84 => ?_) (fun c84 => ?_)
    · rw [show (14 : Int32) = nI 14 from rfl, nI_ltI (by omega) (by omega)] at c84
      refine zz_iconst_0 C dX3_isOneTooMany_91 <| zpc 92 rfl <| ?_
      exact zf_zreturn C hE (zle rfl) (zle rfl) dX3_isOneTooMany_92 (by decide) (by first | exact (hf1 (by unfold kFull; omega)).symm | exact (hf0 (by unfold kFull; omega)).symm) rfl rfl
    · rw [show (14 : Int32) = nI 14 from rfl, nI_ltI (by omega) (by omega)] at c84
      refine zz_iconst_1 C dX3_isOneTooMany_87 <| zz_goto C 92 dX3_isOneTooMany_88 (by decide) <| zpc 92 rfl <| ?_
      exact zf_zreturn C hE (zle rfl) (zle rfl) dX3_isOneTooMany_92 (by decide) (by first | exact (hf1 (by unfold kFull; omega)).symm | exact (hf0 (by unfold kFull; omega)).symm) rfl rfl
  ·
    refine zz_iload_1 C dX3_isOneTooMany_0 <| zz_tableIn C 111 dX3_isOneTooMany_1 (by decide) (by decide) (by first | rfl | decide) (by decide) <| zz_iconst_0 C dX3_isOneTooMany_111 <| zpc 112 rfl <| ?_
    exact zf_zreturn C hE (zle rfl) (zle rfl) dX3_isOneTooMany_112 (by decide) (by exact (hf0 (by unfold kFull; omega)).symm) rfl rfl
  ·
    refine zz_iload_1 C dX3_isOneTooMany_0 <| zz_tableIn C 111 dX3_isOneTooMany_1 (by decide) (by decide) (by first | rfl | decide) (by decide) <| zz_iconst_0 C dX3_isOneTooMany_111 <| zpc 112 rfl <| ?_
    exact zf_zreturn C hE (zle rfl) (zle rfl) dX3_isOneTooMany_112 (by decide) (by exact (hf0 (by unfold kFull; omega)).symm) rfl rfl
  ·
    refine zz_iload_1 C dX3_isOneTooMany_0 <| zz_tableIn C 93 dX3_isOneTooMany_1 (by decide) (by decide) (by first | rfl | decide) (by decide) <| zz_aload_0 C dX3_isOneTooMany_93 <| zz_getR C fX3_24 (tX_K_reader hX) (tX_R_into hX) dX3_isOneTooMany_94 <| zz_getI C fX3_125 (tL_K (tX_Lc hX)) dX3_isOneTooMany_97 <| zpc 100 rfl <| ?_
    rw [hr.1.2.2.2.2.1]
    refine zz_bipush C 8 dX3_isOneTooMany_100 (by decide) <| zpc 102 rfl <| ?_
    refine zz_icmp_lt C 109 dX3_isOneTooMany_102 (by decide) (fun c102 => ?_) (fun c102 => ?_)
    · rw [show (8 : Int32) = nI 8 from rfl, nI_ltI (by omega) (by omega)] at c102
      refine zz_iconst_0 C dX3_isOneTooMany_109 <| zpc 110 rfl <| ?_
      exact zf_zreturn C hE (zle rfl) (zle rfl) dX3_isOneTooMany_110 (by decide) (by first | exact (hf1 (by unfold kFull; omega)).symm | exact (hf0 (by unfold kFull; omega)).symm) rfl rfl
    · rw [show (8 : Int32) = nI 8 from rfl, nI_ltI (by omega) (by omega)] at c102
      refine zz_iconst_1 C dX3_isOneTooMany_105 <| zz_goto C 110 dX3_isOneTooMany_106 (by decide) <| zpc 110 rfl <| ?_
      exact zf_zreturn C hE (zle rfl) (zle rfl) dX3_isOneTooMany_110 (by decide) (by first | exact (hf1 (by unfold kFull; omega)).symm | exact (hf0 (by unfold kFull; omega)).symm) rfl rfl
  ·
    refine zz_iload_1 C dX3_isOneTooMany_0 <| zz_tableOut C 111 dX3_isOneTooMany_1 (by decide) (by decide) <| zz_iconst_0 C dX3_isOneTooMany_111 <| zpc 112 rfl <| ?_
    exact zf_zreturn C hE (zle rfl) (zle rfl) dX3_isOneTooMany_112 (by decide) (by exact (hf0 (by unfold kFull; omega)).symm) rfl rfl
theorem c3_word (hX : zTX t a c e) (kd : Nat) (hk : kd < 8) (ok : rOk cn r) (hcn : zI h 1 8 = nI cn) (hc60 : cn ≤ 60) (hr : cRr h c r) (f : Int32) (f3 : (60 ≤ cn ∨ kFull kd r) → f = 3) (f4 : ¬ (60 ≤ cn ∨ kFull kd r) → (kd = 0 ∧ 0 < cn) → f = 4) (f0 : ¬ (60 ≤ cn ∨ kFull kd r) → ¬ (kd = 0 ∧ 0 < cn) → f = 0) : zMet E b l yX3_faultOfWord cX3_faultOfWord 2 (some .int) 2 0 0 [.ref (b + 1), .int (nI kd)] t h (qIf f t h) := by
  by_cases full : kFull kd r
  ·
    refine zMet.of (ls := [some (.ref (b + 1)), some (.int (nI kd))]) (by decide) (zle rfl) 0 rfl ?_
    intro G hlG C hR hE hin
    refine zz_iload_1 C dX3_faultOfWord_0 <| zz_iconst_m1 C dX3_faultOfWord_1 <| zpc 2 rfl <| ?_
    refine zz_icmp_ne C 7 dX3_faultOfWord_2 (by decide) (fun c2 => ?_) (fun c2 => ?_)
    · refine zz_aload_0 C dX3_faultOfWord_7 <| zz_getI C fX3_50 (tX_K_reader hX) dX3_faultOfWord_8 <| zz_bipush C 60 dX3_faultOfWord_11 (by decide) <| zpc 13 rfl <| ?_
      refine zz_icmp_ge C 24 dX3_faultOfWord_13 (by decide) (fun c13 => ?_) (fun c13 => ?_)
      · refine zz_iconst_3 C dX3_faultOfWord_24 <| zpc 25 rfl <| ?_
        exact zf_ireturn C hE (zle rfl) (zle rfl) dX3_faultOfWord_25 (by exact (f3 (Or.inr full)).symm) rfl rfl
      · refine zz_aload_0 C dX3_faultOfWord_16 <| zz_iload_1 C dX3_faultOfWord_17 <| zpc 18 rfl <| ?_
        refine zf_callVI C hR [_] (c3_many hX kd hk ok hr 1 (fun _ => rfl) (fun z => absurd full z)) lX3_112 rfl (tX_K_reader hX) (by decide) rfl ⟨zle rfl, zle rfl, zle rfl, zle rfl⟩ (zle rfl) dX3_faultOfWord_18 ?_
        refine zz_if_eq C 26 dX3_faultOfWord_21 (by decide) (fun c21 => ?_) (fun c21 => ?_)
        · exact absurd c21 (by decide)
        · refine zz_iconst_3 C dX3_faultOfWord_24 <| zpc 25 rfl <| ?_
          exact zf_ireturn C hE (zle rfl) (zle rfl) dX3_faultOfWord_25 (by exact (f3 (Or.inr full)).symm) rfl rfl
    · exact absurd c2.symm (m1_no kd (by omega)).2
  ·
    refine zMet.of (ls := [some (.ref (b + 1)), some (.int (nI kd))]) (by decide) (zle rfl) 0 rfl ?_
    intro G hlG C hR hE hin
    refine zz_iload_1 C dX3_faultOfWord_0 <| zz_iconst_m1 C dX3_faultOfWord_1 <| zpc 2 rfl <| ?_
    refine zz_icmp_ne C 7 dX3_faultOfWord_2 (by decide) (fun c2 => ?_) (fun c2 => ?_)
    · refine zz_aload_0 C dX3_faultOfWord_7 <| zz_getI C fX3_50 (tX_K_reader hX) dX3_faultOfWord_8 <| zpc 11 rfl <| ?_
      rw [hcn]
      refine zz_bipush C 60 dX3_faultOfWord_11 (by decide) <| zpc 13 rfl <| ?_
      refine zz_icmp_ge C 24 dX3_faultOfWord_13 (by decide) (fun c13 => ?_) (fun c13 => ?_)
      · rw [show (60 : Int32) = nI 60 from rfl, nI_leI (by omega) (by omega)] at c13
        refine zz_iconst_3 C dX3_faultOfWord_24 <| zpc 25 rfl <| ?_
        exact zf_ireturn C hE (zle rfl) (zle rfl) dX3_faultOfWord_25 (by exact (f3 (Or.inl c13)).symm) rfl rfl
      · rw [show (60 : Int32) = nI 60 from rfl, nI_leI (by omega) (by omega)] at c13
        refine zz_aload_0 C dX3_faultOfWord_16 <| zz_iload_1 C dX3_faultOfWord_17 <| zpc 18 rfl <| ?_
        refine zf_callVI C hR [_] (c3_many hX kd hk ok hr 0 (fun z => absurd z full) (fun _ => rfl)) lX3_112 rfl (tX_K_reader hX) (by decide) rfl ⟨zle rfl, zle rfl, zle rfl, zle rfl⟩ (zle rfl) dX3_faultOfWord_18 ?_
        refine zz_if_eq C 26 dX3_faultOfWord_21 (by decide) (fun c21 => ?_) (fun c21 => ?_)
        · refine zz_iload_1 C dX3_faultOfWord_26 <| zpc 27 rfl <| ?_
          refine zz_if_ne C 41 dX3_faultOfWord_27 (by decide) (fun c27 => ?_) (fun c27 => ?_)
          · rw [show (0 : Int32) = nI 0 from rfl, nI_eq (by omega) (by omega)] at c27
            refine zz_iconst_0 C dX3_faultOfWord_41 <| zpc 42 rfl <| ?_
            refine zf_ireturn C hE (zle rfl) (zle rfl) dX3_faultOfWord_42 ?_ rfl rfl
            first
            | exact (f4 (fun z => z.elim c13 full) ⟨c27, by omega⟩).symm
            | exact (f0 (fun z => z.elim c13 full) (by omega)).symm
          · rw [show (0 : Int32) = nI 0 from rfl, nI_eq (by omega) (by omega)] at c27
            refine zz_aload_0 C dX3_faultOfWord_30 <| zz_getI C fX3_50 (tX_K_reader hX) dX3_faultOfWord_31 <| zpc 34 rfl <| ?_
            rw [hcn]
            refine zz_if_le C 41 dX3_faultOfWord_34 (by decide) (fun c34 => ?_) (fun c34 => ?_)
            · rw [show (0 : Int32) = nI 0 from rfl, nI_leI (by omega) (by omega)] at c34
              refine zz_iconst_0 C dX3_faultOfWord_41 <| zpc 42 rfl <| ?_
              refine zf_ireturn C hE (zle rfl) (zle rfl) dX3_faultOfWord_42 ?_ rfl rfl
              first
              | exact (f4 (fun z => z.elim c13 full) ⟨c27, by omega⟩).symm
              | exact (f0 (fun z => z.elim c13 full) (by omega)).symm
            · rw [show (0 : Int32) = nI 0 from rfl, nI_leI (by omega) (by omega)] at c34
              refine zz_iconst_4 C dX3_faultOfWord_37 <| zz_goto C 42 dX3_faultOfWord_38 (by decide) <| zpc 42 rfl <| ?_
              refine zf_ireturn C hE (zle rfl) (zle rfl) dX3_faultOfWord_42 ?_ rfl rfl
              first
              | exact (f4 (fun z => z.elim c13 full) ⟨c27, by omega⟩).symm
              | exact (f0 (fun z => z.elim c13 full) (by omega)).symm
        · exact absurd rfl c21
    · exact absurd c2.symm (m1_no kd (by omega)).2
theorem c3_word8 (hX : zTX t a c e) : zMet E b l yX3_faultOfWord cX3_faultOfWord 2 (some .int) 2 0 0 [.ref (b + 1), .int ((-1))] t h (qIf 1 t h) := by
  refine zMet.of (ls := [some (.ref (b + 1)), some (.int ((-1)))]) (by decide) (zle rfl) 0 rfl ?_
  intro G hlG C hR hE hin
  refine zz_iload_1 C dX3_faultOfWord_0 <| zz_iconst_m1 C dX3_faultOfWord_1 <| zpc 2 rfl <| ?_
  refine zz_icmp_ne C 7 dX3_faultOfWord_2 (by decide) (fun c2 => ?_) (fun c2 => ?_)
  · exact absurd (by decide) c2
  · refine zz_iconst_1 C dX3_faultOfWord_5 <| zpc 6 rfl <| ?_
    exact zf_ireturn C hE (zle rfl) (zle rfl) dX3_faultOfWord_6 rfl rfl rfl
theorem c1_makeEmpty {i : Nat} (hL : zTL t i) : zMet E b l yX1_makeEmpty cX1_makeEmpty 1 none 1 0 0 [.ref (b + i)] t h (qV (fun t' h' => t' = t ∧ (∀ i' j, ¬ i' = i → zI h' i' j = zI h i' j) ∧ (∀ i' j, zL h' i' j = zL h i' j) ∧ cRr h' i r0)) := by
  refine zMet.of (ls := [some (.ref (b + i))]) (by decide) (zle rfl) 0 rfl ?_
  intro G hlG C hR hE hin
  refine zz_aload_0 C dX1_makeEmpty_0 <| zz_iconst_4 C dX1_makeEmpty_1 <| zy_putI C fX1_26 pX1_0 (tL_K hL) dX1_makeEmpty_2 <| zz_aload_0 C dX1_makeEmpty_5 <| zz_iconst_0 C dX1_makeEmpty_6 <| zy_putI C fX1_30 pX1_1 (tL_K hL) dX1_makeEmpty_7 <| zz_aload_0 C dX1_makeEmpty_10 <| zz_iconst_0 C dX1_makeEmpty_11 <| zy_putI C fX1_33 pX1_2 (tL_K hL) dX1_makeEmpty_12 <| zz_aload_0 C dX1_makeEmpty_15 <| zz_iconst_0 C dX1_makeEmpty_16 <| zy_putI C fX1_36 pX1_3 (tL_K hL) dX1_makeEmpty_17 <| zz_aload_0 C dX1_makeEmpty_20 <| zz_iconst_0 C dX1_makeEmpty_21 <| ?_
  refine zy_putI C fX1_39 pX1_4 (tL_K hL) dX1_makeEmpty_22 <| zz_aload_0 C dX1_makeEmpty_25 <| zz_bipush C 9 dX1_makeEmpty_26 (by decide) <| zy_putI C fX1_42 pX1_5 (tL_K hL) dX1_makeEmpty_28 <| zpc 31 rfl <| ?_
  refine zy_return C hE (zle rfl) (zle rfl) dX1_makeEmpty_31 ?_
  refine ⟨rfl, fun i' j z => ?_, fun _ _ => rfl, ⟨?_, ?_, ?_, ?_, ?_, ?_⟩, fun k hk => absurd hk (Nat.not_lt_zero k), fun k hk => absurd hk (Nat.not_lt_zero k), fun k hk => absurd hk (Nat.not_lt_zero k), fun k hk => absurd hk (Nat.not_lt_zero k)⟩
  · rw [zI_sI, if_neg (by omega), zI_sI, if_neg (by omega), zI_sI, if_neg (by omega), zI_sI, if_neg (by omega), zI_sI, if_neg (by omega), zI_sI, if_neg (by omega)]
  · rw [zI_sI, if_neg (by omega), zI_sI, if_neg (by omega), zI_sI, if_neg (by omega), zI_sI, if_neg (by omega), zI_sI, if_neg (by omega), zI_self]; rfl
  · rw [zI_sI, if_neg (by omega), zI_sI, if_neg (by omega), zI_sI, if_neg (by omega), zI_sI, if_neg (by omega), zI_self]; rfl
  · rw [zI_sI, if_neg (by omega), zI_sI, if_neg (by omega), zI_sI, if_neg (by omega), zI_self]; rfl
  · rw [zI_sI, if_neg (by omega), zI_sI, if_neg (by omega), zI_self]; rfl
  · rw [zI_sI, if_neg (by omega), zI_self]; rfl
  · rw [zI_self]; rfl
end CTL
