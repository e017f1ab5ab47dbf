/-! ===== the reference: road, way, by ===== -/
section MB
variable {E : zE} {b : Nat} {G : zG} {t : zT} {h : zH} {D : yD} {p : yP} {R : Nat × (Nat → Nat)}
theorem c_road0 {l : Launch} (hT : zTM t) (hD : sdOk D p) (hm : mSd h D p) (s q : Int32) (hs : ¬ ∃ k, k < D.2.1.1.1 ∧ s = nI k) : zMet E b l yX11_road cX11_road 3 (some .int) 3 0 0 [.ref (b + 157), .int s, .int q] t h (qIf 0 t (zsI (zsI h 157 0 0) 157 0 1)) := by
  have t1 := (hm.th hD 0).2.2.1
  have hn := hD.1.1.2.2.1
  refine zMet.of (ls := [some (.ref (b + 157)), some (.int s), some (.int q)]) (by decide) (zle rfl) 0 rfl ?_
  intro G hlG C hR hE hin
  refine zz_aload_0 C dX11_road_0 <| zz_iconst_0 C dX11_road_1 <| zy_putI C fX11_104 pX11_0 (tM_K hT) dX11_road_2 <| zz_aload_0 C dX11_road_5 <| zz_aload_0 C dX11_road_6 <| zz_iload_1 C dX11_road_7 <| zpc 8 rfl <| ?_
  refine zf_callVI C hR [_] (c_isRoad hT _) lX11_197 rfl (tM_K hT) (by decide) rfl ⟨zle rfl, zle rfl, zle rfl, zle rfl⟩ (zle rfl) dX11_road_8 ?_
  refine zz_if_ne C 18 dX11_road_11 (by decide) (fun c11 => ?_) (fun c11 => ?_)
  · rw [zb_ne0, t1, idxOk (by omega)] at c11; exact absurd c11 hs
  · refine zz_iconst_1 C dX11_road_14 <| zz_goto C 19 dX11_road_15 (by decide) <| zz_iconst_1 C dX11_road_19 <| zpc 20 rfl <| ?_
    refine zf_callVI C hR [_, _] (c_bad1 hT _ (by decide) (by first | exact zI_self _ _ _ _ | assumption)) lX11_181 rfl (tM_K hT) (by decide) rfl ⟨zle rfl, zle rfl, zle rfl, zle rfl⟩ (zle rfl) dX11_road_20 ?_
    refine zz_if_ne C 49 dX11_road_23 (by decide) (fun c23 => ?_) (fun c23 => ?_)
    · refine zz_iconst_0 C dX11_road_49 <| zpc 50 rfl <| ?_
      exact zf_ireturn C hE (zle rfl) (zle rfl) dX11_road_50 rfl rfl rfl
    · exact absurd c23 (by decide)
theorem c_road2 {l : Launch} (hT : zTM t) (hD : sdOk D p) (hm : mSd h D p) (k : Nat) (hk : k < D.2.1.1.1) (q : Int32) (hq : ¬ ∃ k, k ≤ 7 ∧ q = nI k) : zMet E b l yX11_road cX11_road 3 (some .int) 3 0 0 [.ref (b + 157), .int (nI k), .int q] t h (qIf 0 t (zsI (zsI h 157 0 0) 157 0 2)) := by
  have t1 := (hm.th hD 0).2.2.1
  have hn := hD.1.1.2.2.1
  refine zMet.of (ls := [some (.ref (b + 157)), some (.int (nI k)), some (.int q)]) (by decide) (zle rfl) 0 rfl ?_
  intro G hlG C hR hE hin
  refine zz_aload_0 C dX11_road_0 <| zz_iconst_0 C dX11_road_1 <| zy_putI C fX11_104 pX11_0 (tM_K hT) dX11_road_2 <| zz_aload_0 C dX11_road_5 <| zz_aload_0 C dX11_road_6 <| zz_iload_1 C dX11_road_7 <| zpc 8 rfl <| ?_
  refine zf_callVI C hR [_] (c_isRoad hT _) lX11_197 rfl (tM_K hT) (by decide) rfl ⟨zle rfl, zle rfl, zle rfl, zle rfl⟩ (zle rfl) dX11_road_8 ?_
  refine zz_if_ne C 18 dX11_road_11 (by decide) (fun c11 => ?_) (fun c11 => ?_)
  · refine zz_iconst_0 C dX11_road_18 <| zz_iconst_1 C dX11_road_19 <| zpc 20 rfl <| ?_
    refine zf_callVI C hR [_, _] (c_bad0 hT _ (by decide) (by first | exact zI_self _ _ _ _ | assumption)) lX11_181 rfl (tM_K hT) (by decide) rfl ⟨zle rfl, zle rfl, zle rfl, zle rfl⟩ (zle rfl) dX11_road_20 ?_
    refine zz_if_ne C 49 dX11_road_23 (by decide) (fun c23 => ?_) (fun c23 => ?_)
    · exact absurd rfl c23
    · refine zz_aload_0 C dX11_road_26 <| zz_iload_2 C dX11_road_27 <| zz_iconst_0 C dX11_road_28 <| zz_bipush C 7 dX11_road_29 (by decide) <| zpc 31 rfl <| ?_
      refine zf_callSI C hR [_, _, _] (c_in _ _ _) lX11_138 rfl ⟨zle rfl, zle rfl, zle rfl, zle rfl⟩ (zle rfl) dX11_road_31 ?_
      refine zz_if_ne C 41 dX11_road_34 (by decide) (fun c34 => ?_) (fun c34 => ?_)
      · rw [zb_ne0, upTo 7 7 rfl (by omega)] at c34; exact absurd c34 hq
      · refine zz_iconst_1 C dX11_road_37 <| zz_goto C 42 dX11_road_38 (by decide) <| zz_iconst_2 C dX11_road_42 <| zpc 43 rfl <| ?_
        refine zf_callVI C hR [_, _] (c_bad1 hT _ (by decide) (by first | exact zI_self _ _ _ _ | assumption)) lX11_181 rfl (tM_K hT) (by decide) rfl ⟨zle rfl, zle rfl, zle rfl, zle rfl⟩ (zle rfl) dX11_road_43 ?_
        refine zz_if_eq C 51 dX11_road_46 (by decide) (fun c46 => ?_) (fun c46 => ?_)
        · exact absurd c46 (by decide)
        · refine zz_iconst_0 C dX11_road_49 <| zpc 50 rfl <| ?_
          exact zf_ireturn C hE (zle rfl) (zle rfl) dX11_road_50 rfl rfl rfl
  · rw [zb_eq0, t1, idxOk (by omega)] at c11; exact absurd ⟨k, hk, rfl⟩ c11
/-- what is told of a road -/
def rAsk (D : yD) (k q : Nat) : Option Nat := if q < 5 then some (D.2.1.2 k q) else if q = 5 then some (D.2.2.1.1 k) else if q = 6 then some (D.2.2.1.2 k) else if D.2.1.2 k 4 < D.2.2.1.1 k then none else some (nMi D.2.1.2 D.2.2.1.1 k)
theorem c_road1 {l : Launch} (hT : zTM t) (hD : sdOk D p) (hm : mSd h D p) (k q : Nat) (hk : k < D.2.1.1.1) (hq : q ≤ 7) : zMet E b l yX11_road cX11_road 3 (some .int) 3 0 0 [.ref (b + 157), .int (nI k), .int (nI q)] t h (qIf (oI (rAsk D k q)) t (zsI h 157 0 0)) := by
  have t1 := (hm.th hD 0).2.2.1
  have hn := hD.1.1.2.2.1
  have hok : (0 ≤ nI q ∧ nI q ≤ 7) := (upTo 7 7 rfl (by omega)).mpr ⟨q, hq, rfl⟩
  obtain ⟨hf, hw, hr⟩ := (hm.th hD 0).2.2.2.2.2.1 k hk
  have f2 := hf 2 (by omega)
  have f3 := hf 3 (by omega)
  have f4 := hf 4 (by omega)
  have hb := hD.1.1.2.2.2.2 k hk
  have i5 : (5 : Int32) = nI 5 := rfl
  have i6 : (6 : Int32) = nI 6 := rfl
  by_cases h5 : q < 5
  · have hfq := hf q h5
    refine zMet.of (ls := [some (.ref (b + 157)), some (.int (nI k)), some (.int (nI q))]) (by decide) (zle rfl) 0 rfl ?_
    intro G hlG C hR hE hin
    refine zz_aload_0 C dX11_road_0 <| zz_iconst_0 C dX11_road_1 <| zy_putI C fX11_104 pX11_0 (tM_K hT) dX11_road_2 <| zz_aload_0 C dX11_road_5 <| zz_aload_0 C dX11_road_6 <| zz_iload_1 C dX11_road_7 <| zpc 8 rfl <| ?_
    refine zf_callVI C hR [_] (c_isRoad hT _) lX11_197 rfl (tM_K hT) (by decide) rfl ⟨zle rfl, zle rfl, zle rfl, zle rfl⟩ (zle rfl) dX11_road_8 ?_
    refine zz_if_ne C 18 dX11_road_11 (by decide) (fun c11 => ?_) (fun c11 => ?_)
    · refine zz_iconst_0 C dX11_road_18 <| zz_iconst_1 C dX11_road_19 <| zpc 20 rfl <| ?_
      refine zf_callVI C hR [_, _] (c_bad0 hT _ (by decide) (by first | exact zI_self _ _ _ _ | assumption)) lX11_181 rfl (tM_K hT) (by decide) rfl ⟨zle rfl, zle rfl, zle rfl, zle rfl⟩ (zle rfl) dX11_road_20 ?_
      refine zz_if_ne C 49 dX11_road_23 (by decide) (fun c23 => ?_) (fun c23 => ?_)
      · exact absurd rfl c23
      · refine zz_aload_0 C dX11_road_26 <| zz_iload_2 C dX11_road_27 <| zz_iconst_0 C dX11_road_28 <| zz_bipush C 7 dX11_road_29 (by decide) <| zpc 31 rfl <| ?_
        refine zf_callSI C hR [_, _, _] (c_in _ _ _) lX11_138 rfl ⟨zle rfl, zle rfl, zle rfl, zle rfl⟩ (zle rfl) dX11_road_31 ?_
        refine zz_if_ne C 41 dX11_road_34 (by decide) (fun c34 => ?_) (fun c34 => ?_)
        · refine zz_iconst_0 C dX11_road_41 <| zz_iconst_2 C dX11_road_42 <| zpc 43 rfl <| ?_
          refine zf_callVI C hR [_, _] (c_bad0 hT _ (by decide) (by first | exact zI_self _ _ _ _ | assumption)) lX11_181 rfl (tM_K hT) (by decide) rfl ⟨zle rfl, zle rfl, zle rfl, zle rfl⟩ (zle rfl) dX11_road_43 ?_
          refine zz_if_eq C 51 dX11_road_46 (by decide) (fun c46 => ?_) (fun c46 => ?_)
          · refine zz_iload_2 C dX11_road_51 <| zz_iconst_5 C dX11_road_52 <| zpc 53 rfl <| ?_
            rw [i5]
            refine zz_icmp_ge C 65 dX11_road_53 (by decide) (fun c53 => ?_) (fun c53 => ?_)
            · exact absurd c53 (nI_ge (by omega) (by omega))
            · refine zz_aload_0 C dX11_road_56 <| zz_getR C fX11_34 (tM_K hT) (tM_R_road hT) dX11_road_57 <| zz_iload_1 C dX11_road_60 <| zc_row C _ (tM_K_road hT) (tM_row_road hT) (znI (by omega)) (by omega) dX11_road_61 <| fun r61 => ?_
              refine zz_iload_2 C dX11_road_62 <| zc_iaload C _ (tM_KR_road hT _ r61) (znI (by omega)) (by omega) dX11_road_63 <| zpc 64 rfl <| ?_
              rw [hfq]
              exact zf_ireturn C hE (zle rfl) (zle rfl) dX11_road_64 (by unfold rAsk; rw [if_pos h5]; rfl) rfl rfl
          · exact absurd rfl c46
        · rw [zb_eq0] at c34; exact absurd hok c34
    · rw [zb_eq0, t1, idxOk (by omega)] at c11; exact absurd ⟨k, hk, rfl⟩ c11
  ·
    refine zMet.of (ls := [some (.ref (b + 157)), some (.int (nI k)), some (.int (nI q))]) (by decide) (zle rfl) 0 rfl ?_
    intro G hlG C hR hE hin
    refine zz_aload_0 C dX11_road_0 <| zz_iconst_0 C dX11_road_1 <| zy_putI C fX11_104 pX11_0 (tM_K hT) dX11_road_2 <| zz_aload_0 C dX11_road_5 <| zz_aload_0 C dX11_road_6 <| zz_iload_1 C dX11_road_7 <| zpc 8 rfl <| ?_
    refine zf_callVI C hR [_] (c_isRoad hT _) lX11_197 rfl (tM_K hT) (by decide) rfl ⟨zle rfl, zle rfl, zle rfl, zle rfl⟩ (zle rfl) dX11_road_8 ?_
    refine zz_if_ne C 18 dX11_road_11 (by decide) (fun c11 => ?_) (fun c11 => ?_)
    · refine zz_iconst_0 C dX11_road_18 <| zz_iconst_1 C dX11_road_19 <| zpc 20 rfl <| ?_
      refine zf_callVI C hR [_, _] (c_bad0 hT _ (by decide) (by first | exact zI_self _ _ _ _ | assumption)) lX11_181 rfl (tM_K hT) (by decide) rfl ⟨zle rfl, zle rfl, zle rfl, zle rfl⟩ (zle rfl) dX11_road_20 ?_
      refine zz_if_ne C 49 dX11_road_23 (by decide) (fun c23 => ?_) (fun c23 => ?_)
      · exact absurd rfl c23
      · refine zz_aload_0 C dX11_road_26 <| zz_iload_2 C dX11_road_27 <| zz_iconst_0 C dX11_road_28 <| zz_bipush C 7 dX11_road_29 (by decide) <| zpc 31 rfl <| ?_
        refine zf_callSI C hR [_, _, _] (c_in _ _ _) lX11_138 rfl ⟨zle rfl, zle rfl, zle rfl, zle rfl⟩ (zle rfl) dX11_road_31 ?_
        refine zz_if_ne C 41 dX11_road_34 (by decide) (fun c34 => ?_) (fun c34 => ?_)
        · refine zz_iconst_0 C dX11_road_41 <| zz_iconst_2 C dX11_road_42 <| zpc 43 rfl <| ?_
          refine zf_callVI C hR [_, _] (c_bad0 hT _ (by decide) (by first | exact zI_self _ _ _ _ | assumption)) lX11_181 rfl (tM_K hT) (by decide) rfl ⟨zle rfl, zle rfl, zle rfl, zle rfl⟩ (zle rfl) dX11_road_43 ?_
          refine zz_if_eq C 51 dX11_road_46 (by decide) (fun c46 => ?_) (fun c46 => ?_)
          · refine zz_iload_2 C dX11_road_51 <| zz_iconst_5 C dX11_road_52 <| zpc 53 rfl <| ?_
            rw [i5]
            refine zz_icmp_ge C 65 dX11_road_53 (by decide) (fun c53 => ?_) (fun c53 => ?_)
            · refine zz_iload_2 C dX11_road_65 <| zz_iconst_5 C dX11_road_66 <| zpc 67 rfl <| ?_
              rw [i5]
              refine zz_icmp_ne C 79 dX11_road_67 (by decide) (fun c67 => ?_) (fun c67 => ?_)
              · refine zz_iload_2 C dX11_road_79 <| zz_bipush C 6 dX11_road_80 (by decide) <| zpc 82 rfl <| ?_
                rw [i6]
                refine zz_icmp_ne C 94 dX11_road_82 (by decide) (fun c82 => ?_) (fun c82 => ?_)
                · refine zz_aload_0 C dX11_road_94 <| zz_getR C fX11_49 (tM_K hT) (tM_R_wear hT) dX11_road_95 <| zz_iload_1 C dX11_road_98 <| zc_iaload C _ (tM_K_wear hT) (znI (by omega)) (by omega) dX11_road_99 <| zpc 100 rfl <| ?_
                  rw [hw]
                  refine zz_aload_0 C dX11_road_100 <| zz_getR C fX11_34 (tM_K hT) (tM_R_road hT) dX11_road_101 <| zz_iload_1 C dX11_road_104 <| zc_row C _ (tM_K_road hT) (tM_row_road hT) (znI (by omega)) (by omega) dX11_road_105 <| fun r105 => ?_
                  refine zz_iconst_4 C dX11_road_106 <| zc_iaload C 4 (tM_KR_road hT _ r105) (zlit _ (by decide)) (by decide) dX11_road_107 <| zpc 108 rfl <| ?_
                  rw [f4]
                  refine zz_icmp_le C 115 dX11_road_108 (by decide) (fun c108 => ?_) (fun c108 => ?_)
                  · refine zz_aload_0 C dX11_road_115 <| zz_getR C fX11_34 (tM_K hT) (tM_R_road hT) dX11_road_116 <| zz_iload_1 C dX11_road_119 <| zc_row C _ (tM_K_road hT) (tM_row_road hT) (znI (by omega)) (by omega) dX11_road_120 <| fun r120 => ?_
                    refine zz_iconst_2 C dX11_road_121 <| zc_iaload C 2 (tM_KR_road hT _ r120) (zlit _ (by decide)) (by decide) dX11_road_122 <| zpc 123 rfl <| ?_
                    rw [f2]
                    refine zz_aload_0 C dX11_road_123 <| zz_getR C fX11_34 (tM_K hT) (tM_R_road hT) dX11_road_124 <| zz_iload_1 C dX11_road_127 <| zc_row C _ (tM_K_road hT) (tM_row_road hT) (znI (by omega)) (by omega) dX11_road_128 <| fun r128 => ?_
                    refine zz_iconst_3 C dX11_road_129 <| zc_iaload C 3 (tM_KR_road hT _ r128) (zlit _ (by decide)) (by decide) dX11_road_130 <| zpc 131 rfl <| ?_
                    rw [f3]
                    refine zz_aload_0 C dX11_road_131 <| zz_getR C fX11_49 (tM_K hT) (tM_R_wear hT) dX11_road_132 <| zz_iload_1 C dX11_road_135 <| zc_iaload C _ (tM_K_wear hT) (znI (by omega)) (by omega) dX11_road_136 <| zpc 137 rfl <| ?_
                    rw [hw]
                    refine zz_imul C dX11_road_137 <| zpc 138 rfl <| ?_
                    rw [pk_mul]
                    refine zz_iadd C dX11_road_138 <| zpc 139 rfl <| ?_
                    first | rw [nI_add] | skip
                    refine zf_ireturn C hE (zle rfl) (zle rfl) dX11_road_139 ?_ rfl rfl
                    unfold rAsk; rw [if_neg h5]
                    rw [nI_eq (by omega) (by omega)] at c67
                    first
                      | (rw [if_pos c67]; done)
                      | (rw [if_pos c67]; rfl)
                      | (rw [if_neg c67]
                         rw [nI_eq (by omega) (by omega)] at c82
                         first
                           | (rw [if_pos c82]; rfl)
                           | (rw [if_neg c82]
                              rw [nI_leI (by omega) (by omega)] at c108
                              first
                                | (rw [if_pos (by omega)]; rfl)
                                | (rw [if_neg (by omega)]; rfl)))
                  · refine zz_iconst_m1 C dX11_road_111 <| zz_goto C 139 dX11_road_112 (by decide) <| zpc 139 rfl <| ?_
                    first | rw [nI_add] | skip
                    refine zf_ireturn C hE (zle rfl) (zle rfl) dX11_road_139 ?_ rfl rfl
                    unfold rAsk; rw [if_neg h5]
                    rw [nI_eq (by omega) (by omega)] at c67
                    first
                      | (rw [if_pos c67]; done)
                      | (rw [if_pos c67]; rfl)
                      | (rw [if_neg c67]
                         rw [nI_eq (by omega) (by omega)] at c82
                         first
                           | (rw [if_pos c82]; rfl)
                           | (rw [if_neg c82]
                              rw [nI_leI (by omega) (by omega)] at c108
                              first
                                | (rw [if_pos (by omega)]; rfl)
                                | (rw [if_neg (by omega)]; rfl)))
                · refine zz_aload_0 C dX11_road_85 <| zz_getR C fX11_52 (tM_K hT) (tM_R_rested hT) dX11_road_86 <| zz_iload_1 C dX11_road_89 <| zc_iaload C _ (tM_K_rested hT) (znI (by omega)) (by omega) dX11_road_90 <| zpc 91 rfl <| ?_
                  rw [hr]
                  refine zz_goto C 139 dX11_road_91 (by decide) <| zpc 139 rfl <| ?_
                  first | rw [nI_add] | skip
                  refine zf_ireturn C hE (zle rfl) (zle rfl) dX11_road_139 ?_ rfl rfl
                  unfold rAsk; rw [if_neg h5]
                  rw [nI_eq (by omega) (by omega)] at c67
                  first
                    | (rw [if_pos c67]; done)
                    | (rw [if_pos c67]; rfl)
                    | (rw [if_neg c67]
                       rw [nI_eq (by omega) (by omega)] at c82
                       first
                         | (rw [if_pos c82]; rfl)
                         | (rw [if_neg c82]
                            rw [nI_leI (by omega) (by omega)] at c108
                            first
                              | (rw [if_pos (by omega)]; rfl)
                              | (rw [if_neg (by omega)]; rfl)))
              · refine zz_aload_0 C dX11_road_70 <| zz_getR C fX11_49 (tM_K hT) (tM_R_wear hT) dX11_road_71 <| zz_iload_1 C dX11_road_74 <| zc_iaload C _ (tM_K_wear hT) (znI (by omega)) (by omega) dX11_road_75 <| zpc 76 rfl <| ?_
                rw [hw]
                refine zz_goto C 139 dX11_road_76 (by decide) <| zpc 139 rfl <| ?_
                first | rw [nI_add] | skip
                refine zf_ireturn C hE (zle rfl) (zle rfl) dX11_road_139 ?_ rfl rfl
                unfold rAsk; rw [if_neg h5]
                rw [nI_eq (by omega) (by omega)] at c67
                first
                  | (rw [if_pos c67]; done)
                  | (rw [if_pos c67]; rfl)
                  | (rw [if_neg c67]
                     rw [nI_eq (by omega) (by omega)] at c82
                     first
                       | (rw [if_pos c82]; rfl)
                       | (rw [if_neg c82]
                          rw [nI_leI (by omega) (by omega)] at c108
                          first
                            | (rw [if_pos (by omega)]; rfl)
                            | (rw [if_neg (by omega)]; rfl)))
            · rw [nI_leI (by omega) (by omega)] at c53; omega
          · exact absurd rfl c46
        · rw [zb_eq0] at c34; exact absurd hok c34
    · rw [zb_eq0, t1, idxOk (by omega)] at c11; exact absurd ⟨k, hk, rfl⟩ c11
theorem c_way0 {l : Launch} (hT : zTM t) (hD : sdOk D p) (hm : mSd h D p) (s q : Int32) (hs : ¬ ∃ k, k < D.1.1.2.1 ∧ s = nI k) : zMet E b l yX11_way cX11_way 3 (some .int) 4 0 0 [.ref (b + 157), .int s, .int q] t h (qI (fun v t' h' => v = 0 ∧ mCall h t D p 1 t' h')) := by
  have t3 := (hm.th hD 0).1.2.1
  have hng := hD.1.2.1.2.2.1
  refine zMet.of (ls := [some (.ref (b + 157)), some (.int s), some (.int q)]) (by decide) (zle rfl) 0 rfl ?_
  intro G hlG C hR hE hin
  refine zz_aload_0 C dX11_way_0 <| zz_iconst_0 C dX11_way_1 <| zy_putI C fX11_104 pX11_0 (tM_K hT) dX11_way_2 <| zz_aload_0 C dX11_way_5 <| zz_aload_0 C dX11_way_6 <| zz_iload_1 C dX11_way_7 <| zpc 8 rfl <| ?_
  refine zf_callVI C hR [_] (c_isGoing hT _) lX11_200 rfl (tM_K hT) (by decide) rfl ⟨zle rfl, zle rfl, zle rfl, zle rfl⟩ (zle rfl) dX11_way_8 ?_
  refine zz_if_ne C 18 dX11_way_11 (by decide) (fun c11 => ?_) (fun c11 => ?_)
  · rw [zb_ne0, t3, idxOk hng] at c11; exact absurd c11 hs
  · refine zz_iconst_1 C dX11_way_14 <| zz_goto C 19 dX11_way_15 (by decide) <| zz_iconst_1 C dX11_way_19 <| zpc 20 rfl <| ?_
    refine zf_callVI C hR [_, _] (c_bad1 hT _ (by decide) (by first | exact zI_self _ _ _ _ | assumption)) lX11_181 rfl (tM_K hT) (by decide) rfl ⟨zle rfl, zle rfl, zle rfl, zle rfl⟩ (zle rfl) dX11_way_20 ?_
    refine zz_if_ne C 47 dX11_way_23 (by decide) (fun c23 => ?_) (fun c23 => ?_)
    · refine zz_iconst_0 C dX11_way_47 <| zpc 48 rfl <| ?_
      refine zy_ireturn C hE (zle rfl) (zle rfl) dX11_way_48 ?_
      exact ⟨rfl, rfl, (zAg4.th h 0).tr (zAg4.th _ 1), zI_self _ _ _ _, (hm.th hD 0).th hD 1⟩
    · exact absurd c23 (by decide)
theorem c_way2 {l : Launch} (hT : zTM t) (hD : sdOk D p) (hm : mSd h D p) (g : Nat) (hg : g < D.1.1.2.1) (s : Int32) (hs : ¬ ∃ k, k < 2 ^ D.2.1.1.1 ∧ s = nI k) : zMet E b l yX11_way cX11_way 3 (some .int) 4 0 0 [.ref (b + 157), .int (nI g), .int s] t h (qI (fun v t' h' => v = 0 ∧ mCall h t D p 2 t' h')) := by
  have t3 := (hm.th hD 0).1.2.1
  have t1 := (hm.th hD 0).2.2.1
  have hng := hD.1.2.1.2.2.1
  have hn := hD.1.1.2.2.1
  refine zMet.of (ls := [some (.ref (b + 157)), some (.int (nI g)), some (.int s)]) (by decide) (zle rfl) 0 rfl ?_
  intro G hlG C hR hE hin
  refine zz_aload_0 C dX11_way_0 <| zz_iconst_0 C dX11_way_1 <| zy_putI C fX11_104 pX11_0 (tM_K hT) dX11_way_2 <| zz_aload_0 C dX11_way_5 <| zz_aload_0 C dX11_way_6 <| zz_iload_1 C dX11_way_7 <| zpc 8 rfl <| ?_
  refine zf_callVI C hR [_] (c_isGoing hT _) lX11_200 rfl (tM_K hT) (by decide) rfl ⟨zle rfl, zle rfl, zle rfl, zle rfl⟩ (zle rfl) dX11_way_8 ?_
  refine zz_if_ne C 18 dX11_way_11 (by decide) (fun c11 => ?_) (fun c11 => ?_)
  · refine zz_iconst_0 C dX11_way_18 <| zz_iconst_1 C dX11_way_19 <| zpc 20 rfl <| ?_
    refine zf_callVI C hR [_, _] (c_bad0 hT _ (by decide) (by first | exact zI_self _ _ _ _ | assumption)) lX11_181 rfl (tM_K hT) (by decide) rfl ⟨zle rfl, zle rfl, zle rfl, zle rfl⟩ (zle rfl) dX11_way_20 ?_
    refine zz_if_ne C 47 dX11_way_23 (by decide) (fun c23 => ?_) (fun c23 => ?_)
    · exact absurd rfl c23
    · refine zz_aload_0 C dX11_way_26 <| zz_aload_0 C dX11_way_27 <| zz_iload_2 C dX11_way_28 <| zpc 29 rfl <| ?_
      refine zf_callVI C hR [_] (c_areRoads hT _) lX11_252 rfl (tM_K hT) (by decide) rfl ⟨zle rfl, zle rfl, zle rfl, zle rfl⟩ (zle rfl) dX11_way_29 ?_
      refine zz_if_ne C 39 dX11_way_32 (by decide) (fun c32 => ?_) (fun c32 => ?_)
      · rw [zb_ne0, t1, setOk hn] at c32; exact absurd c32 hs
      · refine zz_iconst_1 C dX11_way_35 <| zz_goto C 40 dX11_way_36 (by decide) <| zz_iconst_2 C dX11_way_40 <| zpc 41 rfl <| ?_
        refine zf_callVI C hR [_, _] (c_bad1 hT _ (by decide) (by first | exact zI_self _ _ _ _ | assumption)) lX11_181 rfl (tM_K hT) (by decide) rfl ⟨zle rfl, zle rfl, zle rfl, zle rfl⟩ (zle rfl) dX11_way_41 ?_
        refine zz_if_eq C 49 dX11_way_44 (by decide) (fun c44 => ?_) (fun c44 => ?_)
        · exact absurd c44 (by decide)
        · refine zz_iconst_0 C dX11_way_47 <| zpc 48 rfl <| ?_
          refine zy_ireturn C hE (zle rfl) (zle rfl) dX11_way_48 ?_
          exact ⟨rfl, rfl, (zAg4.th h 0).tr (zAg4.th _ 2), zI_self _ _ _ _, (hm.th hD 0).th hD 2⟩
  · rw [zb_eq0, t3, idxOk hng] at c11; exact absurd ⟨g, hg, rfl⟩ c11
/-- a going's way with some roads shut -/
noncomputable def gw (D : yD) (g s : Nat) : Option (List Nat) := nWay D.1.1.1 D.2.1.1.1 D.2.1.1.2.1 s D.2.1.2 D.2.2.1.1 (D.1.2.1 g 0) (D.1.2.1 g 1)
theorem c_way1 {l : Launch} (hT : zTM t) (hD : sdOk D p) (hm : mSd h D p) (g s : Nat) (hg : g < D.1.1.2.1) (hs : s < 2 ^ D.2.1.1.1) : zMet E b l yX11_way cX11_way 3 (some .int) 4 0 0 [.ref (b + 157), .int (nI g), .int (nI s)] t h (qI (fun v t' h' => v = oI ((gw D g s).map (mSum D.2.1.2 D.2.2.1.1)) ∧ mCall h t D p 0 t' h')) := by
  have hm0 := hm.th hD 0
  have t3 := hm0.1.2.1
  have t1 := hm0.2.2.1
  have hng := hD.1.2.1.2.2.1
  have hn := hD.1.1.2.2.1
  have hp : 2 ^ D.2.1.1.1 ≤ 2 ^ 11 := Nat.pow_le_pow_right (by decide) hn
  have hgg := hD.1.2.1.2.2.2.2.1 g hg
  refine zMet.of (ls := [some (.ref (b + 157)), some (.int (nI g)), some (.int (nI s))]) (by decide) (zle rfl) 0 rfl ?_
  intro G hlG C hR hE hin
  refine zz_aload_0 C dX11_way_0 <| zz_iconst_0 C dX11_way_1 <| zy_putI C fX11_104 pX11_0 (tM_K hT) dX11_way_2 <| zz_aload_0 C dX11_way_5 <| zz_aload_0 C dX11_way_6 <| zz_iload_1 C dX11_way_7 <| zpc 8 rfl <| ?_
  refine zf_callVI C hR [_] (c_isGoing hT _) lX11_200 rfl (tM_K hT) (by decide) rfl ⟨zle rfl, zle rfl, zle rfl, zle rfl⟩ (zle rfl) dX11_way_8 ?_
  refine zz_if_ne C 18 dX11_way_11 (by decide) (fun c11 => ?_) (fun c11 => ?_)
  · refine zz_iconst_0 C dX11_way_18 <| zz_iconst_1 C dX11_way_19 <| zpc 20 rfl <| ?_
    refine zf_callVI C hR [_, _] (c_bad0 hT _ (by decide) (by first | exact zI_self _ _ _ _ | assumption)) lX11_181 rfl (tM_K hT) (by decide) rfl ⟨zle rfl, zle rfl, zle rfl, zle rfl⟩ (zle rfl) dX11_way_20 ?_
    refine zz_if_ne C 47 dX11_way_23 (by decide) (fun c23 => ?_) (fun c23 => ?_)
    · exact absurd rfl c23
    · refine zz_aload_0 C dX11_way_26 <| zz_aload_0 C dX11_way_27 <| zz_iload_2 C dX11_way_28 <| zpc 29 rfl <| ?_
      refine zf_callVI C hR [_] (c_areRoads hT _) lX11_252 rfl (tM_K hT) (by decide) rfl ⟨zle rfl, zle rfl, zle rfl, zle rfl⟩ (zle rfl) dX11_way_29 ?_
      refine zz_if_ne C 39 dX11_way_32 (by decide) (fun c32 => ?_) (fun c32 => ?_)
      · refine zz_iconst_0 C dX11_way_39 <| zz_iconst_2 C dX11_way_40 <| zpc 41 rfl <| ?_
        refine zf_callVI C hR [_, _] (c_bad0 hT _ (by decide) (by first | exact zI_self _ _ _ _ | assumption)) lX11_181 rfl (tM_K hT) (by decide) rfl ⟨zle rfl, zle rfl, zle rfl, zle rfl⟩ (zle rfl) dX11_way_41 ?_
        refine zz_if_eq C 49 dX11_way_44 (by decide) (fun c44 => ?_) (fun c44 => ?_)
        · refine zz_aload_0 C dX11_way_49 <| zpc 50 rfl <| ?_
          refine zy_callVV C hR [] (c_lays hT hD hm0) lX11_255 rfl (tM_K hT) (by decide) rfl ⟨zle rfl, zle rfl, zle rfl, zle rfl⟩ (zle rfl) dX11_way_50 ?_
          intro t' h' hv; obtain ⟨rfl, a1, hw⟩ := hv
          refine zz_aload_0 C dX11_way_53 <| zz_aload_0 C dX11_way_54 <| zz_getR C fX11_46 (tM_K hT) (tM_R_going hT) dX11_way_55 <| zz_iload_1 C dX11_way_58 <| zc_row C _ (tM_K_going hT) (tM_row_going hT) (znI (by omega)) (by omega) dX11_way_59 <| fun r59 => ?_
          refine zz_iconst_0 C dX11_way_60 <| zc_iaload C 0 (tM_KR_going hT _ r59) (zlit _ (by decide)) (by decide) dX11_way_61 <| zpc 62 rfl <| ?_
          rw [hw.1.2.1.2.2.2.1 g hg 0 (by omega)]
          refine zz_aload_0 C dX11_way_62 <| zz_getR C fX11_46 (tM_K hT) (tM_R_going hT) dX11_way_63 <| zz_iload_1 C dX11_way_66 <| zc_row C _ (tM_K_going hT) (tM_row_going hT) (znI (by omega)) (by omega) dX11_way_67 <| fun r67 => ?_
          refine zz_iconst_1 C dX11_way_68 <| zc_iaload C 1 (tM_KR_going hT _ r67) (zlit _ (by decide)) (by decide) dX11_way_69 <| zpc 70 rfl <| ?_
          rw [hw.1.2.1.2.2.2.1 g hg 1 (by omega)]
          refine zz_iload_2 C dX11_way_70 <| zpc 71 rfl <| ?_
          refine zy_callVI C hR [_, _, _] (c_findWay hT hD.1.1 hw.1.1 _ _ _ hgg.1 hgg.2.1 (by omega)) lX11_258 rfl (tM_K hT) (by decide) rfl ⟨zle rfl, zle rfl, zle rfl, zle rfl⟩ (zle rfl) dX11_way_71 ?_
          intro v t' h' hv; obtain ⟨rfl, rfl, -, -, f2, g2, rfl, -⟩ := hv
          refine zz_if_eq C 84 dX11_way_74 (by decide) (fun c74 => ?_) (fun c74 => ?_)
          · refine zz_iconst_m1 C dX11_way_84 <| zpc 85 rfl <| ?_
            refine zy_ireturn C hE (zle rfl) (zle rfl) dX11_way_85 ?_
            refine ⟨?_, rfl, (zAg4.th h 0).tr (.of3 (a1.tr (zAg3.sc _ _ _ _ _))), (a1.tr (zAg3.sc _ _ _ _ _)).th (zI_self _ _ _ _), (a1.tr (zAg3.sc _ _ _ _ _)).sd hD hm0⟩
            unfold gw
            first
              | (rw [zb_eq0] at c74
                 cases ho : nWay D.1.1.1 D.2.1.1.1 D.2.1.1.2.1 s D.2.1.2 D.2.2.1.1 (D.1.2.1 g 0) (D.1.2.1 g 1) with
                 | none => rfl
                 | some l => exact absurd (by rw [ho]; rfl) c74)
              | (rw [zb_ne0] at c74
                 cases ho : nWay D.1.1.1 D.2.1.1.1 D.2.1.1.2.1 s D.2.1.2 D.2.2.1.1 (D.1.2.1 g 0) (D.1.2.1 g 1) with
                 | none => rw [ho] at c74; exact absurd c74 (by decide)
                 | some l => rw [zI_mSc]; simp [ho, oI])
          · refine zz_aload_0 C dX11_way_77 <| zz_getI C fX11_220 (tM_K hT) dX11_way_78 <| zz_goto C 85 dX11_way_81 (by decide) <| zpc 85 rfl <| ?_
            refine zy_ireturn C hE (zle rfl) (zle rfl) dX11_way_85 ?_
            refine ⟨?_, rfl, (zAg4.th h 0).tr (.of3 (a1.tr (zAg3.sc _ _ _ _ _))), (a1.tr (zAg3.sc _ _ _ _ _)).th (zI_self _ _ _ _), (a1.tr (zAg3.sc _ _ _ _ _)).sd hD hm0⟩
            unfold gw
            first
              | (rw [zb_eq0] at c74
                 cases ho : nWay D.1.1.1 D.2.1.1.1 D.2.1.1.2.1 s D.2.1.2 D.2.2.1.1 (D.1.2.1 g 0) (D.1.2.1 g 1) with
                 | none => rfl
                 | some l => exact absurd (by rw [ho]; rfl) c74)
              | (rw [zb_ne0] at c74
                 cases ho : nWay D.1.1.1 D.2.1.1.1 D.2.1.1.2.1 s D.2.1.2 D.2.2.1.1 (D.1.2.1 g 0) (D.1.2.1 g 1) with
                 | none => rw [ho] at c74; exact absurd c74 (by decide)
                 | some l => rw [zI_mSc]; simp [ho, oI])
        · exact absurd rfl c44
      · rw [zb_eq0, t1, setOk hn] at c32; exact absurd ⟨s, hs, rfl⟩ c32
  · rw [zb_eq0, t3, idxOk hng] at c11; exact absurd ⟨g, hg, rfl⟩ c11
end MB
