/-! ===== the reference: fewest, lasts ===== -/
theorem frTo {s : Int32} (M : Int32) (n : Nat) (hM : M = nI n) (hn : n < 2 ^ 31) : (1 ≤ s ∧ s ≤ M) ↔ ∃ k, 1 ≤ k ∧ k ≤ n ∧ s = nI k := by
  subst hM
  constructor
  · intro q
    obtain ⟨j, hj, e⟩ := nI_of2 (x := s) (n := n) (nI_toInt hn) (fun z => by have := q.1; grind) q.2
    have h1 := q.1
    rw [e, show (1 : Int32) = nI 1 from rfl, nI_leI (by omega) (by omega)] at h1
    exact ⟨j, h1, hj, e⟩
  · rintro ⟨k, h1, hk, rfl⟩
    exact ⟨nI_le (a := 1) h1 (by omega), nI_le hk hn⟩
def fFew (N a c q : Nat) : Option Nat := if c / a = 0 then none else some (if q = 0 then 1 + (N + c / a - 1) / (c / a) else if q = 1 then c / a else (1 + (N + c / a - 1) / (c / a)) * (c / a))
section MFW
variable {E : zE} {b : Nat} {G : zG} {t : zT} {h : zH} {N : Nat}
theorem c_fewest0 {l : Launch} (hT : zTM t) (x y z : Int32) (hno : ¬ ((∃ k, 1 ≤ k ∧ k ≤ 99 ∧ x = nI k) ∧ (∃ k, 1 ≤ k ∧ k ≤ 99 ∧ y = nI k) ∧ ∃ k, k ≤ 2 ∧ z = nI k)) : zMet E b l yX11_fewest cX11_fewest 6 (some .int) 2 0 0 [.ref (b + 157), .int x, .int y, .int z] t h (qIf 0 t (zsI (zsI h 157 0 0) 157 0 1)) := by
  refine zMet.of (ls := [some (.ref (b + 157)), some (.int x), some (.int y), some (.int z), none, none]) (by decide) (zle rfl) 2 rfl ?_
  intro G hlG C hR hE hin
  refine zz_aload_0 C dX11_fewest_0 <| zz_iconst_0 C dX11_fewest_1 <| zy_putI C fX11_104 pX11_0 (tM_K hT) dX11_fewest_2 <| zz_aload_0 C dX11_fewest_5 <| zz_iload_1 C dX11_fewest_6 <| zz_iconst_1 C dX11_fewest_7 <| zz_bipush C 99 dX11_fewest_8 (by decide) <| zpc 10 rfl <| ?_
  refine zf_callSI C hR [_, _, _] (c_in _ _ _) lX11_138 rfl ⟨zle rfl, zle rfl, zle rfl, zle rfl⟩ (zle rfl) dX11_fewest_10 ?_
  refine zz_if_eq C 35 dX11_fewest_13 (by decide) (fun c13 => ?_) (fun c13 => ?_)
  · refine zz_iconst_1 C dX11_fewest_35 <| zz_goto C 40 dX11_fewest_36 (by decide) <| zz_iconst_1 C dX11_fewest_40 <| zpc 41 rfl <| ?_
    refine zf_callVI C hR [_, _] (c_bad1 hT _ (by decide) (by first | exact zI_self _ _ _ _ | assumption)) lX11_181 rfl (tM_K hT) (by decide) rfl ⟨zle rfl, zle rfl, zle rfl, zle rfl⟩ (zle rfl) dX11_fewest_41 ?_
    refine zz_if_eq C 49 dX11_fewest_44 (by decide) (fun c44 => ?_) (fun c44 => ?_)
    · exact absurd c44 (by decide)
    · refine zz_iconst_0 C dX11_fewest_47 <| zpc 48 rfl <| ?_
      exact zf_ireturn C hE (zle rfl) (zle rfl) dX11_fewest_48 rfl rfl rfl
  · refine zz_iload_2 C dX11_fewest_16 <| zz_iconst_1 C dX11_fewest_17 <| zz_bipush C 99 dX11_fewest_18 (by decide) <| zpc 20 rfl <| ?_
    refine zf_callSI C hR [_, _, _] (c_in _ _ _) lX11_138 rfl ⟨zle rfl, zle rfl, zle rfl, zle rfl⟩ (zle rfl) dX11_fewest_20 ?_
    refine zz_if_eq C 35 dX11_fewest_23 (by decide) (fun c23 => ?_) (fun c23 => ?_)
    · refine zz_iconst_1 C dX11_fewest_35 <| zz_goto C 40 dX11_fewest_36 (by decide) <| zz_iconst_1 C dX11_fewest_40 <| zpc 41 rfl <| ?_
      refine zf_callVI C hR [_, _] (c_bad1 hT _ (by decide) (by first | exact zI_self _ _ _ _ | assumption)) lX11_181 rfl (tM_K hT) (by decide) rfl ⟨zle rfl, zle rfl, zle rfl, zle rfl⟩ (zle rfl) dX11_fewest_41 ?_
      refine zz_if_eq C 49 dX11_fewest_44 (by decide) (fun c44 => ?_) (fun c44 => ?_)
      · exact absurd c44 (by decide)
      · refine zz_iconst_0 C dX11_fewest_47 <| zpc 48 rfl <| ?_
        exact zf_ireturn C hE (zle rfl) (zle rfl) dX11_fewest_48 rfl rfl rfl
    · refine zz_iload_3 C dX11_fewest_26 <| zz_iconst_0 C dX11_fewest_27 <| zz_iconst_2 C dX11_fewest_28 <| zpc 29 rfl <| ?_
      refine zf_callSI C hR [_, _, _] (c_in _ _ _) lX11_138 rfl ⟨zle rfl, zle rfl, zle rfl, zle rfl⟩ (zle rfl) dX11_fewest_29 ?_
      refine zz_if_ne C 39 dX11_fewest_32 (by decide) (fun c32 => ?_) (fun c32 => ?_)
      · rw [zb_ne0] at c13 c23 c32; exact absurd ⟨(frTo 99 99 rfl (by omega)).mp c13, (frTo 99 99 rfl (by omega)).mp c23, (upTo 2 2 rfl (by omega)).mp c32⟩ hno
      · refine zz_iconst_1 C dX11_fewest_35 <| zz_goto C 40 dX11_fewest_36 (by decide) <| zz_iconst_1 C dX11_fewest_40 <| zpc 41 rfl <| ?_
        refine zf_callVI C hR [_, _] (c_bad1 hT _ (by decide) (by first | exact zI_self _ _ _ _ | assumption)) lX11_181 rfl (tM_K hT) (by decide) rfl ⟨zle rfl, zle rfl, zle rfl, zle rfl⟩ (zle rfl) dX11_fewest_41 ?_
        refine zz_if_eq C 49 dX11_fewest_44 (by decide) (fun c44 => ?_) (fun c44 => ?_)
        · exact absurd c44 (by decide)
        · refine zz_iconst_0 C dX11_fewest_47 <| zpc 48 rfl <| ?_
          exact zf_ireturn C hE (zle rfl) (zle rfl) dX11_fewest_48 rfl rfl rfl
theorem c_fewest1 {l : Launch} (hT : zTM t) (hN : zI h 160 5 = nI N) (hN3 : 3 ≤ N) (hN11 : N ≤ 11) (a c q : Nat) (ha1 : 1 ≤ a) (ha : a ≤ 99) (hc1 : 1 ≤ c) (hc : c ≤ 99) (hq : q ≤ 2) : zMet E b l yX11_fewest cX11_fewest 6 (some .int) 2 0 0 [.ref (b + 157), .int (nI a), .int (nI c), .int (nI q)] t h (qIf (oI (fFew N a c q)) t (zsI h 157 0 0)) := by
  have o1 : (1 ≤ nI a ∧ nI a ≤ 99) := (frTo 99 99 rfl (by omega)).mpr ⟨a, ha1, ha, rfl⟩
  have o2 : (1 ≤ nI c ∧ nI c ≤ 99) := (frTo 99 99 rfl (by omega)).mpr ⟨c, hc1, hc, rfl⟩
  have o3 : (0 ≤ nI q ∧ nI q ≤ 2) := (upTo 2 2 rfl (by omega)).mpr ⟨q, hq, rfl⟩
  have hN0 : zI (zsI h 157 0 0) 160 5 = nI N := by rw [zI_sI, if_neg (by omega)]; exact hN
  have hu : c / a ≤ 99 := Nat.le_trans (Nat.div_le_self _ _) hc
  have hu2 : (N + c / a - 1) / (c / a) ≤ 110 := Nat.le_trans (Nat.div_le_self _ _) (by omega)
  refine zMet.of (ls := [some (.ref (b + 157)), some (.int (nI a)), some (.int (nI c)), some (.int (nI q)), none, none]) (by decide) (zle rfl) 2 rfl ?_
  intro G hlG C hR hE hin
  refine zz_aload_0 C dX11_fewest_0 <| zz_iconst_0 C dX11_fewest_1 <| zy_putI C fX11_104 pX11_0 (tM_K hT) dX11_fewest_2 <| zz_aload_0 C dX11_fewest_5 <| zz_iload_1 C dX11_fewest_6 <| zz_iconst_1 C dX11_fewest_7 <| zz_bipush C 99 dX11_fewest_8 (by decide) <| zpc 10 rfl <| ?_
  refine zf_callSI C hR [_, _, _] (c_in _ _ _) lX11_138 rfl ⟨zle rfl, zle rfl, zle rfl, zle rfl⟩ (zle rfl) dX11_fewest_10 ?_
  refine zz_if_eq C 35 dX11_fewest_13 (by decide) (fun c13 => ?_) (fun c13 => ?_)
  · rw [zb_eq0] at c13; exact absurd o1 c13
  · refine zz_iload_2 C dX11_fewest_16 <| zz_iconst_1 C dX11_fewest_17 <| zz_bipush C 99 dX11_fewest_18 (by decide) <| zpc 20 rfl <| ?_
    refine zf_callSI C hR [_, _, _] (c_in _ _ _) lX11_138 rfl ⟨zle rfl, zle rfl, zle rfl, zle rfl⟩ (zle rfl) dX11_fewest_20 ?_
    refine zz_if_eq C 35 dX11_fewest_23 (by decide) (fun c23 => ?_) (fun c23 => ?_)
    · rw [zb_eq0] at c23; exact absurd o2 c23
    · refine zz_iload_3 C dX11_fewest_26 <| zz_iconst_0 C dX11_fewest_27 <| zz_iconst_2 C dX11_fewest_28 <| zpc 29 rfl <| ?_
      refine zf_callSI C hR [_, _, _] (c_in _ _ _) lX11_138 rfl ⟨zle rfl, zle rfl, zle rfl, zle rfl⟩ (zle rfl) dX11_fewest_29 ?_
      refine zz_if_ne C 39 dX11_fewest_32 (by decide) (fun c32 => ?_) (fun c32 => ?_)
      · refine zz_iconst_0 C dX11_fewest_39 <| zz_iconst_1 C dX11_fewest_40 <| zpc 41 rfl <| ?_
        refine zf_callVI C hR [_, _] (c_bad0 hT _ (by decide) (by first | exact zI_self _ _ _ _ | assumption)) lX11_181 rfl (tM_K hT) (by decide) rfl ⟨zle rfl, zle rfl, zle rfl, zle rfl⟩ (zle rfl) dX11_fewest_41 ?_
        refine zz_if_eq C 49 dX11_fewest_44 (by decide) (fun c44 => ?_) (fun c44 => ?_)
        · refine zz_iload_2 C dX11_fewest_49 <| zz_iload_1 C dX11_fewest_50 <| zz_idiv C dX11_fewest_51 (by exact nI_ne0 (by omega) (by omega)) <| zpc 52 rfl <| ?_
          rw [pk_div (by omega) (by omega) (by omega)]
          refine zz_istore_4 C (zle rfl) rfl dX11_fewest_52 <| zz_iload_4 C dX11_fewest_54 <| zpc 56 rfl <| ?_
          refine zz_if_ne C 61 dX11_fewest_56 (by decide) (fun c56 => ?_) (fun c56 => ?_)
          · refine zz_iconst_1 C dX11_fewest_61 <| zz_aload_0 C dX11_fewest_62 <| zz_getR C fX11_20 (tM_K hT) (tM_R_told hT) dX11_fewest_63 <| zz_iconst_5 C dX11_fewest_66 <| zc_iaload C 5 (tM_K_told hT) (zlit _ (by decide)) (by decide) dX11_fewest_67 <| zpc 68 rfl <| ?_
            rw [hN0]
            refine zz_iload_4 C dX11_fewest_68 <| zz_iadd C dX11_fewest_70 <| zpc 71 rfl <| ?_
            rw [nI_add]
            refine zz_iconst_1 C dX11_fewest_71 <| zz_isub C dX11_fewest_72 <| zpc 73 rfl <| ?_
            rw [show (1 : Int32) = nI 1 from rfl, pk_sub (Nat.le_trans (show 1 ≤ N by omega) (Nat.le_add_right N (c / a)))]
            refine zz_iload_4 C dX11_fewest_73 <| zz_idiv C dX11_fewest_75 (by exact c56) <| zpc 76 rfl <| ?_
            rw [pk_div (by omega) (Nat.pos_of_ne_zero (fun q => c56 (by rw [q]; rfl))) (by omega)]
            refine zz_iadd C dX11_fewest_76 <| zpc 77 rfl <| ?_
            rw [nI_add]
            refine zz_istore_5 C (zle rfl) rfl dX11_fewest_77 <| zz_iload_3 C dX11_fewest_79 <| zpc 80 rfl <| ?_
            refine zz_if_ne C 88 dX11_fewest_80 (by decide) (fun c80 => ?_) (fun c80 => ?_)
            · refine zz_iload_3 C dX11_fewest_88 <| zz_iconst_1 C dX11_fewest_89 <| zpc 90 rfl <| ?_
              refine zz_icmp_ne C 98 dX11_fewest_90 (by decide) (fun c90 => ?_) (fun c90 => ?_)
              · refine zz_iload_5 C dX11_fewest_98 <| zz_iload_4 C dX11_fewest_100 <| zz_imul C dX11_fewest_102 <| zpc 103 rfl <| ?_
                first | rw [pk_mul] | skip
                refine zf_ireturn C hE (zle rfl) (zle rfl) dX11_fewest_103 ?_ rfl rfl
                rw [show (0 : Int32) = nI 0 from rfl, nI_eq (by omega) (by omega)] at c56
                unfold fFew; rw [if_neg c56]
                rw [show (0 : Int32) = nI 0 from rfl, nI_eq (by omega) (by omega)] at c80
                first
                  | (rw [if_pos c80]; rfl)
                  | (rw [if_neg c80]
                     rw [show (1 : Int32) = nI 1 from rfl, nI_eq (by omega) (by omega)] at c90
                     first
                       | (rw [if_pos c90]; rfl)
                       | (rw [if_neg c90]; rfl))
              · refine zz_iload_4 C dX11_fewest_93 <| zz_goto C 103 dX11_fewest_95 (by decide) <| zpc 103 rfl <| ?_
                first | rw [pk_mul] | skip
                refine zf_ireturn C hE (zle rfl) (zle rfl) dX11_fewest_103 ?_ rfl rfl
                rw [show (0 : Int32) = nI 0 from rfl, nI_eq (by omega) (by omega)] at c56
                unfold fFew; rw [if_neg c56]
                rw [show (0 : Int32) = nI 0 from rfl, nI_eq (by omega) (by omega)] at c80
                first
                  | (rw [if_pos c80]; rfl)
                  | (rw [if_neg c80]
                     rw [show (1 : Int32) = nI 1 from rfl, nI_eq (by omega) (by omega)] at c90
                     first
                       | (rw [if_pos c90]; rfl)
                       | (rw [if_neg c90]; rfl))
            · refine zz_iload_5 C dX11_fewest_83 <| zz_goto C 103 dX11_fewest_85 (by decide) <| zpc 103 rfl <| ?_
              first | rw [pk_mul] | skip
              refine zf_ireturn C hE (zle rfl) (zle rfl) dX11_fewest_103 ?_ rfl rfl
              rw [show (0 : Int32) = nI 0 from rfl, nI_eq (by omega) (by omega)] at c56
              unfold fFew; rw [if_neg c56]
              rw [show (0 : Int32) = nI 0 from rfl, nI_eq (by omega) (by omega)] at c80
              first
                | (rw [if_pos c80]; rfl)
                | (rw [if_neg c80]
                   rw [show (1 : Int32) = nI 1 from rfl, nI_eq (by omega) (by omega)] at c90
                   first
                     | (rw [if_pos c90]; rfl)
                     | (rw [if_neg c90]; rfl))
          · refine zz_iconst_m1 C dX11_fewest_59 <| zpc 60 rfl <| ?_
            refine zf_ireturn C hE (zle rfl) (zle rfl) dX11_fewest_60 ?_ rfl rfl
            rw [show (0 : Int32) = nI 0 from rfl, nI_eq (by omega) (by omega)] at c56
            unfold fFew; rw [if_pos c56]; rfl
        · exact absurd rfl c44
      · rw [zb_eq0] at c32; exact absurd o3 c32
end MFW
