/-! ===== the reference: which roads a rule shuts ===== -/
theorem zshl1 {k : Nat} (hk : k < 16) : (1 : Int32) <<< (nI k &&& 31) = nI (2 ^ k) := by
  have : ∀ k : Fin 16, (1 : Int32) <<< (nI k.val &&& 31) = nI (2 ^ k.val) := by decide
  exact this ⟨k, hk⟩
theorem zorp {s k : Nat} (hs : s < 2 ^ k) : nI s ||| nI (2 ^ k) = nI (s + 2 ^ k) := by
  have h1 : nI s ||| nI (2 ^ k) = nI (s ||| 2 ^ k) := by
    refine Int32.toBitVec_inj.mp ?_
    show BitVec.ofNat 32 s ||| BitVec.ofNat 32 (2 ^ k) = BitVec.ofNat 32 (s ||| 2 ^ k)
    rw [BitVec.ofNat_or]
  have h2 := Nat.two_pow_add_eq_or_of_lt hs 1
  rw [Nat.mul_one] at h2
  rw [h1, Nat.add_comm, h2, Nat.or_comm]
/-- the row: how many days, which roads -/
def mRo (h : zH) (R : Nat × (Nat → Nat)) : Prop := zI h 157 20 = nI R.1 ∧ ∀ k, k < R.1 → zI h 228 k = nI (R.2 k)
def roOk (R : Nat × (Nat → Nat)) : Prop := R.1 ≤ 30 ∧ ∀ k, k < R.1 → R.2 k < 2 ^ 30
/-- rule 2: the worst road, if it is half used -/
def rWst (F : Nat → Nat → Nat) (w : Nat → Nat) : Nat → Option Nat
  | 0 => none
  | k + 1 => if 2 * w k ≤ F k 4 then rWst F w k else match rWst F w k with
    | none => some k
    | some j => if w k ≤ w j then some j else some k
theorem rWst_lt {F : Nat → Nat → Nat} {w : Nat → Nat} : ∀ {n j : Nat}, rWst F w n = some j → j < n
  | n + 1, j, hq => by
    unfold rWst at hq
    split at hq
    · have := rWst_lt hq; omega
    · split at hq
      · cases hq; omega
      · rename_i i hi
        have := rWst_lt hi
        split at hq
        · cases hq; omega
        · cases hq; omega
/-- rule 3: those that rest already, one after the other, as long as all have a way -/
noncomputable def rRst (L : yL) (A : yN) (p : yP) (w r : Nat → Nat) (day gone : Nat) : Nat → Nat
  | 0 => 0
  | k + 1 => @ite _ (0 < w k ∧ 0 < r k ∧ rAll L A p w day gone (rRst L A p w r day gone k + 2 ^ k)) (Classical.propDecidable _) (rRst L A p w r day gone k + 2 ^ k) (rRst L A p w r day gone k)
theorem rRst_lt (L : yL) (A : yN) (p : yP) (w r : Nat → Nat) (day gone : Nat) : ∀ k, rRst L A p w r day gone k < 2 ^ k
  | 0 => Nat.zero_lt_one
  | k + 1 => by
    have := rRst_lt L A p w r day gone k
    unfold rRst
    have h2 : 2 ^ (k + 1) = 2 ^ k + 2 ^ k := by rw [Nat.pow_succ]; omega
    split <;> omega
/-- what a rule shuts -/
noncomputable def rShut (L : yL) (A : yN) (p : yP) (R : Nat × (Nat → Nat)) (x : yS) : Nat → Nat
  | 0 => 0
  | 1 => R.2 (x.2.1.2 % R.1)
  | 2 => match rWst A.2 x.1.1 A.1.1 with
    | none => 0
    | some k => @ite _ (rAll L A p x.1.1 x.2.1.1 x.2.1.2 (2 ^ k)) (Classical.propDecidable _) (2 ^ k) 0
  | _ => rRst L A p x.1.1 x.1.2 x.2.1.1 x.2.1.2 A.1.1
section MS
variable {E : zE} {b : Nat} {G : zG} {t : zT} {h : zH} {L : yL} {A : yN} {p : yP} {w r : Nat → Nat} {n day gone s : Nat} {v2 : Int32} {x2 x3 x4 : Option Value}
/-- the worst road -/
theorem l_wst (hT : zTM t) (hS : sOk L A p w) (hm : mSt h L A p w day gone) (C : zCx E b G RX11 cX11_shutBy 5 (some .int))
    (kont : ∀ (x4 : Option Value), zAW E b G 5 0 0 98 [some (.ref (b + 157)), some (.int (nI 2)), some (.int v2), some (.int (oI (rWst A.2 w A.1.1))), x4] [] t h) :
    ∀ (m k : Nat), k + m = A.1.1 → zAW E b G 5 0 0 38 [some (.ref (b + 157)), some (.int (nI 2)), some (.int v2), some (.int (oI (rWst A.2 w k))), some (.int (nI k))] [] t h := by
  obtain ⟨-, -, hn, -, hb⟩ := hS.1
  obtain ⟨-, hr, -, hf⟩ := hm.1
  intro m
  induction m with
  | zero =>
    intro k hk
    refine zz_iload_4 C dX11_shutBy_38 <| zz_aload_0 C dX11_shutBy_40 <| zz_getI C fX11_204 (tM_K hT) dX11_shutBy_41 <| zpc 44 rfl <| ?_
    rw [hr]
    refine zz_icmp_ge C 98 dX11_shutBy_44 (by decide) (fun c44 => ?_) (fun c44 => ?_)
    · rw [show k = A.1.1 by omega]; exact kont _
    · exact absurd (nI_le (by omega) (by omega)) c44
  | succ m ih =>
    intro k hk
    have hwk := (hf k (by omega)).2
    have hfk := (hf k (by omega)).1 4 (by omega)
    have hbk := (hb k (by omega))
    have hst : rWst A.2 w (k + 1) = if 2 * w k ≤ A.2 k 4 then rWst A.2 w k else match rWst A.2 w k with | none => some k | some j => if w k ≤ w j then some j else some k := rfl
    have i2 : (2 : Int32) = nI 2 := rfl
    have ihk := ih (k + 1) (by omega)
    rw [hst] at ihk
    cases hq : rWst A.2 w k with
    | none =>
      rw [hq] at ihk
      refine zz_iload_4 C dX11_shutBy_38 <| zz_aload_0 C dX11_shutBy_40 <| zz_getI C fX11_204 (tM_K hT) dX11_shutBy_41 <| zpc 44 rfl <| ?_
      rw [hr]
      refine zz_icmp_ge C 98 dX11_shutBy_44 (by decide) (fun c44 => ?_) (fun c44 => ?_)
      · exact absurd c44 (nI_ge (by omega) (by omega))
      · refine zz_iconst_2 C dX11_shutBy_47 <| zz_aload_0 C dX11_shutBy_48 <| zz_getR C fX11_61 (tM_K hT) (tM_R_w hT) dX11_shutBy_49 <| zz_iload_4 C dX11_shutBy_52 <| zc_iaload C _ (tM_K_w hT) (znI (by omega)) (by omega) dX11_shutBy_54 <| zpc 55 rfl <| ?_
        rw [hwk, i2]
        refine zz_imul C dX11_shutBy_55 <| zpc 56 rfl <| ?_
        rw [pk_mul]
        refine zz_aload_0 C dX11_shutBy_56 <| zz_getR C fX11_34 (tM_K hT) (tM_R_road hT) dX11_shutBy_57 <| zz_iload_4 C dX11_shutBy_60 <| zc_row C _ (tM_K_road hT) (tM_row_road hT) (znI (by omega)) (by omega) dX11_shutBy_62 <| fun r62 => ?_
        refine zz_iconst_4 C dX11_shutBy_63 <| zc_iaload C 4 (tM_KR_road hT _ r62) (zlit _ (by decide)) (by decide) dX11_shutBy_64 <| zpc 65 rfl <| ?_
        rw [hfk]
        refine zz_icmp_le C 92 dX11_shutBy_65 (by decide) (fun c65 => ?_) (fun c65 => ?_)
        · refine zz_iinc_4 C _ (zle rfl) rfl dX11_shutBy_92 nI_s <| zz_goto C 38 dX11_shutBy_95 (by decide) <| zpc 38 rfl <| ?_
          rw [nI_leI (by omega) (by omega)] at c65
          first | rw [if_pos c65] at ihk | rw [if_neg c65] at ihk
          exact ihk
        · refine zz_iload_3 C dX11_shutBy_68 <| zz_iconst_m1 C dX11_shutBy_69 <| zpc 70 rfl <| ?_
          refine zz_icmp_eq C 89 dX11_shutBy_70 (by decide) (fun c70 => ?_) (fun c70 => ?_)
          · refine zz_iload_4 C dX11_shutBy_89 <| zz_istore_3 C (zle rfl) rfl dX11_shutBy_91 <| zz_iinc_4 C _ (zle rfl) rfl dX11_shutBy_92 nI_s <| zz_goto C 38 dX11_shutBy_95 (by decide) <| zpc 38 rfl <| ?_
            rw [nI_leI (by omega) (by omega)] at c65
            first | rw [if_pos c65] at ihk | rw [if_neg c65] at ihk
            exact ihk
          · exact absurd rfl c70
    | some j =>
      rw [hq] at ihk
      have hj := rWst_lt hq
      have hwj := (hf j (by omega)).2
      have hbj := (hb j (by omega))
      show zAW E b G 5 0 0 38 [some (.ref (b + 157)), some (.int (nI 2)), some (.int v2), some (.int (nI j)), some (.int (nI k))] [] t h
      refine zz_iload_4 C dX11_shutBy_38 <| zz_aload_0 C dX11_shutBy_40 <| zz_getI C fX11_204 (tM_K hT) dX11_shutBy_41 <| zpc 44 rfl <| ?_
      rw [hr]
      refine zz_icmp_ge C 98 dX11_shutBy_44 (by decide) (fun c44 => ?_) (fun c44 => ?_)
      · exact absurd c44 (nI_ge (by omega) (by omega))
      · refine zz_iconst_2 C dX11_shutBy_47 <| zz_aload_0 C dX11_shutBy_48 <| zz_getR C fX11_61 (tM_K hT) (tM_R_w hT) dX11_shutBy_49 <| zz_iload_4 C dX11_shutBy_52 <| zc_iaload C _ (tM_K_w hT) (znI (by omega)) (by omega) dX11_shutBy_54 <| zpc 55 rfl <| ?_
        rw [hwk, i2]
        refine zz_imul C dX11_shutBy_55 <| zpc 56 rfl <| ?_
        rw [pk_mul]
        refine zz_aload_0 C dX11_shutBy_56 <| zz_getR C fX11_34 (tM_K hT) (tM_R_road hT) dX11_shutBy_57 <| zz_iload_4 C dX11_shutBy_60 <| zc_row C _ (tM_K_road hT) (tM_row_road hT) (znI (by omega)) (by omega) dX11_shutBy_62 <| fun r62 => ?_
        refine zz_iconst_4 C dX11_shutBy_63 <| zc_iaload C 4 (tM_KR_road hT _ r62) (zlit _ (by decide)) (by decide) dX11_shutBy_64 <| zpc 65 rfl <| ?_
        rw [hfk]
        refine zz_icmp_le C 92 dX11_shutBy_65 (by decide) (fun c65 => ?_) (fun c65 => ?_)
        · refine zz_iinc_4 C _ (zle rfl) rfl dX11_shutBy_92 nI_s <| zz_goto C 38 dX11_shutBy_95 (by decide) <| zpc 38 rfl <| ?_
          rw [nI_leI (by omega) (by omega)] at c65
          first
            | (rw [if_pos c65] at ihk; exact ihk)
            | (rw [if_neg c65] at ihk
               rw [nI_leI (by omega) (by omega)] at c86
               dsimp only at ihk
               first | rw [if_pos c86] at ihk | rw [if_neg c86] at ihk
               exact ihk)
        · refine zz_iload_3 C dX11_shutBy_68 <| zz_iconst_m1 C dX11_shutBy_69 <| zpc 70 rfl <| ?_
          refine zz_icmp_eq C 89 dX11_shutBy_70 (by decide) (fun c70 => ?_) (fun c70 => ?_)
          · exact absurd c70 (fun q => by have := congrArg Int32.toInt q; rw [nI_toInt (by omega)] at this; have h1 : ((-1 : Int32)).toInt = -1 := rfl; omega)
          · refine zz_aload_0 C dX11_shutBy_73 <| zz_getR C fX11_61 (tM_K hT) (tM_R_w hT) dX11_shutBy_74 <| zz_iload_4 C dX11_shutBy_77 <| zc_iaload C _ (tM_K_w hT) (znI (by omega)) (by omega) dX11_shutBy_79 <| zpc 80 rfl <| ?_
            rw [hwk]
            refine zz_aload_0 C dX11_shutBy_80 <| zz_getR C fX11_61 (tM_K hT) (tM_R_w hT) dX11_shutBy_81 <| zz_iload_3 C dX11_shutBy_84 <| zc_iaload C _ (tM_K_w hT) (znI (by omega)) (by omega) dX11_shutBy_85 <| zpc 86 rfl <| ?_
            rw [hwj]
            refine zz_icmp_le C 92 dX11_shutBy_86 (by decide) (fun c86 => ?_) (fun c86 => ?_)
            · refine zz_iinc_4 C _ (zle rfl) rfl dX11_shutBy_92 nI_s <| zz_goto C 38 dX11_shutBy_95 (by decide) <| zpc 38 rfl <| ?_
              rw [nI_leI (by omega) (by omega)] at c65
              first
                | (rw [if_pos c65] at ihk; exact ihk)
                | (rw [if_neg c65] at ihk
                   rw [nI_leI (by omega) (by omega)] at c86
                   dsimp only at ihk
                   first | rw [if_pos c86] at ihk | rw [if_neg c86] at ihk
                   exact ihk)
            · refine zz_iload_4 C dX11_shutBy_89 <| zz_istore_3 C (zle rfl) rfl dX11_shutBy_91 <| zz_iinc_4 C _ (zle rfl) rfl dX11_shutBy_92 nI_s <| zz_goto C 38 dX11_shutBy_95 (by decide) <| zpc 38 rfl <| ?_
              rw [nI_leI (by omega) (by omega)] at c65
              first
                | (rw [if_pos c65] at ihk; exact ihk)
                | (rw [if_neg c65] at ihk
                   rw [nI_leI (by omega) (by omega)] at c86
                   dsimp only at ihk
                   first | rw [if_pos c86] at ihk | rw [if_neg c86] at ihk
                   exact ihk)
/-- what shutBy leaves -/
def mShPost (h : zH) (t : zT) (s : Nat) (v : Int32) (t' : zT) (h' : zH) : Prop := t' = t ∧ v = nI s ∧ ∃ f g a c, h' = mSc h f g a c
/-- rule 2's end -/
theorem l_wst2 (hT : zTM t) (hS : sOk L A p w) (hm : mSt h L A p w day gone) (C : zCx E b G RX11 cX11_shutBy 5 (some .int)) (hR : zRoom G 4 0 0) (hs : s = match rWst A.2 w A.1.1 with | none => 0 | some k => @ite _ (rAll L A p w day gone (2 ^ k)) (Classical.propDecidable _) (2 ^ k) 0) (hE : zEnd E b G 0 0 (qI (mShPost h t s))) (x4 : Option Value) : zAW E b G 5 0 0 98 [some (.ref (b + 157)), some (.int (nI 2)), some (.int v2), some (.int (oI (rWst A.2 w A.1.1))), x4] [] t h := by
  cases hq : rWst A.2 w A.1.1 with
  | none =>
    rw [hq] at hs
    refine zz_iload_3 C dX11_shutBy_98 <| zz_iconst_m1 C dX11_shutBy_99 <| zpc 100 rfl <| ?_
    refine zz_icmp_eq C 119 dX11_shutBy_100 (by decide) (fun c100 => ?_) (fun c100 => ?_)
    · refine zz_iconst_0 C dX11_shutBy_119 <| zpc 120 rfl <| ?_
      refine zy_ireturn C hE (zle rfl) (zle rfl) dX11_shutBy_120 ?_
      exact ⟨rfl, by rw [hs]; rfl, _, _, _, _, (mSc_self h).symm⟩
    · exact absurd rfl c100
  | some k =>
    rw [hq] at hs
    dsimp only at hs
    have hk := rWst_lt hq
    have hn := hS.1.2.2.1
    have hp : 2 ^ k < 2 ^ 31 := Nat.pow_lt_pow_right (by decide) (by omega)
    show zAW E b G 5 0 0 98 [some (.ref (b + 157)), some (.int (nI 2)), some (.int v2), some (.int (nI k)), x4] [] t h
    refine zz_iload_3 C dX11_shutBy_98 <| zz_iconst_m1 C dX11_shutBy_99 <| zpc 100 rfl <| ?_
    refine zz_icmp_eq C 119 dX11_shutBy_100 (by decide) (fun c100 => ?_) (fun c100 => ?_)
    · exact absurd c100 (fun q => by have := congrArg Int32.toInt q; rw [nI_toInt (by omega)] at this; have h1 : ((-1 : Int32)).toInt = -1 := rfl; omega)
    · refine zz_aload_0 C dX11_shutBy_103 <| zz_iconst_1 C dX11_shutBy_104 <| zz_iload_3 C dX11_shutBy_105 <| zz_ishl C dX11_shutBy_106 <| zpc 107 rfl <| ?_
      rw [zshl1 (by omega)]
      refine zy_callVI C hR [_] (c_allHave hT hS hm (2 ^ k) hp) lX11_267 rfl (tM_K hT) (by decide) rfl ⟨zle rfl, zle rfl, zle rfl, zle rfl⟩ (zle rfl) dX11_shutBy_107 ?_
      intro v t' h' hv; obtain ⟨rfl, hv1, hv0, f2, g2, a2, c2, rfl⟩ := hv
      refine zz_if_eq C 119 dX11_shutBy_110 (by decide) (fun c110 => ?_) (fun c110 => ?_)
      · refine zz_iconst_0 C dX11_shutBy_119 <| zpc 120 rfl <| ?_
        refine zy_ireturn C hE (zle rfl) (zle rfl) dX11_shutBy_120 ?_
        refine ⟨rfl, ?_, _, _, _, _, rfl⟩
        rw [hs]
        split
        · rename_i q
          first | rfl | exact absurd c110 (by rw [hv1 q]; decide)
        · rename_i q
          first | rfl | exact absurd (hv0 q) c110
      · refine zz_iconst_1 C dX11_shutBy_113 <| zz_iload_3 C dX11_shutBy_114 <| zz_ishl C dX11_shutBy_115 <| zpc 116 rfl <| ?_
        rw [zshl1 (by omega)]
        refine zz_goto C 120 dX11_shutBy_116 (by decide) <| zpc 120 rfl <| ?_
        refine zy_ireturn C hE (zle rfl) (zle rfl) dX11_shutBy_120 ?_
        refine ⟨rfl, ?_, _, _, _, _, rfl⟩
        rw [hs]
        split
        · rename_i q
          first | rfl | exact absurd c110 (by rw [hv1 q]; decide)
        · rename_i q
          first | rfl | exact absurd (hv0 q) c110
/-- rule 3 -/
theorem l_rst (hT : zTM t) (hS : sOk L A p w) (hm : mSt h L A p w day gone) (hrr : ∀ k, k < A.1.1 → zI h 234 k = nI (r k)) (hrb : ∀ k, k < A.1.1 → r k ≤ 11) (C : zCx E b G RX11 cX11_shutBy 5 (some .int)) (hR : zRoom G 4 0 0) {v1 : Int32} (hE : zEnd E b G 0 0 (qI (mShPost h t (rRst L A p w r day gone A.1.1)))) :
    ∀ (m k : Nat) (f1 g1 : Nat → Int32) (a c : Int32), k + m = A.1.1 → zAW E b G 5 0 0 123 [some (.ref (b + 157)), some (.int v1), some (.int (nI (rRst L A p w r day gone k))), some (.int (nI k)), x4] [] t (mSc h f1 g1 a c) := by
  obtain ⟨-, -, hn, -, hb⟩ := hS.1
  intro m
  induction m with
  | zero =>
    intro k f1 g1 a c hk
    have hst := mSt.ag (zAg1.sc h f1 g1 a c) hS hm
    have hr := hst.1.2.1
    refine zz_iload_3 C dX11_shutBy_123 <| zz_aload_0 C dX11_shutBy_124 <| zz_getI C fX11_204 (tM_K hT) dX11_shutBy_125 <| zpc 128 rfl <| ?_
    rw [hr]
    refine zz_icmp_ge C 173 dX11_shutBy_128 (by decide) (fun c128 => ?_) (fun c128 => ?_)
    · refine zz_iload_2 C dX11_shutBy_173 <| zpc 174 rfl <| ?_
      refine zy_ireturn C hE (zle rfl) (zle rfl) dX11_shutBy_174 ?_
      exact ⟨rfl, by rw [show k = A.1.1 by omega], _, _, _, _, rfl⟩
    · exact absurd (nI_le (by omega) (by omega)) c128
  | succ m ih =>
    intro k f1 g1 a c hk
    have hst := mSt.ag (zAg1.sc h f1 g1 a c) hS hm
    have hr := hst.1.2.1
    have hwk := (hst.1.2.2.2 k (by omega)).2
    have hbk := hb k (by omega)
    have hrk : zI (mSc h f1 g1 a c) 234 k = nI (r k) := by rw [zI_mSc, if_neg (by omega), if_neg (by omega), if_neg (by omega), if_neg (by omega)]; exact hrr k (by omega)
    have hrbk := hrb k (by omega)
    have hlt := rRst_lt L A p w r day gone k
    have hp : 2 ^ k ≤ 2 ^ 11 := Nat.pow_le_pow_right (by decide) (by omega)
    have hst2 : rRst L A p w r day gone (k + 1) = @ite _ (0 < w k ∧ 0 < r k ∧ rAll L A p w day gone (rRst L A p w r day gone k + 2 ^ k)) (Classical.propDecidable _) (rRst L A p w r day gone k + 2 ^ k) (rRst L A p w r day gone k) := rfl
    have ihk := fun f1 g1 a c => ih (k + 1) f1 g1 a c (by omega)
    rw [hst2] at ihk
    have ea : nI (w k) ≤ 0 ↔ ¬ 0 < w k := by rw [show (0 : Int32) = nI 0 from rfl, nI_leI (by omega) (by omega)]; omega
    have eb : nI (r k) ≤ 0 ↔ ¬ 0 < r k := by rw [show (0 : Int32) = nI 0 from rfl, nI_leI (by omega) (by omega)]; omega
    refine zz_iload_3 C dX11_shutBy_123 <| zz_aload_0 C dX11_shutBy_124 <| zz_getI C fX11_204 (tM_K hT) dX11_shutBy_125 <| zpc 128 rfl <| ?_
    rw [hr]
    refine zz_icmp_ge C 173 dX11_shutBy_128 (by decide) (fun c128 => ?_) (fun c128 => ?_)
    · exact absurd c128 (nI_ge (by omega) (by omega))
    · refine zz_aload_0 C dX11_shutBy_131 <| zz_getR C fX11_61 (tM_K hT) (tM_R_w hT) dX11_shutBy_132 <| zz_iload_3 C dX11_shutBy_135 <| zc_iaload C _ (tM_K_w hT) (znI (by omega)) (by omega) dX11_shutBy_136 <| zpc 137 rfl <| ?_
      rw [hwk]
      refine zz_if_le C 167 dX11_shutBy_137 (by decide) (fun c137 => ?_) (fun c137 => ?_)
      · refine zz_iinc_3 C _ (zle rfl) rfl dX11_shutBy_167 nI_s <| zz_goto C 123 dX11_shutBy_170 (by decide) <| zpc 123 rfl <| ?_
        first
        | (rw [if_neg (fun q => ea.mp c137 q.1)] at ihk; exact ihk _ _ _ _)
        | (rw [if_neg (fun q => eb.mp c146 q.2.1)] at ihk; exact ihk _ _ _ _)
        | (rw [if_neg (fun q => absurd (hv1 q.2.2) (by rw [c158]; decide))] at ihk; exact ihk _ _ _ _)
        | (rw [if_pos ⟨Classical.not_not.mp (fun q => c137 (ea.mpr q)), Classical.not_not.mp (fun q => c146 (eb.mpr q)), Classical.byContradiction (fun q => c158 (hv0 q))⟩] at ihk; exact ihk _ _ _ _)
      · refine zz_aload_0 C dX11_shutBy_140 <| zz_getR C fX11_64 (tM_K hT) (tM_R_r hT) dX11_shutBy_141 <| zz_iload_3 C dX11_shutBy_144 <| zc_iaload C _ (tM_K_r hT) (znI (by omega)) (by omega) dX11_shutBy_145 <| zpc 146 rfl <| ?_
        rw [hrk]
        refine zz_if_le C 167 dX11_shutBy_146 (by decide) (fun c146 => ?_) (fun c146 => ?_)
        · refine zz_iinc_3 C _ (zle rfl) rfl dX11_shutBy_167 nI_s <| zz_goto C 123 dX11_shutBy_170 (by decide) <| zpc 123 rfl <| ?_
          first
          | (rw [if_neg (fun q => ea.mp c137 q.1)] at ihk; exact ihk _ _ _ _)
          | (rw [if_neg (fun q => eb.mp c146 q.2.1)] at ihk; exact ihk _ _ _ _)
          | (rw [if_neg (fun q => absurd (hv1 q.2.2) (by rw [c158]; decide))] at ihk; exact ihk _ _ _ _)
          | (rw [if_pos ⟨Classical.not_not.mp (fun q => c137 (ea.mpr q)), Classical.not_not.mp (fun q => c146 (eb.mpr q)), Classical.byContradiction (fun q => c158 (hv0 q))⟩] at ihk; exact ihk _ _ _ _)
        · refine zz_aload_0 C dX11_shutBy_149 <| zz_iload_2 C dX11_shutBy_150 <| zz_iconst_1 C dX11_shutBy_151 <| zz_iload_3 C dX11_shutBy_152 <| zz_ishl C dX11_shutBy_153 <| zpc 154 rfl <| ?_
          rw [zshl1 (by omega)]
          refine zz_ior C dX11_shutBy_154 <| zpc 155 rfl <| ?_
          rw [zorp hlt]
          refine zy_callVI C hR [_] (c_allHave hT hS hst (rRst L A p w r day gone k + 2 ^ k) (by omega)) lX11_267 rfl (tM_K hT) (by decide) rfl ⟨zle rfl, zle rfl, zle rfl, zle rfl⟩ (zle rfl) dX11_shutBy_155 ?_
          intro v t' h' hv; obtain ⟨rfl, hv1, hv0, f2, g2, a2, c2, rfl⟩ := hv; rw [mSc_sc]
          refine zz_if_eq C 167 dX11_shutBy_158 (by decide) (fun c158 => ?_) (fun c158 => ?_)
          · refine zz_iinc_3 C _ (zle rfl) rfl dX11_shutBy_167 nI_s <| zz_goto C 123 dX11_shutBy_170 (by decide) <| zpc 123 rfl <| ?_
            first
            | (rw [if_neg (fun q => ea.mp c137 q.1)] at ihk; exact ihk _ _ _ _)
            | (rw [if_neg (fun q => eb.mp c146 q.2.1)] at ihk; exact ihk _ _ _ _)
            | (rw [if_neg (fun q => absurd (hv1 q.2.2) (by rw [c158]; decide))] at ihk; exact ihk _ _ _ _)
            | (rw [if_pos ⟨Classical.not_not.mp (fun q => c137 (ea.mpr q)), Classical.not_not.mp (fun q => c146 (eb.mpr q)), Classical.byContradiction (fun q => c158 (hv0 q))⟩] at ihk; exact ihk _ _ _ _)
          · refine zz_iload_2 C dX11_shutBy_161 <| zz_iconst_1 C dX11_shutBy_162 <| zz_iload_3 C dX11_shutBy_163 <| zz_ishl C dX11_shutBy_164 <| zpc 165 rfl <| ?_
            rw [zshl1 (by omega)]
            refine zz_ior C dX11_shutBy_165 <| zpc 166 rfl <| ?_
            rw [zorp hlt]
            refine zz_istore_2 C (zle rfl) rfl dX11_shutBy_166 <| zz_iinc_3 C _ (zle rfl) rfl dX11_shutBy_167 nI_s <| zz_goto C 123 dX11_shutBy_170 (by decide) <| zpc 123 rfl <| ?_
            first
            | (rw [if_neg (fun q => ea.mp c137 q.1)] at ihk; exact ihk _ _ _ _)
            | (rw [if_neg (fun q => eb.mp c146 q.2.1)] at ihk; exact ihk _ _ _ _)
            | (rw [if_neg (fun q => absurd (hv1 q.2.2) (by rw [c158]; decide))] at ihk; exact ihk _ _ _ _)
            | (rw [if_pos ⟨Classical.not_not.mp (fun q => c137 (ea.mpr q)), Classical.not_not.mp (fun q => c146 (eb.mpr q)), Classical.byContradiction (fun q => c158 (hv0 q))⟩] at ihk; exact ihk _ _ _ _)
end MS
