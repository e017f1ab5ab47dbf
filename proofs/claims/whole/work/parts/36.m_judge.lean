/-! ===== the reference: would, judge ===== -/
def wCnt (F : Nat → Nat → Nat) (w : Nat → Nat) : Nat → Nat
  | 0 => 0
  | k + 1 => wCnt F w k + (if F k 4 < w k then 1 else 0)
def wMax (w : Nat → Nat) : Nat → Nat
  | 0 => 0
  | k + 1 => if wMax w k < w k then w k else wMax w k
theorem wCnt_le (F : Nat → Nat → Nat) (w : Nat → Nat) : ∀ n, wCnt F w n ≤ n
  | 0 => Nat.le_refl 0
  | k + 1 => by
    have := wCnt_le F w k
    unfold wCnt
    split <;> omega
theorem wMax_le {w : Nat → Nat} {m : Nat} : ∀ {n : Nat}, (∀ k, k < n → w k ≤ m) → wMax w n ≤ m
  | 0, _ => Nat.zero_le m
  | k + 1, h => by
    have h1 := wMax_le (n := k) (fun j hj => h j (by omega))
    have h2 := h k (by omega)
    unfold wMax
    split <;> omega
/-- what would be: 0 the cost, 1 how many stay, 2 roads past use, 3 the most wear -/
def wWhat (A : yN) (x : yS) : Nat → Nat
  | 0 => x.2.2.2.1.1
  | 1 => x.2.2.2.2.1.1
  | 2 => wCnt A.2 x.1.1 A.1.1
  | _ => wMax x.1.1 A.1.1
section MWD
variable {E : zE} {b : Nat} {G : zG} {t : zT} {h : zH} {D : yD} {p : yP} {R : Nat × (Nat → Nat)}
theorem l_would {L : yL} {A : yN} {x : yS} (hT : zTM t) (hW : wOk L A p x) (hm : mWk h L A p x) (C : zCx E b G RX11 cX11_would 7 (some .long)) {q : Nat} (hq : q = 2 ∨ q = 3) {Q : Int64 → zT → zH → Prop} (hE : zEnd E b G 0 0 (qJ Q)) (hQ : Q (lN (wWhat A x q)) t h) {v1 v2 : Int32} :
    ∀ (m k : Nat), k + m = A.1.1 → zAW E b G 7 0 0 104 [some (.ref (b + 157)), some (.int v1), some (.int v2), some (.int (nI q)), some (.int (nI (wCnt A.2 x.1.1 k))), some (.int (nI (wMax x.1.1 k))), some (.int (nI k))] [] t h := by
  obtain ⟨-, -, hn, -, hb⟩ := hW.1.1
  obtain ⟨-, hr, -, hf⟩ := hm.1.1
  have hmx : ∀ k, k ≤ A.1.1 → wMax x.1.1 k ≤ 99 := fun k hk => wMax_le (fun j hj => (hb j (by omega)).2.2.2.2.2.2.2)
  intro m
  induction m with
  | zero =>
    intro k hk
    have h1 := wCnt_le A.2 x.1.1 k
    have h2 := hmx k (by omega)
    refine zz_iload_6 C dX11_would_104 <| zz_aload_0 C dX11_would_106 <| zz_getI C fX11_204 (tM_K hT) dX11_would_107 <| zpc 110 rfl <| ?_
    rw [hr]
    refine zz_icmp_ge C 174 dX11_would_110 (by decide) (fun c110 => ?_) (fun c110 => ?_)
    · refine zz_iload_3 C dX11_would_174 <| zz_iconst_2 C dX11_would_175 <| zpc 176 rfl <| ?_
      rw [show (2 : Int32) = nI 2 from rfl]
      refine zz_icmp_ne C 185 dX11_would_176 (by decide) (fun c176 => ?_) (fun c176 => ?_)
      · refine zz_iload_5 C dX11_would_185 <| zz_i2l C dX11_would_187 <| zpc 188 rfl <| ?_
        refine zy_lreturn C hE (zle rfl) (zle rfl) dX11_would_188 ?_
        rw [nI_eq (by omega) (by omega)] at c176
        first
          | (rw [nI_l (by omega)]; rw [show q = 2 by omega, show A.1.1 = k by omega] at hQ; exact hQ)
          | (rw [nI_l (by omega)]; rw [show q = 3 by omega] at hQ; rw [show k = A.1.1 by omega]; exact hQ)
          | (rw [nI_l (by omega)]; rw [show q = 2 by omega] at hQ; rw [show k = A.1.1 by omega]; exact hQ)
      · refine zz_iload_4 C dX11_would_179 <| zz_i2l C dX11_would_181 <| zz_goto C 188 dX11_would_182 (by decide) <| zpc 188 rfl <| ?_
        refine zy_lreturn C hE (zle rfl) (zle rfl) dX11_would_188 ?_
        rw [nI_eq (by omega) (by omega)] at c176
        first
          | (rw [nI_l (by omega)]; rw [show q = 2 by omega, show A.1.1 = k by omega] at hQ; exact hQ)
          | (rw [nI_l (by omega)]; rw [show q = 3 by omega] at hQ; rw [show k = A.1.1 by omega]; exact hQ)
          | (rw [nI_l (by omega)]; rw [show q = 2 by omega] at hQ; rw [show k = A.1.1 by omega]; exact hQ)
    · exact absurd (nI_le (by omega) (by omega)) c110
  | succ m ih =>
    intro k hk
    have hwk := (hf k (by omega)).2
    have hfk := (hf k (by omega)).1 4 (by omega)
    have hbk := (hb k (by omega))
    have h2 := hmx k (by omega)
    have ihk := ih (k + 1) (by omega)
    rw [show wCnt A.2 x.1.1 (k + 1) = wCnt A.2 x.1.1 k + (if A.2 k 4 < x.1.1 k then 1 else 0) from rfl, show wMax x.1.1 (k + 1) = if wMax x.1.1 k < x.1.1 k then x.1.1 k else wMax x.1.1 k from rfl] at ihk
    refine zz_iload_6 C dX11_would_104 <| zz_aload_0 C dX11_would_106 <| zz_getI C fX11_204 (tM_K hT) dX11_would_107 <| zpc 110 rfl <| ?_
    rw [hr]
    refine zz_icmp_ge C 174 dX11_would_110 (by decide) (fun c110 => ?_) (fun c110 => ?_)
    · exact absurd c110 (nI_ge (by omega) (by omega))
    · refine zz_iload_4 C dX11_would_113 <| zz_aload_0 C dX11_would_115 <| zz_getR C fX11_61 (tM_K hT) (tM_R_w hT) dX11_would_116 <| zz_iload_6 C dX11_would_119 <| zc_iaload C _ (tM_K_w hT) (znI (by omega)) (by omega) dX11_would_121 <| zpc 122 rfl <| ?_
      rw [hwk]
      refine zz_aload_0 C dX11_would_122 <| zz_getR C fX11_34 (tM_K hT) (tM_R_road hT) dX11_would_123 <| zz_iload_6 C dX11_would_126 <| zc_row C _ (tM_K_road hT) (tM_row_road hT) (znI (by omega)) (by omega) dX11_would_128 <| fun r128 => ?_
      refine zz_iconst_4 C dX11_would_129 <| zc_iaload C 4 (tM_KR_road hT _ r128) (zlit _ (by decide)) (by decide) dX11_would_130 <| zpc 131 rfl <| ?_
      rw [hfk]
      refine zz_icmp_le C 138 dX11_would_131 (by decide) (fun c131 => ?_) (fun c131 => ?_)
      · refine zz_iconst_0 C dX11_would_138 <| zz_iadd C dX11_would_139 <| zz_istore_4 C (zle rfl) rfl dX11_would_140 <| zz_aload_0 C dX11_would_142 <| zz_getR C fX11_61 (tM_K hT) (tM_R_w hT) dX11_would_143 <| zz_iload_6 C dX11_would_146 <| zc_iaload C _ (tM_K_w hT) (znI (by omega)) (by omega) dX11_would_148 <| zpc 149 rfl <| ?_
        rw [hwk]
        refine zz_iload_5 C dX11_would_149 <| zpc 151 rfl <| ?_
        refine zz_icmp_le C 164 dX11_would_151 (by decide) (fun c151 => ?_) (fun c151 => ?_)
        · refine zz_iload_5 C dX11_would_164 <| zz_istore_5 C (zle rfl) rfl dX11_would_166 <| zz_iinc_6 C _ (zle rfl) rfl dX11_would_168 nI_s <| zz_goto C 104 dX11_would_171 (by decide) <| zpc 104 rfl <| ?_
          rw [nI_leI (by omega) (by omega)] at c131 c151
          first
            | (rw [if_pos (by omega), if_pos (by omega)] at ihk; rw [← nI_add] at ihk; exact ihk)
            | (rw [if_pos (by omega), if_neg (by omega)] at ihk; rw [← nI_add] at ihk; exact ihk)
            | (rw [if_neg (by omega), if_pos (by omega)] at ihk; rw [← nI_add] at ihk; exact ihk)
            | (rw [if_neg (by omega), if_neg (by omega)] at ihk; rw [← nI_add] at ihk; exact ihk)
        · refine zz_aload_0 C dX11_would_154 <| zz_getR C fX11_61 (tM_K hT) (tM_R_w hT) dX11_would_155 <| zz_iload_6 C dX11_would_158 <| zc_iaload C _ (tM_K_w hT) (znI (by omega)) (by omega) dX11_would_160 <| zpc 161 rfl <| ?_
          rw [hwk]
          refine zz_goto C 166 dX11_would_161 (by decide) <| zz_istore_5 C (zle rfl) rfl dX11_would_166 <| zz_iinc_6 C _ (zle rfl) rfl dX11_would_168 nI_s <| zz_goto C 104 dX11_would_171 (by decide) <| zpc 104 rfl <| ?_
          rw [nI_leI (by omega) (by omega)] at c131 c151
          first
            | (rw [if_pos (by omega), if_pos (by omega)] at ihk; rw [← nI_add] at ihk; exact ihk)
            | (rw [if_pos (by omega), if_neg (by omega)] at ihk; rw [← nI_add] at ihk; exact ihk)
            | (rw [if_neg (by omega), if_pos (by omega)] at ihk; rw [← nI_add] at ihk; exact ihk)
            | (rw [if_neg (by omega), if_neg (by omega)] at ihk; rw [← nI_add] at ihk; exact ihk)
      · refine zz_iconst_1 C dX11_would_134 <| zz_goto C 139 dX11_would_135 (by decide) <| zz_iadd C dX11_would_139 <| zz_istore_4 C (zle rfl) rfl dX11_would_140 <| zz_aload_0 C dX11_would_142 <| zz_getR C fX11_61 (tM_K hT) (tM_R_w hT) dX11_would_143 <| zz_iload_6 C dX11_would_146 <| zc_iaload C _ (tM_K_w hT) (znI (by omega)) (by omega) dX11_would_148 <| zpc 149 rfl <| ?_
        rw [hwk]
        refine zz_iload_5 C dX11_would_149 <| zpc 151 rfl <| ?_
        refine zz_icmp_le C 164 dX11_would_151 (by decide) (fun c151 => ?_) (fun c151 => ?_)
        · refine zz_iload_5 C dX11_would_164 <| zz_istore_5 C (zle rfl) rfl dX11_would_166 <| zz_iinc_6 C _ (zle rfl) rfl dX11_would_168 nI_s <| zz_goto C 104 dX11_would_171 (by decide) <| zpc 104 rfl <| ?_
          rw [nI_leI (by omega) (by omega)] at c131 c151
          first
            | (rw [if_pos (by omega), if_pos (by omega)] at ihk; rw [← nI_add] at ihk; exact ihk)
            | (rw [if_pos (by omega), if_neg (by omega)] at ihk; rw [← nI_add] at ihk; exact ihk)
            | (rw [if_neg (by omega), if_pos (by omega)] at ihk; rw [← nI_add] at ihk; exact ihk)
            | (rw [if_neg (by omega), if_neg (by omega)] at ihk; rw [← nI_add] at ihk; exact ihk)
        · refine zz_aload_0 C dX11_would_154 <| zz_getR C fX11_61 (tM_K hT) (tM_R_w hT) dX11_would_155 <| zz_iload_6 C dX11_would_158 <| zc_iaload C _ (tM_K_w hT) (znI (by omega)) (by omega) dX11_would_160 <| zpc 161 rfl <| ?_
          rw [hwk]
          refine zz_goto C 166 dX11_would_161 (by decide) <| zz_istore_5 C (zle rfl) rfl dX11_would_166 <| zz_iinc_6 C _ (zle rfl) rfl dX11_would_168 nI_s <| zz_goto C 104 dX11_would_171 (by decide) <| zpc 104 rfl <| ?_
          rw [nI_leI (by omega) (by omega)] at c131 c151
          first
            | (rw [if_pos (by omega), if_pos (by omega)] at ihk; rw [← nI_add] at ihk; exact ihk)
            | (rw [if_pos (by omega), if_neg (by omega)] at ihk; rw [← nI_add] at ihk; exact ihk)
            | (rw [if_neg (by omega), if_pos (by omega)] at ihk; rw [← nI_add] at ihk; exact ihk)
            | (rw [if_neg (by omega), if_neg (by omega)] at ihk; rw [← nI_add] at ihk; exact ihk)
theorem whatOk {r : Int32} : (0 ≤ r ∧ r ≤ 3) ↔ ∃ k, k ≤ 3 ∧ r = nI k := by
  constructor
  · intro q
    obtain ⟨k, hk, e⟩ := nI_of2 (x := r) (n := 3) (M := 3) rfl (Int32.not_lt.mpr q.1) q.2
    exact ⟨k, hk, e⟩
  · rintro ⟨k, hk, rfl⟩
    exact ⟨nI_pos' (by omega), nI_le (b := 3) hk (by omega)⟩
theorem gTurns_st (L : yL) (A : yN) (p : yP) (s : Nat) (w : Nat → Nat) (day gone : Nat) (x : yA) : ∀ g, (gTurns L A p s w day gone g x).2.2.1.1 ≤ x.2.2.1.1 + g
  | 0 => Nat.le_refl _
  | g + 1 => by
    have ih := gTurns_st L A p s w day gone x g
    have key : ∀ (o : Option (List Nat)) (mk : Bool) (z : yA), z.2.2.1.1 ≤ x.2.2.1.1 + g → (gWay A.1.2.1 (L.2.1 g 3) A.2 w mk g o z).2.2.1.1 ≤ x.2.2.1.1 + (g + 1) := by
      intro o mk z hz
      cases o with
      | none => exact Nat.succ_le_succ hz
      | some l => exact Nat.le_succ_of_le hz
    show (gTurn L A p s w day gone g (gTurns L A p s w day gone g x)).2.2.1.1 ≤ _
    unfold gTurn
    split
    · split
      · split
        · exact key _ _ (gNext (gTurns L A p s w day gone g x).1, (gTurns L A p s w day gone g x).2) ih
        · exact Nat.le_succ_of_le ih
      · exact key _ _ _ ih
    · exact Nat.le_succ_of_le ih
theorem dDays_st {L : yL} {A : yN} {p : yP} {x : yS} (R : Nat × (Nat → Nat)) (rule : Nat) (hW : wOk L A p x) : ∀ d, (dDays L A p R rule d x).2.2.2.2.1.1 ≤ x.2.2.2.2.1.1 + 14 * d
  | 0 => Nat.le_refl _
  | d + 1 => by
    have ih := dDays_st R rule hW d
    have hng := hW.1.2.1.2.2.1
    have h1 := gTurns_st L A p (rShut L A p R (dDays L A p R rule d x) rule) (dDays L A p R rule d x).1.1 (dDays L A p R rule d x).2.1.1 (dDays L A p R rule d x).2.1.2 ((dDays L A p R rule d x).2.2.1, (dDays L A p R rule d x).2.2.2.1, ((dDays L A p R rule d x).2.2.2.2.1.1, (dDays L A p R rule d x).2.2.2.2.1.2.1, none), fun _ => 0) L.1.2.1
    show (gTurns L A p (rShut L A p R (dDays L A p R rule d x) rule) (dDays L A p R rule d x).1.1 (dDays L A p R rule d x).2.1.1 (dDays L A p R rule d x).2.1.2 L.1.2.1 ((dDays L A p R rule d x).2.2.1, (dDays L A p R rule d x).2.2.2.1, ((dDays L A p R rule d x).2.2.2.2.1.1, (dDays L A p R rule d x).2.2.2.2.1.2.1, none), fun _ => 0)).2.2.1.1 ≤ _
    dsimp only at h1
    omega
theorem c_would1 {l : Launch} (hT : zTM t) (hD : sdOk D p) (hm : mSd h D p) (hRo : roOk R) (hro : mRo h R) (k d q : Nat) (hk : k ≤ 3) (hd1 : 1 ≤ d) (hd : d ≤ 366) (hq : q ≤ 3) (hkr : k = 1 → 0 < R.1) (htd : D.2.2.2 + d < 2 ^ 20) : zMet E b l yX11_would cX11_would 7 (some .long) 6 0 0 [.ref (b + 157), .int (nI k), .int (nI d), .int (nI q)] t h (qJ (fun v t' h' => v = lN (wWhat D.2.1 (dDays D.1 D.2.1 p R k d (x0 D (zI h 157 41))) q) ∧ mCall h t D p 0 t' h')) := by
  have hm0 := hm.th hD 0
  have hro0 := mRo.ag4 (zAg4.th h 0) hro
  have hR30 := hRo.1
  have hok : ((0 ≤ nI k ∧ nI k ≤ 3) ∧ 1 ≤ nI d ∧ nI d ≤ 366) := ruleOk.mpr ⟨k, d, hk, hd1, hd, rfl, rfl⟩
  have hok2 : (0 ≤ nI q ∧ nI q ≤ 3) := whatOk.mpr ⟨q, hq, rfl⟩
  have e1 : zI (zsI h 157 0 0) 157 41 = zI h 157 41 := by rw [zI_sI, if_neg (by omega)]
  have hstb := dDays_st R k (hD.w (zI h 157 41)) d
  have hst0 : (x0 D (zI h 157 41)).2.2.2.2.1.1 = 0 := rfl
  refine zMet.of (ls := [some (.ref (b + 157)), some (.int (nI k)), some (.int (nI d)), some (.int (nI q)), none, none, none]) (by decide) (zle rfl) 3 rfl ?_
  intro G hlG C hR hE hin
  refine zz_aload_0 C dX11_would_0 <| zz_iconst_0 C dX11_would_1 <| zy_putI C fX11_104 pX11_0 (tM_K hT) dX11_would_2 <| zz_aload_0 C dX11_would_5 <| zz_aload_0 C dX11_would_6 <| zz_iload_1 C dX11_would_7 <| zz_iload_2 C dX11_would_8 <| zpc 9 rfl <| ?_
  refine zf_callVI C hR [_, _] (c_isRule hT _ _) lX11_302 rfl (tM_K hT) (by decide) rfl ⟨zle rfl, zle rfl, zle rfl, zle rfl⟩ (zle rfl) dX11_would_9 ?_
  refine zz_if_eq C 24 dX11_would_12 (by decide) (fun c12 => ?_) (fun c12 => ?_)
  · rw [zb_eq0] at c12; exact absurd hok c12
  · refine zz_iload_3 C dX11_would_15 <| zz_iconst_0 C dX11_would_16 <| zz_iconst_3 C dX11_would_17 <| zpc 18 rfl <| ?_
    refine zf_callSI C hR [_, _, _] (c_in _ _ _) lX11_138 rfl ⟨zle rfl, zle rfl, zle rfl, zle rfl⟩ (zle rfl) dX11_would_18 ?_
    refine zz_if_ne C 28 dX11_would_21 (by decide) (fun c21 => ?_) (fun c21 => ?_)
    · refine zz_iconst_0 C dX11_would_28 <| zz_iconst_1 C dX11_would_29 <| zpc 30 rfl <| ?_
      refine zf_callVI C hR [_, _] (c_bad0 hT _ (by decide) (by first | exact zI_self _ _ _ _ | assumption)) lX11_181 rfl (tM_K hT) (by decide) rfl ⟨zle rfl, zle rfl, zle rfl, zle rfl⟩ (zle rfl) dX11_would_30 ?_
      refine zz_if_ne C 61 dX11_would_33 (by decide) (fun c33 => ?_) (fun c33 => ?_)
      · exact absurd rfl c33
      · refine zz_aload_0 C dX11_would_36 <| zz_iload_1 C dX11_would_37 <| zz_iconst_1 C dX11_would_38 <| zpc 39 rfl <| ?_
        refine zz_icmp_ne C 53 dX11_would_39 (by decide) (fun c39 => ?_) (fun c39 => ?_)
        · refine zz_iconst_0 C dX11_would_53 <| zz_iconst_2 C dX11_would_54 <| zpc 55 rfl <| ?_
          refine zf_callVI C hR [_, _] (c_bad0 hT _ (by decide) (by first | exact zI_self _ _ _ _ | assumption)) lX11_181 rfl (tM_K hT) (by decide) rfl ⟨zle rfl, zle rfl, zle rfl, zle rfl⟩ (zle rfl) dX11_would_55 ?_
          refine zz_if_eq C 63 dX11_would_58 (by decide) (fun c58 => ?_) (fun c58 => ?_)
          · refine zz_aload_0 C dX11_would_63 <| zpc 64 rfl <| ?_
            refine zy_callVV C hR [] (c_lays hT hD hm0) lX11_255 rfl (tM_K hT) (by decide) rfl ⟨zle rfl, zle rfl, zle rfl, zle rfl⟩ (zle rfl) dX11_would_64 ?_
            intro t' h' hv; obtain ⟨rfl, a1, hw⟩ := hv; rw [e1] at hw
            refine zz_aload_0 C dX11_would_67 <| zz_iload_1 C dX11_would_68 <| zz_iload_2 C dX11_would_69 <| zpc 70 rfl <| ?_
            refine zy_callVV C hR [_, _] (c_goes hT (hD.w _) hw hRo (hro0.ag3 a1) k d hk hkr (by omega) htd) lX11_305 rfl (tM_K hT) (by decide) rfl ⟨zle rfl, zle rfl, zle rfl, zle rfl⟩ (zle rfl) dX11_would_70 ?_
            intro t' h' hv; obtain ⟨rfl, a2, hw2⟩ := hv; have a4 := a1.tr (.of2 a2)
            refine zz_iload_3 C dX11_would_73 <| zz_iconst_2 C dX11_would_74 <| zpc 75 rfl <| ?_
            rw [show (2 : Int32) = nI 2 from rfl]
            refine zz_icmp_ge C 95 dX11_would_75 (by decide) (fun c75 => ?_) (fun c75 => ?_)
            · refine zz_iconst_0 C dX11_would_95 <| zz_istore_4 C (zle rfl) rfl dX11_would_96 <| zz_iconst_0 C dX11_would_98 <| zz_istore_5 C (zle rfl) rfl dX11_would_99 <| zz_iconst_0 C dX11_would_101 <| zz_istore_6 C (zle rfl) rfl dX11_would_102 <| zpc 104 rfl <| ?_
              rw [nI_leI (by omega) (by omega)] at c75
              refine l_would hT ((hD.w _).days R k d) hw2 C (by omega) hE ?_ D.2.1.1.1 0 (by omega)
              exact ⟨rfl, rfl, (zAg4.th h 0).tr (.of3 a4), a4.th (zI_self _ _ _ _), a4.sd hD hm0⟩
            · refine zz_iload_3 C dX11_would_78 <| zpc 79 rfl <| ?_
              refine zz_if_ne C 89 dX11_would_79 (by decide) (fun c79 => ?_) (fun c79 => ?_)
              · refine zz_aload_0 C dX11_would_89 <| zz_getI C fX11_246 (tM_K hT) dX11_would_90 <| zpc 93 rfl <| ?_
                rw [hw2.2.2.2.2.2.2.1]
                refine zz_i2l C dX11_would_93 <| zpc 94 rfl <| ?_
                refine zy_lreturn C hE (zle rfl) (zle rfl) dX11_would_94 ?_
                rw [nI_leI (by omega) (by omega)] at c75
                have c79' := c79
                rw [show (0 : Int32) = nI 0 from rfl, nI_eq (by omega) (by omega)] at c79'
                refine ⟨?_, rfl, (zAg4.th h 0).tr (.of3 a4), a4.th (zI_self _ _ _ _), a4.sd hD hm0⟩
                first
                  | (rw [show q = 0 by omega]; rfl)
                  | (rw [show q = 1 by omega, nI_l (by omega)]; rfl)
              · refine zz_aload_0 C dX11_would_82 <| zz_getL C fX11_239 (tM_K hT) dX11_would_83 <| zpc 86 rfl <| ?_
                rw [hw2.2.2.2.2.1]
                refine zz_goto C 94 dX11_would_86 (by decide) <| zpc 94 rfl <| ?_
                refine zy_lreturn C hE (zle rfl) (zle rfl) dX11_would_94 ?_
                rw [nI_leI (by omega) (by omega)] at c75
                have c79' := c79
                rw [show (0 : Int32) = nI 0 from rfl, nI_eq (by omega) (by omega)] at c79'
                refine ⟨?_, rfl, (zAg4.th h 0).tr (.of3 a4), a4.th (zI_self _ _ _ _), a4.sd hD hm0⟩
                first
                  | (rw [show q = 0 by omega]; rfl)
                  | (rw [show q = 1 by omega, nI_l (by omega)]; rfl)
          · exact absurd rfl c58
        · refine zz_aload_0 C dX11_would_42 <| zz_getI C fX11_191 (tM_K hT) dX11_would_43 <| zpc 46 rfl <| ?_
          rw [hro0.1]
          refine zz_if_ne C 53 dX11_would_46 (by decide) (fun c46 => ?_) (fun c46 => ?_)
          · refine zz_iconst_0 C dX11_would_53 <| zz_iconst_2 C dX11_would_54 <| zpc 55 rfl <| ?_
            refine zf_callVI C hR [_, _] (c_bad0 hT _ (by decide) (by first | exact zI_self _ _ _ _ | assumption)) lX11_181 rfl (tM_K hT) (by decide) rfl ⟨zle rfl, zle rfl, zle rfl, zle rfl⟩ (zle rfl) dX11_would_55 ?_
            refine zz_if_eq C 63 dX11_would_58 (by decide) (fun c58 => ?_) (fun c58 => ?_)
            · refine zz_aload_0 C dX11_would_63 <| zpc 64 rfl <| ?_
              refine zy_callVV C hR [] (c_lays hT hD hm0) lX11_255 rfl (tM_K hT) (by decide) rfl ⟨zle rfl, zle rfl, zle rfl, zle rfl⟩ (zle rfl) dX11_would_64 ?_
              intro t' h' hv; obtain ⟨rfl, a1, hw⟩ := hv; rw [e1] at hw
              refine zz_aload_0 C dX11_would_67 <| zz_iload_1 C dX11_would_68 <| zz_iload_2 C dX11_would_69 <| zpc 70 rfl <| ?_
              refine zy_callVV C hR [_, _] (c_goes hT (hD.w _) hw hRo (hro0.ag3 a1) k d hk hkr (by omega) htd) lX11_305 rfl (tM_K hT) (by decide) rfl ⟨zle rfl, zle rfl, zle rfl, zle rfl⟩ (zle rfl) dX11_would_70 ?_
              intro t' h' hv; obtain ⟨rfl, a2, hw2⟩ := hv; have a4 := a1.tr (.of2 a2)
              refine zz_iload_3 C dX11_would_73 <| zz_iconst_2 C dX11_would_74 <| zpc 75 rfl <| ?_
              rw [show (2 : Int32) = nI 2 from rfl]
              refine zz_icmp_ge C 95 dX11_would_75 (by decide) (fun c75 => ?_) (fun c75 => ?_)
              · refine zz_iconst_0 C dX11_would_95 <| zz_istore_4 C (zle rfl) rfl dX11_would_96 <| zz_iconst_0 C dX11_would_98 <| zz_istore_5 C (zle rfl) rfl dX11_would_99 <| zz_iconst_0 C dX11_would_101 <| zz_istore_6 C (zle rfl) rfl dX11_would_102 <| zpc 104 rfl <| ?_
                rw [nI_leI (by omega) (by omega)] at c75
                refine l_would hT ((hD.w _).days R k d) hw2 C (by omega) hE ?_ D.2.1.1.1 0 (by omega)
                exact ⟨rfl, rfl, (zAg4.th h 0).tr (.of3 a4), a4.th (zI_self _ _ _ _), a4.sd hD hm0⟩
              · refine zz_iload_3 C dX11_would_78 <| zpc 79 rfl <| ?_
                refine zz_if_ne C 89 dX11_would_79 (by decide) (fun c79 => ?_) (fun c79 => ?_)
                · refine zz_aload_0 C dX11_would_89 <| zz_getI C fX11_246 (tM_K hT) dX11_would_90 <| zpc 93 rfl <| ?_
                  rw [hw2.2.2.2.2.2.2.1]
                  refine zz_i2l C dX11_would_93 <| zpc 94 rfl <| ?_
                  refine zy_lreturn C hE (zle rfl) (zle rfl) dX11_would_94 ?_
                  rw [nI_leI (by omega) (by omega)] at c75
                  have c79' := c79
                  rw [show (0 : Int32) = nI 0 from rfl, nI_eq (by omega) (by omega)] at c79'
                  refine ⟨?_, rfl, (zAg4.th h 0).tr (.of3 a4), a4.th (zI_self _ _ _ _), a4.sd hD hm0⟩
                  first
                    | (rw [show q = 0 by omega]; rfl)
                    | (rw [show q = 1 by omega, nI_l (by omega)]; rfl)
                · refine zz_aload_0 C dX11_would_82 <| zz_getL C fX11_239 (tM_K hT) dX11_would_83 <| zpc 86 rfl <| ?_
                  rw [hw2.2.2.2.2.1]
                  refine zz_goto C 94 dX11_would_86 (by decide) <| zpc 94 rfl <| ?_
                  refine zy_lreturn C hE (zle rfl) (zle rfl) dX11_would_94 ?_
                  rw [nI_leI (by omega) (by omega)] at c75
                  have c79' := c79
                  rw [show (0 : Int32) = nI 0 from rfl, nI_eq (by omega) (by omega)] at c79'
                  refine ⟨?_, rfl, (zAg4.th h 0).tr (.of3 a4), a4.th (zI_self _ _ _ _), a4.sd hD hm0⟩
                  first
                    | (rw [show q = 0 by omega]; rfl)
                    | (rw [show q = 1 by omega, nI_l (by omega)]; rfl)
            · exact absurd rfl c58
          · rw [show (1 : Int32) = nI 1 from rfl, nI_eq (by omega) (by omega)] at c39
            exact absurd c46 (nI_ne0 (hkr c39) (by omega))
    · rw [zb_eq0] at c21; exact absurd hok2 c21
theorem c_would0 {l : Launch} (hT : zTM t) (hD : sdOk D p) (hm : mSd h D p) (r d q : Int32) (hno : ¬ ((∃ k n, k ≤ 3 ∧ 1 ≤ n ∧ n ≤ 366 ∧ r = nI k ∧ d = nI n) ∧ ∃ k, k ≤ 3 ∧ q = nI k)) : zMet E b l yX11_would cX11_would 7 (some .long) 6 0 0 [.ref (b + 157), .int r, .int d, .int q] t h (qJ (fun v t' h' => v = 0 ∧ mCall h t D p 1 t' h')) := by
  refine zMet.of (ls := [some (.ref (b + 157)), some (.int r), some (.int d), some (.int q), none, none, none]) (by decide) (zle rfl) 3 rfl ?_
  intro G hlG C hR hE hin
  refine zz_aload_0 C dX11_would_0 <| zz_iconst_0 C dX11_would_1 <| zy_putI C fX11_104 pX11_0 (tM_K hT) dX11_would_2 <| zz_aload_0 C dX11_would_5 <| zz_aload_0 C dX11_would_6 <| zz_iload_1 C dX11_would_7 <| zz_iload_2 C dX11_would_8 <| zpc 9 rfl <| ?_
  refine zf_callVI C hR [_, _] (c_isRule hT _ _) lX11_302 rfl (tM_K hT) (by decide) rfl ⟨zle rfl, zle rfl, zle rfl, zle rfl⟩ (zle rfl) dX11_would_9 ?_
  refine zz_if_eq C 24 dX11_would_12 (by decide) (fun c12 => ?_) (fun c12 => ?_)
  · refine zz_iconst_1 C dX11_would_24 <| zz_goto C 29 dX11_would_25 (by decide) <| zz_iconst_1 C dX11_would_29 <| zpc 30 rfl <| ?_
    refine zf_callVI C hR [_, _] (c_bad1 hT _ (by decide) (by first | exact zI_self _ _ _ _ | assumption)) lX11_181 rfl (tM_K hT) (by decide) rfl ⟨zle rfl, zle rfl, zle rfl, zle rfl⟩ (zle rfl) dX11_would_30 ?_
    refine zz_if_ne C 61 dX11_would_33 (by decide) (fun c33 => ?_) (fun c33 => ?_)
    · refine zz_lconst_0 C dX11_would_61 <| zpc 62 rfl <| ?_
      refine zy_lreturn C hE (zle rfl) (zle rfl) dX11_would_62 ?_
      exact ⟨rfl, rfl, (zAg4.th h 0).tr (zAg4.th _ 1), zI_self _ _ _ _, (hm.th hD 0).th hD 1⟩
    · exact absurd c33 (by decide)
  · refine zz_iload_3 C dX11_would_15 <| zz_iconst_0 C dX11_would_16 <| zz_iconst_3 C dX11_would_17 <| zpc 18 rfl <| ?_
    refine zf_callSI C hR [_, _, _] (c_in _ _ _) lX11_138 rfl ⟨zle rfl, zle rfl, zle rfl, zle rfl⟩ (zle rfl) dX11_would_18 ?_
    refine zz_if_ne C 28 dX11_would_21 (by decide) (fun c21 => ?_) (fun c21 => ?_)
    · rw [zb_ne0] at c12 c21; exact absurd ⟨ruleOk.mp c12, whatOk.mp c21⟩ hno
    · refine zz_iconst_1 C dX11_would_24 <| zz_goto C 29 dX11_would_25 (by decide) <| zz_iconst_1 C dX11_would_29 <| zpc 30 rfl <| ?_
      refine zf_callVI C hR [_, _] (c_bad1 hT _ (by decide) (by first | exact zI_self _ _ _ _ | assumption)) lX11_181 rfl (tM_K hT) (by decide) rfl ⟨zle rfl, zle rfl, zle rfl, zle rfl⟩ (zle rfl) dX11_would_30 ?_
      refine zz_if_ne C 61 dX11_would_33 (by decide) (fun c33 => ?_) (fun c33 => ?_)
      · refine zz_lconst_0 C dX11_would_61 <| zpc 62 rfl <| ?_
        refine zy_lreturn C hE (zle rfl) (zle rfl) dX11_would_62 ?_
        exact ⟨rfl, rfl, (zAg4.th h 0).tr (zAg4.th _ 1), zI_self _ _ _ _, (hm.th hD 0).th hD 1⟩
      · exact absurd c33 (by decide)
theorem c_would2 {l : Launch} (hT : zTM t) (hD : sdOk D p) (hm : mSd h D p) (hro : mRo h R) (d q : Nat) (hd1 : 1 ≤ d) (hd : d ≤ 366) (hq : q ≤ 3) (hR0 : R.1 = 0) : zMet E b l yX11_would cX11_would 7 (some .long) 6 0 0 [.ref (b + 157), .int (nI 1), .int (nI d), .int (nI q)] t h (qJ (fun v t' h' => v = 0 ∧ mCall h t D p 2 t' h')) := by
  have hok : ((0 ≤ nI 1 ∧ nI 1 ≤ 3) ∧ 1 ≤ nI d ∧ nI d ≤ 366) := ruleOk.mpr ⟨1, d, by omega, hd1, hd, rfl, rfl⟩
  have hok2 : (0 ≤ nI q ∧ nI q ≤ 3) := whatOk.mpr ⟨q, hq, rfl⟩
  have hr0 : zI (zsI h 157 0 0) 157 20 = 0 := by rw [zI_sI, if_neg (by omega), hro.1, hR0]; rfl
  refine zMet.of (ls := [some (.ref (b + 157)), some (.int (nI 1)), some (.int (nI d)), some (.int (nI q)), none, none, none]) (by decide) (zle rfl) 3 rfl ?_
  intro G hlG C hR hE hin
  refine zz_aload_0 C dX11_would_0 <| zz_iconst_0 C dX11_would_1 <| zy_putI C fX11_104 pX11_0 (tM_K hT) dX11_would_2 <| zz_aload_0 C dX11_would_5 <| zz_aload_0 C dX11_would_6 <| zz_iload_1 C dX11_would_7 <| zz_iload_2 C dX11_would_8 <| zpc 9 rfl <| ?_
  refine zf_callVI C hR [_, _] (c_isRule hT _ _) lX11_302 rfl (tM_K hT) (by decide) rfl ⟨zle rfl, zle rfl, zle rfl, zle rfl⟩ (zle rfl) dX11_would_9 ?_
  refine zz_if_eq C 24 dX11_would_12 (by decide) (fun c12 => ?_) (fun c12 => ?_)
  · rw [zb_eq0] at c12; exact absurd hok c12
  · refine zz_iload_3 C dX11_would_15 <| zz_iconst_0 C dX11_would_16 <| zz_iconst_3 C dX11_would_17 <| zpc 18 rfl <| ?_
    refine zf_callSI C hR [_, _, _] (c_in _ _ _) lX11_138 rfl ⟨zle rfl, zle rfl, zle rfl, zle rfl⟩ (zle rfl) dX11_would_18 ?_
    refine zz_if_ne C 28 dX11_would_21 (by decide) (fun c21 => ?_) (fun c21 => ?_)
    · refine zz_iconst_0 C dX11_would_28 <| zz_iconst_1 C dX11_would_29 <| zpc 30 rfl <| ?_
      refine zf_callVI C hR [_, _] (c_bad0 hT _ (by decide) (by first | exact zI_self _ _ _ _ | assumption)) lX11_181 rfl (tM_K hT) (by decide) rfl ⟨zle rfl, zle rfl, zle rfl, zle rfl⟩ (zle rfl) dX11_would_30 ?_
      refine zz_if_ne C 61 dX11_would_33 (by decide) (fun c33 => ?_) (fun c33 => ?_)
      · exact absurd rfl c33
      · refine zz_aload_0 C dX11_would_36 <| zz_iload_1 C dX11_would_37 <| zz_iconst_1 C dX11_would_38 <| zpc 39 rfl <| ?_
        refine zz_icmp_ne C 53 dX11_would_39 (by decide) (fun c39 => ?_) (fun c39 => ?_)
        · exact absurd rfl c39
        · refine zz_aload_0 C dX11_would_42 <| zz_getI C fX11_191 (tM_K hT) dX11_would_43 <| zpc 46 rfl <| ?_
          rw [hr0]
          refine zz_if_ne C 53 dX11_would_46 (by decide) (fun c46 => ?_) (fun c46 => ?_)
          · exact absurd rfl c46
          · refine zz_iconst_1 C dX11_would_49 <| zz_goto C 54 dX11_would_50 (by decide) <| zz_iconst_2 C dX11_would_54 <| zpc 55 rfl <| ?_
            refine zf_callVI C hR [_, _] (c_bad1 hT _ (by decide) (by first | exact zI_self _ _ _ _ | assumption)) lX11_181 rfl (tM_K hT) (by decide) rfl ⟨zle rfl, zle rfl, zle rfl, zle rfl⟩ (zle rfl) dX11_would_55 ?_
            refine zz_if_eq C 63 dX11_would_58 (by decide) (fun c58 => ?_) (fun c58 => ?_)
            · exact absurd c58 (by decide)
            · refine zz_lconst_0 C dX11_would_61 <| zpc 62 rfl <| ?_
              refine zy_lreturn C hE (zle rfl) (zle rfl) dX11_would_62 ?_
              exact ⟨rfl, rfl, (zAg4.th h 0).tr (zAg4.th _ 2), zI_self _ _ _ _, (hm.th hD 0).th hD 2⟩
    · rw [zb_eq0] at c21; exact absurd hok2 c21
end MWD
