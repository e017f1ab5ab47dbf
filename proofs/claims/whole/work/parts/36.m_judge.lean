/-! ===== the reference: would, judge ===== -/
def wCnt (F : Nat → Nat → Nat) (w : Nat → Nat) : Nat → Nat
  | 0 => 0
  | k + 1 => wCnt F w k + (if F k 4 < w k then 1 else 0)
def wMax (w : Nat → Nat) : Nat → Nat
  | 0 => 0
  | k + 1 => if wMax w k < w k then w k else wMax w k
theorem wCnt_le (F : Nat → Nat → Nat) (w : Nat → Nat) : ∀ n, wCnt F w n ≤ n
  | 0 => Nat.le_refl 0
  | k + 1 => by
    have := wCnt_le F w k
    unfold wCnt
    split <;> omega
theorem wMax_le {w : Nat → Nat} {m : Nat} : ∀ {n : Nat}, (∀ k, k < n → w k ≤ m) → wMax w n ≤ m
  | 0, _ => Nat.zero_le m
  | k + 1, h => by
    have h1 := wMax_le (n := k) (fun j hj => h j (by omega))
    have h2 := h k (by omega)
    unfold wMax
    split <;> omega
/-- what would be: 0 the cost, 1 how many stay, 2 roads past use, 3 the most wear -/
def wWhat (A : yN) (x : yS) : Nat → Nat
  | 0 => x.2.2.2.1.1
  | 1 => x.2.2.2.2.1.1
  | 2 => wCnt A.2 x.1.1 A.1.1
  | _ => wMax x.1.1 A.1.1
section MWD
variable {E : zE} {b : Nat} {G : zG} {t : zT} {h : zH} {D : yD} {p : yP} {R : Nat × (Nat → Nat)}
theorem l_would {L : yL} {A : yN} {x : yS} (hT : zTM t) (hW : wOk L A p x) (hm : mWk h L A p x) (C : zCx E b G RX11 cX11_would 7 (some .long)) {q : Nat} (hq : q = 2 ∨ q = 3) {Q : Int64 → zT → zH → Prop} (hE : zEnd E b G 0 0 (qJ Q)) (hQ : Q (lN (wWhat A x q)) t h) {v1 v2 : Int32} :
    ∀ (m k : Nat), k + m = A.1.1 → zAW E b G 7 0 0 104 [some (.ref (b + 157)), some (.int v1), some (.int v2), some (.int (nI q)), some (.int (nI (wCnt A.2 x.1.1 k))), some (.int (nI (wMax x.1.1 k))), some (.int (nI k))] [] t h := by
  obtain ⟨-, -, hn, -, hb⟩ := hW.1.1
  obtain ⟨-, hr, -, hf⟩ := hm.1.1
  have hmx : ∀ k, k ≤ A.1.1 → wMax x.1.1 k ≤ 99 := fun k hk => wMax_le (fun j hj => (hb j (by omega)).2.2.2.2.2.2.2)
  intro m
  induction m with
  | zero =>
    intro k hk
    have h1 := wCnt_le A.2 x.1.1 k
    have h2 := hmx k (by omega)
    refine zz_iload_6 C dX11_would_104 <| zz_aload_0 C dX11_would_106 <| zz_getI C fX11_204 (tM_K hT) dX11_would_107 <| zpc 110 rfl <| ?_
    rw [hr]
    refine zz_icmp_ge C 174 dX11_would_110 (by decide) (fun c110 => ?_) (fun c110 => ?_)
    · refine zz_iload_3 C dX11_would_174 <| zz_iconst_2 C dX11_would_175 <| zpc 176 rfl <| ?_
      rw [show (2 : Int32) = nI 2 from rfl]
      refine zz_icmp_ne C 185 dX11_would_176 (by decide) (fun c176 => ?_) (fun c176 => ?_)
      · refine zz_iload_5 C dX11_would_185 <| zz_i2l C dX11_would_187 <| zpc 188 rfl <| ?_
        refine zy_lreturn C hE (zle rfl) (zle rfl) dX11_would_188 ?_
        rw [nI_eq (by omega) (by omega)] at c176
        first
          | (rw [nI_l (by omega)]; rw [show q = 2 by omega, show A.1.1 = k by omega] at hQ; exact hQ)
          | (rw [nI_l (by omega)]; rw [show q = 3 by omega] at hQ; rw [show k = A.1.1 by omega]; exact hQ)
          | (rw [nI_l (by omega)]; rw [show q = 2 by omega] at hQ; rw [show k = A.1.1 by omega]; exact hQ)
      · refine zz_iload_4 C dX11_would_179 <| zz_i2l C dX11_would_181 <| zz_goto C 188 dX11_would_182 (by decide) <| zpc 188 rfl <| ?_
        refine zy_lreturn C hE (zle rfl) (zle rfl) dX11_would_188 ?_
        rw [nI_eq (by omega) (by omega)] at c176
        first
          | (rw [nI_l (by omega)]; rw [show q = 2 by omega, show A.1.1 = k by omega] at hQ; exact hQ)
          | (rw [nI_l (by omega)]; rw [show q = 3 by omega] at hQ; rw [show k = A.1.1 by omega]; exact hQ)
          | (rw [nI_l (by omega)]; rw [show q = 2 by omega] at hQ; rw [show k = A.1.1 by omega]; exact hQ)
    · exact absurd (nI_le (by omega) (by omega)) c110
  | succ m ih =>
    intro k hk
    have hwk := (hf k (by omega)).2
    have hfk := (hf k (by omega)).1 4 (by omega)
    have hbk := (hb k (by omega))
    have h2 := hmx k (by omega)
    have ihk := ih (k + 1) (by omega)
    rw [show wCnt A.2 x.1.1 (k + 1) = wCnt A.2 x.1.1 k + (if A.2 k 4 < x.1.1 k then 1 else 0) from rfl, show wMax x.1.1 (k + 1) = if wMax x.1.1 k < x.1.1 k then x.1.1 k else wMax x.1.1 k from rfl] at ihk
    refine zz_iload_6 C dX11_would_104 <| zz_aload_0 C dX11_would_106 <| zz_getI C fX11_204 (tM_K hT) dX11_would_107 <| zpc 110 rfl <| ?_
    rw [hr]
    refine zz_icmp_ge C 174 dX11_would_110 (by decide) (fun c110 => ?_) (fun c110 => ?_)
    · exact absurd c110 (nI_ge (by omega) (by omega))
    · refine zz_iload_4 C dX11_would_113 <| zz_aload_0 C dX11_would_115 <| zz_getR C fX11_61 (tM_K hT) (tM_R_w hT) dX11_would_116 <| zz_iload_6 C dX11_would_119 <| zc_iaload C _ (tM_K_w hT) (znI (by omega)) (by omega) dX11_would_121 <| zpc 122 rfl <| ?_
      rw [hwk]
      refine zz_aload_0 C dX11_would_122 <| zz_getR C fX11_34 (tM_K hT) (tM_R_road hT) dX11_would_123 <| zz_iload_6 C dX11_would_126 <| zc_row C _ (tM_K_road hT) (tM_row_road hT) (znI (by omega)) (by omega) dX11_would_128 <| fun r128 => ?_
      refine zz_iconst_4 C dX11_would_129 <| zc_iaload C 4 (tM_KR_road hT _ r128) (zlit _ (by decide)) (by decide) dX11_would_130 <| zpc 131 rfl <| ?_
      rw [hfk]
      refine zz_icmp_le C 138 dX11_would_131 (by decide) (fun c131 => ?_) (fun c131 => ?_)
      · refine zz_iconst_0 C dX11_would_138 <| zz_iadd C dX11_would_139 <| zz_istore_4 C (zle rfl) rfl dX11_would_140 <| zz_aload_0 C dX11_would_142 <| zz_getR C fX11_61 (tM_K hT) (tM_R_w hT) dX11_would_143 <| zz_iload_6 C dX11_would_146 <| zc_iaload C _ (tM_K_w hT) (znI (by omega)) (by omega) dX11_would_148 <| zpc 149 rfl <| ?_
        rw [hwk]
        refine zz_iload_5 C dX11_would_149 <| zpc 151 rfl <| ?_
        refine zz_icmp_le C 164 dX11_would_151 (by decide) (fun c151 => ?_) (fun c151 => ?_)
        · refine zz_iload_5 C dX11_would_164 <| zz_istore_5 C (zle rfl) rfl dX11_would_166 <| zz_iinc_6 C _ (zle rfl) rfl dX11_would_168 nI_s <| zz_goto C 104 dX11_would_171 (by decide) <| zpc 104 rfl <| ?_
          rw [nI_leI (by omega) (by omega)] at c131 c151
          first
            | (rw [if_pos (by omega), if_pos (by omega)] at ihk; rw [← nI_add] at ihk; exact ihk)
            | (rw [if_pos (by omega), if_neg (by omega)] at ihk; rw [← nI_add] at ihk; exact ihk)
            | (rw [if_neg (by omega), if_pos (by omega)] at ihk; rw [← nI_add] at ihk; exact ihk)
            | (rw [if_neg (by omega), if_neg (by omega)] at ihk; rw [← nI_add] at ihk; exact ihk)
        · refine zz_aload_0 C dX11_would_154 <| zz_getR C fX11_61 (tM_K hT) (tM_R_w hT) dX11_would_155 <| zz_iload_6 C dX11_would_158 <| zc_iaload C _ (tM_K_w hT) (znI (by omega)) (by omega) dX11_would_160 <| zpc 161 rfl <| ?_
          rw [hwk]
          refine zz_goto C 166 dX11_would_161 (by decide) <| zz_istore_5 C (zle rfl) rfl dX11_would_166 <| zz_iinc_6 C _ (zle rfl) rfl dX11_would_168 nI_s <| zz_goto C 104 dX11_would_171 (by decide) <| zpc 104 rfl <| ?_
          rw [nI_leI (by omega) (by omega)] at c131 c151
          first
            | (rw [if_pos (by omega), if_pos (by omega)] at ihk; rw [← nI_add] at ihk; exact ihk)
            | (rw [if_pos (by omega), if_neg (by omega)] at ihk; rw [← nI_add] at ihk; exact ihk)
            | (rw [if_neg (by omega), if_pos (by omega)] at ihk; rw [← nI_add] at ihk; exact ihk)
            | (rw [if_neg (by omega), if_neg (by omega)] at ihk; rw [← nI_add] at ihk; exact ihk)
      · refine zz_iconst_1 C dX11_would_134 <| zz_goto C 139 dX11_would_135 (by decide) <| zz_iadd C dX11_would_139 <| zz_istore_4 C (zle rfl) rfl dX11_would_140 <| zz_aload_0 C dX11_would_142 <| zz_getR C fX11_61 (tM_K hT) (tM_R_w hT) dX11_would_143 <| zz_iload_6 C dX11_would_146 <| zc_iaload C _ (tM_K_w hT) (znI (by omega)) (by omega) dX11_would_148 <| zpc 149 rfl <| ?_
        rw [hwk]
        refine zz_iload_5 C dX11_would_149 <| zpc 151 rfl <| ?_
        refine zz_icmp_le C 164 dX11_would_151 (by decide) (fun c151 => ?_) (fun c151 => ?_)
        · refine zz_iload_5 C dX11_would_164 <| zz_istore_5 C (zle rfl) rfl dX11_would_166 <| zz_iinc_6 C _ (zle rfl) rfl dX11_would_168 nI_s <| zz_goto C 104 dX11_would_171 (by decide) <| zpc 104 rfl <| ?_
          rw [nI_leI (by omega) (by omega)] at c131 c151
          first
            | (rw [if_pos (by omega), if_pos (by omega)] at ihk; rw [← nI_add] at ihk; exact ihk)
            | (rw [if_pos (by omega), if_neg (by omega)] at ihk; rw [← nI_add] at ihk; exact ihk)
            | (rw [if_neg (by omega), if_pos (by omega)] at ihk; rw [← nI_add] at ihk; exact ihk)
            | (rw [if_neg (by omega), if_neg (by omega)] at ihk; rw [← nI_add] at ihk; exact ihk)
        · refine zz_aload_0 C dX11_would_154 <| zz_getR C fX11_61 (tM_K hT) (tM_R_w hT) dX11_would_155 <| zz_iload_6 C dX11_would_158 <| zc_iaload C _ (tM_K_w hT) (znI (by omega)) (by omega) dX11_would_160 <| zpc 161 rfl <| ?_
          rw [hwk]
          refine zz_goto C 166 dX11_would_161 (by decide) <| zz_istore_5 C (zle rfl) rfl dX11_would_166 <| zz_iinc_6 C _ (zle rfl) rfl dX11_would_168 nI_s <| zz_goto C 104 dX11_would_171 (by decide) <| zpc 104 rfl <| ?_
          rw [nI_leI (by omega) (by omega)] at c131 c151
          first
            | (rw [if_pos (by omega), if_pos (by omega)] at ihk; rw [← nI_add] at ihk; exact ihk)
            | (rw [if_pos (by omega), if_neg (by omega)] at ihk; rw [← nI_add] at ihk; exact ihk)
            | (rw [if_neg (by omega), if_pos (by omega)] at ihk; rw [← nI_add] at ihk; exact ihk)
            | (rw [if_neg (by omega), if_neg (by omega)] at ihk; rw [← nI_add] at ihk; exact ihk)
theorem whatOk {r : Int32} : (0 ≤ r ∧ r ≤ 3) ↔ ∃ k, k ≤ 3 ∧ r = nI k := by
  constructor
  · intro q
    obtain ⟨k, hk, e⟩ := nI_of2 (x := r) (n := 3) (M := 3) rfl (Int32.not_lt.mpr q.1) q.2
    exact ⟨k, hk, e⟩
  · rintro ⟨k, hk, rfl⟩
    exact ⟨nI_pos' (by omega), nI_le (b := 3) hk (by omega)⟩
end MWD
