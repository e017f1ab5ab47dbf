/-! ===== the reference: a number, a sign, a word ===== -/
section MRN
variable {E : zE} {b : Nat} {G : zG} {t : zT} {h : zH} {l : Launch} {B : Nat → Nat} {n : Nat}
theorem c_number (hT : zTM t) (ht : txOk B n) (hx : mTx h B n) (st : yT) (hs : mAt h st n) (lo u : Nat) (hi : Int32) (no : Option Nat) (hlo : lo < 2 ^ 20) (hu : u < 2 ^ 20) (hhi : hi = nI u - 1) (hno : ∀ x, no = some x → x < 2 ^ 31) : zMet E b l yX11_number cX11_number 6 (some .int) 3 0 0 [.ref (b + 157), .int (nI lo), .int hi, .int (oI no)] t h (qI (fun v t' h' => v = nI (rV (numR B n st lo u no)) ∧ t' = t ∧ zAgR h h' ∧ mAt h' (rP (numR B n st lo u no)) n)) := by
  have hn := ht.1
  cases st with
  | inl f =>
    obtain ⟨f1, f2, f3, f4, f5⟩ := id hs
    refine zMet.of (ls := [some (.ref (b + 157)), some (.int (nI lo)), some (.int hi), some (.int (oI no)), none, none]) (by decide) (zle rfl) 2 rfl ?_
    intro G hlG C hR hE hin
    refine zz_aload_0 C dX11_number_0 <| zz_getI C fX11_120 (tM_K hT) dX11_number_1 <| zpc 4 rfl <| ?_
    refine zz_if_eq C 9 dX11_number_4 (by decide) (fun c4 => ?_) (fun c4 => ?_)
    · rw [f1] at c4; exact absurd c4 (nI_ne0 (by omega) (by omega))
    · refine zz_iconst_0 C dX11_number_7 <| zpc 8 rfl <| ?_
      refine zy_ireturn C hE (zle rfl) (zle rfl) dX11_number_8 ?_
      exact ⟨rfl, rfl, zAgR.rf h, hs⟩
  | inr k =>
    obtain ⟨f1, f2, hk, f9⟩ := hs
    obtain ⟨s, es⟩ : ∃ s, s = sc (isBl B) n k := ⟨_, rfl⟩
    have hsn : s ≤ n := by rw [es]; exact sc_le hk
    have enum : numR B n (.inr k) lo u no = if sc (isDg B) n s = s then .inl (1, s) else if dg B n s 0 < lo ∨ u ≤ dg B n s 0 ∨ no = some (dg B n s 0) then .inl (2, s) else .inr (dg B n s 0, sc (isDg B) n s) := by rw [es]; rfl
    have eno : ∀ x, x < 2 ^ 31 → (nI x = oI no ↔ no = some x) := fun x hx => by
      cases no with
      | none => exact ⟨fun z => absurd z.symm (m1_no x hx).2, fun z => by cases z⟩
      | some y =>
        show nI x = nI y ↔ _
        rw [nI_eq hx (hno y rfl)]
        exact ⟨fun z => by rw [z], fun z => (Option.some.inj z).symm⟩
    refine zMet.of (ls := [some (.ref (b + 157)), some (.int (nI lo)), some (.int hi), some (.int (oI no)), none, none]) (by decide) (zle rfl) 2 rfl ?_
    intro G hlG C hR hE hin
    have s107 : ∀ (hc : zH) (p v : Nat), mMv h p hc → p ≤ n → v ≤ 100000 → sc (isDg B) n s = p → dg B n s 0 = v → ¬ p = s → zAW E b G 6 0 0 107 [some (.ref (b + 157)), some (.int (nI lo)), some (.int hi), some (.int ((oI no))), some (.int (nI s)), some (.int (nI v))] [] t hc := by
      intro hc p v mv hp hv ep ev hps
      have fc : zI hc 157 5 = 0 := (mv.2.1 _ _ (by omega)).trans f1
      rw [ep, ev, if_neg hps] at enum
      have ein : (nI lo ≤ nI v ∧ nI v ≤ hi) ↔ (lo ≤ v ∧ v < u) := by rw [hhi, nI_leI (by omega) (by omega), nI_leS (by omega) (by omega)]
      have bad : (¬ (lo ≤ v ∧ v < u) ∨ no = some v) → numR B n (.inr k) lo u no = .inl (2, s) := fun z => by
        rw [enum, if_pos]
        rcases z with z | z
        · by_cases y : v < lo
          · exact Or.inl y
          · exact Or.inr (Or.inl (by omega))
        · exact Or.inr (Or.inr z)
      have badE : numR B n (.inr k) lo u no = .inl (2, s) → (0 : Int32) = nI (rV (numR B n (.inr k) lo u no)) ∧ t = t ∧ zAgR h (zsI (zsI hc 157 5 2) 157 6 (nI s)) ∧ mAt (zsI (zsI hc 157 5 2) 157 6 (nI s)) (rP (numR B n (.inr k) lo u no)) n := fun z => by
        rw [z]
        refine ⟨rfl, rfl, (mv.ag.sI (by omega)).sI (by omega), ?_, (by omega), (by omega), zI_self _ _ _ _, p, hp, ?_⟩
        · rw [zI_sI, if_neg (by omega)]; exact zI_self _ _ _ _
        · rw [zI_sI, if_neg (by omega), zI_sI, if_neg (by omega)]; exact mv.1
      have goodE : (lo ≤ v ∧ v < u) → ¬ no = some v → nI v = nI (rV (numR B n (.inr k) lo u no)) ∧ t = t ∧ zAgR h hc ∧ mAt hc (rP (numR B n (.inr k) lo u no)) n := fun z1 z2 => by
        rw [enum, if_neg (by rintro (y | y | y); omega; omega; exact z2 y)]
        exact ⟨rfl, rfl, mv.ag, fc, mv.1, hp, (mv.2.1 _ _ (by omega)).trans f9⟩
      have f2 : zI (zsI (zsI hc 157 5 2) 157 6 (nI s)) 157 5 = 2 := by rw [zI_sI, if_neg (by omega)]; exact zI_self _ _ _ _
      have s123 : numR B n (.inr k) lo u no = .inl (2, s) → zAW E b G 6 0 0 123 [some (.ref (b + 157)), some (.int (nI lo)), some (.int hi), some (.int ((oI no))), some (.int (nI s)), some (.int (nI v))] [] t hc := by
        intro z
        refine zz_aload_0 C dX11_number_123 <| zz_iconst_2 C dX11_number_124 <| zz_iload_4 C dX11_number_125 <| zpc 127 rfl <| ?_
        refine zf_callVV C hR [_, _] (c_wrong0 hT _ _ fc) lX11_133 rfl (tM_K hT) (by decide) rfl ⟨zle rfl, zle rfl, zle rfl, zle rfl⟩ (zle rfl) dX11_number_127 ?_
        refine zz_aload_0 C dX11_number_130 <| zz_getI C fX11_120 (tM_K hT) dX11_number_131 <| zpc 134 rfl <| ?_
        rw [f2]
        refine zz_if_ne C 142 dX11_number_134 (by decide) (fun c134 => ?_) (fun c134 => ?_)
        · refine zz_iconst_0 C dX11_number_142 <| zpc 143 rfl <| ?_
          refine zy_ireturn C hE (zle rfl) (zle rfl) dX11_number_143 ?_
          exact badE z
        · exact absurd c134 (by decide)
      refine zz_iload_5 C dX11_number_107 <| zz_iload_1 C dX11_number_109 <| zz_iload_2 C dX11_number_110 <| zpc 111 rfl <| ?_
      refine zf_callSI C hR [_, _, _] (c_in _ _ _) lX11_138 rfl ⟨zle rfl, zle rfl, zle rfl, zle rfl⟩ (zle rfl) dX11_number_111 ?_
      refine zz_if_eq C 123 dX11_number_114 (by decide) (fun c114 => ?_) (fun c114 => ?_)
      · first | rw [zb_ne0, ein] at c114 | rw [zb_eq0, ein] at c114
        first
        | exact s123 (bad (Or.inl c114))
        | exact s123 (bad (Or.inr c120))
      · first | rw [zb_ne0, ein] at c114 | rw [zb_eq0, ein] at c114
        refine zz_iload_5 C dX11_number_117 <| zz_iload_3 C dX11_number_119 <| zpc 120 rfl <| ?_
        refine zz_icmp_ne C 130 dX11_number_120 (by decide) (fun c120 => ?_) (fun c120 => ?_)
        · rw [eno v (by omega)] at c120
          refine zz_aload_0 C dX11_number_130 <| zz_getI C fX11_120 (tM_K hT) dX11_number_131 <| zpc 134 rfl <| ?_
          rw [fc]
          refine zz_if_ne C 142 dX11_number_134 (by decide) (fun c134 => ?_) (fun c134 => ?_)
          · exact absurd rfl c134
          · refine zz_iload_5 C dX11_number_137 <| zz_goto C 143 dX11_number_139 (by decide) <| zpc 143 rfl <| ?_
            refine zy_ireturn C hE (zle rfl) (zle rfl) dX11_number_143 ?_
            exact goodE c114 c120
        · rw [eno v (by omega)] at c120
          first
          | exact s123 (bad (Or.inl c114))
          | exact s123 (bad (Or.inr c120))
    have s78 : ∀ (p : Nat) (hc : zH) (w : Nat), mMv h p hc → mTx hc B n → w < 2 ^ 30 → (∀ _ : True, zAW E b G 6 0 0 45 [some (.ref (b + 157)), some (.int (nI lo)), some (.int hi), some (.int ((oI no))), some (.int (nI s)), some (.int (nI ((if 100000 < w then 100000 else w))))] [] t (zsI hc 157 4 (nI (p + 1)))) → zAW E b G 6 0 0 78 [some (.ref (b + 157)), some (.int (nI lo)), some (.int hi), some (.int ((oI no))), some (.int (nI s)), some (.int (nI w))] [] t hc := by
      intro p hc w mv hx2 hw ih
      have ih := ih trivial
      refine zz_iload_5 C dX11_number_78 <| zz_ldc C dX11_number_80 kX11_137 <| zpc 82 rfl <| ?_
      refine zz_icmp_le C 90 dX11_number_82 (by decide) (fun c82 => ?_) (fun c82 => ?_)
      · rw [show (100000 : Int32) = nI 100000 from rfl, nI_leI (by omega) (by omega)] at c82
        refine zz_iload_5 C dX11_number_90 <| zz_istore_5 C (zle rfl) rfl dX11_number_92 <| zz_aload_0 C dX11_number_94 <| zz_dup C dX11_number_95 rfl <| zz_getI C fX11_113 (tM_K hT) dX11_number_96 <| zpc 99 rfl <| ?_
        rw [mv.1]
        refine zz_iconst_1 C dX11_number_99 <| zz_iadd C dX11_number_100 <| zpc 101 rfl <| ?_
        rw [show (1 : Int32) = nI 1 from rfl, nI_add]
        refine zy_putI C fX11_113 pX11_4 (tM_K hT) dX11_number_101 <| zz_goto C 45 dX11_number_104 (by decide) <| zpc 45 rfl <| ?_
        first
        | (rw [if_neg (by omega)] at ih; exact ih)
        | (rw [if_pos (by omega)] at ih; exact ih)
      · rw [show (100000 : Int32) = nI 100000 from rfl, nI_leI (by omega) (by omega)] at c82
        refine zz_ldc C dX11_number_85 kX11_137 <| zz_goto C 92 dX11_number_87 (by decide) <| zz_istore_5 C (zle rfl) rfl dX11_number_92 <| zz_aload_0 C dX11_number_94 <| zz_dup C dX11_number_95 rfl <| zz_getI C fX11_113 (tM_K hT) dX11_number_96 <| zpc 99 rfl <| ?_
        rw [mv.1]
        refine zz_iconst_1 C dX11_number_99 <| zz_iadd C dX11_number_100 <| zpc 101 rfl <| ?_
        rw [show (1 : Int32) = nI 1 from rfl, nI_add]
        refine zy_putI C fX11_113 pX11_4 (tM_K hT) dX11_number_101 <| zz_goto C 45 dX11_number_104 (by decide) <| zpc 45 rfl <| ?_
        first
        | (rw [if_neg (by omega)] at ih; exact ih)
        | (rw [if_pos (by omega)] at ih; exact ih)
    have lp : ∀ p, p ≤ n → ∀ (hc : zH) (v : Nat), s ≤ p → mMv h p hc → v ≤ 100000 → sc (isDg B) n s = sc (isDg B) n p → dg B n s 0 = dg B n p v → ¬ sc (isDg B) n s = s → zAW E b G 6 0 0 45 [some (.ref (b + 157)), some (.int (nI lo)), some (.int hi), some (.int ((oI no))), some (.int (nI s)), some (.int (nI v))] [] t hc := by
      refine zLoop n fun p hp ih hc v hsp mv hv ep ev hne => ?_
      have hx2 := hx.ag mv.ag
      refine zz_aload_0 C dX11_number_45 <| zz_aload_0 C dX11_number_46 <| zz_getI C fX11_113 (tM_K hT) dX11_number_47 <| zpc 50 rfl <| ?_
      rw [mv.1]
      refine zf_callVI C hR [_] (c_byteAt hT ht hx2 p (by omega)) lX11_116 rfl (tM_K hT) (by decide) rfl ⟨zle rfl, zle rfl, zle rfl, zle rfl⟩ (zle rfl) dX11_number_50 ?_
      refine zf_callSI C hR [_] (c_isDigit _) lX11_129 rfl ⟨zle rfl, zle rfl, zle rfl, zle rfl⟩ (zle rfl) dX11_number_53 ?_
      refine zz_if_eq C 107 dX11_number_56 (by decide) (fun c56 => ?_) (fun c56 => ?_)
      · first | rw [zb_ne0, bA_dg ht] at c56 | rw [zb_eq0, bA_dg ht] at c56
        exact s107 hc p v mv hp hv (by rw [ep, sc_f c56]) (by rw [ev, dg_f c56]) (fun z => hne (by rw [ep, sc_f c56, z]))
      · first | rw [zb_ne0, bA_dg ht] at c56 | rw [zb_eq0, bA_dg ht] at c56
        refine zz_bipush C 10 dX11_number_59 (by decide) <| zz_iload_5 C dX11_number_61 <| zz_imul C dX11_number_63 <| zpc 64 rfl <| ?_
        rw [show (10 : Int32) = nI 10 from rfl, pk_mul]
        refine zz_aload_0 C dX11_number_64 <| zz_aload_0 C dX11_number_65 <| zz_getI C fX11_113 (tM_K hT) dX11_number_66 <| zpc 69 rfl <| ?_
        rw [mv.1]
        refine zf_callVI C hR [_] (c_byteAt hT ht hx2 p (by omega)) lX11_116 rfl (tM_K hT) (by decide) rfl ⟨zle rfl, zle rfl, zle rfl, zle rfl⟩ (zle rfl) dX11_number_69 ?_
        have hB := ht.2 p c56.1; have hD : 48 ≤ B p ∧ B p ≤ 57 := of_decide_eq_true c56.2
        rw [bA_in c56.1]
        refine zz_iadd C dX11_number_72 <| zpc 73 rfl <| ?_
        rw [nI_add]
        refine zz_bipush C 48 dX11_number_73 (by decide) <| zz_isub C dX11_number_75 <| zpc 76 rfl <| ?_
        rw [show (48 : Int32) = nI 48 from rfl, pk_sub (by omega)]
        refine zz_istore_5 C (zle rfl) rfl dX11_number_76 <| zpc 78 rfl <| ?_
        obtain ⟨w, ew⟩ : ∃ w, w = 10 * v + B p - 48 := ⟨_, rfl⟩
        have e48 : 10 * v + B p - 48 = w := ew.symm
        have e49 : min 100000 (10 * v + (B p - 48)) = if 100000 < w then 100000 else w := by split <;> omega
        rw [e48]
        exact s78 p hc w mv hx2 (by omega) (fun z => ih (by omega) _ _ (by omega) (mv.nx (p + 1)) (by split <;> omega) (by rw [ep]; exact sc_t c56.1 c56.2) (by rw [ev, dg_t c56.1 c56.2, e49]) hne)
    have dgP : ∀ p, (p < n ∧ isDg B p = true) ∨ ¬ (p < n ∧ isDg B p = true) := fun p => Classical.em _
    have hp1 : ¬ (s < n ∧ isDg B s = true) → sc (isDg B) n s = s := fun z => sc_f z
    have s36 : ∀ hc, mMv h s hc → ¬ (s < n ∧ isDg B s = true) → zAW E b G 6 0 0 36 [some (.ref (b + 157)), some (.int (nI lo)), some (.int hi), some (.int ((oI no))), some (.int (nI s)), some (.int (nI 0))] [] t hc := by
      intro hc mv hnd
      have fc : zI hc 157 5 = 0 := (mv.2.1 _ _ (by omega)).trans f1
      rw [sc_f hnd, if_pos rfl] at enum
      have g1 : zI (zsI (zsI hc 157 5 1) 157 6 (nI s)) 157 5 = 1 := by rw [zI_sI, if_neg (by omega)]; exact zI_self _ _ _ _
      have g2 : zI (zsI (zsI hc 157 5 1) 157 6 (nI s)) 157 4 = nI s := by rw [zI_sI, if_neg (by omega), zI_sI, if_neg (by omega)]; exact mv.1
      have ag : zAgR h (zsI (zsI hc 157 5 1) 157 6 (nI s)) := (mv.ag.sI (by omega)).sI (by omega)
      have fin : (0 : Int32) = nI (rV (numR B n (.inr k) lo u no)) ∧ t = t ∧ zAgR h (zsI (zsI hc 157 5 1) 157 6 (nI s)) ∧ mAt (zsI (zsI hc 157 5 1) 157 6 (nI s)) (rP (numR B n (.inr k) lo u no)) n := by
        rw [enum]
        exact ⟨rfl, rfl, ag, g1, (by omega), (by omega), zI_self _ _ _ _, s, hsn, g2⟩
      refine zz_aload_0 C dX11_number_36 <| zz_iconst_1 C dX11_number_37 <| zz_aload_0 C dX11_number_38 <| zz_getI C fX11_113 (tM_K hT) dX11_number_39 <| zpc 42 rfl <| ?_
      rw [mv.1]
      refine zf_callVV C hR [_, _] (c_wrong0 hT _ _ fc) lX11_133 rfl (tM_K hT) (by decide) rfl ⟨zle rfl, zle rfl, zle rfl, zle rfl⟩ (zle rfl) dX11_number_42 ?_
      refine zz_aload_0 C dX11_number_45 <| zz_aload_0 C dX11_number_46 <| zz_getI C fX11_113 (tM_K hT) dX11_number_47 <| zpc 50 rfl <| ?_
      rw [g2]
      refine zf_callVI C hR [_] (c_byteAt hT ht (hx.ag ag) s (by omega)) lX11_116 rfl (tM_K hT) (by decide) rfl ⟨zle rfl, zle rfl, zle rfl, zle rfl⟩ (zle rfl) dX11_number_50 ?_
      refine zf_callSI C hR [_] (c_isDigit _) lX11_129 rfl ⟨zle rfl, zle rfl, zle rfl, zle rfl⟩ (zle rfl) dX11_number_53 ?_
      refine zz_if_eq C 107 dX11_number_56 (by decide) (fun c56 => ?_) (fun c56 => ?_)
      · refine zz_iload_5 C dX11_number_107 <| zz_iload_1 C dX11_number_109 <| zz_iload_2 C dX11_number_110 <| zpc 111 rfl <| ?_
        refine zf_callSI C hR [_, _, _] (c_in _ _ _) lX11_138 rfl ⟨zle rfl, zle rfl, zle rfl, zle rfl⟩ (zle rfl) dX11_number_111 ?_
        refine zz_if_eq C 123 dX11_number_114 (by decide) (fun c114 => ?_) (fun c114 => ?_)
        · refine zz_aload_0 C dX11_number_123 <| zz_iconst_2 C dX11_number_124 <| zz_iload_4 C dX11_number_125 <| zpc 127 rfl <| ?_
          refine zf_callVV C hR [_, _] (c_wrong1 hT _ _ (by rw [g1]; decide)) lX11_133 rfl (tM_K hT) (by decide) rfl ⟨zle rfl, zle rfl, zle rfl, zle rfl⟩ (zle rfl) dX11_number_127 ?_
          refine zz_aload_0 C dX11_number_130 <| zz_getI C fX11_120 (tM_K hT) dX11_number_131 <| zpc 134 rfl <| ?_
          rw [g1]
          refine zz_if_ne C 142 dX11_number_134 (by decide) (fun c134 => ?_) (fun c134 => ?_)
          · refine zz_iconst_0 C dX11_number_142 <| zpc 143 rfl <| ?_
            refine zy_ireturn C hE (zle rfl) (zle rfl) dX11_number_143 ?_
            exact fin
          · exact absurd c134 (by decide)
        · refine zz_iload_5 C dX11_number_117 <| zz_iload_3 C dX11_number_119 <| zpc 120 rfl <| ?_
          refine zz_icmp_ne C 130 dX11_number_120 (by decide) (fun c120 => ?_) (fun c120 => ?_)
          · refine zz_aload_0 C dX11_number_130 <| zz_getI C fX11_120 (tM_K hT) dX11_number_131 <| zpc 134 rfl <| ?_
            rw [g1]
            refine zz_if_ne C 142 dX11_number_134 (by decide) (fun c134 => ?_) (fun c134 => ?_)
            · refine zz_iconst_0 C dX11_number_142 <| zpc 143 rfl <| ?_
              refine zy_ireturn C hE (zle rfl) (zle rfl) dX11_number_143 ?_
              exact fin
            · exact absurd c134 (by decide)
          · refine zz_aload_0 C dX11_number_123 <| zz_iconst_2 C dX11_number_124 <| zz_iload_4 C dX11_number_125 <| zpc 127 rfl <| ?_
            refine zf_callVV C hR [_, _] (c_wrong1 hT _ _ (by rw [g1]; decide)) lX11_133 rfl (tM_K hT) (by decide) rfl ⟨zle rfl, zle rfl, zle rfl, zle rfl⟩ (zle rfl) dX11_number_127 ?_
            refine zz_aload_0 C dX11_number_130 <| zz_getI C fX11_120 (tM_K hT) dX11_number_131 <| zpc 134 rfl <| ?_
            rw [g1]
            refine zz_if_ne C 142 dX11_number_134 (by decide) (fun c134 => ?_) (fun c134 => ?_)
            · refine zz_iconst_0 C dX11_number_142 <| zpc 143 rfl <| ?_
              refine zy_ireturn C hE (zle rfl) (zle rfl) dX11_number_143 ?_
              exact fin
            · exact absurd c134 (by decide)
      · rw [zb_ne0, bA_dg ht] at c56; exact absurd c56 hnd
    refine zz_aload_0 C dX11_number_0 <| zz_getI C fX11_120 (tM_K hT) dX11_number_1 <| zpc 4 rfl <| ?_
    refine zz_if_eq C 9 dX11_number_4 (by decide) (fun c4 => ?_) (fun c4 => ?_)
    · refine zz_aload_0 C dX11_number_9 <| zpc 10 rfl <| ?_
      refine zy_callVV C hR [] (c_blanks hT ht hx k hk f2) lX11_126 rfl (tM_K hT) (by decide) rfl ⟨zle rfl, zle rfl, zle rfl, zle rfl⟩ (zle rfl) dX11_number_10 ?_
      intro t1 h1 hv; obtain ⟨rfl, mv⟩ := hv; rw [← es] at mv
      refine zz_aload_0 C dX11_number_13 <| zz_getI C fX11_113 (tM_K hT) dX11_number_14 <| zpc 17 rfl <| ?_
      rw [mv.1]
      refine zz_istore_4 C (zle rfl) rfl dX11_number_17 <| zz_iconst_0 C dX11_number_19 <| zz_istore_5 C (zle rfl) rfl dX11_number_20 <| zz_aload_0 C dX11_number_22 <| zz_aload_0 C dX11_number_23 <| zz_getI C fX11_113 (tM_K hT) dX11_number_24 <| zpc 27 rfl <| ?_
      rw [mv.1]
      refine zf_callVI C hR [_] (c_byteAt hT ht (hx.ag mv.ag) s (by omega)) lX11_116 rfl (tM_K hT) (by decide) rfl ⟨zle rfl, zle rfl, zle rfl, zle rfl⟩ (zle rfl) dX11_number_27 ?_
      refine zf_callSI C hR [_] (c_isDigit _) lX11_129 rfl ⟨zle rfl, zle rfl, zle rfl, zle rfl⟩ (zle rfl) dX11_number_30 ?_
      refine zz_if_ne C 45 dX11_number_33 (by decide) (fun c33 => ?_) (fun c33 => ?_)
      · first | rw [zb_ne0, bA_dg ht] at c33 | rw [zb_eq0, bA_dg ht] at c33
        exact lp s hsn h1 0 (by omega) mv (by omega) rfl rfl (by rw [sc_t c33.1 c33.2]; have := sc_ge (isDg B) n (s + 1); omega)
      · first | rw [zb_ne0, bA_dg ht] at c33 | rw [zb_eq0, bA_dg ht] at c33
        exact s36 h1 mv c33
    · exact absurd f1 c4
end MRN
