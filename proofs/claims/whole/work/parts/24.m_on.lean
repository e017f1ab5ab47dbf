/-! ===== the reference: whose day it is, lots, rain ===== -/
def mLd (h : zH) (L : yL) : Prop := zI h 160 0 = nI L.1.1 ∧ zI h 160 3 = nI L.1.2.1 ∧ zI h 160 4 = nI L.1.2.2 ∧ (∀ g, g < L.1.2.1 → ∀ i, i < 6 → zI h (211 + 1 + g) i = nI (L.2.1 g i)) ∧ ∀ k, k < L.1.2.2 → zI h 162 k = nI (L.2.2 k)
def lOkL (L : yL) : Prop := 2 ≤ L.1.1 ∧ L.1.1 ≤ 12 ∧ L.1.2.1 ≤ 14 ∧ L.1.2.2 ≤ 8 ∧ (∀ g, g < L.1.2.1 → L.2.1 g 0 < L.1.1 ∧ L.2.1 g 1 < L.1.1 ∧ L.2.1 g 0 ≠ L.2.1 g 1 ∧ 1 ≤ L.2.1 g 2 ∧ L.2.1 g 2 ≤ 127 ∧ 1 ≤ L.2.1 g 3 ∧ L.2.1 g 3 ≤ 9 ∧ 1 ≤ L.2.1 g 4 ∧ L.2.1 g 4 ≤ 8 ∧ L.2.1 g 5 ≤ 6) ∧ ∀ k, k < L.1.2.2 → L.2.2 k < 1000
def mPl (h : zH) (p : yP) : Prop := zI h 157 36 = oI p.1 ∧ zI h 157 37 = oI p.2.1.1 ∧ (p.2.1.1 ≠ none → zI h 157 38 = nI p.2.1.2) ∧ zI h 157 40 = (if p.2.2.1 = true then 1 else -1) ∧ zI h 157 35 = oI p.2.2.2.1 ∧ zI h 157 52 = oI p.2.2.2.2.1 ∧ zI h 157 42 = zb (p.2.2.2.2.2 = true)
def pOk (p : yP) : Prop := (∀ x, p.1 = some x → x < 14) ∧ (∀ x, p.2.1.1 = some x → x < 14) ∧ p.2.1.2 ≤ 6 ∧ (∀ x, p.2.2.2.1 = some x → x < 14) ∧ ∀ x, p.2.2.2.2.1 = some x → x < 14
def mTm (h : zH) (day gone : Nat) : Prop := zI h 157 32 = nI day ∧ zI h 157 33 = nI (day - gone) ∧ gone ≤ day ∧ day < 2 ^ 20
theorem oI_eq {g : Nat} {o : Option Nat} (hg : g < 2 ^ 31) (ho : ∀ x, o = some x → x < 14) : nI g = oI o ↔ some g = o := by
  cases o with
  | none =>
    constructor
    · intro q
      have z2 := congrArg Int32.toInt q
      rw [nI_toInt hg] at z2
      have z3 : (oI none).toInt = -1 := rfl
      omega
    · intro q; cases q
  | some x =>
    have hx := ho x rfl
    show nI g = nI x ↔ _
    rw [nI_eq hg (by omega)]
    constructor
    · intro q; rw [q]
    · intro q; exact Option.some.inj q
theorem gBit_eq {D q : Nat} (hD : D < 2 ^ 31) (hq : q < 7) : (nI D >>> (nI q &&& 31)) &&& 1 = 1 ↔ D / 2 ^ q % 2 = 1 := by
  rw [zbit hD (by omega), show (1 : Int32) = nI 1 from rfl, nI_eq (by omega) (by omega)]
theorem c_isOn {E : zE} {b : Nat} {l : Launch} {t : zT} {h : zH} {L : yL} {p : yP} {day gone : Nat} (hT : zTM t) (hL : lOkL L) (hl : mLd h L) (hpo : pOk p) (hp : mPl h p) (hd : mTm h day gone) (g : Nat) (hg : g < L.1.2.1) : zMet E b l yX11_isOn cX11_isOn 3 (some .boolean) 1 0 0 [.ref (b + 157), .int (nI g)] t h (qIf (zb (gOn L.2.1 day gone p.1 p.2.1.1 p.2.1.2 g)) t h) := by
  obtain ⟨-, -, hng, -, hG, -⟩ := hL
  have hGg := hG g hg
  have h2 := hl.2.2.2.1 g hg 2 (by omega)
  obtain ⟨p1, p2, p3, -⟩ := hp
  obtain ⟨o1, o2, o3, -⟩ := hpo
  obtain ⟨d1, d2, d3, d4⟩ := hd
  have ea := oI_eq (show g < 2 ^ 31 by omega) o1
  have eh := oI_eq (show g < 2 ^ 31 by omega) o2
  have hz7 : (7 : Int32) = nI 7 := rfl
  by_cases hc : some g = p.2.1.1
  · have hh := p3 (by rw [← hc]; exact fun q => by cases q)
    have e47 : nI day - nI p.2.1.2 < nI (day - gone) ↔ ¬ p.2.1.2 ≤ gone := by
      rw [Int32.lt_iff_toInt_lt, pk_sub_toInt (by omega) (by omega), nI_toInt (by omega)]
      omega
    refine zMet.of (ls := [some (.ref (b + 157)), some (.int (nI g)), none]) (by decide) (zle rfl) 1 rfl ?_
    intro G hlG C hR hE hin
    refine zz_iload_1 C dX11_isOn_0 <| zz_aload_0 C dX11_isOn_1 <| zz_getI C fX11_73 (tM_K hT) dX11_isOn_2 <| zpc 5 rfl <| ?_
    rw [p1]
    refine zz_icmp_ne C 10 dX11_isOn_5 (by decide) (fun c5 => ?_) (fun c5 => ?_)
    · refine zz_aload_0 C dX11_isOn_10 <| zz_getI C fX11_230 (tM_K hT) dX11_isOn_11 <| zpc 14 rfl <| ?_
      rw [d1]
      refine zz_istore_2 C (zle rfl) rfl dX11_isOn_14 <| zz_iload_1 C dX11_isOn_15 <| zz_aload_0 C dX11_isOn_16 <| zz_getI C fX11_76 (tM_K hT) dX11_isOn_17 <| zpc 20 rfl <| ?_
      rw [p2]
      refine zz_icmp_ne C 30 dX11_isOn_20 (by decide) (fun c20 => ?_) (fun c20 => ?_)
      · exact absurd (eh.mpr hc) c20
      · refine zz_iload_2 C dX11_isOn_23 <| zz_aload_0 C dX11_isOn_24 <| zz_getI C fX11_261 (tM_K hT) dX11_isOn_25 <| zpc 28 rfl <| ?_
        rw [hh]
        refine zz_isub C dX11_isOn_28 <| zz_istore_2 C (zle rfl) rfl dX11_isOn_29 <| zz_iload_2 C dX11_isOn_30 <| zz_iload_1 C dX11_isOn_31 <| zz_aload_0 C dX11_isOn_32 <| zz_getI C fX11_76 (tM_K hT) dX11_isOn_33 <| zpc 36 rfl <| ?_
        rw [p2]
        refine zz_icmp_ne C 46 dX11_isOn_36 (by decide) (fun c36 => ?_) (fun c36 => ?_)
        · exact absurd (eh.mpr hc) c36
        · refine zz_aload_0 C dX11_isOn_39 <| zz_getI C fX11_233 (tM_K hT) dX11_isOn_40 <| zz_goto C 47 dX11_isOn_43 (by decide) <| zpc 47 rfl <| ?_
          rw [d2]
          refine zz_icmp_lt C 73 dX11_isOn_47 (by decide) (fun c47 => ?_) (fun c47 => ?_)
          · refine zz_iconst_0 C dX11_isOn_73 <| zpc 74 rfl <| ?_
            refine zf_zreturn C hE (zle rfl) (zle rfl) dX11_isOn_74 (by decide) ?_ rfl rfl
            symm
            rw [ea] at c5
            first
              | (rw [show (1 : Int32) = nI 1 from rfl, nI_eq (by omega) (by omega)] at c66; first | exact zb_t ⟨c5, by rw [if_pos hc]; exact ⟨c47, c66⟩⟩ | exact zb_f (fun q => by have q2 := q.2; rw [if_pos hc] at q2; exact c66 q2.2))
              | exact zb_f (fun q => by have q2 := q.2; rw [if_pos hc] at q2; exact (e47.mp c47) q2.1)
          · rw [e47, Classical.not_not] at c47
            rw [pk_sub (show p.2.1.2 ≤ day by omega)]
            refine zz_aload_0 C dX11_isOn_50 <| zz_getR C fX11_46 (tM_K hT) (tM_R_going hT) dX11_isOn_51 <| zz_iload_1 C dX11_isOn_54 <| zc_row C _ (tM_K_going hT) (tM_row_going hT) (znI (by omega)) (by omega) dX11_isOn_55 <| fun r55 => ?_
            refine zz_iconst_2 C dX11_isOn_56 <| zc_iaload C 2 (tM_KR_going hT _ r55) (zlit _ (by decide)) (by decide) dX11_isOn_57 <| zpc 58 rfl <| ?_
            rw [h2]
            refine zz_iload_2 C dX11_isOn_58 <| zz_bipush C 7 dX11_isOn_59 (by decide) <| zz_irem C dX11_isOn_61 (by decide) <| zpc 62 rfl <| ?_
            rw [hz7, pk_rem (by omega) (by omega) (by omega)]
            refine zz_ishr C dX11_isOn_62 <| zz_iconst_1 C dX11_isOn_63 <| zz_iand C dX11_isOn_64 <| zz_iconst_1 C dX11_isOn_65 <| zpc 66 rfl <| ?_
            rw [zbit (by omega) (by omega)]
            refine zz_icmp_ne C 73 dX11_isOn_66 (by decide) (fun c66 => ?_) (fun c66 => ?_)
            · refine zz_iconst_0 C dX11_isOn_73 <| zpc 74 rfl <| ?_
              refine zf_zreturn C hE (zle rfl) (zle rfl) dX11_isOn_74 (by decide) ?_ rfl rfl
              symm
              rw [ea] at c5
              first
                | (rw [show (1 : Int32) = nI 1 from rfl, nI_eq (by omega) (by omega)] at c66; first | exact zb_t ⟨c5, by rw [if_pos hc]; exact ⟨c47, c66⟩⟩ | exact zb_f (fun q => by have q2 := q.2; rw [if_pos hc] at q2; exact c66 q2.2))
                | exact zb_f (fun q => by have q2 := q.2; rw [if_pos hc] at q2; exact (e47.mp c47) q2.1)
            · refine zz_iconst_1 C dX11_isOn_69 <| zz_goto C 74 dX11_isOn_70 (by decide) <| zpc 74 rfl <| ?_
              refine zf_zreturn C hE (zle rfl) (zle rfl) dX11_isOn_74 (by decide) ?_ rfl rfl
              symm
              rw [ea] at c5
              first
                | (rw [show (1 : Int32) = nI 1 from rfl, nI_eq (by omega) (by omega)] at c66; first | exact zb_t ⟨c5, by rw [if_pos hc]; exact ⟨c47, c66⟩⟩ | exact zb_f (fun q => by have q2 := q.2; rw [if_pos hc] at q2; exact c66 q2.2))
                | exact zb_f (fun q => by have q2 := q.2; rw [if_pos hc] at q2; exact (e47.mp c47) q2.1)
    · refine zz_iconst_0 C dX11_isOn_8 <| zpc 9 rfl <| ?_
      exact zf_zreturn C hE (zle rfl) (zle rfl) dX11_isOn_9 (by decide) (by rw [ea] at c5; exact (zb_f (fun q => q.1 c5)).symm) rfl rfl
  ·
    refine zMet.of (ls := [some (.ref (b + 157)), some (.int (nI g)), none]) (by decide) (zle rfl) 1 rfl ?_
    intro G hlG C hR hE hin
    refine zz_iload_1 C dX11_isOn_0 <| zz_aload_0 C dX11_isOn_1 <| zz_getI C fX11_73 (tM_K hT) dX11_isOn_2 <| zpc 5 rfl <| ?_
    rw [p1]
    refine zz_icmp_ne C 10 dX11_isOn_5 (by decide) (fun c5 => ?_) (fun c5 => ?_)
    · refine zz_aload_0 C dX11_isOn_10 <| zz_getI C fX11_230 (tM_K hT) dX11_isOn_11 <| zpc 14 rfl <| ?_
      rw [d1]
      refine zz_istore_2 C (zle rfl) rfl dX11_isOn_14 <| zz_iload_1 C dX11_isOn_15 <| zz_aload_0 C dX11_isOn_16 <| zz_getI C fX11_76 (tM_K hT) dX11_isOn_17 <| zpc 20 rfl <| ?_
      rw [p2]
      refine zz_icmp_ne C 30 dX11_isOn_20 (by decide) (fun c20 => ?_) (fun c20 => ?_)
      · refine zz_iload_2 C dX11_isOn_30 <| zz_iload_1 C dX11_isOn_31 <| zz_aload_0 C dX11_isOn_32 <| zz_getI C fX11_76 (tM_K hT) dX11_isOn_33 <| zpc 36 rfl <| ?_
        rw [p2]
        refine zz_icmp_ne C 46 dX11_isOn_36 (by decide) (fun c36 => ?_) (fun c36 => ?_)
        · refine zz_iconst_0 C dX11_isOn_46 <| zpc 47 rfl <| ?_
          refine zz_icmp_lt C 73 dX11_isOn_47 (by decide) (fun c47 => ?_) (fun c47 => ?_)
          · exact absurd c47 (nI_pos (by omega))
          · refine zz_aload_0 C dX11_isOn_50 <| zz_getR C fX11_46 (tM_K hT) (tM_R_going hT) dX11_isOn_51 <| zz_iload_1 C dX11_isOn_54 <| zc_row C _ (tM_K_going hT) (tM_row_going hT) (znI (by omega)) (by omega) dX11_isOn_55 <| fun r55 => ?_
            refine zz_iconst_2 C dX11_isOn_56 <| zc_iaload C 2 (tM_KR_going hT _ r55) (zlit _ (by decide)) (by decide) dX11_isOn_57 <| zpc 58 rfl <| ?_
            rw [h2]
            refine zz_iload_2 C dX11_isOn_58 <| zz_bipush C 7 dX11_isOn_59 (by decide) <| zz_irem C dX11_isOn_61 (by decide) <| zpc 62 rfl <| ?_
            rw [hz7, pk_rem (by omega) (by omega) (by omega)]
            refine zz_ishr C dX11_isOn_62 <| zz_iconst_1 C dX11_isOn_63 <| zz_iand C dX11_isOn_64 <| zz_iconst_1 C dX11_isOn_65 <| zpc 66 rfl <| ?_
            rw [zbit (by omega) (by omega)]
            refine zz_icmp_ne C 73 dX11_isOn_66 (by decide) (fun c66 => ?_) (fun c66 => ?_)
            · refine zz_iconst_0 C dX11_isOn_73 <| zpc 74 rfl <| ?_
              refine zf_zreturn C hE (zle rfl) (zle rfl) dX11_isOn_74 (by decide) ?_ rfl rfl
              symm
              rw [ea] at c5
              rw [show (1 : Int32) = nI 1 from rfl, nI_eq (by omega) (by omega)] at c66
              first | exact zb_t ⟨c5, by rw [if_neg hc]; exact c66⟩ | exact zb_f (fun q => by have q2 := q.2; rw [if_neg hc] at q2; exact c66 q2)
            · refine zz_iconst_1 C dX11_isOn_69 <| zz_goto C 74 dX11_isOn_70 (by decide) <| zpc 74 rfl <| ?_
              refine zf_zreturn C hE (zle rfl) (zle rfl) dX11_isOn_74 (by decide) ?_ rfl rfl
              symm
              rw [ea] at c5
              rw [show (1 : Int32) = nI 1 from rfl, nI_eq (by omega) (by omega)] at c66
              first | exact zb_t ⟨c5, by rw [if_neg hc]; exact c66⟩ | exact zb_f (fun q => by have q2 := q.2; rw [if_neg hc] at q2; exact c66 q2)
        · exact absurd (eh.mp c36) hc
      · exact absurd (eh.mp c20) hc
    · refine zz_iconst_0 C dX11_isOn_8 <| zpc 9 rfl <| ?_
      exact zf_zreturn C hE (zle rfl) (zle rfl) dX11_isOn_9 (by decide) (by rw [ea] at c5; exact (zb_f (fun q => q.1 c5)).symm) rfl rfl
/-- the lots -/
theorem c_goesByLot {E : zE} {b : Nat} {l : Launch} {t : zT} {h : zH} {L : yL} {p : yP} (hT : zTM t) (hL : lOkL L) (hl : mLd h L) (hp : mPl h p) (g : Nat) (hg : g < L.1.2.1) : zMet E b l yX11_goesByLot cX11_goesByLot 2 (some .boolean) 1 0 0 [.ref (b + 157), .int (nI g)] t h (if gLot p (L.2.1 g 4) then qIf (zb (gDraw (gNext (zI h 157 41)) (L.2.1 g 4))) t (zsI h 157 41 (gNext (zI h 157 41))) else qIf 1 t h) := by
  obtain ⟨-, -, hng, -, hG, -⟩ := hL
  have hGg := hG g hg
  have h4 := hl.2.2.2.1 g hg 4 (by omega)
  have pl := hp.2.2.2.1
  have h8 : nI (L.2.1 g 4) = 8 ↔ L.2.1 g 4 = 8 := nI_eq (b := 8) (by omega) (by omega)
  have h4' : zI (zsI h 157 41 (gNext (zI h 157 41))) (211 + 1 + g) 4 = nI (L.2.1 g 4) := by
    rw [zI_sI, if_neg (by omega)]; exact h4
  by_cases hc : gLot p (L.2.1 g 4)
  · rw [if_pos hc]
    rw [if_pos hc.1] at pl
    refine zMet.of (ls := [some (.ref (b + 157)), some (.int (nI g))]) (by decide) (zle rfl) 0 rfl ?_
    intro G hlG C hR hE hin
    refine zz_aload_0 C dX11_goesByLot_0 <| zz_getI C fX11_79 (tM_K hT) dX11_goesByLot_1 <| zz_iconst_m1 C dX11_goesByLot_4 <| zpc 5 rfl <| ?_
    rw [pl]
    refine zz_icmp_eq C 21 dX11_goesByLot_5 (by decide) (fun c5 => ?_) (fun c5 => ?_)
    · exact absurd c5 (by decide)
    · refine zz_aload_0 C dX11_goesByLot_8 <| zz_getR C fX11_46 (tM_K hT) (tM_R_going hT) dX11_goesByLot_9 <| zz_iload_1 C dX11_goesByLot_12 <| zc_row C _ (tM_K_going hT) (tM_row_going hT) (znI (by omega)) (by omega) dX11_goesByLot_13 <| fun r13 => ?_
      refine zz_iconst_4 C dX11_goesByLot_14 <| zc_iaload C 4 (tM_KR_going hT _ r13) (zlit _ (by decide)) (by decide) dX11_goesByLot_15 <| zz_bipush C 8 dX11_goesByLot_16 (by decide) <| zpc 18 rfl <| ?_
      rw [h4]
      refine zz_icmp_ne C 23 dX11_goesByLot_18 (by decide) (fun c18 => ?_) (fun c18 => ?_)
      · refine zz_aload_0 C dX11_goesByLot_23 <| zz_aload_0 C dX11_goesByLot_24 <| zz_getI C fX11_270 (tM_K hT) dX11_goesByLot_25 <| zz_ldc_w C dX11_goesByLot_28 kX11_273 <| zz_imul C dX11_goesByLot_31 <| zz_sipush C 12345 dX11_goesByLot_32 (by decide) <| zz_iadd C dX11_goesByLot_35 <| zy_putI C fX11_270 pX11_41 (tM_K hT) dX11_goesByLot_36 <| zz_aload_0 C dX11_goesByLot_39 <| zz_getI C fX11_270 (tM_K hT) dX11_goesByLot_40 <| zpc 43 rfl <| ?_
        rw [zI_self]
        refine zz_bipush C 16 dX11_goesByLot_43 (by decide) <| zz_ishr C dX11_goesByLot_45 <| zz_bipush C 7 dX11_goesByLot_46 (by decide) <| zz_iand C dX11_goesByLot_48 <| zz_aload_0 C dX11_goesByLot_49 <| zz_getR C fX11_46 (tM_K hT) (tM_R_going hT) dX11_goesByLot_50 <| zz_iload_1 C dX11_goesByLot_53 <| zc_row C _ (tM_K_going hT) (tM_row_going hT) (znI (by omega)) (by omega) dX11_goesByLot_54 <| fun r54 => ?_
        refine zz_iconst_4 C dX11_goesByLot_55 <| zc_iaload C 4 (tM_KR_going hT _ r54) (zlit _ (by decide)) (by decide) dX11_goesByLot_56 <| zpc 57 rfl <| ?_
        first | rw [h4'] | (show zAW _ _ _ _ _ _ _ _ (Value.int (zI (zsI h 157 41 (gNext (zI h 157 41))) (211 + 1 + g) 4) :: _) _ _; rw [h4'])
        refine zz_icmp_ge C 64 dX11_goesByLot_57 (by decide) (fun c57 => ?_) (fun c57 => ?_)
        · refine zz_iconst_0 C dX11_goesByLot_64 <| zpc 65 rfl <| ?_
          exact zf_zreturn C hE (zle rfl) (zle rfl) dX11_goesByLot_65 (by decide) (by symm; first | exact zb_t (Int32.not_le.mp c57) | exact zb_f (Int32.not_lt.mpr c57)) rfl rfl
        · refine zz_iconst_1 C dX11_goesByLot_60 <| zz_goto C 65 dX11_goesByLot_61 (by decide) <| zpc 65 rfl <| ?_
          exact zf_zreturn C hE (zle rfl) (zle rfl) dX11_goesByLot_65 (by decide) (by symm; first | exact zb_t (Int32.not_le.mp c57) | exact zb_f (Int32.not_lt.mpr c57)) rfl rfl
      · exact absurd (h8.mp c18) hc.2
  · rw [if_neg hc]
    refine zMet.of (ls := [some (.ref (b + 157)), some (.int (nI g))]) (by decide) (zle rfl) 0 rfl ?_
    intro G hlG C hR hE hin
    refine zz_aload_0 C dX11_goesByLot_0 <| zz_getI C fX11_79 (tM_K hT) dX11_goesByLot_1 <| zz_iconst_m1 C dX11_goesByLot_4 <| zpc 5 rfl <| ?_
    rw [pl]
    refine zz_icmp_eq C 21 dX11_goesByLot_5 (by decide) (fun c5 => ?_) (fun c5 => ?_)
    · refine zz_iconst_1 C dX11_goesByLot_21 <| zpc 22 rfl <| ?_
      exact zf_zreturn C hE (zle rfl) (zle rfl) dX11_goesByLot_22 (by decide) rfl rfl rfl
    · refine zz_aload_0 C dX11_goesByLot_8 <| zz_getR C fX11_46 (tM_K hT) (tM_R_going hT) dX11_goesByLot_9 <| zz_iload_1 C dX11_goesByLot_12 <| zc_row C _ (tM_K_going hT) (tM_row_going hT) (znI (by omega)) (by omega) dX11_goesByLot_13 <| fun r13 => ?_
      refine zz_iconst_4 C dX11_goesByLot_14 <| zc_iaload C 4 (tM_KR_going hT _ r13) (zlit _ (by decide)) (by decide) dX11_goesByLot_15 <| zz_bipush C 8 dX11_goesByLot_16 (by decide) <| zpc 18 rfl <| ?_
      rw [h4]
      refine zz_icmp_ne C 23 dX11_goesByLot_18 (by decide) (fun c18 => ?_) (fun c18 => ?_)
      · refine absurd ⟨?_, fun q => c18 (h8.mpr q)⟩ hc
        rcases Bool.eq_false_or_eq_true p.2.2.1 with q | q
        · exact q
        · rw [if_neg (by rw [q]; decide)] at c5; exact absurd rfl c5
      · refine zz_iconst_1 C dX11_goesByLot_21 <| zpc 22 rfl <| ?_
        exact zf_zreturn C hE (zle rfl) (zle rfl) dX11_goesByLot_22 (by decide) rfl rfl rfl
