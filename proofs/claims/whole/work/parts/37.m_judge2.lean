/-! ===== the reference: judge ===== -/
theorem oI_n1 {o : Option Nat} (ho : ∀ x, o = some x → x < 2 ^ 31) : oI o = -1 ↔ o = none := by
  cases o with
  | none => exact ⟨fun _ => rfl, fun _ => rfl⟩
  | some x =>
    refine ⟨fun q => ?_, fun q => by cases q⟩
    have hx := ho x rfl
    have z2 : (nI x).toInt = (-1 : Int32).toInt := congrArg Int32.toInt q
    rw [nI_toInt hx] at z2
    have z3 : (-1 : Int32).toInt = -1 := rfl
    omega
theorem rPast_lt {F : Nat → Nat → Nat} {w : Nat → Nat} {n k : Nat} (h : rPast F w n = some k) : k < n := List.mem_range.mp (List.mem_of_find?_eq_some h)
theorem gTurns_fs (L : yL) (A : yN) (p : yP) (s : Nat) (w : Nat → Nat) (day gone : Nat) (x : yA) (hx : x.2.2.1.2.2 = none) : ∀ (g : Nat) (j : Nat), (gTurns L A p s w day gone g x).2.2.1.2.2 = some j → j < g
  | 0, j, q => by rw [show (gTurns L A p s w day gone 0 x).2.2.1.2.2 = none from hx] at q; cases q
  | g + 1, j, q => by
    have ih := gTurns_fs L A p s w day gone x hx g
    have key : ∀ (o : Option (List Nat)) (mk : Bool) (z : yA), (∀ j, z.2.2.1.2.2 = some j → j < g) → ∀ j, (gWay A.1.2.1 (L.2.1 g 3) A.2 w mk g o z).2.2.1.2.2 = some j → j < g + 1 := by
      intro o mk z hz j hj
      cases o with
      | none =>
        have hj : (if z.2.2.1.2.2 = none then some g else z.2.2.1.2.2) = some j := hj
        split at hj
        · cases hj; omega
        · exact Nat.lt_succ_of_lt (hz j hj)
      | some l => exact Nat.lt_succ_of_lt (hz j hj)
    have q2 : (gTurn L A p s w day gone g (gTurns L A p s w day gone g x)).2.2.1.2.2 = some j := q
    unfold gTurn at q2
    split at q2
    · split at q2
      · split at q2
        · exact key _ _ (gNext (gTurns L A p s w day gone g x).1, (gTurns L A p s w day gone g x).2) ih j q2
        · exact Nat.lt_succ_of_lt (ih j q2)
      · exact key _ _ _ ih j q2
    · exact Nat.lt_succ_of_lt (ih j q2)
/-- the first day of the row at whose end a road is past use, and which -/
noncomputable def jPast (L : yL) (A : yN) (p : yP) (R : Nat → Nat) (x : yS) : Nat → Option (Nat × Nat)
  | 0 => none
  | d + 1 => match jPast L A p R x d with
    | some a => some a
    | none => (rPast A.2 (dRow L A p R (d + 1) x).1.1 A.1.1).map (fun k => (d, k))
/-- the first on which a going stays, and who -/
noncomputable def jStay (L : yL) (A : yN) (p : yP) (R : Nat → Nat) (x : yS) : Nat → Option (Nat × Nat)
  | 0 => none
  | d + 1 => match jStay L A p R x d with
    | some a => some a
    | none => (dRow L A p R (d + 1) x).2.2.2.2.1.2.2.map (fun g => (d, g))
theorem jPast_lt {L : yL} {A : yN} {p : yP} {R : Nat → Nat} {x : yS} : ∀ {d a c : Nat}, jPast L A p R x d = some (a, c) → a < d ∧ c < A.1.1
  | d + 1, a, c, q => by
    unfold jPast at q
    split at q
    · rename_i z hz
      cases q
      have := jPast_lt hz
      exact ⟨by omega, this.2⟩
    · cases hr : rPast A.2 (dRow L A p R (d + 1) x).1.1 A.1.1 with
      | none => rw [hr] at q; cases q
      | some k =>
        rw [hr] at q
        cases q
        exact ⟨by omega, rPast_lt hr⟩
theorem dRow_fs {L : yL} {A : yN} {p : yP} {R : Nat → Nat} {x : yS} {d g : Nat} (q : (dRow L A p R (d + 1) x).2.2.2.2.1.2.2 = some g) : g < L.1.2.1 := gTurns_fs L A p (R d) (dRow L A p R d x).1.1 (dRow L A p R d x).2.1.1 (dRow L A p R d x).2.1.2 ((dRow L A p R d x).2.2.1, (dRow L A p R d x).2.2.2.1, ((dRow L A p R d x).2.2.2.2.1.1, (dRow L A p R d x).2.2.2.2.1.2.1, none), fun _ => 0) rfl L.1.2.1 g q
theorem jStay_lt {L : yL} {A : yN} {p : yP} {R : Nat → Nat} {x : yS} : ∀ {d a c : Nat}, jStay L A p R x d = some (a, c) → a < d ∧ c < L.1.2.1
  | d + 1, a, c, q => by
    unfold jStay at q
    split at q
    · rename_i z hz
      cases q
      have := jStay_lt hz
      exact ⟨by omega, this.2⟩
    · cases hr : (dRow L A p R (d + 1) x).2.2.2.2.1.2.2 with
      | none => rw [hr] at q; cases q
      | some k =>
        rw [hr] at q
        cases q
        exact ⟨by omega, dRow_fs hr⟩
def jWhat (a c : Option (Nat × Nat)) : Nat → Option Nat
  | 0 => a.map Prod.fst
  | 1 => a.map Prod.snd
  | 2 => c.map Prod.fst
  | _ => c.map Prod.snd
section MJ
variable {E : zE} {b : Nat} {G : zG} {t : zT} {h : zH} {D : yD} {p : yP} {R : Nat × (Nat → Nat)}
/-- the row's days have gone by -/
theorem l_judge9 (C : zCx E b G RX11 cX11_judge 7 (some .int)) {q : Nat} (hq : q ≤ 3) {a c : Option (Nat × Nat)} {x6 : Option Value} {Q : Int32 → zT → zH → Prop} (hE : zEnd E b G 0 0 (qI Q)) (hQ : Q (oI (jWhat a c q)) t h) : zAW E b G 7 0 0 117 [some (.ref (b + 157)), some (.int (nI q)), some (.int (oI (a.map Prod.fst))), some (.int (oI (a.map Prod.snd))), some (.int (oI (c.map Prod.fst))), some (.int (oI (c.map Prod.snd))), x6] [] t h := by
  refine zz_iload_1 C dX11_judge_117 <| zpc 118 rfl <| ?_
  refine zz_if_ne C 125 dX11_judge_118 (by decide) (fun c118 => ?_) (fun c118 => ?_)
  · refine zz_iload_1 C dX11_judge_125 <| zz_iconst_1 C dX11_judge_126 <| zpc 127 rfl <| ?_
    refine zz_icmp_ne C 134 dX11_judge_127 (by decide) (fun c127 => ?_) (fun c127 => ?_)
    · refine zz_iload_1 C dX11_judge_134 <| zz_iconst_2 C dX11_judge_135 <| zpc 136 rfl <| ?_
      refine zz_icmp_ne C 144 dX11_judge_136 (by decide) (fun c136 => ?_) (fun c136 => ?_)
      · refine zz_iload_5 C dX11_judge_144 <| zpc 146 rfl <| ?_
        refine zy_ireturn C hE (zle rfl) (zle rfl) dX11_judge_146 ?_
        first
        | (rw [show (0 : Int32) = nI 0 from rfl, nI_eq (by omega) (by omega)] at c118; rw [c118] at hQ; exact hQ)
        | (rw [show (1 : Int32) = nI 1 from rfl, nI_eq (by omega) (by omega)] at c127; rw [c127] at hQ; exact hQ)
        | (rw [show (2 : Int32) = nI 2 from rfl, nI_eq (by omega) (by omega)] at c136; rw [c136] at hQ; exact hQ)
        | (rw [show (0 : Int32) = nI 0 from rfl, nI_eq (by omega) (by omega)] at c118
           rw [show (1 : Int32) = nI 1 from rfl, nI_eq (by omega) (by omega)] at c127
           rw [show (2 : Int32) = nI 2 from rfl, nI_eq (by omega) (by omega)] at c136
           rw [show q = 3 by omega] at hQ; exact hQ)
      · refine zz_iload_4 C dX11_judge_139 <| zz_goto C 146 dX11_judge_141 (by decide) <| zpc 146 rfl <| ?_
        refine zy_ireturn C hE (zle rfl) (zle rfl) dX11_judge_146 ?_
        first
        | (rw [show (0 : Int32) = nI 0 from rfl, nI_eq (by omega) (by omega)] at c118; rw [c118] at hQ; exact hQ)
        | (rw [show (1 : Int32) = nI 1 from rfl, nI_eq (by omega) (by omega)] at c127; rw [c127] at hQ; exact hQ)
        | (rw [show (2 : Int32) = nI 2 from rfl, nI_eq (by omega) (by omega)] at c136; rw [c136] at hQ; exact hQ)
        | (rw [show (0 : Int32) = nI 0 from rfl, nI_eq (by omega) (by omega)] at c118
           rw [show (1 : Int32) = nI 1 from rfl, nI_eq (by omega) (by omega)] at c127
           rw [show (2 : Int32) = nI 2 from rfl, nI_eq (by omega) (by omega)] at c136
           rw [show q = 3 by omega] at hQ; exact hQ)
    · refine zz_iload_3 C dX11_judge_130 <| zz_goto C 146 dX11_judge_131 (by decide) <| zpc 146 rfl <| ?_
      refine zy_ireturn C hE (zle rfl) (zle rfl) dX11_judge_146 ?_
      first
      | (rw [show (0 : Int32) = nI 0 from rfl, nI_eq (by omega) (by omega)] at c118; rw [c118] at hQ; exact hQ)
      | (rw [show (1 : Int32) = nI 1 from rfl, nI_eq (by omega) (by omega)] at c127; rw [c127] at hQ; exact hQ)
      | (rw [show (2 : Int32) = nI 2 from rfl, nI_eq (by omega) (by omega)] at c136; rw [c136] at hQ; exact hQ)
      | (rw [show (0 : Int32) = nI 0 from rfl, nI_eq (by omega) (by omega)] at c118
         rw [show (1 : Int32) = nI 1 from rfl, nI_eq (by omega) (by omega)] at c127
         rw [show (2 : Int32) = nI 2 from rfl, nI_eq (by omega) (by omega)] at c136
         rw [show q = 3 by omega] at hQ; exact hQ)
  · refine zz_iload_2 C dX11_judge_121 <| zz_goto C 146 dX11_judge_122 (by decide) <| zpc 146 rfl <| ?_
    refine zy_ireturn C hE (zle rfl) (zle rfl) dX11_judge_146 ?_
    first
    | (rw [show (0 : Int32) = nI 0 from rfl, nI_eq (by omega) (by omega)] at c118; rw [c118] at hQ; exact hQ)
    | (rw [show (1 : Int32) = nI 1 from rfl, nI_eq (by omega) (by omega)] at c127; rw [c127] at hQ; exact hQ)
    | (rw [show (2 : Int32) = nI 2 from rfl, nI_eq (by omega) (by omega)] at c136; rw [c136] at hQ; exact hQ)
    | (rw [show (0 : Int32) = nI 0 from rfl, nI_eq (by omega) (by omega)] at c118
       rw [show (1 : Int32) = nI 1 from rfl, nI_eq (by omega) (by omega)] at c127
       rw [show (2 : Int32) = nI 2 from rfl, nI_eq (by omega) (by omega)] at c136
       rw [show q = 3 by omega] at hQ; exact hQ)
/-- whether a road is past use now -/
theorem l_judge1 {P n tl : Nat} {F : Nat → Nat → Nat} {w : Nat → Nat} (hT : zTM t) (hN : nOk P n tl F w) (hm : mNet h P n tl F w) (C : zCx E b G RX11 cX11_judge 7 (some .int)) (hR : zRoom G 6 0 0) {d : Nat} (hd : d ≤ 30) {a : Option (Nat × Nat)} (ha : ∀ i j, a = some (i, j) → i < 30) {v1 : Int32} {x4 x5 : Int32}
    (kont : zAW E b G 7 0 0 87 [some (.ref (b + 157)), some (.int v1), some (.int (oI ((match a with | some z => some z | none => (rPast F w n).map (fun k => (d, k))).map Prod.fst))), some (.int (oI ((match a with | some z => some z | none => (rPast F w n).map (fun k => (d, k))).map Prod.snd))), some (.int x4), some (.int x5), some (.int (nI d))] [] t h) :
    zAW E b G 7 0 0 66 [some (.ref (b + 157)), some (.int v1), some (.int (oI (a.map Prod.fst))), some (.int (oI (a.map Prod.snd))), some (.int x4), some (.int x5), some (.int (nI d))] [] t h := by
  have hn := hN.2.2.1
  cases a with
  | some z =>
    have hz := ha z.1 z.2 rfl
    have hne : ¬ oI ((some z).map Prod.fst) = -1 := fun q => by
      have := (oI_n1 (o := some z.1) (fun x hx => by cases hx; omega)).mp q
      cases this
    refine zz_iload_2 C dX11_judge_66 <| zz_iconst_m1 C dX11_judge_67 <| zpc 68 rfl <| ?_
    refine zz_icmp_ne C 87 dX11_judge_68 (by decide) (fun c68 => ?_) (fun c68 => ?_)
    · exact kont
    · exact absurd c68 hne
  | none =>
    cases hr : rPast F w n with
    | none =>
      rw [hr] at kont
      refine zz_iload_2 C dX11_judge_66 <| zz_iconst_m1 C dX11_judge_67 <| zpc 68 rfl <| ?_
      refine zz_icmp_ne C 87 dX11_judge_68 (by decide) (fun c68 => ?_) (fun c68 => ?_)
      · exact absurd rfl c68
      · refine zz_aload_0 C dX11_judge_71 <| zpc 72 rfl <| ?_
        refine zf_callVI C hR [] (c_pastUse hT hN hm) lX11_308 rfl (tM_K hT) (by decide) rfl ⟨zle rfl, zle rfl, zle rfl, zle rfl⟩ (zle rfl) dX11_judge_72 ?_
        rw [hr]
        refine zz_iconst_m1 C dX11_judge_75 <| zpc 76 rfl <| ?_
        refine zz_icmp_eq C 87 dX11_judge_76 (by decide) (fun c76 => ?_) (fun c76 => ?_)
        · exact kont
        · exact absurd rfl c76
    | some k =>
      rw [hr] at kont
      have hk := rPast_lt hr
      refine zz_iload_2 C dX11_judge_66 <| zz_iconst_m1 C dX11_judge_67 <| zpc 68 rfl <| ?_
      refine zz_icmp_ne C 87 dX11_judge_68 (by decide) (fun c68 => ?_) (fun c68 => ?_)
      · exact absurd rfl c68
      · refine zz_aload_0 C dX11_judge_71 <| zpc 72 rfl <| ?_
        refine zf_callVI C hR [] (c_pastUse hT hN hm) lX11_308 rfl (tM_K hT) (by decide) rfl ⟨zle rfl, zle rfl, zle rfl, zle rfl⟩ (zle rfl) dX11_judge_72 ?_
        rw [hr]
        refine zz_iconst_m1 C dX11_judge_75 <| zpc 76 rfl <| ?_
        refine zz_icmp_eq C 87 dX11_judge_76 (by decide) (fun c76 => ?_) (fun c76 => ?_)
        · exact absurd ((oI_n1 (o := some k) (fun x hx => by cases hx; omega)).mp c76) (fun q => by cases q)
        · refine zz_iload_6 C dX11_judge_79 <| zz_istore_2 C (zle rfl) rfl dX11_judge_81 <| zz_aload_0 C dX11_judge_82 <| zpc 83 rfl <| ?_
          refine zf_callVI C hR [] (c_pastUse hT hN hm) lX11_308 rfl (tM_K hT) (by decide) rfl ⟨zle rfl, zle rfl, zle rfl, zle rfl⟩ (zle rfl) dX11_judge_83 ?_
          rw [hr]
          refine zz_istore_3 C (zle rfl) rfl dX11_judge_86 <| zpc 87 rfl <| ?_
          exact kont
/-- whether a going stayed -/
theorem l_judge2 (hT : zTM t) (C : zCx E b G RX11 cX11_judge 7 (some .int)) {d : Nat} (hd : d ≤ 30) {c : Option (Nat × Nat)} (hc : ∀ i j, c = some (i, j) → i < 30) {o : Option Nat} (ho : ∀ x, o = some x → x < 14) (hf : zI h 157 47 = oI o) {v1 x2 x3 : Int32}
    (kont : zAW E b G 7 0 0 46 [some (.ref (b + 157)), some (.int v1), some (.int x2), some (.int x3), some (.int (oI ((match c with | some z => some z | none => o.map (fun k => (d, k))).map Prod.fst))), some (.int (oI ((match c with | some z => some z | none => o.map (fun k => (d, k))).map Prod.snd))), some (.int (nI (d + 1)))] [] t h) :
    zAW E b G 7 0 0 87 [some (.ref (b + 157)), some (.int v1), some (.int x2), some (.int x3), some (.int (oI (c.map Prod.fst))), some (.int (oI (c.map Prod.snd))), some (.int (nI d))] [] t h := by
  cases c with
  | some z =>
    have hz := hc z.1 z.2 rfl
    have hne : ¬ oI ((some z).map Prod.fst) = -1 := fun q => by
      have := (oI_n1 (o := some z.1) (fun x hx => by cases hx; omega)).mp q
      cases this
    refine zz_iload_4 C dX11_judge_87 <| zz_iconst_m1 C dX11_judge_89 <| zpc 90 rfl <| ?_
    refine zz_icmp_ne C 111 dX11_judge_90 (by decide) (fun c90 => ?_) (fun c90 => ?_)
    · refine zz_iinc_6 C _ (zle rfl) rfl dX11_judge_111 nI_s <| zz_goto C 46 dX11_judge_114 (by decide) <| zpc 46 rfl <| ?_
      exact kont
    · exact absurd c90 hne
  | none =>
    cases o with
    | none =>
      refine zz_iload_4 C dX11_judge_87 <| zz_iconst_m1 C dX11_judge_89 <| zpc 90 rfl <| ?_
      refine zz_icmp_ne C 111 dX11_judge_90 (by decide) (fun c90 => ?_) (fun c90 => ?_)
      · exact absurd rfl c90
      · refine zz_aload_0 C dX11_judge_93 <| zz_getI C fX11_278 (tM_K hT) dX11_judge_94 <| zpc 97 rfl <| ?_
        rw [hf]
        refine zz_iconst_m1 C dX11_judge_97 <| zpc 98 rfl <| ?_
        refine zz_icmp_eq C 111 dX11_judge_98 (by decide) (fun c98 => ?_) (fun c98 => ?_)
        · refine zz_iinc_6 C _ (zle rfl) rfl dX11_judge_111 nI_s <| zz_goto C 46 dX11_judge_114 (by decide) <| zpc 46 rfl <| ?_
          exact kont
        · exact absurd rfl c98
    | some k =>
      have hk := ho k rfl
      refine zz_iload_4 C dX11_judge_87 <| zz_iconst_m1 C dX11_judge_89 <| zpc 90 rfl <| ?_
      refine zz_icmp_ne C 111 dX11_judge_90 (by decide) (fun c90 => ?_) (fun c90 => ?_)
      · exact absurd rfl c90
      · refine zz_aload_0 C dX11_judge_93 <| zz_getI C fX11_278 (tM_K hT) dX11_judge_94 <| zpc 97 rfl <| ?_
        rw [hf]
        refine zz_iconst_m1 C dX11_judge_97 <| zpc 98 rfl <| ?_
        refine zz_icmp_eq C 111 dX11_judge_98 (by decide) (fun c98 => ?_) (fun c98 => ?_)
        · exact absurd ((oI_n1 (o := some k) (fun x hx => by cases hx; omega)).mp c98) (fun q => by cases q)
        · refine zz_iload_6 C dX11_judge_101 <| zz_istore_4 C (zle rfl) rfl dX11_judge_103 <| zz_aload_0 C dX11_judge_105 <| zz_getI C fX11_278 (tM_K hT) dX11_judge_106 <| zpc 109 rfl <| ?_
          rw [hf]
          refine zz_istore_5 C (zle rfl) rfl dX11_judge_109 <| zz_iinc_6 C _ (zle rfl) rfl dX11_judge_111 nI_s <| zz_goto C 46 dX11_judge_114 (by decide) <| zpc 46 rfl <| ?_
          exact kont
theorem l_judge (hT : zTM t) (hD : sdOk D p) (hRo : roOk R) (hro : mRo h R) {x : yS} (hW : wOk D.1 D.2.1 p x) (htd : x.2.1.1 + R.1 < 2 ^ 20) (C : zCx E b G RX11 cX11_judge 7 (some .int)) (hR : zRoom G 6 0 0) {q : Nat} (hq : q ≤ 3) {Q : Int32 → zT → zH → Prop} (hE : zEnd E b G 0 0 (qI Q)) (hQ : ∀ h', zAg3 h h' → Q (oI (jWhat (jPast D.1 D.2.1 p R.2 x R.1) (jStay D.1 D.2.1 p R.2 x R.1) q)) t h') :
    ∀ (m d : Nat) (hc : zH), d + m = R.1 → zAg3 h hc → mWk hc D.1 D.2.1 p (dRow D.1 D.2.1 p R.2 d x) → zAW E b G 7 0 0 46 [some (.ref (b + 157)), some (.int (nI q)), some (.int (oI ((jPast D.1 D.2.1 p R.2 x d).map Prod.fst))), some (.int (oI ((jPast D.1 D.2.1 p R.2 x d).map Prod.snd))), some (.int (oI ((jStay D.1 D.2.1 p R.2 x d).map Prod.fst))), some (.int (oI ((jStay D.1 D.2.1 p R.2 x d).map Prod.snd))), some (.int (nI d))] [] t hc := by
  have hR30 := hRo.1
  intro m
  induction m with
  | zero =>
    intro d hc hdd ha hm
    have hr := (hro.ag3 ha).1
    refine zz_iload_6 C dX11_judge_46 <| zz_aload_0 C dX11_judge_48 <| zz_getI C fX11_191 (tM_K hT) dX11_judge_49 <| zpc 52 rfl <| ?_
    rw [hr]
    refine zz_icmp_ge C 117 dX11_judge_52 (by decide) (fun c52 => ?_) (fun c52 => ?_)
    · refine l_judge9 C hq hE ?_
      rw [show d = R.1 by omega]; exact hQ _ ha
    · exact absurd (nI_le (by omega) (by omega)) c52
  | succ m ih =>
    intro d hc hdd ha hm
    have hr := (hro.ag3 ha).1
    have hrd := (hro.ag3 ha).2 d (by omega)
    have hlt := hRo.2 d (by omega)
    have hWd := hW.row R.2 d
    have hng := hD.1.2.1.2.2.1
    have htm : (dRow D.1 D.2.1 p R.2 d x).2.1.1 = x.2.1.1 + d := by rw [dRow_tm]
    refine zz_iload_6 C dX11_judge_46 <| zz_aload_0 C dX11_judge_48 <| zz_getI C fX11_191 (tM_K hT) dX11_judge_49 <| zpc 52 rfl <| ?_
    rw [hr]
    refine zz_icmp_ge C 117 dX11_judge_52 (by decide) (fun c52 => ?_) (fun c52 => ?_)
    · exact absurd c52 (nI_ge (by omega) (by omega))
    · refine zz_aload_0 C dX11_judge_55 <| zz_aload_0 C dX11_judge_56 <| zz_getR C fX11_55 (tM_K hT) (tM_R_row hT) dX11_judge_57 <| zz_iload_6 C dX11_judge_60 <| zc_iaload C _ (tM_K_row hT) (znI (by omega)) (by omega) dX11_judge_62 <| zpc 63 rfl <| ?_
      rw [hrd]
      refine zy_callVV C hR [_] (c_goesBy hT hWd hm (R.2 d) (by omega) (by rw [htm]; omega)) lX11_293 rfl (tM_K hT) (by decide) rfl ⟨zle rfl, zle rfl, zle rfl, zle rfl⟩ (zle rfl) dX11_judge_63 ?_
      intro t' h' hv; obtain ⟨rfl, a3, hm3, hfs⟩ := hv
      refine l_judge1 hT (hWd.day (R.2 d)).1.1 hm3.1.1 C hR (by omega) (fun i j e => by have := jPast_lt e; omega) ?_
      refine l_judge2 hT C (by omega) (fun i j e => by have := jStay_lt e; omega) (o := (dRow D.1 D.2.1 p R.2 (d + 1) x).2.2.2.2.1.2.2) (fun g e => by have := dRow_fs e; omega) hfs ?_
      exact ih (d + 1) _ (by omega) (ha.tr (.of2 a3)) hm3
theorem c_judge1 {l : Launch} (hT : zTM t) (hD : sdOk D p) (hm : mSd h D p) (hRo : roOk R) (hro : mRo h R) (htd : D.2.2.2 + R.1 < 2 ^ 20) (q : Nat) (hq : q ≤ 3) : zMet E b l yX11_judge cX11_judge 7 (some .int) 6 0 0 [.ref (b + 157), .int (nI q)] t h (qI (fun v t' h' => v = oI (jWhat (jPast D.1 D.2.1 p R.2 (x0 D (zI h 157 41)) R.1) (jStay D.1 D.2.1 p R.2 (x0 D (zI h 157 41)) R.1) q) ∧ mCall h t D p 0 t' h')) := by
  have hm0 := hm.th hD 0
  have hro0 := mRo.ag4 (zAg4.th h 0) hro
  have e1 : zI (zsI h 157 0 0) 157 41 = zI h 157 41 := by rw [zI_sI, if_neg (by omega)]
  have hok : (0 ≤ nI q ∧ nI q ≤ 3) := whatOk.mpr ⟨q, hq, rfl⟩
  refine zMet.of (ls := [some (.ref (b + 157)), some (.int (nI q)), none, none, none, none, none]) (by decide) (zle rfl) 5 rfl ?_
  intro G hlG C hR hE hin
  refine zz_aload_0 C dX11_judge_0 <| zz_iconst_0 C dX11_judge_1 <| zy_putI C fX11_104 pX11_0 (tM_K hT) dX11_judge_2 <| zz_aload_0 C dX11_judge_5 <| zz_iload_1 C dX11_judge_6 <| zz_iconst_0 C dX11_judge_7 <| zz_iconst_3 C dX11_judge_8 <| zpc 9 rfl <| ?_
  refine zf_callSI C hR [_, _, _] (c_in _ _ _) lX11_138 rfl ⟨zle rfl, zle rfl, zle rfl, zle rfl⟩ (zle rfl) dX11_judge_9 ?_
  refine zz_if_ne C 19 dX11_judge_12 (by decide) (fun c12 => ?_) (fun c12 => ?_)
  · refine zz_iconst_0 C dX11_judge_19 <| zz_iconst_1 C dX11_judge_20 <| zpc 21 rfl <| ?_
    refine zf_callVI C hR [_, _] (c_bad0 hT _ (by decide) (by first | exact zI_self _ _ _ _ | assumption)) lX11_181 rfl (tM_K hT) (by decide) rfl ⟨zle rfl, zle rfl, zle rfl, zle rfl⟩ (zle rfl) dX11_judge_21 ?_
    refine zz_if_eq C 29 dX11_judge_24 (by decide) (fun c24 => ?_) (fun c24 => ?_)
    · refine zz_iconst_m1 C dX11_judge_29 <| zz_istore_2 C (zle rfl) rfl dX11_judge_30 <| zz_iconst_m1 C dX11_judge_31 <| zz_istore_3 C (zle rfl) rfl dX11_judge_32 <| zz_iconst_m1 C dX11_judge_33 <| zz_istore_4 C (zle rfl) rfl dX11_judge_34 <| zz_iconst_m1 C dX11_judge_36 <| zz_istore_5 C (zle rfl) rfl dX11_judge_37 <| zz_aload_0 C dX11_judge_39 <| zpc 40 rfl <| ?_
      refine zy_callVV C hR [] (c_lays hT hD hm0) lX11_255 rfl (tM_K hT) (by decide) rfl ⟨zle rfl, zle rfl, zle rfl, zle rfl⟩ (zle rfl) dX11_judge_40 ?_
      intro t' h' hv; obtain ⟨rfl, a1, hw⟩ := hv; rw [e1] at hw
      refine zz_iconst_0 C dX11_judge_43 <| zz_istore_6 C (zle rfl) rfl dX11_judge_44 <| zpc 46 rfl <| ?_
      refine l_judge hT hD hRo (hro0.ag3 a1) (hD.w _) htd C hR hq hE ?_ R.1 0 _ (by omega) (zAg3.rf _) hw
      intro h' a2
      have a3 := a1.tr a2
      exact ⟨rfl, rfl, (zAg4.th h 0).tr (.of3 a3), a3.th (zI_self _ _ _ _), a3.sd hD hm0⟩
    · exact absurd rfl c24
  · rw [zb_eq0] at c12; exact absurd hok c12
theorem c_judge0 {l : Launch} (hT : zTM t) (hD : sdOk D p) (hm : mSd h D p) (r : Int32) (hno : ¬ ∃ k, k ≤ 3 ∧ r = nI k) : zMet E b l yX11_judge cX11_judge 7 (some .int) 6 0 0 [.ref (b + 157), .int r] t h (qI (fun v t' h' => v = 0 ∧ mCall h t D p 1 t' h')) := by
  refine zMet.of (ls := [some (.ref (b + 157)), some (.int r), none, none, none, none, none]) (by decide) (zle rfl) 5 rfl ?_
  intro G hlG C hR hE hin
  refine zz_aload_0 C dX11_judge_0 <| zz_iconst_0 C dX11_judge_1 <| zy_putI C fX11_104 pX11_0 (tM_K hT) dX11_judge_2 <| zz_aload_0 C dX11_judge_5 <| zz_iload_1 C dX11_judge_6 <| zz_iconst_0 C dX11_judge_7 <| zz_iconst_3 C dX11_judge_8 <| zpc 9 rfl <| ?_
  refine zf_callSI C hR [_, _, _] (c_in _ _ _) lX11_138 rfl ⟨zle rfl, zle rfl, zle rfl, zle rfl⟩ (zle rfl) dX11_judge_9 ?_
  refine zz_if_ne C 19 dX11_judge_12 (by decide) (fun c12 => ?_) (fun c12 => ?_)
  · rw [zb_ne0, whatOk] at c12; exact absurd c12 hno
  · refine zz_iconst_1 C dX11_judge_15 <| zz_goto C 20 dX11_judge_16 (by decide) <| zz_iconst_1 C dX11_judge_20 <| zpc 21 rfl <| ?_
    refine zf_callVI C hR [_, _] (c_bad1 hT _ (by decide) (by first | exact zI_self _ _ _ _ | assumption)) lX11_181 rfl (tM_K hT) (by decide) rfl ⟨zle rfl, zle rfl, zle rfl, zle rfl⟩ (zle rfl) dX11_judge_21 ?_
    refine zz_if_eq C 29 dX11_judge_24 (by decide) (fun c24 => ?_) (fun c24 => ?_)
    · exact absurd c24 (by decide)
    · refine zz_iconst_0 C dX11_judge_27 <| zpc 28 rfl <| ?_
      refine zy_ireturn C hE (zle rfl) (zle rfl) dX11_judge_28 ?_
      exact ⟨rfl, rfl, (zAg4.th h 0).tr (zAg4.th _ 1), zI_self _ _ _ _, (hm.th hD 0).th hD 1⟩
end MJ
