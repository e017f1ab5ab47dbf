/-! ===== the reference: a day ===== -/
/-- what a day's goings have come to so far, in the reference's cells -/
def mDyn (h : zH) (n : Nat) (x : yA) : Prop := (∀ k, k < n → zI h 235 k = nI (x.2.2.2 k)) ∧ zL h 157 43 = lN x.2.1.1 ∧ zL h 157 44 = lN x.2.1.2.2 ∧ zI h 157 45 = nI x.2.2.1.1 ∧ zI h 157 46 = nI x.2.2.1.2.1 ∧ zI h 157 47 = oI x.2.2.1.2.2 ∧ zI h 157 41 = x.1
theorem mDyn.sc {h : zH} {n : Nat} {x : yA} (a : mDyn h n x) (f g : Nat → Int32) (y z : Int32) : mDyn (mSc h f g y z) n x := by
  obtain ⟨a1, a2, a3, a4, a5, a6, a7⟩ := a
  refine ⟨fun k hk => ?_, a2, a3, ?_, ?_, ?_, ?_⟩
  · rw [zI_mSc]; simpa using a1 k hk
  · rw [zI_mSc]; simpa using a4
  · rw [zI_mSc]; simpa using a5
  · rw [zI_mSc]; simpa using a6
  · rw [zI_mSc]; simpa using a7
/-- all that a day's goings lean on and leave alone -/
def mSt (h : zH) (L : yL) (A : yN) (p : yP) (w : Nat → Nat) (day gone : Nat) : Prop := mNet h L.1.1 A.1.1 A.1.2.1 A.2 w ∧ mLd h L ∧ mPl h p ∧ mTm h day gone
def sOk (L : yL) (A : yN) (p : yP) (w : Nat → Nat) : Prop := nOk L.1.1 A.1.1 A.1.2.1 A.2 w ∧ lOkL L ∧ pOk p
theorem mSt.ag {h h' : zH} {L : yL} {A : yN} {p : yP} {w : Nat → Nat} {day gone : Nat} (a : zAg1 h h') (hS : sOk L A p w) (hm : mSt h L A p w day gone) : mSt h' L A p w day gone := ⟨a.net hS.1.2.2.1 hm.1, a.ld hS.2.1 hm.2.1, a.pl hm.2.2.1, a.tm hm.2.2.2⟩
section MG
variable {E : zE} {b : Nat} {G : zG} {t : zT} {h : zH} {L : yL} {A : yN} {p : yP} {w : Nat → Nat} {day gone s : Nat} {x3 x4 : Option Value}
/-- the roads of a going's way get its weight -/
theorem l_go3 (hT : zTM t) (hS : sOk L A p w) (hm : mSt h L A p w day gone) (C : zCx E b G RX11 cX11_goesBy 5 none) {g : Nat} (hg : g < L.1.2.1) {v3 : Int32} {l : List Nat} (hln : ∀ k ∈ l, k < A.1.1) (hll : l.length ≤ 12) {sd : Int32} {co cm st wn : Nat} {fs : Option Nat} {pa : Nat} {F0 : Nat → Nat}
    (kont : ∀ (hc : zH) (x4 : Option Value), zAg1 h hc → mDyn hc A.1.1 (sd, (co, cm, pa + pdWay A.1.2.1 w l), (st, wn, fs), ldWay (L.2.1 g 3) l F0) → zAW E b G 5 0 0 240 [some (.ref (b + 157)), some (.int (nI s)), some (.int (nI g)), some (.int v3), x4] [] t hc) :
    ∀ (rest pre : List Nat) (f : Nat → Nat) (q : Nat) (hc : zH), l = pre ++ rest → pa + pdWay A.1.2.1 w l = q + pdWay A.1.2.1 w rest → ldWay (L.2.1 g 3) l F0 = ldWay (L.2.1 g 3) rest f → zAg1 h hc → mDyn hc A.1.1 (sd, (co, cm, q), (st, wn, fs), f) → zI hc 157 50 = nI l.length → (∀ i, i < l.length → zI hc 237 i = nI (l.getD i 0)) → zAW E b G 5 0 0 175 [some (.ref (b + 157)), some (.int (nI s)), some (.int (nI g)), some (.int v3), some (.int (nI pre.length))] [] t hc := by
  have hn := hS.1.2.2.1
  have hng := hS.2.1.2.2.1
  intro rest
  induction rest with
  | nil =>
    intro pre f q hc hpre hq hld ha hy hpl hpp
    rw [List.append_nil] at hpre
    subst hpre
    refine zz_iload_4 C dX11_goesBy_175 <| zz_aload_0 C dX11_goesBy_177 <| zz_getI C fX11_217 (tM_K hT) dX11_goesBy_178 <| zpc 181 rfl <| ?_
    rw [hpl]
    refine zz_icmp_ge C 240 dX11_goesBy_181 (by decide) (fun c181 => ?_) (fun c181 => ?_)
    · refine kont hc _ ha ?_
      rw [hq, hld]
      exact hy
    · exact absurd (nI_le (by omega) (by omega)) c181
  | cons k rest ih =>
    intro pre f q hc hpre hq hld ha hy hpl hpp
    have hlen : pre.length < l.length := by rw [hpre, List.length_append, List.length_cons]; omega
    have hk : k < A.1.1 := hln k (by rw [hpre]; simp)
    have hpi : zI hc 237 pre.length = nI k := by
      rw [hpp _ hlen, hpre]; simp
    have hst := mSt.ag ha hS hm
    have hG3 := hst.2.1.2.2.2.1 g hg 3 (by omega)
    have htl := hst.1.2.2.1
    have hw := (hst.1.2.2.2 k hk).2
    have hb := hS.1.2.2.2.2 k hk
    have htb := hS.1.2.2.2.1
    have hmul : A.1.2.1 * w k ≤ 20 * 99 := Nat.mul_le_mul htb hb.2.2.2.2.2.2.2
    obtain ⟨y1, y2, y3, y4, y5, y6, y7⟩ := hy
    have hlk := y1 k hk
    refine zz_iload_4 C dX11_goesBy_175 <| zz_aload_0 C dX11_goesBy_177 <| zz_getI C fX11_217 (tM_K hT) dX11_goesBy_178 <| zpc 181 rfl <| ?_
    rw [hpl]
    refine zz_icmp_ge C 240 dX11_goesBy_181 (by decide) (fun c181 => ?_) (fun c181 => ?_)
    · exact absurd c181 (nI_ge (by omega) (by omega))
    · refine zz_aload_0 C dX11_goesBy_184 <| zz_getR C fX11_67 (tM_K hT) (tM_R_load hT) dX11_goesBy_185 <| zz_aload_0 C dX11_goesBy_188 <| zz_getR C fX11_85 (tM_K hT) (tM_R_path hT) dX11_goesBy_189 <| zz_iload_4 C dX11_goesBy_192 <| zc_iaload C _ (tM_K_path hT) (znI (by omega)) (by omega) dX11_goesBy_194 <| zpc 195 rfl <| ?_
      rw [hpi]
      refine zz_dup2 C dX11_goesBy_195 rfl rfl <| zc_iaload C _ (tM_K_load hT) (znI (by omega)) (by omega) dX11_goesBy_196 <| zpc 197 rfl <| ?_
      rw [hlk]
      refine zz_aload_0 C dX11_goesBy_197 <| zz_getR C fX11_46 (tM_K hT) (tM_R_going hT) dX11_goesBy_198 <| zz_iload_2 C dX11_goesBy_201 <| zc_row C _ (tM_K_going hT) (tM_row_going hT) (znI (by omega)) (by omega) dX11_goesBy_202 <| fun r202 => ?_
      refine zz_iconst_3 C dX11_goesBy_203 <| zc_iaload C 3 (tM_KR_going hT _ r202) (zlit _ (by decide)) (by decide) dX11_goesBy_204 <| zpc 205 rfl <| ?_
      rw [hG3]
      refine zz_iadd C dX11_goesBy_205 <| zpc 206 rfl <| ?_
      rw [nI_add]
      refine zc_iastore C _ (tM_K_load hT) (znI (by omega)) (by omega) dX11_goesBy_206 <| zz_aload_0 C dX11_goesBy_207 <| zz_dup C dX11_goesBy_208 rfl <| zz_getL C fX11_243 (tM_K hT) dX11_goesBy_209 <| zpc 212 rfl <| ?_
      rw [show zL (zsI hc 235 k (nI (f k + L.2.1 g 3))) 157 44 = lN q from y3]
      refine zz_aload_0 C dX11_goesBy_212 <| zz_getI C fX11_214 (tM_K hT) dX11_goesBy_213 <| zpc 216 rfl <| ?_
      rw [show zI (zsI hc 235 k (nI (f k + L.2.1 g 3))) 157 39 = nI A.1.2.1 from by rw [zI_sI, if_neg (by omega)]; exact htl]
      refine zz_aload_0 C dX11_goesBy_216 <| zz_getR C fX11_61 (tM_K hT) (tM_R_w hT) dX11_goesBy_217 <| zz_aload_0 C dX11_goesBy_220 <| zz_getR C fX11_85 (tM_K hT) (tM_R_path hT) dX11_goesBy_221 <| zz_iload_4 C dX11_goesBy_224 <| zc_iaload C _ (tM_K_path hT) (znI (by omega)) (by omega) dX11_goesBy_226 <| zpc 227 rfl <| ?_
      rw [show zI (zsI hc 235 k (nI (f k + L.2.1 g 3))) 237 pre.length = nI k from by rw [zI_sI, if_neg (by omega)]; exact hpi]
      refine zc_iaload C _ (tM_K_w hT) (znI (by omega)) (by omega) dX11_goesBy_227 <| zpc 228 rfl <| ?_
      rw [show zI (zsI hc 235 k (nI (f k + L.2.1 g 3))) 233 k = nI (w k) from by rw [zI_sI, if_neg (by omega)]; exact hw]
      refine zz_imul C dX11_goesBy_228 <| zpc 229 rfl <| ?_
      rw [pk_mul]
      refine zz_i2l C dX11_goesBy_229 <| zpc 230 rfl <| ?_
      rw [nI_l (by omega)]
      refine zz_ladd C dX11_goesBy_230 <| zpc 231 rfl <| ?_
      rw [lN_add]
      refine zy_putL C fX11_243 pX11_44 (tM_K hT) dX11_goesBy_231 <| zz_iinc_4 C _ (zle rfl) rfl dX11_goesBy_234 nI_s <| zz_goto C 175 dX11_goesBy_237 (by decide) <| zpc 175 rfl <| ?_
      have := ih (pre ++ [k]) (nUp f k (f k + L.2.1 g 3)) (q + A.1.2.1 * w k) (zsL (zsI hc 235 k (nI (f k + L.2.1 g 3))) 157 44 (lN (q + A.1.2.1 * w k))) (by rw [List.append_assoc]; exact hpre) (by rw [hq]; unfold pdWay; simp; omega) (by rw [hld]; rfl) ((ha.sI (by unfold sc1; omega)).sL (Or.inr rfl)) ⟨fun j hj => ?_, y2, by rw [zL_self], ?_, ?_, ?_, ?_⟩ ?_ ?_
      · rw [List.length_append, List.length_singleton] at this
        exact this
      · rw [zI_sL, zI_sI]
        show _ = nI (nUp f k (f k + L.2.1 g 3) j)
        unfold nUp
        by_cases hjk : j = k
        · rw [if_pos ⟨rfl, hjk⟩, if_pos hjk]
        · rw [if_neg (fun z => hjk z.2), if_neg hjk]; exact y1 j hj
      · rw [zI_sL, zI_sI, if_neg (by omega)]; exact y4
      · rw [zI_sL, zI_sI, if_neg (by omega)]; exact y5
      · rw [zI_sL, zI_sI, if_neg (by omega)]; exact y6
      · rw [zI_sL, zI_sI, if_neg (by omega)]; exact y7
      · rw [zI_sL, zI_sI, if_neg (by omega)]; exact hpl
      · intro i hi; rw [zI_sL, zI_sI, if_neg (by omega)]; exact hpp i hi
theorem oI_none {o : Option Nat} (ho : ∀ x, o = some x → x < 14) : oI o = -1 ↔ o = none := by
  cases o with
  | none => exact ⟨fun _ => rfl, fun _ => rfl⟩
  | some x =>
    have hx := ho x rfl
    constructor
    · intro q
      have z2 := congrArg Int32.toInt q
      have z1 : (oI (some x)).toInt = x := nI_toInt (by omega)
      have z3 : (-1 : Int32).toInt = -1 := rfl
      omega
    · intro q; cases q
theorem c_lot1 {l : Launch} (hT : zTM t) (hL : lOkL L) (hl : mLd h L) (hp : mPl h p) (g : Nat) (hg : g < L.1.2.1) (hlot : gLot p (L.2.1 g 4)) : zMet E b l yX11_goesByLot cX11_goesByLot 2 (some .boolean) 1 0 0 [.ref (b + 157), .int (nI g)] t h (qIf (zb (gDraw (gNext (zI h 157 41)) (L.2.1 g 4))) t (zsI h 157 41 (gNext (zI h 157 41)))) := by
  have := c_goesByLot (E := E) (b := b) (l := l) hT hL hl hp g hg
  rw [if_pos hlot] at this
  exact this
theorem c_lot0 {l : Launch} (hT : zTM t) (hL : lOkL L) (hl : mLd h L) (hp : mPl h p) (g : Nat) (hg : g < L.1.2.1) (hlot : ¬ gLot p (L.2.1 g 4)) : zMet E b l yX11_goesByLot cX11_goesByLot 2 (some .boolean) 1 0 0 [.ref (b + 157), .int (nI g)] t h (qIf 1 t h) := by
  have := c_goesByLot (E := E) (b := b) (l := l) hT hL hl hp g hg
  rw [if_neg hlot] at this
  exact this
theorem mSum_le {P n tl : Nat} {F : Nat → Nat → Nat} {w : Nat → Nat} (hN : nOk P n tl F w) : ∀ (l : List Nat), (∀ k ∈ l, k < n) → mSum F w l ≤ 990 * l.length
  | [], _ => Nat.le_refl 0
  | k :: l, hl => by
    have h1 := mSum_le hN l (fun j hj => hl j (List.mem_cons_of_mem _ hj))
    have h2 := nMi_le hN (hl k List.mem_cons_self)
    have h3 : mSum F w (k :: l) = nMi F w k + mSum F w l := by unfold mSum; simp
    rw [h3, List.length_cons]
    omega
theorem mSum_lt {P n tl : Nat} {F : Nat → Nat → Nat} {w : Nat → Nat} (hN : nOk P n tl F w) {l : List Nat} (hl : ∀ k ∈ l, k < n) (h : l.length ≤ 11) : mSum F w l < 2 ^ 31 := by
  have := mSum_le hN l hl
  omega
/-- a going that sets out -/
theorem l_go2b (hT : zTM t) (hS : sOk L A p w) (C : zCx E b G RX11 cX11_goesBy 5 none) (hR : zRoom G 3 0 0) {g s' : Nat} (hg : g < L.1.2.1) (hs' : s' < 2 ^ 31) {hc : zH} (hm : mSt hc L A p w day gone) {x : yA} (hfs : ∀ y, x.2.2.1.2.2 = some y → y < 14) (hy : mDyn hc A.1.1 x)
    (kont : ∀ (h' : zH) (x3 x4 : Option Value), zAg1 hc h' → mDyn h' A.1.1 (gWay A.1.2.1 (L.2.1 g 3) A.2 w (decide (some g = p.2.2.2.2.1)) g (nWay L.1.1 A.1.1 A.1.2.1 s' A.2 w (L.2.1 g 0) (L.2.1 g 1)) x) → zAW E b G 5 0 0 240 [some (.ref (b + 157)), some (.int (nI s)), some (.int (nI g)), x3, x4] [] t h') :
    zAW E b G 5 0 0 89 [some (.ref (b + 157)), some (.int (nI s)), some (.int (nI g)), x3, x4] [.int (nI s'), .int (nI (L.2.1 g 1)), .int (nI (L.2.1 g 0)), .ref (b + 157)] t hc := by
  obtain ⟨sd, ⟨co, cm, pa⟩, ⟨st, wn, fs⟩, f0⟩ := x
  have hN := hS.1
  have hng := hS.2.1.2.2.1
  obtain ⟨g0, g1, -⟩ := hS.2.1.2.2.2.2.1 g hg
  have ea := oI_eq (show g < 2 ^ 31 by omega) hS.2.2.2.2.2.2
  have pas := hm.2.2.1.2.2.2.2.2.1
  obtain ⟨y1, y2, y3, y4, y5, y6, y7⟩ := hy
  dsimp only at y1 y2 y3 y4 y5 y6 y7 hfs
  have efs := oI_none hfs
  rcases ho : nWay L.1.1 A.1.1 A.1.2.1 s' A.2 w (L.2.1 g 0) (L.2.1 g 1) with _ | l
  · rw [ho] at kont
    have hr : zb ((nWay L.1.1 A.1.1 A.1.2.1 s' A.2 w (L.2.1 g 0) (L.2.1 g 1)).isSome = true) = 0 := by rw [ho]; rfl
    have post : ∀ (f gg : Nat → Int32) (u v : Int32) (co' : Nat) (h2 : zH), (∀ i k, zI h2 i k = zI (mSc hc f gg u v) i k) → (∀ i k, ¬ (i = 157 ∧ k = 43) → zL h2 i k = zL hc i k) → zL h2 157 43 = lN co' → ∀ (v3 : Option Nat), v3 = (if fs = none then some g else fs) → zAg1 hc (zsI (zsI h2 157 45 (nI (st + 1))) 157 47 (oI v3)) ∧ mDyn (zsI (zsI h2 157 45 (nI (st + 1))) 157 47 (oI v3)) A.1.1 (sd, (co', cm, pa), (st + 1, wn, v3), f0) := by
      intro f gg u v co' h2 e1 e2 e3 v3 e4
      have a0 : zAg1 hc h2 := ⟨fun i k hn => (e1 i k).trans ((zAg1.sc hc f gg u v).1 i k hn), fun i k hn => e2 i k (fun z => hn ⟨z.1, Or.inl z.2⟩)⟩
      refine ⟨(a0.sI (by unfold sc1; omega)).sI (by unfold sc1; omega), fun k hk => ?_, ?_, ?_, ?_, ?_, ?_, ?_⟩
      · rw [zI_sI, if_neg (by omega), zI_sI, if_neg (by omega), e1, zI_mSc]; simpa using y1 k hk
      · exact e3
      · exact (e2 _ _ (by omega)).trans y3
      · rw [zI_sI, if_neg (by omega), zI_self]
      · rw [zI_sI, if_neg (by omega), zI_sI, if_neg (by omega), e1, zI_mSc]; simpa using y5
      · rw [zI_self]
      · rw [zI_sI, if_neg (by omega), zI_sI, if_neg (by omega), e1, zI_mSc]; simpa using y7
    have fin : ∀ (f gg : Nat → Int32) (u v : Int32) (co' : Nat) (h2 : zH), (∀ i k, zI h2 i k = zI (mSc hc f gg u v) i k) → (∀ i k, ¬ (i = 157 ∧ k = 43) → zL h2 i k = zL hc i k) → zL h2 157 43 = lN co' → (co' = if decide (some g = p.2.2.2.2.1) = true then co else co + 1000) → ∀ (v3 : Option Nat), v3 = (if fs = none then some g else fs) → ∀ (x3 x4 : Option Value), zAW E b G 5 0 0 240 [some (.ref (b + 157)), some (.int (nI s)), some (.int (nI g)), x3, x4] [] t (zsI (zsI h2 157 45 (nI (st + 1))) 157 47 (oI v3)) := by
      intro f gg u v co' h2 e1 e2 e3 e5 v3 e4 x3 x4
      obtain ⟨q1, q2⟩ := post f gg u v co' h2 e1 e2 e3 v3 e4
      refine kont _ x3 x4 q1 ?_
      obtain ⟨z1, z2, z3, z4, z5, z6, z7⟩ := q2
      refine ⟨z1, ?_, z3, z4, z5, ?_, z7⟩
      · rw [z2]; exact congrArg lN e5
      · rw [z6]; exact congrArg oI e4
    refine zy_callVI C hR [_, _, _] (c_findWay hT hN hm.1 _ _ _ g0 g1 hs') lX11_258 rfl (tM_K hT) (by decide) rfl ⟨zle rfl, zle rfl, zle rfl, zle rfl⟩ (zle rfl) dX11_goesBy_89 ?_
    rintro _ _ _ ⟨rfl, rfl, hwf, hiw, ff, gg, rfl, hgg⟩
    rw [hr, ho]
    generalize nI ((none : Option (List Nat)).getD []).length = u9
    generalize nI (mSum A.2 w ((none : Option (List Nat)).getD [])) = v9
    refine zz_istore_3 C (zle rfl) rfl dX11_goesBy_92 <| zz_iload_2 C dX11_goesBy_93 <| zz_aload_0 C dX11_goesBy_94 <| zz_getI C fX11_88 (tM_K hT) dX11_goesBy_95 <| zpc 98 rfl <| ?_
    rw [show zI (mSc hc ff gg u9 v9) 157 52 = oI p.2.2.2.2.1 from by rw [zI_mSc]; simpa using pas]
    refine zz_icmp_eq C 125 dX11_goesBy_98 (by decide) (fun c98 => ?_) (fun c98 => ?_)
    · refine zz_iload_3 C dX11_goesBy_125 <| zpc 126 rfl <| ?_
      refine zz_if_ne C 162 dX11_goesBy_126 (by decide) (fun c126 => ?_) (fun c126 => ?_)
      · exact absurd rfl c126
      · refine zz_aload_0 C dX11_goesBy_129 <| zz_dup C dX11_goesBy_130 rfl <| zz_getI C fX11_246 (tM_K hT) dX11_goesBy_131 <| zpc 134 rfl <| ?_
        first | rw [show zI (mSc hc ff gg u9 v9) 157 45 = nI st from by rw [zI_mSc]; simpa using y4] | rw [show zI (zsL (mSc hc ff gg u9 v9) 157 43 (lN (co + 1000))) 157 45 = nI st from by rw [zI_sL, zI_mSc]; simpa using y4]
        refine zz_iconst_1 C dX11_goesBy_134 <| zz_iadd C dX11_goesBy_135 <| zpc 136 rfl <| ?_
        rw [show (1 : Int32) = nI 1 from rfl, nI_add]
        refine zy_putI C fX11_246 pX11_45 (tM_K hT) dX11_goesBy_136 <| zz_aload_0 C dX11_goesBy_139 <| zz_aload_0 C dX11_goesBy_140 <| zz_getI C fX11_278 (tM_K hT) dX11_goesBy_141 <| zpc 144 rfl <| ?_
        first | rw [show zI (zsI (mSc hc ff gg u9 v9) 157 45 (nI (st + 1))) 157 47 = oI fs from by rw [zI_sI, if_neg (by omega), zI_mSc]; simpa using y6] | rw [show zI (zsI (zsL (mSc hc ff gg u9 v9) 157 43 (lN (co + 1000))) 157 45 (nI (st + 1))) 157 47 = oI fs from by rw [zI_sI, if_neg (by omega), zI_sL, zI_mSc]; simpa using y6]
        refine zz_iconst_m1 C dX11_goesBy_144 <| zpc 145 rfl <| ?_
        refine zz_icmp_ne C 152 dX11_goesBy_145 (by decide) (fun c145 => ?_) (fun c145 => ?_)
        · rw [efs] at c145
          refine zz_aload_0 C dX11_goesBy_152 <| zz_getI C fX11_278 (tM_K hT) dX11_goesBy_153 <| zpc 156 rfl <| ?_
          first | rw [show zI (zsI (mSc hc ff gg u9 v9) 157 45 (nI (st + 1))) 157 47 = oI fs from by rw [zI_sI, if_neg (by omega), zI_mSc]; simpa using y6] | rw [show zI (zsI (zsL (mSc hc ff gg u9 v9) 157 43 (lN (co + 1000))) 157 45 (nI (st + 1))) 157 47 = oI fs from by rw [zI_sI, if_neg (by omega), zI_sL, zI_mSc]; simpa using y6] | rw [show nI g = oI (some g) from rfl]
          refine zy_putI C fX11_278 pX11_47 (tM_K hT) dX11_goesBy_156 <| zz_goto C 240 dX11_goesBy_159 (by decide) <| zpc 240 rfl <| ?_
          rw [ea] at c98
          first
            | exact fin ff gg u9 v9 co (mSc hc ff gg u9 v9) (fun _ _ => rfl) (fun _ _ _ => rfl) y2 (by rw [if_pos (decide_eq_true c98)]) _ (by first | rw [if_neg c145] | rw [if_pos (efs.mp c145)]) _ _
            | exact fin ff gg u9 v9 (co + 1000) (zsL (mSc hc ff gg u9 v9) 157 43 (lN (co + 1000))) (fun _ _ => rfl) (fun i k hn => by rw [zL_sL, if_neg hn]; rfl) (zL_self _ _ _ _) (by rw [if_neg (fun z => c98 (of_decide_eq_true z))]) _ (by first | rw [if_neg c145] | rw [if_pos (efs.mp c145)]) _ _
        · refine zz_iload_2 C dX11_goesBy_148 <| zz_goto C 156 dX11_goesBy_149 (by decide) <| zpc 156 rfl <| ?_
          first | rw [show zI (zsI (mSc hc ff gg u9 v9) 157 45 (nI (st + 1))) 157 47 = oI fs from by rw [zI_sI, if_neg (by omega), zI_mSc]; simpa using y6] | rw [show zI (zsI (zsL (mSc hc ff gg u9 v9) 157 43 (lN (co + 1000))) 157 45 (nI (st + 1))) 157 47 = oI fs from by rw [zI_sI, if_neg (by omega), zI_sL, zI_mSc]; simpa using y6] | rw [show nI g = oI (some g) from rfl]
          refine zy_putI C fX11_278 pX11_47 (tM_K hT) dX11_goesBy_156 <| zz_goto C 240 dX11_goesBy_159 (by decide) <| zpc 240 rfl <| ?_
          rw [ea] at c98
          first
            | exact fin ff gg u9 v9 co (mSc hc ff gg u9 v9) (fun _ _ => rfl) (fun _ _ _ => rfl) y2 (by rw [if_pos (decide_eq_true c98)]) _ (by first | rw [if_neg c145] | rw [if_pos (efs.mp c145)]) _ _
            | exact fin ff gg u9 v9 (co + 1000) (zsL (mSc hc ff gg u9 v9) 157 43 (lN (co + 1000))) (fun _ _ => rfl) (fun i k hn => by rw [zL_sL, if_neg hn]; rfl) (zL_self _ _ _ _) (by rw [if_neg (fun z => c98 (of_decide_eq_true z))]) _ (by first | rw [if_neg c145] | rw [if_pos (efs.mp c145)]) _ _
    · refine zz_aload_0 C dX11_goesBy_101 <| zz_dup C dX11_goesBy_102 rfl <| zz_getL C fX11_239 (tM_K hT) dX11_goesBy_103 <| zpc 106 rfl <| ?_
      rw [show zL (mSc hc ff gg u9 v9) 157 43 = lN co from y2]
      refine zz_iload_3 C dX11_goesBy_106 <| zpc 107 rfl <| ?_
      refine zz_if_eq C 118 dX11_goesBy_107 (by decide) (fun c107 => ?_) (fun c107 => ?_)
      · refine zz_ldc2 C dX11_goesBy_118 kX11_284 <| zz_ladd C dX11_goesBy_121 <| zpc 122 rfl <| ?_
        rw [show (1000 : Int64) = lN 1000 from rfl, lN_add]
        refine zy_putL C fX11_239 pX11_43 (tM_K hT) dX11_goesBy_122 <| zz_iload_3 C dX11_goesBy_125 <| zpc 126 rfl <| ?_
        refine zz_if_ne C 162 dX11_goesBy_126 (by decide) (fun c126 => ?_) (fun c126 => ?_)
        · exact absurd rfl c126
        · refine zz_aload_0 C dX11_goesBy_129 <| zz_dup C dX11_goesBy_130 rfl <| zz_getI C fX11_246 (tM_K hT) dX11_goesBy_131 <| zpc 134 rfl <| ?_
          first | rw [show zI (mSc hc ff gg u9 v9) 157 45 = nI st from by rw [zI_mSc]; simpa using y4] | rw [show zI (zsL (mSc hc ff gg u9 v9) 157 43 (lN (co + 1000))) 157 45 = nI st from by rw [zI_sL, zI_mSc]; simpa using y4]
          refine zz_iconst_1 C dX11_goesBy_134 <| zz_iadd C dX11_goesBy_135 <| zpc 136 rfl <| ?_
          rw [show (1 : Int32) = nI 1 from rfl, nI_add]
          refine zy_putI C fX11_246 pX11_45 (tM_K hT) dX11_goesBy_136 <| zz_aload_0 C dX11_goesBy_139 <| zz_aload_0 C dX11_goesBy_140 <| zz_getI C fX11_278 (tM_K hT) dX11_goesBy_141 <| zpc 144 rfl <| ?_
          first | rw [show zI (zsI (mSc hc ff gg u9 v9) 157 45 (nI (st + 1))) 157 47 = oI fs from by rw [zI_sI, if_neg (by omega), zI_mSc]; simpa using y6] | rw [show zI (zsI (zsL (mSc hc ff gg u9 v9) 157 43 (lN (co + 1000))) 157 45 (nI (st + 1))) 157 47 = oI fs from by rw [zI_sI, if_neg (by omega), zI_sL, zI_mSc]; simpa using y6]
          refine zz_iconst_m1 C dX11_goesBy_144 <| zpc 145 rfl <| ?_
          refine zz_icmp_ne C 152 dX11_goesBy_145 (by decide) (fun c145 => ?_) (fun c145 => ?_)
          · rw [efs] at c145
            refine zz_aload_0 C dX11_goesBy_152 <| zz_getI C fX11_278 (tM_K hT) dX11_goesBy_153 <| zpc 156 rfl <| ?_
            first | rw [show zI (zsI (mSc hc ff gg u9 v9) 157 45 (nI (st + 1))) 157 47 = oI fs from by rw [zI_sI, if_neg (by omega), zI_mSc]; simpa using y6] | rw [show zI (zsI (zsL (mSc hc ff gg u9 v9) 157 43 (lN (co + 1000))) 157 45 (nI (st + 1))) 157 47 = oI fs from by rw [zI_sI, if_neg (by omega), zI_sL, zI_mSc]; simpa using y6] | rw [show nI g = oI (some g) from rfl]
            refine zy_putI C fX11_278 pX11_47 (tM_K hT) dX11_goesBy_156 <| zz_goto C 240 dX11_goesBy_159 (by decide) <| zpc 240 rfl <| ?_
            rw [ea] at c98
            first
              | exact fin ff gg u9 v9 co (mSc hc ff gg u9 v9) (fun _ _ => rfl) (fun _ _ _ => rfl) y2 (by rw [if_pos (decide_eq_true c98)]) _ (by first | rw [if_neg c145] | rw [if_pos (efs.mp c145)]) _ _
              | exact fin ff gg u9 v9 (co + 1000) (zsL (mSc hc ff gg u9 v9) 157 43 (lN (co + 1000))) (fun _ _ => rfl) (fun i k hn => by rw [zL_sL, if_neg hn]; rfl) (zL_self _ _ _ _) (by rw [if_neg (fun z => c98 (of_decide_eq_true z))]) _ (by first | rw [if_neg c145] | rw [if_pos (efs.mp c145)]) _ _
          · refine zz_iload_2 C dX11_goesBy_148 <| zz_goto C 156 dX11_goesBy_149 (by decide) <| zpc 156 rfl <| ?_
            first | rw [show zI (zsI (mSc hc ff gg u9 v9) 157 45 (nI (st + 1))) 157 47 = oI fs from by rw [zI_sI, if_neg (by omega), zI_mSc]; simpa using y6] | rw [show zI (zsI (zsL (mSc hc ff gg u9 v9) 157 43 (lN (co + 1000))) 157 45 (nI (st + 1))) 157 47 = oI fs from by rw [zI_sI, if_neg (by omega), zI_sL, zI_mSc]; simpa using y6] | rw [show nI g = oI (some g) from rfl]
            refine zy_putI C fX11_278 pX11_47 (tM_K hT) dX11_goesBy_156 <| zz_goto C 240 dX11_goesBy_159 (by decide) <| zpc 240 rfl <| ?_
            rw [ea] at c98
            first
              | exact fin ff gg u9 v9 co (mSc hc ff gg u9 v9) (fun _ _ => rfl) (fun _ _ _ => rfl) y2 (by rw [if_pos (decide_eq_true c98)]) _ (by first | rw [if_neg c145] | rw [if_pos (efs.mp c145)]) _ _
              | exact fin ff gg u9 v9 (co + 1000) (zsL (mSc hc ff gg u9 v9) 157 43 (lN (co + 1000))) (fun _ _ => rfl) (fun i k hn => by rw [zL_sL, if_neg hn]; rfl) (zL_self _ _ _ _) (by rw [if_neg (fun z => c98 (of_decide_eq_true z))]) _ (by first | rw [if_neg c145] | rw [if_pos (efs.mp c145)]) _ _
      · exact absurd rfl c107
  · rw [ho] at kont
    have hr : zb ((nWay L.1.1 A.1.1 A.1.2.1 s' A.2 w (L.2.1 g 0) (L.2.1 g 1)).isSome = true) = 1 := by rw [ho]; rfl
    have fin : ∀ (f gg : Nat → Int32) (co' : Nat) (h2 : zH), (∀ k ∈ l, k < A.1.1) → l.length ≤ 11 → (∀ i, i < l.length → gg i = nI (l.getD i 0)) → (∀ i k, zI h2 i k = zI (mSc hc f gg (nI l.length) (nI (mSum A.2 w l))) i k) → (∀ i k, ¬ (i = 157 ∧ k = 43) → zL h2 i k = zL hc i k) → zL h2 157 43 = lN co' → (co' = if decide (some g = p.2.2.2.2.1) = true then co else co + mSum A.2 w l) → ∀ (v3 : Int32), zAW E b G 5 0 0 175 [some (.ref (b + 157)), some (.int (nI s)), some (.int (nI g)), some (.int v3), some (.int (nI ([] : List Nat).length))] [] t (zsI h2 157 46 (nI (wn + 1))) := by
      intro f gg co' h2 l1 l2 l3 e1 e2 e3 e5 v3
      have a0 : zAg1 hc h2 := ⟨fun i k hn => (e1 i k).trans ((zAg1.sc hc f gg _ _).1 i k hn), fun i k hn => e2 i k (fun z => hn ⟨z.1, Or.inl z.2⟩)⟩
      have a1 : zAg1 hc (zsI h2 157 46 (nI (wn + 1))) := a0.sI (by unfold sc1; omega)
      refine l_go3 (s := s) (h := hc) (F0 := f0) (pa := pa) (sd := sd) (co := co') (cm := if decide (some g = p.2.2.2.2.1) = true then cm + mSum A.2 w l else cm) (st := st) (wn := wn + 1) (fs := fs) hT hS hm C hg l1 (by omega) ?_ l [] f0 pa _ rfl rfl rfl a1 ⟨fun k hk => ?_, e3, ?_, ?_, ?_, ?_, ?_⟩ ?_ (fun i hi => ?_)
      · intro h' x4 b1 b2
        refine kont h' _ x4 b1 ?_
        obtain ⟨z1, z2, z3, z4, z5, z6, z7⟩ := b2
        exact ⟨z1, by rw [z2]; exact congrArg lN e5, z3, z4, z5, z6, z7⟩
      · rw [zI_sI, if_neg (by omega), e1, zI_mSc]; simpa using y1 k hk
      · exact (e2 _ _ (by omega)).trans y3
      · rw [zI_sI, if_neg (by omega), e1, zI_mSc]; simpa using y4
      · rw [zI_self]
      · rw [zI_sI, if_neg (by omega), e1, zI_mSc]; simpa using y6
      · rw [zI_sI, if_neg (by omega), e1, zI_mSc]; simpa using y7
      · rw [zI_sI, if_neg (by omega), e1, zI_mSc]; rfl
      · rw [zI_sI, if_neg (by omega), e1, zI_mSc]; simpa using l3 i hi
    refine zy_callVI C hR [_, _, _] (c_findWay hT hN hm.1 _ _ _ g0 g1 hs') lX11_258 rfl (tM_K hT) (by decide) rfl ⟨zle rfl, zle rfl, zle rfl, zle rfl⟩ (zle rfl) dX11_goesBy_89 ?_
    rintro _ _ _ ⟨rfl, rfl, ⟨hw1, hw2⟩, hiw, ff, gg, rfl, hgg⟩
    rw [ho] at hw1 hw2 hgg
    rw [hr, ho]
    dsimp only [Option.getD_some] at hw1 hw2 hgg ⊢
    refine zz_istore_3 C (zle rfl) rfl dX11_goesBy_92 <| zz_iload_2 C dX11_goesBy_93 <| zz_aload_0 C dX11_goesBy_94 <| zz_getI C fX11_88 (tM_K hT) dX11_goesBy_95 <| zpc 98 rfl <| ?_
    rw [show zI (mSc hc ff gg (nI l.length) (nI (mSum A.2 w l))) 157 52 = oI p.2.2.2.2.1 from by rw [zI_mSc]; simpa using pas]
    refine zz_icmp_eq C 125 dX11_goesBy_98 (by decide) (fun c98 => ?_) (fun c98 => ?_)
    · refine zz_iload_3 C dX11_goesBy_125 <| zpc 126 rfl <| ?_
      refine zz_if_ne C 162 dX11_goesBy_126 (by decide) (fun c126 => ?_) (fun c126 => ?_)
      · refine zz_aload_0 C dX11_goesBy_162 <| zz_dup C dX11_goesBy_163 rfl <| zz_getI C fX11_249 (tM_K hT) dX11_goesBy_164 <| zpc 167 rfl <| ?_
        first | rw [show zI (mSc hc ff gg (nI l.length) (nI (mSum A.2 w l))) 157 46 = nI wn from by rw [zI_mSc]; simpa using y5] | rw [show zI (zsL (mSc hc ff gg (nI l.length) (nI (mSum A.2 w l))) 157 43 (lN (co + mSum A.2 w l))) 157 46 = nI wn from by rw [zI_sL, zI_mSc]; simpa using y5]
        refine zz_iconst_1 C dX11_goesBy_167 <| zz_iadd C dX11_goesBy_168 <| zpc 169 rfl <| ?_
        rw [show (1 : Int32) = nI 1 from rfl, nI_add]
        refine zy_putI C fX11_249 pX11_46 (tM_K hT) dX11_goesBy_169 <| zz_iconst_0 C dX11_goesBy_172 <| zz_istore_4 C (zle rfl) rfl dX11_goesBy_173 <| zpc 175 rfl <| ?_
        rw [ea] at c98
        first
          | exact fin ff gg co (mSc hc ff gg (nI l.length) (nI (mSum A.2 w l))) hw1 hw2 hgg (fun _ _ => rfl) (fun _ _ _ => rfl) y2 (by rw [if_pos (decide_eq_true c98)]) _
          | exact fin ff gg (co + mSum A.2 w l) (zsL (mSc hc ff gg (nI l.length) (nI (mSum A.2 w l))) 157 43 (lN (co + mSum A.2 w l))) hw1 hw2 hgg (fun _ _ => rfl) (fun i k hn => by rw [zL_sL, if_neg hn]; rfl) (zL_self _ _ _ _) (by rw [if_neg (fun z => c98 (of_decide_eq_true z))]) _
      · exact absurd c126 (by decide)
    · refine zz_aload_0 C dX11_goesBy_101 <| zz_dup C dX11_goesBy_102 rfl <| zz_getL C fX11_239 (tM_K hT) dX11_goesBy_103 <| zpc 106 rfl <| ?_
      rw [show zL (mSc hc ff gg (nI l.length) (nI (mSum A.2 w l))) 157 43 = lN co from y2]
      refine zz_iload_3 C dX11_goesBy_106 <| zpc 107 rfl <| ?_
      refine zz_if_eq C 118 dX11_goesBy_107 (by decide) (fun c107 => ?_) (fun c107 => ?_)
      · exact absurd c107 (by decide)
      · refine zz_aload_0 C dX11_goesBy_110 <| zz_getI C fX11_220 (tM_K hT) dX11_goesBy_111 <| zpc 114 rfl <| ?_
        rw [show zI (mSc hc ff gg (nI l.length) (nI (mSum A.2 w l))) 157 51 = nI (mSum A.2 w l) from by rw [zI_mSc]; rfl]
        refine zz_i2l C dX11_goesBy_114 <| zz_goto C 121 dX11_goesBy_115 (by decide) <| zpc 121 rfl <| ?_
        rw [nI_l (mSum_lt hN hw1 hw2)]
        refine zz_ladd C dX11_goesBy_121 <| zpc 122 rfl <| ?_
        rw [lN_add]
        refine zy_putL C fX11_239 pX11_43 (tM_K hT) dX11_goesBy_122 <| zz_iload_3 C dX11_goesBy_125 <| zpc 126 rfl <| ?_
        refine zz_if_ne C 162 dX11_goesBy_126 (by decide) (fun c126 => ?_) (fun c126 => ?_)
        · refine zz_aload_0 C dX11_goesBy_162 <| zz_dup C dX11_goesBy_163 rfl <| zz_getI C fX11_249 (tM_K hT) dX11_goesBy_164 <| zpc 167 rfl <| ?_
          first | rw [show zI (mSc hc ff gg (nI l.length) (nI (mSum A.2 w l))) 157 46 = nI wn from by rw [zI_mSc]; simpa using y5] | rw [show zI (zsL (mSc hc ff gg (nI l.length) (nI (mSum A.2 w l))) 157 43 (lN (co + mSum A.2 w l))) 157 46 = nI wn from by rw [zI_sL, zI_mSc]; simpa using y5]
          refine zz_iconst_1 C dX11_goesBy_167 <| zz_iadd C dX11_goesBy_168 <| zpc 169 rfl <| ?_
          rw [show (1 : Int32) = nI 1 from rfl, nI_add]
          refine zy_putI C fX11_249 pX11_46 (tM_K hT) dX11_goesBy_169 <| zz_iconst_0 C dX11_goesBy_172 <| zz_istore_4 C (zle rfl) rfl dX11_goesBy_173 <| zpc 175 rfl <| ?_
          rw [ea] at c98
          first
            | exact fin ff gg co (mSc hc ff gg (nI l.length) (nI (mSum A.2 w l))) hw1 hw2 hgg (fun _ _ => rfl) (fun _ _ _ => rfl) y2 (by rw [if_pos (decide_eq_true c98)]) _
            | exact fin ff gg (co + mSum A.2 w l) (zsL (mSc hc ff gg (nI l.length) (nI (mSum A.2 w l))) 157 43 (lN (co + mSum A.2 w l))) hw1 hw2 hgg (fun _ _ => rfl) (fun i k hn => by rw [zL_sL, if_neg hn]; rfl) (zL_self _ _ _ _) (by rw [if_neg (fun z => c98 (of_decide_eq_true z))]) _
        · exact absurd c126 (by decide)
theorem gTurns_fst (L : yL) (A : yN) (p : yP) (s : Nat) (w : Nat → Nat) (day gone : Nat) (x0 : yA) (h0 : x0.2.2.1.2.2 = none) : ∀ (g y : Nat), (gTurns L A p s w day gone g x0).2.2.1.2.2 = some y → y < g
  | 0, y, h => by
    have h1 : x0.2.2.1.2.2 = some y := h
    rw [h0] at h1; cases h1
  | g + 1, y, h => by
    have ih := gTurns_fst L A p s w day gone x0 h0 g y
    have key : ∀ (o : Option (List Nat)) (mk : Bool) (z : yA), z.2 = (gTurns L A p s w day gone g x0).2 → (gWay A.1.2.1 (L.2.1 g 3) A.2 w mk g o z).2.2.1.2.2 = some y → y < g + 1 := by
      intro o mk z hz hh
      cases o with
      | none =>
        have h1 : (if z.2.2.1.2.2 = none then some g else z.2.2.1.2.2) = some y := hh
        split at h1
        · have := Option.some.inj h1; omega
        · rw [hz] at h1; have := ih h1; omega
      | some l =>
        have h1 : z.2.2.1.2.2 = some y := hh
        rw [hz] at h1; have := ih h1; omega
    have h2 : (gTurn L A p s w day gone g (gTurns L A p s w day gone g x0)).2.2.1.2.2 = some y := h
    unfold gTurn at h2
    split at h2
    · split at h2
      · split at h2
        · exact key _ _ (gNext (gTurns L A p s w day gone g x0).1, (gTurns L A p s w day gone g x0).2) rfl h2
        · have := ih h2; omega
      · exact key _ _ _ rfl h2
    · have := ih h2; omega
/-- the goings, one by one -/
theorem l_go2 (hT : zTM t) (hS : sOk L A p w) (hm : mSt h L A p w day gone) (C : zCx E b G RX11 cX11_goesBy 5 none) (hR : zRoom G 3 0 0) (hs : s < 2 ^ 31) {x0 : yA} (h0 : x0.2.2.1.2.2 = none)
    (kont : ∀ (hc : zH) (x2 : Int32) (x3 x4 : Option Value), zAg1 h hc → mDyn hc A.1.1 (gTurns L A p s w day gone L.1.2.1 x0) → zAW E b G 5 0 0 246 [some (.ref (b + 157)), some (.int (nI s)), some (.int x2), x3, x4] [] t hc) :
    ∀ (m g : Nat) (hc : zH) (x3 x4 : Option Value), g + m = L.1.2.1 → zAg1 h hc → mDyn hc A.1.1 (gTurns L A p s w day gone g x0) → zAW E b G 5 0 0 30 [some (.ref (b + 157)), some (.int (nI s)), some (.int (nI g)), x3, x4] [] t hc := by
  have hng := hS.2.1.2.2.1
  intro m
  induction m with
  | zero =>
    intro g hc x3 x4 hgm ha hy
    have hst := mSt.ag ha hS hm
    have ht3 := hst.2.1.2.1
    refine zz_iload_2 C dX11_goesBy_30 <| zz_aload_0 C dX11_goesBy_31 <| zz_getR C fX11_20 (tM_K hT) (tM_R_told hT) dX11_goesBy_32 <| zz_iconst_3 C dX11_goesBy_35 <| zc_iaload C 3 (tM_K_told hT) (zlit _ (by decide)) (by decide) dX11_goesBy_36 <| zpc 37 rfl <| ?_
    rw [ht3]
    refine zz_icmp_ge C 246 dX11_goesBy_37 (by decide) (fun c37 => ?_) (fun c37 => ?_)
    · refine kont hc _ _ _ ha ?_
      rw [show L.1.2.1 = g by omega]
      exact hy
    · exact absurd (nI_le (by omega) (by omega)) c37
  | succ m ih =>
    intro g hc x3 x4 hgm ha hy
    have hg : g < L.1.2.1 := by omega
    have hst := mSt.ag ha hS hm
    obtain ⟨hnet, hld, hpl, htm⟩ := hst
    have ht3 := hld.2.1
    have f0 := hld.2.2.2.1 g hg 0 (by omega)
    have f1 := hld.2.2.2.1 g hg 1 (by omega)
    have pca := hpl.2.2.2.2.1
    have ec := oI_eq (show g < 2 ^ 31 by omega) hS.2.2.2.2.2.1
    have hfs : ∀ y, (gTurns L A p s w day gone g x0).2.2.1.2.2 = some y → y < 14 := fun y hh => by
      have := gTurns_fst L A p s w day gone x0 h0 g y hh; omega
    have hsd := hy.2.2.2.2.2.2
    have s240 : ∀ (h' : zH) (y3 y4 : Option Value), zAg1 h h' → mDyn h' A.1.1 (gTurns L A p s w day gone (g + 1) x0) → zAW E b G 5 0 0 240 [some (.ref (b + 157)), some (.int (nI s)), some (.int (nI g)), y3, y4] [] t h' := by
      intro h' y3 y4 a' d'
      refine zz_iinc_2 C _ (zle rfl) rfl dX11_goesBy_240 nI_s <| zz_goto C 30 dX11_goesBy_243 (by decide) <| zpc 30 rfl <| ?_
      exact ih (g + 1) h' _ _ (by omega) a' d'
    have hstep : gTurns L A p s w day gone (g + 1) x0 = gTurn L A p s w day gone g (gTurns L A p s w day gone g x0) := rfl
    by_cases hon : gOn L.2.1 day gone p.1 p.2.1.1 p.2.1.2 g
    · by_cases hlot : gLot p (L.2.1 g 4)
      · have hsc : zAg1 hc (zsI hc 157 41 (gNext (zI hc 157 41))) := (zAg1.rf hc).sI (by unfold sc1; omega)
        have hm2 := mSt.ag hsc hS ⟨hnet, hld, hpl, htm⟩
        have hy2 : mDyn (zsI hc 157 41 (gNext (zI hc 157 41))) A.1.1 (gNext (gTurns L A p s w day gone g x0).1, (gTurns L A p s w day gone g x0).2) := by
          obtain ⟨z1, z2, z3, z4, z5, z6, z7⟩ := hy
          refine ⟨fun k hk => ?_, z2, z3, ?_, ?_, ?_, ?_⟩
          · rw [zI_sI, if_neg (by omega)]; exact z1 k hk
          · rw [zI_sI, if_neg (by omega)]; exact z4
          · rw [zI_sI, if_neg (by omega)]; exact z5
          · rw [zI_sI, if_neg (by omega)]; exact z6
          · rw [zI_self, z7]
        obtain ⟨hnet2, hld2, hpl2, htm2⟩ := hm2
        have f02 := hld2.2.2.2.1 g hg 0 (by omega)
        have f12 := hld2.2.2.2.1 g hg 1 (by omega)
        have pca2 := hpl2.2.2.2.2.1
        refine zz_iload_2 C dX11_goesBy_30 <| zz_aload_0 C dX11_goesBy_31 <| zz_getR C fX11_20 (tM_K hT) (tM_R_told hT) dX11_goesBy_32 <| zz_iconst_3 C dX11_goesBy_35 <| zc_iaload C 3 (tM_K_told hT) (zlit _ (by decide)) (by decide) dX11_goesBy_36 <| zpc 37 rfl <| ?_
        rw [ht3]
        refine zz_icmp_ge C 246 dX11_goesBy_37 (by decide) (fun c37 => ?_) (fun c37 => ?_)
        · exact absurd c37 (nI_ge (by omega) (by omega))
        · refine zz_aload_0 C dX11_goesBy_40 <| zz_iload_2 C dX11_goesBy_41 <| zpc 42 rfl <| ?_
          refine zf_callVI C hR [_] (c_isOn hT hS.2.1 hld hS.2.2 hpl htm g hg) lX11_264 rfl (tM_K hT) (by decide) rfl ⟨zle rfl, zle rfl, zle rfl, zle rfl⟩ (zle rfl) dX11_goesBy_42 ?_
          refine zz_if_eq C 240 dX11_goesBy_45 (by decide) (fun c45 => ?_) (fun c45 => ?_)
          · exact absurd hon (zb_eq0.mp c45)
          · refine zz_aload_0 C dX11_goesBy_48 <| zz_iload_2 C dX11_goesBy_49 <| zpc 50 rfl <| ?_
            refine zf_callVI C hR [_] (c_lot1 hT hS.2.1 hld hpl g hg hlot) lX11_281 rfl (tM_K hT) (by decide) rfl ⟨zle rfl, zle rfl, zle rfl, zle rfl⟩ (zle rfl) dX11_goesBy_50 ?_
            refine zz_if_ne C 59 dX11_goesBy_53 (by decide) (fun c53 => ?_) (fun c53 => ?_)
            · refine zz_aload_0 C dX11_goesBy_59 <| zz_aload_0 C dX11_goesBy_60 <| zz_getR C fX11_46 (tM_K hT) (tM_R_going hT) dX11_goesBy_61 <| zz_iload_2 C dX11_goesBy_64 <| zc_row C _ (tM_K_going hT) (tM_row_going hT) (znI (by omega)) (by omega) dX11_goesBy_65 <| fun r65 => ?_
              refine zz_iconst_0 C dX11_goesBy_66 <| zc_iaload C 0 (tM_KR_going hT _ r65) (zlit _ (by decide)) (by decide) dX11_goesBy_67 <| zpc 68 rfl <| ?_
              rw [f02]
              refine zz_aload_0 C dX11_goesBy_68 <| zz_getR C fX11_46 (tM_K hT) (tM_R_going hT) dX11_goesBy_69 <| zz_iload_2 C dX11_goesBy_72 <| zc_row C _ (tM_K_going hT) (tM_row_going hT) (znI (by omega)) (by omega) dX11_goesBy_73 <| fun r73 => ?_
              refine zz_iconst_1 C dX11_goesBy_74 <| zc_iaload C 1 (tM_KR_going hT _ r73) (zlit _ (by decide)) (by decide) dX11_goesBy_75 <| zpc 76 rfl <| ?_
              rw [f12]
              refine zz_iload_2 C dX11_goesBy_76 <| zz_aload_0 C dX11_goesBy_77 <| zz_getI C fX11_70 (tM_K hT) dX11_goesBy_78 <| zpc 81 rfl <| ?_
              rw [pca2]
              refine zz_icmp_ne C 88 dX11_goesBy_81 (by decide) (fun c81 => ?_) (fun c81 => ?_)
              · refine zz_iload_1 C dX11_goesBy_88 <| zpc 89 rfl <| ?_
                rw [zb_ne0, hsd] at c53
                rw [ec] at c81
                have hkk : ∀ (s' : Nat), s' = (if some g = p.2.2.2.1 then 0 else s) → ∀ (h' : zH) (y3 y4 : Option Value), zAg1 (zsI hc 157 41 (gNext (zI hc 157 41))) h' → mDyn h' A.1.1 (gWay A.1.2.1 (L.2.1 g 3) A.2 w (decide (some g = p.2.2.2.2.1)) g (nWay L.1.1 A.1.1 A.1.2.1 s' A.2 w (L.2.1 g 0) (L.2.1 g 1)) (gNext (gTurns L A p s w day gone g x0).1, (gTurns L A p s w day gone g x0).2)) → zAW E b G 5 0 0 240 [some (.ref (b + 157)), some (.int (nI s)), some (.int (nI g)), y3, y4] [] t h' := by
                  intro s' hs' h' y3 y4 a' d'
                  refine s240 h' y3 y4 (ha.tr (hsc.tr a')) ?_
                  rw [hstep]
                  unfold gTurn
                  rw [if_pos hon, if_pos hlot, if_pos c53, ← hs']
                  exact d'
                first
                  | exact l_go2b (s' := s) (x := (gNext (gTurns L A p s w day gone g x0).1, (gTurns L A p s w day gone g x0).2)) hT hS C hR hg hs ⟨hnet2, hld2, hpl2, htm2⟩ hfs hy2 (hkk s (by rw [if_neg c81]))
                  | exact l_go2b (s' := 0) (x := (gNext (gTurns L A p s w day gone g x0).1, (gTurns L A p s w day gone g x0).2)) hT hS C hR hg (by omega) ⟨hnet2, hld2, hpl2, htm2⟩ hfs hy2 (hkk 0 (by rw [if_pos c81]))
              · refine zz_iconst_0 C dX11_goesBy_84 <| zpc 85 rfl <| ?_
                rw [show (0 : Int32) = nI 0 from rfl]
                refine zz_goto C 89 dX11_goesBy_85 (by decide) <| zpc 89 rfl <| ?_
                rw [zb_ne0, hsd] at c53
                rw [ec] at c81
                have hkk : ∀ (s' : Nat), s' = (if some g = p.2.2.2.1 then 0 else s) → ∀ (h' : zH) (y3 y4 : Option Value), zAg1 (zsI hc 157 41 (gNext (zI hc 157 41))) h' → mDyn h' A.1.1 (gWay A.1.2.1 (L.2.1 g 3) A.2 w (decide (some g = p.2.2.2.2.1)) g (nWay L.1.1 A.1.1 A.1.2.1 s' A.2 w (L.2.1 g 0) (L.2.1 g 1)) (gNext (gTurns L A p s w day gone g x0).1, (gTurns L A p s w day gone g x0).2)) → zAW E b G 5 0 0 240 [some (.ref (b + 157)), some (.int (nI s)), some (.int (nI g)), y3, y4] [] t h' := by
                  intro s' hs' h' y3 y4 a' d'
                  refine s240 h' y3 y4 (ha.tr (hsc.tr a')) ?_
                  rw [hstep]
                  unfold gTurn
                  rw [if_pos hon, if_pos hlot, if_pos c53, ← hs']
                  exact d'
                first
                  | exact l_go2b (s' := s) (x := (gNext (gTurns L A p s w day gone g x0).1, (gTurns L A p s w day gone g x0).2)) hT hS C hR hg hs ⟨hnet2, hld2, hpl2, htm2⟩ hfs hy2 (hkk s (by rw [if_neg c81]))
                  | exact l_go2b (s' := 0) (x := (gNext (gTurns L A p s w day gone g x0).1, (gTurns L A p s w day gone g x0).2)) hT hS C hR hg (by omega) ⟨hnet2, hld2, hpl2, htm2⟩ hfs hy2 (hkk 0 (by rw [if_pos c81]))
            · refine zz_goto C 240 dX11_goesBy_56 (by decide) <| zpc 240 rfl <| ?_
              rw [zb_eq0, hsd] at c53
              refine s240 _ _ _ (ha.tr hsc) ?_
              rw [hstep]
              unfold gTurn
              rw [if_pos hon, if_pos hlot, if_neg c53]
              exact hy2
      ·
        refine zz_iload_2 C dX11_goesBy_30 <| zz_aload_0 C dX11_goesBy_31 <| zz_getR C fX11_20 (tM_K hT) (tM_R_told hT) dX11_goesBy_32 <| zz_iconst_3 C dX11_goesBy_35 <| zc_iaload C 3 (tM_K_told hT) (zlit _ (by decide)) (by decide) dX11_goesBy_36 <| zpc 37 rfl <| ?_
        rw [ht3]
        refine zz_icmp_ge C 246 dX11_goesBy_37 (by decide) (fun c37 => ?_) (fun c37 => ?_)
        · exact absurd c37 (nI_ge (by omega) (by omega))
        · refine zz_aload_0 C dX11_goesBy_40 <| zz_iload_2 C dX11_goesBy_41 <| zpc 42 rfl <| ?_
          refine zf_callVI C hR [_] (c_isOn hT hS.2.1 hld hS.2.2 hpl htm g hg) lX11_264 rfl (tM_K hT) (by decide) rfl ⟨zle rfl, zle rfl, zle rfl, zle rfl⟩ (zle rfl) dX11_goesBy_42 ?_
          refine zz_if_eq C 240 dX11_goesBy_45 (by decide) (fun c45 => ?_) (fun c45 => ?_)
          · exact absurd hon (zb_eq0.mp c45)
          · refine zz_aload_0 C dX11_goesBy_48 <| zz_iload_2 C dX11_goesBy_49 <| zpc 50 rfl <| ?_
            refine zf_callVI C hR [_] (c_lot0 hT hS.2.1 hld hpl g hg hlot) lX11_281 rfl (tM_K hT) (by decide) rfl ⟨zle rfl, zle rfl, zle rfl, zle rfl⟩ (zle rfl) dX11_goesBy_50 ?_
            refine zz_if_ne C 59 dX11_goesBy_53 (by decide) (fun c53 => ?_) (fun c53 => ?_)
            · refine zz_aload_0 C dX11_goesBy_59 <| zz_aload_0 C dX11_goesBy_60 <| zz_getR C fX11_46 (tM_K hT) (tM_R_going hT) dX11_goesBy_61 <| zz_iload_2 C dX11_goesBy_64 <| zc_row C _ (tM_K_going hT) (tM_row_going hT) (znI (by omega)) (by omega) dX11_goesBy_65 <| fun r65 => ?_
              refine zz_iconst_0 C dX11_goesBy_66 <| zc_iaload C 0 (tM_KR_going hT _ r65) (zlit _ (by decide)) (by decide) dX11_goesBy_67 <| zpc 68 rfl <| ?_
              rw [f0]
              refine zz_aload_0 C dX11_goesBy_68 <| zz_getR C fX11_46 (tM_K hT) (tM_R_going hT) dX11_goesBy_69 <| zz_iload_2 C dX11_goesBy_72 <| zc_row C _ (tM_K_going hT) (tM_row_going hT) (znI (by omega)) (by omega) dX11_goesBy_73 <| fun r73 => ?_
              refine zz_iconst_1 C dX11_goesBy_74 <| zc_iaload C 1 (tM_KR_going hT _ r73) (zlit _ (by decide)) (by decide) dX11_goesBy_75 <| zpc 76 rfl <| ?_
              rw [f1]
              refine zz_iload_2 C dX11_goesBy_76 <| zz_aload_0 C dX11_goesBy_77 <| zz_getI C fX11_70 (tM_K hT) dX11_goesBy_78 <| zpc 81 rfl <| ?_
              rw [pca]
              refine zz_icmp_ne C 88 dX11_goesBy_81 (by decide) (fun c81 => ?_) (fun c81 => ?_)
              · refine zz_iload_1 C dX11_goesBy_88 <| zpc 89 rfl <| ?_
                rw [ec] at c81
                have hkk : ∀ (s' : Nat), s' = (if some g = p.2.2.2.1 then 0 else s) → ∀ (h' : zH) (y3 y4 : Option Value), zAg1 hc h' → mDyn h' A.1.1 (gWay A.1.2.1 (L.2.1 g 3) A.2 w (decide (some g = p.2.2.2.2.1)) g (nWay L.1.1 A.1.1 A.1.2.1 s' A.2 w (L.2.1 g 0) (L.2.1 g 1)) (gTurns L A p s w day gone g x0)) → zAW E b G 5 0 0 240 [some (.ref (b + 157)), some (.int (nI s)), some (.int (nI g)), y3, y4] [] t h' := by
                  intro s' hs' h' y3 y4 a' d'
                  refine s240 h' y3 y4 (ha.tr a') ?_
                  rw [hstep]
                  unfold gTurn
                  rw [if_pos hon, if_neg hlot, ← hs']
                  exact d'
                first
                  | exact l_go2b (s' := s) hT hS C hR hg hs ⟨hnet, hld, hpl, htm⟩ hfs hy (hkk s (by rw [if_neg c81]))
                  | exact l_go2b (s' := 0) hT hS C hR hg (by omega) ⟨hnet, hld, hpl, htm⟩ hfs hy (hkk 0 (by rw [if_pos c81]))
              · refine zz_iconst_0 C dX11_goesBy_84 <| zpc 85 rfl <| ?_
                rw [show (0 : Int32) = nI 0 from rfl]
                refine zz_goto C 89 dX11_goesBy_85 (by decide) <| zpc 89 rfl <| ?_
                rw [ec] at c81
                have hkk : ∀ (s' : Nat), s' = (if some g = p.2.2.2.1 then 0 else s) → ∀ (h' : zH) (y3 y4 : Option Value), zAg1 hc h' → mDyn h' A.1.1 (gWay A.1.2.1 (L.2.1 g 3) A.2 w (decide (some g = p.2.2.2.2.1)) g (nWay L.1.1 A.1.1 A.1.2.1 s' A.2 w (L.2.1 g 0) (L.2.1 g 1)) (gTurns L A p s w day gone g x0)) → zAW E b G 5 0 0 240 [some (.ref (b + 157)), some (.int (nI s)), some (.int (nI g)), y3, y4] [] t h' := by
                  intro s' hs' h' y3 y4 a' d'
                  refine s240 h' y3 y4 (ha.tr a') ?_
                  rw [hstep]
                  unfold gTurn
                  rw [if_pos hon, if_neg hlot, ← hs']
                  exact d'
                first
                  | exact l_go2b (s' := s) hT hS C hR hg hs ⟨hnet, hld, hpl, htm⟩ hfs hy (hkk s (by rw [if_neg c81]))
                  | exact l_go2b (s' := 0) hT hS C hR hg (by omega) ⟨hnet, hld, hpl, htm⟩ hfs hy (hkk 0 (by rw [if_pos c81]))
            · exact absurd c53 (by decide)
    ·
      refine zz_iload_2 C dX11_goesBy_30 <| zz_aload_0 C dX11_goesBy_31 <| zz_getR C fX11_20 (tM_K hT) (tM_R_told hT) dX11_goesBy_32 <| zz_iconst_3 C dX11_goesBy_35 <| zc_iaload C 3 (tM_K_told hT) (zlit _ (by decide)) (by decide) dX11_goesBy_36 <| zpc 37 rfl <| ?_
      rw [ht3]
      refine zz_icmp_ge C 246 dX11_goesBy_37 (by decide) (fun c37 => ?_) (fun c37 => ?_)
      · exact absurd c37 (nI_ge (by omega) (by omega))
      · refine zz_aload_0 C dX11_goesBy_40 <| zz_iload_2 C dX11_goesBy_41 <| zpc 42 rfl <| ?_
        refine zf_callVI C hR [_] (c_isOn hT hS.2.1 hld hS.2.2 hpl htm g hg) lX11_264 rfl (tM_K hT) (by decide) rfl ⟨zle rfl, zle rfl, zle rfl, zle rfl⟩ (zle rfl) dX11_goesBy_42 ?_
        refine zz_if_eq C 240 dX11_goesBy_45 (by decide) (fun c45 => ?_) (fun c45 => ?_)
        · refine s240 _ _ _ ha ?_
          rw [hstep]
          unfold gTurn
          rw [if_neg hon]
          exact hy
        · exact absurd (Classical.not_not.mp (fun z => c45 (zb_eq0.mpr z))) hon
end MG
