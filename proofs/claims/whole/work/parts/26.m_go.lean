/-! ===== the reference: a day ===== -/
/-- what a day's goings have come to so far, in the reference's cells -/
def mDyn (h : zH) (n : Nat) (x : yA) : Prop := (∀ k, k < n → zI h 235 k = nI (x.2.2.2 k)) ∧ zL h 157 43 = lN x.2.1.1 ∧ zL h 157 44 = lN x.2.1.2.2 ∧ zI h 157 45 = nI x.2.2.1.1 ∧ zI h 157 46 = nI x.2.2.1.2.1 ∧ zI h 157 47 = oI x.2.2.1.2.2 ∧ zI h 157 41 = x.1
theorem mDyn.sc {h : zH} {n : Nat} {x : yA} (a : mDyn h n x) (f g : Nat → Int32) (y z : Int32) : mDyn (mSc h f g y z) n x := by
  obtain ⟨a1, a2, a3, a4, a5, a6, a7⟩ := a
  refine ⟨fun k hk => ?_, a2, a3, ?_, ?_, ?_, ?_⟩
  · rw [zI_mSc]; simpa using a1 k hk
  · rw [zI_mSc]; simpa using a4
  · rw [zI_mSc]; simpa using a5
  · rw [zI_mSc]; simpa using a6
  · rw [zI_mSc]; simpa using a7
/-- all that a day's goings lean on and leave alone -/
def mSt (h : zH) (L : yL) (A : yN) (p : yP) (w : Nat → Nat) (day gone : Nat) : Prop := mNet h L.1.1 A.1.1 A.1.2.1 A.2 w ∧ mLd h L ∧ mPl h p ∧ mTm h day gone
def sOk (L : yL) (A : yN) (p : yP) (w : Nat → Nat) : Prop := nOk L.1.1 A.1.1 A.1.2.1 A.2 w ∧ lOkL L ∧ pOk p
theorem mSt.ag {h h' : zH} {L : yL} {A : yN} {p : yP} {w : Nat → Nat} {day gone : Nat} (a : zAg1 h h') (hS : sOk L A p w) (hm : mSt h L A p w day gone) : mSt h' L A p w day gone := ⟨a.net hS.1.2.2.1 hm.1, a.ld hS.2.1 hm.2.1, a.pl hm.2.2.1, a.tm hm.2.2.2⟩
section MG
variable {E : zE} {b : Nat} {G : zG} {t : zT} {h : zH} {L : yL} {A : yN} {p : yP} {w : Nat → Nat} {day gone s : Nat} {x3 x4 : Option Value}
/-- the roads of a going's way get its weight -/
theorem l_go3 (hT : zTM t) (hS : sOk L A p w) (hm : mSt h L A p w day gone) (C : zCx E b G RX11 cX11_goesBy 5 none) {g : Nat} (hg : g < L.1.2.1) {v3 : Int32} {l : List Nat} (hln : ∀ k ∈ l, k < A.1.1) (hll : l.length ≤ 12) {sd : Int32} {co cm st wn : Nat} {fs : Option Nat} {pa : Nat} {F0 : Nat → Nat}
    (kont : ∀ (hc : zH) (x4 : Option Value), zAg1 h hc → mDyn hc A.1.1 (sd, (co, cm, pa + pdWay A.1.2.1 w l), (st, wn, fs), ldWay (L.2.1 g 3) l F0) → zAW E b G 5 0 0 240 [some (.ref (b + 157)), some (.int (nI s)), some (.int (nI g)), some (.int v3), x4] [] t hc) :
    ∀ (rest pre : List Nat) (f : Nat → Nat) (q : Nat) (hc : zH), l = pre ++ rest → pa + pdWay A.1.2.1 w l = q + pdWay A.1.2.1 w rest → ldWay (L.2.1 g 3) l F0 = ldWay (L.2.1 g 3) rest f → zAg1 h hc → mDyn hc A.1.1 (sd, (co, cm, q), (st, wn, fs), f) → zI hc 157 50 = nI l.length → (∀ i, i < l.length → zI hc 237 i = nI (l.getD i 0)) → zAW E b G 5 0 0 175 [some (.ref (b + 157)), some (.int (nI s)), some (.int (nI g)), some (.int v3), some (.int (nI pre.length))] [] t hc := by
  have hn := hS.1.2.2.1
  have hng := hS.2.1.2.2.1
  intro rest
  induction rest with
  | nil =>
    intro pre f q hc hpre hq hld ha hy hpl hpp
    rw [List.append_nil] at hpre
    subst hpre
    refine zz_iload_4 C dX11_goesBy_175 <| zz_aload_0 C dX11_goesBy_177 <| zz_getI C fX11_217 (tM_K hT) dX11_goesBy_178 <| zpc 181 rfl <| ?_
    rw [hpl]
    refine zz_icmp_ge C 240 dX11_goesBy_181 (by decide) (fun c181 => ?_) (fun c181 => ?_)
    · refine kont hc _ ha ?_
      rw [hq, hld]
      exact hy
    · exact absurd (nI_le (by omega) (by omega)) c181
  | cons k rest ih =>
    intro pre f q hc hpre hq hld ha hy hpl hpp
    have hlen : pre.length < l.length := by rw [hpre, List.length_append, List.length_cons]; omega
    have hk : k < A.1.1 := hln k (by rw [hpre]; simp)
    have hpi : zI hc 237 pre.length = nI k := by
      rw [hpp _ hlen, hpre]; simp
    have hst := mSt.ag ha hS hm
    have hG3 := hst.2.1.2.2.2.1 g hg 3 (by omega)
    have htl := hst.1.2.2.1
    have hw := (hst.1.2.2.2 k hk).2
    have hb := hS.1.2.2.2.2 k hk
    have htb := hS.1.2.2.2.1
    have hmul : A.1.2.1 * w k ≤ 20 * 99 := Nat.mul_le_mul htb hb.2.2.2.2.2.2.2
    obtain ⟨y1, y2, y3, y4, y5, y6, y7⟩ := hy
    have hlk := y1 k hk
    refine zz_iload_4 C dX11_goesBy_175 <| zz_aload_0 C dX11_goesBy_177 <| zz_getI C fX11_217 (tM_K hT) dX11_goesBy_178 <| zpc 181 rfl <| ?_
    rw [hpl]
    refine zz_icmp_ge C 240 dX11_goesBy_181 (by decide) (fun c181 => ?_) (fun c181 => ?_)
    · exact absurd c181 (nI_ge (by omega) (by omega))
    · refine zz_aload_0 C dX11_goesBy_184 <| zz_getR C fX11_67 (tM_K hT) (tM_R_load hT) dX11_goesBy_185 <| zz_aload_0 C dX11_goesBy_188 <| zz_getR C fX11_85 (tM_K hT) (tM_R_path hT) dX11_goesBy_189 <| zz_iload_4 C dX11_goesBy_192 <| zc_iaload C _ (tM_K_path hT) (znI (by omega)) (by omega) dX11_goesBy_194 <| zpc 195 rfl <| ?_
      rw [hpi]
      refine zz_dup2 C dX11_goesBy_195 rfl rfl <| zc_iaload C _ (tM_K_load hT) (znI (by omega)) (by omega) dX11_goesBy_196 <| zpc 197 rfl <| ?_
      rw [hlk]
      refine zz_aload_0 C dX11_goesBy_197 <| zz_getR C fX11_46 (tM_K hT) (tM_R_going hT) dX11_goesBy_198 <| zz_iload_2 C dX11_goesBy_201 <| zc_row C _ (tM_K_going hT) (tM_row_going hT) (znI (by omega)) (by omega) dX11_goesBy_202 <| fun r202 => ?_
      refine zz_iconst_3 C dX11_goesBy_203 <| zc_iaload C 3 (tM_KR_going hT _ r202) (zlit _ (by decide)) (by decide) dX11_goesBy_204 <| zpc 205 rfl <| ?_
      rw [hG3]
      refine zz_iadd C dX11_goesBy_205 <| zpc 206 rfl <| ?_
      rw [nI_add]
      refine zc_iastore C _ (tM_K_load hT) (znI (by omega)) (by omega) dX11_goesBy_206 <| zz_aload_0 C dX11_goesBy_207 <| zz_dup C dX11_goesBy_208 rfl <| zz_getL C fX11_243 (tM_K hT) dX11_goesBy_209 <| zpc 212 rfl <| ?_
      rw [show zL (zsI hc 235 k (nI (f k + L.2.1 g 3))) 157 44 = lN q from y3]
      refine zz_aload_0 C dX11_goesBy_212 <| zz_getI C fX11_214 (tM_K hT) dX11_goesBy_213 <| zpc 216 rfl <| ?_
      rw [show zI (zsI hc 235 k (nI (f k + L.2.1 g 3))) 157 39 = nI A.1.2.1 from by rw [zI_sI, if_neg (by omega)]; exact htl]
      refine zz_aload_0 C dX11_goesBy_216 <| zz_getR C fX11_61 (tM_K hT) (tM_R_w hT) dX11_goesBy_217 <| zz_aload_0 C dX11_goesBy_220 <| zz_getR C fX11_85 (tM_K hT) (tM_R_path hT) dX11_goesBy_221 <| zz_iload_4 C dX11_goesBy_224 <| zc_iaload C _ (tM_K_path hT) (znI (by omega)) (by omega) dX11_goesBy_226 <| zpc 227 rfl <| ?_
      rw [show zI (zsI hc 235 k (nI (f k + L.2.1 g 3))) 237 pre.length = nI k from by rw [zI_sI, if_neg (by omega)]; exact hpi]
      refine zc_iaload C _ (tM_K_w hT) (znI (by omega)) (by omega) dX11_goesBy_227 <| zpc 228 rfl <| ?_
      rw [show zI (zsI hc 235 k (nI (f k + L.2.1 g 3))) 233 k = nI (w k) from by rw [zI_sI, if_neg (by omega)]; exact hw]
      refine zz_imul C dX11_goesBy_228 <| zpc 229 rfl <| ?_
      rw [pk_mul]
      refine zz_i2l C dX11_goesBy_229 <| zpc 230 rfl <| ?_
      rw [nI_l (by omega)]
      refine zz_ladd C dX11_goesBy_230 <| zpc 231 rfl <| ?_
      rw [lN_add]
      refine zy_putL C fX11_243 pX11_44 (tM_K hT) dX11_goesBy_231 <| zz_iinc_4 C _ (zle rfl) rfl dX11_goesBy_234 nI_s <| zz_goto C 175 dX11_goesBy_237 (by decide) <| zpc 175 rfl <| ?_
      have := ih (pre ++ [k]) (nUp f k (f k + L.2.1 g 3)) (q + A.1.2.1 * w k) (zsL (zsI hc 235 k (nI (f k + L.2.1 g 3))) 157 44 (lN (q + A.1.2.1 * w k))) (by rw [List.append_assoc]; exact hpre) (by rw [hq]; unfold pdWay; simp; omega) (by rw [hld]; rfl) ((ha.sI (by unfold sc1; omega)).sL (Or.inr rfl)) ⟨fun j hj => ?_, y2, by rw [zL_self], ?_, ?_, ?_, ?_⟩ ?_ ?_
      · rw [List.length_append, List.length_singleton] at this
        exact this
      · rw [zI_sL, zI_sI]
        show _ = nI (nUp f k (f k + L.2.1 g 3) j)
        unfold nUp
        by_cases hjk : j = k
        · rw [if_pos ⟨rfl, hjk⟩, if_pos hjk]
        · rw [if_neg (fun z => hjk z.2), if_neg hjk]; exact y1 j hj
      · rw [zI_sL, zI_sI, if_neg (by omega)]; exact y4
      · rw [zI_sL, zI_sI, if_neg (by omega)]; exact y5
      · rw [zI_sL, zI_sI, if_neg (by omega)]; exact y6
      · rw [zI_sL, zI_sI, if_neg (by omega)]; exact y7
      · rw [zI_sL, zI_sI, if_neg (by omega)]; exact hpl
      · intro i hi; rw [zI_sL, zI_sI, if_neg (by omega)]; exact hpp i hi
end MG
