/-! ===== the reference: another law of days ===== -/
abbrev dLw (D : yD) (n : Nat) : yD := (D.1, ((D.2.1.1.1, D.2.1.1.2.1, n), D.2.1.2), (fun k => if n ≤ D.2.2.1.2 k then 0 else D.2.2.1.1 k, fun k => if n ≤ D.2.2.1.2 k then n else D.2.2.1.2 k), D.2.2.2)
theorem dLw_ok {D : yD} {p : yP} (hD : sdOk D p) {n : Nat} (h3 : 3 ≤ n) (h11 : n ≤ 11) : sdOk (dLw D n) p := by
  obtain ⟨⟨⟨n1, n2, n3, n4, n5⟩, hL, hp⟩, hN3, hN11, hrN, htd⟩ := hD
  refine ⟨⟨⟨n1, n2, n3, n4, fun j hj => ?_⟩, hL, hp⟩, h3, h11, fun j hj => ?_, htd⟩
  · obtain ⟨a1, a2, a3, a4, a5, a6, a7, a8⟩ := n5 j hj
    refine ⟨a1, a2, a3, a4, a5, a6, a7, ?_⟩
    show (if n ≤ D.2.2.1.2 j then 0 else D.2.2.1.1 j) ≤ 99
    split <;> omega
  · show (if n ≤ D.2.2.1.2 j then n else D.2.2.1.2 j) ≤ n
    split <;> omega
section MLW
variable {E : zE} {b : Nat} {G : zG} {t : zT} {h : zH} {D : yD} {p : yP} {R : Nat × (Nat → Nat)}
theorem l_law {n N : Nat} {w r : Nat → Nat} {v2 : Int32} (hT : zTM t) (hn : n ≤ 11) (hN : N ≤ 11) (C : zCx E b G RX11 cX11_lawCost 4 (some .long)) (hr : zI h 157 30 = nI n) (hrb : ∀ k, k < n → r k ≤ 11)
    (kont : ∀ (hc : zH) (x3 : Option Value), (∀ i k, ¬ (i = 233 ∨ i = 234) → zI hc i k = zI h i k) → (∀ i k, zL hc i k = zL h i k) → (∀ k, k < n → zI hc 233 k = nI (if N ≤ r k then 0 else w k) ∧ zI hc 234 k = nI (if N ≤ r k then N else r k)) → zAW E b G 4 0 0 52 [some (.ref (b + 157)), some (.int (nI N)), some (.int v2), x3] [] t hc) :
    ∀ (m k : Nat) (hc : zH), k + m = n → (∀ i j, ¬ (i = 233 ∨ i = 234) → zI hc i j = zI h i j) → (∀ i k, zL hc i k = zL h i k) → (∀ j, j < k → zI hc 233 j = nI (if N ≤ r j then 0 else w j) ∧ zI hc 234 j = nI (if N ≤ r j then N else r j)) → (∀ j, k ≤ j → j < n → zI hc 233 j = nI (w j) ∧ zI hc 234 j = nI (r j)) → zAW E b G 4 0 0 11 [some (.ref (b + 157)), some (.int (nI N)), some (.int v2), some (.int (nI k))] [] t hc := by
  intro m
  induction m with
  | zero =>
    intro k hc hk e1 e2 e3 e4
    have hr2 : zI hc 157 30 = nI n := by rw [e1 _ _ (by omega)]; exact hr
    refine zz_iload_3 C dX11_lawCost_11 <| zz_aload_0 C dX11_lawCost_12 <| zz_getI C fX11_204 (tM_K hT) dX11_lawCost_13 <| zpc 16 rfl <| ?_
    rw [hr2]
    refine zz_icmp_ge C 52 dX11_lawCost_16 (by decide) (fun c16 => ?_) (fun c16 => ?_)
    · exact kont hc _ e1 e2 (fun j hj => e3 j (by omega))
    · exact absurd (nI_le (by omega) (by omega)) c16
  | succ m ih =>
    intro k hc hk e1 e2 e3 e4
    have hr2 : zI hc 157 30 = nI n := by rw [e1 _ _ (by omega)]; exact hr
    obtain ⟨wk, rk⟩ := e4 k (Nat.le_refl k) (by omega)
    have hrk := hrb k (by omega)
    refine zz_iload_3 C dX11_lawCost_11 <| zz_aload_0 C dX11_lawCost_12 <| zz_getI C fX11_204 (tM_K hT) dX11_lawCost_13 <| zpc 16 rfl <| ?_
    rw [hr2]
    refine zz_icmp_ge C 52 dX11_lawCost_16 (by decide) (fun c16 => ?_) (fun c16 => ?_)
    · exact absurd c16 (nI_ge (by omega) (by omega))
    · refine zz_aload_0 C dX11_lawCost_19 <| zz_getR C fX11_64 (tM_K hT) (tM_R_r hT) dX11_lawCost_20 <| zz_iload_3 C dX11_lawCost_23 <| zc_iaload C _ (tM_K_r hT) (znI (by omega)) (by omega) dX11_lawCost_24 <| zpc 25 rfl <| ?_
      rw [rk]
      refine zz_iload_1 C dX11_lawCost_25 <| zpc 26 rfl <| ?_
      refine zz_icmp_ge C 32 dX11_lawCost_26 (by decide) (fun c26 => ?_) (fun c26 => ?_)
      · refine zz_aload_0 C dX11_lawCost_32 <| zz_getR C fX11_64 (tM_K hT) (tM_R_r hT) dX11_lawCost_33 <| zz_iload_3 C dX11_lawCost_36 <| zz_iload_1 C dX11_lawCost_37 <| zc_iastore C _ (tM_K_r hT) (znI (by omega)) (by omega) dX11_lawCost_38 <| zz_aload_0 C dX11_lawCost_39 <| zz_getR C fX11_61 (tM_K hT) (tM_R_w hT) dX11_lawCost_40 <| zz_iload_3 C dX11_lawCost_43 <| zz_iconst_0 C dX11_lawCost_44 <| zc_iastore C _ (tM_K_w hT) (znI (by omega)) (by omega) dX11_lawCost_45 <| zz_iinc_3 C _ (zle rfl) rfl dX11_lawCost_46 nI_s <| zz_goto C 11 dX11_lawCost_49 (by decide) <| zpc 11 rfl <| ?_
        rw [nI_leI (by omega) (by omega)] at c26
        first
          | (refine ih (k + 1) hc (by omega) e1 e2 (fun j hj => ?_) (fun j hj1 hj2 => e4 j (by omega) hj2)
             by_cases q : j = k
             · subst q
               rw [if_neg c26, if_neg c26]; exact ⟨wk, rk⟩
             · exact e3 j (by omega))
          | (refine ih (k + 1) _ (by omega) (fun i j hij => ?_) e2 (fun j hj => ?_) (fun j hj1 hj2 => ?_)
             · rw [zI_sI, if_neg (by omega), zI_sI, if_neg (by omega)]; exact e1 i j hij
             · by_cases q : j = k
               · subst q
                 rw [if_pos c26, if_pos c26, zI_self, zI_sI, if_neg (by omega), zI_self]
                 exact ⟨rfl, rfl⟩
               · have ff : ∀ (i : Nat) (a c : Int32), zI (zsI (zsI hc 234 k a) 233 k c) i j = zI hc i j := fun i a c => by rw [zI_sI, if_neg (by omega), zI_sI, if_neg (by omega)]
                 rw [ff, ff]
                 exact e3 j (by omega)
             · rw [zI_sI, if_neg (by omega), zI_sI, if_neg (by omega), zI_sI, if_neg (by omega), zI_sI, if_neg (by omega)]
               exact e4 j (by omega) hj2)
      · refine zz_goto C 46 dX11_lawCost_29 (by decide) <| zz_iinc_3 C _ (zle rfl) rfl dX11_lawCost_46 nI_s <| zz_goto C 11 dX11_lawCost_49 (by decide) <| zpc 11 rfl <| ?_
        rw [nI_leI (by omega) (by omega)] at c26
        first
          | (refine ih (k + 1) hc (by omega) e1 e2 (fun j hj => ?_) (fun j hj1 hj2 => e4 j (by omega) hj2)
             by_cases q : j = k
             · subst q
               rw [if_neg c26, if_neg c26]; exact ⟨wk, rk⟩
             · exact e3 j (by omega))
          | (refine ih (k + 1) _ (by omega) (fun i j hij => ?_) e2 (fun j hj => ?_) (fun j hj1 hj2 => ?_)
             · rw [zI_sI, if_neg (by omega), zI_sI, if_neg (by omega)]; exact e1 i j hij
             · by_cases q : j = k
               · subst q
                 rw [if_pos c26, if_pos c26, zI_self, zI_sI, if_neg (by omega), zI_self]
                 exact ⟨rfl, rfl⟩
               · have ff : ∀ (i : Nat) (a c : Int32), zI (zsI (zsI hc 234 k a) 233 k c) i j = zI hc i j := fun i a c => by rw [zI_sI, if_neg (by omega), zI_sI, if_neg (by omega)]
                 rw [ff, ff]
                 exact e3 j (by omega)
             · rw [zI_sI, if_neg (by omega), zI_sI, if_neg (by omega), zI_sI, if_neg (by omega), zI_sI, if_neg (by omega)]
               exact e4 j (by omega) hj2)
theorem mWk.lw {N : Nat} {sd : Int32} {hc : zH} (hD : sdOk D p) (hm : mWk h D.1 D.2.1 p (x0 D sd)) (e1 : ∀ i k, ¬ (i = 233 ∨ i = 234) → zI hc i k = zI (zsI h 157 31 (nI N)) i k) (e2 : ∀ i k, zL hc i k = zL (zsI h 157 31 (nI N)) i k) (e3 : ∀ k, k < D.2.1.1.1 → zI hc 233 k = nI ((dLw D N).2.2.1.1 k) ∧ zI hc 234 k = nI ((dLw D N).2.2.1.2 k)) : mWk hc (dLw D N).1 (dLw D N).2.1 p (x0 (dLw D N) sd) := by
  obtain ⟨⟨⟨g1, g2, g3, g4⟩, ⟨l1, l2, l3, l4, l5⟩, ⟨p1, p2, p3, p4, p5, p6, p7⟩, ⟨t1, t2, t3, t4⟩⟩, h2, h3, h4, h5, h6, h7, h8, h9⟩ := hm
  have hn := hD.1.1.2.2.1
  have hg := hD.1.2.1.2.2.1
  have rd : ∀ i j, ¬ (i = 233 ∨ i = 234 ∨ (i = 157 ∧ j = 31)) → ∀ v, zI h i j = v → zI hc i j = v := fun i j q v e => by
    rw [e1 i j (by omega), zI_sI, if_neg (by omega)]; exact e
  refine ⟨⟨⟨rd _ _ ?_ _ g1, rd _ _ ?_ _ g2, rd _ _ ?_ _ g3, fun j (hj : j < D.2.1.1.1) => ⟨fun i hi => rd _ _ ?_ _ ((g4 j hj).1 i hi), (e3 j hj).1⟩⟩, ⟨rd _ _ ?_ _ l1, rd _ _ ?_ _ l2, rd _ _ ?_ _ l3, fun g (hg : g < D.1.1.2.1) i hi => rd _ _ ?_ _ (l4 g hg i hi), fun j hj => rd _ _ ?_ _ (l5 j hj)⟩, ⟨rd _ _ ?_ _ p1, rd _ _ ?_ _ p2, fun z => rd _ _ ?_ _ (p3 z), rd _ _ ?_ _ p4, rd _ _ ?_ _ p5, rd _ _ ?_ _ p6, rd _ _ ?_ _ p7⟩, ⟨rd _ _ ?_ _ t1, rd _ _ ?_ _ t2, t3, t4⟩⟩, fun j hj => (e3 j hj).2, (e1 _ _ (by omega)).trans (zI_self _ _ _ _), rd _ _ ?_ _ h4, (e2 _ _).trans h5, (e2 _ _).trans h6, rd _ _ ?_ _ h7, rd _ _ ?_ _ h8, rd _ _ ?_ _ h9⟩ <;> omega
theorem c_lawCost {l : Launch} (hT : zTM t) (hD : sdOk D p) (hm : mSd h D p) (hRo : roOk R) (hro : mRo h R) (n d : Nat) (h3 : 3 ≤ n) (h11 : n ≤ 11) (hd : d ≤ 366) (htd : D.2.2.2 + d < 2 ^ 20) : zMet E b l yX11_lawCost cX11_lawCost 4 (some .long) 6 0 0 [.ref (b + 157), .int (nI n), .int (nI d)] t h (qJ (mCoPost h t (dLw D n) p R 0 d (zI h 157 41))) := by
  have hn := hD.1.1.2.2.1
  refine zMet.of (ls := [some (.ref (b + 157)), some (.int (nI n)), some (.int (nI d)), none]) (by decide) (zle rfl) 1 rfl ?_
  intro G hlG C hR hE hin
  have s52 : ∀ (h1 : zH), zAg3 h h1 → mWk h1 D.1 D.2.1 p (x0 D (zI h 157 41)) → ∀ (hc : zH) (x3 : Option Value), (∀ i k, ¬ (i = 233 ∨ i = 234) → zI hc i k = zI (zsI h1 157 31 (nI n)) i k) → (∀ i k, zL hc i k = zL (zsI h1 157 31 (nI n)) i k) → (∀ k, k < D.2.1.1.1 → zI hc 233 k = nI ((dLw D n).2.2.1.1 k) ∧ zI hc 234 k = nI ((dLw D n).2.2.1.2 k)) → zAW E b G 4 0 0 52 [some (.ref (b + 157)), some (.int (nI n)), some (.int (nI d)), x3] [] t hc := by
    intro h1 a1 hw hc x3 e1 e2 e3
    have ac : zAg3 h hc := (a1.sI (i := 157) (k := 31) (v := nI n) (by unfold sc3; omega)).tr ⟨fun i k hn => e1 i k (fun z => hn (by unfold sc3 sc2; omega)), fun i k _ => e2 i k⟩
    have hw1 := hw.lw hD e1 e2 e3
    refine zz_aload_0 C dX11_lawCost_52 <| zz_iconst_0 C dX11_lawCost_53 <| zz_iload_2 C dX11_lawCost_54 <| zpc 55 rfl <| ?_
    refine zy_callVV C hR [_, _] (c_goes hT ((dLw_ok hD h3 h11).w _) hw1 hRo (hro.ag3 ac) 0 d (by omega) (fun q => by cases q) (by omega) htd) lX11_305 rfl (tM_K hT) (by decide) rfl ⟨zle rfl, zle rfl, zle rfl, zle rfl⟩ (zle rfl) dX11_lawCost_55 ?_
    intro t' h' hv; obtain ⟨rfl, a2, hw2⟩ := hv
    refine zz_aload_0 C dX11_lawCost_58 <| zz_getL C fX11_239 (tM_K hT) dX11_lawCost_59 <| zpc 62 rfl <| ?_
    rw [hw2.2.2.2.2.1]
    refine zy_lreturn C hE (zle rfl) (zle rfl) dX11_lawCost_62 ?_
    exact ⟨rfl, ac.tr (.of2 a2), rfl, hw2.2.2.2.2.2.1, hw2.2.2.2.2.2.2.2.2⟩
  refine zz_aload_0 C dX11_lawCost_0 <| zpc 1 rfl <| ?_
  refine zy_callVV C hR [] (c_lays hT hD hm) lX11_255 rfl (tM_K hT) (by decide) rfl ⟨zle rfl, zle rfl, zle rfl, zle rfl⟩ (zle rfl) dX11_lawCost_1 ?_
  intro t' h' hv; obtain ⟨rfl, a1, hw⟩ := hv
  refine zz_aload_0 C dX11_lawCost_4 <| zz_iload_1 C dX11_lawCost_5 <| zy_putI C fX11_227 pX11_31 (tM_K hT) dX11_lawCost_6 <| zz_iconst_0 C dX11_lawCost_9 <| zz_istore_3 C (zle rfl) rfl dX11_lawCost_10 <| zpc 11 rfl <| ?_
  refine l_law (h := zsI h' 157 31 (nI n)) (n := D.2.1.1.1) (N := n) (w := D.2.2.1.1) (r := D.2.2.1.2) hT hn h11 C (by rw [zI_sI, if_neg (by omega)]; exact hw.1.1.2.1) (fun k hk => by have := hD.2.2.2.1 k hk; have := hD.2.2.1; omega) (s52 _ a1 hw) D.2.1.1.1 0 _ (by omega) (fun _ _ _ => rfl) (fun _ _ => rfl) (fun j hj => absurd hj (by omega)) (fun j _ hj => ?_)
  rw [zI_sI, if_neg (by omega), zI_sI, if_neg (by omega)]
  exact ⟨(hw.1.1.2.2.2 j hj).2, hw.2.1 j hj⟩
end MLW
