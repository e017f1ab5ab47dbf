/-! ===== the reference: the search ===== -/
def sct (m i k : Nat) : Prop := sc2 i k ∨ (240 + 1 ≤ i ∧ i ≤ 240 + 1 + m) ∨ (245 + 1 ≤ i ∧ i ≤ 245 + 1 + m) ∨ (i = 157 ∧ k = 59)
def zAgT (m : Nat) (h h' : zH) : Prop := (∀ i k, ¬ sct m i k → zI h' i k = zI h i k) ∧ ∀ i k, ¬ sl3 i k → zL h' i k = zL h i k
theorem zAgT.rf (m : Nat) (h : zH) : zAgT m h h := ⟨fun _ _ _ => rfl, fun _ _ _ => rfl⟩
theorem zAgT.tr {m : Nat} {h h1 h2 : zH} (a : zAgT m h h1) (c : zAgT m h1 h2) : zAgT m h h2 := ⟨fun i k q => (c.1 i k q).trans (a.1 i k q), fun i k q => (c.2 i k q).trans (a.2 i k q)⟩
theorem zAgT.of2 {m : Nat} {h h' : zH} (a : zAg2 h h') : zAgT m h h' := ⟨fun i k q => a.1 i k (fun z => q (Or.inl z)), fun i k q => (zAg3.of2 a).2 i k q⟩
theorem zAgT.up {m : Nat} {h h' : zH} (a : zAgT m h h') : zAgT (m + 1) h h' := ⟨fun i k q => a.1 i k (fun z => q (by unfold sct at z ⊢; rcases z with z | z | z | z; exact Or.inl z; exact Or.inr (Or.inl (by omega)); exact Or.inr (Or.inr (Or.inl (by omega))); exact Or.inr (Or.inr (Or.inr z)))), a.2⟩
theorem zAgT.sI {m : Nat} {h h' : zH} (a : zAgT m h h') {i k : Nat} {v : Int32} (hs : sct m i k) : zAgT m h (zsI h' i k v) := ⟨fun j q hn => by
  rw [zI_sI, if_neg (fun z => hn (by rw [z.1, z.2]; exact hs))]
  exact a.1 j q hn, a.2⟩
theorem zAgT.sL {m : Nat} {h h' : zH} (a : zAgT m h h') {i k : Nat} {v : Int64} (hs : sl3 i k) : zAgT m h (zsL h' i k v) := ⟨a.1, fun j q hn => by
  rw [zL_sL, if_neg (fun z => hn (by rw [z.1, z.2]; exact hs))]
  exact a.2 j q hn⟩
theorem zAgT.ag3 {m : Nat} {h h' : zH} (hm : m ≤ 3) (a : zAgT m h h') : zAg3 h h' := ⟨fun i k q => a.1 i k (fun z => q (by unfold sct at z; unfold sc3; rcases z with z | z | z | z; exact Or.inl z; exact Or.inr (Or.inl (by omega)); exact Or.inr (Or.inl (by omega)); exact Or.inr (Or.inr (by omega)))), a.2⟩
def mBs (h : zH) (B : Nat × Int32) : Prop := zL h 157 58 = lN B.1 ∧ zI h 157 59 = B.2
section MTR
variable {E : zE} {b : Nat} {G : zG} {t : zT} {h : zH} {l : Launch} {L : yL} {A : yN}
/-- a walk on its way, but for what it paid and how many went -/
def mQs (h : zH) (L : yL) (A : yN) (q : yQ) (c gn : Nat) : Prop := ∃ (sd : Int32) (cm pa : Nat) (sw : (Nat × Nat × Option Nat) × (Nat → Nat)) (z7 : Nat), mWk7 h L A yP0 (q.1, (q.2, gn), (sd, (c, cm, pa), sw)) z7
theorem mQs.eq {h h' : zH} {q : yQ} {c gn : Nat} (hn : A.1.1 ≤ 11) (hg : L.1.2.1 ≤ 14) (hm : mQs h L A q c gn) (e1 : ∀ i k, ¬ ((240 ≤ i ∧ i ≤ 245 + 4) ∨ (i = 157 ∧ k = 59)) → zI h' i k = zI h i k) (e2 : ∀ i k, ¬ (i = 157 ∧ k = 58) → zL h' i k = zL h i k) : mQs h' L A q c gn := by
  obtain ⟨sd, cm, pa, sw, z7, hm⟩ := hm
  refine ⟨sd, cm, pa, sw, z7, ?_⟩
  obtain ⟨⟨⟨g1, g2, g3, g4⟩, ⟨l1, l2, l3, l4, l5⟩, ⟨p1, p2, p3, p4, p5, p6, p7⟩, ⟨t1, t2, t3, t4⟩⟩, h2, h3, h4, h5, h6, h7, h8, h9⟩ := hm
  have rd : ∀ i j, ¬ ((240 ≤ i ∧ i ≤ 245 + 4) ∨ (i = 157 ∧ j = 59)) → ∀ v, zI h i j = v → zI h' i j = v := fun i j q v e => (e1 i j q).trans e
  refine ⟨⟨⟨rd _ _ ?_ _ g1, rd _ _ ?_ _ g2, rd _ _ ?_ _ g3, fun j hj => ⟨fun i hi => rd _ _ ?_ _ ((g4 j hj).1 i hi), rd _ _ ?_ _ (g4 j hj).2⟩⟩, ⟨rd _ _ ?_ _ l1, rd _ _ ?_ _ l2, rd _ _ ?_ _ l3, fun g hg i hi => rd _ _ ?_ _ (l4 g hg i hi), fun j hj => rd _ _ ?_ _ (l5 j hj)⟩, ⟨rd _ _ ?_ _ p1, rd _ _ ?_ _ p2, fun z => rd _ _ ?_ _ (p3 z), rd _ _ ?_ _ p4, rd _ _ ?_ _ p5, rd _ _ ?_ _ p6, rd _ _ ?_ _ p7⟩, ⟨rd _ _ ?_ _ t1, rd _ _ ?_ _ t2, t3, t4⟩⟩, fun j hj => rd _ _ ?_ _ (h2 j hj), rd _ _ ?_ _ h3, rd _ _ ?_ _ h4, (e2 _ _ (by omega)).trans h5, (e2 _ _ (by omega)).trans h6, rd _ _ ?_ _ h7, rd _ _ ?_ _ h8, rd _ _ ?_ _ h9⟩ <;> omega
/-- put back -/
theorem mQs.back {h h' : zH} {q q2 : yQ} {c c2 gn gn2 : Nat} (hn : A.1.1 ≤ 11) (hg : L.1.2.1 ≤ 14) (hm : mQs h L A q2 c2 gn2) (e1 : ∀ i k, ¬ (i = 233 ∨ i = 234 ∨ (i = 157 ∧ k = 32)) → zI h' i k = zI h i k) (e2 : ∀ i k, ¬ (i = 157 ∧ k = 43) → zL h' i k = zL h i k) (e3 : zL h' 157 43 = lN c) (e4 : zI h' 157 32 = nI q.2) (e5 : ∀ j, j < A.1.1 → zI h' 233 j = nI (q.1.1 j) ∧ zI h' 234 j = nI (q.1.2 j)) (e6 : q2.2 - gn2 = q.2 - gn) (e7 : gn ≤ q.2) (e8 : q.2 < 2 ^ 20) : mQs h' L A q c gn := by
  obtain ⟨sd, cm, pa, sw, z7, hm⟩ := hm
  refine ⟨sd, cm, pa, sw, z7, ?_⟩
  obtain ⟨⟨⟨g1, g2, g3, g4⟩, ⟨l1, l2, l3, l4, l5⟩, ⟨p1, p2, p3, p4, p5, p6, p7⟩, ⟨t1, t2, t3, t4⟩⟩, h2, h3, h4, h5, h6, h7, h8, h9⟩ := hm
  have rd : ∀ i j, ¬ (i = 233 ∨ i = 234 ∨ (i = 157 ∧ j = 32)) → ∀ v, zI h i j = v → zI h' i j = v := fun i j q v e => (e1 i j q).trans e
  refine ⟨⟨⟨rd _ _ ?_ _ g1, rd _ _ ?_ _ g2, rd _ _ ?_ _ g3, fun j hj => ⟨fun i hi => rd _ _ ?_ _ ((g4 j hj).1 i hi), (e5 j hj).1⟩⟩, ⟨rd _ _ ?_ _ l1, rd _ _ ?_ _ l2, rd _ _ ?_ _ l3, fun g hg i hi => rd _ _ ?_ _ (l4 g hg i hi), fun j hj => rd _ _ ?_ _ (l5 j hj)⟩, ⟨rd _ _ ?_ _ p1, rd _ _ ?_ _ p2, fun z => rd _ _ ?_ _ (p3 z), rd _ _ ?_ _ p4, rd _ _ ?_ _ p5, rd _ _ ?_ _ p6, rd _ _ ?_ _ p7⟩, ⟨e4, rd _ _ ?_ _ (t2.trans (congrArg nI e6)), e7, e8⟩⟩, fun j hj => (e5 j hj).2, rd _ _ ?_ _ h3, rd _ _ ?_ _ h4, e3, (e2 _ _ (by omega)).trans h6, rd _ _ ?_ _ h7, rd _ _ ?_ _ h8, rd _ _ ?_ _ h9⟩ <;> omega
theorem mQs.f {h : zH} {q : yQ} {c gn : Nat} (hm : mQs h L A q c gn) : zL h 157 43 = lN c ∧ zI h 157 32 = nI q.2 ∧ zI h 157 30 = nI A.1.1 ∧ (∀ j, j < A.1.1 → zI h 233 j = nI (q.1.1 j) ∧ zI h 234 j = nI (q.1.2 j)) ∧ gn ≤ q.2 := by
  obtain ⟨sd, cm, pa, sw, z7, hm⟩ := hm
  exact ⟨hm.2.2.2.2.1, hm.1.2.2.2.1, hm.1.1.2.1, fun j hj => ⟨(hm.1.1.2.2.2 j hj).2, hm.2.1 j hj⟩, hm.1.2.2.2.2.2.1⟩
theorem c_goesQ (hT : zTM t) {q : yQ} {c gn : Nat} (hqo : qOk L A q) (hm : mQs h L A q c gn) (s : Nat) (hs : s < 2 ^ 31) (hday : q.2 + 1 < 2 ^ 20) : zMet E b l yX11_goesBy cX11_goesBy 5 none 3 0 0 [.ref (b + 157), .int (nI s)] t h (qV (fun t' h' => t' = t ∧ zAg2 h h' ∧ mQs h' L A (nxQ L A s q) (c + dSC L A s q.1.1 q.2 L.1.2.1) (gn + 1))) := by
  obtain ⟨sd, cm, pa, sw, z7, hm⟩ := hm
  have hW : wOk L A yP0 (q.1, (q.2, gn), (sd, (c, cm, pa), sw)) := hqo
  refine (c_goesBy7 hT hW hm s hs hday).mono ?_
  rintro o t' h' ⟨rfl, rfl, a2, hw, -⟩
  refine ⟨rfl, rfl, a2, ?_⟩
  generalize hx : dDay L A yP0 s (q.1, (q.2, gn), (sd, (c, cm, pa), sw)) = x' at hw
  have e1 : x'.1 = (nxQ L A s q).1 := by rw [← hx]; exact dDay_nx s _
  have e2 : x'.2.1 = (q.2 + 1, gn + 1) := by rw [← hx]; rfl
  have e3 : x'.2.2.2.1.1 = c + dSC L A s q.1.1 q.2 L.1.2.1 := by rw [← hx]; exact dDay_co s _
  refine ⟨x'.2.2.1, x'.2.2.2.1.2.1, x'.2.2.2.1.2.2, x'.2.2.2.2, z7 + 1, ?_⟩
  have e : ((nxQ L A s q).1, ((nxQ L A s q).2, gn + 1), (x'.2.2.1, (c + dSC L A s q.1.1 q.2 L.1.2.1, x'.2.2.2.1.2.1, x'.2.2.2.1.2.2), x'.2.2.2.2)) = x' := by
    rw [← e1, ← e3]
    show (x'.1, ((q.2 + 1, gn + 1) : Nat × Nat), x'.2.2) = x'
    rw [← e2]
  rw [e]
  exact hw
theorem c_tries0 (hT : zTM t) {q : yQ} {c gn : Nat} (hn : A.1.1 ≤ 11) (hg : L.1.2.1 ≤ 14) (hm : mQs h L A q c gn) (f : Int32) {B : Nat × Int32} (hbs : mBs h B) (hb2 : B.1 < 2 ^ 62) (hc2 : c < 2 ^ 62) : zMet E b l yX11_tries cX11_tries 8 none 4 0 0 [.ref (b + 157), .int (nI 0), .int f] t h (qV (fun t' h' => t' = t ∧ zAgT 0 h h' ∧ mQs h' L A q c gn ∧ mBs h' (tB L A 0 q c f B))) := by
  refine zMet.of (ls := [some (.ref (b + 157)), some (.int (nI 0)), some (.int f), none, none, none, none, none]) (by decide) (zle rfl) 5 rfl ?_
  intro G hlG C hR hE hin
  refine zz_aload_0 C dX11_tries_0 <| zz_getL C fX11_239 (tM_K hT) dX11_tries_1 <| zpc 4 rfl <| ?_
  rw [hm.f.1]
  refine zz_aload_0 C dX11_tries_4 <| zz_getL C fX11_330 (tM_K hT) dX11_tries_5 <| zpc 8 rfl <| ?_
  rw [hbs.1]
  refine zz_lcmp C dX11_tries_8 <| zpc 9 rfl <| ?_
  refine zz_if_lt C 13 dX11_tries_9 (by decide) (fun c9 => ?_) (fun c9 => ?_)
  · rw [lg_cmp_lt, pk_lLT (by omega) (by omega)] at c9
    refine zz_iload_1 C dX11_tries_13 <| zpc 14 rfl <| ?_
    refine zz_if_ne C 31 dX11_tries_14 (by decide) (fun c14 => ?_) (fun c14 => ?_)
    · exact absurd rfl c14
    · refine zz_aload_0 C dX11_tries_17 <| zz_aload_0 C dX11_tries_18 <| zz_getL C fX11_239 (tM_K hT) dX11_tries_19 <| zpc 22 rfl <| ?_
      rw [hm.f.1]
      refine zy_putL C fX11_330 pX11_58 (tM_K hT) dX11_tries_22 <| zz_aload_0 C dX11_tries_25 <| zz_iload_2 C dX11_tries_26 <| zy_putI C fX11_333 pX11_59 (tM_K hT) dX11_tries_27 <| zpc 30 rfl <| ?_
      refine zy_return C hE (zle rfl) (zle rfl) dX11_tries_30 ?_
      refine ⟨rfl, ((zAgT.rf 0 h).sL (by unfold sl3; omega)).sI (by unfold sct; omega), hm.eq hn hg (fun i k z => ?_) (fun i k z => ?_), ?_⟩
      · rw [zI_sI, if_neg (by omega)]; rfl
      · show zL (zsL h 157 58 (lN c)) i k = _
        rw [zL_sL, if_neg z]
      · rw [show tB L A 0 q c f B = (c, f) from if_pos c9]
        refine ⟨?_, zI_self _ _ _ _⟩
        show zL (zsL h 157 58 (lN c)) 157 58 = _
        rw [zL_sL, if_pos ⟨rfl, rfl⟩]
  · rw [lg_cmp_lt, pk_lLT (by omega) (by omega)] at c9
    refine zy_return C hE (zle rfl) (zle rfl) dX11_tries_12 ?_
    exact ⟨rfl, zAgT.rf _ _, hm, by rw [tB_no c9]; exact hbs⟩
theorem c_tries1 (hT : zTM t) {q : yQ} {c gn : Nat} (hqo : qOk L A q) (h0 : A.1.2.1 = 0) (hn : A.1.1 ≤ 10) (hg : L.1.2.1 ≤ 14) (hday : q.2 + 1 < 2 ^ 20) (hm : mQs h L A q c gn) (f : Int32) {B : Nat × Int32} (hbs : mBs h B) (hb2 : B.1 < 2 ^ 62) (hc2 : c + 154000 * 1 < 2 ^ 62) : zMet E b l yX11_tries cX11_tries 8 none 5 0 0 [.ref (b + 157), .int (nI 1), .int f] t h (qV (fun t' h' => t' = t ∧ zAgT 1 h h' ∧ mQs h' L A q c gn ∧ mBs h' (tB L A 1 q c f B))) := by
  have hpw : 2 ^ A.1.1 ≤ 2 ^ 10 := Nat.pow_le_pow_right (by omega) hn
  have hgq := hm.f.2.2.2.2
  refine zMet.of (ls := [some (.ref (b + 157)), some (.int (nI 1)), some (.int f), none, none, none, none, none]) (by decide) (zle rfl) 5 rfl ?_
  intro G hlG C hR hE hin
  have lpC : ∀ (h4 : zH), zI h4 157 30 = nI A.1.1 → (∀ j, j < A.1.1 → zI h4 (240 + 1 + 1) j = nI (q.1.1 j) ∧ zI h4 (245 + 1 + 1) j = nI (q.1.2 j)) → ∀ s, (∀ hc : zH, (∀ i j, ¬ (i = 233 ∨ i = 234) → zI hc i j = zI h4 i j) → (∀ i j, zL hc i j = zL h4 i j) → (∀ j, j < A.1.1 → zI hc 233 j = nI (q.1.1 j) ∧ zI hc 234 j = nI (q.1.2 j)) → ∀ y7, zAW E b G 8 0 0 191 [some (.ref (b + 157)), some (.int (nI 1)), some (.int f), some (.long (lN c)), none, some (.int (nI q.2)), some (.int (nI s)), y7] [] t hc) → ∀ k, k ≤ A.1.1 → ∀ hc : zH, (∀ i j, ¬ (i = 233 ∨ i = 234) → zI hc i j = zI h4 i j) → (∀ i j, zL hc i j = zL h4 i j) → (∀ j, j < k → zI hc 233 j = nI (q.1.1 j) ∧ zI hc 234 j = nI (q.1.2 j)) → zAW E b G 8 0 0 144 [some (.ref (b + 157)), some (.int (nI 1)), some (.int f), some (.long (lN c)), none, some (.int (nI q.2)), some (.int (nI s)), some (.int (nI k))] [] t hc := by
    intro h4 r4 sv s kont
    refine zLoop A.1.1 fun k hk ih hc e1 e2 e3 => ?_
    have r5 : zI hc 157 30 = nI A.1.1 := (e1 _ _ (by omega)).trans r4
    have w5 : k < A.1.1 → zI hc (240 + 1 + 1) k = nI (q.1.1 k) := fun z => (e1 _ _ (by omega)).trans (sv k z).1
    have r6 : k < A.1.1 → ∀ v, zI (zsI hc 233 k v) (245 + 1 + 1) k = nI (q.1.2 k) := fun z v => by rw [zI_sI, if_neg (by omega), e1 _ _ (by omega)]; exact (sv k z).2
    refine zz_iload_7 C dX11_tries_144 <| zz_aload_0 C dX11_tries_146 <| zz_getI C fX11_204 (tM_K hT) dX11_tries_147 <| zpc 150 rfl <| ?_
    rw [r5]
    refine zz_icmp_ge C 191 dX11_tries_150 (by decide) (fun c150 => ?_) (fun c150 => ?_)
    · rw [nI_leI (by omega) (by omega)] at c150
      exact kont hc e1 e2 (fun j hj => e3 j (by omega)) _
    · rw [nI_leI (by omega) (by omega)] at c150
      refine zz_aload_0 C dX11_tries_153 <| zz_getR C fX11_61 (tM_K hT) (tM_R_w hT) dX11_tries_154 <| zz_iload_7 C dX11_tries_157 <| zz_aload_0 C dX11_tries_159 <| zz_getR C fX11_98 (tM_K hT) (tM_R_wearAt hT) dX11_tries_160 <| zz_iload_1 C dX11_tries_163 <| zc_row C _ (tM_K_wearAt hT) (tM_row_wearAt hT) (znI (by omega)) (by omega) dX11_tries_164 <| fun r164 => ?_
      refine zz_iload_7 C dX11_tries_165 <| zc_iaload C _ (tM_KR_wearAt hT _ r164) (znI (by omega)) (by omega) dX11_tries_167 <| zpc 168 rfl <| ?_
      rw [w5 (by omega)]
      refine zc_iastore C _ (tM_K_w hT) (znI (by omega)) (by omega) dX11_tries_168 <| zz_aload_0 C dX11_tries_169 <| zz_getR C fX11_64 (tM_K hT) (tM_R_r hT) dX11_tries_170 <| zz_iload_7 C dX11_tries_173 <| zz_aload_0 C dX11_tries_175 <| zz_getR C fX11_101 (tM_K hT) (tM_R_restedAt hT) dX11_tries_176 <| zz_iload_1 C dX11_tries_179 <| zc_row C _ (tM_K_restedAt hT) (tM_row_restedAt hT) (znI (by omega)) (by omega) dX11_tries_180 <| fun r180 => ?_
      refine zz_iload_7 C dX11_tries_181 <| zc_iaload C _ (tM_KR_restedAt hT _ r180) (znI (by omega)) (by omega) dX11_tries_183 <| zpc 184 rfl <| ?_
      rw [r6 (by omega)]
      refine zc_iastore C _ (tM_K_r hT) (znI (by omega)) (by omega) dX11_tries_184 <| zz_iinc_7 C _ (zle rfl) rfl dX11_tries_185 nI_s <| zz_goto C 144 dX11_tries_188 (by decide) <| zpc 144 rfl <| ?_
      refine ih (by omega) _ (fun i j z => ?_) e2 (fun j hj => ?_)
      · rw [zI_sI, if_neg (by omega), zI_sI, if_neg (by omega)]; exact e1 i j z
      · by_cases z : j = k
        · subst z
          rw [zI_self, zI_sI, if_neg (by omega), zI_self]; exact ⟨rfl, rfl⟩
        · rw [zI_sI, if_neg (by omega), zI_sI, if_neg (by omega), zI_sI, if_neg (by omega), zI_sI, if_neg (by omega)]; exact e3 j (by omega)
  generalize hF : (fun s B => tB L A 0 (nxQ L A s q) (c + dSC L A s q.1.1 q.2 L.1.2.1) (if f = -1 then nI s else f) B) = fF
  have hFs : ∀ s B, fF s B = tB L A 0 (nxQ L A s q) (c + dSC L A s q.1.1 q.2 L.1.2.1) (if f = -1 then nI s else f) B := fun s B => by rw [← hF]
  have hFl : ∀ s, (nFold fF B s).1 ≤ B.1 := by
    intro s
    induction s with
    | zero => exact Nat.le_refl _
    | succ s ih => refine Nat.le_trans ?_ ih; show (fF s (nFold fF B s)).1 ≤ _; rw [hFs]; exact tB_le _ _ _ _ _
  have lpB : c < B.1 → ∀ s, s ≤ 2 ^ A.1.1 → ∀ (hc : zH) (y7 : Option Value), zAgT 1 h hc → mQs hc L A q c gn → mBs hc (nFold fF B s) → (∀ j, j < A.1.1 → zI hc (240 + 1 + 1) j = nI (q.1.1 j) ∧ zI hc (245 + 1 + 1) j = nI (q.1.2 j)) → zAW E b G 8 0 0 95 [some (.ref (b + 157)), some (.int (nI 1)), some (.int f), some (.long (lN c)), none, some (.int (nI q.2)), some (.int (nI s)), y7] [] t hc := by
    intro hcB
    refine zLoop (2 ^ A.1.1) fun s hs ih hc y7 ag mq bs sv => ?_
    have hst : dSC L A s q.1.1 q.2 L.1.2.1 ≤ 11000 * L.1.2.1 := dSC_bd hqo.1 h0 L.1.2.1 (Nat.le_refl _)
    have hbl := hFl s
    have s191 : s < 2 ^ A.1.1 → ∀ (h5 : zH) (y7 : Option Value), zAgT 1 h h5 → mQs h5 L A q c gn → mBs h5 (nFold fF B (s + 1)) → (∀ j, j < A.1.1 → zI h5 (240 + 1 + 1) j = nI (q.1.1 j) ∧ zI h5 (245 + 1 + 1) j = nI (q.1.2 j)) → zAW E b G 8 0 0 191 [some (.ref (b + 157)), some (.int (nI 1)), some (.int f), some (.long (lN c)), none, some (.int (nI q.2)), some (.int (nI s)), y7] [] t h5 := by
      intro hs2 h5 y7 ag5 mq5 bs5 sv5
      refine zz_iinc_6 C _ (zle rfl) rfl dX11_tries_191 nI_s <| zz_goto C 95 dX11_tries_194 (by decide) <| zpc 95 rfl <| ?_
      exact ih hs2 h5 _ ag5 mq5 bs5 sv5
    have s127 : s < 2 ^ A.1.1 → ∀ h2 : zH, zAg2 hc h2 → mQs h2 L A (nxQ L A s q) (c + dSC L A s q.1.1 q.2 L.1.2.1) (gn + 1) → ∀ f' : Int32, f' = (if f = -1 then nI s else f) → zAW E b G 8 0 0 127 [some (.ref (b + 157)), some (.int (nI 1)), some (.int f), some (.long (lN c)), none, some (.int (nI q.2)), some (.int (nI s)), y7] [.int (f'), .int (nI 0), .ref (b + 157)] t h2 := by
      intro hs2 h2 a2 mq2 f' ef
      have bs2 : mBs h2 (nFold fF B s) := ⟨(a2.2 _ _ (by omega)).trans bs.1, (a2.1 _ _ (by unfold sc2 sc1; omega)).trans bs.2⟩
      refine zy_callVV C hR [_, _] (c_tries0 hT (by omega) hg  mq2 f' bs2 (by omega) (by omega)) lX11_336 rfl (tM_K hT) (by decide) rfl ⟨zle rfl, zle rfl, zle rfl, zle rfl⟩ (zle rfl) dX11_tries_127 ?_
      intro t3 h3 hv; obtain ⟨rfl, a3, mq3, bs3⟩ := hv
      refine zz_aload_0 C dX11_tries_130 <| zz_lload_3 C dX11_tries_131 <| zy_putL C fX11_239 pX11_43 (tM_K hT) dX11_tries_132 <| zz_aload_0 C dX11_tries_135 <| zz_iload_5 C dX11_tries_136 <| zy_putI C fX11_230 pX11_32 (tM_K hT) dX11_tries_138 <| zpc 141 rfl <| ?_
      have a4 : zAgT 1 h (zsI (zsL h3 157 43 (lN c)) 157 32 (nI q.2)) := (((ag.tr (.of2 a2)).tr a3.up).sL (by unfold sl3; omega)).sI (by unfold sct sc2; omega)
      have sv4 : ∀ j, j < A.1.1 → zI (zsI (zsL h3 157 43 (lN c)) 157 32 (nI q.2)) (240 + 1 + 1) j = nI (q.1.1 j) ∧ zI (zsI (zsL h3 157 43 (lN c)) 157 32 (nI q.2)) (245 + 1 + 1) j = nI (q.1.2 j) := fun j hj => by
        rw [zI_sI, if_neg (by omega), zI_sI, if_neg (by omega)]
        show zI h3 _ _ = _ ∧ zI h3 _ _ = _
        rw [a3.1 _ _ (by unfold sct sc2 sc1; omega), a3.1 _ _ (by unfold sct sc2 sc1; omega), a2.1 _ _ (by unfold sc2 sc1; omega), a2.1 _ _ (by unfold sc2 sc1; omega)]
        exact sv j hj
      have r4 : zI (zsI (zsL h3 157 43 (lN c)) 157 32 (nI q.2)) 157 30 = nI A.1.1 := by
        rw [zI_sI, if_neg (by omega)]; exact mq3.f.2.2.1
      refine zz_iconst_0 C dX11_tries_141 <| zz_istore_7 C (zle rfl) rfl dX11_tries_142 <| zpc 144 rfl <| ?_
      refine lpC _ r4 sv4 s (fun h5 e1 e2 e3 y7 => ?_) 0 (by omega) _ (fun _ _ _ => rfl) (fun _ _ => rfl) (fun j hj => absurd hj (by omega))
      have ag5 : zAgT 1 h h5 := a4.tr ⟨fun i j z => e1 i j (fun y => z (by unfold sct sc2; omega)), fun i j _ => e2 i j⟩
      have mq5 : mQs h5 L A q c gn := mq3.back (by omega) hg (fun i k z => by rw [e1 i k (by omega), zI_sI, if_neg (by omega)]; rfl) (fun i k z => by
        rw [e2 i k]
        show zL (zsL h3 157 43 (lN c)) i k = _
        rw [zL_sL, if_neg z]) (by
        rw [e2]
        show zL (zsL h3 157 43 (lN c)) 157 43 = _
        rw [zL_sL, if_pos ⟨rfl, rfl⟩]) (by rw [e1 _ _ (by omega)]; exact zI_self _ _ _ _) e3 (show q.2 + 1 - (gn + 1) = q.2 - gn by omega) hgq (by omega)
      have bs5 : mBs h5 (nFold fF B (s + 1)) := by
        have eN : nFold fF B (s + 1) = tB L A 0 (nxQ L A s q) (c + dSC L A s q.1.1 q.2 L.1.2.1) f' (nFold fF B s) := by
          show fF s (nFold fF B s) = _
          rw [hFs, ef]
        rw [eN]
        refine ⟨?_, ?_⟩
        · rw [e2]
          show zL (zsL h3 157 43 (lN c)) 157 58 = _
          rw [zL_sL, if_neg (by omega)]; exact bs3.1
        · rw [e1 _ _ (by omega), zI_sI, if_neg (by omega)]; exact bs3.2
      have sv5 : ∀ j, j < A.1.1 → zI h5 (240 + 1 + 1) j = nI (q.1.1 j) ∧ zI h5 (245 + 1 + 1) j = nI (q.1.2 j) := fun j hj => by
        rw [e1 _ _ (by omega), e1 _ _ (by omega)]; exact sv4 j hj
      exact s191 hs2 h5 y7 ag5 mq5 bs5 sv5
    refine zz_iload_6 C dX11_tries_95 <| zz_iconst_1 C dX11_tries_97 <| zz_aload_0 C dX11_tries_98 <| zz_getI C fX11_204 (tM_K hT) dX11_tries_99 <| zpc 102 rfl <| ?_
    rw [mq.f.2.2.1]
    refine zz_ishl C dX11_tries_102 <| zpc 103 rfl <| ?_
    rw [fW _ (by omega)]
    refine zz_icmp_ge C 197 dX11_tries_103 (by decide) (fun c103 => ?_) (fun c103 => ?_)
    · rw [nI_leI (by omega) (by omega)] at c103
      refine zy_return C hE (zle rfl) (zle rfl) dX11_tries_197 ?_
      refine ⟨rfl, ag, mq, ?_⟩
      rw [show tB L A 1 q c f B = nFold fF B (2 ^ A.1.1) by rw [← hF]; exact if_pos hcB, ← show s = 2 ^ A.1.1 by omega]
      exact bs
    · rw [nI_leI (by omega) (by omega)] at c103
      refine zz_aload_0 C dX11_tries_106 <| zz_iload_6 C dX11_tries_107 <| zpc 109 rfl <| ?_
      refine zy_callVV C hR [_] (c_goesQ hT hqo mq s (by omega) (by omega)) lX11_293 rfl (tM_K hT) (by decide) rfl ⟨zle rfl, zle rfl, zle rfl, zle rfl⟩ (zle rfl) dX11_tries_109 ?_
      intro t2 h2 hv; obtain ⟨rfl, a2, mq2⟩ := hv
      refine zz_aload_0 C dX11_tries_112 <| zz_iload_1 C dX11_tries_113 <| zz_iconst_1 C dX11_tries_114 <| zz_isub C dX11_tries_115 <| zpc 116 rfl <| ?_
      rw [show (nI 1 - 1 : Int32) = nI 0 from rfl]
      refine zz_iload_2 C dX11_tries_116 <| zz_iconst_m1 C dX11_tries_117 <| zpc 118 rfl <| ?_
      refine zz_icmp_ne C 126 dX11_tries_118 (by decide) (fun c118 => ?_) (fun c118 => ?_)
      · refine zz_iload_2 C dX11_tries_126 <| zpc 127 rfl <| ?_
        first
        | exact s127 (by omega) h2 a2 mq2 _ (by rw [if_pos c118])
        | exact s127 (by omega) h2 a2 mq2 _ (by rw [if_neg c118])
      · refine zz_iload_6 C dX11_tries_121 <| zz_goto C 127 dX11_tries_123 (by decide) <| zpc 127 rfl <| ?_
        first
        | exact s127 (by omega) h2 a2 mq2 _ (by rw [if_pos c118])
        | exact s127 (by omega) h2 a2 mq2 _ (by rw [if_neg c118])
  have lpA : c < B.1 → ∀ k, k ≤ A.1.1 → ∀ (hc : zH) (y7 : Option Value), (∀ i j, ¬ (i = 240 + 1 + 1 ∨ i = 245 + 1 + 1) → zI hc i j = zI h i j) → (∀ i j, zL hc i j = zL h i j) → (∀ j, j < k → zI hc (240 + 1 + 1) j = nI (q.1.1 j) ∧ zI hc (245 + 1 + 1) j = nI (q.1.2 j)) → zAW E b G 8 0 0 45 [some (.ref (b + 157)), some (.int (nI 1)), some (.int f), some (.long (lN c)), none, some (.int (nI q.2)), some (.int (nI k)), y7] [] t hc := by
    intro hcB
    refine zLoop A.1.1 fun k hk ih hc y7 e1 e2 e3 => ?_
    have mqc : mQs hc L A q c gn := hm.eq (by omega) hg (fun i k z => e1 i k (by omega)) (fun i k _ => e2 i k)
    have r6 : k < A.1.1 → ∀ v, zI (zsI hc (240 + 1 + 1) k v) 234 k = nI (q.1.2 k) := fun z v => by rw [zI_sI, if_neg (by omega)]; exact (mqc.f.2.2.2.1 k z).2
    refine zz_iload_6 C dX11_tries_45 <| zz_aload_0 C dX11_tries_47 <| zz_getI C fX11_204 (tM_K hT) dX11_tries_48 <| zpc 51 rfl <| ?_
    rw [mqc.f.2.2.1]
    refine zz_icmp_ge C 92 dX11_tries_51 (by decide) (fun c51 => ?_) (fun c51 => ?_)
    · rw [nI_leI (by omega) (by omega)] at c51
      refine zz_iconst_0 C dX11_tries_92 <| zz_istore_6 C (zle rfl) rfl dX11_tries_93 <| zpc 95 rfl <| ?_
      refine lpB hcB 0 (Nat.zero_le _) hc _ ⟨fun i j z => e1 i j (fun y => z (by unfold sct; omega)), fun i j _ => e2 i j⟩ mqc ⟨(e2 _ _).trans hbs.1, (e1 _ _ (by omega)).trans hbs.2⟩ (fun j hj => e3 j (by omega))
    · rw [nI_leI (by omega) (by omega)] at c51
      refine zz_aload_0 C dX11_tries_54 <| zz_getR C fX11_98 (tM_K hT) (tM_R_wearAt hT) dX11_tries_55 <| zz_iload_1 C dX11_tries_58 <| zc_row C _ (tM_K_wearAt hT) (tM_row_wearAt hT) (znI (by omega)) (by omega) dX11_tries_59 <| fun r59 => ?_
      refine zz_iload_6 C dX11_tries_60 <| zz_aload_0 C dX11_tries_62 <| zz_getR C fX11_61 (tM_K hT) (tM_R_w hT) dX11_tries_63 <| zz_iload_6 C dX11_tries_66 <| zc_iaload C _ (tM_K_w hT) (znI (by omega)) (by omega) dX11_tries_68 <| zpc 69 rfl <| ?_
      rw [(mqc.f.2.2.2.1 k (by omega)).1]
      refine zc_iastore C _ (tM_KR_wearAt hT _ r59) (znI (by omega)) (by omega) dX11_tries_69 <| zz_aload_0 C dX11_tries_70 <| zz_getR C fX11_101 (tM_K hT) (tM_R_restedAt hT) dX11_tries_71 <| zz_iload_1 C dX11_tries_74 <| zc_row C _ (tM_K_restedAt hT) (tM_row_restedAt hT) (znI (by omega)) (by omega) dX11_tries_75 <| fun r75 => ?_
      refine zz_iload_6 C dX11_tries_76 <| zz_aload_0 C dX11_tries_78 <| zz_getR C fX11_64 (tM_K hT) (tM_R_r hT) dX11_tries_79 <| zz_iload_6 C dX11_tries_82 <| zc_iaload C _ (tM_K_r hT) (znI (by omega)) (by omega) dX11_tries_84 <| zpc 85 rfl <| ?_
      rw [r6 (by omega)]
      refine zc_iastore C _ (tM_KR_restedAt hT _ r75) (znI (by omega)) (by omega) dX11_tries_85 <| zz_iinc_6 C _ (zle rfl) rfl dX11_tries_86 nI_s <| zz_goto C 45 dX11_tries_89 (by decide) <| zpc 45 rfl <| ?_
      refine ih (by omega) _ _ (fun i j z => ?_) e2 (fun j hj => ?_)
      · rw [zI_sI, if_neg (by omega), zI_sI, if_neg (by omega)]; exact e1 i j z
      · by_cases z : j = k
        · subst z
          rw [zI_self, zI_sI, if_neg (by omega), zI_self]; exact ⟨rfl, rfl⟩
        · rw [zI_sI, if_neg (by omega), zI_sI, if_neg (by omega), zI_sI, if_neg (by omega), zI_sI, if_neg (by omega)]; exact e3 j (by omega)
  refine zz_aload_0 C dX11_tries_0 <| zz_getL C fX11_239 (tM_K hT) dX11_tries_1 <| zpc 4 rfl <| ?_
  rw [hm.f.1]
  refine zz_aload_0 C dX11_tries_4 <| zz_getL C fX11_330 (tM_K hT) dX11_tries_5 <| zpc 8 rfl <| ?_
  rw [hbs.1]
  refine zz_lcmp C dX11_tries_8 <| zpc 9 rfl <| ?_
  refine zz_if_lt C 13 dX11_tries_9 (by decide) (fun c9 => ?_) (fun c9 => ?_)
  · rw [lg_cmp_lt, pk_lLT (by omega) (by omega)] at c9
    refine zz_iload_1 C dX11_tries_13 <| zpc 14 rfl <| ?_
    refine zz_if_ne C 31 dX11_tries_14 (by decide) (fun c14 => ?_) (fun c14 => ?_)
    · refine zz_aload_0 C dX11_tries_31 <| zz_getL C fX11_239 (tM_K hT) dX11_tries_32 <| zpc 35 rfl <| ?_
      rw [hm.f.1]
      refine zz_lstore_3 C (zle rfl) rfl dX11_tries_35 <| zz_aload_0 C dX11_tries_36 <| zz_getI C fX11_230 (tM_K hT) dX11_tries_37 <| zpc 40 rfl <| ?_
      rw [hm.f.2.1]
      refine zz_istore_5 C (zle rfl) rfl dX11_tries_40 <| zz_iconst_0 C dX11_tries_42 <| zz_istore_6 C (zle rfl) rfl dX11_tries_43 <| zpc 45 rfl <| ?_
      exact lpA c9 0 (by omega) h _ (fun _ _ _ => rfl) (fun _ _ => rfl) (fun j hj => absurd hj (by omega))
    · exact absurd c14 (by decide)
  · rw [lg_cmp_lt, pk_lLT (by omega) (by omega)] at c9
    refine zy_return C hE (zle rfl) (zle rfl) dX11_tries_12 ?_
    exact ⟨rfl, zAgT.rf _ _, hm, by rw [tB_no c9]; exact hbs⟩
theorem c_tries2 (hT : zTM t) {q : yQ} {c gn : Nat} (hqo : qOk L A q) (h0 : A.1.2.1 = 0) (hn : A.1.1 ≤ 10) (hg : L.1.2.1 ≤ 14) (hday : q.2 + 2 < 2 ^ 20) (hm : mQs h L A q c gn) (f : Int32) {B : Nat × Int32} (hbs : mBs h B) (hb2 : B.1 < 2 ^ 62) (hc2 : c + 154000 * 2 < 2 ^ 62) : zMet E b l yX11_tries cX11_tries 8 none 6 0 0 [.ref (b + 157), .int (nI 2), .int f] t h (qV (fun t' h' => t' = t ∧ zAgT 2 h h' ∧ mQs h' L A q c gn ∧ mBs h' (tB L A 2 q c f B))) := by
  have hpw : 2 ^ A.1.1 ≤ 2 ^ 10 := Nat.pow_le_pow_right (by omega) hn
  have hgq := hm.f.2.2.2.2
  refine zMet.of (ls := [some (.ref (b + 157)), some (.int (nI 2)), some (.int f), none, none, none, none, none]) (by decide) (zle rfl) 5 rfl ?_
  intro G hlG C hR hE hin
  have lpC : ∀ (h4 : zH), zI h4 157 30 = nI A.1.1 → (∀ j, j < A.1.1 → zI h4 (240 + 1 + 2) j = nI (q.1.1 j) ∧ zI h4 (245 + 1 + 2) j = nI (q.1.2 j)) → ∀ s, (∀ hc : zH, (∀ i j, ¬ (i = 233 ∨ i = 234) → zI hc i j = zI h4 i j) → (∀ i j, zL hc i j = zL h4 i j) → (∀ j, j < A.1.1 → zI hc 233 j = nI (q.1.1 j) ∧ zI hc 234 j = nI (q.1.2 j)) → ∀ y7, zAW E b G 8 0 0 191 [some (.ref (b + 157)), some (.int (nI 2)), some (.int f), some (.long (lN c)), none, some (.int (nI q.2)), some (.int (nI s)), y7] [] t hc) → ∀ k, k ≤ A.1.1 → ∀ hc : zH, (∀ i j, ¬ (i = 233 ∨ i = 234) → zI hc i j = zI h4 i j) → (∀ i j, zL hc i j = zL h4 i j) → (∀ j, j < k → zI hc 233 j = nI (q.1.1 j) ∧ zI hc 234 j = nI (q.1.2 j)) → zAW E b G 8 0 0 144 [some (.ref (b + 157)), some (.int (nI 2)), some (.int f), some (.long (lN c)), none, some (.int (nI q.2)), some (.int (nI s)), some (.int (nI k))] [] t hc := by
    intro h4 r4 sv s kont
    refine zLoop A.1.1 fun k hk ih hc e1 e2 e3 => ?_
    have r5 : zI hc 157 30 = nI A.1.1 := (e1 _ _ (by omega)).trans r4
    have w5 : k < A.1.1 → zI hc (240 + 1 + 2) k = nI (q.1.1 k) := fun z => (e1 _ _ (by omega)).trans (sv k z).1
    have r6 : k < A.1.1 → ∀ v, zI (zsI hc 233 k v) (245 + 1 + 2) k = nI (q.1.2 k) := fun z v => by rw [zI_sI, if_neg (by omega), e1 _ _ (by omega)]; exact (sv k z).2
    refine zz_iload_7 C dX11_tries_144 <| zz_aload_0 C dX11_tries_146 <| zz_getI C fX11_204 (tM_K hT) dX11_tries_147 <| zpc 150 rfl <| ?_
    rw [r5]
    refine zz_icmp_ge C 191 dX11_tries_150 (by decide) (fun c150 => ?_) (fun c150 => ?_)
    · rw [nI_leI (by omega) (by omega)] at c150
      exact kont hc e1 e2 (fun j hj => e3 j (by omega)) _
    · rw [nI_leI (by omega) (by omega)] at c150
      refine zz_aload_0 C dX11_tries_153 <| zz_getR C fX11_61 (tM_K hT) (tM_R_w hT) dX11_tries_154 <| zz_iload_7 C dX11_tries_157 <| zz_aload_0 C dX11_tries_159 <| zz_getR C fX11_98 (tM_K hT) (tM_R_wearAt hT) dX11_tries_160 <| zz_iload_1 C dX11_tries_163 <| zc_row C _ (tM_K_wearAt hT) (tM_row_wearAt hT) (znI (by omega)) (by omega) dX11_tries_164 <| fun r164 => ?_
      refine zz_iload_7 C dX11_tries_165 <| zc_iaload C _ (tM_KR_wearAt hT _ r164) (znI (by omega)) (by omega) dX11_tries_167 <| zpc 168 rfl <| ?_
      rw [w5 (by omega)]
      refine zc_iastore C _ (tM_K_w hT) (znI (by omega)) (by omega) dX11_tries_168 <| zz_aload_0 C dX11_tries_169 <| zz_getR C fX11_64 (tM_K hT) (tM_R_r hT) dX11_tries_170 <| zz_iload_7 C dX11_tries_173 <| zz_aload_0 C dX11_tries_175 <| zz_getR C fX11_101 (tM_K hT) (tM_R_restedAt hT) dX11_tries_176 <| zz_iload_1 C dX11_tries_179 <| zc_row C _ (tM_K_restedAt hT) (tM_row_restedAt hT) (znI (by omega)) (by omega) dX11_tries_180 <| fun r180 => ?_
      refine zz_iload_7 C dX11_tries_181 <| zc_iaload C _ (tM_KR_restedAt hT _ r180) (znI (by omega)) (by omega) dX11_tries_183 <| zpc 184 rfl <| ?_
      rw [r6 (by omega)]
      refine zc_iastore C _ (tM_K_r hT) (znI (by omega)) (by omega) dX11_tries_184 <| zz_iinc_7 C _ (zle rfl) rfl dX11_tries_185 nI_s <| zz_goto C 144 dX11_tries_188 (by decide) <| zpc 144 rfl <| ?_
      refine ih (by omega) _ (fun i j z => ?_) e2 (fun j hj => ?_)
      · rw [zI_sI, if_neg (by omega), zI_sI, if_neg (by omega)]; exact e1 i j z
      · by_cases z : j = k
        · subst z
          rw [zI_self, zI_sI, if_neg (by omega), zI_self]; exact ⟨rfl, rfl⟩
        · rw [zI_sI, if_neg (by omega), zI_sI, if_neg (by omega), zI_sI, if_neg (by omega), zI_sI, if_neg (by omega)]; exact e3 j (by omega)
  generalize hF : (fun s B => tB L A 1 (nxQ L A s q) (c + dSC L A s q.1.1 q.2 L.1.2.1) (if f = -1 then nI s else f) B) = fF
  have hFs : ∀ s B, fF s B = tB L A 1 (nxQ L A s q) (c + dSC L A s q.1.1 q.2 L.1.2.1) (if f = -1 then nI s else f) B := fun s B => by rw [← hF]
  have hFl : ∀ s, (nFold fF B s).1 ≤ B.1 := by
    intro s
    induction s with
    | zero => exact Nat.le_refl _
    | succ s ih => refine Nat.le_trans ?_ ih; show (fF s (nFold fF B s)).1 ≤ _; rw [hFs]; exact tB_le _ _ _ _ _
  have lpB : c < B.1 → ∀ s, s ≤ 2 ^ A.1.1 → ∀ (hc : zH) (y7 : Option Value), zAgT 2 h hc → mQs hc L A q c gn → mBs hc (nFold fF B s) → (∀ j, j < A.1.1 → zI hc (240 + 1 + 2) j = nI (q.1.1 j) ∧ zI hc (245 + 1 + 2) j = nI (q.1.2 j)) → zAW E b G 8 0 0 95 [some (.ref (b + 157)), some (.int (nI 2)), some (.int f), some (.long (lN c)), none, some (.int (nI q.2)), some (.int (nI s)), y7] [] t hc := by
    intro hcB
    refine zLoop (2 ^ A.1.1) fun s hs ih hc y7 ag mq bs sv => ?_
    have hst : dSC L A s q.1.1 q.2 L.1.2.1 ≤ 11000 * L.1.2.1 := dSC_bd hqo.1 h0 L.1.2.1 (Nat.le_refl _)
    have hbl := hFl s
    have s191 : s < 2 ^ A.1.1 → ∀ (h5 : zH) (y7 : Option Value), zAgT 2 h h5 → mQs h5 L A q c gn → mBs h5 (nFold fF B (s + 1)) → (∀ j, j < A.1.1 → zI h5 (240 + 1 + 2) j = nI (q.1.1 j) ∧ zI h5 (245 + 1 + 2) j = nI (q.1.2 j)) → zAW E b G 8 0 0 191 [some (.ref (b + 157)), some (.int (nI 2)), some (.int f), some (.long (lN c)), none, some (.int (nI q.2)), some (.int (nI s)), y7] [] t h5 := by
      intro hs2 h5 y7 ag5 mq5 bs5 sv5
      refine zz_iinc_6 C _ (zle rfl) rfl dX11_tries_191 nI_s <| zz_goto C 95 dX11_tries_194 (by decide) <| zpc 95 rfl <| ?_
      exact ih hs2 h5 _ ag5 mq5 bs5 sv5
    have s127 : s < 2 ^ A.1.1 → ∀ h2 : zH, zAg2 hc h2 → mQs h2 L A (nxQ L A s q) (c + dSC L A s q.1.1 q.2 L.1.2.1) (gn + 1) → ∀ f' : Int32, f' = (if f = -1 then nI s else f) → zAW E b G 8 0 0 127 [some (.ref (b + 157)), some (.int (nI 2)), some (.int f), some (.long (lN c)), none, some (.int (nI q.2)), some (.int (nI s)), y7] [.int (f'), .int (nI 1), .ref (b + 157)] t h2 := by
      intro hs2 h2 a2 mq2 f' ef
      have bs2 : mBs h2 (nFold fF B s) := ⟨(a2.2 _ _ (by omega)).trans bs.1, (a2.1 _ _ (by unfold sc2 sc1; omega)).trans bs.2⟩
      refine zy_callVV C hR [_, _] (c_tries1 hT (hqo.nx s) h0 hn hg (show q.2 + 1 + 1 < 2 ^ 20 by omega) mq2 f' bs2 (by omega) (by omega)) lX11_336 rfl (tM_K hT) (by decide) rfl ⟨zle rfl, zle rfl, zle rfl, zle rfl⟩ (zle rfl) dX11_tries_127 ?_
      intro t3 h3 hv; obtain ⟨rfl, a3, mq3, bs3⟩ := hv
      refine zz_aload_0 C dX11_tries_130 <| zz_lload_3 C dX11_tries_131 <| zy_putL C fX11_239 pX11_43 (tM_K hT) dX11_tries_132 <| zz_aload_0 C dX11_tries_135 <| zz_iload_5 C dX11_tries_136 <| zy_putI C fX11_230 pX11_32 (tM_K hT) dX11_tries_138 <| zpc 141 rfl <| ?_
      have a4 : zAgT 2 h (zsI (zsL h3 157 43 (lN c)) 157 32 (nI q.2)) := (((ag.tr (.of2 a2)).tr a3.up).sL (by unfold sl3; omega)).sI (by unfold sct sc2; omega)
      have sv4 : ∀ j, j < A.1.1 → zI (zsI (zsL h3 157 43 (lN c)) 157 32 (nI q.2)) (240 + 1 + 2) j = nI (q.1.1 j) ∧ zI (zsI (zsL h3 157 43 (lN c)) 157 32 (nI q.2)) (245 + 1 + 2) j = nI (q.1.2 j) := fun j hj => by
        rw [zI_sI, if_neg (by omega), zI_sI, if_neg (by omega)]
        show zI h3 _ _ = _ ∧ zI h3 _ _ = _
        rw [a3.1 _ _ (by unfold sct sc2 sc1; omega), a3.1 _ _ (by unfold sct sc2 sc1; omega), a2.1 _ _ (by unfold sc2 sc1; omega), a2.1 _ _ (by unfold sc2 sc1; omega)]
        exact sv j hj
      have r4 : zI (zsI (zsL h3 157 43 (lN c)) 157 32 (nI q.2)) 157 30 = nI A.1.1 := by
        rw [zI_sI, if_neg (by omega)]; exact mq3.f.2.2.1
      refine zz_iconst_0 C dX11_tries_141 <| zz_istore_7 C (zle rfl) rfl dX11_tries_142 <| zpc 144 rfl <| ?_
      refine lpC _ r4 sv4 s (fun h5 e1 e2 e3 y7 => ?_) 0 (by omega) _ (fun _ _ _ => rfl) (fun _ _ => rfl) (fun j hj => absurd hj (by omega))
      have ag5 : zAgT 2 h h5 := a4.tr ⟨fun i j z => e1 i j (fun y => z (by unfold sct sc2; omega)), fun i j _ => e2 i j⟩
      have mq5 : mQs h5 L A q c gn := mq3.back (by omega) hg (fun i k z => by rw [e1 i k (by omega), zI_sI, if_neg (by omega)]; rfl) (fun i k z => by
        rw [e2 i k]
        show zL (zsL h3 157 43 (lN c)) i k = _
        rw [zL_sL, if_neg z]) (by
        rw [e2]
        show zL (zsL h3 157 43 (lN c)) 157 43 = _
        rw [zL_sL, if_pos ⟨rfl, rfl⟩]) (by rw [e1 _ _ (by omega)]; exact zI_self _ _ _ _) e3 (show q.2 + 1 - (gn + 1) = q.2 - gn by omega) hgq (by omega)
      have bs5 : mBs h5 (nFold fF B (s + 1)) := by
        have eN : nFold fF B (s + 1) = tB L A 1 (nxQ L A s q) (c + dSC L A s q.1.1 q.2 L.1.2.1) f' (nFold fF B s) := by
          show fF s (nFold fF B s) = _
          rw [hFs, ef]
        rw [eN]
        refine ⟨?_, ?_⟩
        · rw [e2]
          show zL (zsL h3 157 43 (lN c)) 157 58 = _
          rw [zL_sL, if_neg (by omega)]; exact bs3.1
        · rw [e1 _ _ (by omega), zI_sI, if_neg (by omega)]; exact bs3.2
      have sv5 : ∀ j, j < A.1.1 → zI h5 (240 + 1 + 2) j = nI (q.1.1 j) ∧ zI h5 (245 + 1 + 2) j = nI (q.1.2 j) := fun j hj => by
        rw [e1 _ _ (by omega), e1 _ _ (by omega)]; exact sv4 j hj
      exact s191 hs2 h5 y7 ag5 mq5 bs5 sv5
    refine zz_iload_6 C dX11_tries_95 <| zz_iconst_1 C dX11_tries_97 <| zz_aload_0 C dX11_tries_98 <| zz_getI C fX11_204 (tM_K hT) dX11_tries_99 <| zpc 102 rfl <| ?_
    rw [mq.f.2.2.1]
    refine zz_ishl C dX11_tries_102 <| zpc 103 rfl <| ?_
    rw [fW _ (by omega)]
    refine zz_icmp_ge C 197 dX11_tries_103 (by decide) (fun c103 => ?_) (fun c103 => ?_)
    · rw [nI_leI (by omega) (by omega)] at c103
      refine zy_return C hE (zle rfl) (zle rfl) dX11_tries_197 ?_
      refine ⟨rfl, ag, mq, ?_⟩
      rw [show tB L A 2 q c f B = nFold fF B (2 ^ A.1.1) by rw [← hF]; exact if_pos hcB, ← show s = 2 ^ A.1.1 by omega]
      exact bs
    · rw [nI_leI (by omega) (by omega)] at c103
      refine zz_aload_0 C dX11_tries_106 <| zz_iload_6 C dX11_tries_107 <| zpc 109 rfl <| ?_
      refine zy_callVV C hR [_] (c_goesQ hT hqo mq s (by omega) (by omega)) lX11_293 rfl (tM_K hT) (by decide) rfl ⟨zle rfl, zle rfl, zle rfl, zle rfl⟩ (zle rfl) dX11_tries_109 ?_
      intro t2 h2 hv; obtain ⟨rfl, a2, mq2⟩ := hv
      refine zz_aload_0 C dX11_tries_112 <| zz_iload_1 C dX11_tries_113 <| zz_iconst_1 C dX11_tries_114 <| zz_isub C dX11_tries_115 <| zpc 116 rfl <| ?_
      rw [show (nI 2 - 1 : Int32) = nI 1 from rfl]
      refine zz_iload_2 C dX11_tries_116 <| zz_iconst_m1 C dX11_tries_117 <| zpc 118 rfl <| ?_
      refine zz_icmp_ne C 126 dX11_tries_118 (by decide) (fun c118 => ?_) (fun c118 => ?_)
      · refine zz_iload_2 C dX11_tries_126 <| zpc 127 rfl <| ?_
        first
        | exact s127 (by omega) h2 a2 mq2 _ (by rw [if_pos c118])
        | exact s127 (by omega) h2 a2 mq2 _ (by rw [if_neg c118])
      · refine zz_iload_6 C dX11_tries_121 <| zz_goto C 127 dX11_tries_123 (by decide) <| zpc 127 rfl <| ?_
        first
        | exact s127 (by omega) h2 a2 mq2 _ (by rw [if_pos c118])
        | exact s127 (by omega) h2 a2 mq2 _ (by rw [if_neg c118])
  have lpA : c < B.1 → ∀ k, k ≤ A.1.1 → ∀ (hc : zH) (y7 : Option Value), (∀ i j, ¬ (i = 240 + 1 + 2 ∨ i = 245 + 1 + 2) → zI hc i j = zI h i j) → (∀ i j, zL hc i j = zL h i j) → (∀ j, j < k → zI hc (240 + 1 + 2) j = nI (q.1.1 j) ∧ zI hc (245 + 1 + 2) j = nI (q.1.2 j)) → zAW E b G 8 0 0 45 [some (.ref (b + 157)), some (.int (nI 2)), some (.int f), some (.long (lN c)), none, some (.int (nI q.2)), some (.int (nI k)), y7] [] t hc := by
    intro hcB
    refine zLoop A.1.1 fun k hk ih hc y7 e1 e2 e3 => ?_
    have mqc : mQs hc L A q c gn := hm.eq (by omega) hg (fun i k z => e1 i k (by omega)) (fun i k _ => e2 i k)
    have r6 : k < A.1.1 → ∀ v, zI (zsI hc (240 + 1 + 2) k v) 234 k = nI (q.1.2 k) := fun z v => by rw [zI_sI, if_neg (by omega)]; exact (mqc.f.2.2.2.1 k z).2
    refine zz_iload_6 C dX11_tries_45 <| zz_aload_0 C dX11_tries_47 <| zz_getI C fX11_204 (tM_K hT) dX11_tries_48 <| zpc 51 rfl <| ?_
    rw [mqc.f.2.2.1]
    refine zz_icmp_ge C 92 dX11_tries_51 (by decide) (fun c51 => ?_) (fun c51 => ?_)
    · rw [nI_leI (by omega) (by omega)] at c51
      refine zz_iconst_0 C dX11_tries_92 <| zz_istore_6 C (zle rfl) rfl dX11_tries_93 <| zpc 95 rfl <| ?_
      refine lpB hcB 0 (Nat.zero_le _) hc _ ⟨fun i j z => e1 i j (fun y => z (by unfold sct; omega)), fun i j _ => e2 i j⟩ mqc ⟨(e2 _ _).trans hbs.1, (e1 _ _ (by omega)).trans hbs.2⟩ (fun j hj => e3 j (by omega))
    · rw [nI_leI (by omega) (by omega)] at c51
      refine zz_aload_0 C dX11_tries_54 <| zz_getR C fX11_98 (tM_K hT) (tM_R_wearAt hT) dX11_tries_55 <| zz_iload_1 C dX11_tries_58 <| zc_row C _ (tM_K_wearAt hT) (tM_row_wearAt hT) (znI (by omega)) (by omega) dX11_tries_59 <| fun r59 => ?_
      refine zz_iload_6 C dX11_tries_60 <| zz_aload_0 C dX11_tries_62 <| zz_getR C fX11_61 (tM_K hT) (tM_R_w hT) dX11_tries_63 <| zz_iload_6 C dX11_tries_66 <| zc_iaload C _ (tM_K_w hT) (znI (by omega)) (by omega) dX11_tries_68 <| zpc 69 rfl <| ?_
      rw [(mqc.f.2.2.2.1 k (by omega)).1]
      refine zc_iastore C _ (tM_KR_wearAt hT _ r59) (znI (by omega)) (by omega) dX11_tries_69 <| zz_aload_0 C dX11_tries_70 <| zz_getR C fX11_101 (tM_K hT) (tM_R_restedAt hT) dX11_tries_71 <| zz_iload_1 C dX11_tries_74 <| zc_row C _ (tM_K_restedAt hT) (tM_row_restedAt hT) (znI (by omega)) (by omega) dX11_tries_75 <| fun r75 => ?_
      refine zz_iload_6 C dX11_tries_76 <| zz_aload_0 C dX11_tries_78 <| zz_getR C fX11_64 (tM_K hT) (tM_R_r hT) dX11_tries_79 <| zz_iload_6 C dX11_tries_82 <| zc_iaload C _ (tM_K_r hT) (znI (by omega)) (by omega) dX11_tries_84 <| zpc 85 rfl <| ?_
      rw [r6 (by omega)]
      refine zc_iastore C _ (tM_KR_restedAt hT _ r75) (znI (by omega)) (by omega) dX11_tries_85 <| zz_iinc_6 C _ (zle rfl) rfl dX11_tries_86 nI_s <| zz_goto C 45 dX11_tries_89 (by decide) <| zpc 45 rfl <| ?_
      refine ih (by omega) _ _ (fun i j z => ?_) e2 (fun j hj => ?_)
      · rw [zI_sI, if_neg (by omega), zI_sI, if_neg (by omega)]; exact e1 i j z
      · by_cases z : j = k
        · subst z
          rw [zI_self, zI_sI, if_neg (by omega), zI_self]; exact ⟨rfl, rfl⟩
        · rw [zI_sI, if_neg (by omega), zI_sI, if_neg (by omega), zI_sI, if_neg (by omega), zI_sI, if_neg (by omega)]; exact e3 j (by omega)
  refine zz_aload_0 C dX11_tries_0 <| zz_getL C fX11_239 (tM_K hT) dX11_tries_1 <| zpc 4 rfl <| ?_
  rw [hm.f.1]
  refine zz_aload_0 C dX11_tries_4 <| zz_getL C fX11_330 (tM_K hT) dX11_tries_5 <| zpc 8 rfl <| ?_
  rw [hbs.1]
  refine zz_lcmp C dX11_tries_8 <| zpc 9 rfl <| ?_
  refine zz_if_lt C 13 dX11_tries_9 (by decide) (fun c9 => ?_) (fun c9 => ?_)
  · rw [lg_cmp_lt, pk_lLT (by omega) (by omega)] at c9
    refine zz_iload_1 C dX11_tries_13 <| zpc 14 rfl <| ?_
    refine zz_if_ne C 31 dX11_tries_14 (by decide) (fun c14 => ?_) (fun c14 => ?_)
    · refine zz_aload_0 C dX11_tries_31 <| zz_getL C fX11_239 (tM_K hT) dX11_tries_32 <| zpc 35 rfl <| ?_
      rw [hm.f.1]
      refine zz_lstore_3 C (zle rfl) rfl dX11_tries_35 <| zz_aload_0 C dX11_tries_36 <| zz_getI C fX11_230 (tM_K hT) dX11_tries_37 <| zpc 40 rfl <| ?_
      rw [hm.f.2.1]
      refine zz_istore_5 C (zle rfl) rfl dX11_tries_40 <| zz_iconst_0 C dX11_tries_42 <| zz_istore_6 C (zle rfl) rfl dX11_tries_43 <| zpc 45 rfl <| ?_
      exact lpA c9 0 (by omega) h _ (fun _ _ _ => rfl) (fun _ _ => rfl) (fun j hj => absurd hj (by omega))
    · exact absurd c14 (by decide)
  · rw [lg_cmp_lt, pk_lLT (by omega) (by omega)] at c9
    refine zy_return C hE (zle rfl) (zle rfl) dX11_tries_12 ?_
    exact ⟨rfl, zAgT.rf _ _, hm, by rw [tB_no c9]; exact hbs⟩
theorem c_tries3 (hT : zTM t) {q : yQ} {c gn : Nat} (hqo : qOk L A q) (h0 : A.1.2.1 = 0) (hn : A.1.1 ≤ 10) (hg : L.1.2.1 ≤ 14) (hday : q.2 + 3 < 2 ^ 20) (hm : mQs h L A q c gn) (f : Int32) {B : Nat × Int32} (hbs : mBs h B) (hb2 : B.1 < 2 ^ 62) (hc2 : c + 154000 * 3 < 2 ^ 62) : zMet E b l yX11_tries cX11_tries 8 none 7 0 0 [.ref (b + 157), .int (nI 3), .int f] t h (qV (fun t' h' => t' = t ∧ zAgT 3 h h' ∧ mQs h' L A q c gn ∧ mBs h' (tB L A 3 q c f B))) := by
  have hpw : 2 ^ A.1.1 ≤ 2 ^ 10 := Nat.pow_le_pow_right (by omega) hn
  have hgq := hm.f.2.2.2.2
  refine zMet.of (ls := [some (.ref (b + 157)), some (.int (nI 3)), some (.int f), none, none, none, none, none]) (by decide) (zle rfl) 5 rfl ?_
  intro G hlG C hR hE hin
  have lpC : ∀ (h4 : zH), zI h4 157 30 = nI A.1.1 → (∀ j, j < A.1.1 → zI h4 (240 + 1 + 3) j = nI (q.1.1 j) ∧ zI h4 (245 + 1 + 3) j = nI (q.1.2 j)) → ∀ s, (∀ hc : zH, (∀ i j, ¬ (i = 233 ∨ i = 234) → zI hc i j = zI h4 i j) → (∀ i j, zL hc i j = zL h4 i j) → (∀ j, j < A.1.1 → zI hc 233 j = nI (q.1.1 j) ∧ zI hc 234 j = nI (q.1.2 j)) → ∀ y7, zAW E b G 8 0 0 191 [some (.ref (b + 157)), some (.int (nI 3)), some (.int f), some (.long (lN c)), none, some (.int (nI q.2)), some (.int (nI s)), y7] [] t hc) → ∀ k, k ≤ A.1.1 → ∀ hc : zH, (∀ i j, ¬ (i = 233 ∨ i = 234) → zI hc i j = zI h4 i j) → (∀ i j, zL hc i j = zL h4 i j) → (∀ j, j < k → zI hc 233 j = nI (q.1.1 j) ∧ zI hc 234 j = nI (q.1.2 j)) → zAW E b G 8 0 0 144 [some (.ref (b + 157)), some (.int (nI 3)), some (.int f), some (.long (lN c)), none, some (.int (nI q.2)), some (.int (nI s)), some (.int (nI k))] [] t hc := by
    intro h4 r4 sv s kont
    refine zLoop A.1.1 fun k hk ih hc e1 e2 e3 => ?_
    have r5 : zI hc 157 30 = nI A.1.1 := (e1 _ _ (by omega)).trans r4
    have w5 : k < A.1.1 → zI hc (240 + 1 + 3) k = nI (q.1.1 k) := fun z => (e1 _ _ (by omega)).trans (sv k z).1
    have r6 : k < A.1.1 → ∀ v, zI (zsI hc 233 k v) (245 + 1 + 3) k = nI (q.1.2 k) := fun z v => by rw [zI_sI, if_neg (by omega), e1 _ _ (by omega)]; exact (sv k z).2
    refine zz_iload_7 C dX11_tries_144 <| zz_aload_0 C dX11_tries_146 <| zz_getI C fX11_204 (tM_K hT) dX11_tries_147 <| zpc 150 rfl <| ?_
    rw [r5]
    refine zz_icmp_ge C 191 dX11_tries_150 (by decide) (fun c150 => ?_) (fun c150 => ?_)
    · rw [nI_leI (by omega) (by omega)] at c150
      exact kont hc e1 e2 (fun j hj => e3 j (by omega)) _
    · rw [nI_leI (by omega) (by omega)] at c150
      refine zz_aload_0 C dX11_tries_153 <| zz_getR C fX11_61 (tM_K hT) (tM_R_w hT) dX11_tries_154 <| zz_iload_7 C dX11_tries_157 <| zz_aload_0 C dX11_tries_159 <| zz_getR C fX11_98 (tM_K hT) (tM_R_wearAt hT) dX11_tries_160 <| zz_iload_1 C dX11_tries_163 <| zc_row C _ (tM_K_wearAt hT) (tM_row_wearAt hT) (znI (by omega)) (by omega) dX11_tries_164 <| fun r164 => ?_
      refine zz_iload_7 C dX11_tries_165 <| zc_iaload C _ (tM_KR_wearAt hT _ r164) (znI (by omega)) (by omega) dX11_tries_167 <| zpc 168 rfl <| ?_
      rw [w5 (by omega)]
      refine zc_iastore C _ (tM_K_w hT) (znI (by omega)) (by omega) dX11_tries_168 <| zz_aload_0 C dX11_tries_169 <| zz_getR C fX11_64 (tM_K hT) (tM_R_r hT) dX11_tries_170 <| zz_iload_7 C dX11_tries_173 <| zz_aload_0 C dX11_tries_175 <| zz_getR C fX11_101 (tM_K hT) (tM_R_restedAt hT) dX11_tries_176 <| zz_iload_1 C dX11_tries_179 <| zc_row C _ (tM_K_restedAt hT) (tM_row_restedAt hT) (znI (by omega)) (by omega) dX11_tries_180 <| fun r180 => ?_
      refine zz_iload_7 C dX11_tries_181 <| zc_iaload C _ (tM_KR_restedAt hT _ r180) (znI (by omega)) (by omega) dX11_tries_183 <| zpc 184 rfl <| ?_
      rw [r6 (by omega)]
      refine zc_iastore C _ (tM_K_r hT) (znI (by omega)) (by omega) dX11_tries_184 <| zz_iinc_7 C _ (zle rfl) rfl dX11_tries_185 nI_s <| zz_goto C 144 dX11_tries_188 (by decide) <| zpc 144 rfl <| ?_
      refine ih (by omega) _ (fun i j z => ?_) e2 (fun j hj => ?_)
      · rw [zI_sI, if_neg (by omega), zI_sI, if_neg (by omega)]; exact e1 i j z
      · by_cases z : j = k
        · subst z
          rw [zI_self, zI_sI, if_neg (by omega), zI_self]; exact ⟨rfl, rfl⟩
        · rw [zI_sI, if_neg (by omega), zI_sI, if_neg (by omega), zI_sI, if_neg (by omega), zI_sI, if_neg (by omega)]; exact e3 j (by omega)
  generalize hF : (fun s B => tB L A 2 (nxQ L A s q) (c + dSC L A s q.1.1 q.2 L.1.2.1) (if f = -1 then nI s else f) B) = fF
  have hFs : ∀ s B, fF s B = tB L A 2 (nxQ L A s q) (c + dSC L A s q.1.1 q.2 L.1.2.1) (if f = -1 then nI s else f) B := fun s B => by rw [← hF]
  have hFl : ∀ s, (nFold fF B s).1 ≤ B.1 := by
    intro s
    induction s with
    | zero => exact Nat.le_refl _
    | succ s ih => refine Nat.le_trans ?_ ih; show (fF s (nFold fF B s)).1 ≤ _; rw [hFs]; exact tB_le _ _ _ _ _
  have lpB : c < B.1 → ∀ s, s ≤ 2 ^ A.1.1 → ∀ (hc : zH) (y7 : Option Value), zAgT 3 h hc → mQs hc L A q c gn → mBs hc (nFold fF B s) → (∀ j, j < A.1.1 → zI hc (240 + 1 + 3) j = nI (q.1.1 j) ∧ zI hc (245 + 1 + 3) j = nI (q.1.2 j)) → zAW E b G 8 0 0 95 [some (.ref (b + 157)), some (.int (nI 3)), some (.int f), some (.long (lN c)), none, some (.int (nI q.2)), some (.int (nI s)), y7] [] t hc := by
    intro hcB
    refine zLoop (2 ^ A.1.1) fun s hs ih hc y7 ag mq bs sv => ?_
    have hst : dSC L A s q.1.1 q.2 L.1.2.1 ≤ 11000 * L.1.2.1 := dSC_bd hqo.1 h0 L.1.2.1 (Nat.le_refl _)
    have hbl := hFl s
    have s191 : s < 2 ^ A.1.1 → ∀ (h5 : zH) (y7 : Option Value), zAgT 3 h h5 → mQs h5 L A q c gn → mBs h5 (nFold fF B (s + 1)) → (∀ j, j < A.1.1 → zI h5 (240 + 1 + 3) j = nI (q.1.1 j) ∧ zI h5 (245 + 1 + 3) j = nI (q.1.2 j)) → zAW E b G 8 0 0 191 [some (.ref (b + 157)), some (.int (nI 3)), some (.int f), some (.long (lN c)), none, some (.int (nI q.2)), some (.int (nI s)), y7] [] t h5 := by
      intro hs2 h5 y7 ag5 mq5 bs5 sv5
      refine zz_iinc_6 C _ (zle rfl) rfl dX11_tries_191 nI_s <| zz_goto C 95 dX11_tries_194 (by decide) <| zpc 95 rfl <| ?_
      exact ih hs2 h5 _ ag5 mq5 bs5 sv5
    have s127 : s < 2 ^ A.1.1 → ∀ h2 : zH, zAg2 hc h2 → mQs h2 L A (nxQ L A s q) (c + dSC L A s q.1.1 q.2 L.1.2.1) (gn + 1) → ∀ f' : Int32, f' = (if f = -1 then nI s else f) → zAW E b G 8 0 0 127 [some (.ref (b + 157)), some (.int (nI 3)), some (.int f), some (.long (lN c)), none, some (.int (nI q.2)), some (.int (nI s)), y7] [.int (f'), .int (nI 2), .ref (b + 157)] t h2 := by
      intro hs2 h2 a2 mq2 f' ef
      have bs2 : mBs h2 (nFold fF B s) := ⟨(a2.2 _ _ (by omega)).trans bs.1, (a2.1 _ _ (by unfold sc2 sc1; omega)).trans bs.2⟩
      refine zy_callVV C hR [_, _] (c_tries2 hT (hqo.nx s) h0 hn hg (show q.2 + 1 + 2 < 2 ^ 20 by omega) mq2 f' bs2 (by omega) (by omega)) lX11_336 rfl (tM_K hT) (by decide) rfl ⟨zle rfl, zle rfl, zle rfl, zle rfl⟩ (zle rfl) dX11_tries_127 ?_
      intro t3 h3 hv; obtain ⟨rfl, a3, mq3, bs3⟩ := hv
      refine zz_aload_0 C dX11_tries_130 <| zz_lload_3 C dX11_tries_131 <| zy_putL C fX11_239 pX11_43 (tM_K hT) dX11_tries_132 <| zz_aload_0 C dX11_tries_135 <| zz_iload_5 C dX11_tries_136 <| zy_putI C fX11_230 pX11_32 (tM_K hT) dX11_tries_138 <| zpc 141 rfl <| ?_
      have a4 : zAgT 3 h (zsI (zsL h3 157 43 (lN c)) 157 32 (nI q.2)) := (((ag.tr (.of2 a2)).tr a3.up).sL (by unfold sl3; omega)).sI (by unfold sct sc2; omega)
      have sv4 : ∀ j, j < A.1.1 → zI (zsI (zsL h3 157 43 (lN c)) 157 32 (nI q.2)) (240 + 1 + 3) j = nI (q.1.1 j) ∧ zI (zsI (zsL h3 157 43 (lN c)) 157 32 (nI q.2)) (245 + 1 + 3) j = nI (q.1.2 j) := fun j hj => by
        rw [zI_sI, if_neg (by omega), zI_sI, if_neg (by omega)]
        show zI h3 _ _ = _ ∧ zI h3 _ _ = _
        rw [a3.1 _ _ (by unfold sct sc2 sc1; omega), a3.1 _ _ (by unfold sct sc2 sc1; omega), a2.1 _ _ (by unfold sc2 sc1; omega), a2.1 _ _ (by unfold sc2 sc1; omega)]
        exact sv j hj
      have r4 : zI (zsI (zsL h3 157 43 (lN c)) 157 32 (nI q.2)) 157 30 = nI A.1.1 := by
        rw [zI_sI, if_neg (by omega)]; exact mq3.f.2.2.1
      refine zz_iconst_0 C dX11_tries_141 <| zz_istore_7 C (zle rfl) rfl dX11_tries_142 <| zpc 144 rfl <| ?_
      refine lpC _ r4 sv4 s (fun h5 e1 e2 e3 y7 => ?_) 0 (by omega) _ (fun _ _ _ => rfl) (fun _ _ => rfl) (fun j hj => absurd hj (by omega))
      have ag5 : zAgT 3 h h5 := a4.tr ⟨fun i j z => e1 i j (fun y => z (by unfold sct sc2; omega)), fun i j _ => e2 i j⟩
      have mq5 : mQs h5 L A q c gn := mq3.back (by omega) hg (fun i k z => by rw [e1 i k (by omega), zI_sI, if_neg (by omega)]; rfl) (fun i k z => by
        rw [e2 i k]
        show zL (zsL h3 157 43 (lN c)) i k = _
        rw [zL_sL, if_neg z]) (by
        rw [e2]
        show zL (zsL h3 157 43 (lN c)) 157 43 = _
        rw [zL_sL, if_pos ⟨rfl, rfl⟩]) (by rw [e1 _ _ (by omega)]; exact zI_self _ _ _ _) e3 (show q.2 + 1 - (gn + 1) = q.2 - gn by omega) hgq (by omega)
      have bs5 : mBs h5 (nFold fF B (s + 1)) := by
        have eN : nFold fF B (s + 1) = tB L A 2 (nxQ L A s q) (c + dSC L A s q.1.1 q.2 L.1.2.1) f' (nFold fF B s) := by
          show fF s (nFold fF B s) = _
          rw [hFs, ef]
        rw [eN]
        refine ⟨?_, ?_⟩
        · rw [e2]
          show zL (zsL h3 157 43 (lN c)) 157 58 = _
          rw [zL_sL, if_neg (by omega)]; exact bs3.1
        · rw [e1 _ _ (by omega), zI_sI, if_neg (by omega)]; exact bs3.2
      have sv5 : ∀ j, j < A.1.1 → zI h5 (240 + 1 + 3) j = nI (q.1.1 j) ∧ zI h5 (245 + 1 + 3) j = nI (q.1.2 j) := fun j hj => by
        rw [e1 _ _ (by omega), e1 _ _ (by omega)]; exact sv4 j hj
      exact s191 hs2 h5 y7 ag5 mq5 bs5 sv5
    refine zz_iload_6 C dX11_tries_95 <| zz_iconst_1 C dX11_tries_97 <| zz_aload_0 C dX11_tries_98 <| zz_getI C fX11_204 (tM_K hT) dX11_tries_99 <| zpc 102 rfl <| ?_
    rw [mq.f.2.2.1]
    refine zz_ishl C dX11_tries_102 <| zpc 103 rfl <| ?_
    rw [fW _ (by omega)]
    refine zz_icmp_ge C 197 dX11_tries_103 (by decide) (fun c103 => ?_) (fun c103 => ?_)
    · rw [nI_leI (by omega) (by omega)] at c103
      refine zy_return C hE (zle rfl) (zle rfl) dX11_tries_197 ?_
      refine ⟨rfl, ag, mq, ?_⟩
      rw [show tB L A 3 q c f B = nFold fF B (2 ^ A.1.1) by rw [← hF]; exact if_pos hcB, ← show s = 2 ^ A.1.1 by omega]
      exact bs
    · rw [nI_leI (by omega) (by omega)] at c103
      refine zz_aload_0 C dX11_tries_106 <| zz_iload_6 C dX11_tries_107 <| zpc 109 rfl <| ?_
      refine zy_callVV C hR [_] (c_goesQ hT hqo mq s (by omega) (by omega)) lX11_293 rfl (tM_K hT) (by decide) rfl ⟨zle rfl, zle rfl, zle rfl, zle rfl⟩ (zle rfl) dX11_tries_109 ?_
      intro t2 h2 hv; obtain ⟨rfl, a2, mq2⟩ := hv
      refine zz_aload_0 C dX11_tries_112 <| zz_iload_1 C dX11_tries_113 <| zz_iconst_1 C dX11_tries_114 <| zz_isub C dX11_tries_115 <| zpc 116 rfl <| ?_
      rw [show (nI 3 - 1 : Int32) = nI 2 from rfl]
      refine zz_iload_2 C dX11_tries_116 <| zz_iconst_m1 C dX11_tries_117 <| zpc 118 rfl <| ?_
      refine zz_icmp_ne C 126 dX11_tries_118 (by decide) (fun c118 => ?_) (fun c118 => ?_)
      · refine zz_iload_2 C dX11_tries_126 <| zpc 127 rfl <| ?_
        first
        | exact s127 (by omega) h2 a2 mq2 _ (by rw [if_pos c118])
        | exact s127 (by omega) h2 a2 mq2 _ (by rw [if_neg c118])
      · refine zz_iload_6 C dX11_tries_121 <| zz_goto C 127 dX11_tries_123 (by decide) <| zpc 127 rfl <| ?_
        first
        | exact s127 (by omega) h2 a2 mq2 _ (by rw [if_pos c118])
        | exact s127 (by omega) h2 a2 mq2 _ (by rw [if_neg c118])
  have lpA : c < B.1 → ∀ k, k ≤ A.1.1 → ∀ (hc : zH) (y7 : Option Value), (∀ i j, ¬ (i = 240 + 1 + 3 ∨ i = 245 + 1 + 3) → zI hc i j = zI h i j) → (∀ i j, zL hc i j = zL h i j) → (∀ j, j < k → zI hc (240 + 1 + 3) j = nI (q.1.1 j) ∧ zI hc (245 + 1 + 3) j = nI (q.1.2 j)) → zAW E b G 8 0 0 45 [some (.ref (b + 157)), some (.int (nI 3)), some (.int f), some (.long (lN c)), none, some (.int (nI q.2)), some (.int (nI k)), y7] [] t hc := by
    intro hcB
    refine zLoop A.1.1 fun k hk ih hc y7 e1 e2 e3 => ?_
    have mqc : mQs hc L A q c gn := hm.eq (by omega) hg (fun i k z => e1 i k (by omega)) (fun i k _ => e2 i k)
    have r6 : k < A.1.1 → ∀ v, zI (zsI hc (240 + 1 + 3) k v) 234 k = nI (q.1.2 k) := fun z v => by rw [zI_sI, if_neg (by omega)]; exact (mqc.f.2.2.2.1 k z).2
    refine zz_iload_6 C dX11_tries_45 <| zz_aload_0 C dX11_tries_47 <| zz_getI C fX11_204 (tM_K hT) dX11_tries_48 <| zpc 51 rfl <| ?_
    rw [mqc.f.2.2.1]
    refine zz_icmp_ge C 92 dX11_tries_51 (by decide) (fun c51 => ?_) (fun c51 => ?_)
    · rw [nI_leI (by omega) (by omega)] at c51
      refine zz_iconst_0 C dX11_tries_92 <| zz_istore_6 C (zle rfl) rfl dX11_tries_93 <| zpc 95 rfl <| ?_
      refine lpB hcB 0 (Nat.zero_le _) hc _ ⟨fun i j z => e1 i j (fun y => z (by unfold sct; omega)), fun i j _ => e2 i j⟩ mqc ⟨(e2 _ _).trans hbs.1, (e1 _ _ (by omega)).trans hbs.2⟩ (fun j hj => e3 j (by omega))
    · rw [nI_leI (by omega) (by omega)] at c51
      refine zz_aload_0 C dX11_tries_54 <| zz_getR C fX11_98 (tM_K hT) (tM_R_wearAt hT) dX11_tries_55 <| zz_iload_1 C dX11_tries_58 <| zc_row C _ (tM_K_wearAt hT) (tM_row_wearAt hT) (znI (by omega)) (by omega) dX11_tries_59 <| fun r59 => ?_
      refine zz_iload_6 C dX11_tries_60 <| zz_aload_0 C dX11_tries_62 <| zz_getR C fX11_61 (tM_K hT) (tM_R_w hT) dX11_tries_63 <| zz_iload_6 C dX11_tries_66 <| zc_iaload C _ (tM_K_w hT) (znI (by omega)) (by omega) dX11_tries_68 <| zpc 69 rfl <| ?_
      rw [(mqc.f.2.2.2.1 k (by omega)).1]
      refine zc_iastore C _ (tM_KR_wearAt hT _ r59) (znI (by omega)) (by omega) dX11_tries_69 <| zz_aload_0 C dX11_tries_70 <| zz_getR C fX11_101 (tM_K hT) (tM_R_restedAt hT) dX11_tries_71 <| zz_iload_1 C dX11_tries_74 <| zc_row C _ (tM_K_restedAt hT) (tM_row_restedAt hT) (znI (by omega)) (by omega) dX11_tries_75 <| fun r75 => ?_
      refine zz_iload_6 C dX11_tries_76 <| zz_aload_0 C dX11_tries_78 <| zz_getR C fX11_64 (tM_K hT) (tM_R_r hT) dX11_tries_79 <| zz_iload_6 C dX11_tries_82 <| zc_iaload C _ (tM_K_r hT) (znI (by omega)) (by omega) dX11_tries_84 <| zpc 85 rfl <| ?_
      rw [r6 (by omega)]
      refine zc_iastore C _ (tM_KR_restedAt hT _ r75) (znI (by omega)) (by omega) dX11_tries_85 <| zz_iinc_6 C _ (zle rfl) rfl dX11_tries_86 nI_s <| zz_goto C 45 dX11_tries_89 (by decide) <| zpc 45 rfl <| ?_
      refine ih (by omega) _ _ (fun i j z => ?_) e2 (fun j hj => ?_)
      · rw [zI_sI, if_neg (by omega), zI_sI, if_neg (by omega)]; exact e1 i j z
      · by_cases z : j = k
        · subst z
          rw [zI_self, zI_sI, if_neg (by omega), zI_self]; exact ⟨rfl, rfl⟩
        · rw [zI_sI, if_neg (by omega), zI_sI, if_neg (by omega), zI_sI, if_neg (by omega), zI_sI, if_neg (by omega)]; exact e3 j (by omega)
  refine zz_aload_0 C dX11_tries_0 <| zz_getL C fX11_239 (tM_K hT) dX11_tries_1 <| zpc 4 rfl <| ?_
  rw [hm.f.1]
  refine zz_aload_0 C dX11_tries_4 <| zz_getL C fX11_330 (tM_K hT) dX11_tries_5 <| zpc 8 rfl <| ?_
  rw [hbs.1]
  refine zz_lcmp C dX11_tries_8 <| zpc 9 rfl <| ?_
  refine zz_if_lt C 13 dX11_tries_9 (by decide) (fun c9 => ?_) (fun c9 => ?_)
  · rw [lg_cmp_lt, pk_lLT (by omega) (by omega)] at c9
    refine zz_iload_1 C dX11_tries_13 <| zpc 14 rfl <| ?_
    refine zz_if_ne C 31 dX11_tries_14 (by decide) (fun c14 => ?_) (fun c14 => ?_)
    · refine zz_aload_0 C dX11_tries_31 <| zz_getL C fX11_239 (tM_K hT) dX11_tries_32 <| zpc 35 rfl <| ?_
      rw [hm.f.1]
      refine zz_lstore_3 C (zle rfl) rfl dX11_tries_35 <| zz_aload_0 C dX11_tries_36 <| zz_getI C fX11_230 (tM_K hT) dX11_tries_37 <| zpc 40 rfl <| ?_
      rw [hm.f.2.1]
      refine zz_istore_5 C (zle rfl) rfl dX11_tries_40 <| zz_iconst_0 C dX11_tries_42 <| zz_istore_6 C (zle rfl) rfl dX11_tries_43 <| zpc 45 rfl <| ?_
      exact lpA c9 0 (by omega) h _ (fun _ _ _ => rfl) (fun _ _ => rfl) (fun j hj => absurd hj (by omega))
    · exact absurd c14 (by decide)
  · rw [lg_cmp_lt, pk_lLT (by omega) (by omega)] at c9
    refine zy_return C hE (zle rfl) (zle rfl) dX11_tries_12 ?_
    exact ⟨rfl, zAgT.rf _ _, hm, by rw [tB_no c9]; exact hbs⟩
end MTR
