/-! ===== the reference: rain; agreement but for scratch ===== -/
/-- what a day's goings write of the reference's cells -/
def sc1 (i k : Nat) : Prop := i = 235 ∨ i = 236 ∨ i = 237 ∨ (i = 157 ∧ (k = 41 ∨ k = 45 ∨ k = 46 ∨ k = 47 ∨ k = 50 ∨ k = 51))
def zAg1 (h h' : zH) : Prop := (∀ i k, ¬ sc1 i k → zI h' i k = zI h i k) ∧ ∀ i k, ¬ (i = 157 ∧ (k = 43 ∨ k = 44)) → zL h' i k = zL h i k
theorem zAg1.rf (h : zH) : zAg1 h h := ⟨fun _ _ _ => rfl, fun _ _ _ => rfl⟩
theorem zAg1.tr {h h1 h2 : zH} (a : zAg1 h h1) (c : zAg1 h1 h2) : zAg1 h h2 := ⟨fun i k q => (c.1 i k q).trans (a.1 i k q), fun i k q => (c.2 i k q).trans (a.2 i k q)⟩
theorem zAg1.sI {h h' : zH} (a : zAg1 h h') {i k : Nat} {v : Int32} (hs : sc1 i k) : zAg1 h (zsI h' i k v) := ⟨fun j q hn => by
  rw [zI_sI, if_neg (fun z => hn (by rw [z.1, z.2]; exact hs))]
  exact a.1 j q hn, a.2⟩
theorem zAg1.sL {h h' : zH} (a : zAg1 h h') {k : Nat} {v : Int64} (hs : k = 43 ∨ k = 44) : zAg1 h (zsL h' 157 k v) := ⟨a.1, fun j q hn => by
  rw [zL_sL, if_neg (fun z => hn ⟨z.1, by rw [z.2]; exact hs⟩)]
  exact a.2 j q hn⟩
theorem zAg1.sc (h : zH) (f g : Nat → Int32) (x y : Int32) : zAg1 h (mSc h f g x y) := ⟨fun i k hn => by
  unfold sc1 at hn
  rw [zI_mSc, if_neg (by omega), if_neg (by omega), if_neg (by omega), if_neg (by omega)], fun _ _ _ => rfl⟩
theorem zAg1.net {h h' : zH} (a : zAg1 h h') {P n tl : Nat} {F : Nat → Nat → Nat} {w : Nat → Nat} (hn : n ≤ 11) (hm : mNet h P n tl F w) : mNet h' P n tl F w := by
  obtain ⟨h1, h2, h3, h4⟩ := hm
  refine ⟨?_, ?_, ?_, fun k hk => ⟨fun i hi => ?_, ?_⟩⟩
  · rw [a.1 _ _ (by unfold sc1; omega)]; exact h1
  · rw [a.1 _ _ (by unfold sc1; omega)]; exact h2
  · rw [a.1 _ _ (by unfold sc1; omega)]; exact h3
  · rw [a.1 _ _ (by unfold sc1; omega)]; exact (h4 k hk).1 i hi
  · rw [a.1 _ _ (by unfold sc1; omega)]; exact (h4 k hk).2
theorem zAg1.ld {h h' : zH} (a : zAg1 h h') {L : yL} (hL : lOkL L) (hl : mLd h L) : mLd h' L := by
  obtain ⟨h1, h2, h3, h4, h5⟩ := hl
  have hg := hL.2.2.1
  refine ⟨?_, ?_, ?_, fun g hg2 i hi => ?_, fun k hk => ?_⟩
  · rw [a.1 _ _ (by unfold sc1; omega)]; exact h1
  · rw [a.1 _ _ (by unfold sc1; omega)]; exact h2
  · rw [a.1 _ _ (by unfold sc1; omega)]; exact h3
  · rw [a.1 _ _ (by unfold sc1; omega)]; exact h4 g hg2 i hi
  · rw [a.1 _ _ (by unfold sc1; omega)]; exact h5 k hk
theorem zAg1.pl {h h' : zH} (a : zAg1 h h') {p : yP} (hp : mPl h p) : mPl h' p := by
  obtain ⟨h1, h2, h3, h4, h5, h6, h7⟩ := hp
  refine ⟨?_, ?_, fun q => ?_, ?_, ?_, ?_, ?_⟩
  · rw [a.1 _ _ (by unfold sc1; omega)]; exact h1
  · rw [a.1 _ _ (by unfold sc1; omega)]; exact h2
  · rw [a.1 _ _ (by unfold sc1; omega)]; exact h3 q
  · rw [a.1 _ _ (by unfold sc1; omega)]; exact h4
  · rw [a.1 _ _ (by unfold sc1; omega)]; exact h5
  · rw [a.1 _ _ (by unfold sc1; omega)]; exact h6
  · rw [a.1 _ _ (by unfold sc1; omega)]; exact h7
theorem zAg1.tm {h h' : zH} (a : zAg1 h h') {day gone : Nat} (hd : mTm h day gone) : mTm h' day gone := by
  obtain ⟨h1, h2, h3⟩ := hd
  refine ⟨?_, ?_, h3⟩
  · rw [a.1 _ _ (by unfold sc1; omega)]; exact h1
  · rw [a.1 _ _ (by unfold sc1; omega)]; exact h2
section MT
variable {E : zE} {b : Nat} {G : zG} {t : zT} {h : zH} {L : yL} {p : yP} {day gone : Nat}
theorem l_wet (hT : zTM t) (hL : lOkL L) (hl : mLd h L) (hp : mPl h p) (hd : mTm h day gone) (C : zCx E b G RX11 cX11_isWet 2 (some .boolean)) {f : Int32} (hE : zEnd E b G 0 0 (qIf f t h)) (hf1 : (p.2.2.2.2.2 = false ∧ dWet L day) → f = 1) (hf0 : ¬ (p.2.2.2.2.2 = false ∧ dWet L day) → f = 0) :
    ∀ (m k : Nat), k + m = L.1.2.2 → (∀ j, j < k → ¬ L.2.2 j = day) → zAW E b G 2 0 0 2 [some (.ref (b + 157)), some (.int (nI k))] [] t h := by
  obtain ⟨-, -, -, hw8, -, hwt⟩ := hL
  obtain ⟨-, -, hl4, -, hlw⟩ := hl
  have hdry := hp.2.2.2.2.2.2
  obtain ⟨d1, -, -, d4⟩ := hd
  intro m
  induction m with
  | zero =>
    intro k hk hno
    refine zz_iload_1 C dX11_isWet_2 <| zz_aload_0 C dX11_isWet_3 <| zz_getR C fX11_20 (tM_K hT) (tM_R_told hT) dX11_isWet_4 <| zz_iconst_4 C dX11_isWet_7 <| zc_iaload C 4 (tM_K_told hT) (zlit _ (by decide)) (by decide) dX11_isWet_8 <| zpc 9 rfl <| ?_
    rw [hl4]
    refine zz_icmp_ge C 40 dX11_isWet_9 (by decide) (fun c9 => ?_) (fun c9 => ?_)
    · refine zz_iconst_0 C dX11_isWet_40 <| zpc 41 rfl <| ?_
      exact zf_zreturn C hE (zle rfl) (zle rfl) dX11_isWet_41 (by decide) (by exact (hf0 (fun q => by obtain ⟨j, hj, he⟩ := q.2; exact hno j (by omega) he)).symm) rfl rfl
    · exact absurd (nI_le (by omega) (by omega)) c9
  | succ m ih =>
    intro k hk hno
    have hwk := hlw k (by omega)
    have hwb := hwt k (by omega)
    refine zz_iload_1 C dX11_isWet_2 <| zz_aload_0 C dX11_isWet_3 <| zz_getR C fX11_20 (tM_K hT) (tM_R_told hT) dX11_isWet_4 <| zz_iconst_4 C dX11_isWet_7 <| zc_iaload C 4 (tM_K_told hT) (zlit _ (by decide)) (by decide) dX11_isWet_8 <| zpc 9 rfl <| ?_
    rw [hl4]
    refine zz_icmp_ge C 40 dX11_isWet_9 (by decide) (fun c9 => ?_) (fun c9 => ?_)
    · exact absurd c9 (nI_ge (by omega) (by omega))
    · refine zz_aload_0 C dX11_isWet_12 <| zz_getI C fX11_274 (tM_K hT) dX11_isWet_13 <| zpc 16 rfl <| ?_
      rw [hdry]
      refine zz_if_ne C 40 dX11_isWet_16 (by decide) (fun c16 => ?_) (fun c16 => ?_)
      · refine zz_iconst_0 C dX11_isWet_40 <| zpc 41 rfl <| ?_
        exact zf_zreturn C hE (zle rfl) (zle rfl) dX11_isWet_41 (by decide) (by exact (hf0 (fun q => by rw [zb_ne0] at c16; rw [q.1] at c16; exact absurd c16 (by decide))).symm) rfl rfl
      · rw [zb_eq0] at c16
        refine zz_aload_0 C dX11_isWet_19 <| zz_getR C fX11_26 (tM_K hT) (tM_R_wet hT) dX11_isWet_20 <| zz_iload_1 C dX11_isWet_23 <| zc_iaload C _ (tM_K_wet hT) (znI (by omega)) (by omega) dX11_isWet_24 <| zpc 25 rfl <| ?_
        rw [hwk]
        refine zz_aload_0 C dX11_isWet_25 <| zz_getI C fX11_230 (tM_K hT) dX11_isWet_26 <| zpc 29 rfl <| ?_
        rw [d1]
        refine zz_icmp_ne C 34 dX11_isWet_29 (by decide) (fun c29 => ?_) (fun c29 => ?_)
        · refine zz_iinc_1 C _ (zle rfl) rfl dX11_isWet_34 nI_s <| zz_goto C 2 dX11_isWet_37 (by decide) <| zpc 2 rfl <| ?_
          refine ih (k + 1) (by omega) (fun j hj => ?_)
          rw [nI_eq (by omega) (by omega)] at c29
          by_cases hjk : j = k
          · rw [hjk]; exact c29
          · exact hno j (by omega)
        · refine zz_iconst_1 C dX11_isWet_32 <| zpc 33 rfl <| ?_
          refine zf_zreturn C hE (zle rfl) (zle rfl) dX11_isWet_33 (by decide) ?_ rfl rfl
          rw [nI_eq (by omega) (by omega)] at c29
          exact (hf1 ⟨by simpa using c16, k, by omega, c29⟩).symm
theorem c_isWet {l : Launch} (hT : zTM t) (hL : lOkL L) (hl : mLd h L) (hp : mPl h p) (hd : mTm h day gone) (dc : Decidable (dWet L day)) : zMet E b l yX11_isWet cX11_isWet 2 (some .boolean) 1 0 0 [.ref (b + 157)] t h (qIf (nI (rainy L p day dc)) t h) := by
  refine zMet.of (ls := [some (.ref (b + 157)), none]) (by decide) (zle rfl) 1 rfl ?_
  intro G hlG C hR hE hin
  refine zz_iconst_0 C dX11_isWet_0 <| zz_istore_1 C (zle rfl) rfl dX11_isWet_1 <| zpc 2 rfl <| ?_
  refine l_wet hT hL hl hp hd C hE (fun q => ?_) (fun q => ?_) L.1.2.2 0 (by omega) (fun j hj => absurd hj (by omega))
  · unfold rainy; rw [if_neg (by rw [q.1]; decide), if_pos q.2]; rfl
  · unfold rainy
    split
    · rfl
    · rename_i z
      rw [if_neg (fun y => q ⟨by simpa using z, y⟩)]; rfl
end MT
