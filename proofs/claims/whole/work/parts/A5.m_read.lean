/-! ===== the reference: bytes, blanks, numbers, words ===== -/
def txOk (B : Nat → Nat) (n : Nat) : Prop := n ≤ 600 ∧ ∀ i, i < n → B i < 256
/-- the byte at k, -1 past the end -/
def bA (B : Nat → Nat) (n k : Nat) : Int32 := if k < n then nI (B k) else -1
theorem bA_in {B : Nat → Nat} {n k : Nat} (h : k < n) : bA B n k = nI (B k) := if_pos h
theorem bA_out {B : Nat → Nat} {n k : Nat} (h : ¬ k < n) : bA B n k = -1 := if_neg h
theorem m1_no (c : Nat) (hc : c < 2 ^ 31) : ¬ nI c ≤ -1 ∧ ¬ (-1 : Int32) = nI c := by
  have e9 : (-1 : Int32).toInt = -1 := rfl
  refine ⟨fun z => ?_, fun z => ?_⟩
  · rw [Int32.le_iff_toInt_le, nI_toInt hc, e9] at z; omega
  · have := congrArg Int32.toInt z
    rw [nI_toInt hc, e9] at this; omega
theorem bA_eq {B : Nat → Nat} {n k c : Nat} (ht : txOk B n) (hc : c < 2 ^ 31) : bA B n k = nI c ↔ k < n ∧ B k = c := by
  by_cases h : k < n
  · have := ht.2 k h
    rw [bA_in h, nI_eq (by omega) hc]
    exact ⟨fun z => ⟨h, z⟩, fun z => z.2⟩
  · rw [bA_out h]
    exact ⟨fun z => absurd z (m1_no c hc).2, fun z => absurd z.1 h⟩
theorem bA_ge {B : Nat → Nat} {n k c : Nat} (ht : txOk B n) (hc : c < 2 ^ 31) : nI c ≤ bA B n k ↔ k < n ∧ c ≤ B k := by
  by_cases h : k < n
  · have := ht.2 k h
    rw [bA_in h, nI_leI hc (by omega)]
    exact ⟨fun z => ⟨h, z⟩, fun z => z.2⟩
  · rw [bA_out h]
    exact ⟨fun z => absurd z (m1_no c hc).1, fun z => absurd z.1 h⟩
theorem bA_dg {B : Nat → Nat} {n k : Nat} (ht : txOk B n) : ((48 : Int32) ≤ bA B n k ∧ bA B n k ≤ 57) ↔ k < n ∧ isDg B k = true := by
  rw [show (48 : Int32) = nI 48 from rfl, show (57 : Int32) = nI 57 from rfl, bA_ge ht (by omega)]
  unfold isDg
  rw [decide_eq_true_iff]
  constructor
  · rintro ⟨⟨h1, h2⟩, h3⟩
    have := ht.2 k h1
    rw [bA_in h1, nI_leI (by omega) (by omega)] at h3
    exact ⟨h1, h2, h3⟩
  · rintro ⟨h1, h2, h3⟩
    have := ht.2 k h1
    refine ⟨⟨h1, h2⟩, ?_⟩
    rw [bA_in h1, nI_leI (by omega) (by omega)]
    exact h3
theorem nI_leS {x u : Nat} (hx : x < 2 ^ 30) (hu : u < 2 ^ 30) : nI x ≤ nI u - 1 ↔ x < u := by
  rw [Int32.le_iff_toInt_le, nI_toInt (by omega), show (1 : Int32) = nI 1 from rfl, sub_int hu (by omega)]
  omega
def mTx (h : zH) (B : Nat → Nat) (n : Nat) : Prop := zI h 157 2 = nI n ∧ ∀ i, i < n → zI h 158 i = nI (B i)
/-- where the reading stands -/
def mAt (h : zH) (st : yT) (n : Nat) : Prop := match st with
  | .inl f => zI h 157 5 = nI f.1 ∧ 1 ≤ f.1 ∧ f.1 ≤ 4 ∧ zI h 157 6 = nI f.2 ∧ ∃ k, k ≤ n ∧ zI h 157 4 = nI k
  | .inr k => zI h 157 5 = 0 ∧ zI h 157 4 = nI k ∧ k ≤ n ∧ zI h 157 6 = -1
/-- moved on, the rest as it was -/
def mMv (h : zH) (p : Nat) (h' : zH) : Prop := zI h' 157 4 = nI p ∧ (∀ i j, ¬ (i = 157 ∧ j = 4) → zI h' i j = zI h i j) ∧ ∀ i j, zL h' i j = zL h i j
def zAgR (h h' : zH) : Prop := (∀ i j, ¬ (i = 157 ∧ (j = 4 ∨ j = 5 ∨ j = 6)) → zI h' i j = zI h i j) ∧ ∀ i j, zL h' i j = zL h i j
theorem zAgR.rf (h : zH) : zAgR h h := ⟨fun _ _ _ => rfl, fun _ _ => rfl⟩
theorem zAgR.tr {h h1 h2 : zH} (a : zAgR h h1) (c : zAgR h1 h2) : zAgR h h2 := ⟨fun i k q => (c.1 i k q).trans (a.1 i k q), fun i k => (c.2 i k).trans (a.2 i k)⟩
theorem zAgR.sI {h h' : zH} (a : zAgR h h') {j : Nat} {v : Int32} (hs : j = 4 ∨ j = 5 ∨ j = 6) : zAgR h (zsI h' 157 j v) := ⟨fun i q hn => by
  rw [zI_sI, if_neg (fun z => hn ⟨z.1, by rw [z.2]; exact hs⟩)]
  exact a.1 i q hn, a.2⟩
theorem mMv.ag {h h' : zH} {p : Nat} (a : mMv h p h') : zAgR h h' := ⟨fun i j z => a.2.1 i j (fun y => z ⟨y.1, Or.inl y.2⟩), a.2.2⟩
theorem mTx.ag {h h' : zH} {B : Nat → Nat} {n : Nat} (a : zAgR h h') (hx : mTx h B n) : mTx h' B n := ⟨by rw [a.1 _ _ (by omega)]; exact hx.1, fun i hi => by rw [a.1 _ _ (by omega)]; exact hx.2 i hi⟩
theorem mMv.nx {h h' : zH} {p : Nat} (a : mMv h p h') (q : Nat) : mMv h q (zsI h' 157 4 (nI q)) := ⟨zI_self _ _ _ _, fun i j z => by rw [zI_sI, if_neg z]; exact a.2.1 i j z, a.2.2⟩
section MRD
variable {E : zE} {b : Nat} {G : zG} {t : zT} {h : zH} {l : Launch} {B : Nat → Nat} {n : Nat}
theorem c_byteAt (hT : zTM t) (ht : txOk B n) (hx : mTx h B n) (k : Nat) (hk : k < 2 ^ 30) : zMet E b l yX11_byteAt cX11_byteAt 2 (some .int) 1 0 0 [.ref (b + 157), .int (nI k)] t h (qIf (bA B n k) t h) := by
  have hn := ht.1
  have hxk : k < n → _ := hx.2 k
  refine zMet.of (ls := [some (.ref (b + 157)), some (.int (nI k))]) (by decide) (zle rfl) 0 rfl ?_
  intro G hlG C hR hE hin
  refine zz_iload_1 C dX11_byteAt_0 <| zz_aload_0 C dX11_byteAt_1 <| zz_getI C fX11_110 (tM_K hT) dX11_byteAt_2 <| zpc 5 rfl <| ?_
  rw [hx.1]
  refine zz_icmp_lt C 12 dX11_byteAt_5 (by decide) (fun c5 => ?_) (fun c5 => ?_)
  · rw [nI_ltI (by omega) (by omega)] at c5
    refine zz_aload_0 C dX11_byteAt_12 <| zz_getR C fX11_13 (tM_K hT) (tM_R_fed hT) dX11_byteAt_13 <| zz_iload_1 C dX11_byteAt_16 <| zc_iaload C _ (tM_K_fed hT) (znI (by omega)) (by omega) dX11_byteAt_17 <| zpc 18 rfl <| ?_
    first
    | rw [hxk c5]
    | skip
    refine zf_ireturn C hE (zle rfl) (zle rfl) dX11_byteAt_18 ?_ rfl rfl
    first
    | exact (bA_out c5).symm
    | exact (bA_in c5).symm
  · rw [nI_ltI (by omega) (by omega)] at c5
    refine zz_iconst_m1 C dX11_byteAt_8 <| zz_goto C 18 dX11_byteAt_9 (by decide) <| zpc 18 rfl <| ?_
    first
    | rw [hxk c5]
    | skip
    refine zf_ireturn C hE (zle rfl) (zle rfl) dX11_byteAt_18 ?_ rfl rfl
    first
    | exact (bA_out c5).symm
    | exact (bA_in c5).symm
theorem c_blanks (hT : zTM t) (ht : txOk B n) (hx : mTx h B n) (k : Nat) (hk : k ≤ n) (ha : zI h 157 4 = nI k) : zMet E b l yX11_blanks cX11_blanks 1 none 2 0 0 [.ref (b + 157)] t h (qV (fun t' h' => t' = t ∧ mMv h (sc (isBl B) n k) h')) := by
  have hn := ht.1
  refine zMet.of (ls := [some (.ref (b + 157))]) (by decide) (zle rfl) 0 rfl ?_
  intro G hlG C hR hE hin
  have lp : ∀ j, j ≤ n → ∀ hc, mMv h j hc → sc (isBl B) n j = sc (isBl B) n k → zAW E b G 1 0 0 0 [some (.ref (b + 157))] [] t hc := by
    refine zLoop n fun j hj ih hc mv ej => ?_
    refine zz_aload_0 C dX11_blanks_0 <| zz_aload_0 C dX11_blanks_1 <| zz_getI C fX11_113 (tM_K hT) dX11_blanks_2 <| zpc 5 rfl <| ?_
    rw [mv.1]
    refine zf_callVI C hR [_] (c_byteAt hT ht (hx.ag mv.ag) j (by omega)) lX11_116 rfl (tM_K hT) (by decide) rfl ⟨zle rfl, zle rfl, zle rfl, zle rfl⟩ (zle rfl) dX11_blanks_5 ?_
    refine zz_bipush C 32 dX11_blanks_8 (by decide) <| zpc 10 rfl <| ?_
    refine zz_icmp_ne C 26 dX11_blanks_10 (by decide) (fun c10 => ?_) (fun c10 => ?_)
    · rw [show (32 : Int32) = nI 32 from rfl, bA_eq ht (by omega)] at c10
      refine zy_return C hE (zle rfl) (zle rfl) dX11_blanks_26 ?_
      refine ⟨rfl, ?_⟩
      rw [← ej, sc_f (fun z => c10 ⟨z.1, of_decide_eq_true z.2⟩)]; exact mv
    · rw [show (32 : Int32) = nI 32 from rfl, bA_eq ht (by omega)] at c10
      refine zz_aload_0 C dX11_blanks_13 <| zz_dup C dX11_blanks_14 rfl <| zz_getI C fX11_113 (tM_K hT) dX11_blanks_15 <| zpc 18 rfl <| ?_
      rw [mv.1]
      refine zz_iconst_1 C dX11_blanks_18 <| zz_iadd C dX11_blanks_19 <| zpc 20 rfl <| ?_
      rw [show (1 : Int32) = nI 1 from rfl, nI_add]
      refine zy_putI C fX11_113 pX11_4 (tM_K hT) dX11_blanks_20 <| zz_goto C 0 dX11_blanks_23 (by decide) <| zpc 0 rfl <| ?_
      exact ih (by omega) _ (mv.nx (j + 1)) (by rw [← sc_t c10.1 (by unfold isBl; exact decide_eq_true c10.2)]; exact ej)
  exact lp k hk h ⟨ha, fun _ _ _ => rfl, fun _ _ => rfl⟩ rfl
/-- where no blank stands -/
theorem c_blanks0 (hT : zTM t) (ht : txOk B n) (hx : mTx h B n) (k : Nat) (hk : k ≤ n) (ha : zI h 157 4 = nI k) (hs : sc (isBl B) n k = k) : zMet E b l yX11_blanks cX11_blanks 1 none 2 0 0 [.ref (b + 157)] t h (qVf t h) := by
  have hn := ht.1
  have hno : ¬ (k < n ∧ B k = 32) := fun z => by
    have := sc_end (isBl B) n k
    rw [hs] at this
    exact this ⟨z.1, by unfold isBl; exact decide_eq_true z.2⟩
  refine zMet.of (ls := [some (.ref (b + 157))]) (by decide) (zle rfl) 0 rfl ?_
  intro G hlG C hR hE hin
  refine zz_aload_0 C dX11_blanks_0 <| zz_aload_0 C dX11_blanks_1 <| zz_getI C fX11_113 (tM_K hT) dX11_blanks_2 <| zpc 5 rfl <| ?_
  rw [ha]
  refine zf_callVI C hR [_] (c_byteAt hT ht hx k (by omega)) lX11_116 rfl (tM_K hT) (by decide) rfl ⟨zle rfl, zle rfl, zle rfl, zle rfl⟩ (zle rfl) dX11_blanks_5 ?_
  refine zz_bipush C 32 dX11_blanks_8 (by decide) <| zpc 10 rfl <| ?_
  refine zz_icmp_ne C 26 dX11_blanks_10 (by decide) (fun c10 => ?_) (fun c10 => ?_)
  · exact zf_return C hE (zle rfl) (zle rfl) dX11_blanks_26 rfl rfl
  · rw [show (32 : Int32) = nI 32 from rfl, bA_eq ht (by omega)] at c10; exact absurd c10 hno
end MRD
