/-! ===== both: the tape is fed ===== -/
/-- a number's bytes, the highest first -/
def byteOf (v : Int32) (j : Nat) : Int32 := (v >>> ((24 - 8 * nI j) &&& 31)) &&& 255
theorem sh_and (v : BitVec 32) (n : Nat) (hn : n ≤ 24) : v.sshiftRight n &&& 255#32 = (v >>> n) &&& 255#32 := by
  apply BitVec.eq_of_getLsbD_eq
  intro i hi
  rw [BitVec.getLsbD_and, BitVec.getLsbD_and, BitVec.getLsbD_sshiftRight, BitVec.getLsbD_ushiftRight]
  by_cases h8 : i < 8
  · rw [if_pos (by omega), decide_eq_false (by omega)]; rfl
  · have e : (255#32).getLsbD i = false := by
      have : ∀ j, j < 32 → ¬ j < 8 → (255#32).getLsbD j = false := by decide
      exact this i hi h8
    rw [e, Bool.and_false, Bool.and_false]
theorem byte_u (v : Int32) : ∀ j, j < 4 → (v.toUInt32 >>> ((Int32.ofNat (24 - 8 * j)).toUInt32 &&& Int32.toUInt32 31)).toInt32 &&& 255 = byteOf v j := by
  intro j hj
  unfold byteOf
  have key : ∀ n : Nat, n ≤ 24 → ∀ (s u : Int32), ((s &&& 31).toBitVec.smod 32).toNat = n → ((u.toUInt32 &&& Int32.toUInt32 31).toBitVec % 32).toNat = n → (v.toUInt32 >>> (u.toUInt32 &&& Int32.toUInt32 31)).toInt32 &&& 255 = (v >>> (s &&& 31)) &&& 255 := by
    intro n hn s u hs hu
    apply Int32.toBitVec_inj.mp
    show (v.toBitVec >>> ((u.toUInt32 &&& Int32.toUInt32 31).toBitVec % 32)) &&& 255#32 = v.toBitVec.sshiftRight' ((s &&& 31).toBitVec.smod 32) &&& 255#32
    rw [show v.toBitVec.sshiftRight' ((s &&& 31).toBitVec.smod 32) = v.toBitVec.sshiftRight ((s &&& 31).toBitVec.smod 32).toNat from rfl, hs, show v.toBitVec >>> ((u.toUInt32 &&& Int32.toUInt32 31).toBitVec % 32) = v.toBitVec >>> ((u.toUInt32 &&& Int32.toUInt32 31).toBitVec % 32).toNat from rfl, hu]
    exact (sh_and _ _ hn).symm
  obtain rfl | rfl | rfl | rfl : j = 0 ∨ j = 1 ∨ j = 2 ∨ j = 3 := by omega
  · exact key 24 (by omega) _ _ (by decide) (by decide)
  · exact key 16 (by omega) _ _ (by decide) (by decide)
  · exact key 8 (by omega) _ _ (by decide) (by decide)
  · exact key 0 (by omega) _ _ (by decide) (by decide)
theorem byteOf_lt (v : Int32) (j : Nat) : ∃ k, k < 256 ∧ byteOf v j = nI k := by
  refine ⟨(byteOf v j).toBitVec.toNat, ?_, ?_⟩
  · show ((v >>> ((24 - 8 * nI j) &&& 31)).toBitVec &&& (255#32)).toNat < 256
    rw [BitVec.toNat_and]
    exact Nat.lt_of_le_of_lt Nat.and_le_right (by decide)
  · apply Int32.toBitVec_inj.mp
    show (byteOf v j).toBitVec = BitVec.ofNat 32 (byteOf v j).toBitVec.toNat
    rw [BitVec.ofNat_toNat]
    simp
/-- what a feeding puts on the tape -/
def feedB (a b c d e : Int32) (j : Nat) : Int32 := byteOf (if j < 4 then a else if j < 8 then b else if j < 12 then c else if j < 16 then d else e) (j % 4)
section FD
variable {E : zE} {b : Nat} {G : zG} {t : zT} {h : zH} {l : Launch} {a c e : Nat}
/-- the tape is longer by some, the rest as it was -/
def cTp (h : zH) (tp n : Nat) (f : Nat → Int32) (h' : zH) : Prop := (∀ i j, ¬ ((i = 1 ∧ j = 0) ∨ (i = 34 ∧ tp ≤ j)) → zI h' i j = zI h i j) ∧ (∀ i j, zL h' i j = zL h i j) ∧ zI h' 1 0 = nI (tp + n) ∧ ∀ j, j < n → zI h' 34 (tp + j) = f j
theorem cTp.step {tp n : Nat} {f : Nat → Int32} {hc : zH} (x : cTp h tp n f hc) {v : Int32} (hv : v = f n) : cTp h tp (n + 1) f (zsI (zsI hc 34 (tp + n) v) 1 0 (nI (tp + n + 1))) := by
  obtain ⟨x1, x2, x3, x4⟩ := x
  refine ⟨fun i j z => ?_, x2, zI_self _ _ _ _, fun j hj => ?_⟩
  · rw [zI_sI, if_neg (by omega), zI_sI, if_neg (by omega)]; exact x1 i j z
  · rw [zI_sI, if_neg (by omega), zI_sI]
    by_cases z : j = n
    · rw [if_pos ⟨rfl, by omega⟩, hv, z]
    · rw [if_neg (by omega)]; exact x4 j (by omega)
theorem c3_put (hX : zTX t a c e) {tp : Nat} (htp : tp + 4 ≤ 600) (h0 : zI h 1 0 = nI tp) (v : Int32) : zMet E b l yX3_putNumber cX3_putNumber 3 none 1 0 0 [.ref (b + 1), .int v] t h (qV (fun t' h' => t' = t ∧ cTp h tp 4 (byteOf v) h')) := by
  refine zMet.of (ls := [some (.ref (b + 1)), some (.int v), none]) (by decide) (zle rfl) 1 rfl ?_
  intro G hlG C hR hE hin
  have lp : ∀ k, k ≤ 4 → ∀ (hc : zH) (x : Int32), cTp h tp k (byteOf v) hc → x = Int32.ofInt (24 - 8 * (k : Int)) → zAW E b G 3 0 0 3 [some (.ref (b + 1)), some (.int v), some (.int x)] [] t hc := by
    refine zLoop 4 fun k hk ih hc x y ex => ?_
    have e1 : zI hc 1 0 = nI (tp + k) := y.2.2.1
    have e2 : ∀ w, zI (zsI hc 34 (tp + k) w) 1 0 = nI (tp + k) := fun w => by rw [zI_sI, if_neg (by omega)]; exact e1
    have ex2 : ∀ k : Nat, k < 4 → Int32.ofInt (24 - 8 * (k : Int)) = Int32.ofNat (24 - 8 * k) := by decide
    have ex3 : ∀ k : Nat, k < 4 → ¬ Int32.ofInt (24 - 8 * (k : Int)) < 0 := by decide
    have ex4 : ∀ k : Nat, k < 4 → Int32.ofInt (24 - 8 * (k : Int)) + Int32.ofInt (-8) = Int32.ofInt (24 - 8 * ((k + 1 : Nat) : Int)) := by decide
    have ex5 : Int32.ofInt (24 - 8 * ((4 : Nat) : Int)) < 0 := by decide
    refine zz_iload_2 C dX3_putNumber_3 <| zpc 4 rfl <| ?_
    refine zz_if_lt C 51 dX3_putNumber_4 (by decide) (fun c4 => ?_) (fun c4 => ?_)
    · refine zy_return C hE (zle rfl) (zle rfl) dX3_putNumber_51 ?_
      first
      | (have e9 : k = 4 := Classical.byContradiction (fun z => ex3 k (by omega) (by rw [← ex]; exact c4))
         subst e9
         exact ⟨rfl, y⟩)
      | (have e9 : k < 4 := Nat.lt_of_le_of_ne hk (fun z => c4 (by rw [ex, z]; exact ex5))
         rw [e1, show Int32.ofNat 600 = nI 600 from rfl, nI_leI (by omega) (by omega)] at c16
         omega)
    · refine zz_aload_0 C dX3_putNumber_7 <| zz_getI C fX3_9 (tX_K_reader hX) dX3_putNumber_8 <| zz_aload_0 C dX3_putNumber_11 <| zz_getR C fX3_28 (tX_K_reader hX) (tX_R_tape hX) dX3_putNumber_12 <| zz_alenI C (tX_K_tape hX) dX3_putNumber_15 <| zpc 16 rfl <| ?_
      refine zz_icmp_ge C 51 dX3_putNumber_16 (by decide) (fun c16 => ?_) (fun c16 => ?_)
      · refine zy_return C hE (zle rfl) (zle rfl) dX3_putNumber_51 ?_
        first
        | (have e9 : k = 4 := Classical.byContradiction (fun z => ex3 k (by omega) (by rw [← ex]; exact c4))
           subst e9
           exact ⟨rfl, y⟩)
        | (have e9 : k < 4 := Nat.lt_of_le_of_ne hk (fun z => c4 (by rw [ex, z]; exact ex5))
           rw [e1, show Int32.ofNat 600 = nI 600 from rfl, nI_leI (by omega) (by omega)] at c16
           omega)
      · have e9 : k < 4 := Nat.lt_of_le_of_ne hk (fun z => c4 (by rw [ex, z]; exact ex5))
        refine zz_aload_0 C dX3_putNumber_19 <| zz_getR C fX3_28 (tX_K_reader hX) (tX_R_tape hX) dX3_putNumber_20 <| zz_aload_0 C dX3_putNumber_23 <| zz_getI C fX3_9 (tX_K_reader hX) dX3_putNumber_24 <| zpc 27 rfl <| ?_
        rw [e1]
        refine zz_iload_1 C dX3_putNumber_27 <| zz_iload_2 C dX3_putNumber_28 <| zz_iushr C dX3_putNumber_29 <| zz_sipush C 255 dX3_putNumber_30 (by decide) <| zz_iand C dX3_putNumber_33 <| zpc 34 rfl <| ?_
        rw [ex, ex2 k e9, byte_u v k e9]
        refine zc_iastore C _ (tX_K_tape hX) (znI (by omega)) (by omega) dX3_putNumber_34 <| zz_aload_0 C dX3_putNumber_35 <| zz_dup C dX3_putNumber_36 rfl <| zz_getI C fX3_9 (tX_K_reader hX) dX3_putNumber_37 <| zpc 40 rfl <| ?_
        rw [e2]
        refine zz_iconst_1 C dX3_putNumber_40 <| zz_iadd C dX3_putNumber_41 <| zpc 42 rfl <| ?_
        rw [show (1 : Int32) = nI 1 from rfl, nI_add]
        refine zy_putI C fX3_9 pX3_0 (tX_K_reader hX) dX3_putNumber_42 <| zz_iinc_2 C _ (zle rfl) rfl dX3_putNumber_45 rfl <| zz_goto C 3 dX3_putNumber_48 (by decide) <| zpc 3 rfl <| ?_
        exact ih e9 _ _ (y.step rfl) (by rw [← ex2 k e9]; exact ex4 k e9)
  refine zz_bipush C 24 dX3_putNumber_0 (by decide) <| zz_istore_2 C (zle rfl) rfl dX3_putNumber_2 <| zpc 3 rfl <| ?_
  exact lp 0 (by omega) _ _ ⟨fun _ _ _ => rfl, fun _ _ => rfl, h0, fun j hj => absurd hj (by omega)⟩ rfl
theorem cTp.four {tp n : Nat} {F g : Nat → Int32} {h1 h2 : zH} (x : cTp h tp n F h1) (y : cTp h1 (tp + n) 4 g h2) (hg : ∀ j, j < 4 → g j = F (n + j)) : cTp h tp (n + 4) F h2 := by
  obtain ⟨x1, x2, x3, x4⟩ := x
  obtain ⟨y1, y2, y3, y4⟩ := y
  refine ⟨fun i j z => (y1 i j (by omega)).trans (x1 i j z), fun i j => (y2 i j).trans (x2 i j), by rw [y3, Nat.add_assoc], fun j hj => ?_⟩
  by_cases z : j < n
  · rw [y1 _ _ (by omega)]; exact x4 j z
  · have := y4 (j - n) (by omega)
    rw [show tp + n + (j - n) = tp + j by omega, hg (j - n) (by omega), show n + (j - n) = j by omega] at this
    exact this
theorem c10_feed1 (hX : zTX t a c e) {tp : Nat} (htp : tp + 20 ≤ 600) (h0 : zI h 1 0 = nI tp) (u v w x y : Int32) : zMet E b l yX10_feed cX10_feed 6 (some .int) 2 0 0 [.ref (b + 0), .int u, .int v, .int w, .int x, .int y] t h (qI (fun r t' h' => r = nI (tp + 20) ∧ t' = t ∧ cTp h tp 20 (feedB u v w x y) h')) := by
  have z0 : cTp h tp 0 (feedB u v w x y) h := ⟨fun _ _ _ => rfl, fun _ _ => rfl, h0, fun j hj => absurd hj (by omega)⟩
  have q0 : ∀ j, j < 4 → byteOf u j = feedB u v w x y (0 + j) := fun j hj => by unfold feedB; rw [if_pos (by omega), show (0 + j) % 4 = j by omega]
  have q1 : ∀ j, j < 4 → byteOf v j = feedB u v w x y (4 + j) := fun j hj => by unfold feedB; rw [if_neg (by omega), if_pos (by omega), show (4 + j) % 4 = j by omega]
  have q2 : ∀ j, j < 4 → byteOf w j = feedB u v w x y (8 + j) := fun j hj => by unfold feedB; rw [if_neg (by omega), if_neg (by omega), if_pos (by omega), show (8 + j) % 4 = j by omega]
  have q3 : ∀ j, j < 4 → byteOf x j = feedB u v w x y (12 + j) := fun j hj => by unfold feedB; rw [if_neg (by omega), if_neg (by omega), if_neg (by omega), if_pos (by omega), show (12 + j) % 4 = j by omega]
  have q4 : ∀ j, j < 4 → byteOf y j = feedB u v w x y (16 + j) := fun j hj => by unfold feedB; rw [if_neg (by omega), if_neg (by omega), if_neg (by omega), if_neg (by omega), show (16 + j) % 4 = j by omega]
  refine zMet.of (ls := [some (.ref (b + 0)), some (.int u), some (.int v), some (.int w), some (.int x), some (.int y)]) (by decide) (zle rfl) 0 rfl ?_
  intro G hlG C hR hE hin
  refine zz_aload_0 C dX10_feed_0 <| zz_getR C fX10_10 (tX_K_X hX) (tX_R_reader hX) dX10_feed_1 <| zz_getI C fX10_70 (tX_K_reader hX) dX10_feed_4 <| zpc 7 rfl <| ?_
  rw [h0]
  refine zz_bipush C 20 dX10_feed_7 (by decide) <| zz_iadd C dX10_feed_9 <| zpc 10 rfl <| ?_
  rw [show (20 : Int32) = nI 20 from rfl, nI_add]
  refine zz_sipush C 600 dX10_feed_10 (by decide) <| zpc 13 rfl <| ?_
  refine zz_icmp_le C 18 dX10_feed_13 (by decide) (fun c13 => ?_) (fun c13 => ?_)
  · refine zz_aload_0 C dX10_feed_18 <| zz_getR C fX10_10 (tX_K_X hX) (tX_R_reader hX) dX10_feed_19 <| zz_iload_1 C dX10_feed_22 <| zpc 23 rfl <| ?_
    refine zy_callVV C hR [_] (c3_put hX (tp := tp + 0) (by omega) h0 u) lX10_73 rfl (tX_K_reader hX) (by decide) rfl ⟨zle rfl, zle rfl, zle rfl, zle rfl⟩ (zle rfl) dX10_feed_23 ?_
    intro t1 h1 hv; obtain ⟨rfl, y1⟩ := hv; have z1 := z0.four y1 q0
    refine zz_aload_0 C dX10_feed_26 <| zz_getR C fX10_10 (tX_K_X hX) (tX_R_reader hX) dX10_feed_27 <| zz_iload_2 C dX10_feed_30 <| zpc 31 rfl <| ?_
    refine zy_callVV C hR [_] (c3_put hX (tp := tp + 4) (by omega) z1.2.2.1 v) lX10_73 rfl (tX_K_reader hX) (by decide) rfl ⟨zle rfl, zle rfl, zle rfl, zle rfl⟩ (zle rfl) dX10_feed_31 ?_
    intro t1 h2 hv; obtain ⟨rfl, y2⟩ := hv; have z2 := z1.four y2 q1
    refine zz_aload_0 C dX10_feed_34 <| zz_getR C fX10_10 (tX_K_X hX) (tX_R_reader hX) dX10_feed_35 <| zz_iload_3 C dX10_feed_38 <| zpc 39 rfl <| ?_
    refine zy_callVV C hR [_] (c3_put hX (tp := tp + 8) (by omega) z2.2.2.1 w) lX10_73 rfl (tX_K_reader hX) (by decide) rfl ⟨zle rfl, zle rfl, zle rfl, zle rfl⟩ (zle rfl) dX10_feed_39 ?_
    intro t1 h3 hv; obtain ⟨rfl, y3⟩ := hv; have z3 := z2.four y3 q2
    refine zz_aload_0 C dX10_feed_42 <| zz_getR C fX10_10 (tX_K_X hX) (tX_R_reader hX) dX10_feed_43 <| zz_iload_4 C dX10_feed_46 <| zpc 48 rfl <| ?_
    refine zy_callVV C hR [_] (c3_put hX (tp := tp + 12) (by omega) z3.2.2.1 x) lX10_73 rfl (tX_K_reader hX) (by decide) rfl ⟨zle rfl, zle rfl, zle rfl, zle rfl⟩ (zle rfl) dX10_feed_48 ?_
    intro t1 h4 hv; obtain ⟨rfl, y4⟩ := hv; have z4 := z3.four y4 q3
    refine zz_aload_0 C dX10_feed_51 <| zz_getR C fX10_10 (tX_K_X hX) (tX_R_reader hX) dX10_feed_52 <| zz_iload_5 C dX10_feed_55 <| zpc 57 rfl <| ?_
    refine zy_callVV C hR [_] (c3_put hX (tp := tp + 16) (by omega) z4.2.2.1 y) lX10_73 rfl (tX_K_reader hX) (by decide) rfl ⟨zle rfl, zle rfl, zle rfl, zle rfl⟩ (zle rfl) dX10_feed_57 ?_
    intro t1 h5 hv; obtain ⟨rfl, y5⟩ := hv; have z5 := z4.four y5 q4
    refine zz_aload_0 C dX10_feed_60 <| zz_getR C fX10_10 (tX_K_X hX) (tX_R_reader hX) dX10_feed_61 <| zz_getI C fX10_70 (tX_K_reader hX) dX10_feed_64 <| zpc 67 rfl <| ?_
    refine zy_ireturn C hE (zle rfl) (zle rfl) dX10_feed_67 ?_
    exact ⟨z5.2.2.1, rfl, z5⟩
  · rw [show (600 : Int32) = nI 600 from rfl, nI_leI (by omega) (by omega)] at c13; omega
theorem c10_feed2 (hX : zTX t a c e) {tp : Nat} (htp : 600 < tp + 20) (ht2 : tp ≤ 600) (h0 : zI h 1 0 = nI tp) (u v w x y : Int32) : zMet E b l yX10_feed cX10_feed 6 (some .int) 2 0 0 [.ref (b + 0), .int u, .int v, .int w, .int x, .int y] t h (qIf (-1) t h) := by
  refine zMet.of (ls := [some (.ref (b + 0)), some (.int u), some (.int v), some (.int w), some (.int x), some (.int y)]) (by decide) (zle rfl) 0 rfl ?_
  intro G hlG C hR hE hin
  refine zz_aload_0 C dX10_feed_0 <| zz_getR C fX10_10 (tX_K_X hX) (tX_R_reader hX) dX10_feed_1 <| zz_getI C fX10_70 (tX_K_reader hX) dX10_feed_4 <| zpc 7 rfl <| ?_
  rw [h0]
  refine zz_bipush C 20 dX10_feed_7 (by decide) <| zz_iadd C dX10_feed_9 <| zpc 10 rfl <| ?_
  rw [show (20 : Int32) = nI 20 from rfl, nI_add]
  refine zz_sipush C 600 dX10_feed_10 (by decide) <| zpc 13 rfl <| ?_
  refine zz_icmp_le C 18 dX10_feed_13 (by decide) (fun c13 => ?_) (fun c13 => ?_)
  · rw [show (600 : Int32) = nI 600 from rfl, nI_leI (by omega) (by omega)] at c13; omega
  · refine zz_iconst_m1 C dX10_feed_16 <| zpc 17 rfl <| ?_
    exact zf_ireturn C hE (zle rfl) (zle rfl) dX10_feed_17 rfl rfl rfl
end FD
section FM
variable {E : zE} {b : Nat} {G : zG} {t : zT} {h : zH} {l : Launch}
def mTp (h : zH) (tp n : Nat) (f : Nat → Int32) (h' : zH) : Prop := (∀ i j, ¬ ((i = 157 ∧ j = 1) ∨ (i = 158 ∧ tp ≤ j)) → zI h' i j = zI h i j) ∧ (∀ i j, zL h' i j = zL h i j) ∧ zI h' 157 1 = nI (tp + n) ∧ ∀ j, j < n → zI h' 158 (tp + j) = f j
theorem mTp.step {tp n : Nat} {f : Nat → Int32} {hc : zH} (x : mTp h tp n f hc) {v : Int32} (hv : v = f n) : mTp h tp (n + 1) f (zsI (zsI hc 158 (tp + n) v) 157 1 (nI (tp + n + 1))) := by
  obtain ⟨x1, x2, x3, x4⟩ := x
  refine ⟨fun i j z => ?_, x2, zI_self _ _ _ _, fun j hj => ?_⟩
  · rw [zI_sI, if_neg (by omega), zI_sI, if_neg (by omega)]; exact x1 i j z
  · rw [zI_sI, if_neg (by omega), zI_sI]
    by_cases z : j = n
    · rw [if_pos ⟨rfl, by omega⟩, hv, z]
    · rw [if_neg (by omega)]; exact x4 j (by omega)
theorem c_feed2 (hT : zTM t) {tp : Nat} (htp : 600 < tp + 20) (ht2 : tp ≤ 600) (h0 : zI h 157 1 = nI tp) (u v w x y : Int32) : zMet E b l yX11_feed cX11_feed 8 (some .int) 1 0 0 [.ref (b + 157), .int u, .int v, .int w, .int x, .int y] t h (qIf (-1) t (zsI h 157 0 0)) := by
  have h1 : zI (zsI h 157 0 0) 157 1 = nI tp := by rw [zI_sI, if_neg (by omega)]; exact h0
  refine zMet.of (ls := [some (.ref (b + 157)), some (.int u), some (.int v), some (.int w), some (.int x), some (.int y), none, none]) (by decide) (zle rfl) 2 rfl ?_
  intro G hlG C hR hE hin
  refine zz_aload_0 C dX11_feed_0 <| zz_iconst_0 C dX11_feed_1 <| zy_putI C fX11_104 pX11_0 (tM_K hT) dX11_feed_2 <| zz_aload_0 C dX11_feed_5 <| zz_getI C fX11_107 (tM_K hT) dX11_feed_6 <| zpc 9 rfl <| ?_
  rw [h1]
  refine zz_bipush C 20 dX11_feed_9 (by decide) <| zz_iadd C dX11_feed_11 <| zpc 12 rfl <| ?_
  rw [show (20 : Int32) = nI 20 from rfl, nI_add]
  refine zz_sipush C 600 dX11_feed_12 (by decide) <| zpc 15 rfl <| ?_
  refine zz_icmp_le C 20 dX11_feed_15 (by decide) (fun c15 => ?_) (fun c15 => ?_)
  · rw [show (600 : Int32) = nI 600 from rfl, nI_leI (by omega) (by omega)] at c15; omega
  · refine zz_iconst_m1 C dX11_feed_18 <| zpc 19 rfl <| ?_
    exact zf_ireturn C hE (zle rfl) (zle rfl) dX11_feed_19 rfl rfl rfl
theorem c_feed1 (hT : zTM t) {tp : Nat} (htp : tp + 20 ≤ 600) (h0 : zI h 157 1 = nI tp) (u v w x y : Int32) : zMet E b l yX11_feed cX11_feed 8 (some .int) 1 0 0 [.ref (b + 157), .int u, .int v, .int w, .int x, .int y] t h (qI (fun r t' h' => r = nI (tp + 20) ∧ t' = t ∧ mTp (zsI h 157 0 0) tp 20 (feedB u v w x y) h')) := by
  have h1 : zI (zsI h 157 0 0) 157 1 = nI tp := by rw [zI_sI, if_neg (by omega)]; exact h0
  refine zMet.of (ls := [some (.ref (b + 157)), some (.int u), some (.int v), some (.int w), some (.int x), some (.int y), none, none]) (by decide) (zle rfl) 2 rfl ?_
  intro G hlG C hR hE hin
  have lp : ∀ k, k ≤ 20 → ∀ (hc : zH) (y7 : Option Value), mTp (zsI h 157 0 0) tp k (feedB u v w x y) hc → zAW E b G 8 0 0 23 [some (.ref (b + 157)), some (.int u), some (.int v), some (.int w), some (.int x), some (.int y), some (.int (nI k)), y7] [] t hc := by
    refine zLoop 20 fun k hk ih hc y7 z => ?_
    have e1 : zI hc 157 1 = nI (tp + k) := z.2.2.1
    have e2 : ∀ w, zI (zsI hc 158 (tp + k) w) 157 1 = nI (tp + k) := fun w => by rw [zI_sI, if_neg (by omega)]; exact e1
    have s76 : k < 20 → ∀ p : Int32, p = (if k < 4 then u else if k < 8 then v else if k < 12 then w else if k < 16 then x else y) → zAW E b G 8 0 0 76 [some (.ref (b + 157)), some (.int u), some (.int v), some (.int w), some (.int x), some (.int y), some (.int (nI k)), y7] [.int p] t hc := by
      intro hk2 p ep
      have er : nI k - nI k / 4 * 4 = nI (k % 4) := by
        have : ∀ k : Nat, k < 20 → nI k - nI k / 4 * 4 = nI (k % 4) := by decide
        exact this k hk2
      refine zz_istore_7 C (zle rfl) rfl dX11_feed_76 <| zz_aload_0 C dX11_feed_78 <| zz_getR C fX11_13 (tM_K hT) (tM_R_fed hT) dX11_feed_79 <| zz_aload_0 C dX11_feed_82 <| zz_getI C fX11_107 (tM_K hT) dX11_feed_83 <| zpc 86 rfl <| ?_
      rw [e1]
      refine zz_iload_7 C dX11_feed_86 <| zz_bipush C 24 dX11_feed_88 (by decide) <| zz_bipush C 8 dX11_feed_90 (by decide) <| zz_iload_6 C dX11_feed_92 <| zz_iconst_4 C dX11_feed_94 <| zz_irem C dX11_feed_95 (by decide) <| zpc 96 rfl <| ?_
      rw [er]
      refine zz_imul C dX11_feed_96 <| zz_isub C dX11_feed_97 <| zz_ishr C dX11_feed_98 <| zz_sipush C 255 dX11_feed_99 (by decide) <| zz_iand C dX11_feed_102 <| zc_iastore C _ (tM_K_fed hT) (znI (by omega)) (by omega) dX11_feed_103 <| zz_aload_0 C dX11_feed_104 <| zz_dup C dX11_feed_105 rfl <| zz_getI C fX11_107 (tM_K hT) dX11_feed_106 <| zpc 109 rfl <| ?_
      rw [e2]
      refine zz_iconst_1 C dX11_feed_109 <| zz_iadd C dX11_feed_110 <| zpc 111 rfl <| ?_
      rw [show (1 : Int32) = nI 1 from rfl, nI_add]
      refine zy_putI C fX11_107 pX11_1 (tM_K hT) dX11_feed_111 <| zz_iinc_6 C _ (zle rfl) rfl dX11_feed_114 nI_s <| zz_goto C 23 dX11_feed_117 (by decide) <| zpc 23 rfl <| ?_
      exact ih hk2 _ _ (z.step (by unfold feedB; rw [← ep]; rfl))
    refine zz_iload_6 C dX11_feed_23 <| zz_bipush C 20 dX11_feed_25 (by decide) <| zpc 27 rfl <| ?_
    refine zz_icmp_ge C 120 dX11_feed_27 (by decide) (fun c27 => ?_) (fun c27 => ?_)
    · rw [show (20 : Int32) = nI 20 from rfl, nI_leI (by omega) (by omega)] at c27
      refine zz_aload_0 C dX11_feed_120 <| zz_getI C fX11_107 (tM_K hT) dX11_feed_121 <| zpc 124 rfl <| ?_
      refine zy_ireturn C hE (zle rfl) (zle rfl) dX11_feed_124 ?_
      rw [show k = 20 by omega] at z; exact ⟨z.2.2.1, rfl, z⟩
    · rw [show (20 : Int32) = nI 20 from rfl, nI_leI (by omega) (by omega)] at c27
      refine zz_iload_6 C dX11_feed_30 <| zz_iconst_4 C dX11_feed_32 <| zpc 33 rfl <| ?_
      refine zz_icmp_ge C 40 dX11_feed_33 (by decide) (fun c33 => ?_) (fun c33 => ?_)
      · rw [show (4 : Int32) = nI 4 from rfl, nI_leI (by omega) (by omega)] at c33
        refine zz_iload_6 C dX11_feed_40 <| zz_bipush C 8 dX11_feed_42 (by decide) <| zpc 44 rfl <| ?_
        refine zz_icmp_ge C 51 dX11_feed_44 (by decide) (fun c44 => ?_) (fun c44 => ?_)
        · rw [show (8 : Int32) = nI 8 from rfl, nI_leI (by omega) (by omega)] at c44
          refine zz_iload_6 C dX11_feed_51 <| zz_bipush C 12 dX11_feed_53 (by decide) <| zpc 55 rfl <| ?_
          refine zz_icmp_ge C 62 dX11_feed_55 (by decide) (fun c55 => ?_) (fun c55 => ?_)
          · rw [show (12 : Int32) = nI 12 from rfl, nI_leI (by omega) (by omega)] at c55
            refine zz_iload_6 C dX11_feed_62 <| zz_bipush C 16 dX11_feed_64 (by decide) <| zpc 66 rfl <| ?_
            refine zz_icmp_ge C 74 dX11_feed_66 (by decide) (fun c66 => ?_) (fun c66 => ?_)
            · rw [show (16 : Int32) = nI 16 from rfl, nI_leI (by omega) (by omega)] at c66
              refine zz_iload_5 C dX11_feed_74 <| zpc 76 rfl <| ?_
              refine s76 (by omega) _ ?_
              first
                | rw [if_pos (by omega)]
                | rw [if_neg (by omega), if_pos (by omega)]
                | rw [if_neg (by omega), if_neg (by omega), if_pos (by omega)]
                | rw [if_neg (by omega), if_neg (by omega), if_neg (by omega), if_pos (by omega)]
                | rw [if_neg (by omega), if_neg (by omega), if_neg (by omega), if_neg (by omega)]
            · rw [show (16 : Int32) = nI 16 from rfl, nI_leI (by omega) (by omega)] at c66
              refine zz_iload_4 C dX11_feed_69 <| zz_goto C 76 dX11_feed_71 (by decide) <| zpc 76 rfl <| ?_
              refine s76 (by omega) _ ?_
              first
                | rw [if_pos (by omega)]
                | rw [if_neg (by omega), if_pos (by omega)]
                | rw [if_neg (by omega), if_neg (by omega), if_pos (by omega)]
                | rw [if_neg (by omega), if_neg (by omega), if_neg (by omega), if_pos (by omega)]
                | rw [if_neg (by omega), if_neg (by omega), if_neg (by omega), if_neg (by omega)]
          · rw [show (12 : Int32) = nI 12 from rfl, nI_leI (by omega) (by omega)] at c55
            refine zz_iload_3 C dX11_feed_58 <| zz_goto C 76 dX11_feed_59 (by decide) <| zpc 76 rfl <| ?_
            refine s76 (by omega) _ ?_
            first
              | rw [if_pos (by omega)]
              | rw [if_neg (by omega), if_pos (by omega)]
              | rw [if_neg (by omega), if_neg (by omega), if_pos (by omega)]
              | rw [if_neg (by omega), if_neg (by omega), if_neg (by omega), if_pos (by omega)]
              | rw [if_neg (by omega), if_neg (by omega), if_neg (by omega), if_neg (by omega)]
        · rw [show (8 : Int32) = nI 8 from rfl, nI_leI (by omega) (by omega)] at c44
          refine zz_iload_2 C dX11_feed_47 <| zz_goto C 76 dX11_feed_48 (by decide) <| zpc 76 rfl <| ?_
          refine s76 (by omega) _ ?_
          first
            | rw [if_pos (by omega)]
            | rw [if_neg (by omega), if_pos (by omega)]
            | rw [if_neg (by omega), if_neg (by omega), if_pos (by omega)]
            | rw [if_neg (by omega), if_neg (by omega), if_neg (by omega), if_pos (by omega)]
            | rw [if_neg (by omega), if_neg (by omega), if_neg (by omega), if_neg (by omega)]
      · rw [show (4 : Int32) = nI 4 from rfl, nI_leI (by omega) (by omega)] at c33
        refine zz_iload_1 C dX11_feed_36 <| zz_goto C 76 dX11_feed_37 (by decide) <| zpc 76 rfl <| ?_
        refine s76 (by omega) _ ?_
        first
          | rw [if_pos (by omega)]
          | rw [if_neg (by omega), if_pos (by omega)]
          | rw [if_neg (by omega), if_neg (by omega), if_pos (by omega)]
          | rw [if_neg (by omega), if_neg (by omega), if_neg (by omega), if_pos (by omega)]
          | rw [if_neg (by omega), if_neg (by omega), if_neg (by omega), if_neg (by omega)]
  refine zz_aload_0 C dX11_feed_0 <| zz_iconst_0 C dX11_feed_1 <| zy_putI C fX11_104 pX11_0 (tM_K hT) dX11_feed_2 <| zz_aload_0 C dX11_feed_5 <| zz_getI C fX11_107 (tM_K hT) dX11_feed_6 <| zpc 9 rfl <| ?_
  rw [h1]
  refine zz_bipush C 20 dX11_feed_9 (by decide) <| zz_iadd C dX11_feed_11 <| zpc 12 rfl <| ?_
  rw [show (20 : Int32) = nI 20 from rfl, nI_add]
  refine zz_sipush C 600 dX11_feed_12 (by decide) <| zpc 15 rfl <| ?_
  refine zz_icmp_le C 20 dX11_feed_15 (by decide) (fun c15 => ?_) (fun c15 => ?_)
  · refine zz_iconst_0 C dX11_feed_20 <| zz_istore_6 C (zle rfl) rfl dX11_feed_21 <| zpc 23 rfl <| ?_
    exact lp 0 (by omega) _ _ ⟨fun _ _ _ => rfl, fun _ _ => rfl, h1, fun j hj => absurd hj (by omega)⟩
  · rw [show (600 : Int32) = nI 600 from rfl, nI_leI (by omega) (by omega)] at c15; omega
end FM
