/-! ===== the class: what may be asked ===== -/
abbrev xA : String := "java/lang/IllegalArgumentException"
abbrev xR : String := "java/lang/IndexOutOfBoundsException"
abbrev xS : String := "java/lang/IllegalStateException"
abbrev xN : String := "java/util/NoSuchElementException"
section CDV
variable {E : zE} {b : Nat} {G : zG} {own : String} {cc : ByteArray} {nL : Nat} {rt : Option FieldType} {cells slots pc D MC MS : Nat} {t t0 : zT} {h h0 : zH} {ls : List (Option Value)} {y : MethodName} {cy : ByteArray} {mly : Nat} {rty : Option FieldType} {d mc ms na idx : Nat} {rest : List Value}
theorem zy_callSV {post : zT → zH → Prop} (C : zCx E b G own cc nL rt) (hR : zRoom G D MC MS) (As : List Value) (hM : zMet E b G.2.1 y cy mly rty d mc ms As t h (qV post)) (hL : zLS own idx y cy mly rty na) (hna : As.length = na) (hfit : zFitB d mly D cells mc MC slots ms MS) (hcat : (rest.map fun v => v.category).sum ≤ 8) (hd : decode cc pc = .ok (.invokestatic idx, 3))
    (kk : ∀ (t' : zT) (h' : zH), post t' h' → zAW E b G nL (cells + mc) (slots + ms) (pc + 3) ls rest t' h') : zAW E b G nL cells slots pc ls (As.reverse ++ rest) t h :=
  zz_callS C hR As hM hL hna hfit hcat hd (fun v t' h' hp => by obtain ⟨rfl, hp⟩ := hp; exact kk t' h' hp)
theorem zf_callSV (C : zCx E b G own cc nL rt) (hR : zRoom G D MC MS) (As : List Value) (hM : zMet E b G.2.1 y cy mly rty d mc ms As t h (qVf t0 h0)) (hL : zLS own idx y cy mly rty na) (hna : As.length = na) (hfit : zFitB d mly D cells mc MC slots ms MS) (hcat : (rest.map fun v => v.category).sum ≤ 8) (hd : decode cc pc = .ok (.invokestatic idx, 3))
    (kk : zAW E b G nL (cells + mc) (slots + ms) (pc + 3) ls rest t0 h0) : zAW E b G nL cells slots pc ls (As.reverse ++ rest) t h :=
  zy_callSV C hR As hM hL hna hfit hcat hd (fun t' h' hp => by obtain ⟨rfl, rfl⟩ := hp; exact kk)
end CDV
section CDM
variable {E : zE} {b : Nat} {G : zG} {t : zT} {h : zH} {l : Launch} {a c e : Nat}
theorem c10_demand1 (v : Int32) (hv : ¬ v = 0) : zMet E b l yX10_demand cX10_demand 1 none 6 0 0 [.int v] t h (qVf t h) := by
  refine zMet.of (ls := [some (.int v)]) (by decide) (zle rfl) 0 rfl ?_
  intro G hlG C hR hE hin
  refine zz_iload_0 C dX10_demand_0 <| zpc 1 rfl <| ?_
  refine zz_if_ne C 15 dX10_demand_1 (by decide) (fun c1 => ?_) (fun c1 => ?_)
  · exact zf_return C hE (zle rfl) (zle rfl) dX10_demand_15 rfl rfl
  · exact absurd c1 hv
theorem c10_demand0 (hlt : l.stackTraces = false) (hf : t.1.2 = false) : zMetX E b l yX10_demand cX10_demand 1 none 6 1 6 [.int 0] t h xA := by
  refine zMetX.of (ls := [some (.int 0)]) hlt (by decide) (zle rfl) 0 rfl ?_
  intro G hlG C hR hE
  rw [← hlG] at hlt
  refine zz_iload_0 C dX10_demand_0 <| zpc 1 rfl <| ?_
  refine zz_if_ne C 15 dX10_demand_1 (by decide) (fun c1 => ?_) (fun c1 => ?_)
  · exact absurd rfl c1
  · exact zx_throw C hR hE hf zXk_A (zle rfl) (zle rfl) (zle rfl) (zle rfl) (zle rfl) (zle rfl) dX10_demand_4 dX10_demand_7 dX10_demand_8 dX10_demand_11 dX10_demand_14
theorem c10_days1 (d : Nat) (h1 : 1 ≤ d) (h2 : d ≤ 366) : zMet E b l yX10_demandDays cX10_demandDays 1 none 7 0 0 [.int (nI d)] t h (qVf t h) := by
  refine zMet.of (ls := [some (.int (nI d))]) (by decide) (zle rfl) 0 rfl ?_
  intro G hlG C hR hE hin
  refine zz_iload_0 C dX10_demandDays_0 <| zz_iconst_1 C dX10_demandDays_1 <| zpc 2 rfl <| ?_
  refine zz_icmp_lt C 16 dX10_demandDays_2 (by decide) (fun c2 => ?_) (fun c2 => ?_)
  · exact absurd c2 (nI_nlt (b := 1) h1 (by omega))
  · refine zz_iload_0 C dX10_demandDays_5 <| zz_sipush C 366 dX10_demandDays_6 (by decide) <| zpc 9 rfl <| ?_
    refine zz_icmp_gt C 16 dX10_demandDays_9 (by decide) (fun c9 => ?_) (fun c9 => ?_)
    · exact absurd c9 (nI_nlt (a := 366) h2 (by omega))
    · refine zz_iconst_1 C dX10_demandDays_12 <| zz_goto C 17 dX10_demandDays_13 (by decide) <| zpc 17 rfl <| ?_
      refine zf_callSV C hR [_] (c10_demand1 _ (by decide)) lX10_76 rfl ⟨zle rfl, zle rfl, zle rfl, zle rfl⟩ (zle rfl) dX10_demandDays_17 ?_
      exact zf_return C hE (zle rfl) (zle rfl) dX10_demandDays_20 rfl rfl
theorem c10_days0 (hlt : l.stackTraces = false) (hf : t.1.2 = false) (d : Int32) (hd : ¬ ∃ k, 1 ≤ k ∧ k ≤ 366 ∧ d = nI k) : zMetX E b l yX10_demandDays cX10_demandDays 1 none 7 1 6 [.int d] t h xA := by
  have hd2 : ¬ (1 ≤ d ∧ d ≤ 366) := fun q => hd (daysOk.mp q)
  refine zMetX.of (ls := [some (.int d)]) hlt (by decide) (zle rfl) 0 rfl ?_
  intro G hlG C hR hE
  rw [← hlG] at hlt
  refine zz_iload_0 C dX10_demandDays_0 <| zz_iconst_1 C dX10_demandDays_1 <| zpc 2 rfl <| ?_
  refine zz_icmp_lt C 16 dX10_demandDays_2 (by decide) (fun c2 => ?_) (fun c2 => ?_)
  · refine zz_iconst_0 C dX10_demandDays_16 <| zpc 17 rfl <| ?_
    exact zx_callS C hR hE [_] (c10_demand0 hlt hf) lX10_76 rfl ⟨zle rfl, zle rfl, zle rfl, zle rfl⟩ (zle rfl) (zle rfl) (zle rfl) dX10_demandDays_17
  · refine zz_iload_0 C dX10_demandDays_5 <| zz_sipush C 366 dX10_demandDays_6 (by decide) <| zpc 9 rfl <| ?_
    refine zz_icmp_gt C 16 dX10_demandDays_9 (by decide) (fun c9 => ?_) (fun c9 => ?_)
    · refine zz_iconst_0 C dX10_demandDays_16 <| zpc 17 rfl <| ?_
      exact zx_callS C hR hE [_] (c10_demand0 hlt hf) lX10_76 rfl ⟨zle rfl, zle rfl, zle rfl, zle rfl⟩ (zle rfl) (zle rfl) (zle rfl) dX10_demandDays_17
    · refine zz_iconst_1 C dX10_demandDays_12 <| zz_goto C 17 dX10_demandDays_13 (by decide) <| zpc 17 rfl <| ?_
      exact absurd ⟨Int32.not_lt.mp c2, Int32.not_lt.mp c9⟩ hd2
theorem c10_rule1 (k : Nat) (h2 : k ≤ 3) : zMet E b l yX10_demandRule cX10_demandRule 1 none 7 0 0 [.int (nI k)] t h (qVf t h) := by
  refine zMet.of (ls := [some (.int (nI k))]) (by decide) (zle rfl) 0 rfl ?_
  intro G hlG C hR hE hin
  refine zz_iload_0 C dX10_demandRule_0 <| zpc 1 rfl <| ?_
  refine zz_if_lt C 13 dX10_demandRule_1 (by decide) (fun c1 => ?_) (fun c1 => ?_)
  · exact absurd c1 (nI_pos (by omega))
  · refine zz_iload_0 C dX10_demandRule_4 <| zz_iconst_3 C dX10_demandRule_5 <| zpc 6 rfl <| ?_
    refine zz_icmp_gt C 13 dX10_demandRule_6 (by decide) (fun c6 => ?_) (fun c6 => ?_)
    · exact absurd c6 (nI_nlt (a := 3) h2 (by omega))
    · refine zz_iconst_1 C dX10_demandRule_9 <| zz_goto C 14 dX10_demandRule_10 (by decide) <| zpc 14 rfl <| ?_
      refine zf_callSV C hR [_] (c10_demand1 _ (by decide)) lX10_76 rfl ⟨zle rfl, zle rfl, zle rfl, zle rfl⟩ (zle rfl) dX10_demandRule_14 ?_
      exact zf_return C hE (zle rfl) (zle rfl) dX10_demandRule_17 rfl rfl
theorem c10_rule0 (hlt : l.stackTraces = false) (hf : t.1.2 = false) (d : Int32) (hd : ¬ ∃ k, k ≤ 3 ∧ d = nI k) : zMetX E b l yX10_demandRule cX10_demandRule 1 none 7 1 6 [.int d] t h xA := by
  refine zMetX.of (ls := [some (.int d)]) hlt (by decide) (zle rfl) 0 rfl ?_
  intro G hlG C hR hE
  rw [← hlG] at hlt
  refine zz_iload_0 C dX10_demandRule_0 <| zpc 1 rfl <| ?_
  refine zz_if_lt C 13 dX10_demandRule_1 (by decide) (fun c1 => ?_) (fun c1 => ?_)
  · refine zz_iconst_0 C dX10_demandRule_13 <| zpc 14 rfl <| ?_
    exact zx_callS C hR hE [_] (c10_demand0 hlt hf) lX10_76 rfl ⟨zle rfl, zle rfl, zle rfl, zle rfl⟩ (zle rfl) (zle rfl) (zle rfl) dX10_demandRule_14
  · refine zz_iload_0 C dX10_demandRule_4 <| zz_iconst_3 C dX10_demandRule_5 <| zpc 6 rfl <| ?_
    refine zz_icmp_gt C 13 dX10_demandRule_6 (by decide) (fun c6 => ?_) (fun c6 => ?_)
    · refine zz_iconst_0 C dX10_demandRule_13 <| zpc 14 rfl <| ?_
      exact zx_callS C hR hE [_] (c10_demand0 hlt hf) lX10_76 rfl ⟨zle rfl, zle rfl, zle rfl, zle rfl⟩ (zle rfl) (zle rfl) (zle rfl) dX10_demandRule_14
    · refine zz_iconst_1 C dX10_demandRule_9 <| zz_goto C 14 dX10_demandRule_10 (by decide) <| zpc 14 rfl <| ?_
      exact absurd (whatOk.mp ⟨Int32.not_lt.mp c1, Int32.not_lt.mp c6⟩) hd
theorem shutOk {s : Int32} {n : Nat} (hn : n ≤ 10) : (¬ s < 0 ∧ ¬ 1 <<< (nI n &&& 31) ≤ s) ↔ ∃ k, k < 2 ^ n ∧ s = nI k := by
  have hpow : 2 ^ n ≤ 2 ^ 10 := Nat.pow_le_pow_right (by decide) hn
  rw [zshl1 (by omega)]
  constructor
  · rintro ⟨h1, h2⟩
    obtain ⟨j, hj, e⟩ := nI_of h1
    rw [e, nI_leI (by omega) hj] at h2
    exact ⟨j, by omega, e⟩
  · rintro ⟨k, hk, rfl⟩
    exact ⟨nI_pos (by omega), nI_ge hk (by omega)⟩
theorem c10_shut1 (hX : zTX t a c e) {n : Nat} (hn : n ≤ 10) (hm : zI h a 1 = nI n) (s : Nat) (hs : s < 2 ^ n) : zMet E b l yX10_demandShut cX10_demandShut 2 none 7 0 0 [.ref (b + 0), .int (nI s)] t h (qVf t h) := by
  have hpow : 2 ^ n ≤ 2 ^ 10 := Nat.pow_le_pow_right (by decide) hn
  obtain ⟨q1, q2⟩ := (shutOk (s := nI s) hn).mpr ⟨s, hs, rfl⟩
  refine zMet.of (ls := [some (.ref (b + 0)), some (.int (nI s))]) (by decide) (zle rfl) 0 rfl ?_
  intro G hlG C hR hE hin
  refine zz_iload_1 C dX10_demandShut_0 <| zpc 1 rfl <| ?_
  refine zz_if_lt C 21 dX10_demandShut_1 (by decide) (fun c1 => ?_) (fun c1 => ?_)
  · exact absurd c1 q1
  · refine zz_iload_1 C dX10_demandShut_4 <| zz_iconst_1 C dX10_demandShut_5 <| zz_aload_0 C dX10_demandShut_6 <| zz_getR C fX10_19 (tX_K_X hX) (tX_R_land hX) dX10_demandShut_7 <| zz_getI C fX10_89 (tL_K (tX_La hX)) dX10_demandShut_10 <| zpc 13 rfl <| ?_
    rw [hm]
    refine zz_ishl C dX10_demandShut_13 <| zpc 14 rfl <| ?_
    refine zz_icmp_ge C 21 dX10_demandShut_14 (by decide) (fun c14 => ?_) (fun c14 => ?_)
    · exact absurd c14 q2
    · refine zz_iconst_1 C dX10_demandShut_17 <| zz_goto C 22 dX10_demandShut_18 (by decide) <| zpc 22 rfl <| ?_
      refine zf_callSV C hR [_] (c10_demand1 _ (by decide)) lX10_76 rfl ⟨zle rfl, zle rfl, zle rfl, zle rfl⟩ (zle rfl) dX10_demandShut_22 ?_
      exact zf_return C hE (zle rfl) (zle rfl) dX10_demandShut_25 rfl rfl
theorem c10_shut0 (hX : zTX t a c e) (hlt : l.stackTraces = false) (hf : t.1.2 = false) {n : Nat} (hn : n ≤ 10) (hm : zI h a 1 = nI n) (s : Int32) (hs : ¬ ∃ k, k < 2 ^ n ∧ s = nI k) : zMetX E b l yX10_demandShut cX10_demandShut 2 none 7 1 6 [.ref (b + 0), .int s] t h xA := by
  refine zMetX.of (ls := [some (.ref (b + 0)), some (.int s)]) hlt (by decide) (zle rfl) 0 rfl ?_
  intro G hlG C hR hE
  rw [← hlG] at hlt
  refine zz_iload_1 C dX10_demandShut_0 <| zpc 1 rfl <| ?_
  refine zz_if_lt C 21 dX10_demandShut_1 (by decide) (fun c1 => ?_) (fun c1 => ?_)
  · refine zz_iconst_0 C dX10_demandShut_21 <| zpc 22 rfl <| ?_
    exact zx_callS C hR hE [_] (c10_demand0 hlt hf) lX10_76 rfl ⟨zle rfl, zle rfl, zle rfl, zle rfl⟩ (zle rfl) (zle rfl) (zle rfl) dX10_demandShut_22
  · refine zz_iload_1 C dX10_demandShut_4 <| zz_iconst_1 C dX10_demandShut_5 <| zz_aload_0 C dX10_demandShut_6 <| zz_getR C fX10_19 (tX_K_X hX) (tX_R_land hX) dX10_demandShut_7 <| zz_getI C fX10_89 (tL_K (tX_La hX)) dX10_demandShut_10 <| zpc 13 rfl <| ?_
    rw [hm]
    refine zz_ishl C dX10_demandShut_13 <| zpc 14 rfl <| ?_
    refine zz_icmp_ge C 21 dX10_demandShut_14 (by decide) (fun c14 => ?_) (fun c14 => ?_)
    · refine zz_iconst_0 C dX10_demandShut_21 <| zpc 22 rfl <| ?_
      exact zx_callS C hR hE [_] (c10_demand0 hlt hf) lX10_76 rfl ⟨zle rfl, zle rfl, zle rfl, zle rfl⟩ (zle rfl) (zle rfl) (zle rfl) dX10_demandShut_22
    · refine zz_iconst_1 C dX10_demandShut_17 <| zz_goto C 22 dX10_demandShut_18 (by decide) <| zpc 22 rfl <| ?_
      exact absurd ((shutOk hn).mp ⟨c1, c14⟩) hs
theorem c10_road1 (hX : zTX t a c e) {n : Nat} (hn : n ≤ 10) (hm : zI h a 1 = nI n) (k : Nat) (hk : k < n) : zMet E b l yX10_demandRoad cX10_demandRoad 2 none 6 0 0 [.ref (b + 0), .int (nI k)] t h (qVf t h) := by
  refine zMet.of (ls := [some (.ref (b + 0)), some (.int (nI k))]) (by decide) (zle rfl) 0 rfl ?_
  intro G hlG C hR hE hin
  refine zz_iload_1 C dX10_demandRoad_0 <| zpc 1 rfl <| ?_
  refine zz_if_lt C 15 dX10_demandRoad_1 (by decide) (fun c1 => ?_) (fun c1 => ?_)
  · exact absurd c1 (nI_pos (by omega))
  · refine zz_iload_1 C dX10_demandRoad_4 <| zz_aload_0 C dX10_demandRoad_5 <| zz_getR C fX10_19 (tX_K_X hX) (tX_R_land hX) dX10_demandRoad_6 <| zz_getI C fX10_89 (tL_K (tX_La hX)) dX10_demandRoad_9 <| zpc 12 rfl <| ?_
    rw [hm]
    refine zz_icmp_lt C 26 dX10_demandRoad_12 (by decide) (fun c12 => ?_) (fun c12 => ?_)
    · exact zf_return C hE (zle rfl) (zle rfl) dX10_demandRoad_26 rfl rfl
    · exact absurd (nI_lt hk (by omega)) c12
theorem ixOk {s : Int32} {n : Nat} (hn : n ≤ 100) : (¬ s < 0 ∧ s < nI n) ↔ ∃ k, k < n ∧ s = nI k := by
  constructor
  · rintro ⟨h1, h2⟩
    obtain ⟨j, hj, e⟩ := nI_of h1
    rw [e, nI_ltI hj (by omega)] at h2
    exact ⟨j, h2, e⟩
  · rintro ⟨k, hk, rfl⟩
    exact ⟨nI_pos (by omega), nI_lt hk (by omega)⟩
theorem c10_road0 (hX : zTX t a c e) (hlt : l.stackTraces = false) (hf : t.1.2 = false) {n : Nat} (hn : n ≤ 10) (hm : zI h a 1 = nI n) (s : Int32) (hs : ¬ ∃ k, k < n ∧ s = nI k) : zMetX E b l yX10_demandRoad cX10_demandRoad 2 none 6 1 6 [.ref (b + 0), .int s] t h xR := by
  refine zMetX.of (ls := [some (.ref (b + 0)), some (.int s)]) hlt (by decide) (zle rfl) 0 rfl ?_
  intro G hlG C hR hE
  rw [← hlG] at hlt
  refine zz_iload_1 C dX10_demandRoad_0 <| zpc 1 rfl <| ?_
  refine zz_if_lt C 15 dX10_demandRoad_1 (by decide) (fun c1 => ?_) (fun c1 => ?_)
  · exact zx_throw C hR hE hf zXk_R (zle rfl) (zle rfl) (zle rfl) (zle rfl) (zle rfl) (zle rfl) dX10_demandRoad_15 dX10_demandRoad_18 dX10_demandRoad_19 dX10_demandRoad_22 dX10_demandRoad_25
  · refine zz_iload_1 C dX10_demandRoad_4 <| zz_aload_0 C dX10_demandRoad_5 <| zz_getR C fX10_19 (tX_K_X hX) (tX_R_land hX) dX10_demandRoad_6 <| zz_getI C fX10_89 (tL_K (tX_La hX)) dX10_demandRoad_9 <| zpc 12 rfl <| ?_
    rw [hm]
    refine zz_icmp_lt C 26 dX10_demandRoad_12 (by decide) (fun c12 => ?_) (fun c12 => ?_)
    · exact absurd ((ixOk (by omega)).mp ⟨c1, c12⟩) hs
    · exact zx_throw C hR hE hf zXk_R (zle rfl) (zle rfl) (zle rfl) (zle rfl) (zle rfl) (zle rfl) dX10_demandRoad_15 dX10_demandRoad_18 dX10_demandRoad_19 dX10_demandRoad_22 dX10_demandRoad_25
theorem c10_going1 (hX : zTX t a c e) {n : Nat} (hn : n ≤ 14) (hm : zI h a 3 = nI n) (k : Nat) (hk : k < n) : zMet E b l yX10_demandGoing cX10_demandGoing 2 none 6 0 0 [.ref (b + 0), .int (nI k)] t h (qVf t h) := by
  refine zMet.of (ls := [some (.ref (b + 0)), some (.int (nI k))]) (by decide) (zle rfl) 0 rfl ?_
  intro G hlG C hR hE hin
  refine zz_iload_1 C dX10_demandGoing_0 <| zpc 1 rfl <| ?_
  refine zz_if_lt C 15 dX10_demandGoing_1 (by decide) (fun c1 => ?_) (fun c1 => ?_)
  · exact absurd c1 (nI_pos (by omega))
  · refine zz_iload_1 C dX10_demandGoing_4 <| zz_aload_0 C dX10_demandGoing_5 <| zz_getR C fX10_19 (tX_K_X hX) (tX_R_land hX) dX10_demandGoing_6 <| zz_getI C fX10_101 (tL_K (tX_La hX)) dX10_demandGoing_9 <| zpc 12 rfl <| ?_
    rw [hm]
    refine zz_icmp_lt C 26 dX10_demandGoing_12 (by decide) (fun c12 => ?_) (fun c12 => ?_)
    · exact zf_return C hE (zle rfl) (zle rfl) dX10_demandGoing_26 rfl rfl
    · exact absurd (nI_lt hk (by omega)) c12
theorem c10_going0 (hX : zTX t a c e) (hlt : l.stackTraces = false) (hf : t.1.2 = false) {n : Nat} (hn : n ≤ 14) (hm : zI h a 3 = nI n) (s : Int32) (hs : ¬ ∃ k, k < n ∧ s = nI k) : zMetX E b l yX10_demandGoing cX10_demandGoing 2 none 6 1 6 [.ref (b + 0), .int s] t h xN := by
  refine zMetX.of (ls := [some (.ref (b + 0)), some (.int s)]) hlt (by decide) (zle rfl) 0 rfl ?_
  intro G hlG C hR hE
  rw [← hlG] at hlt
  refine zz_iload_1 C dX10_demandGoing_0 <| zpc 1 rfl <| ?_
  refine zz_if_lt C 15 dX10_demandGoing_1 (by decide) (fun c1 => ?_) (fun c1 => ?_)
  · exact zx_throwN C hR hE hf zXk_N (zle rfl) (zle rfl) (zle rfl) (zle rfl) (zle rfl) (zle rfl) dX10_demandGoing_15 dX10_demandGoing_18 dX10_demandGoing_19 dX10_demandGoing_22 dX10_demandGoing_25
  · refine zz_iload_1 C dX10_demandGoing_4 <| zz_aload_0 C dX10_demandGoing_5 <| zz_getR C fX10_19 (tX_K_X hX) (tX_R_land hX) dX10_demandGoing_6 <| zz_getI C fX10_101 (tL_K (tX_La hX)) dX10_demandGoing_9 <| zpc 12 rfl <| ?_
    rw [hm]
    refine zz_icmp_lt C 26 dX10_demandGoing_12 (by decide) (fun c12 => ?_) (fun c12 => ?_)
    · exact absurd ((ixOk (by omega)).mp ⟨c1, c12⟩) hs
    · exact zx_throwN C hR hE hf zXk_N (zle rfl) (zle rfl) (zle rfl) (zle rfl) (zle rfl) (zle rfl) dX10_demandGoing_15 dX10_demandGoing_18 dX10_demandGoing_19 dX10_demandGoing_22 dX10_demandGoing_25
theorem c10_row1 (hX : zTX t a c e) {n : Nat} (hn : n ≤ 30) (h0 : 0 < n) (hm : zI h 68 4 = nI n) : zMet E b l yX10_demandRow cX10_demandRow 1 none 6 0 0 [.ref (b + 0)] t h (qVf t h) := by
  refine zMet.of (ls := [some (.ref (b + 0))]) (by decide) (zle rfl) 0 rfl ?_
  intro G hlG C hR hE hin
  refine zz_aload_0 C dX10_demandRow_0 <| zz_getR C fX10_26 (tX_K_X hX) (tX_R_now hX) dX10_demandRow_1 <| zz_getI C fX10_212 (tS_K (tX_S68 hX)) dX10_demandRow_4 <| zpc 7 rfl <| ?_
  rw [hm]
  refine zz_if_ne C 21 dX10_demandRow_7 (by decide) (fun c7 => ?_) (fun c7 => ?_)
  · exact zf_return C hE (zle rfl) (zle rfl) dX10_demandRow_21 rfl rfl
  · exact absurd c7 (nI_ne0 h0 (by omega))
theorem c10_row0 (hX : zTX t a c e) (hlt : l.stackTraces = false) (hf : t.1.2 = false) (hm : zI h 68 4 = 0) : zMetX E b l yX10_demandRow cX10_demandRow 1 none 6 1 6 [.ref (b + 0)] t h xS := by
  refine zMetX.of (ls := [some (.ref (b + 0))]) hlt (by decide) (zle rfl) 0 rfl ?_
  intro G hlG C hR hE
  rw [← hlG] at hlt
  refine zz_aload_0 C dX10_demandRow_0 <| zz_getR C fX10_26 (tX_K_X hX) (tX_R_now hX) dX10_demandRow_1 <| zz_getI C fX10_212 (tS_K (tX_S68 hX)) dX10_demandRow_4 <| zpc 7 rfl <| ?_
  rw [hm]
  refine zz_if_ne C 21 dX10_demandRow_7 (by decide) (fun c7 => ?_) (fun c7 => ?_)
  · exact absurd rfl c7
  · exact zx_throw C hR hE hf zXk_S (zle rfl) (zle rfl) (zle rfl) (zle rfl) (zle rfl) (zle rfl) dX10_demandRow_10 dX10_demandRow_13 dX10_demandRow_14 dX10_demandRow_17 dX10_demandRow_20
theorem c10_rowFor1 (hX : zTX t a c e) {n k : Nat} (hn : n ≤ 30) (hk : k ≤ 3) (h0 : k = 1 → 0 < n) (hm : zI h 68 4 = nI n) : zMet E b l yX10_demandRowFor cX10_demandRowFor 2 none 7 0 0 [.ref (b + 0), .int (nI k)] t h (qVf t h) := by
  refine zMet.of (ls := [some (.ref (b + 0)), some (.int (nI k))]) (by decide) (zle rfl) 0 rfl ?_
  intro G hlG C hR hE hin
  refine zz_iload_1 C dX10_demandRowFor_0 <| zz_iconst_1 C dX10_demandRowFor_1 <| zpc 2 rfl <| ?_
  refine zz_icmp_ne C 9 dX10_demandRowFor_2 (by decide) (fun c2 => ?_) (fun c2 => ?_)
  · exact zf_return C hE (zle rfl) (zle rfl) dX10_demandRowFor_9 rfl rfl
  · refine zz_aload_0 C dX10_demandRowFor_5 <| zpc 6 rfl <| ?_
    rw [show (1 : Int32) = nI 1 from rfl, nI_eq (by omega) (by omega)] at c2
    refine zf_callVV C hR [] (c10_row1 hX hn (h0 c2) hm) lX10_231 rfl (tX_K_X hX) (by decide) rfl ⟨zle rfl, zle rfl, zle rfl, zle rfl⟩ (zle rfl) dX10_demandRowFor_6 ?_
    exact zf_return C hE (zle rfl) (zle rfl) dX10_demandRowFor_9 rfl rfl
theorem c10_rowFor0 (hX : zTX t a c e) (hlt : l.stackTraces = false) (hf : t.1.2 = false) (hm : zI h 68 4 = 0) : zMetX E b l yX10_demandRowFor cX10_demandRowFor 2 none 7 1 6 [.ref (b + 0), .int (nI 1)] t h xS := by
  refine zMetX.of (ls := [some (.ref (b + 0)), some (.int (nI 1))]) hlt (by decide) (zle rfl) 0 rfl ?_
  intro G hlG C hR hE
  rw [← hlG] at hlt
  refine zz_iload_1 C dX10_demandRowFor_0 <| zz_iconst_1 C dX10_demandRowFor_1 <| zpc 2 rfl <| ?_
  refine zz_icmp_ne C 9 dX10_demandRowFor_2 (by decide) (fun c2 => ?_) (fun c2 => ?_)
  · exact absurd rfl c2
  · refine zz_aload_0 C dX10_demandRowFor_5 <| zpc 6 rfl <| ?_
    exact zx_callV C hR hE [] (c10_row0 hX hlt hf hm) lX10_231 rfl (tX_K_X hX) (by decide) rfl ⟨zle rfl, zle rfl, zle rfl, zle rfl⟩ (zle rfl) (zle rfl) (zle rfl) dX10_demandRowFor_6
end CDM
