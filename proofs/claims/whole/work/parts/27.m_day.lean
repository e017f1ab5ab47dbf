/-! ===== the reference: a day's end, a day ===== -/
/-- what a day writes of the reference's cells -/
def sc2 (i k : Nat) : Prop := sc1 i k ∨ i = 233 ∨ i = 234 ∨ (i = 157 ∧ (k = 32 ∨ k = 34))
def zAg2 (h h' : zH) : Prop := (∀ i k, ¬ sc2 i k → zI h' i k = zI h i k) ∧ ∀ i k, ¬ (i = 157 ∧ (k = 43 ∨ k = 44)) → zL h' i k = zL h i k
theorem zAg2.rf (h : zH) : zAg2 h h := ⟨fun _ _ _ => rfl, fun _ _ _ => rfl⟩
theorem zAg2.tr {h h1 h2 : zH} (a : zAg2 h h1) (c : zAg2 h1 h2) : zAg2 h h2 := ⟨fun i k q => (c.1 i k q).trans (a.1 i k q), fun i k q => (c.2 i k q).trans (a.2 i k q)⟩
theorem zAg2.of1 {h h' : zH} (a : zAg1 h h') : zAg2 h h' := ⟨fun i k q => a.1 i k (fun z => q (Or.inl z)), a.2⟩
theorem zAg2.sI {h h' : zH} (a : zAg2 h h') {i k : Nat} {v : Int32} (hs : sc2 i k) : zAg2 h (zsI h' i k v) := ⟨fun j q hn => by
  rw [zI_sI, if_neg (fun z => hn (by rw [z.1, z.2]; exact hs))]
  exact a.1 j q hn, a.2⟩
/-- the reference on a walk -/
def mWk (h : zH) (L : yL) (A : yN) (p : yP) (x : yS) : Prop := mSt h L A p x.1.1 x.2.1.1 x.2.1.2 ∧ (∀ k, k < A.1.1 → zI h 234 k = nI (x.1.2 k)) ∧ zI h 157 31 = nI A.1.2.2 ∧ zI h 157 34 = nI x.2.1.2 ∧ zL h 157 43 = lN x.2.2.2.1.1 ∧ zL h 157 44 = lN x.2.2.2.1.2.2 ∧ zI h 157 45 = nI x.2.2.2.2.1.1 ∧ zI h 157 46 = nI x.2.2.2.2.1.2.1 ∧ zI h 157 41 = x.2.2.1
def wOk (L : yL) (A : yN) (p : yP) (x : yS) : Prop := sOk L A p x.1.1 ∧ 3 ≤ A.1.2.2 ∧ A.1.2.2 ≤ 11 ∧ (∀ k, k < A.1.1 → x.1.2 k ≤ A.1.2.2)
section MD
variable {E : zE} {b : Nat} {G : zG} {t : zT} {h : zH} {L : yL} {A : yN} {p : yP} {w r ld : Nat → Nat} {N n rn s : Nat} {x2 : Int32} {x3 x4 : Option Value}
/-- no loads at first -/
theorem l_end1 (hT : zTM t) (hn : n ≤ 11) (C : zCx E b G RX11 cX11_goesBy 5 none) (hr : zI h 157 30 = nI n)
    (kont : ∀ (hc : zH) (x2 : Option Value), zAg1 h hc → (∀ i k, ¬ i = 235 → zI hc i k = zI h i k) → (∀ i k, zL hc i k = zL h i k) → (∀ k, k < n → zI hc 235 k = nI 0) → zAW E b G 5 0 0 28 [some (.ref (b + 157)), some (.int (nI s)), x2, x3, x4] [] t hc) :
    ∀ (m k : Nat) (hc : zH), k + m = n → zAg1 h hc → (∀ i j, ¬ i = 235 → zI hc i j = zI h i j) → (∀ i k, zL hc i k = zL h i k) → (∀ j, j < k → zI hc 235 j = nI 0) → zAW E b G 5 0 0 7 [some (.ref (b + 157)), some (.int (nI s)), some (.int (nI k)), x3, x4] [] t hc := by
  intro m
  induction m with
  | zero =>
    intro k hc hk ha e1 e2 e3
    have hr2 : zI hc 157 30 = nI n := by rw [e1 _ _ (by omega)]; exact hr
    refine zz_iload_2 C dX11_goesBy_7 <| zz_aload_0 C dX11_goesBy_8 <| zz_getI C fX11_204 (tM_K hT) dX11_goesBy_9 <| zpc 12 rfl <| ?_
    rw [hr2]
    refine zz_icmp_ge C 28 dX11_goesBy_12 (by decide) (fun c12 => ?_) (fun c12 => ?_)
    · exact kont hc _ ha e1 e2 (fun j hj => e3 j (by omega))
    · exact absurd (nI_le (by omega) (by omega)) c12
  | succ m ih =>
    intro k hc hk ha e1 e2 e3
    have hr2 : zI hc 157 30 = nI n := by rw [e1 _ _ (by omega)]; exact hr
    refine zz_iload_2 C dX11_goesBy_7 <| zz_aload_0 C dX11_goesBy_8 <| zz_getI C fX11_204 (tM_K hT) dX11_goesBy_9 <| zpc 12 rfl <| ?_
    rw [hr2]
    refine zz_icmp_ge C 28 dX11_goesBy_12 (by decide) (fun c12 => ?_) (fun c12 => ?_)
    · exact absurd c12 (nI_ge (by omega) (by omega))
    · refine zz_aload_0 C dX11_goesBy_15 <| zz_getR C fX11_67 (tM_K hT) (tM_R_load hT) dX11_goesBy_16 <| zz_iload_2 C dX11_goesBy_19 <| zz_iconst_0 C dX11_goesBy_20 <| zc_iastore C _ (tM_K_load hT) (znI (by omega)) (by omega) dX11_goesBy_21 <| zz_iinc_2 C _ (zle rfl) rfl dX11_goesBy_22 nI_s <| zz_goto C 7 dX11_goesBy_25 (by decide) <| zpc 7 rfl <| ?_
      refine ih (k + 1) _ (by omega) (ha.sI (by unfold sc1; omega)) (fun i j hi => ?_) e2 (fun j hj => ?_)
      · rw [zI_sI, if_neg (by omega)]; exact e1 i j hi
      · rw [zI_sI]
        by_cases hjk : j = k
        · rw [if_pos ⟨rfl, hjk⟩]; rfl
        · rw [if_neg (fun z => hjk z.2)]; exact e3 j (by omega)
theorem p_end1 (hc : zH) (k : Nat) (va vc : Int32) (i j : Nat) : zI (zsI (zsI hc 233 k va) 234 k vc) i j = if i = 233 ∧ j = k then va else if i = 234 ∧ j = k then vc else zI hc i j := by
  rw [zI_sI, zI_sI]
  by_cases h1 : i = 234 ∧ j = k
  · rw [if_pos h1, if_neg (by omega), if_pos h1]
  · rw [if_neg h1]
    by_cases h2 : i = 233 ∧ j = k
    · rw [if_pos h2, if_pos h2]
    · rw [if_neg h2, if_neg h2, if_neg h1]
theorem p_end2 (hc : zH) (k : Nat) (va vb vc : Int32) (i j : Nat) : zI (zsI (zsI (zsI hc 233 k va) 234 k vc) 233 k vb) i j = if i = 233 ∧ j = k then vb else if i = 234 ∧ j = k then vc else zI hc i j := by
  rw [zI_sI, p_end1]
  by_cases h2 : i = 233 ∧ j = k
  · rw [if_pos h2, if_pos h2]
  · rw [if_neg h2, if_neg h2, if_neg h2]
/-- a day's end for one road -/
theorem l_end2 (hT : zTM t) (C : zCx E b G RX11 cX11_goesBy 5 none) {k m : Nat} (hk : k < 11) {hc : zH} {wk rk : Nat} (hm : m < 2 ^ 30) (hw : wk ≤ 99) (hN3 : 3 ≤ N) (hN11 : N ≤ 11) (hrk : rk ≤ N) (e1 : zI hc 233 k = nI wk) (e2 : zI hc 234 k = nI rk) (e3 : zI hc 157 31 = nI N)
    (kont : ∀ (hh : zH) (x4 : Option Value), (∀ i j, zI hh i j = if i = 233 ∧ j = k then nI (eW N m 0 wk rk) else if i = 234 ∧ j = k then nI (eR N m 0 rk) else zI hc i j) → (∀ i j, zL hh i j = zL hc i j) → zAW E b G 5 0 0 253 [some (.ref (b + 157)), some (.int (nI s)), some (.int x2), some (.int (nI (k + 1))), x4] [] t hh) :
    zAW E b G 5 0 0 279 [some (.ref (b + 157)), some (.int (nI s)), some (.int x2), some (.int (nI k)), some (.int (nI m))] [] t hc := by
  have i99 : (99 : Int32) = nI 99 := rfl
  have a3 : ∀ (v u : Int32), zI (zsI (zsI hc 233 k v) 234 k u) 157 31 = nI N := fun v u => by rw [zI_sI, if_neg (by omega), zI_sI, if_neg (by omega)]; exact e3
  have a4 : ∀ (v : Int32), zI (zsI hc 233 k v) 157 31 = nI N := fun v => by rw [zI_sI, if_neg (by omega)]; exact e3
  have a2 : ∀ (v : Int32), zI (zsI hc 233 k v) 234 k = nI rk := fun v => by rw [zI_sI, if_neg (by omega)]; exact e2
  have fin : ∀ (va vc : Int32) (hh : zH) (x4 : Option Value), (∀ i j, zI hh i j = if i = 233 ∧ j = k then va else if i = 234 ∧ j = k then vc else zI hc i j) → (∀ i j, zL hh i j = zL hc i j) → va = nI (eW N m 0 wk rk) → vc = nI (eR N m 0 rk) → zAW E b G 5 0 0 253 [some (.ref (b + 157)), some (.int (nI s)), some (.int x2), some (.int (nI (k + 1))), x4] [] t hh := by
    intro va vc hh x4 q1 q2 q3 q4
    rw [q3, q4] at q1
    exact kont hh x4 q1 q2
  by_cases hm0 : m = 0
  · subst hm0
    have hw1 : eW N 0 0 wk rk = if N ≤ rk + 1 then 0 else wk := by unfold eW; rw [if_pos rfl]
    have hr1 : eR N 0 0 rk = if rk < N then rk + 1 else N := by unfold eR; rw [if_pos rfl]
    rw [hw1, hr1] at fin
    refine zz_aload_0 C dX11_goesBy_279 <| zz_getR C fX11_61 (tM_K hT) (tM_R_w hT) dX11_goesBy_280 <| zz_iload_3 C dX11_goesBy_283 <| zz_aload_0 C dX11_goesBy_284 <| zz_getR C fX11_61 (tM_K hT) (tM_R_w hT) dX11_goesBy_285 <| zz_iload_3 C dX11_goesBy_288 <| zc_iaload C _ (tM_K_w hT) (znI (by omega)) (by omega) dX11_goesBy_289 <| zpc 290 rfl <| ?_
    rw [e1]
    refine zz_iload_4 C dX11_goesBy_290 <| zz_iadd C dX11_goesBy_292 <| zpc 293 rfl <| ?_
    rw [nI_add]
    refine zz_bipush C 99 dX11_goesBy_293 (by decide) <| zpc 295 rfl <| ?_
    rw [i99]
    refine zz_icmp_le C 303 dX11_goesBy_295 (by decide) (fun c295 => ?_) (fun c295 => ?_)
    · refine zz_aload_0 C dX11_goesBy_303 <| zz_getR C fX11_61 (tM_K hT) (tM_R_w hT) dX11_goesBy_304 <| zz_iload_3 C dX11_goesBy_307 <| zc_iaload C _ (tM_K_w hT) (znI (by omega)) (by omega) dX11_goesBy_308 <| zpc 309 rfl <| ?_
      rw [e1]
      refine zz_iload_4 C dX11_goesBy_309 <| zz_iadd C dX11_goesBy_311 <| zpc 312 rfl <| ?_
      rw [nI_add]
      refine zc_iastore C _ (tM_K_w hT) (znI (by omega)) (by omega) dX11_goesBy_312 <| zz_aload_0 C dX11_goesBy_313 <| zz_getR C fX11_64 (tM_K hT) (tM_R_r hT) dX11_goesBy_314 <| zz_iload_3 C dX11_goesBy_317 <| zz_iload_4 C dX11_goesBy_318 <| zpc 320 rfl <| ?_
      refine zz_if_le C 327 dX11_goesBy_320 (by decide) (fun c320 => ?_) (fun c320 => ?_)
      · refine zz_aload_0 C dX11_goesBy_327 <| zz_getR C fX11_64 (tM_K hT) (tM_R_r hT) dX11_goesBy_328 <| zz_iload_3 C dX11_goesBy_331 <| zc_iaload C _ (tM_K_r hT) (znI (by omega)) (by omega) dX11_goesBy_332 <| zpc 333 rfl <| ?_
        rw [a2]
        refine zz_aload_0 C dX11_goesBy_333 <| zz_getI C fX11_227 (tM_K hT) dX11_goesBy_334 <| zpc 337 rfl <| ?_
        rw [a4]
        refine zz_icmp_ge C 351 dX11_goesBy_337 (by decide) (fun c337 => ?_) (fun c337 => ?_)
        · refine zz_aload_0 C dX11_goesBy_351 <| zz_getI C fX11_227 (tM_K hT) dX11_goesBy_352 <| zpc 355 rfl <| ?_
          first | rw [a4] | skip
          refine zc_iastore C _ (tM_K_r hT) (znI (by omega)) (by omega) dX11_goesBy_355 <| zz_aload_0 C dX11_goesBy_356 <| zz_getR C fX11_64 (tM_K hT) (tM_R_r hT) dX11_goesBy_357 <| zz_iload_3 C dX11_goesBy_360 <| zc_iaload C _ (tM_K_r hT) (znI (by omega)) (by omega) dX11_goesBy_361 <| zpc 362 rfl <| ?_
          rw [zI_self]
          refine zz_aload_0 C dX11_goesBy_362 <| zz_getI C fX11_227 (tM_K hT) dX11_goesBy_363 <| zpc 366 rfl <| ?_
          rw [a3]
          refine zz_icmp_lt C 376 dX11_goesBy_366 (by decide) (fun c366 => ?_) (fun c366 => ?_)
          · refine zz_iinc_3 C _ (zle rfl) rfl dX11_goesBy_376 nI_s <| zz_goto C 253 dX11_goesBy_379 (by decide) <| zpc 253 rfl <| ?_
            rw [nI_leI (by omega) (by omega)] at c337
            rw [nI_ltI (by omega) (by omega)] at c366
            first
              | (exfalso; omega)
              | exact fin _ _ _ _ (p_end1 hc k _ _) (fun _ _ => rfl) (by rw [if_neg (by omega)]; rfl) (by first | rw [if_pos (by omega)] | rw [if_neg (by omega)])
              | exact fin _ _ _ _ (p_end2 hc k _ _ _) (fun _ _ => rfl) (by rw [if_pos (by omega)]; rfl) (by first | rw [if_pos (by omega)] | rw [if_neg (by omega)])
          · refine zz_aload_0 C dX11_goesBy_369 <| zz_getR C fX11_61 (tM_K hT) (tM_R_w hT) dX11_goesBy_370 <| zz_iload_3 C dX11_goesBy_373 <| zz_iconst_0 C dX11_goesBy_374 <| zc_iastore C _ (tM_K_w hT) (znI (by omega)) (by omega) dX11_goesBy_375 <| zz_iinc_3 C _ (zle rfl) rfl dX11_goesBy_376 nI_s <| zz_goto C 253 dX11_goesBy_379 (by decide) <| zpc 253 rfl <| ?_
            rw [nI_leI (by omega) (by omega)] at c337
            rw [nI_ltI (by omega) (by omega)] at c366
            first
              | (exfalso; omega)
              | exact fin _ _ _ _ (p_end1 hc k _ _) (fun _ _ => rfl) (by rw [if_neg (by omega)]; rfl) (by first | rw [if_pos (by omega)] | rw [if_neg (by omega)])
              | exact fin _ _ _ _ (p_end2 hc k _ _ _) (fun _ _ => rfl) (by rw [if_pos (by omega)]; rfl) (by first | rw [if_pos (by omega)] | rw [if_neg (by omega)])
        · refine zz_aload_0 C dX11_goesBy_340 <| zz_getR C fX11_64 (tM_K hT) (tM_R_r hT) dX11_goesBy_341 <| zz_iload_3 C dX11_goesBy_344 <| zc_iaload C _ (tM_K_r hT) (znI (by omega)) (by omega) dX11_goesBy_345 <| zpc 346 rfl <| ?_
          rw [a2]
          refine zz_iconst_1 C dX11_goesBy_346 <| zz_iadd C dX11_goesBy_347 <| zpc 348 rfl <| ?_
          rw [show (1 : Int32) = nI 1 from rfl, nI_add]
          refine zz_goto C 355 dX11_goesBy_348 (by decide) <| zpc 355 rfl <| ?_
          first | rw [a4] | skip
          refine zc_iastore C _ (tM_K_r hT) (znI (by omega)) (by omega) dX11_goesBy_355 <| zz_aload_0 C dX11_goesBy_356 <| zz_getR C fX11_64 (tM_K hT) (tM_R_r hT) dX11_goesBy_357 <| zz_iload_3 C dX11_goesBy_360 <| zc_iaload C _ (tM_K_r hT) (znI (by omega)) (by omega) dX11_goesBy_361 <| zpc 362 rfl <| ?_
          rw [zI_self]
          refine zz_aload_0 C dX11_goesBy_362 <| zz_getI C fX11_227 (tM_K hT) dX11_goesBy_363 <| zpc 366 rfl <| ?_
          rw [a3]
          refine zz_icmp_lt C 376 dX11_goesBy_366 (by decide) (fun c366 => ?_) (fun c366 => ?_)
          · refine zz_iinc_3 C _ (zle rfl) rfl dX11_goesBy_376 nI_s <| zz_goto C 253 dX11_goesBy_379 (by decide) <| zpc 253 rfl <| ?_
            rw [nI_leI (by omega) (by omega)] at c337
            rw [nI_ltI (by omega) (by omega)] at c366
            first
              | (exfalso; omega)
              | exact fin _ _ _ _ (p_end1 hc k _ _) (fun _ _ => rfl) (by rw [if_neg (by omega)]; rfl) (by first | rw [if_pos (by omega)] | rw [if_neg (by omega)])
              | exact fin _ _ _ _ (p_end2 hc k _ _ _) (fun _ _ => rfl) (by rw [if_pos (by omega)]; rfl) (by first | rw [if_pos (by omega)] | rw [if_neg (by omega)])
          · refine zz_aload_0 C dX11_goesBy_369 <| zz_getR C fX11_61 (tM_K hT) (tM_R_w hT) dX11_goesBy_370 <| zz_iload_3 C dX11_goesBy_373 <| zz_iconst_0 C dX11_goesBy_374 <| zc_iastore C _ (tM_K_w hT) (znI (by omega)) (by omega) dX11_goesBy_375 <| zz_iinc_3 C _ (zle rfl) rfl dX11_goesBy_376 nI_s <| zz_goto C 253 dX11_goesBy_379 (by decide) <| zpc 253 rfl <| ?_
            rw [nI_leI (by omega) (by omega)] at c337
            rw [nI_ltI (by omega) (by omega)] at c366
            first
              | (exfalso; omega)
              | exact fin _ _ _ _ (p_end1 hc k _ _) (fun _ _ => rfl) (by rw [if_neg (by omega)]; rfl) (by first | rw [if_pos (by omega)] | rw [if_neg (by omega)])
              | exact fin _ _ _ _ (p_end2 hc k _ _ _) (fun _ _ => rfl) (by rw [if_pos (by omega)]; rfl) (by first | rw [if_pos (by omega)] | rw [if_neg (by omega)])
      · exact absurd (nI_le (a := 0) (b := 0) (by omega) (by omega)) c320
    · rw [nI_leI (by omega) (by omega)] at c295; omega
  · have hw1 : eW N m 0 wk rk = if 99 < wk + m then 99 else wk + m := by unfold eW; rw [if_neg (by omega)]; rfl
    have hr1 : eR N m 0 rk = 0 := by unfold eR; rw [if_neg (by omega)]
    rw [hw1, hr1] at fin
    refine zz_aload_0 C dX11_goesBy_279 <| zz_getR C fX11_61 (tM_K hT) (tM_R_w hT) dX11_goesBy_280 <| zz_iload_3 C dX11_goesBy_283 <| zz_aload_0 C dX11_goesBy_284 <| zz_getR C fX11_61 (tM_K hT) (tM_R_w hT) dX11_goesBy_285 <| zz_iload_3 C dX11_goesBy_288 <| zc_iaload C _ (tM_K_w hT) (znI (by omega)) (by omega) dX11_goesBy_289 <| zpc 290 rfl <| ?_
    rw [e1]
    refine zz_iload_4 C dX11_goesBy_290 <| zz_iadd C dX11_goesBy_292 <| zpc 293 rfl <| ?_
    rw [nI_add]
    refine zz_bipush C 99 dX11_goesBy_293 (by decide) <| zpc 295 rfl <| ?_
    rw [i99]
    refine zz_icmp_le C 303 dX11_goesBy_295 (by decide) (fun c295 => ?_) (fun c295 => ?_)
    · refine zz_aload_0 C dX11_goesBy_303 <| zz_getR C fX11_61 (tM_K hT) (tM_R_w hT) dX11_goesBy_304 <| zz_iload_3 C dX11_goesBy_307 <| zc_iaload C _ (tM_K_w hT) (znI (by omega)) (by omega) dX11_goesBy_308 <| zpc 309 rfl <| ?_
      rw [e1]
      refine zz_iload_4 C dX11_goesBy_309 <| zz_iadd C dX11_goesBy_311 <| zpc 312 rfl <| ?_
      first | rw [nI_add] | skip
      refine zc_iastore C _ (tM_K_w hT) (znI (by omega)) (by omega) dX11_goesBy_312 <| zz_aload_0 C dX11_goesBy_313 <| zz_getR C fX11_64 (tM_K hT) (tM_R_r hT) dX11_goesBy_314 <| zz_iload_3 C dX11_goesBy_317 <| zz_iload_4 C dX11_goesBy_318 <| zpc 320 rfl <| ?_
      refine zz_if_le C 327 dX11_goesBy_320 (by decide) (fun c320 => ?_) (fun c320 => ?_)
      · exact absurd c320 (nI_nle (by omega) (by omega))
      · refine zz_iconst_0 C dX11_goesBy_323 <| zz_goto C 355 dX11_goesBy_324 (by decide) <| zc_iastore C _ (tM_K_r hT) (znI (by omega)) (by omega) dX11_goesBy_355 <| zz_aload_0 C dX11_goesBy_356 <| zz_getR C fX11_64 (tM_K hT) (tM_R_r hT) dX11_goesBy_357 <| zz_iload_3 C dX11_goesBy_360 <| zc_iaload C _ (tM_K_r hT) (znI (by omega)) (by omega) dX11_goesBy_361 <| zpc 362 rfl <| ?_
        rw [zI_self]
        refine zz_aload_0 C dX11_goesBy_362 <| zz_getI C fX11_227 (tM_K hT) dX11_goesBy_363 <| zpc 366 rfl <| ?_
        rw [a3]
        refine zz_icmp_lt C 376 dX11_goesBy_366 (by decide) (fun c366 => ?_) (fun c366 => ?_)
        · refine zz_iinc_3 C _ (zle rfl) rfl dX11_goesBy_376 nI_s <| zz_goto C 253 dX11_goesBy_379 (by decide) <| zpc 253 rfl <| ?_
          rw [nI_leI (by omega) (by omega)] at c295
          exact fin _ _ _ _ (p_end1 hc k _ _) (fun _ _ => rfl) (by first | (rw [if_pos (by omega)]; done) | (rw [if_neg (by omega)]; done) | (rw [if_pos (by omega)]; rfl)) rfl
        · exact absurd (show (0 : Int32) < nI N from nI_lt (a := 0) (by omega) (by omega)) c366
    · refine zz_bipush C 99 dX11_goesBy_298 (by decide) <| zz_goto C 312 dX11_goesBy_300 (by decide) <| zpc 312 rfl <| ?_
      first | rw [nI_add] | skip
      refine zc_iastore C _ (tM_K_w hT) (znI (by omega)) (by omega) dX11_goesBy_312 <| zz_aload_0 C dX11_goesBy_313 <| zz_getR C fX11_64 (tM_K hT) (tM_R_r hT) dX11_goesBy_314 <| zz_iload_3 C dX11_goesBy_317 <| zz_iload_4 C dX11_goesBy_318 <| zpc 320 rfl <| ?_
      refine zz_if_le C 327 dX11_goesBy_320 (by decide) (fun c320 => ?_) (fun c320 => ?_)
      · exact absurd c320 (nI_nle (by omega) (by omega))
      · refine zz_iconst_0 C dX11_goesBy_323 <| zz_goto C 355 dX11_goesBy_324 (by decide) <| zc_iastore C _ (tM_K_r hT) (znI (by omega)) (by omega) dX11_goesBy_355 <| zz_aload_0 C dX11_goesBy_356 <| zz_getR C fX11_64 (tM_K hT) (tM_R_r hT) dX11_goesBy_357 <| zz_iload_3 C dX11_goesBy_360 <| zc_iaload C _ (tM_K_r hT) (znI (by omega)) (by omega) dX11_goesBy_361 <| zpc 362 rfl <| ?_
        rw [zI_self]
        refine zz_aload_0 C dX11_goesBy_362 <| zz_getI C fX11_227 (tM_K hT) dX11_goesBy_363 <| zpc 366 rfl <| ?_
        rw [a3]
        refine zz_icmp_lt C 376 dX11_goesBy_366 (by decide) (fun c366 => ?_) (fun c366 => ?_)
        · refine zz_iinc_3 C _ (zle rfl) rfl dX11_goesBy_376 nI_s <| zz_goto C 253 dX11_goesBy_379 (by decide) <| zpc 253 rfl <| ?_
          rw [nI_leI (by omega) (by omega)] at c295
          exact fin _ _ _ _ (p_end1 hc k _ _) (fun _ _ => rfl) (by first | (rw [if_pos (by omega)]; done) | (rw [if_neg (by omega)]; done) | (rw [if_pos (by omega)]; rfl)) rfl
        · exact absurd (show (0 : Int32) < nI N from nI_lt (a := 0) (by omega) (by omega)) c366
theorem eW_add (N a c w r : Nat) : eW N (a + c) 0 w r = eW N a c w r := rfl
theorem eR_add (N a c r : Nat) : eR N (a + c) 0 r = eR N a c r := rfl
/-- the day's end, road by road -/
theorem l_end3 (hT : zTM t) (hn : n ≤ 11) (C : zCx E b G RX11 cX11_goesBy 5 none) (hN3 : 3 ≤ N) (hN11 : N ≤ 11) (hrn : rn ≤ 1) (hw : ∀ k, k < n → w k ≤ 99) (hr : ∀ k, k < n → r k ≤ N) (hld : ∀ k, k < n → ld k < 2 ^ 20)
    (kont : ∀ (hc : zH) (x3 x4 : Option Value), zAg2 h hc → (∀ i j, ¬ (i = 233 ∨ i = 234) → zI hc i j = zI h i j) → (∀ i j, zL hc i j = zL h i j) → (∀ j, j < n → zI hc 233 j = nI (eW N (ld j) rn (w j) (r j)) ∧ zI hc 234 j = nI (eR N (ld j) rn (r j))) → zAW E b G 5 0 0 382 [some (.ref (b + 157)), some (.int (nI s)), some (.int (nI rn)), x3, x4] [] t hc)
    (q1 : zI h 157 30 = nI n) (q2 : zI h 157 31 = nI N) (q3 : ∀ j, j < n → zI h 235 j = nI (ld j)) (q4 : ∀ j, j < n → zI h 233 j = nI (w j)) (q5 : ∀ j, j < n → zI h 234 j = nI (r j)) :
    ∀ (m k : Nat) (hc : zH) (x4 : Option Value), k + m = n → zAg2 h hc → (∀ i j, ¬ (i = 233 ∨ i = 234) → zI hc i j = zI h i j) → (∀ i j, zL hc i j = zL h i j) → (∀ j, j < k → zI hc 233 j = nI (eW N (ld j) rn (w j) (r j)) ∧ zI hc 234 j = nI (eR N (ld j) rn (r j))) → (∀ j, k ≤ j → j < n → zI hc 233 j = nI (w j) ∧ zI hc 234 j = nI (r j)) → zAW E b G 5 0 0 253 [some (.ref (b + 157)), some (.int (nI s)), some (.int (nI rn)), some (.int (nI k)), x4] [] t hc := by
  intro m
  induction m with
  | zero =>
    intro k hc x4 hk ha e1 e2 e3 e4
    have hr2 : zI hc 157 30 = nI n := by rw [e1 _ _ (by omega)]; exact q1
    refine zz_iload_3 C dX11_goesBy_253 <| zz_aload_0 C dX11_goesBy_254 <| zz_getI C fX11_204 (tM_K hT) dX11_goesBy_255 <| zpc 258 rfl <| ?_
    rw [hr2]
    refine zz_icmp_ge C 382 dX11_goesBy_258 (by decide) (fun c258 => ?_) (fun c258 => ?_)
    · exact kont hc _ _ ha e1 e2 (fun j hj => e3 j (by omega))
    · exact absurd (nI_le (by omega) (by omega)) c258
  | succ m ih =>
    intro k hc x4 hk ha e1 e2 e3 e4
    have hr2 : zI hc 157 30 = nI n := by rw [e1 _ _ (by omega)]; exact q1
    have hk2 : k < n := by omega
    have hl2 : zI hc 235 k = nI (ld k) := by rw [e1 _ _ (by omega)]; exact q3 k hk2
    have hlb := hld k hk2
    have hN2 : zI hc 157 31 = nI N := by rw [e1 _ _ (by omega)]; exact q2
    obtain ⟨w2, r2⟩ := e4 k (Nat.le_refl k) hk2
    refine zz_iload_3 C dX11_goesBy_253 <| zz_aload_0 C dX11_goesBy_254 <| zz_getI C fX11_204 (tM_K hT) dX11_goesBy_255 <| zpc 258 rfl <| ?_
    rw [hr2]
    refine zz_icmp_ge C 382 dX11_goesBy_258 (by decide) (fun c258 => ?_) (fun c258 => ?_)
    · exact absurd c258 (nI_ge (by omega) (by omega))
    · refine zz_aload_0 C dX11_goesBy_261 <| zz_getR C fX11_67 (tM_K hT) (tM_R_load hT) dX11_goesBy_262 <| zz_iload_3 C dX11_goesBy_265 <| zc_iaload C _ (tM_K_load hT) (znI (by omega)) (by omega) dX11_goesBy_266 <| zpc 267 rfl <| ?_
      rw [hl2]
      refine zz_iload_2 C dX11_goesBy_267 <| zpc 268 rfl <| ?_
      refine zz_if_eq C 275 dX11_goesBy_268 (by decide) (fun c268 => ?_) (fun c268 => ?_)
      · refine zz_iconst_0 C dX11_goesBy_275 <| zz_iadd C dX11_goesBy_276 <| zpc 277 rfl <| ?_
        have hv : nI rn = 0 ↔ rn = 0 := nI_eq (b := 0) (by omega) (by omega)
        rw [hv] at c268
        first | rw [show nI (ld k) + 0 = nI (ld k + rn) from by rw [c268]; exact nI_add (ld k) 0] | rw [show nI (ld k) + 1 = nI (ld k + rn) from by rw [show rn = 1 by omega]; exact nI_add (ld k) 1]
        refine zz_istore_4 C (zle rfl) rfl dX11_goesBy_277 <| zpc 279 rfl <| ?_
        refine l_end2 hT C (by omega) (by omega) (hw k hk2) hN3 hN11 (hr k hk2) w2 r2 hN2 ?_
        intro hh y4 z1 z2
        rw [eW_add, eR_add] at z1
        refine ih (k + 1) hh y4 (by omega) ⟨fun i j hij => ?_, fun i j hij => (z2 i j).trans (ha.2 i j hij)⟩ (fun i j hij => ?_) (fun i j => (z2 i j).trans (e2 i j)) (fun j hj => ?_) (fun j hj1 hj2 => ?_)
        · rw [z1, if_neg (fun z => hij (by unfold sc2; omega)), if_neg (fun z => hij (by unfold sc2; omega))]; exact ha.1 i j hij
        · rw [z1, if_neg (fun z => hij (Or.inl z.1)), if_neg (fun z => hij (Or.inr z.1))]; exact e1 i j hij
        · by_cases hjk : j = k
          · subst hjk
            rw [z1, z1, if_pos ⟨rfl, rfl⟩, if_neg (by omega), if_pos ⟨rfl, rfl⟩]
            exact ⟨rfl, rfl⟩
          · rw [z1, z1, if_neg (fun z => hjk z.2), if_neg (fun z => hjk z.2), if_neg (fun z => hjk z.2), if_neg (fun z => hjk z.2)]
            exact e3 j (by omega)
        · rw [z1, z1, if_neg (by omega), if_neg (by omega), if_neg (by omega), if_neg (by omega)]
          exact e4 j (by omega) hj2
      · refine zz_iconst_1 C dX11_goesBy_271 <| zz_goto C 276 dX11_goesBy_272 (by decide) <| zz_iadd C dX11_goesBy_276 <| zpc 277 rfl <| ?_
        have hv : nI rn = 0 ↔ rn = 0 := nI_eq (b := 0) (by omega) (by omega)
        rw [hv] at c268
        first | rw [show nI (ld k) + 0 = nI (ld k + rn) from by rw [c268]; exact nI_add (ld k) 0] | rw [show nI (ld k) + 1 = nI (ld k + rn) from by rw [show rn = 1 by omega]; exact nI_add (ld k) 1]
        refine zz_istore_4 C (zle rfl) rfl dX11_goesBy_277 <| zpc 279 rfl <| ?_
        refine l_end2 hT C (by omega) (by omega) (hw k hk2) hN3 hN11 (hr k hk2) w2 r2 hN2 ?_
        intro hh y4 z1 z2
        rw [eW_add, eR_add] at z1
        refine ih (k + 1) hh y4 (by omega) ⟨fun i j hij => ?_, fun i j hij => (z2 i j).trans (ha.2 i j hij)⟩ (fun i j hij => ?_) (fun i j => (z2 i j).trans (e2 i j)) (fun j hj => ?_) (fun j hj1 hj2 => ?_)
        · rw [z1, if_neg (fun z => hij (by unfold sc2; omega)), if_neg (fun z => hij (by unfold sc2; omega))]; exact ha.1 i j hij
        · rw [z1, if_neg (fun z => hij (Or.inl z.1)), if_neg (fun z => hij (Or.inr z.1))]; exact e1 i j hij
        · by_cases hjk : j = k
          · subst hjk
            rw [z1, z1, if_pos ⟨rfl, rfl⟩, if_neg (by omega), if_pos ⟨rfl, rfl⟩]
            exact ⟨rfl, rfl⟩
          · rw [z1, z1, if_neg (fun z => hjk z.2), if_neg (fun z => hjk z.2), if_neg (fun z => hjk z.2), if_neg (fun z => hjk z.2)]
            exact e3 j (by omega)
        · rw [z1, z1, if_neg (by omega), if_neg (by omega), if_neg (by omega), if_neg (by omega)]
          exact e4 j (by omega) hj2
end MD
