/-! ===== the law's loop ===== -/
theorem nI_6 {x u : Nat} (hx : x < 2 ^ 30) (hu : u < 2 ^ 30) : nI u - 6 < nI x ↔ u < x + 6 := by
  rw [← Int32.not_le, Int32.le_iff_toInt_le, nI_toInt (by omega), show (6 : Int32) = nI 6 from rfl, sub_int hu (by omega)]
  omega
theorem ls_none {a0 a1 a2 a3 a4 x5 x6 x7 : Option Value} : ∀ (k : Nat) (v : Value), ([a0, a1, a2, a3, a4, none, none, none] : List (Option Value))[k]? = some (some v) → ([a0, a1, a2, a3, a4, x5, x6, x7] : List (Option Value))[k]? = some (some v)
  | 0, v, h => h
  | 1, v, h => h
  | 2, v, h => h
  | 3, v, h => h
  | 4, v, h => h
  | 5, v, h => by cases h
  | 6, v, h => by cases h
  | 7, v, h => by cases h
  | k + 8, v, h => by cases h
theorem jAft.up {t : zT} {h : zH} {K : Nat} (hJ : jAft t h K) : jAft t h (K + 1) := by
  obtain ⟨a, c, e, S, I⟩ := hJ
  exact ⟨a, c, e, S, I.1, I.2.1.up, I.2.2⟩
section LO
variable {E : zE} {b : Nat} {G : zG} {cells slots MC MS : Nat} {t : zT} {h : zH} {sb L : Nat} {xs : Nat → Int32} {j : Nat}
theorem l_switch (C : zCx E b G RL cL_law_ 8 (some .boolean)) (hR : zRoom G 20 MC MS) (V : lzS b G sb L xs) (hlt : G.2.1.stackTraces = false) (hJ : jAft t h j) (hj : 6 * j + 6 ≤ L) (hL : L ≤ 3072) (hc : cells + 1 ≤ MC) (hs : slots + 6 ≤ MS) (kont : ∀ t' h' x5 x6 x7, jAft t' h' (j + 1) → zAW E b G 8 (cells + 1) (slots + 6) 2442 [some (.ref sb), some (.ref (b + 0)), some (.ref (b + 157)), some (.ref (b + 250)), some (.int (nI (6 * j))), x5, x6, x7] [] t' h') (x : Int32) : zAW E b G 8 cells slots 40 [some (.ref sb), some (.ref (b + 0)), some (.ref (b + 157)), some (.ref (b + 250)), some (.int (nI (6 * j))), none, none, none] [.int x] t h := by
  by_cases hx : 0 ≤ x ∧ x ≤ 37
  · obtain ⟨n, hn, rfl⟩ := (upTo 37 37 rfl (by omega)).mp hx
    obtain ⟨a, c, e, S, I⟩ := hJ
    match n, hn with
    | 0, _ => exact zz_tableIn C 208 dL_law__40 (by decide) (by decide) (by first | rfl | decide) (by decide) (lc_feed C hR V hlt I hj hL hc hs kont)
    | 1, _ => exact zz_tableIn C 281 dL_law__40 (by decide) (by decide) (by first | rfl | decide) (by decide) (lc_land C hR V hlt I hj hL hc hs kont)
    | 2, _ => exact zz_tableIn C 337 dL_law__40 (by decide) (by decide) (by first | rfl | decide) (by decide) (lc_fault C hR V hlt I hj hL hc hs kont)
    | 3, _ => exact zz_tableIn C 350 dL_law__40 (by decide) (by decide) (by first | rfl | decide) (by decide) (lc_told C hR V hlt I hj hL hc hs kont)
    | 4, _ => exact zz_tableIn C 406 dL_law__40 (by decide) (by decide) (by first | rfl | decide) (by decide) (lc_road C hR V hlt I hj hL hc hs kont)
    | 5, _ => exact zz_tableIn C 474 dL_law__40 (by decide) (by decide) (by first | rfl | decide) (by decide) (lc_going C hR V hlt I hj hL hc hs kont)
    | 6, _ => exact zz_tableIn C 542 dL_law__40 (by decide) (by decide) (by first | rfl | decide) (by decide) (lc_way C hR V hlt I hj hL hc hs kont)
    | 7, _ => exact zz_tableIn C 610 dL_law__40 (by decide) (by decide) (by first | rfl | decide) (by decide) (lc_by C hR V hlt I hj hL hc hs kont)
    | 8, _ => exact zz_tableIn C 690 dL_law__40 (by decide) (by decide) (by first | rfl | decide) (by decide) (lc_shuts C hR V hlt I hj hL hc hs kont)
    | 9, _ => exact zz_tableIn C 746 dL_law__40 (by decide) (by decide) (by first | rfl | decide) (by decide) (lc_day C hR V hlt I hj hL hc hs kont)
    | 10, _ => exact zz_tableIn C 802 dL_law__40 (by decide) (by decide) (by first | rfl | decide) (by decide) (lc_run C hR V hlt I hj hL hc hs kont)
    | 11, _ => exact zz_tableIn C 869 dL_law__40 (by decide) (by decide) (by first | rfl | decide) (by decide) (lc_would C hR V hlt I hj hL hc hs kont)
    | 12, _ => exact zz_tableIn C 948 dL_law__40 (by decide) (by decide) (by first | rfl | decide) (by decide) (lc_row C hR V hlt I hj hL hc hs kont)
    | 13, _ => exact zz_tableIn C 1004 dL_law__40 (by decide) (by decide) (by first | rfl | decide) (by decide) (lc_clear C hR V hlt I hj hL hc hs kont)
    | 14, _ => exact zz_tableIn C 1017 dL_law__40 (by decide) (by decide) (by first | rfl | decide) (by decide) (lc_judge C hR V hlt I hj hL hc hs kont)
    | 15, _ => exact zz_tableIn C 1073 dL_law__40 (by decide) (by decide) (by first | rfl | decide) (by decide) (lc_minutes C hR V hlt I hj hL hc hs kont)
    | 16, _ => exact zz_tableIn C 1087 dL_law__40 (by decide) (by decide) (by first | rfl | decide) (by decide) (lc_ever C hR V hlt I hj hL hc hs kont)
    | 17, _ => exact zz_tableIn C 1143 dL_law__40 (by decide) (by decide) (by first | rfl | decide) (by decide) (lc_fewest C hR V hlt I hj hL hc hs kont)
    | 18, _ => exact zz_tableIn C 1223 dL_law__40 (by decide) (by decide) (by first | rfl | decide) (by decide) (lc_lasts C hR V hlt I hj hL hc hs kont)
    | 19, _ => exact zz_tableIn C 1303 dL_law__40 (by decide) (by decide) (by first | rfl | decide) (by decide) (lc_best C hR V hlt I hj hL hc hs kont)
    | 20, _ => exact zz_tableIn C 1371 dL_law__40 (by decide) (by decide) (by first | rfl | decide) (by decide) (lc_gap C hR V hlt I hj hL hc hs kont)
    | 21, _ => exact zz_tableIn C 1427 dL_law__40 (by decide) (by decide) (by first | rfl | decide) (by decide) (lc_toll C hR V hlt I hj hL hc hs kont)
    | 22, _ => exact zz_tableIn C 1506 dL_law__40 (by decide) (by decide) (by first | rfl | decide) (by decide) (lc_keep C hR V hlt I hj hL hc hs kont)
    | 23, _ => exact zz_tableIn C 1562 dL_law__40 (by decide) (by decide) (by first | rfl | decide) (by decide) (lc_careless C hR V hlt I hj hL hc hs kont)
    | 24, _ => exact zz_tableIn C 1629 dL_law__40 (by decide) (by decide) (by first | rfl | decide) (by decide) (lc_each C hR V hlt I hj hL hc hs kont)
    | 25, _ => exact zz_tableIn C 1696 dL_law__40 (by decide) (by decide) (by first | rfl | decide) (by decide) (lc_hold C hR V hlt I hj hL hc hs kont)
    | 26, _ => exact zz_tableIn C 1775 dL_law__40 (by decide) (by decide) (by first | rfl | decide) (by decide) (lc_who C hR V hlt I hj hL hc hs kont)
    | 27, _ => exact zz_tableIn C 1831 dL_law__40 (by decide) (by decide) (by first | rfl | decide) (by decide) (lc_more C hR V hlt I hj hL hc hs kont)
    | 28, _ => exact zz_tableIn C 1898 dL_law__40 (by decide) (by decide) (by first | rfl | decide) (by decide) (lc_which C hR V hlt I hj hL hc hs kont)
    | 29, _ => exact zz_tableIn C 1954 dL_law__40 (by decide) (by decide) (by first | rfl | decide) (by decide) (lc_men C hR V hlt I hj hL hc hs kont)
    | 30, _ => exact zz_tableIn C 2021 dL_law__40 (by decide) (by decide) (by first | rfl | decide) (by decide) (lc_beside C hR V hlt I hj hL hc hs kont)
    | 31, _ => exact zz_tableIn C 2077 dL_law__40 (by decide) (by decide) (by first | rfl | decide) (by decide) (lc_law C hR V hlt I hj hL hc hs kont)
    | 32, _ => exact zz_tableIn C 2144 dL_law__40 (by decide) (by decide) (by first | rfl | decide) (by decide) (lc_other C hR V hlt I hj hL hc hs kont)
    | 33, _ => exact zz_tableIn C 2200 dL_law__40 (by decide) (by decide) (by first | rfl | decide) (by decide) (lc_fits C hR V hlt I hj hL hc hs kont)
    | 34, _ => exact zz_tableIn C 2300 dL_law__40 (by decide) (by decide) (by first | rfl | decide) (by decide) (lc_seed C hR V hlt I hj hL hc hs kont)
    | 35, _ => exact zz_tableIn C 2391 dL_law__40 (by decide) (by decide) (by first | rfl | decide) (by decide) (lc_image C hR V hlt I hj hL hc hs kont)
    | 36, _ => exact zz_tableIn C 2404 dL_law__40 (by decide) (by decide) (by first | rfl | decide) (by decide) (lc_on C hR V hlt I hj hL hc hs kont)
    | 37, _ => exact zz_tableIn C 2417 dL_law__40 (by decide) (by decide) (by first | rfl | decide) (by decide) (lc_count C hR V hlt I hj hL hc hs kont)
    | n + 38, h9 => exact absurd h9 (by omega)
  · refine zz_tableOut C 2442 dL_law__40 ?_ (by decide) (zl_wd (by omega) (by omega) (kont _ _ _ _ _ hJ.up))
    rw [Int32.le_iff_toInt_le, Int32.le_iff_toInt_le] at hx
    have e0 : (0 : Int32).toInt = 0 := by decide
    have e37 : (37 : Int32).toInt = 37 := by decide
    rw [e0, e37] at hx
    omega
theorem l_loop (C : zCx E b G RL cL_law_ 8 (some .boolean)) (hR : zRoom G 20 MC MS) (V : lzS b G sb L xs) (hlt : G.2.1.stackTraces = false) (c0 s0 : Nat) (hc0 : c0 + 513 ≤ MC) (hs0 : s0 + 6 * 513 ≤ MS) (hend : ∀ cells slots ls t h, cells ≤ MC → slots ≤ MS → zAW E b G 8 cells slots 2448 ls [] t h) (j : Nat) (hj : j ≤ 512) : ∀ t h, jAft t h j → zAW E b G 8 (c0 + j) (s0 + 6 * j) 23 [some (.ref sb), some (.ref (b + 0)), some (.ref (b + 157)), some (.ref (b + 250)), some (.int (nI (6 * j))), none, none, none] [] t h := by
  refine zLoop (P := fun j => ∀ t h, jAft t h j → zAW E b G 8 (c0 + j) (s0 + 6 * j) 23 [some (.ref sb), some (.ref (b + 0)), some (.ref (b + 157)), some (.ref (b + 250)), some (.int (nI (6 * j))), none, none, none] [] t h) 512 (fun j hj ih => ?_) j hj
  intro t h hJ
  have hL := V.2.2
  refine zz_iload_4 C dL_law__23 <| zz_aload_0 C dL_law__25 <| zl_slen C V dL_law__26 <| zz_bipush C 6 dL_law__27 (by decide) <| zz_isub C dL_law__29 <| zpc 30 rfl <| ?_
  refine zz_icmp_gt C 2448 dL_law__30 (by decide) (fun _ => hend _ _ _ _ _ (by omega) (by omega)) (fun c1 => ?_)
  rw [nI_6 (by omega) (by omega)] at c1
  refine zz_aload_0 C dL_law__33 <| zz_iload_4 C dL_law__34 <| zl_sld C V (6 * j) rfl (by omega) dL_law__36 <| zz_bipush C 63 dL_law__37 (by decide) <| zz_iand C dL_law__39 <| zpc 40 rfl <| ?_
  refine l_switch C hR V hlt hJ (by omega) hL (by omega) (by omega) (fun t' h' x5 x6 x7 hJ' => ?_) _
  refine zz_iinc_4 C (nI (6 * (j + 1))) (zle rfl) rfl dL_law__2442 (by rw [show Int32.ofInt 6 = nI 6 by decide]; exact nI_ad (6 * j) 6) <| zz_goto C 23 dL_law__2445 (by decide) <| ?_
  exact zl_ls ls_none (zl_wd (by omega) (by omega) (ih (by omega) t' h' hJ'))
end LO
