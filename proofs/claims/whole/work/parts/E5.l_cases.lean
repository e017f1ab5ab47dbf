/-! ===== the law's cases ===== -/
section LC
variable {E : zE} {b : Nat} {G : zG} {cells slots MC MS : Nat} {t : zT} {h : zH} {sb L : Nat} {xs : Nat → Int32} {a c e j : Nat} {S : yJ}
theorem lc_feed (C : zCx E b G RL cL_law_ 8 (some .boolean)) (hR : zRoom G 20 MC MS) (V : lzS b G sb L xs) (hlt : G.2.1.stackTraces = false) (I : jI t h a c e S j) (hj : 6 * j + 6 ≤ L) (hL : L ≤ 3072) (hc : cells + 1 ≤ MC) (hs : slots + 6 ≤ MS) (kont : ∀ t' h' x5 x6 x7, jAft t' h' (j + 1) → zAW E b G 8 (cells + 1) (slots + 6) 2442 [some (.ref sb), some (.ref (b + 0)), some (.ref (b + 157)), some (.ref (b + 250)), some (.int (nI (6 * j))), x5, x6, x7] [] t' h') : zAW E b G 8 cells slots 208 [some (.ref sb), some (.ref (b + 0)), some (.ref (b + 157)), some (.ref (b + 250)), some (.int (nI (6 * j))), none, none, none] [] t h := by
  refine zz_aload_1 C dL_law__208 <| zz_aload_0 C dL_law__209 <| zz_iload_4 C dL_law__210 <| zz_iconst_1 C dL_law__212 <| zz_iadd C dL_law__213 <| zl_sld C V (6 * j + 1) (nI_ad (6 * j) 1) (by omega) dL_law__214 <| zz_aload_0 C dL_law__215 <| zz_iload_4 C dL_law__216 <| zz_iconst_2 C dL_law__218 <| zz_iadd C dL_law__219 <| zl_sld C V (6 * j + 2) (nI_ad (6 * j) 2) (by omega) dL_law__220 <| zz_aload_0 C dL_law__221 <| ?_
  refine zz_iload_4 C dL_law__222 <| zz_iconst_3 C dL_law__224 <| zz_iadd C dL_law__225 <| zl_sld C V (6 * j + 3) (nI_ad (6 * j) 3) (by omega) dL_law__226 <| zz_aload_0 C dL_law__227 <| zz_iload_4 C dL_law__228 <| zz_iconst_4 C dL_law__230 <| zz_iadd C dL_law__231 <| zl_sld C V (6 * j + 4) (nI_ad (6 * j) 4) (by omega) dL_law__232 <| zz_aload_0 C dL_law__233 <| zz_iload_4 C dL_law__234 <| zz_iconst_5 C dL_law__236 <| ?_
  refine zz_iadd C dL_law__237 <| zl_sld C V (6 * j + 5) (nI_ad (6 * j) 5) (by omega) dL_law__238 <| zpc 239 rfl <| ?_
  refine zy_callVI C hR [_, _, _, _, _] (je_feed I (by omega) _ _ _ _ _) lL_121 rfl I.kX (by decide) rfl ⟨zle rfl, zle rfl, by omega, by omega⟩ (zle rfl) dL_law__239 ?_
  intro k1 t1 h1 q1
  obtain ⟨hT1, d1, hd1, hm1⟩ := q1
  refine zz_aload_2 C dL_law__242 <| zz_aload_0 C dL_law__243 <| zz_iload_4 C dL_law__244 <| zz_iconst_1 C dL_law__246 <| zz_iadd C dL_law__247 <| zl_sld C V (6 * j + 1) (nI_ad (6 * j) 1) (by omega) dL_law__248 <| zz_aload_0 C dL_law__249 <| zz_iload_4 C dL_law__250 <| zz_iconst_2 C dL_law__252 <| zz_iadd C dL_law__253 <| zl_sld C V (6 * j + 2) (nI_ad (6 * j) 2) (by omega) dL_law__254 <| zz_aload_0 C dL_law__255 <| ?_
  refine zz_iload_4 C dL_law__256 <| zz_iconst_3 C dL_law__258 <| zz_iadd C dL_law__259 <| zl_sld C V (6 * j + 3) (nI_ad (6 * j) 3) (by omega) dL_law__260 <| zz_aload_0 C dL_law__261 <| zz_iload_4 C dL_law__262 <| zz_iconst_4 C dL_law__264 <| zz_iadd C dL_law__265 <| zl_sld C V (6 * j + 4) (nI_ad (6 * j) 4) (by omega) dL_law__266 <| zz_aload_0 C dL_law__267 <| zz_iload_4 C dL_law__268 <| zz_iconst_5 C dL_law__270 <| ?_
  refine zz_iadd C dL_law__271 <| zl_sld C V (6 * j + 5) (nI_ad (6 * j) 5) (by omega) dL_law__272 <| zpc 273 rfl <| ?_
  refine zy_callVI C hR [_, _, _, _, _] hm1 lL_125 rfl (tM_K hT1) (by decide) rfl ⟨by omega, by omega, by omega, by omega⟩ (zle rfl) dL_law__273 ?_
  intro r1 t2 h2 q2
  obtain ⟨rfl, q5⟩ := q2
  exact zz_icmp_eq C 2442 dL_law__276 (by decide) (fun _ => zl_wd (by omega) (by omega) (kont _ _ _ _ _ q5)) (fun z => absurd rfl z)
theorem lc_land (C : zCx E b G RL cL_law_ 8 (some .boolean)) (hR : zRoom G 20 MC MS) (V : lzS b G sb L xs) (hlt : G.2.1.stackTraces = false) (I : jI t h a c e S j) (hj : 6 * j + 6 ≤ L) (hL : L ≤ 3072) (hc : cells + 1 ≤ MC) (hs : slots + 6 ≤ MS) (kont : ∀ t' h' x5 x6 x7, jAft t' h' (j + 1) → zAW E b G 8 (cells + 1) (slots + 6) 2442 [some (.ref sb), some (.ref (b + 0)), some (.ref (b + 157)), some (.ref (b + 250)), some (.int (nI (6 * j))), x5, x6, x7] [] t' h') : zAW E b G 8 cells slots 281 [some (.ref sb), some (.ref (b + 0)), some (.ref (b + 157)), some (.ref (b + 250)), some (.int (nI (6 * j))), none, none, none] [] t h := by
  refine zz_aload_1 C dL_law__281 <| zz_aload_0 C dL_law__282 <| zz_iload_4 C dL_law__283 <| zz_iconst_1 C dL_law__285 <| zz_iadd C dL_law__286 <| zl_sld C V (6 * j + 1) (nI_ad (6 * j) 1) (by omega) dL_law__287 <| zz_aload_3 C dL_law__288 <| zpc 289 rfl <| ?_
  refine zy_callSW C hR [_, _, _] (jw_land I (by omega) hlt _) lL_126 rfl ⟨zle rfl, zle rfl, hc, hs⟩ (zle rfl) dL_law__289 ?_
  intro k1 t1 h1 q1
  obtain ⟨hT1, d1, hd1, hm1⟩ := q1
  refine zz_istore_5 C (zle rfl) rfl dL_law__292 <| zz_aload_2 C dL_law__294 <| zz_aload_0 C dL_law__295 <| zz_iload_4 C dL_law__296 <| zz_iconst_1 C dL_law__298 <| zz_iadd C dL_law__299 <| zl_sld C V (6 * j + 1) (nI_ad (6 * j) 1) (by omega) dL_law__300 <| zpc 301 rfl <| ?_
  refine zy_callVI C hR [_] hm1 lL_131 rfl (tM_K hT1) (by decide) rfl ⟨by omega, by omega, by omega, by omega⟩ (zle rfl) dL_law__301 ?_
  intro r1 t2 h2 q2
  obtain ⟨q3, q4, q5⟩ := q2
  obtain ⟨a2, c2, e2, S2, I2⟩ := id q5
  refine zz_istore_6 C (zle rfl) rfl dL_law__304 <| zz_aload_2 C dL_law__306 <| zpc 307 rfl <| ?_
  refine zf_callVI C hR [] (c_thrown I2.T) lL_132 rfl (tM_K I2.T) (by decide) rfl ⟨zle rfl, zle rfl, hc, hs⟩ (zle rfl) dL_law__307 ?_
  refine zz_iload_5 C dL_law__310 <| zpc 312 rfl <| ?_
  refine zz_icmp_eq C 317 dL_law__312 (by decide) (fun _ => ?_) (fun z => absurd q3 z)
  refine zz_iload_5 C dL_law__317 <| zpc 319 rfl <| ?_
  refine zz_if_ne C 334 dL_law__319 (by decide) (fun _ => zz_goto C 2442 dL_law__334 (by decide) (kont _ _ _ _ _ q5)) (fun z0 => ?_)
  refine zz_aload_3 C dL_law__322 <| zz_iconst_0 C dL_law__323 <| zc_laload C 0 I2.1.2.2.2 (zlit _ (by decide)) (by decide) dL_law__324 <| zz_iload_6 C dL_law__325 <| zz_i2l C dL_law__327 <| zz_lcmp C dL_law__328 <| zpc 329 rfl <| ?_
  exact zz_if_eq C 334 dL_law__329 (by decide) (fun _ => zz_goto C 2442 dL_law__334 (by decide) (kont _ _ _ _ _ q5)) (fun z => absurd (by rw [q4 z0]; exact lg_self _) z)
theorem lc_fault (C : zCx E b G RL cL_law_ 8 (some .boolean)) (hR : zRoom G 20 MC MS) (V : lzS b G sb L xs) (hlt : G.2.1.stackTraces = false) (I : jI t h a c e S j) (hj : 6 * j + 6 ≤ L) (hL : L ≤ 3072) (hc : cells + 1 ≤ MC) (hs : slots + 6 ≤ MS) (kont : ∀ t' h' x5 x6 x7, jAft t' h' (j + 1) → zAW E b G 8 (cells + 1) (slots + 6) 2442 [some (.ref sb), some (.ref (b + 0)), some (.ref (b + 157)), some (.ref (b + 250)), some (.int (nI (6 * j))), x5, x6, x7] [] t' h') : zAW E b G 8 cells slots 337 [some (.ref sb), some (.ref (b + 0)), some (.ref (b + 157)), some (.ref (b + 250)), some (.int (nI (6 * j))), none, none, none] [] t h := by
  refine zz_aload_1 C dL_law__337 <| zpc 338 rfl <| ?_
  refine zy_callVI C hR [] (je_fault I (by omega)) lL_136 rfl I.kX (by decide) rfl ⟨zle rfl, zle rfl, by omega, by omega⟩ (zle rfl) dL_law__338 ?_
  intro k1 t1 h1 q1
  obtain ⟨hT1, d1, hd1, hm1⟩ := q1
  refine zz_aload_2 C dL_law__341 <| zpc 342 rfl <| ?_
  refine zy_callVI C hR [] hm1 lL_139 rfl (tM_K hT1) (by decide) rfl ⟨by omega, by omega, by omega, by omega⟩ (zle rfl) dL_law__342 ?_
  intro r1 t2 h2 q2
  obtain ⟨rfl, q5⟩ := q2
  exact zz_icmp_eq C 2442 dL_law__345 (by decide) (fun _ => zl_wd (by omega) (by omega) (kont _ _ _ _ _ q5)) (fun z => absurd rfl z)
theorem lc_told (C : zCx E b G RL cL_law_ 8 (some .boolean)) (hR : zRoom G 20 MC MS) (V : lzS b G sb L xs) (hlt : G.2.1.stackTraces = false) (I : jI t h a c e S j) (hj : 6 * j + 6 ≤ L) (hL : L ≤ 3072) (hc : cells + 1 ≤ MC) (hs : slots + 6 ≤ MS) (kont : ∀ t' h' x5 x6 x7, jAft t' h' (j + 1) → zAW E b G 8 (cells + 1) (slots + 6) 2442 [some (.ref sb), some (.ref (b + 0)), some (.ref (b + 157)), some (.ref (b + 250)), some (.int (nI (6 * j))), x5, x6, x7] [] t' h') : zAW E b G 8 cells slots 350 [some (.ref sb), some (.ref (b + 0)), some (.ref (b + 157)), some (.ref (b + 250)), some (.int (nI (6 * j))), none, none, none] [] t h := by
  refine zz_aload_1 C dL_law__350 <| zz_aload_0 C dL_law__351 <| zz_iload_4 C dL_law__352 <| zz_iconst_1 C dL_law__354 <| zz_iadd C dL_law__355 <| zl_sld C V (6 * j + 1) (nI_ad (6 * j) 1) (by omega) dL_law__356 <| zz_aload_3 C dL_law__357 <| zpc 358 rfl <| ?_
  refine zy_callSW C hR [_, _, _] (jw_told I (by omega) hlt _) lL_140 rfl ⟨zle rfl, zle rfl, hc, hs⟩ (zle rfl) dL_law__358 ?_
  intro k1 t1 h1 q1
  obtain ⟨hT1, d1, hd1, hm1⟩ := q1
  refine zz_istore_5 C (zle rfl) rfl dL_law__361 <| zz_aload_2 C dL_law__363 <| zz_aload_0 C dL_law__364 <| zz_iload_4 C dL_law__365 <| zz_iconst_1 C dL_law__367 <| zz_iadd C dL_law__368 <| zl_sld C V (6 * j + 1) (nI_ad (6 * j) 1) (by omega) dL_law__369 <| zpc 370 rfl <| ?_
  refine zy_callVI C hR [_] hm1 lL_142 rfl (tM_K hT1) (by decide) rfl ⟨by omega, by omega, by omega, by omega⟩ (zle rfl) dL_law__370 ?_
  intro r1 t2 h2 q2
  obtain ⟨q3, q4, q5⟩ := q2
  obtain ⟨a2, c2, e2, S2, I2⟩ := id q5
  refine zz_istore_6 C (zle rfl) rfl dL_law__373 <| zz_aload_2 C dL_law__375 <| zpc 376 rfl <| ?_
  refine zf_callVI C hR [] (c_thrown I2.T) lL_132 rfl (tM_K I2.T) (by decide) rfl ⟨zle rfl, zle rfl, hc, hs⟩ (zle rfl) dL_law__376 ?_
  refine zz_iload_5 C dL_law__379 <| zpc 381 rfl <| ?_
  refine zz_icmp_eq C 386 dL_law__381 (by decide) (fun _ => ?_) (fun z => absurd q3 z)
  refine zz_iload_5 C dL_law__386 <| zpc 388 rfl <| ?_
  refine zz_if_ne C 403 dL_law__388 (by decide) (fun _ => zz_goto C 2442 dL_law__403 (by decide) (kont _ _ _ _ _ q5)) (fun z0 => ?_)
  refine zz_aload_3 C dL_law__391 <| zz_iconst_0 C dL_law__392 <| zc_laload C 0 I2.1.2.2.2 (zlit _ (by decide)) (by decide) dL_law__393 <| zz_iload_6 C dL_law__394 <| zz_i2l C dL_law__396 <| zz_lcmp C dL_law__397 <| zpc 398 rfl <| ?_
  exact zz_if_eq C 403 dL_law__398 (by decide) (fun _ => zz_goto C 2442 dL_law__403 (by decide) (kont _ _ _ _ _ q5)) (fun z => absurd (by rw [q4 z0]; exact lg_self _) z)
theorem lc_road (C : zCx E b G RL cL_law_ 8 (some .boolean)) (hR : zRoom G 20 MC MS) (V : lzS b G sb L xs) (hlt : G.2.1.stackTraces = false) (I : jI t h a c e S j) (hj : 6 * j + 6 ≤ L) (hL : L ≤ 3072) (hc : cells + 1 ≤ MC) (hs : slots + 6 ≤ MS) (kont : ∀ t' h' x5 x6 x7, jAft t' h' (j + 1) → zAW E b G 8 (cells + 1) (slots + 6) 2442 [some (.ref sb), some (.ref (b + 0)), some (.ref (b + 157)), some (.ref (b + 250)), some (.int (nI (6 * j))), x5, x6, x7] [] t' h') : zAW E b G 8 cells slots 406 [some (.ref sb), some (.ref (b + 0)), some (.ref (b + 157)), some (.ref (b + 250)), some (.int (nI (6 * j))), none, none, none] [] t h := by
  refine zz_aload_1 C dL_law__406 <| zz_aload_0 C dL_law__407 <| zz_iload_4 C dL_law__408 <| zz_iconst_1 C dL_law__410 <| zz_iadd C dL_law__411 <| zl_sld C V (6 * j + 1) (nI_ad (6 * j) 1) (by omega) dL_law__412 <| zz_aload_0 C dL_law__413 <| zz_iload_4 C dL_law__414 <| zz_iconst_2 C dL_law__416 <| zz_iadd C dL_law__417 <| zl_sld C V (6 * j + 2) (nI_ad (6 * j) 2) (by omega) dL_law__418 <| zz_aload_3 C dL_law__419 <| zpc 420 rfl <| ?_
  refine zy_callSW C hR [_, _, _, _] (jw_road I (by omega) hlt _ _) lL_143 rfl ⟨zle rfl, zle rfl, hc, hs⟩ (zle rfl) dL_law__420 ?_
  intro k1 t1 h1 q1
  obtain ⟨hT1, d1, hd1, hm1⟩ := q1
  refine zz_istore_5 C (zle rfl) rfl dL_law__423 <| zz_aload_2 C dL_law__425 <| zz_aload_0 C dL_law__426 <| zz_iload_4 C dL_law__427 <| zz_iconst_1 C dL_law__429 <| zz_iadd C dL_law__430 <| zl_sld C V (6 * j + 1) (nI_ad (6 * j) 1) (by omega) dL_law__431 <| zz_aload_0 C dL_law__432 <| zz_iload_4 C dL_law__433 <| zz_iconst_2 C dL_law__435 <| zz_iadd C dL_law__436 <| zl_sld C V (6 * j + 2) (nI_ad (6 * j) 2) (by omega) dL_law__437 <| zpc 438 rfl <| ?_
  refine zy_callVI C hR [_, _] hm1 lL_146 rfl (tM_K hT1) (by decide) rfl ⟨by omega, by omega, by omega, by omega⟩ (zle rfl) dL_law__438 ?_
  intro r1 t2 h2 q2
  obtain ⟨q3, q4, q5⟩ := q2
  obtain ⟨a2, c2, e2, S2, I2⟩ := id q5
  refine zz_istore_6 C (zle rfl) rfl dL_law__441 <| zz_aload_2 C dL_law__443 <| zpc 444 rfl <| ?_
  refine zf_callVI C hR [] (c_thrown I2.T) lL_132 rfl (tM_K I2.T) (by decide) rfl ⟨zle rfl, zle rfl, hc, hs⟩ (zle rfl) dL_law__444 ?_
  refine zz_iload_5 C dL_law__447 <| zpc 449 rfl <| ?_
  refine zz_icmp_eq C 454 dL_law__449 (by decide) (fun _ => ?_) (fun z => absurd q3 z)
  refine zz_iload_5 C dL_law__454 <| zpc 456 rfl <| ?_
  refine zz_if_ne C 471 dL_law__456 (by decide) (fun _ => zz_goto C 2442 dL_law__471 (by decide) (kont _ _ _ _ _ q5)) (fun z0 => ?_)
  refine zz_aload_3 C dL_law__459 <| zz_iconst_0 C dL_law__460 <| zc_laload C 0 I2.1.2.2.2 (zlit _ (by decide)) (by decide) dL_law__461 <| zz_iload_6 C dL_law__462 <| zz_i2l C dL_law__464 <| zz_lcmp C dL_law__465 <| zpc 466 rfl <| ?_
  exact zz_if_eq C 471 dL_law__466 (by decide) (fun _ => zz_goto C 2442 dL_law__471 (by decide) (kont _ _ _ _ _ q5)) (fun z => absurd (by rw [q4 z0]; exact lg_self _) z)
theorem lc_going (C : zCx E b G RL cL_law_ 8 (some .boolean)) (hR : zRoom G 20 MC MS) (V : lzS b G sb L xs) (hlt : G.2.1.stackTraces = false) (I : jI t h a c e S j) (hj : 6 * j + 6 ≤ L) (hL : L ≤ 3072) (hc : cells + 1 ≤ MC) (hs : slots + 6 ≤ MS) (kont : ∀ t' h' x5 x6 x7, jAft t' h' (j + 1) → zAW E b G 8 (cells + 1) (slots + 6) 2442 [some (.ref sb), some (.ref (b + 0)), some (.ref (b + 157)), some (.ref (b + 250)), some (.int (nI (6 * j))), x5, x6, x7] [] t' h') : zAW E b G 8 cells slots 474 [some (.ref sb), some (.ref (b + 0)), some (.ref (b + 157)), some (.ref (b + 250)), some (.int (nI (6 * j))), none, none, none] [] t h := by
  refine zz_aload_1 C dL_law__474 <| zz_aload_0 C dL_law__475 <| zz_iload_4 C dL_law__476 <| zz_iconst_1 C dL_law__478 <| zz_iadd C dL_law__479 <| zl_sld C V (6 * j + 1) (nI_ad (6 * j) 1) (by omega) dL_law__480 <| zz_aload_0 C dL_law__481 <| zz_iload_4 C dL_law__482 <| zz_iconst_2 C dL_law__484 <| zz_iadd C dL_law__485 <| zl_sld C V (6 * j + 2) (nI_ad (6 * j) 2) (by omega) dL_law__486 <| zz_aload_3 C dL_law__487 <| zpc 488 rfl <| ?_
  refine zy_callSW C hR [_, _, _, _] (jw_going I (by omega) hlt _ _) lL_147 rfl ⟨zle rfl, zle rfl, hc, hs⟩ (zle rfl) dL_law__488 ?_
  intro k1 t1 h1 q1
  obtain ⟨hT1, d1, hd1, hm1⟩ := q1
  refine zz_istore_5 C (zle rfl) rfl dL_law__491 <| zz_aload_2 C dL_law__493 <| zz_aload_0 C dL_law__494 <| zz_iload_4 C dL_law__495 <| zz_iconst_1 C dL_law__497 <| zz_iadd C dL_law__498 <| zl_sld C V (6 * j + 1) (nI_ad (6 * j) 1) (by omega) dL_law__499 <| zz_aload_0 C dL_law__500 <| zz_iload_4 C dL_law__501 <| zz_iconst_2 C dL_law__503 <| zz_iadd C dL_law__504 <| zl_sld C V (6 * j + 2) (nI_ad (6 * j) 2) (by omega) dL_law__505 <| zpc 506 rfl <| ?_
  refine zy_callVI C hR [_, _] hm1 lL_149 rfl (tM_K hT1) (by decide) rfl ⟨by omega, by omega, by omega, by omega⟩ (zle rfl) dL_law__506 ?_
  intro r1 t2 h2 q2
  obtain ⟨q3, q4, q5⟩ := q2
  obtain ⟨a2, c2, e2, S2, I2⟩ := id q5
  refine zz_istore_6 C (zle rfl) rfl dL_law__509 <| zz_aload_2 C dL_law__511 <| zpc 512 rfl <| ?_
  refine zf_callVI C hR [] (c_thrown I2.T) lL_132 rfl (tM_K I2.T) (by decide) rfl ⟨zle rfl, zle rfl, hc, hs⟩ (zle rfl) dL_law__512 ?_
  refine zz_iload_5 C dL_law__515 <| zpc 517 rfl <| ?_
  refine zz_icmp_eq C 522 dL_law__517 (by decide) (fun _ => ?_) (fun z => absurd q3 z)
  refine zz_iload_5 C dL_law__522 <| zpc 524 rfl <| ?_
  refine zz_if_ne C 539 dL_law__524 (by decide) (fun _ => zz_goto C 2442 dL_law__539 (by decide) (kont _ _ _ _ _ q5)) (fun z0 => ?_)
  refine zz_aload_3 C dL_law__527 <| zz_iconst_0 C dL_law__528 <| zc_laload C 0 I2.1.2.2.2 (zlit _ (by decide)) (by decide) dL_law__529 <| zz_iload_6 C dL_law__530 <| zz_i2l C dL_law__532 <| zz_lcmp C dL_law__533 <| zpc 534 rfl <| ?_
  exact zz_if_eq C 539 dL_law__534 (by decide) (fun _ => zz_goto C 2442 dL_law__539 (by decide) (kont _ _ _ _ _ q5)) (fun z => absurd (by rw [q4 z0]; exact lg_self _) z)
theorem lc_way (C : zCx E b G RL cL_law_ 8 (some .boolean)) (hR : zRoom G 20 MC MS) (V : lzS b G sb L xs) (hlt : G.2.1.stackTraces = false) (I : jI t h a c e S j) (hj : 6 * j + 6 ≤ L) (hL : L ≤ 3072) (hc : cells + 1 ≤ MC) (hs : slots + 6 ≤ MS) (kont : ∀ t' h' x5 x6 x7, jAft t' h' (j + 1) → zAW E b G 8 (cells + 1) (slots + 6) 2442 [some (.ref sb), some (.ref (b + 0)), some (.ref (b + 157)), some (.ref (b + 250)), some (.int (nI (6 * j))), x5, x6, x7] [] t' h') : zAW E b G 8 cells slots 542 [some (.ref sb), some (.ref (b + 0)), some (.ref (b + 157)), some (.ref (b + 250)), some (.int (nI (6 * j))), none, none, none] [] t h := by
  refine zz_aload_1 C dL_law__542 <| zz_aload_0 C dL_law__543 <| zz_iload_4 C dL_law__544 <| zz_iconst_1 C dL_law__546 <| zz_iadd C dL_law__547 <| zl_sld C V (6 * j + 1) (nI_ad (6 * j) 1) (by omega) dL_law__548 <| zz_aload_0 C dL_law__549 <| zz_iload_4 C dL_law__550 <| zz_iconst_2 C dL_law__552 <| zz_iadd C dL_law__553 <| zl_sld C V (6 * j + 2) (nI_ad (6 * j) 2) (by omega) dL_law__554 <| zz_aload_3 C dL_law__555 <| zpc 556 rfl <| ?_
  refine zy_callSW C hR [_, _, _, _] (jw_way I (by omega) hlt _ _) lL_150 rfl ⟨zle rfl, zle rfl, hc, hs⟩ (zle rfl) dL_law__556 ?_
  intro k1 t1 h1 q1
  obtain ⟨hT1, d1, hd1, hm1⟩ := q1
  refine zz_istore_5 C (zle rfl) rfl dL_law__559 <| zz_aload_2 C dL_law__561 <| zz_aload_0 C dL_law__562 <| zz_iload_4 C dL_law__563 <| zz_iconst_1 C dL_law__565 <| zz_iadd C dL_law__566 <| zl_sld C V (6 * j + 1) (nI_ad (6 * j) 1) (by omega) dL_law__567 <| zz_aload_0 C dL_law__568 <| zz_iload_4 C dL_law__569 <| zz_iconst_2 C dL_law__571 <| zz_iadd C dL_law__572 <| zl_sld C V (6 * j + 2) (nI_ad (6 * j) 2) (by omega) dL_law__573 <| zpc 574 rfl <| ?_
  refine zy_callVI C hR [_, _] hm1 lL_152 rfl (tM_K hT1) (by decide) rfl ⟨by omega, by omega, by omega, by omega⟩ (zle rfl) dL_law__574 ?_
  intro r1 t2 h2 q2
  obtain ⟨q3, q4, q5⟩ := q2
  obtain ⟨a2, c2, e2, S2, I2⟩ := id q5
  refine zz_istore_6 C (zle rfl) rfl dL_law__577 <| zz_aload_2 C dL_law__579 <| zpc 580 rfl <| ?_
  refine zf_callVI C hR [] (c_thrown I2.T) lL_132 rfl (tM_K I2.T) (by decide) rfl ⟨zle rfl, zle rfl, hc, hs⟩ (zle rfl) dL_law__580 ?_
  refine zz_iload_5 C dL_law__583 <| zpc 585 rfl <| ?_
  refine zz_icmp_eq C 590 dL_law__585 (by decide) (fun _ => ?_) (fun z => absurd q3 z)
  refine zz_iload_5 C dL_law__590 <| zpc 592 rfl <| ?_
  refine zz_if_ne C 607 dL_law__592 (by decide) (fun _ => zz_goto C 2442 dL_law__607 (by decide) (kont _ _ _ _ _ q5)) (fun z0 => ?_)
  refine zz_aload_3 C dL_law__595 <| zz_iconst_0 C dL_law__596 <| zc_laload C 0 I2.1.2.2.2 (zlit _ (by decide)) (by decide) dL_law__597 <| zz_iload_6 C dL_law__598 <| zz_i2l C dL_law__600 <| zz_lcmp C dL_law__601 <| zpc 602 rfl <| ?_
  exact zz_if_eq C 607 dL_law__602 (by decide) (fun _ => zz_goto C 2442 dL_law__607 (by decide) (kont _ _ _ _ _ q5)) (fun z => absurd (by rw [q4 z0]; exact lg_self _) z)
theorem lc_by (C : zCx E b G RL cL_law_ 8 (some .boolean)) (hR : zRoom G 20 MC MS) (V : lzS b G sb L xs) (hlt : G.2.1.stackTraces = false) (I : jI t h a c e S j) (hj : 6 * j + 6 ≤ L) (hL : L ≤ 3072) (hc : cells + 1 ≤ MC) (hs : slots + 6 ≤ MS) (kont : ∀ t' h' x5 x6 x7, jAft t' h' (j + 1) → zAW E b G 8 (cells + 1) (slots + 6) 2442 [some (.ref sb), some (.ref (b + 0)), some (.ref (b + 157)), some (.ref (b + 250)), some (.int (nI (6 * j))), x5, x6, x7] [] t' h') : zAW E b G 8 cells slots 610 [some (.ref sb), some (.ref (b + 0)), some (.ref (b + 157)), some (.ref (b + 250)), some (.int (nI (6 * j))), none, none, none] [] t h := by
  refine zz_aload_1 C dL_law__610 <| zz_aload_0 C dL_law__611 <| zz_iload_4 C dL_law__612 <| zz_iconst_1 C dL_law__614 <| zz_iadd C dL_law__615 <| zl_sld C V (6 * j + 1) (nI_ad (6 * j) 1) (by omega) dL_law__616 <| zz_aload_0 C dL_law__617 <| zz_iload_4 C dL_law__618 <| zz_iconst_2 C dL_law__620 <| zz_iadd C dL_law__621 <| zl_sld C V (6 * j + 2) (nI_ad (6 * j) 2) (by omega) dL_law__622 <| zz_aload_0 C dL_law__623 <| ?_
  refine zz_iload_4 C dL_law__624 <| zz_iconst_3 C dL_law__626 <| zz_iadd C dL_law__627 <| zl_sld C V (6 * j + 3) (nI_ad (6 * j) 3) (by omega) dL_law__628 <| zz_aload_3 C dL_law__629 <| zpc 630 rfl <| ?_
  refine zy_callSW C hR [_, _, _, _, _] (jw_by I (by omega) hlt _ _ _) lL_153 rfl ⟨zle rfl, zle rfl, hc, hs⟩ (zle rfl) dL_law__630 ?_
  intro k1 t1 h1 q1
  obtain ⟨hT1, d1, hd1, hm1⟩ := q1
  refine zz_istore_5 C (zle rfl) rfl dL_law__633 <| zz_aload_2 C dL_law__635 <| zz_aload_0 C dL_law__636 <| zz_iload_4 C dL_law__637 <| zz_iconst_1 C dL_law__639 <| zz_iadd C dL_law__640 <| zl_sld C V (6 * j + 1) (nI_ad (6 * j) 1) (by omega) dL_law__641 <| zz_aload_0 C dL_law__642 <| zz_iload_4 C dL_law__643 <| zz_iconst_2 C dL_law__645 <| zz_iadd C dL_law__646 <| zl_sld C V (6 * j + 2) (nI_ad (6 * j) 2) (by omega) dL_law__647 <| ?_
  refine zz_aload_0 C dL_law__648 <| zz_iload_4 C dL_law__649 <| zz_iconst_3 C dL_law__651 <| zz_iadd C dL_law__652 <| zl_sld C V (6 * j + 3) (nI_ad (6 * j) 3) (by omega) dL_law__653 <| zpc 654 rfl <| ?_
  refine zy_callVI C hR [_, _, _] hm1 lL_156 rfl (tM_K hT1) (by decide) rfl ⟨by omega, by omega, by omega, by omega⟩ (zle rfl) dL_law__654 ?_
  intro r1 t2 h2 q2
  obtain ⟨q3, q4, q5⟩ := q2
  obtain ⟨a2, c2, e2, S2, I2⟩ := id q5
  refine zz_istore_6 C (zle rfl) rfl dL_law__657 <| zz_aload_2 C dL_law__659 <| zpc 660 rfl <| ?_
  refine zf_callVI C hR [] (c_thrown I2.T) lL_132 rfl (tM_K I2.T) (by decide) rfl ⟨zle rfl, zle rfl, hc, hs⟩ (zle rfl) dL_law__660 ?_
  refine zz_iload_5 C dL_law__663 <| zpc 665 rfl <| ?_
  refine zz_icmp_eq C 670 dL_law__665 (by decide) (fun _ => ?_) (fun z => absurd q3 z)
  refine zz_iload_5 C dL_law__670 <| zpc 672 rfl <| ?_
  refine zz_if_ne C 687 dL_law__672 (by decide) (fun _ => zz_goto C 2442 dL_law__687 (by decide) (kont _ _ _ _ _ q5)) (fun z0 => ?_)
  refine zz_aload_3 C dL_law__675 <| zz_iconst_0 C dL_law__676 <| zc_laload C 0 I2.1.2.2.2 (zlit _ (by decide)) (by decide) dL_law__677 <| zz_iload_6 C dL_law__678 <| zz_i2l C dL_law__680 <| zz_lcmp C dL_law__681 <| zpc 682 rfl <| ?_
  exact zz_if_eq C 687 dL_law__682 (by decide) (fun _ => zz_goto C 2442 dL_law__687 (by decide) (kont _ _ _ _ _ q5)) (fun z => absurd (by rw [q4 z0]; exact lg_self _) z)
theorem lc_shuts (C : zCx E b G RL cL_law_ 8 (some .boolean)) (hR : zRoom G 20 MC MS) (V : lzS b G sb L xs) (hlt : G.2.1.stackTraces = false) (I : jI t h a c e S j) (hj : 6 * j + 6 ≤ L) (hL : L ≤ 3072) (hc : cells + 1 ≤ MC) (hs : slots + 6 ≤ MS) (kont : ∀ t' h' x5 x6 x7, jAft t' h' (j + 1) → zAW E b G 8 (cells + 1) (slots + 6) 2442 [some (.ref sb), some (.ref (b + 0)), some (.ref (b + 157)), some (.ref (b + 250)), some (.int (nI (6 * j))), x5, x6, x7] [] t' h') : zAW E b G 8 cells slots 690 [some (.ref sb), some (.ref (b + 0)), some (.ref (b + 157)), some (.ref (b + 250)), some (.int (nI (6 * j))), none, none, none] [] t h := by
  refine zz_aload_1 C dL_law__690 <| zz_aload_0 C dL_law__691 <| zz_iload_4 C dL_law__692 <| zz_iconst_1 C dL_law__694 <| zz_iadd C dL_law__695 <| zl_sld C V (6 * j + 1) (nI_ad (6 * j) 1) (by omega) dL_law__696 <| zz_aload_3 C dL_law__697 <| zpc 698 rfl <| ?_
  refine zy_callSW C hR [_, _, _] (jw_shuts I (by omega) hlt _) lL_157 rfl ⟨zle rfl, zle rfl, hc, hs⟩ (zle rfl) dL_law__698 ?_
  intro k1 t1 h1 q1
  obtain ⟨hT1, d1, hd1, hm1⟩ := q1
  refine zz_istore_5 C (zle rfl) rfl dL_law__701 <| zz_aload_2 C dL_law__703 <| zz_aload_0 C dL_law__704 <| zz_iload_4 C dL_law__705 <| zz_iconst_1 C dL_law__707 <| zz_iadd C dL_law__708 <| zl_sld C V (6 * j + 1) (nI_ad (6 * j) 1) (by omega) dL_law__709 <| zpc 710 rfl <| ?_
  refine zy_callVI C hR [_] hm1 lL_159 rfl (tM_K hT1) (by decide) rfl ⟨by omega, by omega, by omega, by omega⟩ (zle rfl) dL_law__710 ?_
  intro r1 t2 h2 q2
  obtain ⟨q3, q4, q5⟩ := q2
  obtain ⟨a2, c2, e2, S2, I2⟩ := id q5
  refine zz_istore_6 C (zle rfl) rfl dL_law__713 <| zz_aload_2 C dL_law__715 <| zpc 716 rfl <| ?_
  refine zf_callVI C hR [] (c_thrown I2.T) lL_132 rfl (tM_K I2.T) (by decide) rfl ⟨zle rfl, zle rfl, hc, hs⟩ (zle rfl) dL_law__716 ?_
  refine zz_iload_5 C dL_law__719 <| zpc 721 rfl <| ?_
  refine zz_icmp_eq C 726 dL_law__721 (by decide) (fun _ => ?_) (fun z => absurd q3 z)
  refine zz_iload_5 C dL_law__726 <| zpc 728 rfl <| ?_
  refine zz_if_ne C 743 dL_law__728 (by decide) (fun _ => zz_goto C 2442 dL_law__743 (by decide) (kont _ _ _ _ _ q5)) (fun z0 => ?_)
  refine zz_aload_3 C dL_law__731 <| zz_iconst_0 C dL_law__732 <| zc_laload C 0 I2.1.2.2.2 (zlit _ (by decide)) (by decide) dL_law__733 <| zz_iload_6 C dL_law__734 <| zz_i2l C dL_law__736 <| zz_lcmp C dL_law__737 <| zpc 738 rfl <| ?_
  exact zz_if_eq C 743 dL_law__738 (by decide) (fun _ => zz_goto C 2442 dL_law__743 (by decide) (kont _ _ _ _ _ q5)) (fun z => absurd (by rw [q4 z0]; exact lg_self _) z)
theorem lc_day (C : zCx E b G RL cL_law_ 8 (some .boolean)) (hR : zRoom G 20 MC MS) (V : lzS b G sb L xs) (hlt : G.2.1.stackTraces = false) (I : jI t h a c e S j) (hj : 6 * j + 6 ≤ L) (hL : L ≤ 3072) (hc : cells + 1 ≤ MC) (hs : slots + 6 ≤ MS) (kont : ∀ t' h' x5 x6 x7, jAft t' h' (j + 1) → zAW E b G 8 (cells + 1) (slots + 6) 2442 [some (.ref sb), some (.ref (b + 0)), some (.ref (b + 157)), some (.ref (b + 250)), some (.int (nI (6 * j))), x5, x6, x7] [] t' h') : zAW E b G 8 cells slots 746 [some (.ref sb), some (.ref (b + 0)), some (.ref (b + 157)), some (.ref (b + 250)), some (.int (nI (6 * j))), none, none, none] [] t h := by
  refine zz_aload_1 C dL_law__746 <| zz_aload_0 C dL_law__747 <| zz_iload_4 C dL_law__748 <| zz_iconst_1 C dL_law__750 <| zz_iadd C dL_law__751 <| zl_sld C V (6 * j + 1) (nI_ad (6 * j) 1) (by omega) dL_law__752 <| zz_aload_3 C dL_law__753 <| zpc 754 rfl <| ?_
  refine zy_callSW C hR [_, _, _] (jw_day I (by omega) hlt _) lL_160 rfl ⟨zle rfl, zle rfl, hc, hs⟩ (zle rfl) dL_law__754 ?_
  intro k1 t1 h1 q1
  obtain ⟨hT1, d1, hd1, hm1⟩ := q1
  refine zz_istore_5 C (zle rfl) rfl dL_law__757 <| zz_aload_2 C dL_law__759 <| zz_aload_0 C dL_law__760 <| zz_iload_4 C dL_law__761 <| zz_iconst_1 C dL_law__763 <| zz_iadd C dL_law__764 <| zl_sld C V (6 * j + 1) (nI_ad (6 * j) 1) (by omega) dL_law__765 <| zpc 766 rfl <| ?_
  refine zy_callVI C hR [_] hm1 lL_162 rfl (tM_K hT1) (by decide) rfl ⟨by omega, by omega, by omega, by omega⟩ (zle rfl) dL_law__766 ?_
  intro r1 t2 h2 q2
  obtain ⟨q3, q4, q5⟩ := q2
  obtain ⟨a2, c2, e2, S2, I2⟩ := id q5
  refine zz_istore_6 C (zle rfl) rfl dL_law__769 <| zz_aload_2 C dL_law__771 <| zpc 772 rfl <| ?_
  refine zf_callVI C hR [] (c_thrown I2.T) lL_132 rfl (tM_K I2.T) (by decide) rfl ⟨zle rfl, zle rfl, hc, hs⟩ (zle rfl) dL_law__772 ?_
  refine zz_iload_5 C dL_law__775 <| zpc 777 rfl <| ?_
  refine zz_icmp_eq C 782 dL_law__777 (by decide) (fun _ => ?_) (fun z => absurd q3 z)
  refine zz_iload_5 C dL_law__782 <| zpc 784 rfl <| ?_
  refine zz_if_ne C 799 dL_law__784 (by decide) (fun _ => zz_goto C 2442 dL_law__799 (by decide) (kont _ _ _ _ _ q5)) (fun z0 => ?_)
  refine zz_aload_3 C dL_law__787 <| zz_iconst_0 C dL_law__788 <| zc_laload C 0 I2.1.2.2.2 (zlit _ (by decide)) (by decide) dL_law__789 <| zz_iload_6 C dL_law__790 <| zz_i2l C dL_law__792 <| zz_lcmp C dL_law__793 <| zpc 794 rfl <| ?_
  exact zz_if_eq C 799 dL_law__794 (by decide) (fun _ => zz_goto C 2442 dL_law__799 (by decide) (kont _ _ _ _ _ q5)) (fun z => absurd (by rw [q4 z0]; exact lg_self _) z)
theorem lc_run (C : zCx E b G RL cL_law_ 8 (some .boolean)) (hR : zRoom G 20 MC MS) (V : lzS b G sb L xs) (hlt : G.2.1.stackTraces = false) (I : jI t h a c e S j) (hj : 6 * j + 6 ≤ L) (hL : L ≤ 3072) (hc : cells + 1 ≤ MC) (hs : slots + 6 ≤ MS) (kont : ∀ t' h' x5 x6 x7, jAft t' h' (j + 1) → zAW E b G 8 (cells + 1) (slots + 6) 2442 [some (.ref sb), some (.ref (b + 0)), some (.ref (b + 157)), some (.ref (b + 250)), some (.int (nI (6 * j))), x5, x6, x7] [] t' h') : zAW E b G 8 cells slots 802 [some (.ref sb), some (.ref (b + 0)), some (.ref (b + 157)), some (.ref (b + 250)), some (.int (nI (6 * j))), none, none, none] [] t h := by
  refine zz_aload_1 C dL_law__802 <| zz_aload_0 C dL_law__803 <| zz_iload_4 C dL_law__804 <| zz_iconst_1 C dL_law__806 <| zz_iadd C dL_law__807 <| zl_sld C V (6 * j + 1) (nI_ad (6 * j) 1) (by omega) dL_law__808 <| zz_aload_0 C dL_law__809 <| zz_iload_4 C dL_law__810 <| zz_iconst_2 C dL_law__812 <| zz_iadd C dL_law__813 <| zl_sld C V (6 * j + 2) (nI_ad (6 * j) 2) (by omega) dL_law__814 <| zz_aload_3 C dL_law__815 <| zpc 816 rfl <| ?_
  refine zy_callSW C hR [_, _, _, _] (jw_run I (by omega) hlt _ _) lL_163 rfl ⟨zle rfl, zle rfl, hc, hs⟩ (zle rfl) dL_law__816 ?_
  intro k1 t1 h1 q1
  obtain ⟨hT1, d1, hd1, hm1⟩ := q1
  refine zz_istore_5 C (zle rfl) rfl dL_law__819 <| zz_aload_2 C dL_law__821 <| zz_aload_0 C dL_law__822 <| zz_iload_4 C dL_law__823 <| zz_iconst_1 C dL_law__825 <| zz_iadd C dL_law__826 <| zl_sld C V (6 * j + 1) (nI_ad (6 * j) 1) (by omega) dL_law__827 <| zz_aload_0 C dL_law__828 <| zz_iload_4 C dL_law__829 <| zz_iconst_2 C dL_law__831 <| zz_iadd C dL_law__832 <| zl_sld C V (6 * j + 2) (nI_ad (6 * j) 2) (by omega) dL_law__833 <| zpc 834 rfl <| ?_
  refine zy_callVJ C hR [_, _] hm1 lL_165 rfl (tM_K hT1) (by decide) rfl ⟨by omega, by omega, by omega, by omega⟩ (zle rfl) dL_law__834 ?_
  intro r1 t2 h2 q2
  obtain ⟨q3, q4, q5⟩ := q2
  obtain ⟨a2, c2, e2, S2, I2⟩ := id q5
  refine zz_lstore_6 C (zle rfl) rfl dL_law__837 <| zz_aload_2 C dL_law__839 <| zpc 840 rfl <| ?_
  refine zf_callVI C hR [] (c_thrown I2.T) lL_132 rfl (tM_K I2.T) (by decide) rfl ⟨zle rfl, zle rfl, hc, hs⟩ (zle rfl) dL_law__840 ?_
  refine zz_iload_5 C dL_law__843 <| zpc 845 rfl <| ?_
  refine zz_icmp_eq C 850 dL_law__845 (by decide) (fun _ => ?_) (fun z => absurd q3 z)
  refine zz_iload_5 C dL_law__850 <| zpc 852 rfl <| ?_
  refine zz_if_ne C 866 dL_law__852 (by decide) (fun _ => zz_goto C 2442 dL_law__866 (by decide) (kont _ _ _ _ _ q5)) (fun z0 => ?_)
  refine zz_aload_3 C dL_law__855 <| zz_iconst_0 C dL_law__856 <| zc_laload C 0 I2.1.2.2.2 (zlit _ (by decide)) (by decide) dL_law__857 <| zz_lload_6 C dL_law__858 <| zz_lcmp C dL_law__860 <| zpc 861 rfl <| ?_
  exact zz_if_eq C 866 dL_law__861 (by decide) (fun _ => zz_goto C 2442 dL_law__866 (by decide) (kont _ _ _ _ _ q5)) (fun z => absurd (by rw [q4 z0]; exact lg_self _) z)
theorem lc_would (C : zCx E b G RL cL_law_ 8 (some .boolean)) (hR : zRoom G 20 MC MS) (V : lzS b G sb L xs) (hlt : G.2.1.stackTraces = false) (I : jI t h a c e S j) (hj : 6 * j + 6 ≤ L) (hL : L ≤ 3072) (hc : cells + 1 ≤ MC) (hs : slots + 6 ≤ MS) (kont : ∀ t' h' x5 x6 x7, jAft t' h' (j + 1) → zAW E b G 8 (cells + 1) (slots + 6) 2442 [some (.ref sb), some (.ref (b + 0)), some (.ref (b + 157)), some (.ref (b + 250)), some (.int (nI (6 * j))), x5, x6, x7] [] t' h') : zAW E b G 8 cells slots 869 [some (.ref sb), some (.ref (b + 0)), some (.ref (b + 157)), some (.ref (b + 250)), some (.int (nI (6 * j))), none, none, none] [] t h := by
  refine zz_aload_1 C dL_law__869 <| zz_aload_0 C dL_law__870 <| zz_iload_4 C dL_law__871 <| zz_iconst_1 C dL_law__873 <| zz_iadd C dL_law__874 <| zl_sld C V (6 * j + 1) (nI_ad (6 * j) 1) (by omega) dL_law__875 <| zz_aload_0 C dL_law__876 <| zz_iload_4 C dL_law__877 <| zz_iconst_2 C dL_law__879 <| zz_iadd C dL_law__880 <| zl_sld C V (6 * j + 2) (nI_ad (6 * j) 2) (by omega) dL_law__881 <| zz_aload_0 C dL_law__882 <| ?_
  refine zz_iload_4 C dL_law__883 <| zz_iconst_3 C dL_law__885 <| zz_iadd C dL_law__886 <| zl_sld C V (6 * j + 3) (nI_ad (6 * j) 3) (by omega) dL_law__887 <| zz_aload_3 C dL_law__888 <| zpc 889 rfl <| ?_
  refine zy_callSW C hR [_, _, _, _, _] (jw_would I (by omega) hlt _ _ _) lL_166 rfl ⟨zle rfl, zle rfl, hc, hs⟩ (zle rfl) dL_law__889 ?_
  intro k1 t1 h1 q1
  obtain ⟨hT1, d1, hd1, hm1⟩ := q1
  refine zz_istore_5 C (zle rfl) rfl dL_law__892 <| zz_aload_2 C dL_law__894 <| zz_aload_0 C dL_law__895 <| zz_iload_4 C dL_law__896 <| zz_iconst_1 C dL_law__898 <| zz_iadd C dL_law__899 <| zl_sld C V (6 * j + 1) (nI_ad (6 * j) 1) (by omega) dL_law__900 <| zz_aload_0 C dL_law__901 <| zz_iload_4 C dL_law__902 <| zz_iconst_2 C dL_law__904 <| zz_iadd C dL_law__905 <| zl_sld C V (6 * j + 2) (nI_ad (6 * j) 2) (by omega) dL_law__906 <| ?_
  refine zz_aload_0 C dL_law__907 <| zz_iload_4 C dL_law__908 <| zz_iconst_3 C dL_law__910 <| zz_iadd C dL_law__911 <| zl_sld C V (6 * j + 3) (nI_ad (6 * j) 3) (by omega) dL_law__912 <| zpc 913 rfl <| ?_
  refine zy_callVJ C hR [_, _, _] hm1 lL_168 rfl (tM_K hT1) (by decide) rfl ⟨by omega, by omega, by omega, by omega⟩ (zle rfl) dL_law__913 ?_
  intro r1 t2 h2 q2
  obtain ⟨q3, q4, q5⟩ := q2
  obtain ⟨a2, c2, e2, S2, I2⟩ := id q5
  refine zz_lstore_6 C (zle rfl) rfl dL_law__916 <| zz_aload_2 C dL_law__918 <| zpc 919 rfl <| ?_
  refine zf_callVI C hR [] (c_thrown I2.T) lL_132 rfl (tM_K I2.T) (by decide) rfl ⟨zle rfl, zle rfl, hc, hs⟩ (zle rfl) dL_law__919 ?_
  refine zz_iload_5 C dL_law__922 <| zpc 924 rfl <| ?_
  refine zz_icmp_eq C 929 dL_law__924 (by decide) (fun _ => ?_) (fun z => absurd q3 z)
  refine zz_iload_5 C dL_law__929 <| zpc 931 rfl <| ?_
  refine zz_if_ne C 945 dL_law__931 (by decide) (fun _ => zz_goto C 2442 dL_law__945 (by decide) (kont _ _ _ _ _ q5)) (fun z0 => ?_)
  refine zz_aload_3 C dL_law__934 <| zz_iconst_0 C dL_law__935 <| zc_laload C 0 I2.1.2.2.2 (zlit _ (by decide)) (by decide) dL_law__936 <| zz_lload_6 C dL_law__937 <| zz_lcmp C dL_law__939 <| zpc 940 rfl <| ?_
  exact zz_if_eq C 945 dL_law__940 (by decide) (fun _ => zz_goto C 2442 dL_law__945 (by decide) (kont _ _ _ _ _ q5)) (fun z => absurd (by rw [q4 z0]; exact lg_self _) z)
theorem lc_row (C : zCx E b G RL cL_law_ 8 (some .boolean)) (hR : zRoom G 20 MC MS) (V : lzS b G sb L xs) (hlt : G.2.1.stackTraces = false) (I : jI t h a c e S j) (hj : 6 * j + 6 ≤ L) (hL : L ≤ 3072) (hc : cells + 1 ≤ MC) (hs : slots + 6 ≤ MS) (kont : ∀ t' h' x5 x6 x7, jAft t' h' (j + 1) → zAW E b G 8 (cells + 1) (slots + 6) 2442 [some (.ref sb), some (.ref (b + 0)), some (.ref (b + 157)), some (.ref (b + 250)), some (.int (nI (6 * j))), x5, x6, x7] [] t' h') : zAW E b G 8 cells slots 948 [some (.ref sb), some (.ref (b + 0)), some (.ref (b + 157)), some (.ref (b + 250)), some (.int (nI (6 * j))), none, none, none] [] t h := by
  refine zz_aload_1 C dL_law__948 <| zz_aload_0 C dL_law__949 <| zz_iload_4 C dL_law__950 <| zz_iconst_1 C dL_law__952 <| zz_iadd C dL_law__953 <| zl_sld C V (6 * j + 1) (nI_ad (6 * j) 1) (by omega) dL_law__954 <| zz_aload_3 C dL_law__955 <| zpc 956 rfl <| ?_
  refine zy_callSW C hR [_, _, _] (jw_row I (by omega) hlt _) lL_169 rfl ⟨zle rfl, zle rfl, hc, hs⟩ (zle rfl) dL_law__956 ?_
  intro k1 t1 h1 q1
  obtain ⟨hT1, d1, hd1, hm1⟩ := q1
  refine zz_istore_5 C (zle rfl) rfl dL_law__959 <| zz_aload_2 C dL_law__961 <| zz_aload_0 C dL_law__962 <| zz_iload_4 C dL_law__963 <| zz_iconst_1 C dL_law__965 <| zz_iadd C dL_law__966 <| zl_sld C V (6 * j + 1) (nI_ad (6 * j) 1) (by omega) dL_law__967 <| zpc 968 rfl <| ?_
  refine zy_callVI C hR [_] hm1 lL_171 rfl (tM_K hT1) (by decide) rfl ⟨by omega, by omega, by omega, by omega⟩ (zle rfl) dL_law__968 ?_
  intro r1 t2 h2 q2
  obtain ⟨q3, q4, q5⟩ := q2
  obtain ⟨a2, c2, e2, S2, I2⟩ := id q5
  refine zz_istore_6 C (zle rfl) rfl dL_law__971 <| zz_aload_2 C dL_law__973 <| zpc 974 rfl <| ?_
  refine zf_callVI C hR [] (c_thrown I2.T) lL_132 rfl (tM_K I2.T) (by decide) rfl ⟨zle rfl, zle rfl, hc, hs⟩ (zle rfl) dL_law__974 ?_
  refine zz_iload_5 C dL_law__977 <| zpc 979 rfl <| ?_
  refine zz_icmp_eq C 984 dL_law__979 (by decide) (fun _ => ?_) (fun z => absurd q3 z)
  refine zz_iload_5 C dL_law__984 <| zpc 986 rfl <| ?_
  refine zz_if_ne C 1001 dL_law__986 (by decide) (fun _ => zz_goto C 2442 dL_law__1001 (by decide) (kont _ _ _ _ _ q5)) (fun z0 => ?_)
  refine zz_aload_3 C dL_law__989 <| zz_iconst_0 C dL_law__990 <| zc_laload C 0 I2.1.2.2.2 (zlit _ (by decide)) (by decide) dL_law__991 <| zz_iload_6 C dL_law__992 <| zz_i2l C dL_law__994 <| zz_lcmp C dL_law__995 <| zpc 996 rfl <| ?_
  exact zz_if_eq C 1001 dL_law__996 (by decide) (fun _ => zz_goto C 2442 dL_law__1001 (by decide) (kont _ _ _ _ _ q5)) (fun z => absurd (by rw [q4 z0]; exact lg_self _) z)
theorem lc_clear (C : zCx E b G RL cL_law_ 8 (some .boolean)) (hR : zRoom G 20 MC MS) (V : lzS b G sb L xs) (hlt : G.2.1.stackTraces = false) (I : jI t h a c e S j) (hj : 6 * j + 6 ≤ L) (hL : L ≤ 3072) (hc : cells + 1 ≤ MC) (hs : slots + 6 ≤ MS) (kont : ∀ t' h' x5 x6 x7, jAft t' h' (j + 1) → zAW E b G 8 (cells + 1) (slots + 6) 2442 [some (.ref sb), some (.ref (b + 0)), some (.ref (b + 157)), some (.ref (b + 250)), some (.int (nI (6 * j))), x5, x6, x7] [] t' h') : zAW E b G 8 cells slots 1004 [some (.ref sb), some (.ref (b + 0)), some (.ref (b + 157)), some (.ref (b + 250)), some (.int (nI (6 * j))), none, none, none] [] t h := by
  refine zz_aload_1 C dL_law__1004 <| zpc 1005 rfl <| ?_
  refine zy_callVI C hR [] (je_clear I (by omega)) lL_172 rfl I.kX (by decide) rfl ⟨zle rfl, zle rfl, by omega, by omega⟩ (zle rfl) dL_law__1005 ?_
  intro k1 t1 h1 q1
  obtain ⟨hT1, d1, hd1, hm1⟩ := q1
  refine zz_aload_2 C dL_law__1008 <| zpc 1009 rfl <| ?_
  refine zy_callVI C hR [] hm1 lL_175 rfl (tM_K hT1) (by decide) rfl ⟨by omega, by omega, by omega, by omega⟩ (zle rfl) dL_law__1009 ?_
  intro r1 t2 h2 q2
  obtain ⟨rfl, q5⟩ := q2
  exact zz_icmp_eq C 2442 dL_law__1012 (by decide) (fun _ => zl_wd (by omega) (by omega) (kont _ _ _ _ _ q5)) (fun z => absurd rfl z)
theorem lc_judge (C : zCx E b G RL cL_law_ 8 (some .boolean)) (hR : zRoom G 20 MC MS) (V : lzS b G sb L xs) (hlt : G.2.1.stackTraces = false) (I : jI t h a c e S j) (hj : 6 * j + 6 ≤ L) (hL : L ≤ 3072) (hc : cells + 1 ≤ MC) (hs : slots + 6 ≤ MS) (kont : ∀ t' h' x5 x6 x7, jAft t' h' (j + 1) → zAW E b G 8 (cells + 1) (slots + 6) 2442 [some (.ref sb), some (.ref (b + 0)), some (.ref (b + 157)), some (.ref (b + 250)), some (.int (nI (6 * j))), x5, x6, x7] [] t' h') : zAW E b G 8 cells slots 1017 [some (.ref sb), some (.ref (b + 0)), some (.ref (b + 157)), some (.ref (b + 250)), some (.int (nI (6 * j))), none, none, none] [] t h := by
  refine zz_aload_1 C dL_law__1017 <| zz_aload_0 C dL_law__1018 <| zz_iload_4 C dL_law__1019 <| zz_iconst_1 C dL_law__1021 <| zz_iadd C dL_law__1022 <| zl_sld C V (6 * j + 1) (nI_ad (6 * j) 1) (by omega) dL_law__1023 <| zz_aload_3 C dL_law__1024 <| zpc 1025 rfl <| ?_
  refine zy_callSW C hR [_, _, _] (jw_judge I (by omega) hlt _) lL_176 rfl ⟨zle rfl, zle rfl, hc, hs⟩ (zle rfl) dL_law__1025 ?_
  intro k1 t1 h1 q1
  obtain ⟨hT1, d1, hd1, hm1⟩ := q1
  refine zz_istore_5 C (zle rfl) rfl dL_law__1028 <| zz_aload_2 C dL_law__1030 <| zz_aload_0 C dL_law__1031 <| zz_iload_4 C dL_law__1032 <| zz_iconst_1 C dL_law__1034 <| zz_iadd C dL_law__1035 <| zl_sld C V (6 * j + 1) (nI_ad (6 * j) 1) (by omega) dL_law__1036 <| zpc 1037 rfl <| ?_
  refine zy_callVI C hR [_] hm1 lL_178 rfl (tM_K hT1) (by decide) rfl ⟨by omega, by omega, by omega, by omega⟩ (zle rfl) dL_law__1037 ?_
  intro r1 t2 h2 q2
  obtain ⟨q3, q4, q5⟩ := q2
  obtain ⟨a2, c2, e2, S2, I2⟩ := id q5
  refine zz_istore_6 C (zle rfl) rfl dL_law__1040 <| zz_aload_2 C dL_law__1042 <| zpc 1043 rfl <| ?_
  refine zf_callVI C hR [] (c_thrown I2.T) lL_132 rfl (tM_K I2.T) (by decide) rfl ⟨zle rfl, zle rfl, hc, hs⟩ (zle rfl) dL_law__1043 ?_
  refine zz_iload_5 C dL_law__1046 <| zpc 1048 rfl <| ?_
  refine zz_icmp_eq C 1053 dL_law__1048 (by decide) (fun _ => ?_) (fun z => absurd q3 z)
  refine zz_iload_5 C dL_law__1053 <| zpc 1055 rfl <| ?_
  refine zz_if_ne C 1070 dL_law__1055 (by decide) (fun _ => zz_goto C 2442 dL_law__1070 (by decide) (kont _ _ _ _ _ q5)) (fun z0 => ?_)
  refine zz_aload_3 C dL_law__1058 <| zz_iconst_0 C dL_law__1059 <| zc_laload C 0 I2.1.2.2.2 (zlit _ (by decide)) (by decide) dL_law__1060 <| zz_iload_6 C dL_law__1061 <| zz_i2l C dL_law__1063 <| zz_lcmp C dL_law__1064 <| zpc 1065 rfl <| ?_
  exact zz_if_eq C 1070 dL_law__1065 (by decide) (fun _ => zz_goto C 2442 dL_law__1070 (by decide) (kont _ _ _ _ _ q5)) (fun z => absurd (by rw [q4 z0]; exact lg_self _) z)
theorem lc_minutes (C : zCx E b G RL cL_law_ 8 (some .boolean)) (hR : zRoom G 20 MC MS) (V : lzS b G sb L xs) (hlt : G.2.1.stackTraces = false) (I : jI t h a c e S j) (hj : 6 * j + 6 ≤ L) (hL : L ≤ 3072) (hc : cells + 1 ≤ MC) (hs : slots + 6 ≤ MS) (kont : ∀ t' h' x5 x6 x7, jAft t' h' (j + 1) → zAW E b G 8 (cells + 1) (slots + 6) 2442 [some (.ref sb), some (.ref (b + 0)), some (.ref (b + 157)), some (.ref (b + 250)), some (.int (nI (6 * j))), x5, x6, x7] [] t' h') : zAW E b G 8 cells slots 1073 [some (.ref sb), some (.ref (b + 0)), some (.ref (b + 157)), some (.ref (b + 250)), some (.int (nI (6 * j))), none, none, none] [] t h := by
  refine zz_aload_1 C dL_law__1073 <| zpc 1074 rfl <| ?_
  refine zy_callVJ C hR [] (je_minutes I (by omega)) lL_179 rfl I.kX (by decide) rfl ⟨zle rfl, zle rfl, by omega, by omega⟩ (zle rfl) dL_law__1074 ?_
  intro k1 t1 h1 q1
  obtain ⟨hT1, d1, hd1, hm1⟩ := q1
  refine zz_aload_2 C dL_law__1077 <| zpc 1078 rfl <| ?_
  refine zy_callVJ C hR [] hm1 lL_183 rfl (tM_K hT1) (by decide) rfl ⟨by omega, by omega, by omega, by omega⟩ (zle rfl) dL_law__1078 ?_
  intro r1 t2 h2 q2
  obtain ⟨rfl, q5⟩ := q2
  refine zz_lcmp C dL_law__1081 <| zpc 1082 rfl <| ?_
  exact zz_if_eq C 2442 dL_law__1082 (by decide) (fun _ => zl_wd (by omega) (by omega) (kont _ _ _ _ _ q5)) (fun z => absurd (lg_self _) z)
theorem lc_ever (C : zCx E b G RL cL_law_ 8 (some .boolean)) (hR : zRoom G 20 MC MS) (V : lzS b G sb L xs) (hlt : G.2.1.stackTraces = false) (I : jI t h a c e S j) (hj : 6 * j + 6 ≤ L) (hL : L ≤ 3072) (hc : cells + 1 ≤ MC) (hs : slots + 6 ≤ MS) (kont : ∀ t' h' x5 x6 x7, jAft t' h' (j + 1) → zAW E b G 8 (cells + 1) (slots + 6) 2442 [some (.ref sb), some (.ref (b + 0)), some (.ref (b + 157)), some (.ref (b + 250)), some (.int (nI (6 * j))), x5, x6, x7] [] t' h') : zAW E b G 8 cells slots 1087 [some (.ref sb), some (.ref (b + 0)), some (.ref (b + 157)), some (.ref (b + 250)), some (.int (nI (6 * j))), none, none, none] [] t h := by
  refine zz_aload_1 C dL_law__1087 <| zz_aload_0 C dL_law__1088 <| zz_iload_4 C dL_law__1089 <| zz_iconst_1 C dL_law__1091 <| zz_iadd C dL_law__1092 <| zl_sld C V (6 * j + 1) (nI_ad (6 * j) 1) (by omega) dL_law__1093 <| zz_aload_3 C dL_law__1094 <| zpc 1095 rfl <| ?_
  refine zy_callSW C hR [_, _, _] (jw_ever I (by omega) hlt _) lL_184 rfl ⟨zle rfl, zle rfl, hc, hs⟩ (zle rfl) dL_law__1095 ?_
  intro k1 t1 h1 q1
  obtain ⟨hT1, d1, hd1, hm1⟩ := q1
  refine zz_istore_5 C (zle rfl) rfl dL_law__1098 <| zz_aload_2 C dL_law__1100 <| zz_aload_0 C dL_law__1101 <| zz_iload_4 C dL_law__1102 <| zz_iconst_1 C dL_law__1104 <| zz_iadd C dL_law__1105 <| zl_sld C V (6 * j + 1) (nI_ad (6 * j) 1) (by omega) dL_law__1106 <| zpc 1107 rfl <| ?_
  refine zy_callVI C hR [_] hm1 lL_186 rfl (tM_K hT1) (by decide) rfl ⟨by omega, by omega, by omega, by omega⟩ (zle rfl) dL_law__1107 ?_
  intro r1 t2 h2 q2
  obtain ⟨q3, q4, q5⟩ := q2
  obtain ⟨a2, c2, e2, S2, I2⟩ := id q5
  refine zz_istore_6 C (zle rfl) rfl dL_law__1110 <| zz_aload_2 C dL_law__1112 <| zpc 1113 rfl <| ?_
  refine zf_callVI C hR [] (c_thrown I2.T) lL_132 rfl (tM_K I2.T) (by decide) rfl ⟨zle rfl, zle rfl, hc, hs⟩ (zle rfl) dL_law__1113 ?_
  refine zz_iload_5 C dL_law__1116 <| zpc 1118 rfl <| ?_
  refine zz_icmp_eq C 1123 dL_law__1118 (by decide) (fun _ => ?_) (fun z => absurd q3 z)
  refine zz_iload_5 C dL_law__1123 <| zpc 1125 rfl <| ?_
  refine zz_if_ne C 1140 dL_law__1125 (by decide) (fun _ => zz_goto C 2442 dL_law__1140 (by decide) (kont _ _ _ _ _ q5)) (fun z0 => ?_)
  refine zz_aload_3 C dL_law__1128 <| zz_iconst_0 C dL_law__1129 <| zc_laload C 0 I2.1.2.2.2 (zlit _ (by decide)) (by decide) dL_law__1130 <| zz_iload_6 C dL_law__1131 <| zz_i2l C dL_law__1133 <| zz_lcmp C dL_law__1134 <| zpc 1135 rfl <| ?_
  exact zz_if_eq C 1140 dL_law__1135 (by decide) (fun _ => zz_goto C 2442 dL_law__1140 (by decide) (kont _ _ _ _ _ q5)) (fun z => absurd (by rw [q4 z0]; exact lg_self _) z)
theorem lc_fewest (C : zCx E b G RL cL_law_ 8 (some .boolean)) (hR : zRoom G 20 MC MS) (V : lzS b G sb L xs) (hlt : G.2.1.stackTraces = false) (I : jI t h a c e S j) (hj : 6 * j + 6 ≤ L) (hL : L ≤ 3072) (hc : cells + 1 ≤ MC) (hs : slots + 6 ≤ MS) (kont : ∀ t' h' x5 x6 x7, jAft t' h' (j + 1) → zAW E b G 8 (cells + 1) (slots + 6) 2442 [some (.ref sb), some (.ref (b + 0)), some (.ref (b + 157)), some (.ref (b + 250)), some (.int (nI (6 * j))), x5, x6, x7] [] t' h') : zAW E b G 8 cells slots 1143 [some (.ref sb), some (.ref (b + 0)), some (.ref (b + 157)), some (.ref (b + 250)), some (.int (nI (6 * j))), none, none, none] [] t h := by
  refine zz_aload_1 C dL_law__1143 <| zz_aload_0 C dL_law__1144 <| zz_iload_4 C dL_law__1145 <| zz_iconst_1 C dL_law__1147 <| zz_iadd C dL_law__1148 <| zl_sld C V (6 * j + 1) (nI_ad (6 * j) 1) (by omega) dL_law__1149 <| zz_aload_0 C dL_law__1150 <| zz_iload_4 C dL_law__1151 <| zz_iconst_2 C dL_law__1153 <| zz_iadd C dL_law__1154 <| zl_sld C V (6 * j + 2) (nI_ad (6 * j) 2) (by omega) dL_law__1155 <| zz_aload_0 C dL_law__1156 <| ?_
  refine zz_iload_4 C dL_law__1157 <| zz_iconst_3 C dL_law__1159 <| zz_iadd C dL_law__1160 <| zl_sld C V (6 * j + 3) (nI_ad (6 * j) 3) (by omega) dL_law__1161 <| zz_aload_3 C dL_law__1162 <| zpc 1163 rfl <| ?_
  refine zy_callSW C hR [_, _, _, _, _] (jw_fewest I (by omega) hlt _ _ _) lL_187 rfl ⟨zle rfl, zle rfl, hc, hs⟩ (zle rfl) dL_law__1163 ?_
  intro k1 t1 h1 q1
  obtain ⟨hT1, d1, hd1, hm1⟩ := q1
  refine zz_istore_5 C (zle rfl) rfl dL_law__1166 <| zz_aload_2 C dL_law__1168 <| zz_aload_0 C dL_law__1169 <| zz_iload_4 C dL_law__1170 <| zz_iconst_1 C dL_law__1172 <| zz_iadd C dL_law__1173 <| zl_sld C V (6 * j + 1) (nI_ad (6 * j) 1) (by omega) dL_law__1174 <| zz_aload_0 C dL_law__1175 <| zz_iload_4 C dL_law__1176 <| zz_iconst_2 C dL_law__1178 <| zz_iadd C dL_law__1179 <| zl_sld C V (6 * j + 2) (nI_ad (6 * j) 2) (by omega) dL_law__1180 <| ?_
  refine zz_aload_0 C dL_law__1181 <| zz_iload_4 C dL_law__1182 <| zz_iconst_3 C dL_law__1184 <| zz_iadd C dL_law__1185 <| zl_sld C V (6 * j + 3) (nI_ad (6 * j) 3) (by omega) dL_law__1186 <| zpc 1187 rfl <| ?_
  refine zy_callVI C hR [_, _, _] hm1 lL_189 rfl (tM_K hT1) (by decide) rfl ⟨by omega, by omega, by omega, by omega⟩ (zle rfl) dL_law__1187 ?_
  intro r1 t2 h2 q2
  obtain ⟨q3, q4, q5⟩ := q2
  obtain ⟨a2, c2, e2, S2, I2⟩ := id q5
  refine zz_istore_6 C (zle rfl) rfl dL_law__1190 <| zz_aload_2 C dL_law__1192 <| zpc 1193 rfl <| ?_
  refine zf_callVI C hR [] (c_thrown I2.T) lL_132 rfl (tM_K I2.T) (by decide) rfl ⟨zle rfl, zle rfl, hc, hs⟩ (zle rfl) dL_law__1193 ?_
  refine zz_iload_5 C dL_law__1196 <| zpc 1198 rfl <| ?_
  refine zz_icmp_eq C 1203 dL_law__1198 (by decide) (fun _ => ?_) (fun z => absurd q3 z)
  refine zz_iload_5 C dL_law__1203 <| zpc 1205 rfl <| ?_
  refine zz_if_ne C 1220 dL_law__1205 (by decide) (fun _ => zz_goto C 2442 dL_law__1220 (by decide) (kont _ _ _ _ _ q5)) (fun z0 => ?_)
  refine zz_aload_3 C dL_law__1208 <| zz_iconst_0 C dL_law__1209 <| zc_laload C 0 I2.1.2.2.2 (zlit _ (by decide)) (by decide) dL_law__1210 <| zz_iload_6 C dL_law__1211 <| zz_i2l C dL_law__1213 <| zz_lcmp C dL_law__1214 <| zpc 1215 rfl <| ?_
  exact zz_if_eq C 1220 dL_law__1215 (by decide) (fun _ => zz_goto C 2442 dL_law__1220 (by decide) (kont _ _ _ _ _ q5)) (fun z => absurd (by rw [q4 z0]; exact lg_self _) z)
theorem lc_lasts (C : zCx E b G RL cL_law_ 8 (some .boolean)) (hR : zRoom G 20 MC MS) (V : lzS b G sb L xs) (hlt : G.2.1.stackTraces = false) (I : jI t h a c e S j) (hj : 6 * j + 6 ≤ L) (hL : L ≤ 3072) (hc : cells + 1 ≤ MC) (hs : slots + 6 ≤ MS) (kont : ∀ t' h' x5 x6 x7, jAft t' h' (j + 1) → zAW E b G 8 (cells + 1) (slots + 6) 2442 [some (.ref sb), some (.ref (b + 0)), some (.ref (b + 157)), some (.ref (b + 250)), some (.int (nI (6 * j))), x5, x6, x7] [] t' h') : zAW E b G 8 cells slots 1223 [some (.ref sb), some (.ref (b + 0)), some (.ref (b + 157)), some (.ref (b + 250)), some (.int (nI (6 * j))), none, none, none] [] t h := by
  refine zz_aload_1 C dL_law__1223 <| zz_aload_0 C dL_law__1224 <| zz_iload_4 C dL_law__1225 <| zz_iconst_1 C dL_law__1227 <| zz_iadd C dL_law__1228 <| zl_sld C V (6 * j + 1) (nI_ad (6 * j) 1) (by omega) dL_law__1229 <| zz_aload_0 C dL_law__1230 <| zz_iload_4 C dL_law__1231 <| zz_iconst_2 C dL_law__1233 <| zz_iadd C dL_law__1234 <| zl_sld C V (6 * j + 2) (nI_ad (6 * j) 2) (by omega) dL_law__1235 <| zz_aload_0 C dL_law__1236 <| ?_
  refine zz_iload_4 C dL_law__1237 <| zz_iconst_3 C dL_law__1239 <| zz_iadd C dL_law__1240 <| zl_sld C V (6 * j + 3) (nI_ad (6 * j) 3) (by omega) dL_law__1241 <| zz_aload_3 C dL_law__1242 <| zpc 1243 rfl <| ?_
  refine zy_callSW C hR [_, _, _, _, _] (jw_lasts I (by omega) hlt _ _ _) lL_190 rfl ⟨zle rfl, zle rfl, hc, hs⟩ (zle rfl) dL_law__1243 ?_
  intro k1 t1 h1 q1
  obtain ⟨hT1, d1, hd1, hm1⟩ := q1
  refine zz_istore_5 C (zle rfl) rfl dL_law__1246 <| zz_aload_2 C dL_law__1248 <| zz_aload_0 C dL_law__1249 <| zz_iload_4 C dL_law__1250 <| zz_iconst_1 C dL_law__1252 <| zz_iadd C dL_law__1253 <| zl_sld C V (6 * j + 1) (nI_ad (6 * j) 1) (by omega) dL_law__1254 <| zz_aload_0 C dL_law__1255 <| zz_iload_4 C dL_law__1256 <| zz_iconst_2 C dL_law__1258 <| zz_iadd C dL_law__1259 <| zl_sld C V (6 * j + 2) (nI_ad (6 * j) 2) (by omega) dL_law__1260 <| ?_
  refine zz_aload_0 C dL_law__1261 <| zz_iload_4 C dL_law__1262 <| zz_iconst_3 C dL_law__1264 <| zz_iadd C dL_law__1265 <| zl_sld C V (6 * j + 3) (nI_ad (6 * j) 3) (by omega) dL_law__1266 <| zpc 1267 rfl <| ?_
  refine zy_callVI C hR [_, _, _] hm1 lL_192 rfl (tM_K hT1) (by decide) rfl ⟨by omega, by omega, by omega, by omega⟩ (zle rfl) dL_law__1267 ?_
  intro r1 t2 h2 q2
  obtain ⟨q3, q4, q5⟩ := q2
  obtain ⟨a2, c2, e2, S2, I2⟩ := id q5
  refine zz_istore_6 C (zle rfl) rfl dL_law__1270 <| zz_aload_2 C dL_law__1272 <| zpc 1273 rfl <| ?_
  refine zf_callVI C hR [] (c_thrown I2.T) lL_132 rfl (tM_K I2.T) (by decide) rfl ⟨zle rfl, zle rfl, hc, hs⟩ (zle rfl) dL_law__1273 ?_
  refine zz_iload_5 C dL_law__1276 <| zpc 1278 rfl <| ?_
  refine zz_icmp_eq C 1283 dL_law__1278 (by decide) (fun _ => ?_) (fun z => absurd q3 z)
  refine zz_iload_5 C dL_law__1283 <| zpc 1285 rfl <| ?_
  refine zz_if_ne C 1300 dL_law__1285 (by decide) (fun _ => zz_goto C 2442 dL_law__1300 (by decide) (kont _ _ _ _ _ q5)) (fun z0 => ?_)
  refine zz_aload_3 C dL_law__1288 <| zz_iconst_0 C dL_law__1289 <| zc_laload C 0 I2.1.2.2.2 (zlit _ (by decide)) (by decide) dL_law__1290 <| zz_iload_6 C dL_law__1291 <| zz_i2l C dL_law__1293 <| zz_lcmp C dL_law__1294 <| zpc 1295 rfl <| ?_
  exact zz_if_eq C 1300 dL_law__1295 (by decide) (fun _ => zz_goto C 2442 dL_law__1300 (by decide) (kont _ _ _ _ _ q5)) (fun z => absurd (by rw [q4 z0]; exact lg_self _) z)
theorem lc_best (C : zCx E b G RL cL_law_ 8 (some .boolean)) (hR : zRoom G 20 MC MS) (V : lzS b G sb L xs) (hlt : G.2.1.stackTraces = false) (I : jI t h a c e S j) (hj : 6 * j + 6 ≤ L) (hL : L ≤ 3072) (hc : cells + 1 ≤ MC) (hs : slots + 6 ≤ MS) (kont : ∀ t' h' x5 x6 x7, jAft t' h' (j + 1) → zAW E b G 8 (cells + 1) (slots + 6) 2442 [some (.ref sb), some (.ref (b + 0)), some (.ref (b + 157)), some (.ref (b + 250)), some (.int (nI (6 * j))), x5, x6, x7] [] t' h') : zAW E b G 8 cells slots 1303 [some (.ref sb), some (.ref (b + 0)), some (.ref (b + 157)), some (.ref (b + 250)), some (.int (nI (6 * j))), none, none, none] [] t h := by
  refine zz_aload_1 C dL_law__1303 <| zz_aload_0 C dL_law__1304 <| zz_iload_4 C dL_law__1305 <| zz_iconst_1 C dL_law__1307 <| zz_iadd C dL_law__1308 <| zl_sld C V (6 * j + 1) (nI_ad (6 * j) 1) (by omega) dL_law__1309 <| zz_aload_0 C dL_law__1310 <| zz_iload_4 C dL_law__1311 <| zz_iconst_2 C dL_law__1313 <| zz_iadd C dL_law__1314 <| zl_sld C V (6 * j + 2) (nI_ad (6 * j) 2) (by omega) dL_law__1315 <| zz_aload_3 C dL_law__1316 <| zpc 1317 rfl <| ?_
  refine zy_callSW C hR [_, _, _, _] (jw_best I (by omega) hlt _ _) lL_193 rfl ⟨zle rfl, zle rfl, hc, hs⟩ (zle rfl) dL_law__1317 ?_
  intro k1 t1 h1 q1
  obtain ⟨hT1, d1, hd1, hm1⟩ := q1
  refine zz_istore_5 C (zle rfl) rfl dL_law__1320 <| zz_aload_2 C dL_law__1322 <| zz_aload_0 C dL_law__1323 <| zz_iload_4 C dL_law__1324 <| zz_iconst_1 C dL_law__1326 <| zz_iadd C dL_law__1327 <| zl_sld C V (6 * j + 1) (nI_ad (6 * j) 1) (by omega) dL_law__1328 <| zz_aload_0 C dL_law__1329 <| zz_iload_4 C dL_law__1330 <| zz_iconst_2 C dL_law__1332 <| zz_iadd C dL_law__1333 <| zl_sld C V (6 * j + 2) (nI_ad (6 * j) 2) (by omega) dL_law__1334 <| zpc 1335 rfl <| ?_
  refine zy_callVI C hR [_, _] hm1 lL_195 rfl (tM_K hT1) (by decide) rfl ⟨by omega, by omega, by omega, by omega⟩ (zle rfl) dL_law__1335 ?_
  intro r1 t2 h2 q2
  obtain ⟨q3, q4, q5⟩ := q2
  obtain ⟨a2, c2, e2, S2, I2⟩ := id q5
  refine zz_istore_6 C (zle rfl) rfl dL_law__1338 <| zz_aload_2 C dL_law__1340 <| zpc 1341 rfl <| ?_
  refine zf_callVI C hR [] (c_thrown I2.T) lL_132 rfl (tM_K I2.T) (by decide) rfl ⟨zle rfl, zle rfl, hc, hs⟩ (zle rfl) dL_law__1341 ?_
  refine zz_iload_5 C dL_law__1344 <| zpc 1346 rfl <| ?_
  refine zz_icmp_eq C 1351 dL_law__1346 (by decide) (fun _ => ?_) (fun z => absurd q3 z)
  refine zz_iload_5 C dL_law__1351 <| zpc 1353 rfl <| ?_
  refine zz_if_ne C 1368 dL_law__1353 (by decide) (fun _ => zz_goto C 2442 dL_law__1368 (by decide) (kont _ _ _ _ _ q5)) (fun z0 => ?_)
  refine zz_aload_3 C dL_law__1356 <| zz_iconst_0 C dL_law__1357 <| zc_laload C 0 I2.1.2.2.2 (zlit _ (by decide)) (by decide) dL_law__1358 <| zz_iload_6 C dL_law__1359 <| zz_i2l C dL_law__1361 <| zz_lcmp C dL_law__1362 <| zpc 1363 rfl <| ?_
  exact zz_if_eq C 1368 dL_law__1363 (by decide) (fun _ => zz_goto C 2442 dL_law__1368 (by decide) (kont _ _ _ _ _ q5)) (fun z => absurd (by rw [q4 z0]; exact lg_self _) z)
theorem lc_gap (C : zCx E b G RL cL_law_ 8 (some .boolean)) (hR : zRoom G 20 MC MS) (V : lzS b G sb L xs) (hlt : G.2.1.stackTraces = false) (I : jI t h a c e S j) (hj : 6 * j + 6 ≤ L) (hL : L ≤ 3072) (hc : cells + 1 ≤ MC) (hs : slots + 6 ≤ MS) (kont : ∀ t' h' x5 x6 x7, jAft t' h' (j + 1) → zAW E b G 8 (cells + 1) (slots + 6) 2442 [some (.ref sb), some (.ref (b + 0)), some (.ref (b + 157)), some (.ref (b + 250)), some (.int (nI (6 * j))), x5, x6, x7] [] t' h') : zAW E b G 8 cells slots 1371 [some (.ref sb), some (.ref (b + 0)), some (.ref (b + 157)), some (.ref (b + 250)), some (.int (nI (6 * j))), none, none, none] [] t h := by
  refine zz_aload_1 C dL_law__1371 <| zz_aload_0 C dL_law__1372 <| zz_iload_4 C dL_law__1373 <| zz_iconst_1 C dL_law__1375 <| zz_iadd C dL_law__1376 <| zl_sld C V (6 * j + 1) (nI_ad (6 * j) 1) (by omega) dL_law__1377 <| zz_aload_3 C dL_law__1378 <| zpc 1379 rfl <| ?_
  refine zy_callSW C hR [_, _, _] (jw_gap I (by omega) hlt _) lL_196 rfl ⟨zle rfl, zle rfl, hc, hs⟩ (zle rfl) dL_law__1379 ?_
  intro k1 t1 h1 q1
  obtain ⟨hT1, d1, hd1, hm1⟩ := q1
  refine zz_istore_5 C (zle rfl) rfl dL_law__1382 <| zz_aload_2 C dL_law__1384 <| zz_aload_0 C dL_law__1385 <| zz_iload_4 C dL_law__1386 <| zz_iconst_1 C dL_law__1388 <| zz_iadd C dL_law__1389 <| zl_sld C V (6 * j + 1) (nI_ad (6 * j) 1) (by omega) dL_law__1390 <| zpc 1391 rfl <| ?_
  refine zy_callVI C hR [_] hm1 lL_198 rfl (tM_K hT1) (by decide) rfl ⟨by omega, by omega, by omega, by omega⟩ (zle rfl) dL_law__1391 ?_
  intro r1 t2 h2 q2
  obtain ⟨q3, q4, q5⟩ := q2
  obtain ⟨a2, c2, e2, S2, I2⟩ := id q5
  refine zz_istore_6 C (zle rfl) rfl dL_law__1394 <| zz_aload_2 C dL_law__1396 <| zpc 1397 rfl <| ?_
  refine zf_callVI C hR [] (c_thrown I2.T) lL_132 rfl (tM_K I2.T) (by decide) rfl ⟨zle rfl, zle rfl, hc, hs⟩ (zle rfl) dL_law__1397 ?_
  refine zz_iload_5 C dL_law__1400 <| zpc 1402 rfl <| ?_
  refine zz_icmp_eq C 1407 dL_law__1402 (by decide) (fun _ => ?_) (fun z => absurd q3 z)
  refine zz_iload_5 C dL_law__1407 <| zpc 1409 rfl <| ?_
  refine zz_if_ne C 1424 dL_law__1409 (by decide) (fun _ => zz_goto C 2442 dL_law__1424 (by decide) (kont _ _ _ _ _ q5)) (fun z0 => ?_)
  refine zz_aload_3 C dL_law__1412 <| zz_iconst_0 C dL_law__1413 <| zc_laload C 0 I2.1.2.2.2 (zlit _ (by decide)) (by decide) dL_law__1414 <| zz_iload_6 C dL_law__1415 <| zz_i2l C dL_law__1417 <| zz_lcmp C dL_law__1418 <| zpc 1419 rfl <| ?_
  exact zz_if_eq C 1424 dL_law__1419 (by decide) (fun _ => zz_goto C 2442 dL_law__1424 (by decide) (kont _ _ _ _ _ q5)) (fun z => absurd (by rw [q4 z0]; exact lg_self _) z)
theorem lc_toll (C : zCx E b G RL cL_law_ 8 (some .boolean)) (hR : zRoom G 20 MC MS) (V : lzS b G sb L xs) (hlt : G.2.1.stackTraces = false) (I : jI t h a c e S j) (hj : 6 * j + 6 ≤ L) (hL : L ≤ 3072) (hc : cells + 1 ≤ MC) (hs : slots + 6 ≤ MS) (kont : ∀ t' h' x5 x6 x7, jAft t' h' (j + 1) → zAW E b G 8 (cells + 1) (slots + 6) 2442 [some (.ref sb), some (.ref (b + 0)), some (.ref (b + 157)), some (.ref (b + 250)), some (.int (nI (6 * j))), x5, x6, x7] [] t' h') : zAW E b G 8 cells slots 1427 [some (.ref sb), some (.ref (b + 0)), some (.ref (b + 157)), some (.ref (b + 250)), some (.int (nI (6 * j))), none, none, none] [] t h := by
  refine zz_aload_1 C dL_law__1427 <| zz_aload_0 C dL_law__1428 <| zz_iload_4 C dL_law__1429 <| zz_iconst_1 C dL_law__1431 <| zz_iadd C dL_law__1432 <| zl_sld C V (6 * j + 1) (nI_ad (6 * j) 1) (by omega) dL_law__1433 <| zz_aload_0 C dL_law__1434 <| zz_iload_4 C dL_law__1435 <| zz_iconst_2 C dL_law__1437 <| zz_iadd C dL_law__1438 <| zl_sld C V (6 * j + 2) (nI_ad (6 * j) 2) (by omega) dL_law__1439 <| zz_aload_0 C dL_law__1440 <| ?_
  refine zz_iload_4 C dL_law__1441 <| zz_iconst_3 C dL_law__1443 <| zz_iadd C dL_law__1444 <| zl_sld C V (6 * j + 3) (nI_ad (6 * j) 3) (by omega) dL_law__1445 <| zz_aload_3 C dL_law__1446 <| zpc 1447 rfl <| ?_
  refine zy_callSW C hR [_, _, _, _, _] (jw_toll I (by omega) hlt _ _ _) lL_199 rfl ⟨zle rfl, zle rfl, hc, hs⟩ (zle rfl) dL_law__1447 ?_
  intro k1 t1 h1 q1
  obtain ⟨hT1, d1, hd1, hm1⟩ := q1
  refine zz_istore_5 C (zle rfl) rfl dL_law__1450 <| zz_aload_2 C dL_law__1452 <| zz_aload_0 C dL_law__1453 <| zz_iload_4 C dL_law__1454 <| zz_iconst_1 C dL_law__1456 <| zz_iadd C dL_law__1457 <| zl_sld C V (6 * j + 1) (nI_ad (6 * j) 1) (by omega) dL_law__1458 <| zz_aload_0 C dL_law__1459 <| zz_iload_4 C dL_law__1460 <| zz_iconst_2 C dL_law__1462 <| zz_iadd C dL_law__1463 <| zl_sld C V (6 * j + 2) (nI_ad (6 * j) 2) (by omega) dL_law__1464 <| ?_
  refine zz_aload_0 C dL_law__1465 <| zz_iload_4 C dL_law__1466 <| zz_iconst_3 C dL_law__1468 <| zz_iadd C dL_law__1469 <| zl_sld C V (6 * j + 3) (nI_ad (6 * j) 3) (by omega) dL_law__1470 <| zpc 1471 rfl <| ?_
  refine zy_callVJ C hR [_, _, _] hm1 lL_201 rfl (tM_K hT1) (by decide) rfl ⟨by omega, by omega, by omega, by omega⟩ (zle rfl) dL_law__1471 ?_
  intro r1 t2 h2 q2
  obtain ⟨q3, q4, q5⟩ := q2
  obtain ⟨a2, c2, e2, S2, I2⟩ := id q5
  refine zz_lstore_6 C (zle rfl) rfl dL_law__1474 <| zz_aload_2 C dL_law__1476 <| zpc 1477 rfl <| ?_
  refine zf_callVI C hR [] (c_thrown I2.T) lL_132 rfl (tM_K I2.T) (by decide) rfl ⟨zle rfl, zle rfl, hc, hs⟩ (zle rfl) dL_law__1477 ?_
  refine zz_iload_5 C dL_law__1480 <| zpc 1482 rfl <| ?_
  refine zz_icmp_eq C 1487 dL_law__1482 (by decide) (fun _ => ?_) (fun z => absurd q3 z)
  refine zz_iload_5 C dL_law__1487 <| zpc 1489 rfl <| ?_
  refine zz_if_ne C 1503 dL_law__1489 (by decide) (fun _ => zz_goto C 2442 dL_law__1503 (by decide) (kont _ _ _ _ _ q5)) (fun z0 => ?_)
  refine zz_aload_3 C dL_law__1492 <| zz_iconst_0 C dL_law__1493 <| zc_laload C 0 I2.1.2.2.2 (zlit _ (by decide)) (by decide) dL_law__1494 <| zz_lload_6 C dL_law__1495 <| zz_lcmp C dL_law__1497 <| zpc 1498 rfl <| ?_
  exact zz_if_eq C 1503 dL_law__1498 (by decide) (fun _ => zz_goto C 2442 dL_law__1503 (by decide) (kont _ _ _ _ _ q5)) (fun z => absurd (by rw [q4 z0]; exact lg_self _) z)
theorem lc_keep (C : zCx E b G RL cL_law_ 8 (some .boolean)) (hR : zRoom G 20 MC MS) (V : lzS b G sb L xs) (hlt : G.2.1.stackTraces = false) (I : jI t h a c e S j) (hj : 6 * j + 6 ≤ L) (hL : L ≤ 3072) (hc : cells + 1 ≤ MC) (hs : slots + 6 ≤ MS) (kont : ∀ t' h' x5 x6 x7, jAft t' h' (j + 1) → zAW E b G 8 (cells + 1) (slots + 6) 2442 [some (.ref sb), some (.ref (b + 0)), some (.ref (b + 157)), some (.ref (b + 250)), some (.int (nI (6 * j))), x5, x6, x7] [] t' h') : zAW E b G 8 cells slots 1506 [some (.ref sb), some (.ref (b + 0)), some (.ref (b + 157)), some (.ref (b + 250)), some (.int (nI (6 * j))), none, none, none] [] t h := by
  refine zz_aload_1 C dL_law__1506 <| zz_aload_0 C dL_law__1507 <| zz_iload_4 C dL_law__1508 <| zz_iconst_1 C dL_law__1510 <| zz_iadd C dL_law__1511 <| zl_sld C V (6 * j + 1) (nI_ad (6 * j) 1) (by omega) dL_law__1512 <| zz_aload_3 C dL_law__1513 <| zpc 1514 rfl <| ?_
  refine zy_callSW C hR [_, _, _] (jw_keep I (by omega) hlt _) lL_202 rfl ⟨zle rfl, zle rfl, hc, hs⟩ (zle rfl) dL_law__1514 ?_
  intro k1 t1 h1 q1
  obtain ⟨hT1, d1, hd1, hm1⟩ := q1
  refine zz_istore_5 C (zle rfl) rfl dL_law__1517 <| zz_aload_2 C dL_law__1519 <| zz_aload_0 C dL_law__1520 <| zz_iload_4 C dL_law__1521 <| zz_iconst_1 C dL_law__1523 <| zz_iadd C dL_law__1524 <| zl_sld C V (6 * j + 1) (nI_ad (6 * j) 1) (by omega) dL_law__1525 <| zpc 1526 rfl <| ?_
  refine zy_callVI C hR [_] hm1 lL_204 rfl (tM_K hT1) (by decide) rfl ⟨by omega, by omega, by omega, by omega⟩ (zle rfl) dL_law__1526 ?_
  intro r1 t2 h2 q2
  obtain ⟨q3, q4, q5⟩ := q2
  obtain ⟨a2, c2, e2, S2, I2⟩ := id q5
  refine zz_istore_6 C (zle rfl) rfl dL_law__1529 <| zz_aload_2 C dL_law__1531 <| zpc 1532 rfl <| ?_
  refine zf_callVI C hR [] (c_thrown I2.T) lL_132 rfl (tM_K I2.T) (by decide) rfl ⟨zle rfl, zle rfl, hc, hs⟩ (zle rfl) dL_law__1532 ?_
  refine zz_iload_5 C dL_law__1535 <| zpc 1537 rfl <| ?_
  refine zz_icmp_eq C 1542 dL_law__1537 (by decide) (fun _ => ?_) (fun z => absurd q3 z)
  refine zz_iload_5 C dL_law__1542 <| zpc 1544 rfl <| ?_
  refine zz_if_ne C 1559 dL_law__1544 (by decide) (fun _ => zz_goto C 2442 dL_law__1559 (by decide) (kont _ _ _ _ _ q5)) (fun z0 => ?_)
  refine zz_aload_3 C dL_law__1547 <| zz_iconst_0 C dL_law__1548 <| zc_laload C 0 I2.1.2.2.2 (zlit _ (by decide)) (by decide) dL_law__1549 <| zz_iload_6 C dL_law__1550 <| zz_i2l C dL_law__1552 <| zz_lcmp C dL_law__1553 <| zpc 1554 rfl <| ?_
  exact zz_if_eq C 1559 dL_law__1554 (by decide) (fun _ => zz_goto C 2442 dL_law__1559 (by decide) (kont _ _ _ _ _ q5)) (fun z => absurd (by rw [q4 z0]; exact lg_self _) z)
theorem lc_careless (C : zCx E b G RL cL_law_ 8 (some .boolean)) (hR : zRoom G 20 MC MS) (V : lzS b G sb L xs) (hlt : G.2.1.stackTraces = false) (I : jI t h a c e S j) (hj : 6 * j + 6 ≤ L) (hL : L ≤ 3072) (hc : cells + 1 ≤ MC) (hs : slots + 6 ≤ MS) (kont : ∀ t' h' x5 x6 x7, jAft t' h' (j + 1) → zAW E b G 8 (cells + 1) (slots + 6) 2442 [some (.ref sb), some (.ref (b + 0)), some (.ref (b + 157)), some (.ref (b + 250)), some (.int (nI (6 * j))), x5, x6, x7] [] t' h') : zAW E b G 8 cells slots 1562 [some (.ref sb), some (.ref (b + 0)), some (.ref (b + 157)), some (.ref (b + 250)), some (.int (nI (6 * j))), none, none, none] [] t h := by
  refine zz_aload_1 C dL_law__1562 <| zz_aload_0 C dL_law__1563 <| zz_iload_4 C dL_law__1564 <| zz_iconst_1 C dL_law__1566 <| zz_iadd C dL_law__1567 <| zl_sld C V (6 * j + 1) (nI_ad (6 * j) 1) (by omega) dL_law__1568 <| zz_aload_0 C dL_law__1569 <| zz_iload_4 C dL_law__1570 <| zz_iconst_2 C dL_law__1572 <| zz_iadd C dL_law__1573 <| zl_sld C V (6 * j + 2) (nI_ad (6 * j) 2) (by omega) dL_law__1574 <| zz_aload_3 C dL_law__1575 <| zpc 1576 rfl <| ?_
  refine zy_callSW C hR [_, _, _, _] (jw_careless I (by omega) hlt _ _) lL_205 rfl ⟨zle rfl, zle rfl, hc, hs⟩ (zle rfl) dL_law__1576 ?_
  intro k1 t1 h1 q1
  obtain ⟨hT1, d1, hd1, hm1⟩ := q1
  refine zz_istore_5 C (zle rfl) rfl dL_law__1579 <| zz_aload_2 C dL_law__1581 <| zz_aload_0 C dL_law__1582 <| zz_iload_4 C dL_law__1583 <| zz_iconst_1 C dL_law__1585 <| zz_iadd C dL_law__1586 <| zl_sld C V (6 * j + 1) (nI_ad (6 * j) 1) (by omega) dL_law__1587 <| zz_aload_0 C dL_law__1588 <| zz_iload_4 C dL_law__1589 <| zz_iconst_2 C dL_law__1591 <| zz_iadd C dL_law__1592 <| zl_sld C V (6 * j + 2) (nI_ad (6 * j) 2) (by omega) dL_law__1593 <| zpc 1594 rfl <| ?_
  refine zy_callVJ C hR [_, _] hm1 lL_207 rfl (tM_K hT1) (by decide) rfl ⟨by omega, by omega, by omega, by omega⟩ (zle rfl) dL_law__1594 ?_
  intro r1 t2 h2 q2
  obtain ⟨q3, q4, q5⟩ := q2
  obtain ⟨a2, c2, e2, S2, I2⟩ := id q5
  refine zz_lstore_6 C (zle rfl) rfl dL_law__1597 <| zz_aload_2 C dL_law__1599 <| zpc 1600 rfl <| ?_
  refine zf_callVI C hR [] (c_thrown I2.T) lL_132 rfl (tM_K I2.T) (by decide) rfl ⟨zle rfl, zle rfl, hc, hs⟩ (zle rfl) dL_law__1600 ?_
  refine zz_iload_5 C dL_law__1603 <| zpc 1605 rfl <| ?_
  refine zz_icmp_eq C 1610 dL_law__1605 (by decide) (fun _ => ?_) (fun z => absurd q3 z)
  refine zz_iload_5 C dL_law__1610 <| zpc 1612 rfl <| ?_
  refine zz_if_ne C 1626 dL_law__1612 (by decide) (fun _ => zz_goto C 2442 dL_law__1626 (by decide) (kont _ _ _ _ _ q5)) (fun z0 => ?_)
  refine zz_aload_3 C dL_law__1615 <| zz_iconst_0 C dL_law__1616 <| zc_laload C 0 I2.1.2.2.2 (zlit _ (by decide)) (by decide) dL_law__1617 <| zz_lload_6 C dL_law__1618 <| zz_lcmp C dL_law__1620 <| zpc 1621 rfl <| ?_
  exact zz_if_eq C 1626 dL_law__1621 (by decide) (fun _ => zz_goto C 2442 dL_law__1626 (by decide) (kont _ _ _ _ _ q5)) (fun z => absurd (by rw [q4 z0]; exact lg_self _) z)
theorem lc_each (C : zCx E b G RL cL_law_ 8 (some .boolean)) (hR : zRoom G 20 MC MS) (V : lzS b G sb L xs) (hlt : G.2.1.stackTraces = false) (I : jI t h a c e S j) (hj : 6 * j + 6 ≤ L) (hL : L ≤ 3072) (hc : cells + 1 ≤ MC) (hs : slots + 6 ≤ MS) (kont : ∀ t' h' x5 x6 x7, jAft t' h' (j + 1) → zAW E b G 8 (cells + 1) (slots + 6) 2442 [some (.ref sb), some (.ref (b + 0)), some (.ref (b + 157)), some (.ref (b + 250)), some (.int (nI (6 * j))), x5, x6, x7] [] t' h') : zAW E b G 8 cells slots 1629 [some (.ref sb), some (.ref (b + 0)), some (.ref (b + 157)), some (.ref (b + 250)), some (.int (nI (6 * j))), none, none, none] [] t h := by
  refine zz_aload_1 C dL_law__1629 <| zz_aload_0 C dL_law__1630 <| zz_iload_4 C dL_law__1631 <| zz_iconst_1 C dL_law__1633 <| zz_iadd C dL_law__1634 <| zl_sld C V (6 * j + 1) (nI_ad (6 * j) 1) (by omega) dL_law__1635 <| zz_aload_0 C dL_law__1636 <| zz_iload_4 C dL_law__1637 <| zz_iconst_2 C dL_law__1639 <| zz_iadd C dL_law__1640 <| zl_sld C V (6 * j + 2) (nI_ad (6 * j) 2) (by omega) dL_law__1641 <| zz_aload_3 C dL_law__1642 <| zpc 1643 rfl <| ?_
  refine zy_callSW C hR [_, _, _, _] (jw_each I (by omega) hlt _ _) lL_208 rfl ⟨zle rfl, zle rfl, hc, hs⟩ (zle rfl) dL_law__1643 ?_
  intro k1 t1 h1 q1
  obtain ⟨hT1, d1, hd1, hm1⟩ := q1
  refine zz_istore_5 C (zle rfl) rfl dL_law__1646 <| zz_aload_2 C dL_law__1648 <| zz_aload_0 C dL_law__1649 <| zz_iload_4 C dL_law__1650 <| zz_iconst_1 C dL_law__1652 <| zz_iadd C dL_law__1653 <| zl_sld C V (6 * j + 1) (nI_ad (6 * j) 1) (by omega) dL_law__1654 <| zz_aload_0 C dL_law__1655 <| zz_iload_4 C dL_law__1656 <| zz_iconst_2 C dL_law__1658 <| zz_iadd C dL_law__1659 <| zl_sld C V (6 * j + 2) (nI_ad (6 * j) 2) (by omega) dL_law__1660 <| zpc 1661 rfl <| ?_
  refine zy_callVJ C hR [_, _] hm1 lL_210 rfl (tM_K hT1) (by decide) rfl ⟨by omega, by omega, by omega, by omega⟩ (zle rfl) dL_law__1661 ?_
  intro r1 t2 h2 q2
  obtain ⟨q3, q4, q5⟩ := q2
  obtain ⟨a2, c2, e2, S2, I2⟩ := id q5
  refine zz_lstore_6 C (zle rfl) rfl dL_law__1664 <| zz_aload_2 C dL_law__1666 <| zpc 1667 rfl <| ?_
  refine zf_callVI C hR [] (c_thrown I2.T) lL_132 rfl (tM_K I2.T) (by decide) rfl ⟨zle rfl, zle rfl, hc, hs⟩ (zle rfl) dL_law__1667 ?_
  refine zz_iload_5 C dL_law__1670 <| zpc 1672 rfl <| ?_
  refine zz_icmp_eq C 1677 dL_law__1672 (by decide) (fun _ => ?_) (fun z => absurd q3 z)
  refine zz_iload_5 C dL_law__1677 <| zpc 1679 rfl <| ?_
  refine zz_if_ne C 1693 dL_law__1679 (by decide) (fun _ => zz_goto C 2442 dL_law__1693 (by decide) (kont _ _ _ _ _ q5)) (fun z0 => ?_)
  refine zz_aload_3 C dL_law__1682 <| zz_iconst_0 C dL_law__1683 <| zc_laload C 0 I2.1.2.2.2 (zlit _ (by decide)) (by decide) dL_law__1684 <| zz_lload_6 C dL_law__1685 <| zz_lcmp C dL_law__1687 <| zpc 1688 rfl <| ?_
  exact zz_if_eq C 1693 dL_law__1688 (by decide) (fun _ => zz_goto C 2442 dL_law__1693 (by decide) (kont _ _ _ _ _ q5)) (fun z => absurd (by rw [q4 z0]; exact lg_self _) z)
theorem lc_hold (C : zCx E b G RL cL_law_ 8 (some .boolean)) (hR : zRoom G 20 MC MS) (V : lzS b G sb L xs) (hlt : G.2.1.stackTraces = false) (I : jI t h a c e S j) (hj : 6 * j + 6 ≤ L) (hL : L ≤ 3072) (hc : cells + 1 ≤ MC) (hs : slots + 6 ≤ MS) (kont : ∀ t' h' x5 x6 x7, jAft t' h' (j + 1) → zAW E b G 8 (cells + 1) (slots + 6) 2442 [some (.ref sb), some (.ref (b + 0)), some (.ref (b + 157)), some (.ref (b + 250)), some (.int (nI (6 * j))), x5, x6, x7] [] t' h') : zAW E b G 8 cells slots 1696 [some (.ref sb), some (.ref (b + 0)), some (.ref (b + 157)), some (.ref (b + 250)), some (.int (nI (6 * j))), none, none, none] [] t h := by
  refine zz_aload_1 C dL_law__1696 <| zz_aload_0 C dL_law__1697 <| zz_iload_4 C dL_law__1698 <| zz_iconst_1 C dL_law__1700 <| zz_iadd C dL_law__1701 <| zl_sld C V (6 * j + 1) (nI_ad (6 * j) 1) (by omega) dL_law__1702 <| zz_aload_0 C dL_law__1703 <| zz_iload_4 C dL_law__1704 <| zz_iconst_2 C dL_law__1706 <| zz_iadd C dL_law__1707 <| zl_sld C V (6 * j + 2) (nI_ad (6 * j) 2) (by omega) dL_law__1708 <| zz_aload_0 C dL_law__1709 <| ?_
  refine zz_iload_4 C dL_law__1710 <| zz_iconst_3 C dL_law__1712 <| zz_iadd C dL_law__1713 <| zl_sld C V (6 * j + 3) (nI_ad (6 * j) 3) (by omega) dL_law__1714 <| zz_aload_3 C dL_law__1715 <| zpc 1716 rfl <| ?_
  refine zy_callSW C hR [_, _, _, _, _] (jw_hold I (by omega) hlt _ _ _) lL_211 rfl ⟨zle rfl, zle rfl, hc, hs⟩ (zle rfl) dL_law__1716 ?_
  intro k1 t1 h1 q1
  obtain ⟨hT1, d1, hd1, hm1⟩ := q1
  refine zz_istore_5 C (zle rfl) rfl dL_law__1719 <| zz_aload_2 C dL_law__1721 <| zz_aload_0 C dL_law__1722 <| zz_iload_4 C dL_law__1723 <| zz_iconst_1 C dL_law__1725 <| zz_iadd C dL_law__1726 <| zl_sld C V (6 * j + 1) (nI_ad (6 * j) 1) (by omega) dL_law__1727 <| zz_aload_0 C dL_law__1728 <| zz_iload_4 C dL_law__1729 <| zz_iconst_2 C dL_law__1731 <| zz_iadd C dL_law__1732 <| zl_sld C V (6 * j + 2) (nI_ad (6 * j) 2) (by omega) dL_law__1733 <| ?_
  refine zz_aload_0 C dL_law__1734 <| zz_iload_4 C dL_law__1735 <| zz_iconst_3 C dL_law__1737 <| zz_iadd C dL_law__1738 <| zl_sld C V (6 * j + 3) (nI_ad (6 * j) 3) (by omega) dL_law__1739 <| zpc 1740 rfl <| ?_
  refine zy_callVJ C hR [_, _, _] hm1 lL_213 rfl (tM_K hT1) (by decide) rfl ⟨by omega, by omega, by omega, by omega⟩ (zle rfl) dL_law__1740 ?_
  intro r1 t2 h2 q2
  obtain ⟨q3, q4, q5⟩ := q2
  obtain ⟨a2, c2, e2, S2, I2⟩ := id q5
  refine zz_lstore_6 C (zle rfl) rfl dL_law__1743 <| zz_aload_2 C dL_law__1745 <| zpc 1746 rfl <| ?_
  refine zf_callVI C hR [] (c_thrown I2.T) lL_132 rfl (tM_K I2.T) (by decide) rfl ⟨zle rfl, zle rfl, hc, hs⟩ (zle rfl) dL_law__1746 ?_
  refine zz_iload_5 C dL_law__1749 <| zpc 1751 rfl <| ?_
  refine zz_icmp_eq C 1756 dL_law__1751 (by decide) (fun _ => ?_) (fun z => absurd q3 z)
  refine zz_iload_5 C dL_law__1756 <| zpc 1758 rfl <| ?_
  refine zz_if_ne C 1772 dL_law__1758 (by decide) (fun _ => zz_goto C 2442 dL_law__1772 (by decide) (kont _ _ _ _ _ q5)) (fun z0 => ?_)
  refine zz_aload_3 C dL_law__1761 <| zz_iconst_0 C dL_law__1762 <| zc_laload C 0 I2.1.2.2.2 (zlit _ (by decide)) (by decide) dL_law__1763 <| zz_lload_6 C dL_law__1764 <| zz_lcmp C dL_law__1766 <| zpc 1767 rfl <| ?_
  exact zz_if_eq C 1772 dL_law__1767 (by decide) (fun _ => zz_goto C 2442 dL_law__1772 (by decide) (kont _ _ _ _ _ q5)) (fun z => absurd (by rw [q4 z0]; exact lg_self _) z)
theorem lc_who (C : zCx E b G RL cL_law_ 8 (some .boolean)) (hR : zRoom G 20 MC MS) (V : lzS b G sb L xs) (hlt : G.2.1.stackTraces = false) (I : jI t h a c e S j) (hj : 6 * j + 6 ≤ L) (hL : L ≤ 3072) (hc : cells + 1 ≤ MC) (hs : slots + 6 ≤ MS) (kont : ∀ t' h' x5 x6 x7, jAft t' h' (j + 1) → zAW E b G 8 (cells + 1) (slots + 6) 2442 [some (.ref sb), some (.ref (b + 0)), some (.ref (b + 157)), some (.ref (b + 250)), some (.int (nI (6 * j))), x5, x6, x7] [] t' h') : zAW E b G 8 cells slots 1775 [some (.ref sb), some (.ref (b + 0)), some (.ref (b + 157)), some (.ref (b + 250)), some (.int (nI (6 * j))), none, none, none] [] t h := by
  refine zz_aload_1 C dL_law__1775 <| zz_aload_0 C dL_law__1776 <| zz_iload_4 C dL_law__1777 <| zz_iconst_1 C dL_law__1779 <| zz_iadd C dL_law__1780 <| zl_sld C V (6 * j + 1) (nI_ad (6 * j) 1) (by omega) dL_law__1781 <| zz_aload_3 C dL_law__1782 <| zpc 1783 rfl <| ?_
  refine zy_callSW C hR [_, _, _] (jw_who I (by omega) hlt _) lL_214 rfl ⟨zle rfl, zle rfl, hc, hs⟩ (zle rfl) dL_law__1783 ?_
  intro k1 t1 h1 q1
  obtain ⟨hT1, d1, hd1, hm1⟩ := q1
  refine zz_istore_5 C (zle rfl) rfl dL_law__1786 <| zz_aload_2 C dL_law__1788 <| zz_aload_0 C dL_law__1789 <| zz_iload_4 C dL_law__1790 <| zz_iconst_1 C dL_law__1792 <| zz_iadd C dL_law__1793 <| zl_sld C V (6 * j + 1) (nI_ad (6 * j) 1) (by omega) dL_law__1794 <| zpc 1795 rfl <| ?_
  refine zy_callVI C hR [_] hm1 lL_216 rfl (tM_K hT1) (by decide) rfl ⟨by omega, by omega, by omega, by omega⟩ (zle rfl) dL_law__1795 ?_
  intro r1 t2 h2 q2
  obtain ⟨q3, q4, q5⟩ := q2
  obtain ⟨a2, c2, e2, S2, I2⟩ := id q5
  refine zz_istore_6 C (zle rfl) rfl dL_law__1798 <| zz_aload_2 C dL_law__1800 <| zpc 1801 rfl <| ?_
  refine zf_callVI C hR [] (c_thrown I2.T) lL_132 rfl (tM_K I2.T) (by decide) rfl ⟨zle rfl, zle rfl, hc, hs⟩ (zle rfl) dL_law__1801 ?_
  refine zz_iload_5 C dL_law__1804 <| zpc 1806 rfl <| ?_
  refine zz_icmp_eq C 1811 dL_law__1806 (by decide) (fun _ => ?_) (fun z => absurd q3 z)
  refine zz_iload_5 C dL_law__1811 <| zpc 1813 rfl <| ?_
  refine zz_if_ne C 1828 dL_law__1813 (by decide) (fun _ => zz_goto C 2442 dL_law__1828 (by decide) (kont _ _ _ _ _ q5)) (fun z0 => ?_)
  refine zz_aload_3 C dL_law__1816 <| zz_iconst_0 C dL_law__1817 <| zc_laload C 0 I2.1.2.2.2 (zlit _ (by decide)) (by decide) dL_law__1818 <| zz_iload_6 C dL_law__1819 <| zz_i2l C dL_law__1821 <| zz_lcmp C dL_law__1822 <| zpc 1823 rfl <| ?_
  exact zz_if_eq C 1828 dL_law__1823 (by decide) (fun _ => zz_goto C 2442 dL_law__1828 (by decide) (kont _ _ _ _ _ q5)) (fun z => absurd (by rw [q4 z0]; exact lg_self _) z)
theorem lc_more (C : zCx E b G RL cL_law_ 8 (some .boolean)) (hR : zRoom G 20 MC MS) (V : lzS b G sb L xs) (hlt : G.2.1.stackTraces = false) (I : jI t h a c e S j) (hj : 6 * j + 6 ≤ L) (hL : L ≤ 3072) (hc : cells + 1 ≤ MC) (hs : slots + 6 ≤ MS) (kont : ∀ t' h' x5 x6 x7, jAft t' h' (j + 1) → zAW E b G 8 (cells + 1) (slots + 6) 2442 [some (.ref sb), some (.ref (b + 0)), some (.ref (b + 157)), some (.ref (b + 250)), some (.int (nI (6 * j))), x5, x6, x7] [] t' h') : zAW E b G 8 cells slots 1831 [some (.ref sb), some (.ref (b + 0)), some (.ref (b + 157)), some (.ref (b + 250)), some (.int (nI (6 * j))), none, none, none] [] t h := by
  refine zz_aload_1 C dL_law__1831 <| zz_aload_0 C dL_law__1832 <| zz_iload_4 C dL_law__1833 <| zz_iconst_1 C dL_law__1835 <| zz_iadd C dL_law__1836 <| zl_sld C V (6 * j + 1) (nI_ad (6 * j) 1) (by omega) dL_law__1837 <| zz_aload_0 C dL_law__1838 <| zz_iload_4 C dL_law__1839 <| zz_iconst_2 C dL_law__1841 <| zz_iadd C dL_law__1842 <| zl_sld C V (6 * j + 2) (nI_ad (6 * j) 2) (by omega) dL_law__1843 <| zz_aload_3 C dL_law__1844 <| zpc 1845 rfl <| ?_
  refine zy_callSW C hR [_, _, _, _] (jw_more I (by omega) hlt _ _) lL_217 rfl ⟨zle rfl, zle rfl, hc, hs⟩ (zle rfl) dL_law__1845 ?_
  intro k1 t1 h1 q1
  obtain ⟨hT1, d1, hd1, hm1⟩ := q1
  refine zz_istore_5 C (zle rfl) rfl dL_law__1848 <| zz_aload_2 C dL_law__1850 <| zz_aload_0 C dL_law__1851 <| zz_iload_4 C dL_law__1852 <| zz_iconst_1 C dL_law__1854 <| zz_iadd C dL_law__1855 <| zl_sld C V (6 * j + 1) (nI_ad (6 * j) 1) (by omega) dL_law__1856 <| zz_aload_0 C dL_law__1857 <| zz_iload_4 C dL_law__1858 <| zz_iconst_2 C dL_law__1860 <| zz_iadd C dL_law__1861 <| zl_sld C V (6 * j + 2) (nI_ad (6 * j) 2) (by omega) dL_law__1862 <| zpc 1863 rfl <| ?_
  refine zy_callVJ C hR [_, _] hm1 lL_219 rfl (tM_K hT1) (by decide) rfl ⟨by omega, by omega, by omega, by omega⟩ (zle rfl) dL_law__1863 ?_
  intro r1 t2 h2 q2
  obtain ⟨q3, q4, q5⟩ := q2
  obtain ⟨a2, c2, e2, S2, I2⟩ := id q5
  refine zz_lstore_6 C (zle rfl) rfl dL_law__1866 <| zz_aload_2 C dL_law__1868 <| zpc 1869 rfl <| ?_
  refine zf_callVI C hR [] (c_thrown I2.T) lL_132 rfl (tM_K I2.T) (by decide) rfl ⟨zle rfl, zle rfl, hc, hs⟩ (zle rfl) dL_law__1869 ?_
  refine zz_iload_5 C dL_law__1872 <| zpc 1874 rfl <| ?_
  refine zz_icmp_eq C 1879 dL_law__1874 (by decide) (fun _ => ?_) (fun z => absurd q3 z)
  refine zz_iload_5 C dL_law__1879 <| zpc 1881 rfl <| ?_
  refine zz_if_ne C 1895 dL_law__1881 (by decide) (fun _ => zz_goto C 2442 dL_law__1895 (by decide) (kont _ _ _ _ _ q5)) (fun z0 => ?_)
  refine zz_aload_3 C dL_law__1884 <| zz_iconst_0 C dL_law__1885 <| zc_laload C 0 I2.1.2.2.2 (zlit _ (by decide)) (by decide) dL_law__1886 <| zz_lload_6 C dL_law__1887 <| zz_lcmp C dL_law__1889 <| zpc 1890 rfl <| ?_
  exact zz_if_eq C 1895 dL_law__1890 (by decide) (fun _ => zz_goto C 2442 dL_law__1895 (by decide) (kont _ _ _ _ _ q5)) (fun z => absurd (by rw [q4 z0]; exact lg_self _) z)
theorem lc_which (C : zCx E b G RL cL_law_ 8 (some .boolean)) (hR : zRoom G 20 MC MS) (V : lzS b G sb L xs) (hlt : G.2.1.stackTraces = false) (I : jI t h a c e S j) (hj : 6 * j + 6 ≤ L) (hL : L ≤ 3072) (hc : cells + 1 ≤ MC) (hs : slots + 6 ≤ MS) (kont : ∀ t' h' x5 x6 x7, jAft t' h' (j + 1) → zAW E b G 8 (cells + 1) (slots + 6) 2442 [some (.ref sb), some (.ref (b + 0)), some (.ref (b + 157)), some (.ref (b + 250)), some (.int (nI (6 * j))), x5, x6, x7] [] t' h') : zAW E b G 8 cells slots 1898 [some (.ref sb), some (.ref (b + 0)), some (.ref (b + 157)), some (.ref (b + 250)), some (.int (nI (6 * j))), none, none, none] [] t h := by
  refine zz_aload_1 C dL_law__1898 <| zz_aload_0 C dL_law__1899 <| zz_iload_4 C dL_law__1900 <| zz_iconst_1 C dL_law__1902 <| zz_iadd C dL_law__1903 <| zl_sld C V (6 * j + 1) (nI_ad (6 * j) 1) (by omega) dL_law__1904 <| zz_aload_3 C dL_law__1905 <| zpc 1906 rfl <| ?_
  refine zy_callSW C hR [_, _, _] (jw_which I (by omega) hlt _) lL_220 rfl ⟨zle rfl, zle rfl, hc, hs⟩ (zle rfl) dL_law__1906 ?_
  intro k1 t1 h1 q1
  obtain ⟨hT1, d1, hd1, hm1⟩ := q1
  refine zz_istore_5 C (zle rfl) rfl dL_law__1909 <| zz_aload_2 C dL_law__1911 <| zz_aload_0 C dL_law__1912 <| zz_iload_4 C dL_law__1913 <| zz_iconst_1 C dL_law__1915 <| zz_iadd C dL_law__1916 <| zl_sld C V (6 * j + 1) (nI_ad (6 * j) 1) (by omega) dL_law__1917 <| zpc 1918 rfl <| ?_
  refine zy_callVI C hR [_] hm1 lL_222 rfl (tM_K hT1) (by decide) rfl ⟨by omega, by omega, by omega, by omega⟩ (zle rfl) dL_law__1918 ?_
  intro r1 t2 h2 q2
  obtain ⟨q3, q4, q5⟩ := q2
  obtain ⟨a2, c2, e2, S2, I2⟩ := id q5
  refine zz_istore_6 C (zle rfl) rfl dL_law__1921 <| zz_aload_2 C dL_law__1923 <| zpc 1924 rfl <| ?_
  refine zf_callVI C hR [] (c_thrown I2.T) lL_132 rfl (tM_K I2.T) (by decide) rfl ⟨zle rfl, zle rfl, hc, hs⟩ (zle rfl) dL_law__1924 ?_
  refine zz_iload_5 C dL_law__1927 <| zpc 1929 rfl <| ?_
  refine zz_icmp_eq C 1934 dL_law__1929 (by decide) (fun _ => ?_) (fun z => absurd q3 z)
  refine zz_iload_5 C dL_law__1934 <| zpc 1936 rfl <| ?_
  refine zz_if_ne C 1951 dL_law__1936 (by decide) (fun _ => zz_goto C 2442 dL_law__1951 (by decide) (kont _ _ _ _ _ q5)) (fun z0 => ?_)
  refine zz_aload_3 C dL_law__1939 <| zz_iconst_0 C dL_law__1940 <| zc_laload C 0 I2.1.2.2.2 (zlit _ (by decide)) (by decide) dL_law__1941 <| zz_iload_6 C dL_law__1942 <| zz_i2l C dL_law__1944 <| zz_lcmp C dL_law__1945 <| zpc 1946 rfl <| ?_
  exact zz_if_eq C 1951 dL_law__1946 (by decide) (fun _ => zz_goto C 2442 dL_law__1951 (by decide) (kont _ _ _ _ _ q5)) (fun z => absurd (by rw [q4 z0]; exact lg_self _) z)
theorem lc_men (C : zCx E b G RL cL_law_ 8 (some .boolean)) (hR : zRoom G 20 MC MS) (V : lzS b G sb L xs) (hlt : G.2.1.stackTraces = false) (I : jI t h a c e S j) (hj : 6 * j + 6 ≤ L) (hL : L ≤ 3072) (hc : cells + 1 ≤ MC) (hs : slots + 6 ≤ MS) (kont : ∀ t' h' x5 x6 x7, jAft t' h' (j + 1) → zAW E b G 8 (cells + 1) (slots + 6) 2442 [some (.ref sb), some (.ref (b + 0)), some (.ref (b + 157)), some (.ref (b + 250)), some (.int (nI (6 * j))), x5, x6, x7] [] t' h') : zAW E b G 8 cells slots 1954 [some (.ref sb), some (.ref (b + 0)), some (.ref (b + 157)), some (.ref (b + 250)), some (.int (nI (6 * j))), none, none, none] [] t h := by
  refine zz_aload_1 C dL_law__1954 <| zz_aload_0 C dL_law__1955 <| zz_iload_4 C dL_law__1956 <| zz_iconst_1 C dL_law__1958 <| zz_iadd C dL_law__1959 <| zl_sld C V (6 * j + 1) (nI_ad (6 * j) 1) (by omega) dL_law__1960 <| zz_aload_0 C dL_law__1961 <| zz_iload_4 C dL_law__1962 <| zz_iconst_2 C dL_law__1964 <| zz_iadd C dL_law__1965 <| zl_sld C V (6 * j + 2) (nI_ad (6 * j) 2) (by omega) dL_law__1966 <| zz_aload_3 C dL_law__1967 <| zpc 1968 rfl <| ?_
  refine zy_callSW C hR [_, _, _, _] (jw_men I (by omega) hlt _ _) lL_223 rfl ⟨zle rfl, zle rfl, hc, hs⟩ (zle rfl) dL_law__1968 ?_
  intro k1 t1 h1 q1
  obtain ⟨hT1, d1, hd1, hm1⟩ := q1
  refine zz_istore_5 C (zle rfl) rfl dL_law__1971 <| zz_aload_2 C dL_law__1973 <| zz_aload_0 C dL_law__1974 <| zz_iload_4 C dL_law__1975 <| zz_iconst_1 C dL_law__1977 <| zz_iadd C dL_law__1978 <| zl_sld C V (6 * j + 1) (nI_ad (6 * j) 1) (by omega) dL_law__1979 <| zz_aload_0 C dL_law__1980 <| zz_iload_4 C dL_law__1981 <| zz_iconst_2 C dL_law__1983 <| zz_iadd C dL_law__1984 <| zl_sld C V (6 * j + 2) (nI_ad (6 * j) 2) (by omega) dL_law__1985 <| zpc 1986 rfl <| ?_
  refine zy_callVJ C hR [_, _] hm1 lL_225 rfl (tM_K hT1) (by decide) rfl ⟨by omega, by omega, by omega, by omega⟩ (zle rfl) dL_law__1986 ?_
  intro r1 t2 h2 q2
  obtain ⟨q3, q4, q5⟩ := q2
  obtain ⟨a2, c2, e2, S2, I2⟩ := id q5
  refine zz_lstore_6 C (zle rfl) rfl dL_law__1989 <| zz_aload_2 C dL_law__1991 <| zpc 1992 rfl <| ?_
  refine zf_callVI C hR [] (c_thrown I2.T) lL_132 rfl (tM_K I2.T) (by decide) rfl ⟨zle rfl, zle rfl, hc, hs⟩ (zle rfl) dL_law__1992 ?_
  refine zz_iload_5 C dL_law__1995 <| zpc 1997 rfl <| ?_
  refine zz_icmp_eq C 2002 dL_law__1997 (by decide) (fun _ => ?_) (fun z => absurd q3 z)
  refine zz_iload_5 C dL_law__2002 <| zpc 2004 rfl <| ?_
  refine zz_if_ne C 2018 dL_law__2004 (by decide) (fun _ => zz_goto C 2442 dL_law__2018 (by decide) (kont _ _ _ _ _ q5)) (fun z0 => ?_)
  refine zz_aload_3 C dL_law__2007 <| zz_iconst_0 C dL_law__2008 <| zc_laload C 0 I2.1.2.2.2 (zlit _ (by decide)) (by decide) dL_law__2009 <| zz_lload_6 C dL_law__2010 <| zz_lcmp C dL_law__2012 <| zpc 2013 rfl <| ?_
  exact zz_if_eq C 2018 dL_law__2013 (by decide) (fun _ => zz_goto C 2442 dL_law__2018 (by decide) (kont _ _ _ _ _ q5)) (fun z => absurd (by rw [q4 z0]; exact lg_self _) z)
theorem lc_beside (C : zCx E b G RL cL_law_ 8 (some .boolean)) (hR : zRoom G 20 MC MS) (V : lzS b G sb L xs) (hlt : G.2.1.stackTraces = false) (I : jI t h a c e S j) (hj : 6 * j + 6 ≤ L) (hL : L ≤ 3072) (hc : cells + 1 ≤ MC) (hs : slots + 6 ≤ MS) (kont : ∀ t' h' x5 x6 x7, jAft t' h' (j + 1) → zAW E b G 8 (cells + 1) (slots + 6) 2442 [some (.ref sb), some (.ref (b + 0)), some (.ref (b + 157)), some (.ref (b + 250)), some (.int (nI (6 * j))), x5, x6, x7] [] t' h') : zAW E b G 8 cells slots 2021 [some (.ref sb), some (.ref (b + 0)), some (.ref (b + 157)), some (.ref (b + 250)), some (.int (nI (6 * j))), none, none, none] [] t h := by
  refine zz_aload_1 C dL_law__2021 <| zz_aload_0 C dL_law__2022 <| zz_iload_4 C dL_law__2023 <| zz_iconst_1 C dL_law__2025 <| zz_iadd C dL_law__2026 <| zl_sld C V (6 * j + 1) (nI_ad (6 * j) 1) (by omega) dL_law__2027 <| zz_aload_3 C dL_law__2028 <| zpc 2029 rfl <| ?_
  refine zy_callSW C hR [_, _, _] (jw_beside I (by omega) hlt _) lL_226 rfl ⟨zle rfl, zle rfl, hc, hs⟩ (zle rfl) dL_law__2029 ?_
  intro k1 t1 h1 q1
  obtain ⟨hT1, d1, hd1, hm1⟩ := q1
  refine zz_istore_5 C (zle rfl) rfl dL_law__2032 <| zz_aload_2 C dL_law__2034 <| zz_aload_0 C dL_law__2035 <| zz_iload_4 C dL_law__2036 <| zz_iconst_1 C dL_law__2038 <| zz_iadd C dL_law__2039 <| zl_sld C V (6 * j + 1) (nI_ad (6 * j) 1) (by omega) dL_law__2040 <| zpc 2041 rfl <| ?_
  refine zy_callVI C hR [_] hm1 lL_228 rfl (tM_K hT1) (by decide) rfl ⟨by omega, by omega, by omega, by omega⟩ (zle rfl) dL_law__2041 ?_
  intro r1 t2 h2 q2
  obtain ⟨q3, q4, q5⟩ := q2
  obtain ⟨a2, c2, e2, S2, I2⟩ := id q5
  refine zz_istore_6 C (zle rfl) rfl dL_law__2044 <| zz_aload_2 C dL_law__2046 <| zpc 2047 rfl <| ?_
  refine zf_callVI C hR [] (c_thrown I2.T) lL_132 rfl (tM_K I2.T) (by decide) rfl ⟨zle rfl, zle rfl, hc, hs⟩ (zle rfl) dL_law__2047 ?_
  refine zz_iload_5 C dL_law__2050 <| zpc 2052 rfl <| ?_
  refine zz_icmp_eq C 2057 dL_law__2052 (by decide) (fun _ => ?_) (fun z => absurd q3 z)
  refine zz_iload_5 C dL_law__2057 <| zpc 2059 rfl <| ?_
  refine zz_if_ne C 2074 dL_law__2059 (by decide) (fun _ => zz_goto C 2442 dL_law__2074 (by decide) (kont _ _ _ _ _ q5)) (fun z0 => ?_)
  refine zz_aload_3 C dL_law__2062 <| zz_iconst_0 C dL_law__2063 <| zc_laload C 0 I2.1.2.2.2 (zlit _ (by decide)) (by decide) dL_law__2064 <| zz_iload_6 C dL_law__2065 <| zz_i2l C dL_law__2067 <| zz_lcmp C dL_law__2068 <| zpc 2069 rfl <| ?_
  exact zz_if_eq C 2074 dL_law__2069 (by decide) (fun _ => zz_goto C 2442 dL_law__2074 (by decide) (kont _ _ _ _ _ q5)) (fun z => absurd (by rw [q4 z0]; exact lg_self _) z)
theorem lc_law (C : zCx E b G RL cL_law_ 8 (some .boolean)) (hR : zRoom G 20 MC MS) (V : lzS b G sb L xs) (hlt : G.2.1.stackTraces = false) (I : jI t h a c e S j) (hj : 6 * j + 6 ≤ L) (hL : L ≤ 3072) (hc : cells + 1 ≤ MC) (hs : slots + 6 ≤ MS) (kont : ∀ t' h' x5 x6 x7, jAft t' h' (j + 1) → zAW E b G 8 (cells + 1) (slots + 6) 2442 [some (.ref sb), some (.ref (b + 0)), some (.ref (b + 157)), some (.ref (b + 250)), some (.int (nI (6 * j))), x5, x6, x7] [] t' h') : zAW E b G 8 cells slots 2077 [some (.ref sb), some (.ref (b + 0)), some (.ref (b + 157)), some (.ref (b + 250)), some (.int (nI (6 * j))), none, none, none] [] t h := by
  refine zz_aload_1 C dL_law__2077 <| zz_aload_0 C dL_law__2078 <| zz_iload_4 C dL_law__2079 <| zz_iconst_1 C dL_law__2081 <| zz_iadd C dL_law__2082 <| zl_sld C V (6 * j + 1) (nI_ad (6 * j) 1) (by omega) dL_law__2083 <| zz_aload_0 C dL_law__2084 <| zz_iload_4 C dL_law__2085 <| zz_iconst_2 C dL_law__2087 <| zz_iadd C dL_law__2088 <| zl_sld C V (6 * j + 2) (nI_ad (6 * j) 2) (by omega) dL_law__2089 <| zz_aload_3 C dL_law__2090 <| zpc 2091 rfl <| ?_
  refine zy_callSW C hR [_, _, _, _] (jw_law I (by omega) hlt _ _) lL_229 rfl ⟨zle rfl, zle rfl, hc, hs⟩ (zle rfl) dL_law__2091 ?_
  intro k1 t1 h1 q1
  obtain ⟨hT1, d1, hd1, hm1⟩ := q1
  refine zz_istore_5 C (zle rfl) rfl dL_law__2094 <| zz_aload_2 C dL_law__2096 <| zz_aload_0 C dL_law__2097 <| zz_iload_4 C dL_law__2098 <| zz_iconst_1 C dL_law__2100 <| zz_iadd C dL_law__2101 <| zl_sld C V (6 * j + 1) (nI_ad (6 * j) 1) (by omega) dL_law__2102 <| zz_aload_0 C dL_law__2103 <| zz_iload_4 C dL_law__2104 <| zz_iconst_2 C dL_law__2106 <| zz_iadd C dL_law__2107 <| zl_sld C V (6 * j + 2) (nI_ad (6 * j) 2) (by omega) dL_law__2108 <| zpc 2109 rfl <| ?_
  refine zy_callVJ C hR [_, _] hm1 lL_231 rfl (tM_K hT1) (by decide) rfl ⟨by omega, by omega, by omega, by omega⟩ (zle rfl) dL_law__2109 ?_
  intro r1 t2 h2 q2
  obtain ⟨q3, q4, q5⟩ := q2
  obtain ⟨a2, c2, e2, S2, I2⟩ := id q5
  refine zz_lstore_6 C (zle rfl) rfl dL_law__2112 <| zz_aload_2 C dL_law__2114 <| zpc 2115 rfl <| ?_
  refine zf_callVI C hR [] (c_thrown I2.T) lL_132 rfl (tM_K I2.T) (by decide) rfl ⟨zle rfl, zle rfl, hc, hs⟩ (zle rfl) dL_law__2115 ?_
  refine zz_iload_5 C dL_law__2118 <| zpc 2120 rfl <| ?_
  refine zz_icmp_eq C 2125 dL_law__2120 (by decide) (fun _ => ?_) (fun z => absurd q3 z)
  refine zz_iload_5 C dL_law__2125 <| zpc 2127 rfl <| ?_
  refine zz_if_ne C 2141 dL_law__2127 (by decide) (fun _ => zz_goto C 2442 dL_law__2141 (by decide) (kont _ _ _ _ _ q5)) (fun z0 => ?_)
  refine zz_aload_3 C dL_law__2130 <| zz_iconst_0 C dL_law__2131 <| zc_laload C 0 I2.1.2.2.2 (zlit _ (by decide)) (by decide) dL_law__2132 <| zz_lload_6 C dL_law__2133 <| zz_lcmp C dL_law__2135 <| zpc 2136 rfl <| ?_
  exact zz_if_eq C 2141 dL_law__2136 (by decide) (fun _ => zz_goto C 2442 dL_law__2141 (by decide) (kont _ _ _ _ _ q5)) (fun z => absurd (by rw [q4 z0]; exact lg_self _) z)
theorem lc_other (C : zCx E b G RL cL_law_ 8 (some .boolean)) (hR : zRoom G 20 MC MS) (V : lzS b G sb L xs) (hlt : G.2.1.stackTraces = false) (I : jI t h a c e S j) (hj : 6 * j + 6 ≤ L) (hL : L ≤ 3072) (hc : cells + 1 ≤ MC) (hs : slots + 6 ≤ MS) (kont : ∀ t' h' x5 x6 x7, jAft t' h' (j + 1) → zAW E b G 8 (cells + 1) (slots + 6) 2442 [some (.ref sb), some (.ref (b + 0)), some (.ref (b + 157)), some (.ref (b + 250)), some (.int (nI (6 * j))), x5, x6, x7] [] t' h') : zAW E b G 8 cells slots 2144 [some (.ref sb), some (.ref (b + 0)), some (.ref (b + 157)), some (.ref (b + 250)), some (.int (nI (6 * j))), none, none, none] [] t h := by
  refine zz_aload_1 C dL_law__2144 <| zz_aload_0 C dL_law__2145 <| zz_iload_4 C dL_law__2146 <| zz_iconst_1 C dL_law__2148 <| zz_iadd C dL_law__2149 <| zl_sld C V (6 * j + 1) (nI_ad (6 * j) 1) (by omega) dL_law__2150 <| zz_aload_3 C dL_law__2151 <| zpc 2152 rfl <| ?_
  refine zy_callSW C hR [_, _, _] (jw_other I (by omega) hlt _) lL_232 rfl ⟨zle rfl, zle rfl, hc, hs⟩ (zle rfl) dL_law__2152 ?_
  intro k1 t1 h1 q1
  obtain ⟨hT1, d1, hd1, hm1⟩ := q1
  refine zz_istore_5 C (zle rfl) rfl dL_law__2155 <| zz_aload_2 C dL_law__2157 <| zz_aload_0 C dL_law__2158 <| zz_iload_4 C dL_law__2159 <| zz_iconst_1 C dL_law__2161 <| zz_iadd C dL_law__2162 <| zl_sld C V (6 * j + 1) (nI_ad (6 * j) 1) (by omega) dL_law__2163 <| zpc 2164 rfl <| ?_
  refine zy_callVI C hR [_] hm1 lL_234 rfl (tM_K hT1) (by decide) rfl ⟨by omega, by omega, by omega, by omega⟩ (zle rfl) dL_law__2164 ?_
  intro r1 t2 h2 q2
  obtain ⟨q3, q4, q5⟩ := q2
  obtain ⟨a2, c2, e2, S2, I2⟩ := id q5
  refine zz_istore_6 C (zle rfl) rfl dL_law__2167 <| zz_aload_2 C dL_law__2169 <| zpc 2170 rfl <| ?_
  refine zf_callVI C hR [] (c_thrown I2.T) lL_132 rfl (tM_K I2.T) (by decide) rfl ⟨zle rfl, zle rfl, hc, hs⟩ (zle rfl) dL_law__2170 ?_
  refine zz_iload_5 C dL_law__2173 <| zpc 2175 rfl <| ?_
  refine zz_icmp_eq C 2180 dL_law__2175 (by decide) (fun _ => ?_) (fun z => absurd q3 z)
  refine zz_iload_5 C dL_law__2180 <| zpc 2182 rfl <| ?_
  refine zz_if_ne C 2197 dL_law__2182 (by decide) (fun _ => zz_goto C 2442 dL_law__2197 (by decide) (kont _ _ _ _ _ q5)) (fun z0 => ?_)
  refine zz_aload_3 C dL_law__2185 <| zz_iconst_0 C dL_law__2186 <| zc_laload C 0 I2.1.2.2.2 (zlit _ (by decide)) (by decide) dL_law__2187 <| zz_iload_6 C dL_law__2188 <| zz_i2l C dL_law__2190 <| zz_lcmp C dL_law__2191 <| zpc 2192 rfl <| ?_
  exact zz_if_eq C 2197 dL_law__2192 (by decide) (fun _ => zz_goto C 2442 dL_law__2197 (by decide) (kont _ _ _ _ _ q5)) (fun z => absurd (by rw [q4 z0]; exact lg_self _) z)
theorem lc_fits (C : zCx E b G RL cL_law_ 8 (some .boolean)) (hR : zRoom G 20 MC MS) (V : lzS b G sb L xs) (hlt : G.2.1.stackTraces = false) (I : jI t h a c e S j) (hj : 6 * j + 6 ≤ L) (hL : L ≤ 3072) (hc : cells + 1 ≤ MC) (hs : slots + 6 ≤ MS) (kont : ∀ t' h' x5 x6 x7, jAft t' h' (j + 1) → zAW E b G 8 (cells + 1) (slots + 6) 2442 [some (.ref sb), some (.ref (b + 0)), some (.ref (b + 157)), some (.ref (b + 250)), some (.int (nI (6 * j))), x5, x6, x7] [] t' h') : zAW E b G 8 cells slots 2200 [some (.ref sb), some (.ref (b + 0)), some (.ref (b + 157)), some (.ref (b + 250)), some (.int (nI (6 * j))), none, none, none] [] t h := by
  refine zz_aload_1 C dL_law__2200 <| zz_aload_0 C dL_law__2201 <| zz_iload_4 C dL_law__2202 <| zz_iconst_1 C dL_law__2204 <| zz_iadd C dL_law__2205 <| zl_sld C V (6 * j + 1) (nI_ad (6 * j) 1) (by omega) dL_law__2206 <| zz_i2l C dL_law__2207 <| zz_bipush C 32 dL_law__2208 (by decide) <| zz_lshl C dL_law__2210 <| zz_aload_0 C dL_law__2211 <| zz_iload_4 C dL_law__2212 <| zz_iconst_2 C dL_law__2214 <| ?_
  refine zz_iadd C dL_law__2215 <| zl_sld C V (6 * j + 2) (nI_ad (6 * j) 2) (by omega) dL_law__2216 <| zz_i2l C dL_law__2217 <| zz_ldc2 C dL_law__2218 kL_235 <| zz_land C dL_law__2221 <| zz_lor C dL_law__2222 <| zz_aload_0 C dL_law__2223 <| zz_iload_4 C dL_law__2224 <| zz_iconst_3 C dL_law__2226 <| zz_iadd C dL_law__2227 <| zl_sld C V (6 * j + 3) (nI_ad (6 * j) 3) (by omega) dL_law__2228 <| zz_aload_3 C dL_law__2229 <| zpc 2230 rfl <| ?_
  refine zy_callSW C hR [_, _, _, _] (jw_fits I (by omega) hlt _ _) lL_237 rfl ⟨zle rfl, zle rfl, hc, hs⟩ (zle rfl) dL_law__2230 ?_
  intro k1 t1 h1 q1
  obtain ⟨hT1, d1, hd1, hm1⟩ := q1
  refine zz_istore_5 C (zle rfl) rfl dL_law__2233 <| zz_aload_2 C dL_law__2235 <| zz_aload_0 C dL_law__2236 <| zz_iload_4 C dL_law__2237 <| zz_iconst_1 C dL_law__2239 <| zz_iadd C dL_law__2240 <| zl_sld C V (6 * j + 1) (nI_ad (6 * j) 1) (by omega) dL_law__2241 <| zz_i2l C dL_law__2242 <| zz_bipush C 32 dL_law__2243 (by decide) <| zz_lshl C dL_law__2245 <| zz_aload_0 C dL_law__2246 <| zz_iload_4 C dL_law__2247 <| ?_
  refine zz_iconst_2 C dL_law__2249 <| zz_iadd C dL_law__2250 <| zl_sld C V (6 * j + 2) (nI_ad (6 * j) 2) (by omega) dL_law__2251 <| zz_i2l C dL_law__2252 <| zz_ldc2 C dL_law__2253 kL_235 <| zz_land C dL_law__2256 <| zz_lor C dL_law__2257 <| zz_aload_0 C dL_law__2258 <| zz_iload_4 C dL_law__2259 <| zz_iconst_3 C dL_law__2261 <| zz_iadd C dL_law__2262 <| zl_sld C V (6 * j + 3) (nI_ad (6 * j) 3) (by omega) dL_law__2263 <| zpc 2264 rfl <| ?_
  refine zy_callVI C hR [_, _] hm1 lL_240 rfl (tM_K hT1) (by decide) rfl ⟨by omega, by omega, by omega, by omega⟩ (zle rfl) dL_law__2264 ?_
  intro r1 t2 h2 q2
  obtain ⟨q3, q4, q5⟩ := q2
  obtain ⟨a2, c2, e2, S2, I2⟩ := id q5
  refine zz_istore_6 C (zle rfl) rfl dL_law__2267 <| zz_aload_2 C dL_law__2269 <| zpc 2270 rfl <| ?_
  refine zf_callVI C hR [] (c_thrown I2.T) lL_132 rfl (tM_K I2.T) (by decide) rfl ⟨zle rfl, zle rfl, hc, hs⟩ (zle rfl) dL_law__2270 ?_
  refine zz_iload_5 C dL_law__2273 <| zpc 2275 rfl <| ?_
  refine zz_icmp_eq C 2280 dL_law__2275 (by decide) (fun _ => ?_) (fun z => absurd q3 z)
  refine zz_iload_5 C dL_law__2280 <| zpc 2282 rfl <| ?_
  refine zz_if_ne C 2297 dL_law__2282 (by decide) (fun _ => zz_goto C 2442 dL_law__2297 (by decide) (kont _ _ _ _ _ q5)) (fun z0 => ?_)
  refine zz_aload_3 C dL_law__2285 <| zz_iconst_0 C dL_law__2286 <| zc_laload C 0 I2.1.2.2.2 (zlit _ (by decide)) (by decide) dL_law__2287 <| zz_iload_6 C dL_law__2288 <| zz_i2l C dL_law__2290 <| zz_lcmp C dL_law__2291 <| zpc 2292 rfl <| ?_
  exact zz_if_eq C 2297 dL_law__2292 (by decide) (fun _ => zz_goto C 2442 dL_law__2297 (by decide) (kont _ _ _ _ _ q5)) (fun z => absurd (by rw [q4 z0]; exact lg_self _) z)
theorem lc_seed (C : zCx E b G RL cL_law_ 8 (some .boolean)) (hR : zRoom G 20 MC MS) (V : lzS b G sb L xs) (hlt : G.2.1.stackTraces = false) (I : jI t h a c e S j) (hj : 6 * j + 6 ≤ L) (hL : L ≤ 3072) (hc : cells + 1 ≤ MC) (hs : slots + 6 ≤ MS) (kont : ∀ t' h' x5 x6 x7, jAft t' h' (j + 1) → zAW E b G 8 (cells + 1) (slots + 6) 2442 [some (.ref sb), some (.ref (b + 0)), some (.ref (b + 157)), some (.ref (b + 250)), some (.int (nI (6 * j))), x5, x6, x7] [] t' h') : zAW E b G 8 cells slots 2300 [some (.ref sb), some (.ref (b + 0)), some (.ref (b + 157)), some (.ref (b + 250)), some (.int (nI (6 * j))), none, none, none] [] t h := by
  refine zz_aload_1 C dL_law__2300 <| zz_aload_0 C dL_law__2301 <| zz_iload_4 C dL_law__2302 <| zz_iconst_1 C dL_law__2304 <| zz_iadd C dL_law__2305 <| zl_sld C V (6 * j + 1) (nI_ad (6 * j) 1) (by omega) dL_law__2306 <| zz_aload_0 C dL_law__2307 <| zz_iload_4 C dL_law__2308 <| zz_iconst_2 C dL_law__2310 <| zz_iadd C dL_law__2311 <| zl_sld C V (6 * j + 2) (nI_ad (6 * j) 2) (by omega) dL_law__2312 <| zz_aload_0 C dL_law__2313 <| ?_
  refine zz_iload_4 C dL_law__2314 <| zz_iconst_3 C dL_law__2316 <| zz_iadd C dL_law__2317 <| zl_sld C V (6 * j + 3) (nI_ad (6 * j) 3) (by omega) dL_law__2318 <| zz_aload_0 C dL_law__2319 <| zz_iload_4 C dL_law__2320 <| zz_iconst_4 C dL_law__2322 <| zz_iadd C dL_law__2323 <| zl_sld C V (6 * j + 4) (nI_ad (6 * j) 4) (by omega) dL_law__2324 <| zz_aload_3 C dL_law__2325 <| zpc 2326 rfl <| ?_
  refine zy_callSW C hR [_, _, _, _, _, _] (jw_seed I (by omega) hlt _ _ _ _) lL_241 rfl ⟨zle rfl, zle rfl, hc, hs⟩ (zle rfl) dL_law__2326 ?_
  intro k1 t1 h1 q1
  obtain ⟨hT1, d1, hd1, hm1⟩ := q1
  refine zz_istore_5 C (zle rfl) rfl dL_law__2329 <| zz_aload_2 C dL_law__2331 <| zz_aload_0 C dL_law__2332 <| zz_iload_4 C dL_law__2333 <| zz_iconst_1 C dL_law__2335 <| zz_iadd C dL_law__2336 <| zl_sld C V (6 * j + 1) (nI_ad (6 * j) 1) (by omega) dL_law__2337 <| zz_aload_0 C dL_law__2338 <| zz_iload_4 C dL_law__2339 <| zz_iconst_2 C dL_law__2341 <| zz_iadd C dL_law__2342 <| zl_sld C V (6 * j + 2) (nI_ad (6 * j) 2) (by omega) dL_law__2343 <| ?_
  refine zz_aload_0 C dL_law__2344 <| zz_iload_4 C dL_law__2345 <| zz_iconst_3 C dL_law__2347 <| zz_iadd C dL_law__2348 <| zl_sld C V (6 * j + 3) (nI_ad (6 * j) 3) (by omega) dL_law__2349 <| zz_aload_0 C dL_law__2350 <| zz_iload_4 C dL_law__2351 <| zz_iconst_4 C dL_law__2353 <| zz_iadd C dL_law__2354 <| zl_sld C V (6 * j + 4) (nI_ad (6 * j) 4) (by omega) dL_law__2355 <| zpc 2356 rfl <| ?_
  refine zy_callVJ C hR [_, _, _, _] hm1 lL_244 rfl (tM_K hT1) (by decide) rfl ⟨by omega, by omega, by omega, by omega⟩ (zle rfl) dL_law__2356 ?_
  intro r1 t2 h2 q2
  obtain ⟨q3, q4, q5⟩ := q2
  obtain ⟨a2, c2, e2, S2, I2⟩ := id q5
  refine zz_lstore_6 C (zle rfl) rfl dL_law__2359 <| zz_aload_2 C dL_law__2361 <| zpc 2362 rfl <| ?_
  refine zf_callVI C hR [] (c_thrown I2.T) lL_132 rfl (tM_K I2.T) (by decide) rfl ⟨zle rfl, zle rfl, hc, hs⟩ (zle rfl) dL_law__2362 ?_
  refine zz_iload_5 C dL_law__2365 <| zpc 2367 rfl <| ?_
  refine zz_icmp_eq C 2372 dL_law__2367 (by decide) (fun _ => ?_) (fun z => absurd q3 z)
  refine zz_iload_5 C dL_law__2372 <| zpc 2374 rfl <| ?_
  refine zz_if_ne C 2388 dL_law__2374 (by decide) (fun _ => zz_goto C 2442 dL_law__2388 (by decide) (kont _ _ _ _ _ q5)) (fun z0 => ?_)
  refine zz_aload_3 C dL_law__2377 <| zz_iconst_0 C dL_law__2378 <| zc_laload C 0 I2.1.2.2.2 (zlit _ (by decide)) (by decide) dL_law__2379 <| zz_lload_6 C dL_law__2380 <| zz_lcmp C dL_law__2382 <| zpc 2383 rfl <| ?_
  exact zz_if_eq C 2388 dL_law__2383 (by decide) (fun _ => zz_goto C 2442 dL_law__2388 (by decide) (kont _ _ _ _ _ q5)) (fun z => absurd (by rw [q4 z0]; exact lg_self _) z)
theorem lc_image (C : zCx E b G RL cL_law_ 8 (some .boolean)) (hR : zRoom G 20 MC MS) (V : lzS b G sb L xs) (hlt : G.2.1.stackTraces = false) (I : jI t h a c e S j) (hj : 6 * j + 6 ≤ L) (hL : L ≤ 3072) (hc : cells + 1 ≤ MC) (hs : slots + 6 ≤ MS) (kont : ∀ t' h' x5 x6 x7, jAft t' h' (j + 1) → zAW E b G 8 (cells + 1) (slots + 6) 2442 [some (.ref sb), some (.ref (b + 0)), some (.ref (b + 157)), some (.ref (b + 250)), some (.int (nI (6 * j))), x5, x6, x7] [] t' h') : zAW E b G 8 cells slots 2391 [some (.ref sb), some (.ref (b + 0)), some (.ref (b + 157)), some (.ref (b + 250)), some (.int (nI (6 * j))), none, none, none] [] t h := by
  refine zz_aload_1 C dL_law__2391 <| zpc 2392 rfl <| ?_
  refine zy_callVI C hR [] (je_image I (by omega)) lL_245 rfl I.kX (by decide) rfl ⟨zle rfl, zle rfl, by omega, by omega⟩ (zle rfl) dL_law__2392 ?_
  intro k1 t1 h1 q1
  obtain ⟨hT1, d1, hd1, hm1⟩ := q1
  refine zz_aload_2 C dL_law__2395 <| zpc 2396 rfl <| ?_
  refine zy_callVI C hR [] hm1 lL_248 rfl (tM_K hT1) (by decide) rfl ⟨by omega, by omega, by omega, by omega⟩ (zle rfl) dL_law__2396 ?_
  intro r1 t2 h2 q2
  obtain ⟨rfl, q5⟩ := q2
  exact zz_icmp_eq C 2442 dL_law__2399 (by decide) (fun _ => zl_wd (by omega) (by omega) (kont _ _ _ _ _ q5)) (fun z => absurd rfl z)
theorem lc_on (C : zCx E b G RL cL_law_ 8 (some .boolean)) (hR : zRoom G 20 MC MS) (V : lzS b G sb L xs) (hlt : G.2.1.stackTraces = false) (I : jI t h a c e S j) (hj : 6 * j + 6 ≤ L) (hL : L ≤ 3072) (hc : cells + 1 ≤ MC) (hs : slots + 6 ≤ MS) (kont : ∀ t' h' x5 x6 x7, jAft t' h' (j + 1) → zAW E b G 8 (cells + 1) (slots + 6) 2442 [some (.ref sb), some (.ref (b + 0)), some (.ref (b + 157)), some (.ref (b + 250)), some (.int (nI (6 * j))), x5, x6, x7] [] t' h') : zAW E b G 8 cells slots 2404 [some (.ref sb), some (.ref (b + 0)), some (.ref (b + 157)), some (.ref (b + 250)), some (.int (nI (6 * j))), none, none, none] [] t h := by
  refine zz_aload_1 C dL_law__2404 <| zpc 2405 rfl <| ?_
  refine zy_callVI C hR [] (je_on I (by omega)) lL_249 rfl I.kX (by decide) rfl ⟨zle rfl, zle rfl, by omega, by omega⟩ (zle rfl) dL_law__2405 ?_
  intro k1 t1 h1 q1
  obtain ⟨hT1, d1, hd1, hm1⟩ := q1
  refine zz_aload_2 C dL_law__2408 <| zpc 2409 rfl <| ?_
  refine zy_callVI C hR [] hm1 lL_252 rfl (tM_K hT1) (by decide) rfl ⟨by omega, by omega, by omega, by omega⟩ (zle rfl) dL_law__2409 ?_
  intro r1 t2 h2 q2
  obtain ⟨rfl, q5⟩ := q2
  exact zz_icmp_eq C 2442 dL_law__2412 (by decide) (fun _ => zl_wd (by omega) (by omega) (kont _ _ _ _ _ q5)) (fun z => absurd rfl z)
theorem lc_count (C : zCx E b G RL cL_law_ 8 (some .boolean)) (hR : zRoom G 20 MC MS) (V : lzS b G sb L xs) (hlt : G.2.1.stackTraces = false) (I : jI t h a c e S j) (hj : 6 * j + 6 ≤ L) (hL : L ≤ 3072) (hc : cells + 1 ≤ MC) (hs : slots + 6 ≤ MS) (kont : ∀ t' h' x5 x6 x7, jAft t' h' (j + 1) → zAW E b G 8 (cells + 1) (slots + 6) 2442 [some (.ref sb), some (.ref (b + 0)), some (.ref (b + 157)), some (.ref (b + 250)), some (.int (nI (6 * j))), x5, x6, x7] [] t' h') : zAW E b G 8 cells slots 2417 [some (.ref sb), some (.ref (b + 0)), some (.ref (b + 157)), some (.ref (b + 250)), some (.int (nI (6 * j))), none, none, none] [] t h := by
  refine zz_aload_1 C dL_law__2417 <| zz_aload_0 C dL_law__2418 <| zz_iload_4 C dL_law__2419 <| zz_iconst_1 C dL_law__2421 <| zz_iadd C dL_law__2422 <| zl_sld C V (6 * j + 1) (nI_ad (6 * j) 1) (by omega) dL_law__2423 <| zpc 2424 rfl <| ?_
  refine zy_callVI C hR [_] (je_count I (by omega) _) lL_253 rfl I.kX (by decide) rfl ⟨zle rfl, zle rfl, by omega, by omega⟩ (zle rfl) dL_law__2424 ?_
  intro k1 t1 h1 q1
  obtain ⟨hT1, d1, hd1, hm1⟩ := q1
  refine zz_aload_2 C dL_law__2427 <| zz_aload_0 C dL_law__2428 <| zz_iload_4 C dL_law__2429 <| zz_iconst_1 C dL_law__2431 <| zz_iadd C dL_law__2432 <| zl_sld C V (6 * j + 1) (nI_ad (6 * j) 1) (by omega) dL_law__2433 <| zpc 2434 rfl <| ?_
  refine zy_callVI C hR [_] hm1 lL_256 rfl (tM_K hT1) (by decide) rfl ⟨by omega, by omega, by omega, by omega⟩ (zle rfl) dL_law__2434 ?_
  intro r1 t2 h2 q2
  obtain ⟨rfl, q5⟩ := q2
  exact zz_icmp_eq C 2442 dL_law__2437 (by decide) (fun _ => zl_wd (by omega) (by omega) (kont _ _ _ _ _ q5)) (fun z => absurd rfl z)
end LC
