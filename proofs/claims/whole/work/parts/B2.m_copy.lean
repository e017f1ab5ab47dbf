/-! ===== the reference: what was read becomes the land ===== -/
section MCP
variable {E : zE} {b : Nat} {G : zG} {t : zT} {h : zH} {l : Launch}
theorem l_cp185 (hT : zTM t) (C : zCx E b G RX11 cX11_land 4 (some .int)) (x1 : Int32) (m : Nat) (hm : m ≤ 10) (e1 : zI h 160 1 = nI m)
    (K : ∀ (hc : zH) (x2 x3 : Option Value), (∀ i j, ¬ (174 < i ∧ i ≤ 174 + 10) → zI hc i j = zI h i j) → (∀ i j, zL hc i j = zL h i j) → (∀ k, k < m → ∀ i, i < 5 → zI hc (174 + 1 + k) i = zI h (163 + 1 + k) i) → zAW E b G 4 0 0 230 [some (.ref (b + 157)), some (.int x1), x2, x3] [] t hc) (x3 : Option Value) : zAW E b G 4 0 0 185 [some (.ref (b + 157)), some (.int x1), some (.int (nI 0)), x3] [] t h := by
  have lp : ∀ k, k ≤ m → ∀ (hc : zH) (x3 : Option Value), (∀ i j, ¬ (174 < i ∧ i ≤ 174 + 10) → zI hc i j = zI h i j) → (∀ i j, zL hc i j = zL h i j) → (∀ k', k' < k → ∀ i, i < 5 → zI hc (174 + 1 + k') i = zI h (163 + 1 + k') i) → zAW E b G 4 0 0 185 [some (.ref (b + 157)), some (.int x1), some (.int (nI k)), x3] [] t hc := by
    refine zLoop m fun k hk ih hc x3 q1 q2 q3 => ?_
    have lp2 : k < m → ∀ i, i ≤ 5 → ∀ (hc : zH), (∀ i j, ¬ (174 < i ∧ i ≤ 174 + 10) → zI hc i j = zI h i j) → (∀ i j, zL hc i j = zL h i j) → (∀ k', k' < k → ∀ i, i < 5 → zI hc (174 + 1 + k') i = zI h (163 + 1 + k') i) → (∀ i', i' < i → zI hc (174 + 1 + k) i' = zI h (163 + 1 + k) i') → zAW E b G 4 0 0 197 [some (.ref (b + 157)), some (.int x1), some (.int (nI k)), some (.int (nI i))] [] t hc := by
      intro hkm
      refine zLoop 5 fun i hi ih2 hc q1 q2 q3 q4 => ?_
      have ev : zI hc (163 + 1 + k) i = zI h (163 + 1 + k) i := q1 _ _ (by omega)
      refine zz_iload_3 C dX11_land_197 <| zz_iconst_5 C dX11_land_198 <| zpc 199 rfl <| ?_
      refine zz_icmp_ge C 224 dX11_land_199 (by decide) (fun c199 => ?_) (fun c199 => ?_)
      · rw [show (5 : Int32) = nI 5 from rfl, nI_leI (by omega) (by omega)] at c199
        refine zz_iinc_2 C _ (zle rfl) rfl dX11_land_224 nI_s <| zz_goto C 185 dX11_land_227 (by decide) <| zpc 185 rfl <| ?_
        refine ih hkm _ _ q1 q2 (fun k' hk' i' hi' => ?_)
        by_cases z : k' = k
        · rw [z]; exact q4 i' (by omega)
        · exact q3 k' (by omega) i' hi'
      · rw [show (5 : Int32) = nI 5 from rfl, nI_leI (by omega) (by omega)] at c199
        refine zz_aload_0 C dX11_land_202 <| zz_getR C fX11_34 (tM_K hT) (tM_R_road hT) dX11_land_203 <| zz_iload_2 C dX11_land_206 <| zc_row C _ (tM_K_road hT) (tM_row_road hT) (znI (by omega)) (by omega) dX11_land_207 <| fun r207 => ?_
        refine zz_iload_3 C dX11_land_208 <| zz_aload_0 C dX11_land_209 <| zz_getR C fX11_31 (tM_K hT) (tM_R_readRoad hT) dX11_land_210 <| zz_iload_2 C dX11_land_213 <| zc_row C _ (tM_K_readRoad hT) (tM_row_readRoad hT) (znI (by omega)) (by omega) dX11_land_214 <| fun r214 => ?_
        refine zz_iload_3 C dX11_land_215 <| zc_iaload C _ (tM_KR_readRoad hT _ r214) (znI (by omega)) (by omega) dX11_land_216 <| zpc 217 rfl <| ?_
        rw [ev]
        refine zc_iastore C _ (tM_KR_road hT _ r207) (znI (by omega)) (by omega) dX11_land_217 <| zz_iinc_3 C _ (zle rfl) rfl dX11_land_218 nI_s <| zz_goto C 197 dX11_land_221 (by decide) <| zpc 197 rfl <| ?_
        refine ih2 (by omega) _ (fun i' j z => ?_) q2 (fun k' hk' i' hi' => ?_) (fun i' hi' => ?_)
        · rw [zI_sI, if_neg (by omega)]; exact q1 i' j z
        · rw [zI_sI, if_neg (by omega)]; exact q3 k' hk' i' hi'
        · rw [zI_sI]
          by_cases z : i' = i
          · rw [if_pos ⟨rfl, z⟩, z]
          · rw [if_neg (by omega)]; exact q4 i' (by omega)
    have ec : zI hc 160 1 = nI m := (q1 _ _ (by omega)).trans e1
    refine zz_iload_2 C dX11_land_185 <| zz_aload_0 C dX11_land_186 <| zz_getR C fX11_20 (tM_K hT) (tM_R_told hT) dX11_land_187 <| zz_iconst_1 C dX11_land_190 <| zc_iaload C 1 (tM_K_told hT) (zlit _ (by decide)) (by decide) dX11_land_191 <| zpc 192 rfl <| ?_
    rw [ec]
    refine zz_icmp_ge C 230 dX11_land_192 (by decide) (fun c192 => ?_) (fun c192 => ?_)
    · rw [nI_leI (by omega) (by omega)] at c192
      exact K hc _ _ q1 q2 (fun k' hk' => q3 k' (by omega))
    · rw [nI_leI (by omega) (by omega)] at c192
      refine zz_iconst_0 C dX11_land_195 <| zz_istore_3 C (zle rfl) rfl dX11_land_196 <| zpc 197 rfl <| ?_
      exact lp2 (by omega) 0 (by omega) hc q1 q2 q3 (fun i' hi' => absurd hi' (by omega))
  exact lp 0 (by omega) h x3 (fun _ _ _ => rfl) (fun _ _ => rfl) (fun k' hk' => absurd hk' (by omega))
theorem l_cp232 (hT : zTM t) (C : zCx E b G RX11 cX11_land 4 (some .int)) (x1 : Int32) (m : Nat) (hm : m ≤ 4) (e1 : zI h 160 2 = nI m)
    (K : ∀ (hc : zH) (x2 x3 : Option Value), (∀ i j, ¬ (191 < i ∧ i ≤ 191 + 4) → zI hc i j = zI h i j) → (∀ i j, zL hc i j = zL h i j) → (∀ k, k < m → ∀ i, i < 5 → zI hc (191 + 1 + k) i = zI h (186 + 1 + k) i) → zAW E b G 4 0 0 277 [some (.ref (b + 157)), some (.int x1), x2, x3] [] t hc) (x3 : Option Value) : zAW E b G 4 0 0 232 [some (.ref (b + 157)), some (.int x1), some (.int (nI 0)), x3] [] t h := by
  have lp : ∀ k, k ≤ m → ∀ (hc : zH) (x3 : Option Value), (∀ i j, ¬ (191 < i ∧ i ≤ 191 + 4) → zI hc i j = zI h i j) → (∀ i j, zL hc i j = zL h i j) → (∀ k', k' < k → ∀ i, i < 5 → zI hc (191 + 1 + k') i = zI h (186 + 1 + k') i) → zAW E b G 4 0 0 232 [some (.ref (b + 157)), some (.int x1), some (.int (nI k)), x3] [] t hc := by
    refine zLoop m fun k hk ih hc x3 q1 q2 q3 => ?_
    have lp2 : k < m → ∀ i, i ≤ 5 → ∀ (hc : zH), (∀ i j, ¬ (191 < i ∧ i ≤ 191 + 4) → zI hc i j = zI h i j) → (∀ i j, zL hc i j = zL h i j) → (∀ k', k' < k → ∀ i, i < 5 → zI hc (191 + 1 + k') i = zI h (186 + 1 + k') i) → (∀ i', i' < i → zI hc (191 + 1 + k) i' = zI h (186 + 1 + k) i') → zAW E b G 4 0 0 244 [some (.ref (b + 157)), some (.int x1), some (.int (nI k)), some (.int (nI i))] [] t hc := by
      intro hkm
      refine zLoop 5 fun i hi ih2 hc q1 q2 q3 q4 => ?_
      have ev : zI hc (186 + 1 + k) i = zI h (186 + 1 + k) i := q1 _ _ (by omega)
      refine zz_iload_3 C dX11_land_244 <| zz_iconst_5 C dX11_land_245 <| zpc 246 rfl <| ?_
      refine zz_icmp_ge C 271 dX11_land_246 (by decide) (fun c246 => ?_) (fun c246 => ?_)
      · rw [show (5 : Int32) = nI 5 from rfl, nI_leI (by omega) (by omega)] at c246
        refine zz_iinc_2 C _ (zle rfl) rfl dX11_land_271 nI_s <| zz_goto C 232 dX11_land_274 (by decide) <| zpc 232 rfl <| ?_
        refine ih hkm _ _ q1 q2 (fun k' hk' i' hi' => ?_)
        by_cases z : k' = k
        · rw [z]; exact q4 i' (by omega)
        · exact q3 k' (by omega) i' hi'
      · rw [show (5 : Int32) = nI 5 from rfl, nI_leI (by omega) (by omega)] at c246
        refine zz_aload_0 C dX11_land_249 <| zz_getR C fX11_40 (tM_K hT) (tM_R_more hT) dX11_land_250 <| zz_iload_2 C dX11_land_253 <| zc_row C _ (tM_K_more hT) (tM_row_more hT) (znI (by omega)) (by omega) dX11_land_254 <| fun r254 => ?_
        refine zz_iload_3 C dX11_land_255 <| zz_aload_0 C dX11_land_256 <| zz_getR C fX11_37 (tM_K hT) (tM_R_readMore hT) dX11_land_257 <| zz_iload_2 C dX11_land_260 <| zc_row C _ (tM_K_readMore hT) (tM_row_readMore hT) (znI (by omega)) (by omega) dX11_land_261 <| fun r261 => ?_
        refine zz_iload_3 C dX11_land_262 <| zc_iaload C _ (tM_KR_readMore hT _ r261) (znI (by omega)) (by omega) dX11_land_263 <| zpc 264 rfl <| ?_
        rw [ev]
        refine zc_iastore C _ (tM_KR_more hT _ r254) (znI (by omega)) (by omega) dX11_land_264 <| zz_iinc_3 C _ (zle rfl) rfl dX11_land_265 nI_s <| zz_goto C 244 dX11_land_268 (by decide) <| zpc 244 rfl <| ?_
        refine ih2 (by omega) _ (fun i' j z => ?_) q2 (fun k' hk' i' hi' => ?_) (fun i' hi' => ?_)
        · rw [zI_sI, if_neg (by omega)]; exact q1 i' j z
        · rw [zI_sI, if_neg (by omega)]; exact q3 k' hk' i' hi'
        · rw [zI_sI]
          by_cases z : i' = i
          · rw [if_pos ⟨rfl, z⟩, z]
          · rw [if_neg (by omega)]; exact q4 i' (by omega)
    have ec : zI hc 160 2 = nI m := (q1 _ _ (by omega)).trans e1
    refine zz_iload_2 C dX11_land_232 <| zz_aload_0 C dX11_land_233 <| zz_getR C fX11_20 (tM_K hT) (tM_R_told hT) dX11_land_234 <| zz_iconst_2 C dX11_land_237 <| zc_iaload C 2 (tM_K_told hT) (zlit _ (by decide)) (by decide) dX11_land_238 <| zpc 239 rfl <| ?_
    rw [ec]
    refine zz_icmp_ge C 277 dX11_land_239 (by decide) (fun c239 => ?_) (fun c239 => ?_)
    · rw [nI_leI (by omega) (by omega)] at c239
      exact K hc _ _ q1 q2 (fun k' hk' => q3 k' (by omega))
    · rw [nI_leI (by omega) (by omega)] at c239
      refine zz_iconst_0 C dX11_land_242 <| zz_istore_3 C (zle rfl) rfl dX11_land_243 <| zpc 244 rfl <| ?_
      exact lp2 (by omega) 0 (by omega) hc q1 q2 q3 (fun i' hi' => absurd hi' (by omega))
  exact lp 0 (by omega) h x3 (fun _ _ _ => rfl) (fun _ _ => rfl) (fun k' hk' => absurd hk' (by omega))
theorem l_cp279 (hT : zTM t) (C : zCx E b G RX11 cX11_land 4 (some .int)) (x1 : Int32) (m : Nat) (hm : m ≤ 14) (e1 : zI h 160 3 = nI m)
    (K : ∀ (hc : zH) (x2 x3 : Option Value), (∀ i j, ¬ (211 < i ∧ i ≤ 211 + 14) → zI hc i j = zI h i j) → (∀ i j, zL hc i j = zL h i j) → (∀ k, k < m → ∀ i, i < 6 → zI hc (211 + 1 + k) i = zI h (196 + 1 + k) i) → zAW E b G 4 0 0 325 [some (.ref (b + 157)), some (.int x1), x2, x3] [] t hc) (x3 : Option Value) : zAW E b G 4 0 0 279 [some (.ref (b + 157)), some (.int x1), some (.int (nI 0)), x3] [] t h := by
  have lp : ∀ k, k ≤ m → ∀ (hc : zH) (x3 : Option Value), (∀ i j, ¬ (211 < i ∧ i ≤ 211 + 14) → zI hc i j = zI h i j) → (∀ i j, zL hc i j = zL h i j) → (∀ k', k' < k → ∀ i, i < 6 → zI hc (211 + 1 + k') i = zI h (196 + 1 + k') i) → zAW E b G 4 0 0 279 [some (.ref (b + 157)), some (.int x1), some (.int (nI k)), x3] [] t hc := by
    refine zLoop m fun k hk ih hc x3 q1 q2 q3 => ?_
    have lp2 : k < m → ∀ i, i ≤ 6 → ∀ (hc : zH), (∀ i j, ¬ (211 < i ∧ i ≤ 211 + 14) → zI hc i j = zI h i j) → (∀ i j, zL hc i j = zL h i j) → (∀ k', k' < k → ∀ i, i < 6 → zI hc (211 + 1 + k') i = zI h (196 + 1 + k') i) → (∀ i', i' < i → zI hc (211 + 1 + k) i' = zI h (196 + 1 + k) i') → zAW E b G 4 0 0 291 [some (.ref (b + 157)), some (.int x1), some (.int (nI k)), some (.int (nI i))] [] t hc := by
      intro hkm
      refine zLoop 6 fun i hi ih2 hc q1 q2 q3 q4 => ?_
      have ev : zI hc (196 + 1 + k) i = zI h (196 + 1 + k) i := q1 _ _ (by omega)
      refine zz_iload_3 C dX11_land_291 <| zz_bipush C 6 dX11_land_292 (by decide) <| zpc 294 rfl <| ?_
      refine zz_icmp_ge C 319 dX11_land_294 (by decide) (fun c294 => ?_) (fun c294 => ?_)
      · rw [show (6 : Int32) = nI 6 from rfl, nI_leI (by omega) (by omega)] at c294
        refine zz_iinc_2 C _ (zle rfl) rfl dX11_land_319 nI_s <| zz_goto C 279 dX11_land_322 (by decide) <| zpc 279 rfl <| ?_
        refine ih hkm _ _ q1 q2 (fun k' hk' i' hi' => ?_)
        by_cases z : k' = k
        · rw [z]; exact q4 i' (by omega)
        · exact q3 k' (by omega) i' hi'
      · rw [show (6 : Int32) = nI 6 from rfl, nI_leI (by omega) (by omega)] at c294
        refine zz_aload_0 C dX11_land_297 <| zz_getR C fX11_46 (tM_K hT) (tM_R_going hT) dX11_land_298 <| zz_iload_2 C dX11_land_301 <| zc_row C _ (tM_K_going hT) (tM_row_going hT) (znI (by omega)) (by omega) dX11_land_302 <| fun r302 => ?_
        refine zz_iload_3 C dX11_land_303 <| zz_aload_0 C dX11_land_304 <| zz_getR C fX11_43 (tM_K hT) (tM_R_readGoing hT) dX11_land_305 <| zz_iload_2 C dX11_land_308 <| zc_row C _ (tM_K_readGoing hT) (tM_row_readGoing hT) (znI (by omega)) (by omega) dX11_land_309 <| fun r309 => ?_
        refine zz_iload_3 C dX11_land_310 <| zc_iaload C _ (tM_KR_readGoing hT _ r309) (znI (by omega)) (by omega) dX11_land_311 <| zpc 312 rfl <| ?_
        rw [ev]
        refine zc_iastore C _ (tM_KR_going hT _ r302) (znI (by omega)) (by omega) dX11_land_312 <| zz_iinc_3 C _ (zle rfl) rfl dX11_land_313 nI_s <| zz_goto C 291 dX11_land_316 (by decide) <| zpc 291 rfl <| ?_
        refine ih2 (by omega) _ (fun i' j z => ?_) q2 (fun k' hk' i' hi' => ?_) (fun i' hi' => ?_)
        · rw [zI_sI, if_neg (by omega)]; exact q1 i' j z
        · rw [zI_sI, if_neg (by omega)]; exact q3 k' hk' i' hi'
        · rw [zI_sI]
          by_cases z : i' = i
          · rw [if_pos ⟨rfl, z⟩, z]
          · rw [if_neg (by omega)]; exact q4 i' (by omega)
    have ec : zI hc 160 3 = nI m := (q1 _ _ (by omega)).trans e1
    refine zz_iload_2 C dX11_land_279 <| zz_aload_0 C dX11_land_280 <| zz_getR C fX11_20 (tM_K hT) (tM_R_told hT) dX11_land_281 <| zz_iconst_3 C dX11_land_284 <| zc_iaload C 3 (tM_K_told hT) (zlit _ (by decide)) (by decide) dX11_land_285 <| zpc 286 rfl <| ?_
    rw [ec]
    refine zz_icmp_ge C 325 dX11_land_286 (by decide) (fun c286 => ?_) (fun c286 => ?_)
    · rw [nI_leI (by omega) (by omega)] at c286
      exact K hc _ _ q1 q2 (fun k' hk' => q3 k' (by omega))
    · rw [nI_leI (by omega) (by omega)] at c286
      refine zz_iconst_0 C dX11_land_289 <| zz_istore_3 C (zle rfl) rfl dX11_land_290 <| zpc 291 rfl <| ?_
      exact lp2 (by omega) 0 (by omega) hc q1 q2 q3 (fun i' hi' => absurd hi' (by omega))
  exact lp 0 (by omega) h x3 (fun _ _ _ => rfl) (fun _ _ => rfl) (fun k' hk' => absurd hk' (by omega))
theorem l_cp159 (hT : zTM t) (C : zCx E b G RX11 cX11_land 4 (some .int)) (x1 : Int32)
    (K : ∀ (hc : zH) (x2 x3 : Option Value), (∀ i j, ¬ i = 160 → zI hc i j = zI h i j) → (∀ i j, zL hc i j = zL h i j) → (∀ k, k < 6 → zI hc 160 k = zI h 159 k) → zAW E b G 4 0 0 183 [some (.ref (b + 157)), some (.int x1), x2, x3] [] t hc) (x3 : Option Value) : zAW E b G 4 0 0 159 [some (.ref (b + 157)), some (.int x1), some (.int (nI 0)), x3] [] t h := by
  have lp : ∀ k, k ≤ 6 → ∀ (hc : zH), (∀ i j, ¬ i = 160 → zI hc i j = zI h i j) → (∀ i j, zL hc i j = zL h i j) → (∀ k', k' < k → zI hc 160 k' = zI h 159 k') → zAW E b G 4 0 0 159 [some (.ref (b + 157)), some (.int x1), some (.int (nI k)), x3] [] t hc := by
    refine zLoop 6 fun k hk ih hc q1 q2 q3 => ?_
    have ev : zI hc 159 k = zI h 159 k := q1 _ _ (by omega)
    refine zz_iload_2 C dX11_land_159 <| zz_bipush C 6 dX11_land_160 (by decide) <| zpc 162 rfl <| ?_
    refine zz_icmp_ge C 183 dX11_land_162 (by decide) (fun c162 => ?_) (fun c162 => ?_)
    · rw [show (6 : Int32) = nI 6 from rfl, nI_leI (by omega) (by omega)] at c162
      exact K hc _ _ q1 q2 (fun k' hk' => q3 k' (by omega))
    · rw [show (6 : Int32) = nI 6 from rfl, nI_leI (by omega) (by omega)] at c162
      refine zz_aload_0 C dX11_land_165 <| zz_getR C fX11_20 (tM_K hT) (tM_R_told hT) dX11_land_166 <| zz_iload_2 C dX11_land_169 <| zz_aload_0 C dX11_land_170 <| zz_getR C fX11_17 (tM_K hT) (tM_R_readTold hT) dX11_land_171 <| zz_iload_2 C dX11_land_174 <| zc_iaload C _ (tM_K_readTold hT) (znI (by omega)) (by omega) dX11_land_175 <| zpc 176 rfl <| ?_
      rw [ev]
      refine zc_iastore C _ (tM_K_told hT) (znI (by omega)) (by omega) dX11_land_176 <| zz_iinc_2 C _ (zle rfl) rfl dX11_land_177 nI_s <| zz_goto C 159 dX11_land_180 (by decide) <| zpc 159 rfl <| ?_
      refine ih (by omega) _ (fun i' j z => ?_) q2 (fun i' hi' => ?_)
      · rw [zI_sI, if_neg (by omega)]; exact q1 i' j z
      · rw [zI_sI]
        by_cases z : i' = k
        · rw [if_pos ⟨rfl, z⟩, z]
        · rw [if_neg (by omega)]; exact q3 i' (by omega)
  exact lp 0 (by omega) h (fun _ _ _ => rfl) (fun _ _ => rfl) (fun k' hk' => absurd hk' (by omega))
theorem l_cp327 (hT : zTM t) (C : zCx E b G RX11 cX11_land 4 (some .int)) (x1 : Int32) (m : Nat) (hm : m ≤ 8) (e1 : zI h 160 4 = nI m)
    (K : ∀ (hc : zH) (x2 x3 : Option Value), (∀ i j, ¬ i = 162 → zI hc i j = zI h i j) → (∀ i j, zL hc i j = zL h i j) → (∀ k, k < m → zI hc 162 k = zI h 161 k) → zAW E b G 4 0 0 355 [some (.ref (b + 157)), some (.int x1), x2, x3] [] t hc) (x3 : Option Value) : zAW E b G 4 0 0 327 [some (.ref (b + 157)), some (.int x1), some (.int (nI 0)), x3] [] t h := by
  have lp : ∀ k, k ≤ m → ∀ (hc : zH), (∀ i j, ¬ i = 162 → zI hc i j = zI h i j) → (∀ i j, zL hc i j = zL h i j) → (∀ k', k' < k → zI hc 162 k' = zI h 161 k') → zAW E b G 4 0 0 327 [some (.ref (b + 157)), some (.int x1), some (.int (nI k)), x3] [] t hc := by
    refine zLoop m fun k hk ih hc q1 q2 q3 => ?_
    have ev : zI hc 161 k = zI h 161 k := q1 _ _ (by omega)
    have ec : zI hc 160 4 = nI m := (q1 _ _ (by omega)).trans e1
    refine zz_iload_2 C dX11_land_327 <| zz_aload_0 C dX11_land_328 <| zz_getR C fX11_20 (tM_K hT) (tM_R_told hT) dX11_land_329 <| zz_iconst_4 C dX11_land_332 <| zc_iaload C 4 (tM_K_told hT) (zlit _ (by decide)) (by decide) dX11_land_333 <| zpc 334 rfl <| ?_
    rw [ec]
    refine zz_icmp_ge C 355 dX11_land_334 (by decide) (fun c334 => ?_) (fun c334 => ?_)
    · rw [nI_leI (by omega) (by omega)] at c334
      exact K hc _ _ q1 q2 (fun k' hk' => q3 k' (by omega))
    · rw [nI_leI (by omega) (by omega)] at c334
      refine zz_aload_0 C dX11_land_337 <| zz_getR C fX11_26 (tM_K hT) (tM_R_wet hT) dX11_land_338 <| zz_iload_2 C dX11_land_341 <| zz_aload_0 C dX11_land_342 <| zz_getR C fX11_23 (tM_K hT) (tM_R_readWet hT) dX11_land_343 <| zz_iload_2 C dX11_land_346 <| zc_iaload C _ (tM_K_readWet hT) (znI (by omega)) (by omega) dX11_land_347 <| zpc 348 rfl <| ?_
      rw [ev]
      refine zc_iastore C _ (tM_K_wet hT) (znI (by omega)) (by omega) dX11_land_348 <| zz_iinc_2 C _ (zle rfl) rfl dX11_land_349 nI_s <| zz_goto C 327 dX11_land_352 (by decide) <| zpc 327 rfl <| ?_
      refine ih (by omega) _ (fun i' j z => ?_) q2 (fun i' hi' => ?_)
      · rw [zI_sI, if_neg (by omega)]; exact q1 i' j z
      · rw [zI_sI]
        by_cases z : i' = k
        · rw [if_pos ⟨rfl, z⟩, z]
        · rw [if_neg (by omega)]; exact q3 i' (by omega)
  exact lp 0 (by omega) h (fun _ _ _ => rfl) (fun _ _ => rfl) (fun k' hk' => absurd hk' (by omega))
theorem l_cp362 (hT : zTM t) (C : zCx E b G RX11 cX11_land 4 (some .int)) (x1 : Int32) (m : Nat) (hm : m ≤ 10) (e1 : zI h 160 1 = nI m) (v : Int32) (e5 : zI h 160 5 = v)
    (K : ∀ (hc : zH) (x2 x3 : Option Value), (∀ i j, ¬ (i = 226 ∨ i = 227) → zI hc i j = zI h i j) → (∀ i j, zL hc i j = zL h i j) → (∀ k, k < m → zI hc 226 k = 0 ∧ zI hc 227 k = v) → zAW E b G 4 0 0 397 [some (.ref (b + 157)), some (.int x1), x2, x3] [] t hc) (x3 : Option Value) : zAW E b G 4 0 0 362 [some (.ref (b + 157)), some (.int x1), some (.int (nI 0)), x3] [] t h := by
  have lp : ∀ k, k ≤ m → ∀ (hc : zH), (∀ i j, ¬ (i = 226 ∨ i = 227) → zI hc i j = zI h i j) → (∀ i j, zL hc i j = zL h i j) → (∀ k', k' < k → zI hc 226 k' = 0 ∧ zI hc 227 k' = v) → zAW E b G 4 0 0 362 [some (.ref (b + 157)), some (.int x1), some (.int (nI k)), x3] [] t hc := by
    refine zLoop m fun k hk ih hc q1 q2 q3 => ?_
    have ev : ∀ x, zI (zsI hc 226 k x) 160 5 = v := fun x => by rw [zI_sI, if_neg (by omega), q1 _ _ (by omega)]; exact e5
    have ec : zI hc 160 1 = nI m := (q1 _ _ (by omega)).trans e1
    refine zz_iload_2 C dX11_land_362 <| zz_aload_0 C dX11_land_363 <| zz_getR C fX11_20 (tM_K hT) (tM_R_told hT) dX11_land_364 <| zz_iconst_1 C dX11_land_367 <| zc_iaload C 1 (tM_K_told hT) (zlit _ (by decide)) (by decide) dX11_land_368 <| zpc 369 rfl <| ?_
    rw [ec]
    refine zz_icmp_ge C 397 dX11_land_369 (by decide) (fun c369 => ?_) (fun c369 => ?_)
    · rw [nI_leI (by omega) (by omega)] at c369
      exact K hc _ _ q1 q2 (fun k' hk' => q3 k' (by omega))
    · rw [nI_leI (by omega) (by omega)] at c369
      refine zz_aload_0 C dX11_land_372 <| zz_getR C fX11_49 (tM_K hT) (tM_R_wear hT) dX11_land_373 <| zz_iload_2 C dX11_land_376 <| zz_iconst_0 C dX11_land_377 <| zc_iastore C _ (tM_K_wear hT) (znI (by omega)) (by omega) dX11_land_378 <| zz_aload_0 C dX11_land_379 <| zz_getR C fX11_52 (tM_K hT) (tM_R_rested hT) dX11_land_380 <| zz_iload_2 C dX11_land_383 <| zz_aload_0 C dX11_land_384 <| zz_getR C fX11_20 (tM_K hT) (tM_R_told hT) dX11_land_385 <| zz_iconst_5 C dX11_land_388 <| zc_iaload C 5 (tM_K_told hT) (zlit _ (by decide)) (by decide) dX11_land_389 <| zpc 390 rfl <| ?_
      rw [ev]
      refine zc_iastore C _ (tM_K_rested hT) (znI (by omega)) (by omega) dX11_land_390 <| zz_iinc_2 C _ (zle rfl) rfl dX11_land_391 nI_s <| zz_goto C 362 dX11_land_394 (by decide) <| zpc 362 rfl <| ?_
      refine ih (by omega) _ (fun i' j z => ?_) q2 (fun i' hi' => ?_)
      · rw [zI_sI, if_neg (by omega), zI_sI, if_neg (by omega)]; exact q1 i' j z
      · rw [zI_sI, if_neg (by omega), zI_sI, zI_sI]
        by_cases z : i' = k
        · rw [if_pos ⟨rfl, z⟩, if_pos ⟨rfl, z⟩]; exact ⟨rfl, rfl⟩
        · rw [if_neg (by omega), if_neg (by omega), zI_sI, if_neg (by omega)]; exact q3 i' (by omega)
  exact lp 0 (by omega) h (fun _ _ _ => rfl) (fun _ _ => rfl) (fun k' hk' => absurd hk' (by omega))
end MCP
