/-! ===== String's own methods over constants ===== -/
section ZJD
variable {E : zE} {b : Nat} {G : zG} {own : String} {cc : ByteArray} {nL : Nat} {rt : Option FieldType} {cells slots pc D MC MS mc ms d idx na mly : Nat} {t t0 : zT} {h h0 : zH} {ls : List (Option Value)} {st rest : List Value} {w : List Nat} {sa va : Nat} {y : MethodName} {cy : ByteArray} {rty : Option FieldType}
theorem zz_i2c (C : zCx E b G own cc nL rt) {x v : Int32} (hv : (x.toUInt32 % 65536).toInt32 = v) (hd : decode cc pc = .ok (.i2c, 1)) (kk : zAW E b G nL cells slots (pc + 1) ls (.int v :: st) t h) : zAW E b G nL cells slots pc ls (.int x :: st) t h := by
  obtain ⟨p, l, e, R, s, m, args, below, meth, c, Q⟩ := G
  intro H locs la hH hS hl
  exact lv_i2c C.1 C.2.1 hd hv (kk H locs la hH hS hl)
theorem zf_nreturn {ty : FieldType} {f v : Int32} (C : zCx E b G own cc nL (some ty)) (hE : zEnd E b G mc ms (qIf f t0 h0)) (hc : cells ≤ mc) (hs : slots ≤ ms) (hd : decode cc pc = .ok (.ireturn, 1)) (hn : narrow ty (.int v) = .int v) (hv : v = f) (ht : t = t0) (hh : h = h0) : zAW E b G nL cells slots pc ls [.int v] t h := by
  obtain ⟨p, l, e, R, s, m, args, below, meth, c, Q⟩ := G
  intro H locs la hH hS hl
  exact hE _ _ _ _ _ (W.widen hc hs (W.zret C.1 C.2.1 C.2.2.2.2.2.1 hn (fun u hu hW => zk_q hH hS ⟨v, rfl, hv, ht, hh⟩ args hu) hS.2.2 hd C.2.2.2.2.2.2.1))
/-- a call on a String constant -/
theorem zf_callVS {f : Int32} (C : zCx E b G own cc nL rt) (hR : zRoom G D MC MS) (As : List Value) (hM : zMet E b G.2.1 y cy mly rty d mc ms (.ref sa :: As) t h (qIf f t0 h0)) (hL : zLV own idx y cy mly rty na) (hna : As.length = na) (hg : zSg E b w sa) (hcls : y.cls = "java/lang/String") (hfit : zFitB d mly D cells mc MC slots ms MS) (hcat : (rest.map fun v => v.category).sum ≤ 8) (hd : decode cc pc = .ok (.invokevirtual idx, 3))
    (kk : zAW E b G nL (cells + mc) (slots + ms) (pc + 3) ls (.int f :: rest) t0 h0) : zAW E b G nL cells slots pc ls (As.reverse ++ .ref sa :: rest) t h := by
  obtain ⟨p, l, e, R, s, m, args, below, meth, c, Q⟩ := G
  intro H locs la hH hS hl
  obtain ⟨hw, hy1, hy2, hy3⟩ := hL
  have hR1 : D ≤ R.frames := hR.1
  have hR2 : 64 * D ≤ R.locals := hR.2.1
  have hR3 : MC ≤ R.cells := hR.2.2.1
  have hR4 : MS ≤ R.slots := hR.2.2.2
  have hts := C.2.2.2.2.1
  have hk := C.2.2.2.2.2.2.2.1
  have hb := hk.1.1
  refine zk_after (va_runV (Ts := zW) (As := As) (rest := rest) (b := sa) ⟨C.1, C.2.1, C.2.2.1, C.2.2.2.1, hts⟩ hM (C := y.cls) (bytes := cy) (maxL := mly) (ret := rty) (n := na) ⟨callB_of na hts (zGood (fun w hw => hw) (hw _ (by simp))) rfl rfl rfl (hts _ (hw _ (by simp))) (hts _ (hw _ (by simp))) ⟨hy1, hy2, hy3⟩ ⟨Nat.le_trans hfit.1 hR1, Nat.le_trans hfit.2.1 hR2⟩, hts _ (hw _ (by simp)), hts _ (hw _ (by simp))⟩ ⟨zk_blind, ?_, zk_pre C hH hS _⟩ rfl hna hl.1 rfl (lv_room hcat) hd ⟨Nat.le_trans hfit.2.2.1 hR3, Nat.le_trans hfit.2.2.2 hR4⟩) hS (fun v t' h' hp H1 locs1 hH1 hS1 => ?_)
  · rw [hcls]
    obtain ⟨cell, h1, h2, h3, -⟩ := ((va_O.moved hk.2.1.alike hg.1).kept (fun a ha hn => hk.2.2 a (by omega))).kept hS.2.1
    exact ⟨cell, h1, h2, h3⟩
  · obtain ⟨r, rfl, rfl, rfl, rfl⟩ := hp
    exact kk H1 locs1 la hH1 hS1 hl
theorem zz_gCS (C : zCx E b G RJ0 cc nL rt) (hd : decode cc pc = .ok (.getstatic 38, 3)) (kk : zAW E b G nL cells slots (pc + 3) ls (.int 1 :: st) t h) : zAW E b G nL cells slots pc ls st t h := by
  obtain ⟨p, l, e, R, s, m, args, below, meth, c, Q⟩ := G
  intro H locs la hH hS hl
  obtain ⟨⟨hb, -, sb, hts, hgn⟩, hW, hq⟩ := C.2.2.2.2.2.2.2.1
  have hZ : va_Z RJ0 "COMPACT_STRINGS" "Z" (.int 1) (fun q => b ≤ q) (zS0 E) (zS0 E).heap := va_Zof (hts _ (zCh_in 4 _ (List.mem_of_getElem? (i := 47) rfl))) (hts _ (zCh_in 1 _ (List.mem_of_getElem? (i := 18) rfl))) (va_eqi (flat_of_before _ hgn _ (by decide +kernel))) (fun a ha => by omega)
  exact va_gets C.1 C.2.1 ((va_Z.moved hW.alike hZ).kept (fun a ha hn => hq a (by omega))) hS C.2.2.2.1 (C.2.2.2.2.1 _ (zW_ix (4, 46) (by decide +kernel))) (fun x hx => hx) hd (kk H locs la hH hS hl)
theorem zz_gFm (C : zCx E b G RJ0 cc nL rt) (hd : decode cc pc = .ok (.getstatic 1053, 3)) (kk : ∀ v : Value, (v = .null ∨ ∃ r, v = .ref r) → zAW E b G nL cells slots (pc + 3) ls (v :: st) t h) : zAW E b G nL cells slots pc ls st t h := by
  obtain ⟨p, l, e, R, s, m, args, below, meth, c, Q⟩ := G
  intro H locs la hH hS hl
  have hZ := (C.2.2.2.2.2.2.2.1.zq (C := RJ3) (n := "SIOOBE_FORMATTER") (d := "Ljava/util/function/BiFunction;") (zCh_in 4 _ (List.mem_of_getElem? (i := 63) rfl)) (zCh_in 1 _ (List.mem_of_getElem? (i := 20) rfl)) (fun sb hg => flat_of_before _ hg _ (by decide +kernel))).1
  rcases hZ with z | ⟨r, z⟩
  · exact va_gets C.1 C.2.1 z hS C.2.2.2.1 (C.2.2.2.2.1 _ (zW_ix (4, 62) (by decide +kernel))) (fun x hx => hx) hd (kk .null (Or.inl rfl) H locs la hH hS hl)
  · exact va_gets C.1 C.2.1 z hS C.2.2.2.1 (C.2.2.2.2.1 _ (zW_ix (4, 62) (by decide +kernel))) (fun x hx => hx) hd (kk (.ref r) (Or.inr ⟨r, rfl⟩) H locs la hH hS hl)
end ZJD
theorem lX3_103 : zLV RX3 103 yJ0_length_8abf5 cJ0_length_8abf5 1 (some .int) 0 := ⟨zW_sn (l := [.methodLink RX3 103 yJ0_length_8abf5, .instanceMethod yJ0_length_8abf5, .selects yJ0_length_8abf5.cls yJ0_length_8abf5 yJ0_length_8abf5, .initialized yJ0_length_8abf5.cls]) (zW_is [(4, 38), (4, 39), (4, 40), (1, 18)] (by decide +kernel)) (zW_ir (4, 41) rfl rfl), by decide +kernel, by decide +kernel, by decide +kernel⟩
theorem lX3_108 : zLV RX3 108 yJ0_charAt_5068e cJ0_charAt_5068e 2 (some .char) 1 := ⟨zW_sn (l := [.methodLink RX3 108 yJ0_charAt_5068e, .instanceMethod yJ0_charAt_5068e, .selects yJ0_charAt_5068e.cls yJ0_charAt_5068e yJ0_charAt_5068e, .initialized yJ0_charAt_5068e.cls]) (zW_is [(4, 48), (4, 49), (4, 50), (1, 18)] (by decide +kernel)) (zW_ir (4, 51) rfl rfl), by decide +kernel, by decide +kernel, by decide +kernel⟩
theorem lJ0_335 : zLV RJ0 335 yJ0_coder_7d493 cJ0_coder_7d493 1 (some .byte) 0 := ⟨zW_sn (l := [.methodLink RJ0 335 yJ0_coder_7d493, .instanceMethod yJ0_coder_7d493, .selects yJ0_coder_7d493.cls yJ0_coder_7d493 yJ0_coder_7d493, .initialized yJ0_coder_7d493.cls]) (zW_is [(4, 42), (4, 43), (4, 44), (1, 18)] (by decide +kernel)) (zW_ir (4, 45) rfl rfl), by decide +kernel, by decide +kernel, by decide +kernel⟩
theorem lJ0_492 : zLV RJ0 492 yJ0_isLatin1_aae02 cJ0_isLatin1_aae02 1 (some .boolean) 0 := ⟨zW_sn (l := [.methodLink RJ0 492 yJ0_isLatin1_aae02, .instanceMethod yJ0_isLatin1_aae02, .selects yJ0_isLatin1_aae02.cls yJ0_isLatin1_aae02 yJ0_isLatin1_aae02, .initialized yJ0_isLatin1_aae02.cls]) (zW_is [(4, 52), (4, 53), (4, 54), (1, 18)] (by decide +kernel)) (zW_ir (4, 55) rfl rfl), by decide +kernel, by decide +kernel, by decide +kernel⟩
theorem lJ0_495 : zLS RJ0 495 yJ1_charAt_3b067 cJ1_charAt_3b067 2 (some .char) 2 := ⟨zW_sn (l := [.methodLink RJ0 495 yJ1_charAt_3b067, .static yJ1_charAt_3b067, .initialized yJ1_charAt_3b067.cls]) (zW_is [(4, 56), (4, 57), (1, 19)] (by decide +kernel)) (zW_ir (4, 58) rfl rfl), by decide +kernel, by decide +kernel, by decide +kernel⟩
theorem lJ1_9 : zLS RJ1 9 yJ0_checkIndex_df160 cJ0_checkIndex_df160 2 none 2 := ⟨zW_sn (l := [.methodLink RJ1 9 yJ0_checkIndex_df160, .static yJ0_checkIndex_df160, .initialized yJ0_checkIndex_df160.cls]) (zW_is [(4, 59), (4, 60), (1, 18)] (by decide +kernel)) (zW_ir (4, 61) rfl rfl), by decide +kernel, by decide +kernel, by decide +kernel⟩
theorem lJ0_1059 : zLS RJ0 1059 yJ3_checkIndex_8e157 cJ3_checkIndex_8e157 3 (some .int) 3 := ⟨zW_sn (l := [.methodLink RJ0 1059 yJ3_checkIndex_8e157, .static yJ3_checkIndex_8e157, .initialized yJ3_checkIndex_8e157.cls]) (zW_is [(4, 64), (4, 65), (1, 20)] (by decide +kernel)) (zW_ir (4, 66) rfl rfl), by decide +kernel, by decide +kernel, by decide +kernel⟩
