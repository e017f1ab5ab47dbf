/-! ===== String.length, charAt over constants ===== -/
theorem dJ0_coder_7d493_0 : decode cJ0_coder_7d493 0 = .ok (.getstatic 38, 3) := by decide +kernel
theorem dJ0_coder_7d493_3 : decode cJ0_coder_7d493 3 = .ok (.ifCond .eq 10, 3) := by decide +kernel
theorem dJ0_coder_7d493_6 : decode cJ0_coder_7d493 6 = .ok (.aload_n 0, 1) := by decide +kernel
theorem dJ0_coder_7d493_7 : decode cJ0_coder_7d493 7 = .ok (.getfield 15, 3) := by decide +kernel
theorem dJ0_coder_7d493_10 : decode cJ0_coder_7d493 10 = .ok (.goto 4, 3) := by decide +kernel
theorem dJ0_coder_7d493_14 : decode cJ0_coder_7d493 14 = .ok (.ireturn, 1) := by decide +kernel
theorem dJ0_isLatin1_aae02_0 : decode cJ0_isLatin1_aae02 0 = .ok (.getstatic 38, 3) := by decide +kernel
theorem dJ0_isLatin1_aae02_3 : decode cJ0_isLatin1_aae02 3 = .ok (.ifCond .eq 14, 3) := by decide +kernel
theorem dJ0_isLatin1_aae02_6 : decode cJ0_isLatin1_aae02 6 = .ok (.aload_n 0, 1) := by decide +kernel
theorem dJ0_isLatin1_aae02_7 : decode cJ0_isLatin1_aae02 7 = .ok (.getfield 15, 3) := by decide +kernel
theorem dJ0_isLatin1_aae02_10 : decode cJ0_isLatin1_aae02 10 = .ok (.ifCond .ne 7, 3) := by decide +kernel
theorem dJ0_isLatin1_aae02_13 : decode cJ0_isLatin1_aae02 13 = .ok (.iconst 1, 1) := by decide +kernel
theorem dJ0_isLatin1_aae02_14 : decode cJ0_isLatin1_aae02 14 = .ok (.goto 4, 3) := by decide +kernel
theorem dJ0_isLatin1_aae02_18 : decode cJ0_isLatin1_aae02 18 = .ok (.ireturn, 1) := by decide +kernel
theorem dJ0_length_8abf5_0 : decode cJ0_length_8abf5 0 = .ok (.aload_n 0, 1) := by decide +kernel
theorem dJ0_length_8abf5_1 : decode cJ0_length_8abf5 1 = .ok (.getfield 9, 3) := by decide +kernel
theorem dJ0_length_8abf5_4 : decode cJ0_length_8abf5 4 = .ok (.arraylength, 1) := by decide +kernel
theorem dJ0_length_8abf5_5 : decode cJ0_length_8abf5 5 = .ok (.aload_n 0, 1) := by decide +kernel
theorem dJ0_length_8abf5_6 : decode cJ0_length_8abf5 6 = .ok (.invokevirtual 335, 3) := by decide +kernel
theorem dJ0_length_8abf5_9 : decode cJ0_length_8abf5 9 = .ok (.ishr, 1) := by decide +kernel
theorem dJ0_length_8abf5_10 : decode cJ0_length_8abf5 10 = .ok (.ireturn, 1) := by decide +kernel
theorem dJ3_checkIndex_8e157_0 : decode cJ3_checkIndex_8e157 0 = .ok (.iload_n 0, 1) := by decide +kernel
theorem dJ3_checkIndex_8e157_1 : decode cJ3_checkIndex_8e157 1 = .ok (.ifCond .lt 8, 3) := by decide +kernel
theorem dJ3_checkIndex_8e157_4 : decode cJ3_checkIndex_8e157 4 = .ok (.iload_n 0, 1) := by decide +kernel
theorem dJ3_checkIndex_8e157_5 : decode cJ3_checkIndex_8e157 5 = .ok (.iload_n 1, 1) := by decide +kernel
theorem dJ3_checkIndex_8e157_6 : decode cJ3_checkIndex_8e157 6 = .ok (.if_icmp .lt 10, 3) := by decide +kernel
theorem dJ3_checkIndex_8e157_16 : decode cJ3_checkIndex_8e157 16 = .ok (.iload_n 0, 1) := by decide +kernel
theorem dJ3_checkIndex_8e157_17 : decode cJ3_checkIndex_8e157 17 = .ok (.ireturn, 1) := by decide +kernel
theorem dJ0_checkIndex_df160_0 : decode cJ0_checkIndex_df160 0 = .ok (.iload_n 0, 1) := by decide +kernel
theorem dJ0_checkIndex_df160_1 : decode cJ0_checkIndex_df160 1 = .ok (.iload_n 1, 1) := by decide +kernel
theorem dJ0_checkIndex_df160_2 : decode cJ0_checkIndex_df160 2 = .ok (.getstatic 1053, 3) := by decide +kernel
theorem dJ0_checkIndex_df160_5 : decode cJ0_checkIndex_df160 5 = .ok (.invokestatic 1059, 3) := by decide +kernel
theorem dJ0_checkIndex_df160_8 : decode cJ0_checkIndex_df160 8 = .ok (.pop, 1) := by decide +kernel
theorem dJ0_checkIndex_df160_9 : decode cJ0_checkIndex_df160 9 = .ok (.return_, 1) := by decide +kernel
theorem dJ1_charAt_3b067_0 : decode cJ1_charAt_3b067 0 = .ok (.iload_n 1, 1) := by decide +kernel
theorem dJ1_charAt_3b067_1 : decode cJ1_charAt_3b067 1 = .ok (.aload_n 0, 1) := by decide +kernel
theorem dJ1_charAt_3b067_2 : decode cJ1_charAt_3b067 2 = .ok (.arraylength, 1) := by decide +kernel
theorem dJ1_charAt_3b067_3 : decode cJ1_charAt_3b067 3 = .ok (.invokestatic 9, 3) := by decide +kernel
theorem dJ1_charAt_3b067_6 : decode cJ1_charAt_3b067 6 = .ok (.aload_n 0, 1) := by decide +kernel
theorem dJ1_charAt_3b067_7 : decode cJ1_charAt_3b067 7 = .ok (.iload_n 1, 1) := by decide +kernel
theorem dJ1_charAt_3b067_8 : decode cJ1_charAt_3b067 8 = .ok (.baload, 1) := by decide +kernel
theorem dJ1_charAt_3b067_9 : decode cJ1_charAt_3b067 9 = .ok (.sipush 255, 3) := by decide +kernel
theorem dJ1_charAt_3b067_12 : decode cJ1_charAt_3b067 12 = .ok (.iand, 1) := by decide +kernel
theorem dJ1_charAt_3b067_13 : decode cJ1_charAt_3b067 13 = .ok (.i2c, 1) := by decide +kernel
theorem dJ1_charAt_3b067_14 : decode cJ1_charAt_3b067 14 = .ok (.ireturn, 1) := by decide +kernel
theorem dJ0_charAt_5068e_0 : decode cJ0_charAt_5068e 0 = .ok (.aload_n 0, 1) := by decide +kernel
theorem dJ0_charAt_5068e_1 : decode cJ0_charAt_5068e 1 = .ok (.invokevirtual 492, 3) := by decide +kernel
theorem dJ0_charAt_5068e_4 : decode cJ0_charAt_5068e 4 = .ok (.ifCond .eq 12, 3) := by decide +kernel
theorem dJ0_charAt_5068e_7 : decode cJ0_charAt_5068e 7 = .ok (.aload_n 0, 1) := by decide +kernel
theorem dJ0_charAt_5068e_8 : decode cJ0_charAt_5068e 8 = .ok (.getfield 9, 3) := by decide +kernel
theorem dJ0_charAt_5068e_11 : decode cJ0_charAt_5068e 11 = .ok (.iload_n 1, 1) := by decide +kernel
theorem dJ0_charAt_5068e_12 : decode cJ0_charAt_5068e 12 = .ok (.invokestatic 495, 3) := by decide +kernel
theorem dJ0_charAt_5068e_15 : decode cJ0_charAt_5068e 15 = .ok (.ireturn, 1) := by decide +kernel
/-- a constant of few letters -/
def wSm (w : List Nat) : Prop := w.length < 8 ∧ ∀ j, j < w.length → w.getD j 0 < 128
theorem shr8 : ∀ k, k < 8 → nI k >>> ((0 : Int32) &&& 31) = nI k := by decide
theorem ch128 : ∀ k, k < 128 → ((nI k &&& 255).toUInt32 % 65536).toInt32 = nI k := by decide
theorem ch128b : ∀ k, k < 128 → ((nI k).toUInt32 % 65536).toInt32 = nI k := by decide
theorem nar128 {k : Nat} (h : k < 128) : narrow .char (.int (nI k)) = .int (nI k) := congrArg Value.int (ch128b k h)
section JST
variable {E : zE} {b : Nat} {G : zG} {t : zT} {h : zH} {l : Launch} {w : List Nat} {sa va : Nat}
theorem j_cod (hg : zSg E b w sa) : zMet E b l yJ0_coder_7d493 cJ0_coder_7d493 1 (some .byte) 1 0 0 [.ref sa] t h (qIf 0 t h) := by
  refine zMet.of (ls := [some (.ref sa)]) (by decide) (zle rfl) 0 rfl ?_
  intro G hlG C hR hE hin
  refine zz_gCS C dJ0_coder_7d493_0 <| zz_if_eq C 13 dJ0_coder_7d493_3 (by decide) (fun c => absurd c (by decide)) (fun c => ?_)
  exact zz_aload_0 C dJ0_coder_7d493_6 <| zz_scod C wJ0_15 hg dJ0_coder_7d493_7 <| zz_goto C 14 dJ0_coder_7d493_10 (by decide) <| zpc 14 rfl <| zf_nreturn C hE (zle rfl) (zle rfl) dJ0_coder_7d493_14 rfl rfl rfl rfl
theorem j_lat (hg : zSg E b w sa) : zMet E b l yJ0_isLatin1_aae02 cJ0_isLatin1_aae02 1 (some .boolean) 1 0 0 [.ref sa] t h (qIf 1 t h) := by
  refine zMet.of (ls := [some (.ref sa)]) (by decide) (zle rfl) 0 rfl ?_
  intro G hlG C hR hE hin
  refine zz_gCS C dJ0_isLatin1_aae02_0 <| zz_if_eq C 17 dJ0_isLatin1_aae02_3 (by decide) (fun c => absurd c (by decide)) (fun c => ?_)
  refine zz_aload_0 C dJ0_isLatin1_aae02_6 <| zz_scod C wJ0_15 hg dJ0_isLatin1_aae02_7 <| zz_if_ne C 17 dJ0_isLatin1_aae02_10 (by decide) (fun c => absurd rfl c) (fun c => ?_)
  exact zz_iconst_1 C dJ0_isLatin1_aae02_13 <| zz_goto C 18 dJ0_isLatin1_aae02_14 (by decide) <| zpc 18 rfl <| zf_zreturn C hE (zle rfl) (zle rfl) dJ0_isLatin1_aae02_18 (Or.inr rfl) rfl rfl rfl
theorem j_len (hg : zSg E b w sa) (hw : wSm w) : zMet E b l yJ0_length_8abf5 cJ0_length_8abf5 1 (some .int) 2 0 0 [.ref sa] t h (qIf (nI w.length) t h) := by
  refine zMet.of (ls := [some (.ref sa)]) (by decide) (zle rfl) 0 rfl ?_
  intro G hlG C hR hE hin
  refine zz_aload_0 C dJ0_length_8abf5_0 <| zz_sval C wJ0_9 hg dJ0_length_8abf5_1 <| fun va hv => ?_
  refine zz_slen C hv dJ0_length_8abf5_4 <| zz_aload_0 C dJ0_length_8abf5_5 <| zf_callVS C hR [] (j_cod hg) lJ0_335 rfl hg rfl ⟨zle rfl, zle rfl, zle rfl, zle rfl⟩ (zle rfl) dJ0_length_8abf5_6 ?_
  exact zz_ishr C dJ0_length_8abf5_9 <| zf_ireturn C hE (zle rfl) (zle rfl) dJ0_length_8abf5_10 (shr8 _ hw.1) rfl rfl
theorem j_pre (k n : Nat) (hk : k < n) (hn : n < 2 ^ 31) (v : Value) (hv : v = .null ∨ ∃ r, v = .ref r) : zMet E b l yJ3_checkIndex_8e157 cJ3_checkIndex_8e157 3 (some .int) 1 0 0 [.int (nI k), .int (nI n), v] t h (qIf (nI k) t h) := by
  rcases hv with rfl | ⟨r, rfl⟩
  · refine zMet.of (ls := [some (.int (nI k)), some (.int (nI n)), some .null]) (by decide) (zle rfl) 0 rfl ?_
    intro G hlG C hR hE hin
    refine zz_iload_0 C dJ3_checkIndex_8e157_0 <| zz_if_lt C 9 dJ3_checkIndex_8e157_1 (by decide) (fun c => absurd c (nI_pos (by omega))) (fun c => ?_)
    refine zz_iload_0 C dJ3_checkIndex_8e157_4 <| zz_iload_1 C dJ3_checkIndex_8e157_5 <| zz_icmp_lt C 16 dJ3_checkIndex_8e157_6 (by decide) (fun c => ?_) (fun c => absurd (nI_lt hk hn) c)
    exact zz_iload_0 C dJ3_checkIndex_8e157_16 <| zf_ireturn C hE (zle rfl) (zle rfl) dJ3_checkIndex_8e157_17 rfl rfl rfl
  · refine zMet.of (ls := [some (.int (nI k)), some (.int (nI n)), some (.ref r)]) (by decide) (zle rfl) 0 rfl ?_
    intro G hlG C hR hE hin
    refine zz_iload_0 C dJ3_checkIndex_8e157_0 <| zz_if_lt C 9 dJ3_checkIndex_8e157_1 (by decide) (fun c => absurd c (nI_pos (by omega))) (fun c => ?_)
    refine zz_iload_0 C dJ3_checkIndex_8e157_4 <| zz_iload_1 C dJ3_checkIndex_8e157_5 <| zz_icmp_lt C 16 dJ3_checkIndex_8e157_6 (by decide) (fun c => ?_) (fun c => absurd (nI_lt hk hn) c)
    exact zz_iload_0 C dJ3_checkIndex_8e157_16 <| zf_ireturn C hE (zle rfl) (zle rfl) dJ3_checkIndex_8e157_17 rfl rfl rfl
theorem j_chk (k n : Nat) (hk : k < n) (hn : n < 2 ^ 31) : zMet E b l yJ0_checkIndex_df160 cJ0_checkIndex_df160 2 none 2 0 0 [.int (nI k), .int (nI n)] t h (qVf t h) := by
  refine zMet.of (ls := [some (.int (nI k)), some (.int (nI n))]) (by decide) (zle rfl) 0 rfl ?_
  intro G hlG C hR hE hin
  refine zz_iload_0 C dJ0_checkIndex_df160_0 <| zz_iload_1 C dJ0_checkIndex_df160_1 <| zz_gFm C dJ0_checkIndex_df160_2 <| fun v hv => ?_
  refine zf_callSI C hR [_, _, _] (j_pre k n hk hn v hv) lJ0_1059 rfl ⟨zle rfl, zle rfl, zle rfl, zle rfl⟩ (zle rfl) dJ0_checkIndex_df160_5 ?_
  exact zz_pop C dJ0_checkIndex_df160_8 rfl <| zf_return C hE (zle rfl) (zle rfl) dJ0_checkIndex_df160_9 rfl rfl
theorem j_lch (hv : zSv E b w va) (hw : wSm w) (k : Nat) (hk : k < w.length) : zMet E b l yJ1_charAt_3b067 cJ1_charAt_3b067 2 (some .char) 3 0 0 [.ref va, .int (nI k)] t h (qIf (nI (w.getD k 0)) t h) := by
  have h8 := hw.1
  have hc := hw.2 k hk
  refine zMet.of (ls := [some (.ref va), some (.int (nI k))]) (by decide) (zle rfl) 0 rfl ?_
  intro G hlG C hR hE hin
  refine zz_iload_1 C dJ1_charAt_3b067_0 <| zz_aload_0 C dJ1_charAt_3b067_1 <| zz_slen C hv dJ1_charAt_3b067_2 ?_
  refine zf_callSV C hR [_, _] (j_chk k w.length hk (by omega)) lJ1_9 rfl ⟨zle rfl, zle rfl, zle rfl, zle rfl⟩ (zle rfl) dJ1_charAt_3b067_3 ?_
  refine zz_aload_0 C dJ1_charAt_3b067_6 <| zz_iload_1 C dJ1_charAt_3b067_7 <| zz_sbld C hv k hk (by omega) dJ1_charAt_3b067_8 ?_
  exact zz_sipush C 255 dJ1_charAt_3b067_9 (by decide) <| zz_iand C dJ1_charAt_3b067_12 <| zz_i2c C (ch128 _ hc) dJ1_charAt_3b067_13 <| zf_nreturn C hE (zle rfl) (zle rfl) dJ1_charAt_3b067_14 (nar128 hc) rfl rfl rfl
theorem j_chr (hg : zSg E b w sa) (hw : wSm w) (k : Nat) (hk : k < w.length) : zMet E b l yJ0_charAt_5068e cJ0_charAt_5068e 2 (some .char) 4 0 0 [.ref sa, .int (nI k)] t h (qIf (nI (w.getD k 0)) t h) := by
  have hc := hw.2 k hk
  refine zMet.of (ls := [some (.ref sa), some (.int (nI k))]) (by decide) (zle rfl) 0 rfl ?_
  intro G hlG C hR hE hin
  refine zz_aload_0 C dJ0_charAt_5068e_0 <| zf_callVS C hR [] (j_lat hg) lJ0_492 rfl hg rfl ⟨zle rfl, zle rfl, zle rfl, zle rfl⟩ (zle rfl) dJ0_charAt_5068e_1 ?_
  refine zz_if_eq C 16 dJ0_charAt_5068e_4 (by decide) (fun c => absurd c (by decide)) (fun c => ?_)
  refine zz_aload_0 C dJ0_charAt_5068e_7 <| zz_sval C wJ0_9 hg dJ0_charAt_5068e_8 <| fun va hv => ?_
  refine zz_iload_1 C dJ0_charAt_5068e_11 <| zf_callSI C hR [_, _] (j_lch hv hw k hk) lJ0_495 rfl ⟨zle rfl, zle rfl, zle rfl, zle rfl⟩ (zle rfl) dJ0_charAt_5068e_12 ?_
  exact zf_nreturn C hE (zle rfl) (zle rfl) dJ0_charAt_5068e_15 (nar128 hc) rfl rfl rfl
end JST
