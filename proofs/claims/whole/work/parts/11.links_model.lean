def zCh : Nat → List Cond := fun k => match k with
  | 0 => k2_sels lw_privs
  | 1 => tables_1_1
  | 2 => tables_1_2
  | 3 => tables_1_3
  | 4 => tables_1_4
  | 5 => tables_1_5
  | 6 => tables_1_6
  | 7 => tables_1_7
  | 8 => tables_1_8
  | _ => []
theorem zCh_in : ∀ (k : Nat) (w : Cond), w ∈ zCh k → w ∈ lw_tbl
  | 0, w, h => List.mem_append_left _ h
  | 1, w, h => List.mem_append_right _ (List.mem_append_left _ h)
  | 2, w, h => List.mem_append_right _ (List.mem_append_right _ (List.mem_append_left _ h))
  | 3, w, h => List.mem_append_right _ (List.mem_append_right _ (List.mem_append_right _ (List.mem_append_left _ h)))
  | 4, w, h => List.mem_append_right _ (List.mem_append_right _ (List.mem_append_right _ (List.mem_append_right _ (List.mem_append_left _ h))))
  | 5, w, h => List.mem_append_right _ (List.mem_append_right _ (List.mem_append_right _ (List.mem_append_right _ (List.mem_append_right _ (List.mem_append_left _ h)))))
  | 6, w, h => List.mem_append_right _ (List.mem_append_right _ (List.mem_append_right _ (List.mem_append_right _ (List.mem_append_right _ (List.mem_append_right _ (List.mem_append_left _ h))))))
  | 7, w, h => List.mem_append_right _ (List.mem_append_right _ (List.mem_append_right _ (List.mem_append_right _ (List.mem_append_right _ (List.mem_append_right _ (List.mem_append_right _ (List.mem_append_left _ h)))))))
  | 8, w, h => List.mem_append_right _ (List.mem_append_right _ (List.mem_append_right _ (List.mem_append_right _ (List.mem_append_right _ (List.mem_append_right _ (List.mem_append_right _ (List.mem_append_right _ (h))))))))
  | _ + 9, w, h => absurd h List.not_mem_nil
theorem zW_ix {w : Cond} (i : Nat × Nat) (h : (decide ((zCh i.1)[i.2]? = some w) && goodWord w) = true) : w ∈ zW := by
  rw [Bool.and_eq_true] at h
  exact List.mem_filter.mpr ⟨zCh_in i.1 w (List.mem_of_getElem? (of_decide_eq_true h.1)), h.2⟩
def zIs : List Cond → List (Nat × Nat) → Bool
  | [], [] => true
  | w :: l, i :: is => (decide ((zCh i.1)[i.2]? = some w) && goodWord w) && zIs l is
  | _, _ => false
theorem zW_is : ∀ {l : List Cond} (is : List (Nat × Nat)), zIs l is = true → ∀ w ∈ l, w ∈ zW
  | [], _, _, w, hw => absurd hw List.not_mem_nil
  | v :: l, [], h, w, hw => by simp [zIs] at h
  | v :: l, i :: is, h, w, hw => by
    unfold zIs at h
    rw [Bool.and_eq_true] at h
    rcases List.mem_cons.mp hw with rfl | hw
    · exact zW_ix i h.1
    · exact zW_is is h.2 w hw
theorem zW_ir {w : Cond} (i : Nat × Nat) (h : (zCh i.1)[i.2]? = some w) (h2 : goodWord w = true) : w ∈ zW := List.mem_filter.mpr ⟨zCh_in i.1 w (List.mem_of_getElem? h), h2⟩
theorem zW_sn {l : List Cond} {v : Cond} (h : ∀ w ∈ l, w ∈ zW) (h2 : v ∈ zW) : ∀ w ∈ l ++ [v], w ∈ zW := fun w hw => by
  rcases List.mem_append.mp hw with hw | hw
  · exact h w hw
  · rw [List.mem_singleton.mp hw]; exact h2
theorem fX11_9 : zFd RX11 9 11 3 0 := ⟨by decide, by decide, zW_ix (6, 70) (by decide +kernel), rfl⟩
theorem fX11_13 : zFd RX11 13 11 8 2 := ⟨by decide, by decide, zW_ix (6, 75) (by decide +kernel), rfl⟩
theorem fX11_17 : zFd RX11 17 11 9 2 := ⟨by decide, by decide, zW_ix (6, 76) (by decide +kernel), rfl⟩
theorem fX11_20 : zFd RX11 20 11 10 2 := ⟨by decide, by decide, zW_ix (6, 77) (by decide +kernel), rfl⟩
theorem fX11_23 : zFd RX11 23 11 11 2 := ⟨by decide, by decide, zW_ix (6, 78) (by decide +kernel), rfl⟩
theorem fX11_26 : zFd RX11 26 11 12 2 := ⟨by decide, by decide, zW_ix (6, 79) (by decide +kernel), rfl⟩
theorem fX11_31 : zFd RX11 31 11 13 2 := ⟨by decide, by decide, zW_ix (6, 80) (by decide +kernel), rfl⟩
theorem fX11_34 : zFd RX11 34 11 14 2 := ⟨by decide, by decide, zW_ix (6, 81) (by decide +kernel), rfl⟩
theorem fX11_37 : zFd RX11 37 11 15 2 := ⟨by decide, by decide, zW_ix (6, 82) (by decide +kernel), rfl⟩
theorem fX11_40 : zFd RX11 40 11 16 2 := ⟨by decide, by decide, zW_ix (6, 83) (by decide +kernel), rfl⟩
theorem fX11_43 : zFd RX11 43 11 17 2 := ⟨by decide, by decide, zW_ix (6, 84) (by decide +kernel), rfl⟩
theorem fX11_46 : zFd RX11 46 11 18 2 := ⟨by decide, by decide, zW_ix (6, 85) (by decide +kernel), rfl⟩
theorem fX11_49 : zFd RX11 49 11 23 2 := ⟨by decide, by decide, zW_ix (6, 90) (by decide +kernel), rfl⟩
theorem fX11_52 : zFd RX11 52 11 24 2 := ⟨by decide, by decide, zW_ix (6, 91) (by decide +kernel), rfl⟩
theorem fX11_55 : zFd RX11 55 11 25 2 := ⟨by decide, by decide, zW_ix (6, 92) (by decide +kernel), rfl⟩
theorem fX11_58 : zFd RX11 58 11 26 2 := ⟨by decide, by decide, zW_ix (6, 93) (by decide +kernel), rfl⟩
theorem fX11_61 : zFd RX11 61 11 27 2 := ⟨by decide, by decide, zW_ix (6, 94) (by decide +kernel), rfl⟩
theorem fX11_64 : zFd RX11 64 11 28 2 := ⟨by decide, by decide, zW_ix (6, 95) (by decide +kernel), rfl⟩
theorem fX11_67 : zFd RX11 67 11 29 2 := ⟨by decide, by decide, zW_ix (6, 96) (by decide +kernel), rfl⟩
theorem fX11_70 : zFd RX11 70 11 35 0 := ⟨by decide, by decide, zW_ix (6, 102) (by decide +kernel), rfl⟩
theorem fX11_73 : zFd RX11 73 11 36 0 := ⟨by decide, by decide, zW_ix (6, 103) (by decide +kernel), rfl⟩
theorem fX11_76 : zFd RX11 76 11 37 0 := ⟨by decide, by decide, zW_ix (6, 104) (by decide +kernel), rfl⟩
theorem fX11_79 : zFd RX11 79 11 40 0 := ⟨by decide, by decide, zW_ix (6, 107) (by decide +kernel), rfl⟩
theorem fX11_82 : zFd RX11 82 11 48 2 := ⟨by decide, by decide, zW_ix (6, 115) (by decide +kernel), rfl⟩
theorem fX11_85 : zFd RX11 85 11 49 2 := ⟨by decide, by decide, zW_ix (6, 116) (by decide +kernel), rfl⟩
theorem fX11_88 : zFd RX11 88 11 52 0 := ⟨by decide, by decide, zW_ix (6, 119) (by decide +kernel), rfl⟩
theorem fX11_91 : zFd RX11 91 11 53 2 := ⟨by decide, by decide, zW_ix (6, 120) (by decide +kernel), rfl⟩
theorem fX11_95 : zFd RX11 95 11 54 2 := ⟨by decide, by decide, zW_ix (6, 121) (by decide +kernel), rfl⟩
theorem fX11_98 : zFd RX11 98 11 60 2 := ⟨by decide, by decide, zW_ix (6, 127) (by decide +kernel), rfl⟩
theorem fX11_101 : zFd RX11 101 11 61 2 := ⟨by decide, by decide, zW_ix (6, 128) (by decide +kernel), rfl⟩
theorem fX11_104 : zFd RX11 104 11 0 0 := ⟨by decide, by decide, zW_ix (6, 67) (by decide +kernel), rfl⟩
theorem fX11_107 : zFd RX11 107 11 1 0 := ⟨by decide, by decide, zW_ix (6, 68) (by decide +kernel), rfl⟩
theorem fX11_110 : zFd RX11 110 11 2 0 := ⟨by decide, by decide, zW_ix (6, 69) (by decide +kernel), rfl⟩
theorem fX11_113 : zFd RX11 113 11 4 0 := ⟨by decide, by decide, zW_ix (6, 71) (by decide +kernel), rfl⟩
theorem fX11_120 : zFd RX11 120 11 5 0 := ⟨by decide, by decide, zW_ix (6, 72) (by decide +kernel), rfl⟩
theorem fX11_123 : zFd RX11 123 11 6 0 := ⟨by decide, by decide, zW_ix (6, 73) (by decide +kernel), rfl⟩
theorem fX11_157 : zFd RX11 157 11 7 0 := ⟨by decide, by decide, zW_ix (6, 74) (by decide +kernel), rfl⟩
theorem fX11_188 : zFd RX11 188 11 19 0 := ⟨by decide, by decide, zW_ix (6, 86) (by decide +kernel), rfl⟩
theorem fX11_191 : zFd RX11 191 11 20 0 := ⟨by decide, by decide, zW_ix (6, 87) (by decide +kernel), rfl⟩
theorem fX11_194 : zFd RX11 194 11 21 0 := ⟨by decide, by decide, zW_ix (6, 88) (by decide +kernel), rfl⟩
theorem fX11_204 : zFd RX11 204 11 30 0 := ⟨by decide, by decide, zW_ix (6, 97) (by decide +kernel), rfl⟩
theorem fX11_214 : zFd RX11 214 11 39 0 := ⟨by decide, by decide, zW_ix (6, 106) (by decide +kernel), rfl⟩
theorem fX11_217 : zFd RX11 217 11 50 0 := ⟨by decide, by decide, zW_ix (6, 117) (by decide +kernel), rfl⟩
theorem fX11_220 : zFd RX11 220 11 51 0 := ⟨by decide, by decide, zW_ix (6, 118) (by decide +kernel), rfl⟩
theorem fX11_227 : zFd RX11 227 11 31 0 := ⟨by decide, by decide, zW_ix (6, 98) (by decide +kernel), rfl⟩
theorem fX11_230 : zFd RX11 230 11 32 0 := ⟨by decide, by decide, zW_ix (6, 99) (by decide +kernel), rfl⟩
theorem fX11_233 : zFd RX11 233 11 33 0 := ⟨by decide, by decide, zW_ix (6, 100) (by decide +kernel), rfl⟩
theorem fX11_236 : zFd RX11 236 11 34 0 := ⟨by decide, by decide, zW_ix (6, 101) (by decide +kernel), rfl⟩
theorem fX11_239 : zFd RX11 239 11 43 1 := ⟨by decide, by decide, zW_ix (6, 110) (by decide +kernel), rfl⟩
theorem fX11_243 : zFd RX11 243 11 44 1 := ⟨by decide, by decide, zW_ix (6, 111) (by decide +kernel), rfl⟩
theorem fX11_246 : zFd RX11 246 11 45 0 := ⟨by decide, by decide, zW_ix (6, 112) (by decide +kernel), rfl⟩
theorem fX11_249 : zFd RX11 249 11 46 0 := ⟨by decide, by decide, zW_ix (6, 113) (by decide +kernel), rfl⟩
theorem fX11_261 : zFd RX11 261 11 38 0 := ⟨by decide, by decide, zW_ix (6, 105) (by decide +kernel), rfl⟩
theorem fX11_270 : zFd RX11 270 11 41 0 := ⟨by decide, by decide, zW_ix (6, 108) (by decide +kernel), rfl⟩
theorem fX11_274 : zFd RX11 274 11 42 0 := ⟨by decide, by decide, zW_ix (6, 109) (by decide +kernel), rfl⟩
theorem fX11_278 : zFd RX11 278 11 47 0 := ⟨by decide, by decide, zW_ix (6, 114) (by decide +kernel), rfl⟩
theorem fX11_315 : zFd RX11 315 11 55 0 := ⟨by decide, by decide, zW_ix (6, 122) (by decide +kernel), rfl⟩
theorem fX11_318 : zFd RX11 318 11 56 0 := ⟨by decide, by decide, zW_ix (6, 123) (by decide +kernel), rfl⟩
theorem fX11_321 : zFd RX11 321 11 57 0 := ⟨by decide, by decide, zW_ix (6, 124) (by decide +kernel), rfl⟩
theorem fX11_330 : zFd RX11 330 11 58 1 := ⟨by decide, by decide, zW_ix (6, 125) (by decide +kernel), rfl⟩
theorem fX11_333 : zFd RX11 333 11 59 0 := ⟨by decide, by decide, zW_ix (6, 126) (by decide +kernel), rfl⟩
theorem fX11_370 : zFd RX11 370 11 22 0 := ⟨by decide, by decide, zW_ix (6, 89) (by decide +kernel), rfl⟩
theorem lX11_116 : zLV RX11 116 yX11_byteAt cX11_byteAt 2 (some .int) 1 := ⟨zW_sn (l := [.methodLink RX11 116 yX11_byteAt, .instanceMethod yX11_byteAt, .selects yX11_byteAt.cls yX11_byteAt yX11_byteAt, .initialized yX11_byteAt.cls]) (zW_is [(7, 37), (7, 39), (0, 48), (1, 12)] (by decide +kernel)) (zW_ir (7, 40) rfl rfl), by decide +kernel, by decide +kernel, by decide +kernel⟩
theorem lX11_126 : zLV RX11 126 yX11_blanks cX11_blanks 1 none 0 := ⟨zW_sn (l := [.methodLink RX11 126 yX11_blanks, .instanceMethod yX11_blanks, .selects yX11_blanks.cls yX11_blanks yX11_blanks, .initialized yX11_blanks.cls]) (zW_is [(7, 33), (7, 35), (0, 47), (1, 12)] (by decide +kernel)) (zW_ir (7, 36) rfl rfl), by decide +kernel, by decide +kernel, by decide +kernel⟩
theorem lX11_129 : zLS RX11 129 yX11_isDigit cX11_isDigit 1 (some .boolean) 1 := ⟨zW_sn (l := [.methodLink RX11 129 yX11_isDigit, .static yX11_isDigit, .initialized yX11_isDigit.cls]) (zW_is [(7, 71), (7, 72), (1, 12)] (by decide +kernel)) (zW_ir (7, 73) rfl rfl), by decide +kernel, by decide +kernel, by decide +kernel⟩
theorem lX11_133 : zLV RX11 133 yX11_wrong cX11_wrong 3 none 2 := ⟨zW_sn (l := [.methodLink RX11 133 yX11_wrong, .instanceMethod yX11_wrong, .selects yX11_wrong.cls yX11_wrong yX11_wrong, .initialized yX11_wrong.cls]) (zW_is [(7, 60), (7, 62), (0, 53), (1, 12)] (by decide +kernel)) (zW_ir (7, 63) rfl rfl), by decide +kernel, by decide +kernel, by decide +kernel⟩
theorem lX11_138 : zLS RX11 138 yX11_in cX11_in 3 (some .boolean) 3 := ⟨zW_sn (l := [.methodLink RX11 138 yX11_in, .static yX11_in, .initialized yX11_in.cls]) (zW_is [(7, 26), (7, 27), (1, 12)] (by decide +kernel)) (zW_ir (7, 28) rfl rfl), by decide +kernel, by decide +kernel, by decide +kernel⟩
theorem lX11_142 : zLV RX11 142 yX11_wordHere cX11_wordHere 3 (some .int) 0 := ⟨zW_sn (l := [.methodLink RX11 142 yX11_wordHere, .instanceMethod yX11_wordHere, .selects yX11_wordHere.cls yX11_wordHere yX11_wordHere, .initialized yX11_wordHere.cls]) (zW_is [(7, 53), (7, 55), (0, 52), (1, 12)] (by decide +kernel)) (zW_ir (7, 56) rfl rfl), by decide +kernel, by decide +kernel, by decide +kernel⟩
theorem lX11_146 : zLS RX11 146 yX11_six cX11_six 7 (some .int) 6 := ⟨zW_sn (l := [.methodLink RX11 146 yX11_six, .static yX11_six, .initialized yX11_six.cls]) (zW_is [(7, 57), (7, 58), (1, 12)] (by decide +kernel)) (zW_ir (7, 59) rfl rfl), by decide +kernel, by decide +kernel, by decide +kernel⟩
theorem lX11_150 : zLV RX11 150 yX11_isWord cX11_isWord 7 (some .boolean) 6 := ⟨zW_sn (l := [.methodLink RX11 150 yX11_isWord, .instanceMethod yX11_isWord, .selects yX11_isWord.cls yX11_isWord yX11_isWord, .initialized yX11_isWord.cls]) (zW_is [(7, 49), (7, 51), (0, 51), (1, 12)] (by decide +kernel)) (zW_ir (7, 52) rfl rfl), by decide +kernel, by decide +kernel, by decide +kernel⟩
theorem lX11_154 : zLV RX11 154 yX11_kindHere cX11_kindHere 1 (some .int) 0 := ⟨zW_sn (l := [.methodLink RX11 154 yX11_kindHere, .instanceMethod yX11_kindHere, .selects yX11_kindHere.cls yX11_kindHere yX11_kindHere, .initialized yX11_kindHere.cls]) (zW_is [(7, 45), (7, 47), (0, 50), (1, 12)] (by decide +kernel)) (zW_ir (7, 48) rfl rfl), by decide +kernel, by decide +kernel, by decide +kernel⟩
theorem lX11_160 : zLS RX11 160 yX11_mostOf cX11_mostOf 1 (some .int) 1 := ⟨zW_sn (l := [.methodLink RX11 160 yX11_mostOf, .static yX11_mostOf, .initialized yX11_mostOf.cls]) (zW_is [(7, 64), (7, 65), (1, 12)] (by decide +kernel)) (zW_ir (7, 66) rfl rfl), by decide +kernel, by decide +kernel, by decide +kernel⟩
theorem lX11_163 : zLV RX11 163 yX11_number cX11_number 6 (some .int) 3 := ⟨zW_sn (l := [.methodLink RX11 163 yX11_number, .instanceMethod yX11_number, .selects yX11_number.cls yX11_number yX11_number, .initialized yX11_number.cls]) (zW_is [(7, 67), (7, 69), (0, 54), (1, 12)] (by decide +kernel)) (zW_ir (7, 70) rfl rfl), by decide +kernel, by decide +kernel, by decide +kernel⟩
theorem lX11_167 : zLV RX11 167 yX11_readsRoad cX11_readsRoad 2 none 1 := ⟨zW_sn (l := [.methodLink RX11 167 yX11_readsRoad, .instanceMethod yX11_readsRoad, .selects yX11_readsRoad.cls yX11_readsRoad yX11_readsRoad, .initialized yX11_readsRoad.cls]) (zW_is [(7, 75), (7, 77), (0, 55), (1, 12)] (by decide +kernel)) (zW_ir (7, 78) rfl rfl), by decide +kernel, by decide +kernel, by decide +kernel⟩
theorem lX11_171 : zLV RX11 171 yX11_readsGoing cX11_readsGoing 2 none 1 := ⟨zW_sn (l := [.methodLink RX11 171 yX11_readsGoing, .instanceMethod yX11_readsGoing, .selects yX11_readsGoing.cls yX11_readsGoing yX11_readsGoing, .initialized yX11_readsGoing.cls]) (zW_is [(7, 79), (7, 81), (0, 56), (1, 12)] (by decide +kernel)) (zW_ir (7, 82) rfl rfl), by decide +kernel, by decide +kernel, by decide +kernel⟩
theorem lX11_174 : zLV RX11 174 yX11_readsWet cX11_readsWet 4 none 0 := ⟨zW_sn (l := [.methodLink RX11 174 yX11_readsWet, .instanceMethod yX11_readsWet, .selects yX11_readsWet.cls yX11_readsWet yX11_readsWet, .initialized yX11_readsWet.cls]) (zW_is [(7, 83), (7, 85), (0, 57), (1, 12)] (by decide +kernel)) (zW_ir (7, 86) rfl rfl), by decide +kernel, by decide +kernel, by decide +kernel⟩
theorem lX11_177 : zLV RX11 177 yX11_sign cX11_sign 2 none 1 := ⟨zW_sn (l := [.methodLink RX11 177 yX11_sign, .instanceMethod yX11_sign, .selects yX11_sign.cls yX11_sign yX11_sign, .initialized yX11_sign.cls]) (zW_is [(7, 87), (7, 89), (0, 58), (1, 12)] (by decide +kernel)) (zW_ir (7, 90) rfl rfl), by decide +kernel, by decide +kernel, by decide +kernel⟩
theorem lX11_181 : zLV RX11 181 yX11_bad cX11_bad 3 (some .boolean) 2 := ⟨zW_sn (l := [.methodLink RX11 181 yX11_bad, .instanceMethod yX11_bad, .selects yX11_bad.cls yX11_bad yX11_bad, .initialized yX11_bad.cls]) (zW_is [(7, 29), (7, 31), (0, 46), (1, 12)] (by decide +kernel)) (zW_ir (7, 32) rfl rfl), by decide +kernel, by decide +kernel, by decide +kernel⟩
theorem lX11_185 : zLV RX11 185 yX11_clause cX11_clause 4 none 0 := ⟨zW_sn (l := [.methodLink RX11 185 yX11_clause, .instanceMethod yX11_clause, .selects yX11_clause.cls yX11_clause yX11_clause, .initialized yX11_clause.cls]) (zW_is [(7, 41), (7, 43), (0, 49), (1, 12)] (by decide +kernel)) (zW_ir (7, 44) rfl rfl), by decide +kernel, by decide +kernel, by decide +kernel⟩
theorem lX11_197 : zLV RX11 197 yX11_isRoad cX11_isRoad 2 (some .boolean) 1 := ⟨zW_sn (l := [.methodLink RX11 197 yX11_isRoad, .instanceMethod yX11_isRoad, .selects yX11_isRoad.cls yX11_isRoad yX11_isRoad, .initialized yX11_isRoad.cls]) (zW_is [(7, 103), (7, 105), (0, 59), (1, 12)] (by decide +kernel)) (zW_ir (7, 106) rfl rfl), by decide +kernel, by decide +kernel, by decide +kernel⟩
theorem lX11_200 : zLV RX11 200 yX11_isGoing cX11_isGoing 2 (some .boolean) 1 := ⟨zW_sn (l := [.methodLink RX11 200 yX11_isGoing, .instanceMethod yX11_isGoing, .selects yX11_isGoing.cls yX11_isGoing yX11_isGoing, .initialized yX11_isGoing.cls]) (zW_is [(7, 111), (7, 113), (0, 60), (1, 12)] (by decide +kernel)) (zW_ir (7, 114) rfl rfl), by decide +kernel, by decide +kernel, by decide +kernel⟩
theorem lX11_207 : zLV RX11 207 yX11_isOpen cX11_isOpen 3 (some .boolean) 2 := ⟨zW_sn (l := [.methodLink RX11 207 yX11_isOpen, .instanceMethod yX11_isOpen, .selects yX11_isOpen.cls yX11_isOpen yX11_isOpen, .initialized yX11_isOpen.cls]) (zW_is [(7, 132), (7, 134), (0, 64), (1, 12)] (by decide +kernel)) (zW_ir (7, 135) rfl rfl), by decide +kernel, by decide +kernel, by decide +kernel⟩
theorem lX11_211 : zLV RX11 211 yX11_minutesOf cX11_minutesOf 2 (some .int) 1 := ⟨zW_sn (l := [.methodLink RX11 211 yX11_minutesOf, .instanceMethod yX11_minutesOf, .selects yX11_minutesOf.cls yX11_minutesOf yX11_minutesOf, .initialized yX11_minutesOf.cls]) (zW_is [(7, 136), (7, 138), (0, 65), (1, 12)] (by decide +kernel)) (zW_ir (7, 139) rfl rfl), by decide +kernel, by decide +kernel, by decide +kernel⟩
theorem lX11_223 : zLV RX11 223 yX11_farEnd cX11_farEnd 3 (some .int) 2 := ⟨zW_sn (l := [.methodLink RX11 223 yX11_farEnd, .instanceMethod yX11_farEnd, .selects yX11_farEnd.cls yX11_farEnd yX11_farEnd, .initialized yX11_farEnd.cls]) (zW_is [(7, 140), (7, 142), (0, 66), (1, 12)] (by decide +kernel)) (zW_ir (7, 143) rfl rfl), by decide +kernel, by decide +kernel, by decide +kernel⟩
theorem lX11_252 : zLV RX11 252 yX11_areRoads cX11_areRoads 2 (some .boolean) 1 := ⟨zW_sn (l := [.methodLink RX11 252 yX11_areRoads, .instanceMethod yX11_areRoads, .selects yX11_areRoads.cls yX11_areRoads yX11_areRoads, .initialized yX11_areRoads.cls]) (zW_is [(7, 119), (7, 121), (0, 61), (1, 12)] (by decide +kernel)) (zW_ir (7, 122) rfl rfl), by decide +kernel, by decide +kernel, by decide +kernel⟩
theorem lX11_255 : zLV RX11 255 yX11_lays cX11_lays 2 none 0 := ⟨zW_sn (l := [.methodLink RX11 255 yX11_lays, .instanceMethod yX11_lays, .selects yX11_lays.cls yX11_lays yX11_lays, .initialized yX11_lays.cls]) (zW_is [(7, 123), (7, 125), (0, 62), (1, 12)] (by decide +kernel)) (zW_ir (7, 126) rfl rfl), by decide +kernel, by decide +kernel, by decide +kernel⟩
theorem lX11_258 : zLV RX11 258 yX11_findWay cX11_findWay 9 (some .boolean) 3 := ⟨zW_sn (l := [.methodLink RX11 258 yX11_findWay, .instanceMethod yX11_findWay, .selects yX11_findWay.cls yX11_findWay yX11_findWay, .initialized yX11_findWay.cls]) (zW_is [(7, 127), (7, 129), (0, 63), (1, 12)] (by decide +kernel)) (zW_ir (7, 130) rfl rfl), by decide +kernel, by decide +kernel, by decide +kernel⟩
theorem lX11_264 : zLV RX11 264 yX11_isOn cX11_isOn 3 (some .boolean) 1 := ⟨zW_sn (l := [.methodLink RX11 264 yX11_isOn, .instanceMethod yX11_isOn, .selects yX11_isOn.cls yX11_isOn yX11_isOn, .initialized yX11_isOn.cls]) (zW_is [(7, 160), (7, 162), (0, 69), (1, 12)] (by decide +kernel)) (zW_ir (7, 163) rfl rfl), by decide +kernel, by decide +kernel, by decide +kernel⟩
theorem lX11_267 : zLV RX11 267 yX11_allHave cX11_allHave 3 (some .boolean) 1 := ⟨zW_sn (l := [.methodLink RX11 267 yX11_allHave, .instanceMethod yX11_allHave, .selects yX11_allHave.cls yX11_allHave yX11_allHave, .initialized yX11_allHave.cls]) (zW_is [(7, 156), (7, 158), (0, 68), (1, 12)] (by decide +kernel)) (zW_ir (7, 159) rfl rfl), by decide +kernel, by decide +kernel, by decide +kernel⟩
theorem lX11_281 : zLV RX11 281 yX11_goesByLot cX11_goesByLot 2 (some .boolean) 1 := ⟨zW_sn (l := [.methodLink RX11 281 yX11_goesByLot, .instanceMethod yX11_goesByLot, .selects yX11_goesByLot.cls yX11_goesByLot yX11_goesByLot, .initialized yX11_goesByLot.cls]) (zW_is [(7, 172), (7, 174), (0, 71), (1, 12)] (by decide +kernel)) (zW_ir (7, 175) rfl rfl), by decide +kernel, by decide +kernel, by decide +kernel⟩
theorem lX11_286 : zLV RX11 286 yX11_isWet cX11_isWet 2 (some .boolean) 0 := ⟨zW_sn (l := [.methodLink RX11 286 yX11_isWet, .instanceMethod yX11_isWet, .selects yX11_isWet.cls yX11_isWet yX11_isWet, .initialized yX11_isWet.cls]) (zW_is [(7, 178), (7, 180), (0, 72), (1, 12)] (by decide +kernel)) (zW_ir (7, 181) rfl rfl), by decide +kernel, by decide +kernel, by decide +kernel⟩
theorem lX11_290 : zLV RX11 290 yX11_shutBy cX11_shutBy 5 (some .int) 1 := ⟨zW_sn (l := [.methodLink RX11 290 yX11_shutBy, .instanceMethod yX11_shutBy, .selects yX11_shutBy.cls yX11_shutBy yX11_shutBy, .initialized yX11_shutBy.cls]) (zW_is [(7, 152), (7, 154), (0, 67), (1, 12)] (by decide +kernel)) (zW_ir (7, 155) rfl rfl), by decide +kernel, by decide +kernel, by decide +kernel⟩
theorem lX11_293 : zLV RX11 293 yX11_goesBy cX11_goesBy 5 none 1 := ⟨zW_sn (l := [.methodLink RX11 293 yX11_goesBy, .instanceMethod yX11_goesBy, .selects yX11_goesBy.cls yX11_goesBy yX11_goesBy, .initialized yX11_goesBy.cls]) (zW_is [(7, 168), (7, 170), (0, 70), (1, 12)] (by decide +kernel)) (zW_ir (7, 171) rfl rfl), by decide +kernel, by decide +kernel, by decide +kernel⟩
theorem lX11_296 : zLV RX11 296 yX11_stands cX11_stands 2 none 0 := ⟨zW_sn (l := [.methodLink RX11 296 yX11_stands, .instanceMethod yX11_stands, .selects yX11_stands.cls yX11_stands yX11_stands, .initialized yX11_stands.cls]) (zW_is [(7, 182), (7, 184), (0, 73), (1, 12)] (by decide +kernel)) (zW_ir (7, 185) rfl rfl), by decide +kernel, by decide +kernel, by decide +kernel⟩
theorem lX11_299 : zLS RX11 299 yX11_areDays cX11_areDays 1 (some .boolean) 1 := ⟨zW_sn (l := [.methodLink RX11 299 yX11_areDays, .static yX11_areDays, .initialized yX11_areDays.cls]) (zW_is [(7, 194), (7, 195), (1, 12)] (by decide +kernel)) (zW_ir (7, 196) rfl rfl), by decide +kernel, by decide +kernel, by decide +kernel⟩
theorem lX11_302 : zLV RX11 302 yX11_isRule cX11_isRule 3 (some .boolean) 2 := ⟨zW_sn (l := [.methodLink RX11 302 yX11_isRule, .instanceMethod yX11_isRule, .selects yX11_isRule.cls yX11_isRule yX11_isRule, .initialized yX11_isRule.cls]) (zW_is [(7, 190), (7, 192), (0, 74), (1, 12)] (by decide +kernel)) (zW_ir (7, 193) rfl rfl), by decide +kernel, by decide +kernel, by decide +kernel⟩
theorem lX11_305 : zLV RX11 305 yX11_goes cX11_goes 4 none 2 := ⟨zW_sn (l := [.methodLink RX11 305 yX11_goes, .instanceMethod yX11_goes, .selects yX11_goes.cls yX11_goes yX11_goes, .initialized yX11_goes.cls]) (zW_is [(7, 197), (7, 199), (0, 75), (1, 12)] (by decide +kernel)) (zW_ir (7, 200) rfl rfl), by decide +kernel, by decide +kernel, by decide +kernel⟩
theorem lX11_308 : zLV RX11 308 yX11_pastUse cX11_pastUse 2 (some .int) 0 := ⟨zW_sn (l := [.methodLink RX11 308 yX11_pastUse, .instanceMethod yX11_pastUse, .selects yX11_pastUse.cls yX11_pastUse yX11_pastUse, .initialized yX11_pastUse.cls]) (zW_is [(7, 217), (7, 219), (0, 76), (1, 12)] (by decide +kernel)) (zW_ir (7, 220) rfl rfl), by decide +kernel, by decide +kernel, by decide +kernel⟩
theorem lX11_324 : zLV RX11 324 yX11_keeps cX11_keeps 3 none 1 := ⟨zW_sn (l := [.methodLink RX11 324 yX11_keeps, .instanceMethod yX11_keeps, .selects yX11_keeps.cls yX11_keeps yX11_keeps, .initialized yX11_keeps.cls]) (zW_is [(7, 233), (7, 235), (0, 78), (1, 12)] (by decide +kernel)) (zW_ir (7, 236) rfl rfl), by decide +kernel, by decide +kernel, by decide +kernel⟩
theorem lX11_327 : zLV RX11 327 yX11_findRound cX11_findRound 3 none 0 := ⟨zW_sn (l := [.methodLink RX11 327 yX11_findRound, .instanceMethod yX11_findRound, .selects yX11_findRound.cls yX11_findRound yX11_findRound, .initialized yX11_findRound.cls]) (zW_is [(7, 229), (7, 231), (0, 77), (1, 12)] (by decide +kernel)) (zW_ir (7, 232) rfl rfl), by decide +kernel, by decide +kernel, by decide +kernel⟩
theorem lX11_336 : zLV RX11 336 yX11_tries cX11_tries 8 none 2 := ⟨zW_sn (l := [.methodLink RX11 336 yX11_tries, .instanceMethod yX11_tries, .selects yX11_tries.cls yX11_tries yX11_tries, .initialized yX11_tries.cls]) (zW_is [(8, 16), (8, 18), (0, 80), (1, 12)] (by decide +kernel)) (zW_ir (8, 19) rfl rfl), by decide +kernel, by decide +kernel, by decide +kernel⟩
theorem lX11_341 : zLV RX11 341 yX11_findBest cX11_findBest 2 none 1 := ⟨zW_sn (l := [.methodLink RX11 341 yX11_findBest, .instanceMethod yX11_findBest, .selects yX11_findBest.cls yX11_findBest yX11_findBest, .initialized yX11_findBest.cls]) (zW_is [(8, 11), (8, 13), (0, 79), (1, 12)] (by decide +kernel)) (zW_ir (8, 14) rfl rfl), by decide +kernel, by decide +kernel, by decide +kernel⟩
theorem lX11_344 : zLV RX11 344 yX11_openCost cX11_openCost 2 (some .long) 1 := ⟨zW_sn (l := [.methodLink RX11 344 yX11_openCost, .instanceMethod yX11_openCost, .selects yX11_openCost.cls yX11_openCost yX11_openCost, .initialized yX11_openCost.cls]) (zW_is [(8, 24), (8, 26), (0, 81), (1, 12)] (by decide +kernel)) (zW_ir (8, 27) rfl rfl), by decide +kernel, by decide +kernel, by decide +kernel⟩
theorem lX11_348 : zLV RX11 348 yX11_tollCost cX11_tollCost 5 (some .long) 2 := ⟨zW_sn (l := [.methodLink RX11 348 yX11_tollCost, .instanceMethod yX11_tollCost, .selects yX11_tollCost.cls yX11_tollCost yX11_tollCost, .initialized yX11_tollCost.cls]) (zW_is [(8, 32), (8, 34), (0, 82), (1, 12)] (by decide +kernel)) (zW_ir (8, 35) rfl rfl), by decide +kernel, by decide +kernel, by decide +kernel⟩
theorem lX11_352 : zLV RX11 352 yX11_othersCost cX11_othersCost 4 (some .long) 3 := ⟨zW_sn (l := [.methodLink RX11 352 yX11_othersCost, .instanceMethod yX11_othersCost, .selects yX11_othersCost.cls yX11_othersCost yX11_othersCost, .initialized yX11_othersCost.cls]) (zW_is [(8, 44), (8, 46), (0, 83), (1, 12)] (by decide +kernel)) (zW_ir (8, 47) rfl rfl), by decide +kernel, by decide +kernel, by decide +kernel⟩
theorem lX11_356 : zLV RX11 356 yX11_heldCost cX11_heldCost 6 (some .long) 3 := ⟨zW_sn (l := [.methodLink RX11 356 yX11_heldCost, .instanceMethod yX11_heldCost, .selects yX11_heldCost.cls yX11_heldCost yX11_heldCost, .initialized yX11_heldCost.cls]) (zW_is [(8, 56), (8, 58), (0, 84), (1, 12)] (by decide +kernel)) (zW_ir (8, 59) rfl rfl), by decide +kernel, by decide +kernel, by decide +kernel⟩
theorem lX11_359 : zLV RX11 359 yX11_moreCost cX11_moreCost 4 (some .long) 2 := ⟨zW_sn (l := [.methodLink RX11 359 yX11_moreCost, .instanceMethod yX11_moreCost, .selects yX11_moreCost.cls yX11_moreCost yX11_moreCost, .initialized yX11_moreCost.cls]) (zW_is [(8, 68), (8, 70), (0, 85), (1, 12)] (by decide +kernel)) (zW_ir (8, 71) rfl rfl), by decide +kernel, by decide +kernel, by decide +kernel⟩
theorem lX11_362 : zLV RX11 362 yX11_menCost cX11_menCost 3 (some .long) 2 := ⟨zW_sn (l := [.methodLink RX11 362 yX11_menCost, .instanceMethod yX11_menCost, .selects yX11_menCost.cls yX11_menCost yX11_menCost, .initialized yX11_menCost.cls]) (zW_is [(8, 80), (8, 82), (0, 86), (1, 12)] (by decide +kernel)) (zW_ir (8, 83) rfl rfl), by decide +kernel, by decide +kernel, by decide +kernel⟩
theorem lX11_365 : zLV RX11 365 yX11_lawCost cX11_lawCost 4 (some .long) 2 := ⟨zW_sn (l := [.methodLink RX11 365 yX11_lawCost, .instanceMethod yX11_lawCost, .selects yX11_lawCost.cls yX11_lawCost yX11_lawCost, .initialized yX11_lawCost.cls]) (zW_is [(8, 92), (8, 94), (0, 87), (1, 12)] (by decide +kernel)) (zW_ir (8, 95) rfl rfl), by decide +kernel, by decide +kernel, by decide +kernel⟩
theorem lX11_373 : zLV RX11 373 yX11_moves cX11_moves 4 (some .int) 3 := ⟨zW_sn (l := [.methodLink RX11 373 yX11_moves, .instanceMethod yX11_moves, .selects yX11_moves.cls yX11_moves yX11_moves, .initialized yX11_moves.cls]) (zW_is [(8, 117), (8, 119), (0, 89), (1, 12)] (by decide +kernel)) (zW_ir (8, 120) rfl rfl), by decide +kernel, by decide +kernel, by decide +kernel⟩
theorem lX11_377 : zLV RX11 377 yX11_movesAll cX11_movesAll 4 none 2 := ⟨zW_sn (l := [.methodLink RX11 377 yX11_movesAll, .instanceMethod yX11_movesAll, .selects yX11_movesAll.cls yX11_movesAll yX11_movesAll, .initialized yX11_movesAll.cls]) (zW_is [(8, 113), (8, 115), (0, 88), (1, 12)] (by decide +kernel)) (zW_ir (8, 116) rfl rfl), by decide +kernel, by decide +kernel, by decide +kernel⟩
theorem kX11_137 : Cond.constant RX11 137 (100000) ∈ zW := zW_ix (7, 74) (by decide +kernel)
theorem kX11_203 : Cond.constant RX11 203 (1000000000) ∈ zW := zW_ix (7, 131) (by decide +kernel)
theorem kX11_273 : Cond.constant RX11 273 (1103515245) ∈ zW := zW_ix (7, 176) (by decide +kernel)
theorem kX11_284 : Cond.constantLong RX11 284 (1000) ∈ zW := zW_ix (7, 177) (by decide +kernel)
theorem kX11_311 : Cond.constantLong RX11 311 (100) ∈ zW := zW_ix (7, 237) (by decide +kernel)
theorem kX11_313 : Cond.constantLong RX11 313 (12) ∈ zW := zW_ix (7, 238) (by decide +kernel)
theorem kX11_339 : Cond.constantLong RX11 339 (1000000000000) ∈ zW := zW_ix (8, 15) (by decide +kernel)
theorem kX11_368 : Cond.constantLong RX11 368 (3) ∈ zW := zW_ix (8, 104) (by decide +kernel)
