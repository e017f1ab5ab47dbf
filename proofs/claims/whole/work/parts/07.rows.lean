theorem zz_iadd {E : zE} {b : Nat} {G : zG} {own : String} {cc : ByteArray} {nL : Nat} {rt : Option FieldType} {cells slots pc : Nat} {t : zT} {h : zH} {ls : List (Option Value)} {st : List Value} (C : zCx E b G own cc nL rt) {x y : Int32} (hd : decode cc pc = .ok (.iadd, 1))  (kk : zAW E b G nL cells slots (pc + 1) ls (.int (x + y) :: st) t h) : zAW E b G nL cells slots pc ls (.int y :: .int x :: st) t h := by
  obtain ⟨p, l, e, R, s, m, args, below, meth, c, Q⟩ := G
  intro H locs la hH hS hl
  exact lv_iadd C.1 C.2.1 hd  (kk H locs la hH hS hl)
theorem zz_isub {E : zE} {b : Nat} {G : zG} {own : String} {cc : ByteArray} {nL : Nat} {rt : Option FieldType} {cells slots pc : Nat} {t : zT} {h : zH} {ls : List (Option Value)} {st : List Value} (C : zCx E b G own cc nL rt) {x y : Int32} (hd : decode cc pc = .ok (.isub, 1))  (kk : zAW E b G nL cells slots (pc + 1) ls (.int (x - y) :: st) t h) : zAW E b G nL cells slots pc ls (.int y :: .int x :: st) t h := by
  obtain ⟨p, l, e, R, s, m, args, below, meth, c, Q⟩ := G
  intro H locs la hH hS hl
  exact lv_isub C.1 C.2.1 hd  (kk H locs la hH hS hl)
theorem zz_imul {E : zE} {b : Nat} {G : zG} {own : String} {cc : ByteArray} {nL : Nat} {rt : Option FieldType} {cells slots pc : Nat} {t : zT} {h : zH} {ls : List (Option Value)} {st : List Value} (C : zCx E b G own cc nL rt) {x y : Int32} (hd : decode cc pc = .ok (.imul, 1))  (kk : zAW E b G nL cells slots (pc + 1) ls (.int (x * y) :: st) t h) : zAW E b G nL cells slots pc ls (.int y :: .int x :: st) t h := by
  obtain ⟨p, l, e, R, s, m, args, below, meth, c, Q⟩ := G
  intro H locs la hH hS hl
  exact lv_imul C.1 C.2.1 hd  (kk H locs la hH hS hl)
theorem zz_iand {E : zE} {b : Nat} {G : zG} {own : String} {cc : ByteArray} {nL : Nat} {rt : Option FieldType} {cells slots pc : Nat} {t : zT} {h : zH} {ls : List (Option Value)} {st : List Value} (C : zCx E b G own cc nL rt) {x y : Int32} (hd : decode cc pc = .ok (.iand, 1))  (kk : zAW E b G nL cells slots (pc + 1) ls (.int (x &&& y) :: st) t h) : zAW E b G nL cells slots pc ls (.int y :: .int x :: st) t h := by
  obtain ⟨p, l, e, R, s, m, args, below, meth, c, Q⟩ := G
  intro H locs la hH hS hl
  exact lv_iand C.1 C.2.1 hd  (kk H locs la hH hS hl)
theorem zz_ior {E : zE} {b : Nat} {G : zG} {own : String} {cc : ByteArray} {nL : Nat} {rt : Option FieldType} {cells slots pc : Nat} {t : zT} {h : zH} {ls : List (Option Value)} {st : List Value} (C : zCx E b G own cc nL rt) {x y : Int32} (hd : decode cc pc = .ok (.ior, 1))  (kk : zAW E b G nL cells slots (pc + 1) ls (.int (x ||| y) :: st) t h) : zAW E b G nL cells slots pc ls (.int y :: .int x :: st) t h := by
  obtain ⟨p, l, e, R, s, m, args, below, meth, c, Q⟩ := G
  intro H locs la hH hS hl
  exact lv_ior C.1 C.2.1 hd  (kk H locs la hH hS hl)
theorem zz_ixor {E : zE} {b : Nat} {G : zG} {own : String} {cc : ByteArray} {nL : Nat} {rt : Option FieldType} {cells slots pc : Nat} {t : zT} {h : zH} {ls : List (Option Value)} {st : List Value} (C : zCx E b G own cc nL rt) {x y : Int32} (hd : decode cc pc = .ok (.ixor, 1))  (kk : zAW E b G nL cells slots (pc + 1) ls (.int (x ^^^ y) :: st) t h) : zAW E b G nL cells slots pc ls (.int y :: .int x :: st) t h := by
  obtain ⟨p, l, e, R, s, m, args, below, meth, c, Q⟩ := G
  intro H locs la hH hS hl
  exact lv_ixor C.1 C.2.1 hd  (kk H locs la hH hS hl)
theorem zz_ladd {E : zE} {b : Nat} {G : zG} {own : String} {cc : ByteArray} {nL : Nat} {rt : Option FieldType} {cells slots pc : Nat} {t : zT} {h : zH} {ls : List (Option Value)} {st : List Value} (C : zCx E b G own cc nL rt) {x y : Int64} (hd : decode cc pc = .ok (.ladd, 1))  (kk : zAW E b G nL cells slots (pc + 1) ls (.long (x + y) :: st) t h) : zAW E b G nL cells slots pc ls (.long y :: .long x :: st) t h := by
  obtain ⟨p, l, e, R, s, m, args, below, meth, c, Q⟩ := G
  intro H locs la hH hS hl
  exact lv_ladd C.1 C.2.1 hd  (kk H locs la hH hS hl)
theorem zz_lsub {E : zE} {b : Nat} {G : zG} {own : String} {cc : ByteArray} {nL : Nat} {rt : Option FieldType} {cells slots pc : Nat} {t : zT} {h : zH} {ls : List (Option Value)} {st : List Value} (C : zCx E b G own cc nL rt) {x y : Int64} (hd : decode cc pc = .ok (.lsub, 1))  (kk : zAW E b G nL cells slots (pc + 1) ls (.long (x - y) :: st) t h) : zAW E b G nL cells slots pc ls (.long y :: .long x :: st) t h := by
  obtain ⟨p, l, e, R, s, m, args, below, meth, c, Q⟩ := G
  intro H locs la hH hS hl
  exact lv_lsub C.1 C.2.1 hd  (kk H locs la hH hS hl)
theorem zz_lmul {E : zE} {b : Nat} {G : zG} {own : String} {cc : ByteArray} {nL : Nat} {rt : Option FieldType} {cells slots pc : Nat} {t : zT} {h : zH} {ls : List (Option Value)} {st : List Value} (C : zCx E b G own cc nL rt) {x y : Int64} (hd : decode cc pc = .ok (.lmul, 1))  (kk : zAW E b G nL cells slots (pc + 1) ls (.long (x * y) :: st) t h) : zAW E b G nL cells slots pc ls (.long y :: .long x :: st) t h := by
  obtain ⟨p, l, e, R, s, m, args, below, meth, c, Q⟩ := G
  intro H locs la hH hS hl
  exact lv_lmul C.1 C.2.1 hd  (kk H locs la hH hS hl)
theorem zz_land {E : zE} {b : Nat} {G : zG} {own : String} {cc : ByteArray} {nL : Nat} {rt : Option FieldType} {cells slots pc : Nat} {t : zT} {h : zH} {ls : List (Option Value)} {st : List Value} (C : zCx E b G own cc nL rt) {x y : Int64} (hd : decode cc pc = .ok (.land, 1))  (kk : zAW E b G nL cells slots (pc + 1) ls (.long (x &&& y) :: st) t h) : zAW E b G nL cells slots pc ls (.long y :: .long x :: st) t h := by
  obtain ⟨p, l, e, R, s, m, args, below, meth, c, Q⟩ := G
  intro H locs la hH hS hl
  exact lv_land C.1 C.2.1 hd  (kk H locs la hH hS hl)
theorem zz_lor {E : zE} {b : Nat} {G : zG} {own : String} {cc : ByteArray} {nL : Nat} {rt : Option FieldType} {cells slots pc : Nat} {t : zT} {h : zH} {ls : List (Option Value)} {st : List Value} (C : zCx E b G own cc nL rt) {x y : Int64} (hd : decode cc pc = .ok (.lor, 1))  (kk : zAW E b G nL cells slots (pc + 1) ls (.long (x ||| y) :: st) t h) : zAW E b G nL cells slots pc ls (.long y :: .long x :: st) t h := by
  obtain ⟨p, l, e, R, s, m, args, below, meth, c, Q⟩ := G
  intro H locs la hH hS hl
  exact lv_lor C.1 C.2.1 hd  (kk H locs la hH hS hl)
theorem zz_idiv {E : zE} {b : Nat} {G : zG} {own : String} {cc : ByteArray} {nL : Nat} {rt : Option FieldType} {cells slots pc : Nat} {t : zT} {h : zH} {ls : List (Option Value)} {st : List Value} (C : zCx E b G own cc nL rt) {x y : Int32} (hd : decode cc pc = .ok (.idiv, 1)) (hne : ¬ y = 0) (kk : zAW E b G nL cells slots (pc + 1) ls (.int (x / y) :: st) t h) : zAW E b G nL cells slots pc ls (.int y :: .int x :: st) t h := by
  obtain ⟨p, l, e, R, s, m, args, below, meth, c, Q⟩ := G
  intro H locs la hH hS hl
  exact lv_idiv C.1 C.2.1 hd hne (kk H locs la hH hS hl)
theorem zz_irem {E : zE} {b : Nat} {G : zG} {own : String} {cc : ByteArray} {nL : Nat} {rt : Option FieldType} {cells slots pc : Nat} {t : zT} {h : zH} {ls : List (Option Value)} {st : List Value} (C : zCx E b G own cc nL rt) {x y : Int32} (hd : decode cc pc = .ok (.irem, 1)) (hne : ¬ y = 0) (kk : zAW E b G nL cells slots (pc + 1) ls (.int (x - x / y * y) :: st) t h) : zAW E b G nL cells slots pc ls (.int y :: .int x :: st) t h := by
  obtain ⟨p, l, e, R, s, m, args, below, meth, c, Q⟩ := G
  intro H locs la hH hS hl
  exact lv_irem C.1 C.2.1 hd hne (kk H locs la hH hS hl)
theorem zz_ldiv {E : zE} {b : Nat} {G : zG} {own : String} {cc : ByteArray} {nL : Nat} {rt : Option FieldType} {cells slots pc : Nat} {t : zT} {h : zH} {ls : List (Option Value)} {st : List Value} (C : zCx E b G own cc nL rt) {x y : Int64} (hd : decode cc pc = .ok (.ldiv, 1)) (hne : ¬ y = 0) (kk : zAW E b G nL cells slots (pc + 1) ls (.long (x / y) :: st) t h) : zAW E b G nL cells slots pc ls (.long y :: .long x :: st) t h := by
  obtain ⟨p, l, e, R, s, m, args, below, meth, c, Q⟩ := G
  intro H locs la hH hS hl
  exact lv_ldiv C.1 C.2.1 hd hne (kk H locs la hH hS hl)
theorem zz_lrem {E : zE} {b : Nat} {G : zG} {own : String} {cc : ByteArray} {nL : Nat} {rt : Option FieldType} {cells slots pc : Nat} {t : zT} {h : zH} {ls : List (Option Value)} {st : List Value} (C : zCx E b G own cc nL rt) {x y : Int64} (hd : decode cc pc = .ok (.lrem, 1)) (hne : ¬ y = 0) (kk : zAW E b G nL cells slots (pc + 1) ls (.long (x - x / y * y) :: st) t h) : zAW E b G nL cells slots pc ls (.long y :: .long x :: st) t h := by
  obtain ⟨p, l, e, R, s, m, args, below, meth, c, Q⟩ := G
  intro H locs la hH hS hl
  exact lv_lrem C.1 C.2.1 hd hne (kk H locs la hH hS hl)
theorem zz_ishl {E : zE} {b : Nat} {G : zG} {own : String} {cc : ByteArray} {nL : Nat} {rt : Option FieldType} {cells slots pc : Nat} {t : zT} {h : zH} {ls : List (Option Value)} {st : List Value} (C : zCx E b G own cc nL rt) {x y : Int32} (hd : decode cc pc = .ok (.ishl, 1))  (kk : zAW E b G nL cells slots (pc + 1) ls (.int (x <<< (y &&& 31)) :: st) t h) : zAW E b G nL cells slots pc ls (.int y :: .int x :: st) t h := by
  obtain ⟨p, l, e, R, s, m, args, below, meth, c, Q⟩ := G
  intro H locs la hH hS hl
  exact lv_ishl C.1 C.2.1 hd  (kk H locs la hH hS hl)
theorem zz_ishr {E : zE} {b : Nat} {G : zG} {own : String} {cc : ByteArray} {nL : Nat} {rt : Option FieldType} {cells slots pc : Nat} {t : zT} {h : zH} {ls : List (Option Value)} {st : List Value} (C : zCx E b G own cc nL rt) {x y : Int32} (hd : decode cc pc = .ok (.ishr, 1))  (kk : zAW E b G nL cells slots (pc + 1) ls (.int (x >>> (y &&& 31)) :: st) t h) : zAW E b G nL cells slots pc ls (.int y :: .int x :: st) t h := by
  obtain ⟨p, l, e, R, s, m, args, below, meth, c, Q⟩ := G
  intro H locs la hH hS hl
  exact lv_ishr C.1 C.2.1 hd  (kk H locs la hH hS hl)
theorem zz_iushr {E : zE} {b : Nat} {G : zG} {own : String} {cc : ByteArray} {nL : Nat} {rt : Option FieldType} {cells slots pc : Nat} {t : zT} {h : zH} {ls : List (Option Value)} {st : List Value} (C : zCx E b G own cc nL rt) {x y : Int32} (hd : decode cc pc = .ok (.iushr, 1))  (kk : zAW E b G nL cells slots (pc + 1) ls (.int ((x.toUInt32 >>> (y.toUInt32 &&& Int32.toUInt32 31)).toInt32) :: st) t h) : zAW E b G nL cells slots pc ls (.int y :: .int x :: st) t h := by
  obtain ⟨p, l, e, R, s, m, args, below, meth, c, Q⟩ := G
  intro H locs la hH hS hl
  exact lv_iushr C.1 C.2.1 hd rfl (kk H locs la hH hS hl)
theorem zz_lshl {E : zE} {b : Nat} {G : zG} {own : String} {cc : ByteArray} {nL : Nat} {rt : Option FieldType} {cells slots pc : Nat} {t : zT} {h : zH} {ls : List (Option Value)} {st : List Value} (C : zCx E b G own cc nL rt) {x : Int64} {y : Int32} (hd : decode cc pc = .ok (.lshl, 1))  (kk : zAW E b G nL cells slots (pc + 1) ls (.long (x <<< (y.toInt64 &&& 63)) :: st) t h) : zAW E b G nL cells slots pc ls (.int y :: .long x :: st) t h := by
  obtain ⟨p, l, e, R, s, m, args, below, meth, c, Q⟩ := G
  intro H locs la hH hS hl
  exact lv_lshl C.1 C.2.1 hd rfl (kk H locs la hH hS hl)
theorem zz_i2l {E : zE} {b : Nat} {G : zG} {own : String} {cc : ByteArray} {nL : Nat} {rt : Option FieldType} {cells slots pc : Nat} {t : zT} {h : zH} {ls : List (Option Value)} {st : List Value} (C : zCx E b G own cc nL rt) {x : Int32} (hd : decode cc pc = .ok (.i2l, 1))  (kk : zAW E b G nL cells slots (pc + 1) ls (.long x.toInt64 :: st) t h) : zAW E b G nL cells slots pc ls (.int x :: st) t h := by
  obtain ⟨p, l, e, R, s, m, args, below, meth, c, Q⟩ := G
  intro H locs la hH hS hl
  exact lv_i2l C.1 C.2.1 hd rfl (kk H locs la hH hS hl)
theorem zz_l2i {E : zE} {b : Nat} {G : zG} {own : String} {cc : ByteArray} {nL : Nat} {rt : Option FieldType} {cells slots pc : Nat} {t : zT} {h : zH} {ls : List (Option Value)} {st : List Value} (C : zCx E b G own cc nL rt) {x : Int64} (hd : decode cc pc = .ok (.l2i, 1))  (kk : zAW E b G nL cells slots (pc + 1) ls (.int x.toInt32 :: st) t h) : zAW E b G nL cells slots pc ls (.long x :: st) t h := by
  obtain ⟨p, l, e, R, s, m, args, below, meth, c, Q⟩ := G
  intro H locs la hH hS hl
  exact lv_l2i C.1 C.2.1 hd rfl (kk H locs la hH hS hl)
theorem zz_lcmp {E : zE} {b : Nat} {G : zG} {own : String} {cc : ByteArray} {nL : Nat} {rt : Option FieldType} {cells slots pc : Nat} {t : zT} {h : zH} {ls : List (Option Value)} {st : List Value} (C : zCx E b G own cc nL rt) {x y : Int64} (hd : decode cc pc = .ok (.lcmp, 1))  (kk : zAW E b G nL cells slots (pc + 1) ls (.int (lg_cmp x y) :: st) t h) : zAW E b G nL cells slots pc ls (.long y :: .long x :: st) t h := by
  obtain ⟨p, l, e, R, s, m, args, below, meth, c, Q⟩ := G
  intro H locs la hH hS hl
  exact W.lcmp C.1 C.2.1 hd  (kk H locs la hH hS hl)
theorem zz_iconst_m1 {E : zE} {b : Nat} {G : zG} {own : String} {cc : ByteArray} {nL : Nat} {rt : Option FieldType} {cells slots pc : Nat} {t : zT} {h : zH} {ls : List (Option Value)} {st : List Value} (C : zCx E b G own cc nL rt)  (hd : decode cc pc = .ok (.iconst (-1), 1))  (kk : zAW E b G nL cells slots (pc + 1) ls (.int (-1) :: st) t h) : zAW E b G nL cells slots pc ls (st) t h := by
  obtain ⟨p, l, e, R, s, m, args, below, meth, c, Q⟩ := G
  intro H locs la hH hS hl
  exact lv_iconst C.1 C.2.1 hd (by decide) (kk H locs la hH hS hl)
theorem zz_iconst_0 {E : zE} {b : Nat} {G : zG} {own : String} {cc : ByteArray} {nL : Nat} {rt : Option FieldType} {cells slots pc : Nat} {t : zT} {h : zH} {ls : List (Option Value)} {st : List Value} (C : zCx E b G own cc nL rt)  (hd : decode cc pc = .ok (.iconst 0, 1))  (kk : zAW E b G nL cells slots (pc + 1) ls (.int 0 :: st) t h) : zAW E b G nL cells slots pc ls (st) t h := by
  obtain ⟨p, l, e, R, s, m, args, below, meth, c, Q⟩ := G
  intro H locs la hH hS hl
  exact lv_iconst C.1 C.2.1 hd (by decide) (kk H locs la hH hS hl)
theorem zz_iconst_1 {E : zE} {b : Nat} {G : zG} {own : String} {cc : ByteArray} {nL : Nat} {rt : Option FieldType} {cells slots pc : Nat} {t : zT} {h : zH} {ls : List (Option Value)} {st : List Value} (C : zCx E b G own cc nL rt)  (hd : decode cc pc = .ok (.iconst 1, 1))  (kk : zAW E b G nL cells slots (pc + 1) ls (.int 1 :: st) t h) : zAW E b G nL cells slots pc ls (st) t h := by
  obtain ⟨p, l, e, R, s, m, args, below, meth, c, Q⟩ := G
  intro H locs la hH hS hl
  exact lv_iconst C.1 C.2.1 hd (by decide) (kk H locs la hH hS hl)
theorem zz_iconst_2 {E : zE} {b : Nat} {G : zG} {own : String} {cc : ByteArray} {nL : Nat} {rt : Option FieldType} {cells slots pc : Nat} {t : zT} {h : zH} {ls : List (Option Value)} {st : List Value} (C : zCx E b G own cc nL rt)  (hd : decode cc pc = .ok (.iconst 2, 1))  (kk : zAW E b G nL cells slots (pc + 1) ls (.int 2 :: st) t h) : zAW E b G nL cells slots pc ls (st) t h := by
  obtain ⟨p, l, e, R, s, m, args, below, meth, c, Q⟩ := G
  intro H locs la hH hS hl
  exact lv_iconst C.1 C.2.1 hd (by decide) (kk H locs la hH hS hl)
theorem zz_iconst_3 {E : zE} {b : Nat} {G : zG} {own : String} {cc : ByteArray} {nL : Nat} {rt : Option FieldType} {cells slots pc : Nat} {t : zT} {h : zH} {ls : List (Option Value)} {st : List Value} (C : zCx E b G own cc nL rt)  (hd : decode cc pc = .ok (.iconst 3, 1))  (kk : zAW E b G nL cells slots (pc + 1) ls (.int 3 :: st) t h) : zAW E b G nL cells slots pc ls (st) t h := by
  obtain ⟨p, l, e, R, s, m, args, below, meth, c, Q⟩ := G
  intro H locs la hH hS hl
  exact lv_iconst C.1 C.2.1 hd (by decide) (kk H locs la hH hS hl)
theorem zz_iconst_4 {E : zE} {b : Nat} {G : zG} {own : String} {cc : ByteArray} {nL : Nat} {rt : Option FieldType} {cells slots pc : Nat} {t : zT} {h : zH} {ls : List (Option Value)} {st : List Value} (C : zCx E b G own cc nL rt)  (hd : decode cc pc = .ok (.iconst 4, 1))  (kk : zAW E b G nL cells slots (pc + 1) ls (.int 4 :: st) t h) : zAW E b G nL cells slots pc ls (st) t h := by
  obtain ⟨p, l, e, R, s, m, args, below, meth, c, Q⟩ := G
  intro H locs la hH hS hl
  exact lv_iconst C.1 C.2.1 hd (by decide) (kk H locs la hH hS hl)
theorem zz_iconst_5 {E : zE} {b : Nat} {G : zG} {own : String} {cc : ByteArray} {nL : Nat} {rt : Option FieldType} {cells slots pc : Nat} {t : zT} {h : zH} {ls : List (Option Value)} {st : List Value} (C : zCx E b G own cc nL rt)  (hd : decode cc pc = .ok (.iconst 5, 1))  (kk : zAW E b G nL cells slots (pc + 1) ls (.int 5 :: st) t h) : zAW E b G nL cells slots pc ls (st) t h := by
  obtain ⟨p, l, e, R, s, m, args, below, meth, c, Q⟩ := G
  intro H locs la hH hS hl
  exact lv_iconst C.1 C.2.1 hd (by decide) (kk H locs la hH hS hl)
theorem zz_lconst_0 {E : zE} {b : Nat} {G : zG} {own : String} {cc : ByteArray} {nL : Nat} {rt : Option FieldType} {cells slots pc : Nat} {t : zT} {h : zH} {ls : List (Option Value)} {st : List Value} (C : zCx E b G own cc nL rt)  (hd : decode cc pc = .ok (.lconst 0, 1))  (kk : zAW E b G nL cells slots (pc + 1) ls (.long 0 :: st) t h) : zAW E b G nL cells slots pc ls (st) t h := by
  obtain ⟨p, l, e, R, s, m, args, below, meth, c, Q⟩ := G
  intro H locs la hH hS hl
  exact lv_lconst C.1 C.2.1 hd (by decide) (kk H locs la hH hS hl)
theorem zz_lconst_1 {E : zE} {b : Nat} {G : zG} {own : String} {cc : ByteArray} {nL : Nat} {rt : Option FieldType} {cells slots pc : Nat} {t : zT} {h : zH} {ls : List (Option Value)} {st : List Value} (C : zCx E b G own cc nL rt)  (hd : decode cc pc = .ok (.lconst 1, 1))  (kk : zAW E b G nL cells slots (pc + 1) ls (.long 1 :: st) t h) : zAW E b G nL cells slots pc ls (st) t h := by
  obtain ⟨p, l, e, R, s, m, args, below, meth, c, Q⟩ := G
  intro H locs la hH hS hl
  exact lv_lconst C.1 C.2.1 hd (by decide) (kk H locs la hH hS hl)
theorem zz_bipush {E : zE} {b : Nat} {G : zG} {own : String} {cc : ByteArray} {nL : Nat} {rt : Option FieldType} {cells slots pc : Nat} {t : zT} {h : zH} {ls : List (Option Value)} {st : List Value} (C : zCx E b G own cc nL rt) {n : Int} (v : Int32) (hd : decode cc pc = .ok (.bipush n, 2)) (hv : (Int8.ofInt n).toInt32 = v) (kk : zAW E b G nL cells slots (pc + 2) ls (.int v :: st) t h) : zAW E b G nL cells slots pc ls (st) t h := by
  obtain ⟨p, l, e, R, s, m, args, below, meth, c, Q⟩ := G
  intro H locs la hH hS hl
  exact lv_bipush C.1 C.2.1 hd hv (kk H locs la hH hS hl)
theorem zz_sipush {E : zE} {b : Nat} {G : zG} {own : String} {cc : ByteArray} {nL : Nat} {rt : Option FieldType} {cells slots pc : Nat} {t : zT} {h : zH} {ls : List (Option Value)} {st : List Value} (C : zCx E b G own cc nL rt) {n : Int} (v : Int32) (hd : decode cc pc = .ok (.sipush n, 3)) (hv : (Int16.ofInt n).toInt32 = v) (kk : zAW E b G nL cells slots (pc + 3) ls (.int v :: st) t h) : zAW E b G nL cells slots pc ls (st) t h := by
  obtain ⟨p, l, e, R, s, m, args, below, meth, c, Q⟩ := G
  intro H locs la hH hS hl
  exact lv_sipush C.1 C.2.1 hd hv (kk H locs la hH hS hl)
theorem zz_ldc {E : zE} {b : Nat} {G : zG} {own : String} {cc : ByteArray} {nL : Nat} {rt : Option FieldType} {cells slots pc : Nat} {t : zT} {h : zH} {ls : List (Option Value)} {st : List Value} (C : zCx E b G own cc nL rt) {i : Nat} {v : Int32} (hd : decode cc pc = .ok (.ldc i, 2)) (hw : Cond.constant own i v ∈ zW) (kk : zAW E b G nL cells slots (pc + 2) ls (.int v :: st) t h) : zAW E b G nL cells slots pc ls (st) t h := by
  obtain ⟨p, l, e, R, s, m, args, below, meth, c, Q⟩ := G
  intro H locs la hH hS hl
  exact lv_ldc C.1 C.2.1 C.2.2.2.1 (C.2.2.2.2.1 _ hw) hd (kk H locs la hH hS hl)
theorem zz_ldc_w {E : zE} {b : Nat} {G : zG} {own : String} {cc : ByteArray} {nL : Nat} {rt : Option FieldType} {cells slots pc : Nat} {t : zT} {h : zH} {ls : List (Option Value)} {st : List Value} (C : zCx E b G own cc nL rt) {i : Nat} {v : Int32} (hd : decode cc pc = .ok (.ldc_w i, 3)) (hw : Cond.constant own i v ∈ zW) (kk : zAW E b G nL cells slots (pc + 3) ls (.int v :: st) t h) : zAW E b G nL cells slots pc ls (st) t h := by
  obtain ⟨p, l, e, R, s, m, args, below, meth, c, Q⟩ := G
  intro H locs la hH hS hl
  exact lv_ldcw C.1 C.2.1 C.2.2.2.1 (C.2.2.2.2.1 _ hw) hd (kk H locs la hH hS hl)
theorem zz_ldc2 {E : zE} {b : Nat} {G : zG} {own : String} {cc : ByteArray} {nL : Nat} {rt : Option FieldType} {cells slots pc : Nat} {t : zT} {h : zH} {ls : List (Option Value)} {st : List Value} (C : zCx E b G own cc nL rt) {i : Nat} {v : Int64} (hd : decode cc pc = .ok (.ldc2_w i, 3)) (hw : Cond.constantLong own i v ∈ zW) (kk : zAW E b G nL cells slots (pc + 3) ls (.long v :: st) t h) : zAW E b G nL cells slots pc ls (st) t h := by
  obtain ⟨p, l, e, R, s, m, args, below, meth, c, Q⟩ := G
  intro H locs la hH hS hl
  exact lv_ldc2 C.1 C.2.1 C.2.2.2.1 (C.2.2.2.2.1 _ hw) hd (kk H locs la hH hS hl)
theorem zz_dup {E : zE} {b : Nat} {G : zG} {own : String} {cc : ByteArray} {nL : Nat} {rt : Option FieldType} {cells slots pc : Nat} {t : zT} {h : zH} {ls : List (Option Value)} {st : List Value} (C : zCx E b G own cc nL rt) {va : Value} (hd : decode cc pc = .ok (.dup, 1)) (hc : va.category = 1) (kk : zAW E b G nL cells slots (pc + 1) ls (va :: va :: st) t h) : zAW E b G nL cells slots pc ls (va :: st) t h := by
  obtain ⟨p, l, e, R, s, m, args, below, meth, c, Q⟩ := G
  intro H locs la hH hS hl
  exact lv_dup C.1 C.2.1 hd hc (kk H locs la hH hS hl)
theorem zz_dup2 {E : zE} {b : Nat} {G : zG} {own : String} {cc : ByteArray} {nL : Nat} {rt : Option FieldType} {cells slots pc : Nat} {t : zT} {h : zH} {ls : List (Option Value)} {st : List Value} (C : zCx E b G own cc nL rt) {va vb : Value} (hd : decode cc pc = .ok (.dup2, 1)) (hc : va.category = 1) (hc2 : vb.category = 1) (kk : zAW E b G nL cells slots (pc + 1) ls (va :: vb :: va :: vb :: st) t h) : zAW E b G nL cells slots pc ls (va :: vb :: st) t h := by
  obtain ⟨p, l, e, R, s, m, args, below, meth, c, Q⟩ := G
  intro H locs la hH hS hl
  exact lv_dup2_11 C.1 C.2.1 hd hc hc2 (kk H locs la hH hS hl)
theorem zz_pop {E : zE} {b : Nat} {G : zG} {own : String} {cc : ByteArray} {nL : Nat} {rt : Option FieldType} {cells slots pc : Nat} {t : zT} {h : zH} {ls : List (Option Value)} {st : List Value} (C : zCx E b G own cc nL rt) {va : Value} (hd : decode cc pc = .ok (.pop, 1)) (hc : va.category = 1) (kk : zAW E b G nL cells slots (pc + 1) ls (st) t h) : zAW E b G nL cells slots pc ls (va :: st) t h := by
  obtain ⟨p, l, e, R, s, m, args, below, meth, c, Q⟩ := G
  intro H locs la hH hS hl
  exact lv_pop C.1 C.2.1 hd hc (kk H locs la hH hS hl)
theorem zz_goto {E : zE} {b : Nat} {G : zG} {own : String} {cc : ByteArray} {nL : Nat} {rt : Option FieldType} {cells slots pc : Nat} {t : zT} {h : zH} {ls : List (Option Value)} {st : List Value} (C : zCx E b G own cc nL rt) {off : Int} (tgt : Nat) (hd : decode cc pc = .ok (.goto off, 3)) (ht : (pc : Int) + off = (tgt : Int)) (kk : zAW E b G nL cells slots tgt ls st t h) : zAW E b G nL cells slots pc ls st t h := by
  obtain ⟨p, l, e, R, s, m, args, below, meth, c, Q⟩ := G
  intro H locs la hH hS hl
  exact lv_goto C.1 C.2.1 hd ht (kk H locs la hH hS hl)
theorem zz_if_eq {E : zE} {b : Nat} {G : zG} {own : String} {cc : ByteArray} {nL : Nat} {rt : Option FieldType} {cells slots pc : Nat} {t : zT} {h : zH} {ls : List (Option Value)} {st : List Value} (C : zCx E b G own cc nL rt) {x : Int32} {off : Int} (tgt : Nat) (hd : decode cc pc = .ok (.ifCond .eq off, 3)) (ht : (pc : Int) + off = (tgt : Int)) (kt : x = 0 → zAW E b G nL cells slots tgt ls st t h) (kf : ¬ x = 0 → zAW E b G nL cells slots (pc + 3) ls st t h) : zAW E b G nL cells slots pc ls (.int x :: st) t h := by
  obtain ⟨p, l, e, R, s, m, args, below, meth, c, Q⟩ := G
  intro H locs la hH hS hl
  exact lv_if_eq C.1 C.2.1 hd ht (fun q => kt q H locs la hH hS hl) (fun q => kf q H locs la hH hS hl)
theorem zz_if_ne {E : zE} {b : Nat} {G : zG} {own : String} {cc : ByteArray} {nL : Nat} {rt : Option FieldType} {cells slots pc : Nat} {t : zT} {h : zH} {ls : List (Option Value)} {st : List Value} (C : zCx E b G own cc nL rt) {x : Int32} {off : Int} (tgt : Nat) (hd : decode cc pc = .ok (.ifCond .ne off, 3)) (ht : (pc : Int) + off = (tgt : Int)) (kt : ¬ x = 0 → zAW E b G nL cells slots tgt ls st t h) (kf : x = 0 → zAW E b G nL cells slots (pc + 3) ls st t h) : zAW E b G nL cells slots pc ls (.int x :: st) t h := by
  obtain ⟨p, l, e, R, s, m, args, below, meth, c, Q⟩ := G
  intro H locs la hH hS hl
  exact lv_if_ne C.1 C.2.1 hd ht (fun q => kt q H locs la hH hS hl) (fun q => kf q H locs la hH hS hl)
theorem zz_if_lt {E : zE} {b : Nat} {G : zG} {own : String} {cc : ByteArray} {nL : Nat} {rt : Option FieldType} {cells slots pc : Nat} {t : zT} {h : zH} {ls : List (Option Value)} {st : List Value} (C : zCx E b G own cc nL rt) {x : Int32} {off : Int} (tgt : Nat) (hd : decode cc pc = .ok (.ifCond .lt off, 3)) (ht : (pc : Int) + off = (tgt : Int)) (kt : x < 0 → zAW E b G nL cells slots tgt ls st t h) (kf : ¬ x < 0 → zAW E b G nL cells slots (pc + 3) ls st t h) : zAW E b G nL cells slots pc ls (.int x :: st) t h := by
  obtain ⟨p, l, e, R, s, m, args, below, meth, c, Q⟩ := G
  intro H locs la hH hS hl
  exact lv_if_lt C.1 C.2.1 hd ht (fun q => kt q H locs la hH hS hl) (fun q => kf q H locs la hH hS hl)
theorem zz_if_ge {E : zE} {b : Nat} {G : zG} {own : String} {cc : ByteArray} {nL : Nat} {rt : Option FieldType} {cells slots pc : Nat} {t : zT} {h : zH} {ls : List (Option Value)} {st : List Value} (C : zCx E b G own cc nL rt) {x : Int32} {off : Int} (tgt : Nat) (hd : decode cc pc = .ok (.ifCond .ge off, 3)) (ht : (pc : Int) + off = (tgt : Int)) (kt : 0 ≤ x → zAW E b G nL cells slots tgt ls st t h) (kf : ¬ 0 ≤ x → zAW E b G nL cells slots (pc + 3) ls st t h) : zAW E b G nL cells slots pc ls (.int x :: st) t h := by
  obtain ⟨p, l, e, R, s, m, args, below, meth, c, Q⟩ := G
  intro H locs la hH hS hl
  exact lv_if_ge C.1 C.2.1 hd ht (fun q => kt q H locs la hH hS hl) (fun q => kf q H locs la hH hS hl)
theorem zz_if_gt {E : zE} {b : Nat} {G : zG} {own : String} {cc : ByteArray} {nL : Nat} {rt : Option FieldType} {cells slots pc : Nat} {t : zT} {h : zH} {ls : List (Option Value)} {st : List Value} (C : zCx E b G own cc nL rt) {x : Int32} {off : Int} (tgt : Nat) (hd : decode cc pc = .ok (.ifCond .gt off, 3)) (ht : (pc : Int) + off = (tgt : Int)) (kt : 0 < x → zAW E b G nL cells slots tgt ls st t h) (kf : ¬ 0 < x → zAW E b G nL cells slots (pc + 3) ls st t h) : zAW E b G nL cells slots pc ls (.int x :: st) t h := by
  obtain ⟨p, l, e, R, s, m, args, below, meth, c, Q⟩ := G
  intro H locs la hH hS hl
  exact lv_if_gt C.1 C.2.1 hd ht (fun q => kt q H locs la hH hS hl) (fun q => kf q H locs la hH hS hl)
theorem zz_if_le {E : zE} {b : Nat} {G : zG} {own : String} {cc : ByteArray} {nL : Nat} {rt : Option FieldType} {cells slots pc : Nat} {t : zT} {h : zH} {ls : List (Option Value)} {st : List Value} (C : zCx E b G own cc nL rt) {x : Int32} {off : Int} (tgt : Nat) (hd : decode cc pc = .ok (.ifCond .le off, 3)) (ht : (pc : Int) + off = (tgt : Int)) (kt : x ≤ 0 → zAW E b G nL cells slots tgt ls st t h) (kf : ¬ x ≤ 0 → zAW E b G nL cells slots (pc + 3) ls st t h) : zAW E b G nL cells slots pc ls (.int x :: st) t h := by
  obtain ⟨p, l, e, R, s, m, args, below, meth, c, Q⟩ := G
  intro H locs la hH hS hl
  exact lv_if_le C.1 C.2.1 hd ht (fun q => kt q H locs la hH hS hl) (fun q => kf q H locs la hH hS hl)
theorem zz_icmp_eq {E : zE} {b : Nat} {G : zG} {own : String} {cc : ByteArray} {nL : Nat} {rt : Option FieldType} {cells slots pc : Nat} {t : zT} {h : zH} {ls : List (Option Value)} {st : List Value} (C : zCx E b G own cc nL rt) {x y : Int32} {off : Int} (tgt : Nat) (hd : decode cc pc = .ok (.if_icmp .eq off, 3)) (ht : (pc : Int) + off = (tgt : Int)) (kt : x = y → zAW E b G nL cells slots tgt ls st t h) (kf : ¬ x = y → zAW E b G nL cells slots (pc + 3) ls st t h) : zAW E b G nL cells slots pc ls (.int y :: .int x :: st) t h := by
  obtain ⟨p, l, e, R, s, m, args, below, meth, c, Q⟩ := G
  intro H locs la hH hS hl
  exact lv_icmp_eq C.1 C.2.1 hd ht (fun q => kt q H locs la hH hS hl) (fun q => kf q H locs la hH hS hl)
theorem zz_icmp_ne {E : zE} {b : Nat} {G : zG} {own : String} {cc : ByteArray} {nL : Nat} {rt : Option FieldType} {cells slots pc : Nat} {t : zT} {h : zH} {ls : List (Option Value)} {st : List Value} (C : zCx E b G own cc nL rt) {x y : Int32} {off : Int} (tgt : Nat) (hd : decode cc pc = .ok (.if_icmp .ne off, 3)) (ht : (pc : Int) + off = (tgt : Int)) (kt : ¬ x = y → zAW E b G nL cells slots tgt ls st t h) (kf : x = y → zAW E b G nL cells slots (pc + 3) ls st t h) : zAW E b G nL cells slots pc ls (.int y :: .int x :: st) t h := by
  obtain ⟨p, l, e, R, s, m, args, below, meth, c, Q⟩ := G
  intro H locs la hH hS hl
  exact lv_icmp_ne C.1 C.2.1 hd ht (fun q => kt q H locs la hH hS hl) (fun q => kf q H locs la hH hS hl)
theorem zz_icmp_lt {E : zE} {b : Nat} {G : zG} {own : String} {cc : ByteArray} {nL : Nat} {rt : Option FieldType} {cells slots pc : Nat} {t : zT} {h : zH} {ls : List (Option Value)} {st : List Value} (C : zCx E b G own cc nL rt) {x y : Int32} {off : Int} (tgt : Nat) (hd : decode cc pc = .ok (.if_icmp .lt off, 3)) (ht : (pc : Int) + off = (tgt : Int)) (kt : x < y → zAW E b G nL cells slots tgt ls st t h) (kf : ¬ x < y → zAW E b G nL cells slots (pc + 3) ls st t h) : zAW E b G nL cells slots pc ls (.int y :: .int x :: st) t h := by
  obtain ⟨p, l, e, R, s, m, args, below, meth, c, Q⟩ := G
  intro H locs la hH hS hl
  exact lv_icmp_lt C.1 C.2.1 hd ht (fun q => kt q H locs la hH hS hl) (fun q => kf q H locs la hH hS hl)
theorem zz_icmp_ge {E : zE} {b : Nat} {G : zG} {own : String} {cc : ByteArray} {nL : Nat} {rt : Option FieldType} {cells slots pc : Nat} {t : zT} {h : zH} {ls : List (Option Value)} {st : List Value} (C : zCx E b G own cc nL rt) {x y : Int32} {off : Int} (tgt : Nat) (hd : decode cc pc = .ok (.if_icmp .ge off, 3)) (ht : (pc : Int) + off = (tgt : Int)) (kt : y ≤ x → zAW E b G nL cells slots tgt ls st t h) (kf : ¬ y ≤ x → zAW E b G nL cells slots (pc + 3) ls st t h) : zAW E b G nL cells slots pc ls (.int y :: .int x :: st) t h := by
  obtain ⟨p, l, e, R, s, m, args, below, meth, c, Q⟩ := G
  intro H locs la hH hS hl
  exact lv_icmp_ge C.1 C.2.1 hd ht (fun q => kt q H locs la hH hS hl) (fun q => kf q H locs la hH hS hl)
theorem zz_icmp_gt {E : zE} {b : Nat} {G : zG} {own : String} {cc : ByteArray} {nL : Nat} {rt : Option FieldType} {cells slots pc : Nat} {t : zT} {h : zH} {ls : List (Option Value)} {st : List Value} (C : zCx E b G own cc nL rt) {x y : Int32} {off : Int} (tgt : Nat) (hd : decode cc pc = .ok (.if_icmp .gt off, 3)) (ht : (pc : Int) + off = (tgt : Int)) (kt : y < x → zAW E b G nL cells slots tgt ls st t h) (kf : ¬ y < x → zAW E b G nL cells slots (pc + 3) ls st t h) : zAW E b G nL cells slots pc ls (.int y :: .int x :: st) t h := by
  obtain ⟨p, l, e, R, s, m, args, below, meth, c, Q⟩ := G
  intro H locs la hH hS hl
  exact lv_icmp_gt C.1 C.2.1 hd ht (fun q => kt q H locs la hH hS hl) (fun q => kf q H locs la hH hS hl)
theorem zz_icmp_le {E : zE} {b : Nat} {G : zG} {own : String} {cc : ByteArray} {nL : Nat} {rt : Option FieldType} {cells slots pc : Nat} {t : zT} {h : zH} {ls : List (Option Value)} {st : List Value} (C : zCx E b G own cc nL rt) {x y : Int32} {off : Int} (tgt : Nat) (hd : decode cc pc = .ok (.if_icmp .le off, 3)) (ht : (pc : Int) + off = (tgt : Int)) (kt : x ≤ y → zAW E b G nL cells slots tgt ls st t h) (kf : ¬ x ≤ y → zAW E b G nL cells slots (pc + 3) ls st t h) : zAW E b G nL cells slots pc ls (.int y :: .int x :: st) t h := by
  obtain ⟨p, l, e, R, s, m, args, below, meth, c, Q⟩ := G
  intro H locs la hH hS hl
  exact lv_icmp_le C.1 C.2.1 hd ht (fun q => kt q H locs la hH hS hl) (fun q => kf q H locs la hH hS hl)
theorem zz_tableOut {E : zE} {b : Nat} {G : zG} {own : String} {cc : ByteArray} {nL : Nat} {rt : Option FieldType} {cells slots pc : Nat} {t : zT} {h : zH} {ls : List (Option Value)} {st : List Value} (C : zCx E b G own cc nL rt) {x : Int32} {dflt lo hi : Int} {offs : Array Int} {len : Nat} (tgt : Nat) (hd : decode cc pc = .ok (.tableswitch dflt lo hi offs, len)) (hr : x.toInt < lo ∨ hi < x.toInt) (ht : (pc : Int) + dflt = (tgt : Int)) (kk : zAW E b G nL cells slots tgt ls st t h) : zAW E b G nL cells slots pc ls (.int x :: st) t h := by
  obtain ⟨p, l, e, R, s, m, args, below, meth, c, Q⟩ := G
  intro H locs la hH hS hl
  exact lv_tableOut C.1 C.2.1 hd hr ht (kk H locs la hH hS hl)
theorem zz_tableIn {E : zE} {b : Nat} {G : zG} {own : String} {cc : ByteArray} {nL : Nat} {rt : Option FieldType} {cells slots pc : Nat} {t : zT} {h : zH} {ls : List (Option Value)} {st : List Value} (C : zCx E b G own cc nL rt) {x : Int32} {dflt lo hi : Int} {offs : Array Int} {len : Nat} {off : Int} (tgt : Nat) (hd : decode cc pc = .ok (.tableswitch dflt lo hi offs, len)) (h1 : ¬ x.toInt < lo) (h2 : ¬ hi < x.toInt) (ho : offs[(x.toInt - lo).toNat]? = some off) (ht : (pc : Int) + off = (tgt : Int)) (kk : zAW E b G nL cells slots tgt ls st t h) : zAW E b G nL cells slots pc ls (.int x :: st) t h := by
  obtain ⟨p, l, e, R, s, m, args, below, meth, c, Q⟩ := G
  intro H locs la hH hS hl
  exact lv_tableIn C.1 C.2.1 hd h1 h2 ho ht (kk H locs la hH hS hl)
theorem zz_lookup {E : zE} {b : Nat} {G : zG} {own : String} {cc : ByteArray} {nL : Nat} {rt : Option FieldType} {cells slots pc : Nat} {t : zT} {h : zH} {ls : List (Option Value)} {st : List Value} (C : zCx E b G own cc nL rt) {x : Int32} {dflt : Int} {ps : Array (Int × Int)} {len : Nat} {off : Int} (tgt : Nat) (hd : decode cc pc = .ok (.lookupswitch dflt ps, len)) (hp : (ps.toList.zip (ps.toList.drop 1)).all (fun (a, next) => a.1 < next.1) = true) (ho : Op.lookupswitch.offset ps.toList dflt x.toInt = off) (ht : (pc : Int) + off = (tgt : Int)) (kk : zAW E b G nL cells slots tgt ls st t h) : zAW E b G nL cells slots pc ls (.int x :: st) t h := by
  obtain ⟨p, l, e, R, s, m, args, below, meth, c, Q⟩ := G
  intro H locs la hH hS hl
  exact lv_lookup C.1 C.2.1 hd hp ho ht (kk H locs la hH hS hl)
theorem zz_ls {E : zE} {b : Nat} {G : zG} {own : String} {cc : ByteArray} {nL : Nat} {rt : Option FieldType} {cells slots pc : Nat} {t : zT} {h : zH} {ls : List (Option Value)} (ls' : List (Option Value)) {st : List Value} (hs : ∀ (k : Nat) (v : Value), ls'[k]? = some (some v) → ls[k]? = some (some v)) (kk : zAW E b G nL cells slots pc ls' st t h) : zAW E b G nL cells slots pc ls st t h := by
  obtain ⟨p, l, e, R, s, m, args, below, meth, c, Q⟩ := G
  intro H locs la hH hS hl
  exact kk H locs la hH hS (zLs_sub hl hs)
theorem zz_iload_0 {E : zE} {b : Nat} {G : zG} {own : String} {cc : ByteArray} {nL : Nat} {rt : Option FieldType} {cells slots pc : Nat} {t : zT} {h : zH} {r : List (Option Value)} {st : List Value} (C : zCx E b G own cc nL rt) {v : Int32} (hd : decode cc pc = .ok (.iload_n 0, 1)) (kk : zAW E b G nL cells slots (pc + 1) (some (.int v) :: r) (.int v :: st) t h) : zAW E b G nL cells slots pc (some (.int v) :: r) st t h := by
  obtain ⟨p, l, e, R, s, m, args, below, meth, c, Q⟩ := G
  intro H locs la hH hS hl
  exact lv_iload_n C.1 C.2.1 hd rfl (zLs_at (k := 0) hl rfl) (kk H locs la hH hS hl)
theorem zz_istore_0 {E : zE} {b : Nat} {G : zG} {own : String} {cc : ByteArray} {nL : Nat} {rt : Option FieldType} {cells slots pc : Nat} {t : zT} {h : zH} {y : Option Value} {r : List (Option Value)} {st : List Value} (C : zCx E b G own cc nL rt) {v : Int32} (hn : 0 < nL) (hd : decode cc pc = .ok (.istore_n 0, 1)) (kk : zAW E b G nL cells slots (pc + 1) (some (.int v) :: r) st t h) : zAW E b G nL cells slots pc (y :: r) (.int v :: st) t h := by
  obtain ⟨p, l, e, R, s, m, args, below, meth, c, Q⟩ := G
  intro H locs la hH hS hl
  exact lv_istore_n C.1 C.2.1 hd rfl hl hn rfl (fun la2 hl2 => kk H locs la2 hH hS (zLs_st1 hl2 (fun j x hj hx => by cases hj)))
theorem zz_lload_0 {E : zE} {b : Nat} {G : zG} {own : String} {cc : ByteArray} {nL : Nat} {rt : Option FieldType} {cells slots pc : Nat} {t : zT} {h : zH} {r : List (Option Value)} {st : List Value} (C : zCx E b G own cc nL rt) {v : Int64} (hd : decode cc pc = .ok (.lload_n 0, 1)) (kk : zAW E b G nL cells slots (pc + 1) (some (.long v) :: r) (.long v :: st) t h) : zAW E b G nL cells slots pc (some (.long v) :: r) st t h := by
  obtain ⟨p, l, e, R, s, m, args, below, meth, c, Q⟩ := G
  intro H locs la hH hS hl
  exact lv_lload_n C.1 C.2.1 hd rfl (zLs_at (k := 0) hl rfl) (kk H locs la hH hS hl)
theorem zz_lstore_0 {E : zE} {b : Nat} {G : zG} {own : String} {cc : ByteArray} {nL : Nat} {rt : Option FieldType} {cells slots pc : Nat} {t : zT} {h : zH} {y y2 : Option Value} {r : List (Option Value)} {st : List Value} (C : zCx E b G own cc nL rt) {v : Int64} (hn : 1 < nL) (hd : decode cc pc = .ok (.lstore_n 0, 1)) (kk : zAW E b G nL cells slots (pc + 1) (some (.long v) :: none :: r) st t h) : zAW E b G nL cells slots pc (y :: y2 :: r) (.long v :: st) t h := by
  obtain ⟨p, l, e, R, s, m, args, below, meth, c, Q⟩ := G
  intro H locs la hH hS hl
  exact lv_lstore_n C.1 C.2.1 hd rfl hl hn rfl (fun la2 hl2 => kk H locs la2 hH hS (zLs_st2 hl2 (fun j x hj hx => by cases hj)))
theorem zz_aload_0 {E : zE} {b : Nat} {G : zG} {own : String} {cc : ByteArray} {nL : Nat} {rt : Option FieldType} {cells slots pc : Nat} {t : zT} {h : zH} {r : List (Option Value)} {st : List Value} (C : zCx E b G own cc nL rt) {v : Nat} (hd : decode cc pc = .ok (.aload_n 0, 1)) (kk : zAW E b G nL cells slots (pc + 1) (some (.ref v) :: r) (.ref v :: st) t h) : zAW E b G nL cells slots pc (some (.ref v) :: r) st t h := by
  obtain ⟨p, l, e, R, s, m, args, below, meth, c, Q⟩ := G
  intro H locs la hH hS hl
  exact lv_aload_n C.1 C.2.1 hd rfl (zLs_at (k := 0) hl rfl) (kk H locs la hH hS hl)
theorem zz_astore_0 {E : zE} {b : Nat} {G : zG} {own : String} {cc : ByteArray} {nL : Nat} {rt : Option FieldType} {cells slots pc : Nat} {t : zT} {h : zH} {y : Option Value} {r : List (Option Value)} {st : List Value} (C : zCx E b G own cc nL rt) {v : Nat} (hn : 0 < nL) (hd : decode cc pc = .ok (.astore_n 0, 1)) (kk : zAW E b G nL cells slots (pc + 1) (some (.ref v) :: r) st t h) : zAW E b G nL cells slots pc (y :: r) (.ref v :: st) t h := by
  obtain ⟨p, l, e, R, s, m, args, below, meth, c, Q⟩ := G
  intro H locs la hH hS hl
  exact lv_astore_n C.1 C.2.1 hd rfl hl hn rfl (fun la2 hl2 => kk H locs la2 hH hS (zLs_st1 hl2 (fun j x hj hx => by cases hj)))
theorem zz_iinc_0 {E : zE} {b : Nat} {G : zG} {own : String} {cc : ByteArray} {nL : Nat} {rt : Option FieldType} {cells slots pc : Nat} {t : zT} {h : zH} {r : List (Option Value)} {st : List Value} (C : zCx E b G own cc nL rt) {v : Int32} {n : Int} (w : Int32) (hn : 0 < nL) (hd : decode cc pc = .ok (.iinc 0 n, 3)) (hv : v + Int32.ofInt n = w) (kk : zAW E b G nL cells slots (pc + 3) (some (.int w) :: r) st t h) : zAW E b G nL cells slots pc (some (.int v) :: r) st t h := by
  obtain ⟨p, l, e, R, s, m, args, below, meth, c, Q⟩ := G
  intro H locs la hH hS hl
  obtain ⟨q, hq⟩ := List.getElem?_of_mem ((zAs_mem (some (.int v) :: r) 0 0 (.int v)).mpr ⟨0, rfl, rfl⟩)
  exact lv_iinc C.1 C.2.1 hd hl hq hv hn rfl (fun la2 hl2 => kk H locs la2 hH hS (zLs_st1 hl2 (fun j x hj hx => by cases hj)))
theorem zz_iload_1 {E : zE} {b : Nat} {G : zG} {own : String} {cc : ByteArray} {nL : Nat} {rt : Option FieldType} {cells slots pc : Nat} {t : zT} {h : zH} {x0 : Option Value} {r : List (Option Value)} {st : List Value} (C : zCx E b G own cc nL rt) {v : Int32} (hd : decode cc pc = .ok (.iload_n 1, 1)) (kk : zAW E b G nL cells slots (pc + 1) (x0 :: some (.int v) :: r) (.int v :: st) t h) : zAW E b G nL cells slots pc (x0 :: some (.int v) :: r) st t h := by
  obtain ⟨p, l, e, R, s, m, args, below, meth, c, Q⟩ := G
  intro H locs la hH hS hl
  exact lv_iload_n C.1 C.2.1 hd rfl (zLs_at (k := 1) hl rfl) (kk H locs la hH hS hl)
theorem zz_istore_1 {E : zE} {b : Nat} {G : zG} {own : String} {cc : ByteArray} {nL : Nat} {rt : Option FieldType} {cells slots pc : Nat} {t : zT} {h : zH} {x0 : Option Value} {y : Option Value} {r : List (Option Value)} {st : List Value} (C : zCx E b G own cc nL rt) {v : Int32} (hn : 1 < nL) (hok : zok x0 = true) (hd : decode cc pc = .ok (.istore_n 1, 1)) (kk : zAW E b G nL cells slots (pc + 1) (x0 :: some (.int v) :: r) st t h) : zAW E b G nL cells slots pc (x0 :: y :: r) (.int v :: st) t h := by
  obtain ⟨p, l, e, R, s, m, args, below, meth, c, Q⟩ := G
  intro H locs la hH hS hl
  exact lv_istore_n C.1 C.2.1 hd rfl hl hn rfl (fun la2 hl2 => kk H locs la2 hH hS (zLs_st1 hl2 (fun j x hj hx => by cases hj; cases hx; exact hok)))
theorem zz_lload_1 {E : zE} {b : Nat} {G : zG} {own : String} {cc : ByteArray} {nL : Nat} {rt : Option FieldType} {cells slots pc : Nat} {t : zT} {h : zH} {x0 : Option Value} {r : List (Option Value)} {st : List Value} (C : zCx E b G own cc nL rt) {v : Int64} (hd : decode cc pc = .ok (.lload_n 1, 1)) (kk : zAW E b G nL cells slots (pc + 1) (x0 :: some (.long v) :: r) (.long v :: st) t h) : zAW E b G nL cells slots pc (x0 :: some (.long v) :: r) st t h := by
  obtain ⟨p, l, e, R, s, m, args, below, meth, c, Q⟩ := G
  intro H locs la hH hS hl
  exact lv_lload_n C.1 C.2.1 hd rfl (zLs_at (k := 1) hl rfl) (kk H locs la hH hS hl)
theorem zz_lstore_1 {E : zE} {b : Nat} {G : zG} {own : String} {cc : ByteArray} {nL : Nat} {rt : Option FieldType} {cells slots pc : Nat} {t : zT} {h : zH} {x0 : Option Value} {y y2 : Option Value} {r : List (Option Value)} {st : List Value} (C : zCx E b G own cc nL rt) {v : Int64} (hn : 2 < nL) (hok : zok x0 = true) (hd : decode cc pc = .ok (.lstore_n 1, 1)) (kk : zAW E b G nL cells slots (pc + 1) (x0 :: some (.long v) :: none :: r) st t h) : zAW E b G nL cells slots pc (x0 :: y :: y2 :: r) (.long v :: st) t h := by
  obtain ⟨p, l, e, R, s, m, args, below, meth, c, Q⟩ := G
  intro H locs la hH hS hl
  exact lv_lstore_n C.1 C.2.1 hd rfl hl hn rfl (fun la2 hl2 => kk H locs la2 hH hS (zLs_st2 hl2 (fun j x hj hx => by cases hj; cases hx; exact hok)))
theorem zz_aload_1 {E : zE} {b : Nat} {G : zG} {own : String} {cc : ByteArray} {nL : Nat} {rt : Option FieldType} {cells slots pc : Nat} {t : zT} {h : zH} {x0 : Option Value} {r : List (Option Value)} {st : List Value} (C : zCx E b G own cc nL rt) {v : Nat} (hd : decode cc pc = .ok (.aload_n 1, 1)) (kk : zAW E b G nL cells slots (pc + 1) (x0 :: some (.ref v) :: r) (.ref v :: st) t h) : zAW E b G nL cells slots pc (x0 :: some (.ref v) :: r) st t h := by
  obtain ⟨p, l, e, R, s, m, args, below, meth, c, Q⟩ := G
  intro H locs la hH hS hl
  exact lv_aload_n C.1 C.2.1 hd rfl (zLs_at (k := 1) hl rfl) (kk H locs la hH hS hl)
theorem zz_astore_1 {E : zE} {b : Nat} {G : zG} {own : String} {cc : ByteArray} {nL : Nat} {rt : Option FieldType} {cells slots pc : Nat} {t : zT} {h : zH} {x0 : Option Value} {y : Option Value} {r : List (Option Value)} {st : List Value} (C : zCx E b G own cc nL rt) {v : Nat} (hn : 1 < nL) (hok : zok x0 = true) (hd : decode cc pc = .ok (.astore_n 1, 1)) (kk : zAW E b G nL cells slots (pc + 1) (x0 :: some (.ref v) :: r) st t h) : zAW E b G nL cells slots pc (x0 :: y :: r) (.ref v :: st) t h := by
  obtain ⟨p, l, e, R, s, m, args, below, meth, c, Q⟩ := G
  intro H locs la hH hS hl
  exact lv_astore_n C.1 C.2.1 hd rfl hl hn rfl (fun la2 hl2 => kk H locs la2 hH hS (zLs_st1 hl2 (fun j x hj hx => by cases hj; cases hx; exact hok)))
theorem zz_iinc_1 {E : zE} {b : Nat} {G : zG} {own : String} {cc : ByteArray} {nL : Nat} {rt : Option FieldType} {cells slots pc : Nat} {t : zT} {h : zH} {x0 : Option Value} {r : List (Option Value)} {st : List Value} (C : zCx E b G own cc nL rt) {v : Int32} {n : Int} (w : Int32) (hn : 1 < nL) (hok : zok x0 = true) (hd : decode cc pc = .ok (.iinc 1 n, 3)) (hv : v + Int32.ofInt n = w) (kk : zAW E b G nL cells slots (pc + 3) (x0 :: some (.int w) :: r) st t h) : zAW E b G nL cells slots pc (x0 :: some (.int v) :: r) st t h := by
  obtain ⟨p, l, e, R, s, m, args, below, meth, c, Q⟩ := G
  intro H locs la hH hS hl
  obtain ⟨q, hq⟩ := List.getElem?_of_mem ((zAs_mem (x0 :: some (.int v) :: r) 0 1 (.int v)).mpr ⟨1, rfl, rfl⟩)
  exact lv_iinc C.1 C.2.1 hd hl hq hv hn rfl (fun la2 hl2 => kk H locs la2 hH hS (zLs_st1 hl2 (fun j x hj hx => by cases hj; cases hx; exact hok)))
theorem zz_iload_2 {E : zE} {b : Nat} {G : zG} {own : String} {cc : ByteArray} {nL : Nat} {rt : Option FieldType} {cells slots pc : Nat} {t : zT} {h : zH} {x0 x1 : Option Value} {r : List (Option Value)} {st : List Value} (C : zCx E b G own cc nL rt) {v : Int32} (hd : decode cc pc = .ok (.iload_n 2, 1)) (kk : zAW E b G nL cells slots (pc + 1) (x0 :: x1 :: some (.int v) :: r) (.int v :: st) t h) : zAW E b G nL cells slots pc (x0 :: x1 :: some (.int v) :: r) st t h := by
  obtain ⟨p, l, e, R, s, m, args, below, meth, c, Q⟩ := G
  intro H locs la hH hS hl
  exact lv_iload_n C.1 C.2.1 hd rfl (zLs_at (k := 2) hl rfl) (kk H locs la hH hS hl)
theorem zz_istore_2 {E : zE} {b : Nat} {G : zG} {own : String} {cc : ByteArray} {nL : Nat} {rt : Option FieldType} {cells slots pc : Nat} {t : zT} {h : zH} {x0 x1 : Option Value} {y : Option Value} {r : List (Option Value)} {st : List Value} (C : zCx E b G own cc nL rt) {v : Int32} (hn : 2 < nL) (hok : zok x1 = true) (hd : decode cc pc = .ok (.istore_n 2, 1)) (kk : zAW E b G nL cells slots (pc + 1) (x0 :: x1 :: some (.int v) :: r) st t h) : zAW E b G nL cells slots pc (x0 :: x1 :: y :: r) (.int v :: st) t h := by
  obtain ⟨p, l, e, R, s, m, args, below, meth, c, Q⟩ := G
  intro H locs la hH hS hl
  exact lv_istore_n C.1 C.2.1 hd rfl hl hn rfl (fun la2 hl2 => kk H locs la2 hH hS (zLs_st1 hl2 (fun j x hj hx => by cases hj; cases hx; exact hok)))
theorem zz_lload_2 {E : zE} {b : Nat} {G : zG} {own : String} {cc : ByteArray} {nL : Nat} {rt : Option FieldType} {cells slots pc : Nat} {t : zT} {h : zH} {x0 x1 : Option Value} {r : List (Option Value)} {st : List Value} (C : zCx E b G own cc nL rt) {v : Int64} (hd : decode cc pc = .ok (.lload_n 2, 1)) (kk : zAW E b G nL cells slots (pc + 1) (x0 :: x1 :: some (.long v) :: r) (.long v :: st) t h) : zAW E b G nL cells slots pc (x0 :: x1 :: some (.long v) :: r) st t h := by
  obtain ⟨p, l, e, R, s, m, args, below, meth, c, Q⟩ := G
  intro H locs la hH hS hl
  exact lv_lload_n C.1 C.2.1 hd rfl (zLs_at (k := 2) hl rfl) (kk H locs la hH hS hl)
theorem zz_lstore_2 {E : zE} {b : Nat} {G : zG} {own : String} {cc : ByteArray} {nL : Nat} {rt : Option FieldType} {cells slots pc : Nat} {t : zT} {h : zH} {x0 x1 : Option Value} {y y2 : Option Value} {r : List (Option Value)} {st : List Value} (C : zCx E b G own cc nL rt) {v : Int64} (hn : 3 < nL) (hok : zok x1 = true) (hd : decode cc pc = .ok (.lstore_n 2, 1)) (kk : zAW E b G nL cells slots (pc + 1) (x0 :: x1 :: some (.long v) :: none :: r) st t h) : zAW E b G nL cells slots pc (x0 :: x1 :: y :: y2 :: r) (.long v :: st) t h := by
  obtain ⟨p, l, e, R, s, m, args, below, meth, c, Q⟩ := G
  intro H locs la hH hS hl
  exact lv_lstore_n C.1 C.2.1 hd rfl hl hn rfl (fun la2 hl2 => kk H locs la2 hH hS (zLs_st2 hl2 (fun j x hj hx => by cases hj; cases hx; exact hok)))
theorem zz_aload_2 {E : zE} {b : Nat} {G : zG} {own : String} {cc : ByteArray} {nL : Nat} {rt : Option FieldType} {cells slots pc : Nat} {t : zT} {h : zH} {x0 x1 : Option Value} {r : List (Option Value)} {st : List Value} (C : zCx E b G own cc nL rt) {v : Nat} (hd : decode cc pc = .ok (.aload_n 2, 1)) (kk : zAW E b G nL cells slots (pc + 1) (x0 :: x1 :: some (.ref v) :: r) (.ref v :: st) t h) : zAW E b G nL cells slots pc (x0 :: x1 :: some (.ref v) :: r) st t h := by
  obtain ⟨p, l, e, R, s, m, args, below, meth, c, Q⟩ := G
  intro H locs la hH hS hl
  exact lv_aload_n C.1 C.2.1 hd rfl (zLs_at (k := 2) hl rfl) (kk H locs la hH hS hl)
theorem zz_astore_2 {E : zE} {b : Nat} {G : zG} {own : String} {cc : ByteArray} {nL : Nat} {rt : Option FieldType} {cells slots pc : Nat} {t : zT} {h : zH} {x0 x1 : Option Value} {y : Option Value} {r : List (Option Value)} {st : List Value} (C : zCx E b G own cc nL rt) {v : Nat} (hn : 2 < nL) (hok : zok x1 = true) (hd : decode cc pc = .ok (.astore_n 2, 1)) (kk : zAW E b G nL cells slots (pc + 1) (x0 :: x1 :: some (.ref v) :: r) st t h) : zAW E b G nL cells slots pc (x0 :: x1 :: y :: r) (.ref v :: st) t h := by
  obtain ⟨p, l, e, R, s, m, args, below, meth, c, Q⟩ := G
  intro H locs la hH hS hl
  exact lv_astore_n C.1 C.2.1 hd rfl hl hn rfl (fun la2 hl2 => kk H locs la2 hH hS (zLs_st1 hl2 (fun j x hj hx => by cases hj; cases hx; exact hok)))
theorem zz_iinc_2 {E : zE} {b : Nat} {G : zG} {own : String} {cc : ByteArray} {nL : Nat} {rt : Option FieldType} {cells slots pc : Nat} {t : zT} {h : zH} {x0 x1 : Option Value} {r : List (Option Value)} {st : List Value} (C : zCx E b G own cc nL rt) {v : Int32} {n : Int} (w : Int32) (hn : 2 < nL) (hok : zok x1 = true) (hd : decode cc pc = .ok (.iinc 2 n, 3)) (hv : v + Int32.ofInt n = w) (kk : zAW E b G nL cells slots (pc + 3) (x0 :: x1 :: some (.int w) :: r) st t h) : zAW E b G nL cells slots pc (x0 :: x1 :: some (.int v) :: r) st t h := by
  obtain ⟨p, l, e, R, s, m, args, below, meth, c, Q⟩ := G
  intro H locs la hH hS hl
  obtain ⟨q, hq⟩ := List.getElem?_of_mem ((zAs_mem (x0 :: x1 :: some (.int v) :: r) 0 2 (.int v)).mpr ⟨2, rfl, rfl⟩)
  exact lv_iinc C.1 C.2.1 hd hl hq hv hn rfl (fun la2 hl2 => kk H locs la2 hH hS (zLs_st1 hl2 (fun j x hj hx => by cases hj; cases hx; exact hok)))
theorem zz_iload_3 {E : zE} {b : Nat} {G : zG} {own : String} {cc : ByteArray} {nL : Nat} {rt : Option FieldType} {cells slots pc : Nat} {t : zT} {h : zH} {x0 x1 x2 : Option Value} {r : List (Option Value)} {st : List Value} (C : zCx E b G own cc nL rt) {v : Int32} (hd : decode cc pc = .ok (.iload_n 3, 1)) (kk : zAW E b G nL cells slots (pc + 1) (x0 :: x1 :: x2 :: some (.int v) :: r) (.int v :: st) t h) : zAW E b G nL cells slots pc (x0 :: x1 :: x2 :: some (.int v) :: r) st t h := by
  obtain ⟨p, l, e, R, s, m, args, below, meth, c, Q⟩ := G
  intro H locs la hH hS hl
  exact lv_iload_n C.1 C.2.1 hd rfl (zLs_at (k := 3) hl rfl) (kk H locs la hH hS hl)
theorem zz_istore_3 {E : zE} {b : Nat} {G : zG} {own : String} {cc : ByteArray} {nL : Nat} {rt : Option FieldType} {cells slots pc : Nat} {t : zT} {h : zH} {x0 x1 x2 : Option Value} {y : Option Value} {r : List (Option Value)} {st : List Value} (C : zCx E b G own cc nL rt) {v : Int32} (hn : 3 < nL) (hok : zok x2 = true) (hd : decode cc pc = .ok (.istore_n 3, 1)) (kk : zAW E b G nL cells slots (pc + 1) (x0 :: x1 :: x2 :: some (.int v) :: r) st t h) : zAW E b G nL cells slots pc (x0 :: x1 :: x2 :: y :: r) (.int v :: st) t h := by
  obtain ⟨p, l, e, R, s, m, args, below, meth, c, Q⟩ := G
  intro H locs la hH hS hl
  exact lv_istore_n C.1 C.2.1 hd rfl hl hn rfl (fun la2 hl2 => kk H locs la2 hH hS (zLs_st1 hl2 (fun j x hj hx => by cases hj; cases hx; exact hok)))
theorem zz_lload_3 {E : zE} {b : Nat} {G : zG} {own : String} {cc : ByteArray} {nL : Nat} {rt : Option FieldType} {cells slots pc : Nat} {t : zT} {h : zH} {x0 x1 x2 : Option Value} {r : List (Option Value)} {st : List Value} (C : zCx E b G own cc nL rt) {v : Int64} (hd : decode cc pc = .ok (.lload_n 3, 1)) (kk : zAW E b G nL cells slots (pc + 1) (x0 :: x1 :: x2 :: some (.long v) :: r) (.long v :: st) t h) : zAW E b G nL cells slots pc (x0 :: x1 :: x2 :: some (.long v) :: r) st t h := by
  obtain ⟨p, l, e, R, s, m, args, below, meth, c, Q⟩ := G
  intro H locs la hH hS hl
  exact lv_lload_n C.1 C.2.1 hd rfl (zLs_at (k := 3) hl rfl) (kk H locs la hH hS hl)
theorem zz_lstore_3 {E : zE} {b : Nat} {G : zG} {own : String} {cc : ByteArray} {nL : Nat} {rt : Option FieldType} {cells slots pc : Nat} {t : zT} {h : zH} {x0 x1 x2 : Option Value} {y y2 : Option Value} {r : List (Option Value)} {st : List Value} (C : zCx E b G own cc nL rt) {v : Int64} (hn : 4 < nL) (hok : zok x2 = true) (hd : decode cc pc = .ok (.lstore_n 3, 1)) (kk : zAW E b G nL cells slots (pc + 1) (x0 :: x1 :: x2 :: some (.long v) :: none :: r) st t h) : zAW E b G nL cells slots pc (x0 :: x1 :: x2 :: y :: y2 :: r) (.long v :: st) t h := by
  obtain ⟨p, l, e, R, s, m, args, below, meth, c, Q⟩ := G
  intro H locs la hH hS hl
  exact lv_lstore_n C.1 C.2.1 hd rfl hl hn rfl (fun la2 hl2 => kk H locs la2 hH hS (zLs_st2 hl2 (fun j x hj hx => by cases hj; cases hx; exact hok)))
theorem zz_aload_3 {E : zE} {b : Nat} {G : zG} {own : String} {cc : ByteArray} {nL : Nat} {rt : Option FieldType} {cells slots pc : Nat} {t : zT} {h : zH} {x0 x1 x2 : Option Value} {r : List (Option Value)} {st : List Value} (C : zCx E b G own cc nL rt) {v : Nat} (hd : decode cc pc = .ok (.aload_n 3, 1)) (kk : zAW E b G nL cells slots (pc + 1) (x0 :: x1 :: x2 :: some (.ref v) :: r) (.ref v :: st) t h) : zAW E b G nL cells slots pc (x0 :: x1 :: x2 :: some (.ref v) :: r) st t h := by
  obtain ⟨p, l, e, R, s, m, args, below, meth, c, Q⟩ := G
  intro H locs la hH hS hl
  exact lv_aload_n C.1 C.2.1 hd rfl (zLs_at (k := 3) hl rfl) (kk H locs la hH hS hl)
theorem zz_astore_3 {E : zE} {b : Nat} {G : zG} {own : String} {cc : ByteArray} {nL : Nat} {rt : Option FieldType} {cells slots pc : Nat} {t : zT} {h : zH} {x0 x1 x2 : Option Value} {y : Option Value} {r : List (Option Value)} {st : List Value} (C : zCx E b G own cc nL rt) {v : Nat} (hn : 3 < nL) (hok : zok x2 = true) (hd : decode cc pc = .ok (.astore_n 3, 1)) (kk : zAW E b G nL cells slots (pc + 1) (x0 :: x1 :: x2 :: some (.ref v) :: r) st t h) : zAW E b G nL cells slots pc (x0 :: x1 :: x2 :: y :: r) (.ref v :: st) t h := by
  obtain ⟨p, l, e, R, s, m, args, below, meth, c, Q⟩ := G
  intro H locs la hH hS hl
  exact lv_astore_n C.1 C.2.1 hd rfl hl hn rfl (fun la2 hl2 => kk H locs la2 hH hS (zLs_st1 hl2 (fun j x hj hx => by cases hj; cases hx; exact hok)))
theorem zz_iinc_3 {E : zE} {b : Nat} {G : zG} {own : String} {cc : ByteArray} {nL : Nat} {rt : Option FieldType} {cells slots pc : Nat} {t : zT} {h : zH} {x0 x1 x2 : Option Value} {r : List (Option Value)} {st : List Value} (C : zCx E b G own cc nL rt) {v : Int32} {n : Int} (w : Int32) (hn : 3 < nL) (hok : zok x2 = true) (hd : decode cc pc = .ok (.iinc 3 n, 3)) (hv : v + Int32.ofInt n = w) (kk : zAW E b G nL cells slots (pc + 3) (x0 :: x1 :: x2 :: some (.int w) :: r) st t h) : zAW E b G nL cells slots pc (x0 :: x1 :: x2 :: some (.int v) :: r) st t h := by
  obtain ⟨p, l, e, R, s, m, args, below, meth, c, Q⟩ := G
  intro H locs la hH hS hl
  obtain ⟨q, hq⟩ := List.getElem?_of_mem ((zAs_mem (x0 :: x1 :: x2 :: some (.int v) :: r) 0 3 (.int v)).mpr ⟨3, rfl, rfl⟩)
  exact lv_iinc C.1 C.2.1 hd hl hq hv hn rfl (fun la2 hl2 => kk H locs la2 hH hS (zLs_st1 hl2 (fun j x hj hx => by cases hj; cases hx; exact hok)))
theorem zz_iload_4 {E : zE} {b : Nat} {G : zG} {own : String} {cc : ByteArray} {nL : Nat} {rt : Option FieldType} {cells slots pc : Nat} {t : zT} {h : zH} {x0 x1 x2 x3 : Option Value} {r : List (Option Value)} {st : List Value} (C : zCx E b G own cc nL rt) {v : Int32} (hd : decode cc pc = .ok (.iload 4, 2)) (kk : zAW E b G nL cells slots (pc + 2) (x0 :: x1 :: x2 :: x3 :: some (.int v) :: r) (.int v :: st) t h) : zAW E b G nL cells slots pc (x0 :: x1 :: x2 :: x3 :: some (.int v) :: r) st t h := by
  obtain ⟨p, l, e, R, s, m, args, below, meth, c, Q⟩ := G
  intro H locs la hH hS hl
  exact lv_iload C.1 C.2.1 hd (zLs_at (k := 4) hl rfl) (kk H locs la hH hS hl)
theorem zz_istore_4 {E : zE} {b : Nat} {G : zG} {own : String} {cc : ByteArray} {nL : Nat} {rt : Option FieldType} {cells slots pc : Nat} {t : zT} {h : zH} {x0 x1 x2 x3 : Option Value} {y : Option Value} {r : List (Option Value)} {st : List Value} (C : zCx E b G own cc nL rt) {v : Int32} (hn : 4 < nL) (hok : zok x3 = true) (hd : decode cc pc = .ok (.istore 4, 2)) (kk : zAW E b G nL cells slots (pc + 2) (x0 :: x1 :: x2 :: x3 :: some (.int v) :: r) st t h) : zAW E b G nL cells slots pc (x0 :: x1 :: x2 :: x3 :: y :: r) (.int v :: st) t h := by
  obtain ⟨p, l, e, R, s, m, args, below, meth, c, Q⟩ := G
  intro H locs la hH hS hl
  exact lv_istore C.1 C.2.1 hd hl hn rfl (fun la2 hl2 => kk H locs la2 hH hS (zLs_st1 hl2 (fun j x hj hx => by cases hj; cases hx; exact hok)))
theorem zz_lload_4 {E : zE} {b : Nat} {G : zG} {own : String} {cc : ByteArray} {nL : Nat} {rt : Option FieldType} {cells slots pc : Nat} {t : zT} {h : zH} {x0 x1 x2 x3 : Option Value} {r : List (Option Value)} {st : List Value} (C : zCx E b G own cc nL rt) {v : Int64} (hd : decode cc pc = .ok (.lload 4, 2)) (kk : zAW E b G nL cells slots (pc + 2) (x0 :: x1 :: x2 :: x3 :: some (.long v) :: r) (.long v :: st) t h) : zAW E b G nL cells slots pc (x0 :: x1 :: x2 :: x3 :: some (.long v) :: r) st t h := by
  obtain ⟨p, l, e, R, s, m, args, below, meth, c, Q⟩ := G
  intro H locs la hH hS hl
  exact lv_lload C.1 C.2.1 hd (zLs_at (k := 4) hl rfl) (kk H locs la hH hS hl)
theorem zz_lstore_4 {E : zE} {b : Nat} {G : zG} {own : String} {cc : ByteArray} {nL : Nat} {rt : Option FieldType} {cells slots pc : Nat} {t : zT} {h : zH} {x0 x1 x2 x3 : Option Value} {y y2 : Option Value} {r : List (Option Value)} {st : List Value} (C : zCx E b G own cc nL rt) {v : Int64} (hn : 5 < nL) (hok : zok x3 = true) (hd : decode cc pc = .ok (.lstore 4, 2)) (kk : zAW E b G nL cells slots (pc + 2) (x0 :: x1 :: x2 :: x3 :: some (.long v) :: none :: r) st t h) : zAW E b G nL cells slots pc (x0 :: x1 :: x2 :: x3 :: y :: y2 :: r) (.long v :: st) t h := by
  obtain ⟨p, l, e, R, s, m, args, below, meth, c, Q⟩ := G
  intro H locs la hH hS hl
  exact lv_lstore C.1 C.2.1 hd hl hn rfl (fun la2 hl2 => kk H locs la2 hH hS (zLs_st2 hl2 (fun j x hj hx => by cases hj; cases hx; exact hok)))
theorem zz_aload_4 {E : zE} {b : Nat} {G : zG} {own : String} {cc : ByteArray} {nL : Nat} {rt : Option FieldType} {cells slots pc : Nat} {t : zT} {h : zH} {x0 x1 x2 x3 : Option Value} {r : List (Option Value)} {st : List Value} (C : zCx E b G own cc nL rt) {v : Nat} (hd : decode cc pc = .ok (.aload 4, 2)) (kk : zAW E b G nL cells slots (pc + 2) (x0 :: x1 :: x2 :: x3 :: some (.ref v) :: r) (.ref v :: st) t h) : zAW E b G nL cells slots pc (x0 :: x1 :: x2 :: x3 :: some (.ref v) :: r) st t h := by
  obtain ⟨p, l, e, R, s, m, args, below, meth, c, Q⟩ := G
  intro H locs la hH hS hl
  exact lv_aload C.1 C.2.1 hd (zLs_at (k := 4) hl rfl) (kk H locs la hH hS hl)
theorem zz_astore_4 {E : zE} {b : Nat} {G : zG} {own : String} {cc : ByteArray} {nL : Nat} {rt : Option FieldType} {cells slots pc : Nat} {t : zT} {h : zH} {x0 x1 x2 x3 : Option Value} {y : Option Value} {r : List (Option Value)} {st : List Value} (C : zCx E b G own cc nL rt) {v : Nat} (hn : 4 < nL) (hok : zok x3 = true) (hd : decode cc pc = .ok (.astore 4, 2)) (kk : zAW E b G nL cells slots (pc + 2) (x0 :: x1 :: x2 :: x3 :: some (.ref v) :: r) st t h) : zAW E b G nL cells slots pc (x0 :: x1 :: x2 :: x3 :: y :: r) (.ref v :: st) t h := by
  obtain ⟨p, l, e, R, s, m, args, below, meth, c, Q⟩ := G
  intro H locs la hH hS hl
  exact lv_astore C.1 C.2.1 hd hl hn rfl (fun la2 hl2 => kk H locs la2 hH hS (zLs_st1 hl2 (fun j x hj hx => by cases hj; cases hx; exact hok)))
theorem zz_iinc_4 {E : zE} {b : Nat} {G : zG} {own : String} {cc : ByteArray} {nL : Nat} {rt : Option FieldType} {cells slots pc : Nat} {t : zT} {h : zH} {x0 x1 x2 x3 : Option Value} {r : List (Option Value)} {st : List Value} (C : zCx E b G own cc nL rt) {v : Int32} {n : Int} (w : Int32) (hn : 4 < nL) (hok : zok x3 = true) (hd : decode cc pc = .ok (.iinc 4 n, 3)) (hv : v + Int32.ofInt n = w) (kk : zAW E b G nL cells slots (pc + 3) (x0 :: x1 :: x2 :: x3 :: some (.int w) :: r) st t h) : zAW E b G nL cells slots pc (x0 :: x1 :: x2 :: x3 :: some (.int v) :: r) st t h := by
  obtain ⟨p, l, e, R, s, m, args, below, meth, c, Q⟩ := G
  intro H locs la hH hS hl
  obtain ⟨q, hq⟩ := List.getElem?_of_mem ((zAs_mem (x0 :: x1 :: x2 :: x3 :: some (.int v) :: r) 0 4 (.int v)).mpr ⟨4, rfl, rfl⟩)
  exact lv_iinc C.1 C.2.1 hd hl hq hv hn rfl (fun la2 hl2 => kk H locs la2 hH hS (zLs_st1 hl2 (fun j x hj hx => by cases hj; cases hx; exact hok)))
theorem zz_iload_5 {E : zE} {b : Nat} {G : zG} {own : String} {cc : ByteArray} {nL : Nat} {rt : Option FieldType} {cells slots pc : Nat} {t : zT} {h : zH} {x0 x1 x2 x3 x4 : Option Value} {r : List (Option Value)} {st : List Value} (C : zCx E b G own cc nL rt) {v : Int32} (hd : decode cc pc = .ok (.iload 5, 2)) (kk : zAW E b G nL cells slots (pc + 2) (x0 :: x1 :: x2 :: x3 :: x4 :: some (.int v) :: r) (.int v :: st) t h) : zAW E b G nL cells slots pc (x0 :: x1 :: x2 :: x3 :: x4 :: some (.int v) :: r) st t h := by
  obtain ⟨p, l, e, R, s, m, args, below, meth, c, Q⟩ := G
  intro H locs la hH hS hl
  exact lv_iload C.1 C.2.1 hd (zLs_at (k := 5) hl rfl) (kk H locs la hH hS hl)
theorem zz_istore_5 {E : zE} {b : Nat} {G : zG} {own : String} {cc : ByteArray} {nL : Nat} {rt : Option FieldType} {cells slots pc : Nat} {t : zT} {h : zH} {x0 x1 x2 x3 x4 : Option Value} {y : Option Value} {r : List (Option Value)} {st : List Value} (C : zCx E b G own cc nL rt) {v : Int32} (hn : 5 < nL) (hok : zok x4 = true) (hd : decode cc pc = .ok (.istore 5, 2)) (kk : zAW E b G nL cells slots (pc + 2) (x0 :: x1 :: x2 :: x3 :: x4 :: some (.int v) :: r) st t h) : zAW E b G nL cells slots pc (x0 :: x1 :: x2 :: x3 :: x4 :: y :: r) (.int v :: st) t h := by
  obtain ⟨p, l, e, R, s, m, args, below, meth, c, Q⟩ := G
  intro H locs la hH hS hl
  exact lv_istore C.1 C.2.1 hd hl hn rfl (fun la2 hl2 => kk H locs la2 hH hS (zLs_st1 hl2 (fun j x hj hx => by cases hj; cases hx; exact hok)))
theorem zz_lload_5 {E : zE} {b : Nat} {G : zG} {own : String} {cc : ByteArray} {nL : Nat} {rt : Option FieldType} {cells slots pc : Nat} {t : zT} {h : zH} {x0 x1 x2 x3 x4 : Option Value} {r : List (Option Value)} {st : List Value} (C : zCx E b G own cc nL rt) {v : Int64} (hd : decode cc pc = .ok (.lload 5, 2)) (kk : zAW E b G nL cells slots (pc + 2) (x0 :: x1 :: x2 :: x3 :: x4 :: some (.long v) :: r) (.long v :: st) t h) : zAW E b G nL cells slots pc (x0 :: x1 :: x2 :: x3 :: x4 :: some (.long v) :: r) st t h := by
  obtain ⟨p, l, e, R, s, m, args, below, meth, c, Q⟩ := G
  intro H locs la hH hS hl
  exact lv_lload C.1 C.2.1 hd (zLs_at (k := 5) hl rfl) (kk H locs la hH hS hl)
theorem zz_lstore_5 {E : zE} {b : Nat} {G : zG} {own : String} {cc : ByteArray} {nL : Nat} {rt : Option FieldType} {cells slots pc : Nat} {t : zT} {h : zH} {x0 x1 x2 x3 x4 : Option Value} {y y2 : Option Value} {r : List (Option Value)} {st : List Value} (C : zCx E b G own cc nL rt) {v : Int64} (hn : 6 < nL) (hok : zok x4 = true) (hd : decode cc pc = .ok (.lstore 5, 2)) (kk : zAW E b G nL cells slots (pc + 2) (x0 :: x1 :: x2 :: x3 :: x4 :: some (.long v) :: none :: r) st t h) : zAW E b G nL cells slots pc (x0 :: x1 :: x2 :: x3 :: x4 :: y :: y2 :: r) (.long v :: st) t h := by
  obtain ⟨p, l, e, R, s, m, args, below, meth, c, Q⟩ := G
  intro H locs la hH hS hl
  exact lv_lstore C.1 C.2.1 hd hl hn rfl (fun la2 hl2 => kk H locs la2 hH hS (zLs_st2 hl2 (fun j x hj hx => by cases hj; cases hx; exact hok)))
theorem zz_aload_5 {E : zE} {b : Nat} {G : zG} {own : String} {cc : ByteArray} {nL : Nat} {rt : Option FieldType} {cells slots pc : Nat} {t : zT} {h : zH} {x0 x1 x2 x3 x4 : Option Value} {r : List (Option Value)} {st : List Value} (C : zCx E b G own cc nL rt) {v : Nat} (hd : decode cc pc = .ok (.aload 5, 2)) (kk : zAW E b G nL cells slots (pc + 2) (x0 :: x1 :: x2 :: x3 :: x4 :: some (.ref v) :: r) (.ref v :: st) t h) : zAW E b G nL cells slots pc (x0 :: x1 :: x2 :: x3 :: x4 :: some (.ref v) :: r) st t h := by
  obtain ⟨p, l, e, R, s, m, args, below, meth, c, Q⟩ := G
  intro H locs la hH hS hl
  exact lv_aload C.1 C.2.1 hd (zLs_at (k := 5) hl rfl) (kk H locs la hH hS hl)
theorem zz_astore_5 {E : zE} {b : Nat} {G : zG} {own : String} {cc : ByteArray} {nL : Nat} {rt : Option FieldType} {cells slots pc : Nat} {t : zT} {h : zH} {x0 x1 x2 x3 x4 : Option Value} {y : Option Value} {r : List (Option Value)} {st : List Value} (C : zCx E b G own cc nL rt) {v : Nat} (hn : 5 < nL) (hok : zok x4 = true) (hd : decode cc pc = .ok (.astore 5, 2)) (kk : zAW E b G nL cells slots (pc + 2) (x0 :: x1 :: x2 :: x3 :: x4 :: some (.ref v) :: r) st t h) : zAW E b G nL cells slots pc (x0 :: x1 :: x2 :: x3 :: x4 :: y :: r) (.ref v :: st) t h := by
  obtain ⟨p, l, e, R, s, m, args, below, meth, c, Q⟩ := G
  intro H locs la hH hS hl
  exact lv_astore C.1 C.2.1 hd hl hn rfl (fun la2 hl2 => kk H locs la2 hH hS (zLs_st1 hl2 (fun j x hj hx => by cases hj; cases hx; exact hok)))
theorem zz_iinc_5 {E : zE} {b : Nat} {G : zG} {own : String} {cc : ByteArray} {nL : Nat} {rt : Option FieldType} {cells slots pc : Nat} {t : zT} {h : zH} {x0 x1 x2 x3 x4 : Option Value} {r : List (Option Value)} {st : List Value} (C : zCx E b G own cc nL rt) {v : Int32} {n : Int} (w : Int32) (hn : 5 < nL) (hok : zok x4 = true) (hd : decode cc pc = .ok (.iinc 5 n, 3)) (hv : v + Int32.ofInt n = w) (kk : zAW E b G nL cells slots (pc + 3) (x0 :: x1 :: x2 :: x3 :: x4 :: some (.int w) :: r) st t h) : zAW E b G nL cells slots pc (x0 :: x1 :: x2 :: x3 :: x4 :: some (.int v) :: r) st t h := by
  obtain ⟨p, l, e, R, s, m, args, below, meth, c, Q⟩ := G
  intro H locs la hH hS hl
  obtain ⟨q, hq⟩ := List.getElem?_of_mem ((zAs_mem (x0 :: x1 :: x2 :: x3 :: x4 :: some (.int v) :: r) 0 5 (.int v)).mpr ⟨5, rfl, rfl⟩)
  exact lv_iinc C.1 C.2.1 hd hl hq hv hn rfl (fun la2 hl2 => kk H locs la2 hH hS (zLs_st1 hl2 (fun j x hj hx => by cases hj; cases hx; exact hok)))
theorem zz_iload_6 {E : zE} {b : Nat} {G : zG} {own : String} {cc : ByteArray} {nL : Nat} {rt : Option FieldType} {cells slots pc : Nat} {t : zT} {h : zH} {x0 x1 x2 x3 x4 x5 : Option Value} {r : List (Option Value)} {st : List Value} (C : zCx E b G own cc nL rt) {v : Int32} (hd : decode cc pc = .ok (.iload 6, 2)) (kk : zAW E b G nL cells slots (pc + 2) (x0 :: x1 :: x2 :: x3 :: x4 :: x5 :: some (.int v) :: r) (.int v :: st) t h) : zAW E b G nL cells slots pc (x0 :: x1 :: x2 :: x3 :: x4 :: x5 :: some (.int v) :: r) st t h := by
  obtain ⟨p, l, e, R, s, m, args, below, meth, c, Q⟩ := G
  intro H locs la hH hS hl
  exact lv_iload C.1 C.2.1 hd (zLs_at (k := 6) hl rfl) (kk H locs la hH hS hl)
theorem zz_istore_6 {E : zE} {b : Nat} {G : zG} {own : String} {cc : ByteArray} {nL : Nat} {rt : Option FieldType} {cells slots pc : Nat} {t : zT} {h : zH} {x0 x1 x2 x3 x4 x5 : Option Value} {y : Option Value} {r : List (Option Value)} {st : List Value} (C : zCx E b G own cc nL rt) {v : Int32} (hn : 6 < nL) (hok : zok x5 = true) (hd : decode cc pc = .ok (.istore 6, 2)) (kk : zAW E b G nL cells slots (pc + 2) (x0 :: x1 :: x2 :: x3 :: x4 :: x5 :: some (.int v) :: r) st t h) : zAW E b G nL cells slots pc (x0 :: x1 :: x2 :: x3 :: x4 :: x5 :: y :: r) (.int v :: st) t h := by
  obtain ⟨p, l, e, R, s, m, args, below, meth, c, Q⟩ := G
  intro H locs la hH hS hl
  exact lv_istore C.1 C.2.1 hd hl hn rfl (fun la2 hl2 => kk H locs la2 hH hS (zLs_st1 hl2 (fun j x hj hx => by cases hj; cases hx; exact hok)))
theorem zz_lload_6 {E : zE} {b : Nat} {G : zG} {own : String} {cc : ByteArray} {nL : Nat} {rt : Option FieldType} {cells slots pc : Nat} {t : zT} {h : zH} {x0 x1 x2 x3 x4 x5 : Option Value} {r : List (Option Value)} {st : List Value} (C : zCx E b G own cc nL rt) {v : Int64} (hd : decode cc pc = .ok (.lload 6, 2)) (kk : zAW E b G nL cells slots (pc + 2) (x0 :: x1 :: x2 :: x3 :: x4 :: x5 :: some (.long v) :: r) (.long v :: st) t h) : zAW E b G nL cells slots pc (x0 :: x1 :: x2 :: x3 :: x4 :: x5 :: some (.long v) :: r) st t h := by
  obtain ⟨p, l, e, R, s, m, args, below, meth, c, Q⟩ := G
  intro H locs la hH hS hl
  exact lv_lload C.1 C.2.1 hd (zLs_at (k := 6) hl rfl) (kk H locs la hH hS hl)
theorem zz_lstore_6 {E : zE} {b : Nat} {G : zG} {own : String} {cc : ByteArray} {nL : Nat} {rt : Option FieldType} {cells slots pc : Nat} {t : zT} {h : zH} {x0 x1 x2 x3 x4 x5 : Option Value} {y y2 : Option Value} {r : List (Option Value)} {st : List Value} (C : zCx E b G own cc nL rt) {v : Int64} (hn : 7 < nL) (hok : zok x5 = true) (hd : decode cc pc = .ok (.lstore 6, 2)) (kk : zAW E b G nL cells slots (pc + 2) (x0 :: x1 :: x2 :: x3 :: x4 :: x5 :: some (.long v) :: none :: r) st t h) : zAW E b G nL cells slots pc (x0 :: x1 :: x2 :: x3 :: x4 :: x5 :: y :: y2 :: r) (.long v :: st) t h := by
  obtain ⟨p, l, e, R, s, m, args, below, meth, c, Q⟩ := G
  intro H locs la hH hS hl
  exact lv_lstore C.1 C.2.1 hd hl hn rfl (fun la2 hl2 => kk H locs la2 hH hS (zLs_st2 hl2 (fun j x hj hx => by cases hj; cases hx; exact hok)))
theorem zz_aload_6 {E : zE} {b : Nat} {G : zG} {own : String} {cc : ByteArray} {nL : Nat} {rt : Option FieldType} {cells slots pc : Nat} {t : zT} {h : zH} {x0 x1 x2 x3 x4 x5 : Option Value} {r : List (Option Value)} {st : List Value} (C : zCx E b G own cc nL rt) {v : Nat} (hd : decode cc pc = .ok (.aload 6, 2)) (kk : zAW E b G nL cells slots (pc + 2) (x0 :: x1 :: x2 :: x3 :: x4 :: x5 :: some (.ref v) :: r) (.ref v :: st) t h) : zAW E b G nL cells slots pc (x0 :: x1 :: x2 :: x3 :: x4 :: x5 :: some (.ref v) :: r) st t h := by
  obtain ⟨p, l, e, R, s, m, args, below, meth, c, Q⟩ := G
  intro H locs la hH hS hl
  exact lv_aload C.1 C.2.1 hd (zLs_at (k := 6) hl rfl) (kk H locs la hH hS hl)
theorem zz_astore_6 {E : zE} {b : Nat} {G : zG} {own : String} {cc : ByteArray} {nL : Nat} {rt : Option FieldType} {cells slots pc : Nat} {t : zT} {h : zH} {x0 x1 x2 x3 x4 x5 : Option Value} {y : Option Value} {r : List (Option Value)} {st : List Value} (C : zCx E b G own cc nL rt) {v : Nat} (hn : 6 < nL) (hok : zok x5 = true) (hd : decode cc pc = .ok (.astore 6, 2)) (kk : zAW E b G nL cells slots (pc + 2) (x0 :: x1 :: x2 :: x3 :: x4 :: x5 :: some (.ref v) :: r) st t h) : zAW E b G nL cells slots pc (x0 :: x1 :: x2 :: x3 :: x4 :: x5 :: y :: r) (.ref v :: st) t h := by
  obtain ⟨p, l, e, R, s, m, args, below, meth, c, Q⟩ := G
  intro H locs la hH hS hl
  exact lv_astore C.1 C.2.1 hd hl hn rfl (fun la2 hl2 => kk H locs la2 hH hS (zLs_st1 hl2 (fun j x hj hx => by cases hj; cases hx; exact hok)))
theorem zz_iinc_6 {E : zE} {b : Nat} {G : zG} {own : String} {cc : ByteArray} {nL : Nat} {rt : Option FieldType} {cells slots pc : Nat} {t : zT} {h : zH} {x0 x1 x2 x3 x4 x5 : Option Value} {r : List (Option Value)} {st : List Value} (C : zCx E b G own cc nL rt) {v : Int32} {n : Int} (w : Int32) (hn : 6 < nL) (hok : zok x5 = true) (hd : decode cc pc = .ok (.iinc 6 n, 3)) (hv : v + Int32.ofInt n = w) (kk : zAW E b G nL cells slots (pc + 3) (x0 :: x1 :: x2 :: x3 :: x4 :: x5 :: some (.int w) :: r) st t h) : zAW E b G nL cells slots pc (x0 :: x1 :: x2 :: x3 :: x4 :: x5 :: some (.int v) :: r) st t h := by
  obtain ⟨p, l, e, R, s, m, args, below, meth, c, Q⟩ := G
  intro H locs la hH hS hl
  obtain ⟨q, hq⟩ := List.getElem?_of_mem ((zAs_mem (x0 :: x1 :: x2 :: x3 :: x4 :: x5 :: some (.int v) :: r) 0 6 (.int v)).mpr ⟨6, rfl, rfl⟩)
  exact lv_iinc C.1 C.2.1 hd hl hq hv hn rfl (fun la2 hl2 => kk H locs la2 hH hS (zLs_st1 hl2 (fun j x hj hx => by cases hj; cases hx; exact hok)))
theorem zz_iload_7 {E : zE} {b : Nat} {G : zG} {own : String} {cc : ByteArray} {nL : Nat} {rt : Option FieldType} {cells slots pc : Nat} {t : zT} {h : zH} {x0 x1 x2 x3 x4 x5 x6 : Option Value} {r : List (Option Value)} {st : List Value} (C : zCx E b G own cc nL rt) {v : Int32} (hd : decode cc pc = .ok (.iload 7, 2)) (kk : zAW E b G nL cells slots (pc + 2) (x0 :: x1 :: x2 :: x3 :: x4 :: x5 :: x6 :: some (.int v) :: r) (.int v :: st) t h) : zAW E b G nL cells slots pc (x0 :: x1 :: x2 :: x3 :: x4 :: x5 :: x6 :: some (.int v) :: r) st t h := by
  obtain ⟨p, l, e, R, s, m, args, below, meth, c, Q⟩ := G
  intro H locs la hH hS hl
  exact lv_iload C.1 C.2.1 hd (zLs_at (k := 7) hl rfl) (kk H locs la hH hS hl)
theorem zz_istore_7 {E : zE} {b : Nat} {G : zG} {own : String} {cc : ByteArray} {nL : Nat} {rt : Option FieldType} {cells slots pc : Nat} {t : zT} {h : zH} {x0 x1 x2 x3 x4 x5 x6 : Option Value} {y : Option Value} {r : List (Option Value)} {st : List Value} (C : zCx E b G own cc nL rt) {v : Int32} (hn : 7 < nL) (hok : zok x6 = true) (hd : decode cc pc = .ok (.istore 7, 2)) (kk : zAW E b G nL cells slots (pc + 2) (x0 :: x1 :: x2 :: x3 :: x4 :: x5 :: x6 :: some (.int v) :: r) st t h) : zAW E b G nL cells slots pc (x0 :: x1 :: x2 :: x3 :: x4 :: x5 :: x6 :: y :: r) (.int v :: st) t h := by
  obtain ⟨p, l, e, R, s, m, args, below, meth, c, Q⟩ := G
  intro H locs la hH hS hl
  exact lv_istore C.1 C.2.1 hd hl hn rfl (fun la2 hl2 => kk H locs la2 hH hS (zLs_st1 hl2 (fun j x hj hx => by cases hj; cases hx; exact hok)))
theorem zz_lload_7 {E : zE} {b : Nat} {G : zG} {own : String} {cc : ByteArray} {nL : Nat} {rt : Option FieldType} {cells slots pc : Nat} {t : zT} {h : zH} {x0 x1 x2 x3 x4 x5 x6 : Option Value} {r : List (Option Value)} {st : List Value} (C : zCx E b G own cc nL rt) {v : Int64} (hd : decode cc pc = .ok (.lload 7, 2)) (kk : zAW E b G nL cells slots (pc + 2) (x0 :: x1 :: x2 :: x3 :: x4 :: x5 :: x6 :: some (.long v) :: r) (.long v :: st) t h) : zAW E b G nL cells slots pc (x0 :: x1 :: x2 :: x3 :: x4 :: x5 :: x6 :: some (.long v) :: r) st t h := by
  obtain ⟨p, l, e, R, s, m, args, below, meth, c, Q⟩ := G
  intro H locs la hH hS hl
  exact lv_lload C.1 C.2.1 hd (zLs_at (k := 7) hl rfl) (kk H locs la hH hS hl)
theorem zz_lstore_7 {E : zE} {b : Nat} {G : zG} {own : String} {cc : ByteArray} {nL : Nat} {rt : Option FieldType} {cells slots pc : Nat} {t : zT} {h : zH} {x0 x1 x2 x3 x4 x5 x6 : Option Value} {y y2 : Option Value} {r : List (Option Value)} {st : List Value} (C : zCx E b G own cc nL rt) {v : Int64} (hn : 8 < nL) (hok : zok x6 = true) (hd : decode cc pc = .ok (.lstore 7, 2)) (kk : zAW E b G nL cells slots (pc + 2) (x0 :: x1 :: x2 :: x3 :: x4 :: x5 :: x6 :: some (.long v) :: none :: r) st t h) : zAW E b G nL cells slots pc (x0 :: x1 :: x2 :: x3 :: x4 :: x5 :: x6 :: y :: y2 :: r) (.long v :: st) t h := by
  obtain ⟨p, l, e, R, s, m, args, below, meth, c, Q⟩ := G
  intro H locs la hH hS hl
  exact lv_lstore C.1 C.2.1 hd hl hn rfl (fun la2 hl2 => kk H locs la2 hH hS (zLs_st2 hl2 (fun j x hj hx => by cases hj; cases hx; exact hok)))
theorem zz_aload_7 {E : zE} {b : Nat} {G : zG} {own : String} {cc : ByteArray} {nL : Nat} {rt : Option FieldType} {cells slots pc : Nat} {t : zT} {h : zH} {x0 x1 x2 x3 x4 x5 x6 : Option Value} {r : List (Option Value)} {st : List Value} (C : zCx E b G own cc nL rt) {v : Nat} (hd : decode cc pc = .ok (.aload 7, 2)) (kk : zAW E b G nL cells slots (pc + 2) (x0 :: x1 :: x2 :: x3 :: x4 :: x5 :: x6 :: some (.ref v) :: r) (.ref v :: st) t h) : zAW E b G nL cells slots pc (x0 :: x1 :: x2 :: x3 :: x4 :: x5 :: x6 :: some (.ref v) :: r) st t h := by
  obtain ⟨p, l, e, R, s, m, args, below, meth, c, Q⟩ := G
  intro H locs la hH hS hl
  exact lv_aload C.1 C.2.1 hd (zLs_at (k := 7) hl rfl) (kk H locs la hH hS hl)
theorem zz_astore_7 {E : zE} {b : Nat} {G : zG} {own : String} {cc : ByteArray} {nL : Nat} {rt : Option FieldType} {cells slots pc : Nat} {t : zT} {h : zH} {x0 x1 x2 x3 x4 x5 x6 : Option Value} {y : Option Value} {r : List (Option Value)} {st : List Value} (C : zCx E b G own cc nL rt) {v : Nat} (hn : 7 < nL) (hok : zok x6 = true) (hd : decode cc pc = .ok (.astore 7, 2)) (kk : zAW E b G nL cells slots (pc + 2) (x0 :: x1 :: x2 :: x3 :: x4 :: x5 :: x6 :: some (.ref v) :: r) st t h) : zAW E b G nL cells slots pc (x0 :: x1 :: x2 :: x3 :: x4 :: x5 :: x6 :: y :: r) (.ref v :: st) t h := by
  obtain ⟨p, l, e, R, s, m, args, below, meth, c, Q⟩ := G
  intro H locs la hH hS hl
  exact lv_astore C.1 C.2.1 hd hl hn rfl (fun la2 hl2 => kk H locs la2 hH hS (zLs_st1 hl2 (fun j x hj hx => by cases hj; cases hx; exact hok)))
theorem zz_iinc_7 {E : zE} {b : Nat} {G : zG} {own : String} {cc : ByteArray} {nL : Nat} {rt : Option FieldType} {cells slots pc : Nat} {t : zT} {h : zH} {x0 x1 x2 x3 x4 x5 x6 : Option Value} {r : List (Option Value)} {st : List Value} (C : zCx E b G own cc nL rt) {v : Int32} {n : Int} (w : Int32) (hn : 7 < nL) (hok : zok x6 = true) (hd : decode cc pc = .ok (.iinc 7 n, 3)) (hv : v + Int32.ofInt n = w) (kk : zAW E b G nL cells slots (pc + 3) (x0 :: x1 :: x2 :: x3 :: x4 :: x5 :: x6 :: some (.int w) :: r) st t h) : zAW E b G nL cells slots pc (x0 :: x1 :: x2 :: x3 :: x4 :: x5 :: x6 :: some (.int v) :: r) st t h := by
  obtain ⟨p, l, e, R, s, m, args, below, meth, c, Q⟩ := G
  intro H locs la hH hS hl
  obtain ⟨q, hq⟩ := List.getElem?_of_mem ((zAs_mem (x0 :: x1 :: x2 :: x3 :: x4 :: x5 :: x6 :: some (.int v) :: r) 0 7 (.int v)).mpr ⟨7, rfl, rfl⟩)
  exact lv_iinc C.1 C.2.1 hd hl hq hv hn rfl (fun la2 hl2 => kk H locs la2 hH hS (zLs_st1 hl2 (fun j x hj hx => by cases hj; cases hx; exact hok)))
theorem zz_iload_8 {E : zE} {b : Nat} {G : zG} {own : String} {cc : ByteArray} {nL : Nat} {rt : Option FieldType} {cells slots pc : Nat} {t : zT} {h : zH} {x0 x1 x2 x3 x4 x5 x6 x7 : Option Value} {r : List (Option Value)} {st : List Value} (C : zCx E b G own cc nL rt) {v : Int32} (hd : decode cc pc = .ok (.iload 8, 2)) (kk : zAW E b G nL cells slots (pc + 2) (x0 :: x1 :: x2 :: x3 :: x4 :: x5 :: x6 :: x7 :: some (.int v) :: r) (.int v :: st) t h) : zAW E b G nL cells slots pc (x0 :: x1 :: x2 :: x3 :: x4 :: x5 :: x6 :: x7 :: some (.int v) :: r) st t h := by
  obtain ⟨p, l, e, R, s, m, args, below, meth, c, Q⟩ := G
  intro H locs la hH hS hl
  exact lv_iload C.1 C.2.1 hd (zLs_at (k := 8) hl rfl) (kk H locs la hH hS hl)
theorem zz_istore_8 {E : zE} {b : Nat} {G : zG} {own : String} {cc : ByteArray} {nL : Nat} {rt : Option FieldType} {cells slots pc : Nat} {t : zT} {h : zH} {x0 x1 x2 x3 x4 x5 x6 x7 : Option Value} {y : Option Value} {r : List (Option Value)} {st : List Value} (C : zCx E b G own cc nL rt) {v : Int32} (hn : 8 < nL) (hok : zok x7 = true) (hd : decode cc pc = .ok (.istore 8, 2)) (kk : zAW E b G nL cells slots (pc + 2) (x0 :: x1 :: x2 :: x3 :: x4 :: x5 :: x6 :: x7 :: some (.int v) :: r) st t h) : zAW E b G nL cells slots pc (x0 :: x1 :: x2 :: x3 :: x4 :: x5 :: x6 :: x7 :: y :: r) (.int v :: st) t h := by
  obtain ⟨p, l, e, R, s, m, args, below, meth, c, Q⟩ := G
  intro H locs la hH hS hl
  exact lv_istore C.1 C.2.1 hd hl hn rfl (fun la2 hl2 => kk H locs la2 hH hS (zLs_st1 hl2 (fun j x hj hx => by cases hj; cases hx; exact hok)))
theorem zz_lload_8 {E : zE} {b : Nat} {G : zG} {own : String} {cc : ByteArray} {nL : Nat} {rt : Option FieldType} {cells slots pc : Nat} {t : zT} {h : zH} {x0 x1 x2 x3 x4 x5 x6 x7 : Option Value} {r : List (Option Value)} {st : List Value} (C : zCx E b G own cc nL rt) {v : Int64} (hd : decode cc pc = .ok (.lload 8, 2)) (kk : zAW E b G nL cells slots (pc + 2) (x0 :: x1 :: x2 :: x3 :: x4 :: x5 :: x6 :: x7 :: some (.long v) :: r) (.long v :: st) t h) : zAW E b G nL cells slots pc (x0 :: x1 :: x2 :: x3 :: x4 :: x5 :: x6 :: x7 :: some (.long v) :: r) st t h := by
  obtain ⟨p, l, e, R, s, m, args, below, meth, c, Q⟩ := G
  intro H locs la hH hS hl
  exact lv_lload C.1 C.2.1 hd (zLs_at (k := 8) hl rfl) (kk H locs la hH hS hl)
theorem zz_lstore_8 {E : zE} {b : Nat} {G : zG} {own : String} {cc : ByteArray} {nL : Nat} {rt : Option FieldType} {cells slots pc : Nat} {t : zT} {h : zH} {x0 x1 x2 x3 x4 x5 x6 x7 : Option Value} {y y2 : Option Value} {r : List (Option Value)} {st : List Value} (C : zCx E b G own cc nL rt) {v : Int64} (hn : 9 < nL) (hok : zok x7 = true) (hd : decode cc pc = .ok (.lstore 8, 2)) (kk : zAW E b G nL cells slots (pc + 2) (x0 :: x1 :: x2 :: x3 :: x4 :: x5 :: x6 :: x7 :: some (.long v) :: none :: r) st t h) : zAW E b G nL cells slots pc (x0 :: x1 :: x2 :: x3 :: x4 :: x5 :: x6 :: x7 :: y :: y2 :: r) (.long v :: st) t h := by
  obtain ⟨p, l, e, R, s, m, args, below, meth, c, Q⟩ := G
  intro H locs la hH hS hl
  exact lv_lstore C.1 C.2.1 hd hl hn rfl (fun la2 hl2 => kk H locs la2 hH hS (zLs_st2 hl2 (fun j x hj hx => by cases hj; cases hx; exact hok)))
theorem zz_aload_8 {E : zE} {b : Nat} {G : zG} {own : String} {cc : ByteArray} {nL : Nat} {rt : Option FieldType} {cells slots pc : Nat} {t : zT} {h : zH} {x0 x1 x2 x3 x4 x5 x6 x7 : Option Value} {r : List (Option Value)} {st : List Value} (C : zCx E b G own cc nL rt) {v : Nat} (hd : decode cc pc = .ok (.aload 8, 2)) (kk : zAW E b G nL cells slots (pc + 2) (x0 :: x1 :: x2 :: x3 :: x4 :: x5 :: x6 :: x7 :: some (.ref v) :: r) (.ref v :: st) t h) : zAW E b G nL cells slots pc (x0 :: x1 :: x2 :: x3 :: x4 :: x5 :: x6 :: x7 :: some (.ref v) :: r) st t h := by
  obtain ⟨p, l, e, R, s, m, args, below, meth, c, Q⟩ := G
  intro H locs la hH hS hl
  exact lv_aload C.1 C.2.1 hd (zLs_at (k := 8) hl rfl) (kk H locs la hH hS hl)
theorem zz_astore_8 {E : zE} {b : Nat} {G : zG} {own : String} {cc : ByteArray} {nL : Nat} {rt : Option FieldType} {cells slots pc : Nat} {t : zT} {h : zH} {x0 x1 x2 x3 x4 x5 x6 x7 : Option Value} {y : Option Value} {r : List (Option Value)} {st : List Value} (C : zCx E b G own cc nL rt) {v : Nat} (hn : 8 < nL) (hok : zok x7 = true) (hd : decode cc pc = .ok (.astore 8, 2)) (kk : zAW E b G nL cells slots (pc + 2) (x0 :: x1 :: x2 :: x3 :: x4 :: x5 :: x6 :: x7 :: some (.ref v) :: r) st t h) : zAW E b G nL cells slots pc (x0 :: x1 :: x2 :: x3 :: x4 :: x5 :: x6 :: x7 :: y :: r) (.ref v :: st) t h := by
  obtain ⟨p, l, e, R, s, m, args, below, meth, c, Q⟩ := G
  intro H locs la hH hS hl
  exact lv_astore C.1 C.2.1 hd hl hn rfl (fun la2 hl2 => kk H locs la2 hH hS (zLs_st1 hl2 (fun j x hj hx => by cases hj; cases hx; exact hok)))
theorem zz_iinc_8 {E : zE} {b : Nat} {G : zG} {own : String} {cc : ByteArray} {nL : Nat} {rt : Option FieldType} {cells slots pc : Nat} {t : zT} {h : zH} {x0 x1 x2 x3 x4 x5 x6 x7 : Option Value} {r : List (Option Value)} {st : List Value} (C : zCx E b G own cc nL rt) {v : Int32} {n : Int} (w : Int32) (hn : 8 < nL) (hok : zok x7 = true) (hd : decode cc pc = .ok (.iinc 8 n, 3)) (hv : v + Int32.ofInt n = w) (kk : zAW E b G nL cells slots (pc + 3) (x0 :: x1 :: x2 :: x3 :: x4 :: x5 :: x6 :: x7 :: some (.int w) :: r) st t h) : zAW E b G nL cells slots pc (x0 :: x1 :: x2 :: x3 :: x4 :: x5 :: x6 :: x7 :: some (.int v) :: r) st t h := by
  obtain ⟨p, l, e, R, s, m, args, below, meth, c, Q⟩ := G
  intro H locs la hH hS hl
  obtain ⟨q, hq⟩ := List.getElem?_of_mem ((zAs_mem (x0 :: x1 :: x2 :: x3 :: x4 :: x5 :: x6 :: x7 :: some (.int v) :: r) 0 8 (.int v)).mpr ⟨8, rfl, rfl⟩)
  exact lv_iinc C.1 C.2.1 hd hl hq hv hn rfl (fun la2 hl2 => kk H locs la2 hH hS (zLs_st1 hl2 (fun j x hj hx => by cases hj; cases hx; exact hok)))
theorem zz_iload_9 {E : zE} {b : Nat} {G : zG} {own : String} {cc : ByteArray} {nL : Nat} {rt : Option FieldType} {cells slots pc : Nat} {t : zT} {h : zH} {x0 x1 x2 x3 x4 x5 x6 x7 x8 : Option Value} {r : List (Option Value)} {st : List Value} (C : zCx E b G own cc nL rt) {v : Int32} (hd : decode cc pc = .ok (.iload 9, 2)) (kk : zAW E b G nL cells slots (pc + 2) (x0 :: x1 :: x2 :: x3 :: x4 :: x5 :: x6 :: x7 :: x8 :: some (.int v) :: r) (.int v :: st) t h) : zAW E b G nL cells slots pc (x0 :: x1 :: x2 :: x3 :: x4 :: x5 :: x6 :: x7 :: x8 :: some (.int v) :: r) st t h := by
  obtain ⟨p, l, e, R, s, m, args, below, meth, c, Q⟩ := G
  intro H locs la hH hS hl
  exact lv_iload C.1 C.2.1 hd (zLs_at (k := 9) hl rfl) (kk H locs la hH hS hl)
theorem zz_istore_9 {E : zE} {b : Nat} {G : zG} {own : String} {cc : ByteArray} {nL : Nat} {rt : Option FieldType} {cells slots pc : Nat} {t : zT} {h : zH} {x0 x1 x2 x3 x4 x5 x6 x7 x8 : Option Value} {y : Option Value} {r : List (Option Value)} {st : List Value} (C : zCx E b G own cc nL rt) {v : Int32} (hn : 9 < nL) (hok : zok x8 = true) (hd : decode cc pc = .ok (.istore 9, 2)) (kk : zAW E b G nL cells slots (pc + 2) (x0 :: x1 :: x2 :: x3 :: x4 :: x5 :: x6 :: x7 :: x8 :: some (.int v) :: r) st t h) : zAW E b G nL cells slots pc (x0 :: x1 :: x2 :: x3 :: x4 :: x5 :: x6 :: x7 :: x8 :: y :: r) (.int v :: st) t h := by
  obtain ⟨p, l, e, R, s, m, args, below, meth, c, Q⟩ := G
  intro H locs la hH hS hl
  exact lv_istore C.1 C.2.1 hd hl hn rfl (fun la2 hl2 => kk H locs la2 hH hS (zLs_st1 hl2 (fun j x hj hx => by cases hj; cases hx; exact hok)))
theorem zz_lload_9 {E : zE} {b : Nat} {G : zG} {own : String} {cc : ByteArray} {nL : Nat} {rt : Option FieldType} {cells slots pc : Nat} {t : zT} {h : zH} {x0 x1 x2 x3 x4 x5 x6 x7 x8 : Option Value} {r : List (Option Value)} {st : List Value} (C : zCx E b G own cc nL rt) {v : Int64} (hd : decode cc pc = .ok (.lload 9, 2)) (kk : zAW E b G nL cells slots (pc + 2) (x0 :: x1 :: x2 :: x3 :: x4 :: x5 :: x6 :: x7 :: x8 :: some (.long v) :: r) (.long v :: st) t h) : zAW E b G nL cells slots pc (x0 :: x1 :: x2 :: x3 :: x4 :: x5 :: x6 :: x7 :: x8 :: some (.long v) :: r) st t h := by
  obtain ⟨p, l, e, R, s, m, args, below, meth, c, Q⟩ := G
  intro H locs la hH hS hl
  exact lv_lload C.1 C.2.1 hd (zLs_at (k := 9) hl rfl) (kk H locs la hH hS hl)
theorem zz_lstore_9 {E : zE} {b : Nat} {G : zG} {own : String} {cc : ByteArray} {nL : Nat} {rt : Option FieldType} {cells slots pc : Nat} {t : zT} {h : zH} {x0 x1 x2 x3 x4 x5 x6 x7 x8 : Option Value} {y y2 : Option Value} {r : List (Option Value)} {st : List Value} (C : zCx E b G own cc nL rt) {v : Int64} (hn : 10 < nL) (hok : zok x8 = true) (hd : decode cc pc = .ok (.lstore 9, 2)) (kk : zAW E b G nL cells slots (pc + 2) (x0 :: x1 :: x2 :: x3 :: x4 :: x5 :: x6 :: x7 :: x8 :: some (.long v) :: none :: r) st t h) : zAW E b G nL cells slots pc (x0 :: x1 :: x2 :: x3 :: x4 :: x5 :: x6 :: x7 :: x8 :: y :: y2 :: r) (.long v :: st) t h := by
  obtain ⟨p, l, e, R, s, m, args, below, meth, c, Q⟩ := G
  intro H locs la hH hS hl
  exact lv_lstore C.1 C.2.1 hd hl hn rfl (fun la2 hl2 => kk H locs la2 hH hS (zLs_st2 hl2 (fun j x hj hx => by cases hj; cases hx; exact hok)))
theorem zz_aload_9 {E : zE} {b : Nat} {G : zG} {own : String} {cc : ByteArray} {nL : Nat} {rt : Option FieldType} {cells slots pc : Nat} {t : zT} {h : zH} {x0 x1 x2 x3 x4 x5 x6 x7 x8 : Option Value} {r : List (Option Value)} {st : List Value} (C : zCx E b G own cc nL rt) {v : Nat} (hd : decode cc pc = .ok (.aload 9, 2)) (kk : zAW E b G nL cells slots (pc + 2) (x0 :: x1 :: x2 :: x3 :: x4 :: x5 :: x6 :: x7 :: x8 :: some (.ref v) :: r) (.ref v :: st) t h) : zAW E b G nL cells slots pc (x0 :: x1 :: x2 :: x3 :: x4 :: x5 :: x6 :: x7 :: x8 :: some (.ref v) :: r) st t h := by
  obtain ⟨p, l, e, R, s, m, args, below, meth, c, Q⟩ := G
  intro H locs la hH hS hl
  exact lv_aload C.1 C.2.1 hd (zLs_at (k := 9) hl rfl) (kk H locs la hH hS hl)
theorem zz_astore_9 {E : zE} {b : Nat} {G : zG} {own : String} {cc : ByteArray} {nL : Nat} {rt : Option FieldType} {cells slots pc : Nat} {t : zT} {h : zH} {x0 x1 x2 x3 x4 x5 x6 x7 x8 : Option Value} {y : Option Value} {r : List (Option Value)} {st : List Value} (C : zCx E b G own cc nL rt) {v : Nat} (hn : 9 < nL) (hok : zok x8 = true) (hd : decode cc pc = .ok (.astore 9, 2)) (kk : zAW E b G nL cells slots (pc + 2) (x0 :: x1 :: x2 :: x3 :: x4 :: x5 :: x6 :: x7 :: x8 :: some (.ref v) :: r) st t h) : zAW E b G nL cells slots pc (x0 :: x1 :: x2 :: x3 :: x4 :: x5 :: x6 :: x7 :: x8 :: y :: r) (.ref v :: st) t h := by
  obtain ⟨p, l, e, R, s, m, args, below, meth, c, Q⟩ := G
  intro H locs la hH hS hl
  exact lv_astore C.1 C.2.1 hd hl hn rfl (fun la2 hl2 => kk H locs la2 hH hS (zLs_st1 hl2 (fun j x hj hx => by cases hj; cases hx; exact hok)))
theorem zz_iinc_9 {E : zE} {b : Nat} {G : zG} {own : String} {cc : ByteArray} {nL : Nat} {rt : Option FieldType} {cells slots pc : Nat} {t : zT} {h : zH} {x0 x1 x2 x3 x4 x5 x6 x7 x8 : Option Value} {r : List (Option Value)} {st : List Value} (C : zCx E b G own cc nL rt) {v : Int32} {n : Int} (w : Int32) (hn : 9 < nL) (hok : zok x8 = true) (hd : decode cc pc = .ok (.iinc 9 n, 3)) (hv : v + Int32.ofInt n = w) (kk : zAW E b G nL cells slots (pc + 3) (x0 :: x1 :: x2 :: x3 :: x4 :: x5 :: x6 :: x7 :: x8 :: some (.int w) :: r) st t h) : zAW E b G nL cells slots pc (x0 :: x1 :: x2 :: x3 :: x4 :: x5 :: x6 :: x7 :: x8 :: some (.int v) :: r) st t h := by
  obtain ⟨p, l, e, R, s, m, args, below, meth, c, Q⟩ := G
  intro H locs la hH hS hl
  obtain ⟨q, hq⟩ := List.getElem?_of_mem ((zAs_mem (x0 :: x1 :: x2 :: x3 :: x4 :: x5 :: x6 :: x7 :: x8 :: some (.int v) :: r) 0 9 (.int v)).mpr ⟨9, rfl, rfl⟩)
  exact lv_iinc C.1 C.2.1 hd hl hq hv hn rfl (fun la2 hl2 => kk H locs la2 hH hS (zLs_st1 hl2 (fun j x hj hx => by cases hj; cases hx; exact hok)))
theorem zz_iload_10 {E : zE} {b : Nat} {G : zG} {own : String} {cc : ByteArray} {nL : Nat} {rt : Option FieldType} {cells slots pc : Nat} {t : zT} {h : zH} {x0 x1 x2 x3 x4 x5 x6 x7 x8 x9 : Option Value} {r : List (Option Value)} {st : List Value} (C : zCx E b G own cc nL rt) {v : Int32} (hd : decode cc pc = .ok (.iload 10, 2)) (kk : zAW E b G nL cells slots (pc + 2) (x0 :: x1 :: x2 :: x3 :: x4 :: x5 :: x6 :: x7 :: x8 :: x9 :: some (.int v) :: r) (.int v :: st) t h) : zAW E b G nL cells slots pc (x0 :: x1 :: x2 :: x3 :: x4 :: x5 :: x6 :: x7 :: x8 :: x9 :: some (.int v) :: r) st t h := by
  obtain ⟨p, l, e, R, s, m, args, below, meth, c, Q⟩ := G
  intro H locs la hH hS hl
  exact lv_iload C.1 C.2.1 hd (zLs_at (k := 10) hl rfl) (kk H locs la hH hS hl)
theorem zz_istore_10 {E : zE} {b : Nat} {G : zG} {own : String} {cc : ByteArray} {nL : Nat} {rt : Option FieldType} {cells slots pc : Nat} {t : zT} {h : zH} {x0 x1 x2 x3 x4 x5 x6 x7 x8 x9 : Option Value} {y : Option Value} {r : List (Option Value)} {st : List Value} (C : zCx E b G own cc nL rt) {v : Int32} (hn : 10 < nL) (hok : zok x9 = true) (hd : decode cc pc = .ok (.istore 10, 2)) (kk : zAW E b G nL cells slots (pc + 2) (x0 :: x1 :: x2 :: x3 :: x4 :: x5 :: x6 :: x7 :: x8 :: x9 :: some (.int v) :: r) st t h) : zAW E b G nL cells slots pc (x0 :: x1 :: x2 :: x3 :: x4 :: x5 :: x6 :: x7 :: x8 :: x9 :: y :: r) (.int v :: st) t h := by
  obtain ⟨p, l, e, R, s, m, args, below, meth, c, Q⟩ := G
  intro H locs la hH hS hl
  exact lv_istore C.1 C.2.1 hd hl hn rfl (fun la2 hl2 => kk H locs la2 hH hS (zLs_st1 hl2 (fun j x hj hx => by cases hj; cases hx; exact hok)))
theorem zz_lload_10 {E : zE} {b : Nat} {G : zG} {own : String} {cc : ByteArray} {nL : Nat} {rt : Option FieldType} {cells slots pc : Nat} {t : zT} {h : zH} {x0 x1 x2 x3 x4 x5 x6 x7 x8 x9 : Option Value} {r : List (Option Value)} {st : List Value} (C : zCx E b G own cc nL rt) {v : Int64} (hd : decode cc pc = .ok (.lload 10, 2)) (kk : zAW E b G nL cells slots (pc + 2) (x0 :: x1 :: x2 :: x3 :: x4 :: x5 :: x6 :: x7 :: x8 :: x9 :: some (.long v) :: r) (.long v :: st) t h) : zAW E b G nL cells slots pc (x0 :: x1 :: x2 :: x3 :: x4 :: x5 :: x6 :: x7 :: x8 :: x9 :: some (.long v) :: r) st t h := by
  obtain ⟨p, l, e, R, s, m, args, below, meth, c, Q⟩ := G
  intro H locs la hH hS hl
  exact lv_lload C.1 C.2.1 hd (zLs_at (k := 10) hl rfl) (kk H locs la hH hS hl)
theorem zz_lstore_10 {E : zE} {b : Nat} {G : zG} {own : String} {cc : ByteArray} {nL : Nat} {rt : Option FieldType} {cells slots pc : Nat} {t : zT} {h : zH} {x0 x1 x2 x3 x4 x5 x6 x7 x8 x9 : Option Value} {y y2 : Option Value} {r : List (Option Value)} {st : List Value} (C : zCx E b G own cc nL rt) {v : Int64} (hn : 11 < nL) (hok : zok x9 = true) (hd : decode cc pc = .ok (.lstore 10, 2)) (kk : zAW E b G nL cells slots (pc + 2) (x0 :: x1 :: x2 :: x3 :: x4 :: x5 :: x6 :: x7 :: x8 :: x9 :: some (.long v) :: none :: r) st t h) : zAW E b G nL cells slots pc (x0 :: x1 :: x2 :: x3 :: x4 :: x5 :: x6 :: x7 :: x8 :: x9 :: y :: y2 :: r) (.long v :: st) t h := by
  obtain ⟨p, l, e, R, s, m, args, below, meth, c, Q⟩ := G
  intro H locs la hH hS hl
  exact lv_lstore C.1 C.2.1 hd hl hn rfl (fun la2 hl2 => kk H locs la2 hH hS (zLs_st2 hl2 (fun j x hj hx => by cases hj; cases hx; exact hok)))
theorem zz_aload_10 {E : zE} {b : Nat} {G : zG} {own : String} {cc : ByteArray} {nL : Nat} {rt : Option FieldType} {cells slots pc : Nat} {t : zT} {h : zH} {x0 x1 x2 x3 x4 x5 x6 x7 x8 x9 : Option Value} {r : List (Option Value)} {st : List Value} (C : zCx E b G own cc nL rt) {v : Nat} (hd : decode cc pc = .ok (.aload 10, 2)) (kk : zAW E b G nL cells slots (pc + 2) (x0 :: x1 :: x2 :: x3 :: x4 :: x5 :: x6 :: x7 :: x8 :: x9 :: some (.ref v) :: r) (.ref v :: st) t h) : zAW E b G nL cells slots pc (x0 :: x1 :: x2 :: x3 :: x4 :: x5 :: x6 :: x7 :: x8 :: x9 :: some (.ref v) :: r) st t h := by
  obtain ⟨p, l, e, R, s, m, args, below, meth, c, Q⟩ := G
  intro H locs la hH hS hl
  exact lv_aload C.1 C.2.1 hd (zLs_at (k := 10) hl rfl) (kk H locs la hH hS hl)
theorem zz_astore_10 {E : zE} {b : Nat} {G : zG} {own : String} {cc : ByteArray} {nL : Nat} {rt : Option FieldType} {cells slots pc : Nat} {t : zT} {h : zH} {x0 x1 x2 x3 x4 x5 x6 x7 x8 x9 : Option Value} {y : Option Value} {r : List (Option Value)} {st : List Value} (C : zCx E b G own cc nL rt) {v : Nat} (hn : 10 < nL) (hok : zok x9 = true) (hd : decode cc pc = .ok (.astore 10, 2)) (kk : zAW E b G nL cells slots (pc + 2) (x0 :: x1 :: x2 :: x3 :: x4 :: x5 :: x6 :: x7 :: x8 :: x9 :: some (.ref v) :: r) st t h) : zAW E b G nL cells slots pc (x0 :: x1 :: x2 :: x3 :: x4 :: x5 :: x6 :: x7 :: x8 :: x9 :: y :: r) (.ref v :: st) t h := by
  obtain ⟨p, l, e, R, s, m, args, below, meth, c, Q⟩ := G
  intro H locs la hH hS hl
  exact lv_astore C.1 C.2.1 hd hl hn rfl (fun la2 hl2 => kk H locs la2 hH hS (zLs_st1 hl2 (fun j x hj hx => by cases hj; cases hx; exact hok)))
theorem zz_iinc_10 {E : zE} {b : Nat} {G : zG} {own : String} {cc : ByteArray} {nL : Nat} {rt : Option FieldType} {cells slots pc : Nat} {t : zT} {h : zH} {x0 x1 x2 x3 x4 x5 x6 x7 x8 x9 : Option Value} {r : List (Option Value)} {st : List Value} (C : zCx E b G own cc nL rt) {v : Int32} {n : Int} (w : Int32) (hn : 10 < nL) (hok : zok x9 = true) (hd : decode cc pc = .ok (.iinc 10 n, 3)) (hv : v + Int32.ofInt n = w) (kk : zAW E b G nL cells slots (pc + 3) (x0 :: x1 :: x2 :: x3 :: x4 :: x5 :: x6 :: x7 :: x8 :: x9 :: some (.int w) :: r) st t h) : zAW E b G nL cells slots pc (x0 :: x1 :: x2 :: x3 :: x4 :: x5 :: x6 :: x7 :: x8 :: x9 :: some (.int v) :: r) st t h := by
  obtain ⟨p, l, e, R, s, m, args, below, meth, c, Q⟩ := G
  intro H locs la hH hS hl
  obtain ⟨q, hq⟩ := List.getElem?_of_mem ((zAs_mem (x0 :: x1 :: x2 :: x3 :: x4 :: x5 :: x6 :: x7 :: x8 :: x9 :: some (.int v) :: r) 0 10 (.int v)).mpr ⟨10, rfl, rfl⟩)
  exact lv_iinc C.1 C.2.1 hd hl hq hv hn rfl (fun la2 hl2 => kk H locs la2 hH hS (zLs_st1 hl2 (fun j x hj hx => by cases hj; cases hx; exact hok)))
theorem zz_iload_11 {E : zE} {b : Nat} {G : zG} {own : String} {cc : ByteArray} {nL : Nat} {rt : Option FieldType} {cells slots pc : Nat} {t : zT} {h : zH} {x0 x1 x2 x3 x4 x5 x6 x7 x8 x9 x10 : Option Value} {r : List (Option Value)} {st : List Value} (C : zCx E b G own cc nL rt) {v : Int32} (hd : decode cc pc = .ok (.iload 11, 2)) (kk : zAW E b G nL cells slots (pc + 2) (x0 :: x1 :: x2 :: x3 :: x4 :: x5 :: x6 :: x7 :: x8 :: x9 :: x10 :: some (.int v) :: r) (.int v :: st) t h) : zAW E b G nL cells slots pc (x0 :: x1 :: x2 :: x3 :: x4 :: x5 :: x6 :: x7 :: x8 :: x9 :: x10 :: some (.int v) :: r) st t h := by
  obtain ⟨p, l, e, R, s, m, args, below, meth, c, Q⟩ := G
  intro H locs la hH hS hl
  exact lv_iload C.1 C.2.1 hd (zLs_at (k := 11) hl rfl) (kk H locs la hH hS hl)
theorem zz_istore_11 {E : zE} {b : Nat} {G : zG} {own : String} {cc : ByteArray} {nL : Nat} {rt : Option FieldType} {cells slots pc : Nat} {t : zT} {h : zH} {x0 x1 x2 x3 x4 x5 x6 x7 x8 x9 x10 : Option Value} {y : Option Value} {r : List (Option Value)} {st : List Value} (C : zCx E b G own cc nL rt) {v : Int32} (hn : 11 < nL) (hok : zok x10 = true) (hd : decode cc pc = .ok (.istore 11, 2)) (kk : zAW E b G nL cells slots (pc + 2) (x0 :: x1 :: x2 :: x3 :: x4 :: x5 :: x6 :: x7 :: x8 :: x9 :: x10 :: some (.int v) :: r) st t h) : zAW E b G nL cells slots pc (x0 :: x1 :: x2 :: x3 :: x4 :: x5 :: x6 :: x7 :: x8 :: x9 :: x10 :: y :: r) (.int v :: st) t h := by
  obtain ⟨p, l, e, R, s, m, args, below, meth, c, Q⟩ := G
  intro H locs la hH hS hl
  exact lv_istore C.1 C.2.1 hd hl hn rfl (fun la2 hl2 => kk H locs la2 hH hS (zLs_st1 hl2 (fun j x hj hx => by cases hj; cases hx; exact hok)))
theorem zz_lload_11 {E : zE} {b : Nat} {G : zG} {own : String} {cc : ByteArray} {nL : Nat} {rt : Option FieldType} {cells slots pc : Nat} {t : zT} {h : zH} {x0 x1 x2 x3 x4 x5 x6 x7 x8 x9 x10 : Option Value} {r : List (Option Value)} {st : List Value} (C : zCx E b G own cc nL rt) {v : Int64} (hd : decode cc pc = .ok (.lload 11, 2)) (kk : zAW E b G nL cells slots (pc + 2) (x0 :: x1 :: x2 :: x3 :: x4 :: x5 :: x6 :: x7 :: x8 :: x9 :: x10 :: some (.long v) :: r) (.long v :: st) t h) : zAW E b G nL cells slots pc (x0 :: x1 :: x2 :: x3 :: x4 :: x5 :: x6 :: x7 :: x8 :: x9 :: x10 :: some (.long v) :: r) st t h := by
  obtain ⟨p, l, e, R, s, m, args, below, meth, c, Q⟩ := G
  intro H locs la hH hS hl
  exact lv_lload C.1 C.2.1 hd (zLs_at (k := 11) hl rfl) (kk H locs la hH hS hl)
theorem zz_lstore_11 {E : zE} {b : Nat} {G : zG} {own : String} {cc : ByteArray} {nL : Nat} {rt : Option FieldType} {cells slots pc : Nat} {t : zT} {h : zH} {x0 x1 x2 x3 x4 x5 x6 x7 x8 x9 x10 : Option Value} {y y2 : Option Value} {r : List (Option Value)} {st : List Value} (C : zCx E b G own cc nL rt) {v : Int64} (hn : 12 < nL) (hok : zok x10 = true) (hd : decode cc pc = .ok (.lstore 11, 2)) (kk : zAW E b G nL cells slots (pc + 2) (x0 :: x1 :: x2 :: x3 :: x4 :: x5 :: x6 :: x7 :: x8 :: x9 :: x10 :: some (.long v) :: none :: r) st t h) : zAW E b G nL cells slots pc (x0 :: x1 :: x2 :: x3 :: x4 :: x5 :: x6 :: x7 :: x8 :: x9 :: x10 :: y :: y2 :: r) (.long v :: st) t h := by
  obtain ⟨p, l, e, R, s, m, args, below, meth, c, Q⟩ := G
  intro H locs la hH hS hl
  exact lv_lstore C.1 C.2.1 hd hl hn rfl (fun la2 hl2 => kk H locs la2 hH hS (zLs_st2 hl2 (fun j x hj hx => by cases hj; cases hx; exact hok)))
theorem zz_aload_11 {E : zE} {b : Nat} {G : zG} {own : String} {cc : ByteArray} {nL : Nat} {rt : Option FieldType} {cells slots pc : Nat} {t : zT} {h : zH} {x0 x1 x2 x3 x4 x5 x6 x7 x8 x9 x10 : Option Value} {r : List (Option Value)} {st : List Value} (C : zCx E b G own cc nL rt) {v : Nat} (hd : decode cc pc = .ok (.aload 11, 2)) (kk : zAW E b G nL cells slots (pc + 2) (x0 :: x1 :: x2 :: x3 :: x4 :: x5 :: x6 :: x7 :: x8 :: x9 :: x10 :: some (.ref v) :: r) (.ref v :: st) t h) : zAW E b G nL cells slots pc (x0 :: x1 :: x2 :: x3 :: x4 :: x5 :: x6 :: x7 :: x8 :: x9 :: x10 :: some (.ref v) :: r) st t h := by
  obtain ⟨p, l, e, R, s, m, args, below, meth, c, Q⟩ := G
  intro H locs la hH hS hl
  exact lv_aload C.1 C.2.1 hd (zLs_at (k := 11) hl rfl) (kk H locs la hH hS hl)
theorem zz_astore_11 {E : zE} {b : Nat} {G : zG} {own : String} {cc : ByteArray} {nL : Nat} {rt : Option FieldType} {cells slots pc : Nat} {t : zT} {h : zH} {x0 x1 x2 x3 x4 x5 x6 x7 x8 x9 x10 : Option Value} {y : Option Value} {r : List (Option Value)} {st : List Value} (C : zCx E b G own cc nL rt) {v : Nat} (hn : 11 < nL) (hok : zok x10 = true) (hd : decode cc pc = .ok (.astore 11, 2)) (kk : zAW E b G nL cells slots (pc + 2) (x0 :: x1 :: x2 :: x3 :: x4 :: x5 :: x6 :: x7 :: x8 :: x9 :: x10 :: some (.ref v) :: r) st t h) : zAW E b G nL cells slots pc (x0 :: x1 :: x2 :: x3 :: x4 :: x5 :: x6 :: x7 :: x8 :: x9 :: x10 :: y :: r) (.ref v :: st) t h := by
  obtain ⟨p, l, e, R, s, m, args, below, meth, c, Q⟩ := G
  intro H locs la hH hS hl
  exact lv_astore C.1 C.2.1 hd hl hn rfl (fun la2 hl2 => kk H locs la2 hH hS (zLs_st1 hl2 (fun j x hj hx => by cases hj; cases hx; exact hok)))
theorem zz_iinc_11 {E : zE} {b : Nat} {G : zG} {own : String} {cc : ByteArray} {nL : Nat} {rt : Option FieldType} {cells slots pc : Nat} {t : zT} {h : zH} {x0 x1 x2 x3 x4 x5 x6 x7 x8 x9 x10 : Option Value} {r : List (Option Value)} {st : List Value} (C : zCx E b G own cc nL rt) {v : Int32} {n : Int} (w : Int32) (hn : 11 < nL) (hok : zok x10 = true) (hd : decode cc pc = .ok (.iinc 11 n, 3)) (hv : v + Int32.ofInt n = w) (kk : zAW E b G nL cells slots (pc + 3) (x0 :: x1 :: x2 :: x3 :: x4 :: x5 :: x6 :: x7 :: x8 :: x9 :: x10 :: some (.int w) :: r) st t h) : zAW E b G nL cells slots pc (x0 :: x1 :: x2 :: x3 :: x4 :: x5 :: x6 :: x7 :: x8 :: x9 :: x10 :: some (.int v) :: r) st t h := by
  obtain ⟨p, l, e, R, s, m, args, below, meth, c, Q⟩ := G
  intro H locs la hH hS hl
  obtain ⟨q, hq⟩ := List.getElem?_of_mem ((zAs_mem (x0 :: x1 :: x2 :: x3 :: x4 :: x5 :: x6 :: x7 :: x8 :: x9 :: x10 :: some (.int v) :: r) 0 11 (.int v)).mpr ⟨11, rfl, rfl⟩)
  exact lv_iinc C.1 C.2.1 hd hl hq hv hn rfl (fun la2 hl2 => kk H locs la2 hH hS (zLs_st1 hl2 (fun j x hj hx => by cases hj; cases hx; exact hok)))
theorem zz_iload_12 {E : zE} {b : Nat} {G : zG} {own : String} {cc : ByteArray} {nL : Nat} {rt : Option FieldType} {cells slots pc : Nat} {t : zT} {h : zH} {x0 x1 x2 x3 x4 x5 x6 x7 x8 x9 x10 x11 : Option Value} {r : List (Option Value)} {st : List Value} (C : zCx E b G own cc nL rt) {v : Int32} (hd : decode cc pc = .ok (.iload 12, 2)) (kk : zAW E b G nL cells slots (pc + 2) (x0 :: x1 :: x2 :: x3 :: x4 :: x5 :: x6 :: x7 :: x8 :: x9 :: x10 :: x11 :: some (.int v) :: r) (.int v :: st) t h) : zAW E b G nL cells slots pc (x0 :: x1 :: x2 :: x3 :: x4 :: x5 :: x6 :: x7 :: x8 :: x9 :: x10 :: x11 :: some (.int v) :: r) st t h := by
  obtain ⟨p, l, e, R, s, m, args, below, meth, c, Q⟩ := G
  intro H locs la hH hS hl
  exact lv_iload C.1 C.2.1 hd (zLs_at (k := 12) hl rfl) (kk H locs la hH hS hl)
theorem zz_istore_12 {E : zE} {b : Nat} {G : zG} {own : String} {cc : ByteArray} {nL : Nat} {rt : Option FieldType} {cells slots pc : Nat} {t : zT} {h : zH} {x0 x1 x2 x3 x4 x5 x6 x7 x8 x9 x10 x11 : Option Value} {y : Option Value} {r : List (Option Value)} {st : List Value} (C : zCx E b G own cc nL rt) {v : Int32} (hn : 12 < nL) (hok : zok x11 = true) (hd : decode cc pc = .ok (.istore 12, 2)) (kk : zAW E b G nL cells slots (pc + 2) (x0 :: x1 :: x2 :: x3 :: x4 :: x5 :: x6 :: x7 :: x8 :: x9 :: x10 :: x11 :: some (.int v) :: r) st t h) : zAW E b G nL cells slots pc (x0 :: x1 :: x2 :: x3 :: x4 :: x5 :: x6 :: x7 :: x8 :: x9 :: x10 :: x11 :: y :: r) (.int v :: st) t h := by
  obtain ⟨p, l, e, R, s, m, args, below, meth, c, Q⟩ := G
  intro H locs la hH hS hl
  exact lv_istore C.1 C.2.1 hd hl hn rfl (fun la2 hl2 => kk H locs la2 hH hS (zLs_st1 hl2 (fun j x hj hx => by cases hj; cases hx; exact hok)))
theorem zz_lload_12 {E : zE} {b : Nat} {G : zG} {own : String} {cc : ByteArray} {nL : Nat} {rt : Option FieldType} {cells slots pc : Nat} {t : zT} {h : zH} {x0 x1 x2 x3 x4 x5 x6 x7 x8 x9 x10 x11 : Option Value} {r : List (Option Value)} {st : List Value} (C : zCx E b G own cc nL rt) {v : Int64} (hd : decode cc pc = .ok (.lload 12, 2)) (kk : zAW E b G nL cells slots (pc + 2) (x0 :: x1 :: x2 :: x3 :: x4 :: x5 :: x6 :: x7 :: x8 :: x9 :: x10 :: x11 :: some (.long v) :: r) (.long v :: st) t h) : zAW E b G nL cells slots pc (x0 :: x1 :: x2 :: x3 :: x4 :: x5 :: x6 :: x7 :: x8 :: x9 :: x10 :: x11 :: some (.long v) :: r) st t h := by
  obtain ⟨p, l, e, R, s, m, args, below, meth, c, Q⟩ := G
  intro H locs la hH hS hl
  exact lv_lload C.1 C.2.1 hd (zLs_at (k := 12) hl rfl) (kk H locs la hH hS hl)
theorem zz_lstore_12 {E : zE} {b : Nat} {G : zG} {own : String} {cc : ByteArray} {nL : Nat} {rt : Option FieldType} {cells slots pc : Nat} {t : zT} {h : zH} {x0 x1 x2 x3 x4 x5 x6 x7 x8 x9 x10 x11 : Option Value} {y y2 : Option Value} {r : List (Option Value)} {st : List Value} (C : zCx E b G own cc nL rt) {v : Int64} (hn : 13 < nL) (hok : zok x11 = true) (hd : decode cc pc = .ok (.lstore 12, 2)) (kk : zAW E b G nL cells slots (pc + 2) (x0 :: x1 :: x2 :: x3 :: x4 :: x5 :: x6 :: x7 :: x8 :: x9 :: x10 :: x11 :: some (.long v) :: none :: r) st t h) : zAW E b G nL cells slots pc (x0 :: x1 :: x2 :: x3 :: x4 :: x5 :: x6 :: x7 :: x8 :: x9 :: x10 :: x11 :: y :: y2 :: r) (.long v :: st) t h := by
  obtain ⟨p, l, e, R, s, m, args, below, meth, c, Q⟩ := G
  intro H locs la hH hS hl
  exact lv_lstore C.1 C.2.1 hd hl hn rfl (fun la2 hl2 => kk H locs la2 hH hS (zLs_st2 hl2 (fun j x hj hx => by cases hj; cases hx; exact hok)))
theorem zz_aload_12 {E : zE} {b : Nat} {G : zG} {own : String} {cc : ByteArray} {nL : Nat} {rt : Option FieldType} {cells slots pc : Nat} {t : zT} {h : zH} {x0 x1 x2 x3 x4 x5 x6 x7 x8 x9 x10 x11 : Option Value} {r : List (Option Value)} {st : List Value} (C : zCx E b G own cc nL rt) {v : Nat} (hd : decode cc pc = .ok (.aload 12, 2)) (kk : zAW E b G nL cells slots (pc + 2) (x0 :: x1 :: x2 :: x3 :: x4 :: x5 :: x6 :: x7 :: x8 :: x9 :: x10 :: x11 :: some (.ref v) :: r) (.ref v :: st) t h) : zAW E b G nL cells slots pc (x0 :: x1 :: x2 :: x3 :: x4 :: x5 :: x6 :: x7 :: x8 :: x9 :: x10 :: x11 :: some (.ref v) :: r) st t h := by
  obtain ⟨p, l, e, R, s, m, args, below, meth, c, Q⟩ := G
  intro H locs la hH hS hl
  exact lv_aload C.1 C.2.1 hd (zLs_at (k := 12) hl rfl) (kk H locs la hH hS hl)
theorem zz_astore_12 {E : zE} {b : Nat} {G : zG} {own : String} {cc : ByteArray} {nL : Nat} {rt : Option FieldType} {cells slots pc : Nat} {t : zT} {h : zH} {x0 x1 x2 x3 x4 x5 x6 x7 x8 x9 x10 x11 : Option Value} {y : Option Value} {r : List (Option Value)} {st : List Value} (C : zCx E b G own cc nL rt) {v : Nat} (hn : 12 < nL) (hok : zok x11 = true) (hd : decode cc pc = .ok (.astore 12, 2)) (kk : zAW E b G nL cells slots (pc + 2) (x0 :: x1 :: x2 :: x3 :: x4 :: x5 :: x6 :: x7 :: x8 :: x9 :: x10 :: x11 :: some (.ref v) :: r) st t h) : zAW E b G nL cells slots pc (x0 :: x1 :: x2 :: x3 :: x4 :: x5 :: x6 :: x7 :: x8 :: x9 :: x10 :: x11 :: y :: r) (.ref v :: st) t h := by
  obtain ⟨p, l, e, R, s, m, args, below, meth, c, Q⟩ := G
  intro H locs la hH hS hl
  exact lv_astore C.1 C.2.1 hd hl hn rfl (fun la2 hl2 => kk H locs la2 hH hS (zLs_st1 hl2 (fun j x hj hx => by cases hj; cases hx; exact hok)))
theorem zz_iinc_12 {E : zE} {b : Nat} {G : zG} {own : String} {cc : ByteArray} {nL : Nat} {rt : Option FieldType} {cells slots pc : Nat} {t : zT} {h : zH} {x0 x1 x2 x3 x4 x5 x6 x7 x8 x9 x10 x11 : Option Value} {r : List (Option Value)} {st : List Value} (C : zCx E b G own cc nL rt) {v : Int32} {n : Int} (w : Int32) (hn : 12 < nL) (hok : zok x11 = true) (hd : decode cc pc = .ok (.iinc 12 n, 3)) (hv : v + Int32.ofInt n = w) (kk : zAW E b G nL cells slots (pc + 3) (x0 :: x1 :: x2 :: x3 :: x4 :: x5 :: x6 :: x7 :: x8 :: x9 :: x10 :: x11 :: some (.int w) :: r) st t h) : zAW E b G nL cells slots pc (x0 :: x1 :: x2 :: x3 :: x4 :: x5 :: x6 :: x7 :: x8 :: x9 :: x10 :: x11 :: some (.int v) :: r) st t h := by
  obtain ⟨p, l, e, R, s, m, args, below, meth, c, Q⟩ := G
  intro H locs la hH hS hl
  obtain ⟨q, hq⟩ := List.getElem?_of_mem ((zAs_mem (x0 :: x1 :: x2 :: x3 :: x4 :: x5 :: x6 :: x7 :: x8 :: x9 :: x10 :: x11 :: some (.int v) :: r) 0 12 (.int v)).mpr ⟨12, rfl, rfl⟩)
  exact lv_iinc C.1 C.2.1 hd hl hq hv hn rfl (fun la2 hl2 => kk H locs la2 hH hS (zLs_st1 hl2 (fun j x hj hx => by cases hj; cases hx; exact hok)))
theorem zz_iload_13 {E : zE} {b : Nat} {G : zG} {own : String} {cc : ByteArray} {nL : Nat} {rt : Option FieldType} {cells slots pc : Nat} {t : zT} {h : zH} {x0 x1 x2 x3 x4 x5 x6 x7 x8 x9 x10 x11 x12 : Option Value} {r : List (Option Value)} {st : List Value} (C : zCx E b G own cc nL rt) {v : Int32} (hd : decode cc pc = .ok (.iload 13, 2)) (kk : zAW E b G nL cells slots (pc + 2) (x0 :: x1 :: x2 :: x3 :: x4 :: x5 :: x6 :: x7 :: x8 :: x9 :: x10 :: x11 :: x12 :: some (.int v) :: r) (.int v :: st) t h) : zAW E b G nL cells slots pc (x0 :: x1 :: x2 :: x3 :: x4 :: x5 :: x6 :: x7 :: x8 :: x9 :: x10 :: x11 :: x12 :: some (.int v) :: r) st t h := by
  obtain ⟨p, l, e, R, s, m, args, below, meth, c, Q⟩ := G
  intro H locs la hH hS hl
  exact lv_iload C.1 C.2.1 hd (zLs_at (k := 13) hl rfl) (kk H locs la hH hS hl)
theorem zz_istore_13 {E : zE} {b : Nat} {G : zG} {own : String} {cc : ByteArray} {nL : Nat} {rt : Option FieldType} {cells slots pc : Nat} {t : zT} {h : zH} {x0 x1 x2 x3 x4 x5 x6 x7 x8 x9 x10 x11 x12 : Option Value} {y : Option Value} {r : List (Option Value)} {st : List Value} (C : zCx E b G own cc nL rt) {v : Int32} (hn : 13 < nL) (hok : zok x12 = true) (hd : decode cc pc = .ok (.istore 13, 2)) (kk : zAW E b G nL cells slots (pc + 2) (x0 :: x1 :: x2 :: x3 :: x4 :: x5 :: x6 :: x7 :: x8 :: x9 :: x10 :: x11 :: x12 :: some (.int v) :: r) st t h) : zAW E b G nL cells slots pc (x0 :: x1 :: x2 :: x3 :: x4 :: x5 :: x6 :: x7 :: x8 :: x9 :: x10 :: x11 :: x12 :: y :: r) (.int v :: st) t h := by
  obtain ⟨p, l, e, R, s, m, args, below, meth, c, Q⟩ := G
  intro H locs la hH hS hl
  exact lv_istore C.1 C.2.1 hd hl hn rfl (fun la2 hl2 => kk H locs la2 hH hS (zLs_st1 hl2 (fun j x hj hx => by cases hj; cases hx; exact hok)))
theorem zz_lload_13 {E : zE} {b : Nat} {G : zG} {own : String} {cc : ByteArray} {nL : Nat} {rt : Option FieldType} {cells slots pc : Nat} {t : zT} {h : zH} {x0 x1 x2 x3 x4 x5 x6 x7 x8 x9 x10 x11 x12 : Option Value} {r : List (Option Value)} {st : List Value} (C : zCx E b G own cc nL rt) {v : Int64} (hd : decode cc pc = .ok (.lload 13, 2)) (kk : zAW E b G nL cells slots (pc + 2) (x0 :: x1 :: x2 :: x3 :: x4 :: x5 :: x6 :: x7 :: x8 :: x9 :: x10 :: x11 :: x12 :: some (.long v) :: r) (.long v :: st) t h) : zAW E b G nL cells slots pc (x0 :: x1 :: x2 :: x3 :: x4 :: x5 :: x6 :: x7 :: x8 :: x9 :: x10 :: x11 :: x12 :: some (.long v) :: r) st t h := by
  obtain ⟨p, l, e, R, s, m, args, below, meth, c, Q⟩ := G
  intro H locs la hH hS hl
  exact lv_lload C.1 C.2.1 hd (zLs_at (k := 13) hl rfl) (kk H locs la hH hS hl)
theorem zz_lstore_13 {E : zE} {b : Nat} {G : zG} {own : String} {cc : ByteArray} {nL : Nat} {rt : Option FieldType} {cells slots pc : Nat} {t : zT} {h : zH} {x0 x1 x2 x3 x4 x5 x6 x7 x8 x9 x10 x11 x12 : Option Value} {y y2 : Option Value} {r : List (Option Value)} {st : List Value} (C : zCx E b G own cc nL rt) {v : Int64} (hn : 14 < nL) (hok : zok x12 = true) (hd : decode cc pc = .ok (.lstore 13, 2)) (kk : zAW E b G nL cells slots (pc + 2) (x0 :: x1 :: x2 :: x3 :: x4 :: x5 :: x6 :: x7 :: x8 :: x9 :: x10 :: x11 :: x12 :: some (.long v) :: none :: r) st t h) : zAW E b G nL cells slots pc (x0 :: x1 :: x2 :: x3 :: x4 :: x5 :: x6 :: x7 :: x8 :: x9 :: x10 :: x11 :: x12 :: y :: y2 :: r) (.long v :: st) t h := by
  obtain ⟨p, l, e, R, s, m, args, below, meth, c, Q⟩ := G
  intro H locs la hH hS hl
  exact lv_lstore C.1 C.2.1 hd hl hn rfl (fun la2 hl2 => kk H locs la2 hH hS (zLs_st2 hl2 (fun j x hj hx => by cases hj; cases hx; exact hok)))
theorem zz_aload_13 {E : zE} {b : Nat} {G : zG} {own : String} {cc : ByteArray} {nL : Nat} {rt : Option FieldType} {cells slots pc : Nat} {t : zT} {h : zH} {x0 x1 x2 x3 x4 x5 x6 x7 x8 x9 x10 x11 x12 : Option Value} {r : List (Option Value)} {st : List Value} (C : zCx E b G own cc nL rt) {v : Nat} (hd : decode cc pc = .ok (.aload 13, 2)) (kk : zAW E b G nL cells slots (pc + 2) (x0 :: x1 :: x2 :: x3 :: x4 :: x5 :: x6 :: x7 :: x8 :: x9 :: x10 :: x11 :: x12 :: some (.ref v) :: r) (.ref v :: st) t h) : zAW E b G nL cells slots pc (x0 :: x1 :: x2 :: x3 :: x4 :: x5 :: x6 :: x7 :: x8 :: x9 :: x10 :: x11 :: x12 :: some (.ref v) :: r) st t h := by
  obtain ⟨p, l, e, R, s, m, args, below, meth, c, Q⟩ := G
  intro H locs la hH hS hl
  exact lv_aload C.1 C.2.1 hd (zLs_at (k := 13) hl rfl) (kk H locs la hH hS hl)
theorem zz_astore_13 {E : zE} {b : Nat} {G : zG} {own : String} {cc : ByteArray} {nL : Nat} {rt : Option FieldType} {cells slots pc : Nat} {t : zT} {h : zH} {x0 x1 x2 x3 x4 x5 x6 x7 x8 x9 x10 x11 x12 : Option Value} {y : Option Value} {r : List (Option Value)} {st : List Value} (C : zCx E b G own cc nL rt) {v : Nat} (hn : 13 < nL) (hok : zok x12 = true) (hd : decode cc pc = .ok (.astore 13, 2)) (kk : zAW E b G nL cells slots (pc + 2) (x0 :: x1 :: x2 :: x3 :: x4 :: x5 :: x6 :: x7 :: x8 :: x9 :: x10 :: x11 :: x12 :: some (.ref v) :: r) st t h) : zAW E b G nL cells slots pc (x0 :: x1 :: x2 :: x3 :: x4 :: x5 :: x6 :: x7 :: x8 :: x9 :: x10 :: x11 :: x12 :: y :: r) (.ref v :: st) t h := by
  obtain ⟨p, l, e, R, s, m, args, below, meth, c, Q⟩ := G
  intro H locs la hH hS hl
  exact lv_astore C.1 C.2.1 hd hl hn rfl (fun la2 hl2 => kk H locs la2 hH hS (zLs_st1 hl2 (fun j x hj hx => by cases hj; cases hx; exact hok)))
theorem zz_iinc_13 {E : zE} {b : Nat} {G : zG} {own : String} {cc : ByteArray} {nL : Nat} {rt : Option FieldType} {cells slots pc : Nat} {t : zT} {h : zH} {x0 x1 x2 x3 x4 x5 x6 x7 x8 x9 x10 x11 x12 : Option Value} {r : List (Option Value)} {st : List Value} (C : zCx E b G own cc nL rt) {v : Int32} {n : Int} (w : Int32) (hn : 13 < nL) (hok : zok x12 = true) (hd : decode cc pc = .ok (.iinc 13 n, 3)) (hv : v + Int32.ofInt n = w) (kk : zAW E b G nL cells slots (pc + 3) (x0 :: x1 :: x2 :: x3 :: x4 :: x5 :: x6 :: x7 :: x8 :: x9 :: x10 :: x11 :: x12 :: some (.int w) :: r) st t h) : zAW E b G nL cells slots pc (x0 :: x1 :: x2 :: x3 :: x4 :: x5 :: x6 :: x7 :: x8 :: x9 :: x10 :: x11 :: x12 :: some (.int v) :: r) st t h := by
  obtain ⟨p, l, e, R, s, m, args, below, meth, c, Q⟩ := G
  intro H locs la hH hS hl
  obtain ⟨q, hq⟩ := List.getElem?_of_mem ((zAs_mem (x0 :: x1 :: x2 :: x3 :: x4 :: x5 :: x6 :: x7 :: x8 :: x9 :: x10 :: x11 :: x12 :: some (.int v) :: r) 0 13 (.int v)).mpr ⟨13, rfl, rfl⟩)
  exact lv_iinc C.1 C.2.1 hd hl hq hv hn rfl (fun la2 hl2 => kk H locs la2 hH hS (zLs_st1 hl2 (fun j x hj hx => by cases hj; cases hx; exact hok)))
theorem zz_iload_14 {E : zE} {b : Nat} {G : zG} {own : String} {cc : ByteArray} {nL : Nat} {rt : Option FieldType} {cells slots pc : Nat} {t : zT} {h : zH} {x0 x1 x2 x3 x4 x5 x6 x7 x8 x9 x10 x11 x12 x13 : Option Value} {r : List (Option Value)} {st : List Value} (C : zCx E b G own cc nL rt) {v : Int32} (hd : decode cc pc = .ok (.iload 14, 2)) (kk : zAW E b G nL cells slots (pc + 2) (x0 :: x1 :: x2 :: x3 :: x4 :: x5 :: x6 :: x7 :: x8 :: x9 :: x10 :: x11 :: x12 :: x13 :: some (.int v) :: r) (.int v :: st) t h) : zAW E b G nL cells slots pc (x0 :: x1 :: x2 :: x3 :: x4 :: x5 :: x6 :: x7 :: x8 :: x9 :: x10 :: x11 :: x12 :: x13 :: some (.int v) :: r) st t h := by
  obtain ⟨p, l, e, R, s, m, args, below, meth, c, Q⟩ := G
  intro H locs la hH hS hl
  exact lv_iload C.1 C.2.1 hd (zLs_at (k := 14) hl rfl) (kk H locs la hH hS hl)
theorem zz_istore_14 {E : zE} {b : Nat} {G : zG} {own : String} {cc : ByteArray} {nL : Nat} {rt : Option FieldType} {cells slots pc : Nat} {t : zT} {h : zH} {x0 x1 x2 x3 x4 x5 x6 x7 x8 x9 x10 x11 x12 x13 : Option Value} {y : Option Value} {r : List (Option Value)} {st : List Value} (C : zCx E b G own cc nL rt) {v : Int32} (hn : 14 < nL) (hok : zok x13 = true) (hd : decode cc pc = .ok (.istore 14, 2)) (kk : zAW E b G nL cells slots (pc + 2) (x0 :: x1 :: x2 :: x3 :: x4 :: x5 :: x6 :: x7 :: x8 :: x9 :: x10 :: x11 :: x12 :: x13 :: some (.int v) :: r) st t h) : zAW E b G nL cells slots pc (x0 :: x1 :: x2 :: x3 :: x4 :: x5 :: x6 :: x7 :: x8 :: x9 :: x10 :: x11 :: x12 :: x13 :: y :: r) (.int v :: st) t h := by
  obtain ⟨p, l, e, R, s, m, args, below, meth, c, Q⟩ := G
  intro H locs la hH hS hl
  exact lv_istore C.1 C.2.1 hd hl hn rfl (fun la2 hl2 => kk H locs la2 hH hS (zLs_st1 hl2 (fun j x hj hx => by cases hj; cases hx; exact hok)))
theorem zz_lload_14 {E : zE} {b : Nat} {G : zG} {own : String} {cc : ByteArray} {nL : Nat} {rt : Option FieldType} {cells slots pc : Nat} {t : zT} {h : zH} {x0 x1 x2 x3 x4 x5 x6 x7 x8 x9 x10 x11 x12 x13 : Option Value} {r : List (Option Value)} {st : List Value} (C : zCx E b G own cc nL rt) {v : Int64} (hd : decode cc pc = .ok (.lload 14, 2)) (kk : zAW E b G nL cells slots (pc + 2) (x0 :: x1 :: x2 :: x3 :: x4 :: x5 :: x6 :: x7 :: x8 :: x9 :: x10 :: x11 :: x12 :: x13 :: some (.long v) :: r) (.long v :: st) t h) : zAW E b G nL cells slots pc (x0 :: x1 :: x2 :: x3 :: x4 :: x5 :: x6 :: x7 :: x8 :: x9 :: x10 :: x11 :: x12 :: x13 :: some (.long v) :: r) st t h := by
  obtain ⟨p, l, e, R, s, m, args, below, meth, c, Q⟩ := G
  intro H locs la hH hS hl
  exact lv_lload C.1 C.2.1 hd (zLs_at (k := 14) hl rfl) (kk H locs la hH hS hl)
theorem zz_lstore_14 {E : zE} {b : Nat} {G : zG} {own : String} {cc : ByteArray} {nL : Nat} {rt : Option FieldType} {cells slots pc : Nat} {t : zT} {h : zH} {x0 x1 x2 x3 x4 x5 x6 x7 x8 x9 x10 x11 x12 x13 : Option Value} {y y2 : Option Value} {r : List (Option Value)} {st : List Value} (C : zCx E b G own cc nL rt) {v : Int64} (hn : 15 < nL) (hok : zok x13 = true) (hd : decode cc pc = .ok (.lstore 14, 2)) (kk : zAW E b G nL cells slots (pc + 2) (x0 :: x1 :: x2 :: x3 :: x4 :: x5 :: x6 :: x7 :: x8 :: x9 :: x10 :: x11 :: x12 :: x13 :: some (.long v) :: none :: r) st t h) : zAW E b G nL cells slots pc (x0 :: x1 :: x2 :: x3 :: x4 :: x5 :: x6 :: x7 :: x8 :: x9 :: x10 :: x11 :: x12 :: x13 :: y :: y2 :: r) (.long v :: st) t h := by
  obtain ⟨p, l, e, R, s, m, args, below, meth, c, Q⟩ := G
  intro H locs la hH hS hl
  exact lv_lstore C.1 C.2.1 hd hl hn rfl (fun la2 hl2 => kk H locs la2 hH hS (zLs_st2 hl2 (fun j x hj hx => by cases hj; cases hx; exact hok)))
theorem zz_aload_14 {E : zE} {b : Nat} {G : zG} {own : String} {cc : ByteArray} {nL : Nat} {rt : Option FieldType} {cells slots pc : Nat} {t : zT} {h : zH} {x0 x1 x2 x3 x4 x5 x6 x7 x8 x9 x10 x11 x12 x13 : Option Value} {r : List (Option Value)} {st : List Value} (C : zCx E b G own cc nL rt) {v : Nat} (hd : decode cc pc = .ok (.aload 14, 2)) (kk : zAW E b G nL cells slots (pc + 2) (x0 :: x1 :: x2 :: x3 :: x4 :: x5 :: x6 :: x7 :: x8 :: x9 :: x10 :: x11 :: x12 :: x13 :: some (.ref v) :: r) (.ref v :: st) t h) : zAW E b G nL cells slots pc (x0 :: x1 :: x2 :: x3 :: x4 :: x5 :: x6 :: x7 :: x8 :: x9 :: x10 :: x11 :: x12 :: x13 :: some (.ref v) :: r) st t h := by
  obtain ⟨p, l, e, R, s, m, args, below, meth, c, Q⟩ := G
  intro H locs la hH hS hl
  exact lv_aload C.1 C.2.1 hd (zLs_at (k := 14) hl rfl) (kk H locs la hH hS hl)
theorem zz_astore_14 {E : zE} {b : Nat} {G : zG} {own : String} {cc : ByteArray} {nL : Nat} {rt : Option FieldType} {cells slots pc : Nat} {t : zT} {h : zH} {x0 x1 x2 x3 x4 x5 x6 x7 x8 x9 x10 x11 x12 x13 : Option Value} {y : Option Value} {r : List (Option Value)} {st : List Value} (C : zCx E b G own cc nL rt) {v : Nat} (hn : 14 < nL) (hok : zok x13 = true) (hd : decode cc pc = .ok (.astore 14, 2)) (kk : zAW E b G nL cells slots (pc + 2) (x0 :: x1 :: x2 :: x3 :: x4 :: x5 :: x6 :: x7 :: x8 :: x9 :: x10 :: x11 :: x12 :: x13 :: some (.ref v) :: r) st t h) : zAW E b G nL cells slots pc (x0 :: x1 :: x2 :: x3 :: x4 :: x5 :: x6 :: x7 :: x8 :: x9 :: x10 :: x11 :: x12 :: x13 :: y :: r) (.ref v :: st) t h := by
  obtain ⟨p, l, e, R, s, m, args, below, meth, c, Q⟩ := G
  intro H locs la hH hS hl
  exact lv_astore C.1 C.2.1 hd hl hn rfl (fun la2 hl2 => kk H locs la2 hH hS (zLs_st1 hl2 (fun j x hj hx => by cases hj; cases hx; exact hok)))
theorem zz_iinc_14 {E : zE} {b : Nat} {G : zG} {own : String} {cc : ByteArray} {nL : Nat} {rt : Option FieldType} {cells slots pc : Nat} {t : zT} {h : zH} {x0 x1 x2 x3 x4 x5 x6 x7 x8 x9 x10 x11 x12 x13 : Option Value} {r : List (Option Value)} {st : List Value} (C : zCx E b G own cc nL rt) {v : Int32} {n : Int} (w : Int32) (hn : 14 < nL) (hok : zok x13 = true) (hd : decode cc pc = .ok (.iinc 14 n, 3)) (hv : v + Int32.ofInt n = w) (kk : zAW E b G nL cells slots (pc + 3) (x0 :: x1 :: x2 :: x3 :: x4 :: x5 :: x6 :: x7 :: x8 :: x9 :: x10 :: x11 :: x12 :: x13 :: some (.int w) :: r) st t h) : zAW E b G nL cells slots pc (x0 :: x1 :: x2 :: x3 :: x4 :: x5 :: x6 :: x7 :: x8 :: x9 :: x10 :: x11 :: x12 :: x13 :: some (.int v) :: r) st t h := by
  obtain ⟨p, l, e, R, s, m, args, below, meth, c, Q⟩ := G
  intro H locs la hH hS hl
  obtain ⟨q, hq⟩ := List.getElem?_of_mem ((zAs_mem (x0 :: x1 :: x2 :: x3 :: x4 :: x5 :: x6 :: x7 :: x8 :: x9 :: x10 :: x11 :: x12 :: x13 :: some (.int v) :: r) 0 14 (.int v)).mpr ⟨14, rfl, rfl⟩)
  exact lv_iinc C.1 C.2.1 hd hl hq hv hn rfl (fun la2 hl2 => kk H locs la2 hH hS (zLs_st1 hl2 (fun j x hj hx => by cases hj; cases hx; exact hok)))
theorem zz_iload_15 {E : zE} {b : Nat} {G : zG} {own : String} {cc : ByteArray} {nL : Nat} {rt : Option FieldType} {cells slots pc : Nat} {t : zT} {h : zH} {x0 x1 x2 x3 x4 x5 x6 x7 x8 x9 x10 x11 x12 x13 x14 : Option Value} {r : List (Option Value)} {st : List Value} (C : zCx E b G own cc nL rt) {v : Int32} (hd : decode cc pc = .ok (.iload 15, 2)) (kk : zAW E b G nL cells slots (pc + 2) (x0 :: x1 :: x2 :: x3 :: x4 :: x5 :: x6 :: x7 :: x8 :: x9 :: x10 :: x11 :: x12 :: x13 :: x14 :: some (.int v) :: r) (.int v :: st) t h) : zAW E b G nL cells slots pc (x0 :: x1 :: x2 :: x3 :: x4 :: x5 :: x6 :: x7 :: x8 :: x9 :: x10 :: x11 :: x12 :: x13 :: x14 :: some (.int v) :: r) st t h := by
  obtain ⟨p, l, e, R, s, m, args, below, meth, c, Q⟩ := G
  intro H locs la hH hS hl
  exact lv_iload C.1 C.2.1 hd (zLs_at (k := 15) hl rfl) (kk H locs la hH hS hl)
theorem zz_istore_15 {E : zE} {b : Nat} {G : zG} {own : String} {cc : ByteArray} {nL : Nat} {rt : Option FieldType} {cells slots pc : Nat} {t : zT} {h : zH} {x0 x1 x2 x3 x4 x5 x6 x7 x8 x9 x10 x11 x12 x13 x14 : Option Value} {y : Option Value} {r : List (Option Value)} {st : List Value} (C : zCx E b G own cc nL rt) {v : Int32} (hn : 15 < nL) (hok : zok x14 = true) (hd : decode cc pc = .ok (.istore 15, 2)) (kk : zAW E b G nL cells slots (pc + 2) (x0 :: x1 :: x2 :: x3 :: x4 :: x5 :: x6 :: x7 :: x8 :: x9 :: x10 :: x11 :: x12 :: x13 :: x14 :: some (.int v) :: r) st t h) : zAW E b G nL cells slots pc (x0 :: x1 :: x2 :: x3 :: x4 :: x5 :: x6 :: x7 :: x8 :: x9 :: x10 :: x11 :: x12 :: x13 :: x14 :: y :: r) (.int v :: st) t h := by
  obtain ⟨p, l, e, R, s, m, args, below, meth, c, Q⟩ := G
  intro H locs la hH hS hl
  exact lv_istore C.1 C.2.1 hd hl hn rfl (fun la2 hl2 => kk H locs la2 hH hS (zLs_st1 hl2 (fun j x hj hx => by cases hj; cases hx; exact hok)))
theorem zz_lload_15 {E : zE} {b : Nat} {G : zG} {own : String} {cc : ByteArray} {nL : Nat} {rt : Option FieldType} {cells slots pc : Nat} {t : zT} {h : zH} {x0 x1 x2 x3 x4 x5 x6 x7 x8 x9 x10 x11 x12 x13 x14 : Option Value} {r : List (Option Value)} {st : List Value} (C : zCx E b G own cc nL rt) {v : Int64} (hd : decode cc pc = .ok (.lload 15, 2)) (kk : zAW E b G nL cells slots (pc + 2) (x0 :: x1 :: x2 :: x3 :: x4 :: x5 :: x6 :: x7 :: x8 :: x9 :: x10 :: x11 :: x12 :: x13 :: x14 :: some (.long v) :: r) (.long v :: st) t h) : zAW E b G nL cells slots pc (x0 :: x1 :: x2 :: x3 :: x4 :: x5 :: x6 :: x7 :: x8 :: x9 :: x10 :: x11 :: x12 :: x13 :: x14 :: some (.long v) :: r) st t h := by
  obtain ⟨p, l, e, R, s, m, args, below, meth, c, Q⟩ := G
  intro H locs la hH hS hl
  exact lv_lload C.1 C.2.1 hd (zLs_at (k := 15) hl rfl) (kk H locs la hH hS hl)
theorem zz_lstore_15 {E : zE} {b : Nat} {G : zG} {own : String} {cc : ByteArray} {nL : Nat} {rt : Option FieldType} {cells slots pc : Nat} {t : zT} {h : zH} {x0 x1 x2 x3 x4 x5 x6 x7 x8 x9 x10 x11 x12 x13 x14 : Option Value} {y y2 : Option Value} {r : List (Option Value)} {st : List Value} (C : zCx E b G own cc nL rt) {v : Int64} (hn : 16 < nL) (hok : zok x14 = true) (hd : decode cc pc = .ok (.lstore 15, 2)) (kk : zAW E b G nL cells slots (pc + 2) (x0 :: x1 :: x2 :: x3 :: x4 :: x5 :: x6 :: x7 :: x8 :: x9 :: x10 :: x11 :: x12 :: x13 :: x14 :: some (.long v) :: none :: r) st t h) : zAW E b G nL cells slots pc (x0 :: x1 :: x2 :: x3 :: x4 :: x5 :: x6 :: x7 :: x8 :: x9 :: x10 :: x11 :: x12 :: x13 :: x14 :: y :: y2 :: r) (.long v :: st) t h := by
  obtain ⟨p, l, e, R, s, m, args, below, meth, c, Q⟩ := G
  intro H locs la hH hS hl
  exact lv_lstore C.1 C.2.1 hd hl hn rfl (fun la2 hl2 => kk H locs la2 hH hS (zLs_st2 hl2 (fun j x hj hx => by cases hj; cases hx; exact hok)))
theorem zz_aload_15 {E : zE} {b : Nat} {G : zG} {own : String} {cc : ByteArray} {nL : Nat} {rt : Option FieldType} {cells slots pc : Nat} {t : zT} {h : zH} {x0 x1 x2 x3 x4 x5 x6 x7 x8 x9 x10 x11 x12 x13 x14 : Option Value} {r : List (Option Value)} {st : List Value} (C : zCx E b G own cc nL rt) {v : Nat} (hd : decode cc pc = .ok (.aload 15, 2)) (kk : zAW E b G nL cells slots (pc + 2) (x0 :: x1 :: x2 :: x3 :: x4 :: x5 :: x6 :: x7 :: x8 :: x9 :: x10 :: x11 :: x12 :: x13 :: x14 :: some (.ref v) :: r) (.ref v :: st) t h) : zAW E b G nL cells slots pc (x0 :: x1 :: x2 :: x3 :: x4 :: x5 :: x6 :: x7 :: x8 :: x9 :: x10 :: x11 :: x12 :: x13 :: x14 :: some (.ref v) :: r) st t h := by
  obtain ⟨p, l, e, R, s, m, args, below, meth, c, Q⟩ := G
  intro H locs la hH hS hl
  exact lv_aload C.1 C.2.1 hd (zLs_at (k := 15) hl rfl) (kk H locs la hH hS hl)
theorem zz_astore_15 {E : zE} {b : Nat} {G : zG} {own : String} {cc : ByteArray} {nL : Nat} {rt : Option FieldType} {cells slots pc : Nat} {t : zT} {h : zH} {x0 x1 x2 x3 x4 x5 x6 x7 x8 x9 x10 x11 x12 x13 x14 : Option Value} {y : Option Value} {r : List (Option Value)} {st : List Value} (C : zCx E b G own cc nL rt) {v : Nat} (hn : 15 < nL) (hok : zok x14 = true) (hd : decode cc pc = .ok (.astore 15, 2)) (kk : zAW E b G nL cells slots (pc + 2) (x0 :: x1 :: x2 :: x3 :: x4 :: x5 :: x6 :: x7 :: x8 :: x9 :: x10 :: x11 :: x12 :: x13 :: x14 :: some (.ref v) :: r) st t h) : zAW E b G nL cells slots pc (x0 :: x1 :: x2 :: x3 :: x4 :: x5 :: x6 :: x7 :: x8 :: x9 :: x10 :: x11 :: x12 :: x13 :: x14 :: y :: r) (.ref v :: st) t h := by
  obtain ⟨p, l, e, R, s, m, args, below, meth, c, Q⟩ := G
  intro H locs la hH hS hl
  exact lv_astore C.1 C.2.1 hd hl hn rfl (fun la2 hl2 => kk H locs la2 hH hS (zLs_st1 hl2 (fun j x hj hx => by cases hj; cases hx; exact hok)))
theorem zz_iinc_15 {E : zE} {b : Nat} {G : zG} {own : String} {cc : ByteArray} {nL : Nat} {rt : Option FieldType} {cells slots pc : Nat} {t : zT} {h : zH} {x0 x1 x2 x3 x4 x5 x6 x7 x8 x9 x10 x11 x12 x13 x14 : Option Value} {r : List (Option Value)} {st : List Value} (C : zCx E b G own cc nL rt) {v : Int32} {n : Int} (w : Int32) (hn : 15 < nL) (hok : zok x14 = true) (hd : decode cc pc = .ok (.iinc 15 n, 3)) (hv : v + Int32.ofInt n = w) (kk : zAW E b G nL cells slots (pc + 3) (x0 :: x1 :: x2 :: x3 :: x4 :: x5 :: x6 :: x7 :: x8 :: x9 :: x10 :: x11 :: x12 :: x13 :: x14 :: some (.int w) :: r) st t h) : zAW E b G nL cells slots pc (x0 :: x1 :: x2 :: x3 :: x4 :: x5 :: x6 :: x7 :: x8 :: x9 :: x10 :: x11 :: x12 :: x13 :: x14 :: some (.int v) :: r) st t h := by
  obtain ⟨p, l, e, R, s, m, args, below, meth, c, Q⟩ := G
  intro H locs la hH hS hl
  obtain ⟨q, hq⟩ := List.getElem?_of_mem ((zAs_mem (x0 :: x1 :: x2 :: x3 :: x4 :: x5 :: x6 :: x7 :: x8 :: x9 :: x10 :: x11 :: x12 :: x13 :: x14 :: some (.int v) :: r) 0 15 (.int v)).mpr ⟨15, rfl, rfl⟩)
  exact lv_iinc C.1 C.2.1 hd hl hq hv hn rfl (fun la2 hl2 => kk H locs la2 hH hS (zLs_st1 hl2 (fun j x hj hx => by cases hj; cases hx; exact hok)))
theorem zz_iload_16 {E : zE} {b : Nat} {G : zG} {own : String} {cc : ByteArray} {nL : Nat} {rt : Option FieldType} {cells slots pc : Nat} {t : zT} {h : zH} {x0 x1 x2 x3 x4 x5 x6 x7 x8 x9 x10 x11 x12 x13 x14 x15 : Option Value} {r : List (Option Value)} {st : List Value} (C : zCx E b G own cc nL rt) {v : Int32} (hd : decode cc pc = .ok (.iload 16, 2)) (kk : zAW E b G nL cells slots (pc + 2) (x0 :: x1 :: x2 :: x3 :: x4 :: x5 :: x6 :: x7 :: x8 :: x9 :: x10 :: x11 :: x12 :: x13 :: x14 :: x15 :: some (.int v) :: r) (.int v :: st) t h) : zAW E b G nL cells slots pc (x0 :: x1 :: x2 :: x3 :: x4 :: x5 :: x6 :: x7 :: x8 :: x9 :: x10 :: x11 :: x12 :: x13 :: x14 :: x15 :: some (.int v) :: r) st t h := by
  obtain ⟨p, l, e, R, s, m, args, below, meth, c, Q⟩ := G
  intro H locs la hH hS hl
  exact lv_iload C.1 C.2.1 hd (zLs_at (k := 16) hl rfl) (kk H locs la hH hS hl)
theorem zz_istore_16 {E : zE} {b : Nat} {G : zG} {own : String} {cc : ByteArray} {nL : Nat} {rt : Option FieldType} {cells slots pc : Nat} {t : zT} {h : zH} {x0 x1 x2 x3 x4 x5 x6 x7 x8 x9 x10 x11 x12 x13 x14 x15 : Option Value} {y : Option Value} {r : List (Option Value)} {st : List Value} (C : zCx E b G own cc nL rt) {v : Int32} (hn : 16 < nL) (hok : zok x15 = true) (hd : decode cc pc = .ok (.istore 16, 2)) (kk : zAW E b G nL cells slots (pc + 2) (x0 :: x1 :: x2 :: x3 :: x4 :: x5 :: x6 :: x7 :: x8 :: x9 :: x10 :: x11 :: x12 :: x13 :: x14 :: x15 :: some (.int v) :: r) st t h) : zAW E b G nL cells slots pc (x0 :: x1 :: x2 :: x3 :: x4 :: x5 :: x6 :: x7 :: x8 :: x9 :: x10 :: x11 :: x12 :: x13 :: x14 :: x15 :: y :: r) (.int v :: st) t h := by
  obtain ⟨p, l, e, R, s, m, args, below, meth, c, Q⟩ := G
  intro H locs la hH hS hl
  exact lv_istore C.1 C.2.1 hd hl hn rfl (fun la2 hl2 => kk H locs la2 hH hS (zLs_st1 hl2 (fun j x hj hx => by cases hj; cases hx; exact hok)))
theorem zz_lload_16 {E : zE} {b : Nat} {G : zG} {own : String} {cc : ByteArray} {nL : Nat} {rt : Option FieldType} {cells slots pc : Nat} {t : zT} {h : zH} {x0 x1 x2 x3 x4 x5 x6 x7 x8 x9 x10 x11 x12 x13 x14 x15 : Option Value} {r : List (Option Value)} {st : List Value} (C : zCx E b G own cc nL rt) {v : Int64} (hd : decode cc pc = .ok (.lload 16, 2)) (kk : zAW E b G nL cells slots (pc + 2) (x0 :: x1 :: x2 :: x3 :: x4 :: x5 :: x6 :: x7 :: x8 :: x9 :: x10 :: x11 :: x12 :: x13 :: x14 :: x15 :: some (.long v) :: r) (.long v :: st) t h) : zAW E b G nL cells slots pc (x0 :: x1 :: x2 :: x3 :: x4 :: x5 :: x6 :: x7 :: x8 :: x9 :: x10 :: x11 :: x12 :: x13 :: x14 :: x15 :: some (.long v) :: r) st t h := by
  obtain ⟨p, l, e, R, s, m, args, below, meth, c, Q⟩ := G
  intro H locs la hH hS hl
  exact lv_lload C.1 C.2.1 hd (zLs_at (k := 16) hl rfl) (kk H locs la hH hS hl)
theorem zz_lstore_16 {E : zE} {b : Nat} {G : zG} {own : String} {cc : ByteArray} {nL : Nat} {rt : Option FieldType} {cells slots pc : Nat} {t : zT} {h : zH} {x0 x1 x2 x3 x4 x5 x6 x7 x8 x9 x10 x11 x12 x13 x14 x15 : Option Value} {y y2 : Option Value} {r : List (Option Value)} {st : List Value} (C : zCx E b G own cc nL rt) {v : Int64} (hn : 17 < nL) (hok : zok x15 = true) (hd : decode cc pc = .ok (.lstore 16, 2)) (kk : zAW E b G nL cells slots (pc + 2) (x0 :: x1 :: x2 :: x3 :: x4 :: x5 :: x6 :: x7 :: x8 :: x9 :: x10 :: x11 :: x12 :: x13 :: x14 :: x15 :: some (.long v) :: none :: r) st t h) : zAW E b G nL cells slots pc (x0 :: x1 :: x2 :: x3 :: x4 :: x5 :: x6 :: x7 :: x8 :: x9 :: x10 :: x11 :: x12 :: x13 :: x14 :: x15 :: y :: y2 :: r) (.long v :: st) t h := by
  obtain ⟨p, l, e, R, s, m, args, below, meth, c, Q⟩ := G
  intro H locs la hH hS hl
  exact lv_lstore C.1 C.2.1 hd hl hn rfl (fun la2 hl2 => kk H locs la2 hH hS (zLs_st2 hl2 (fun j x hj hx => by cases hj; cases hx; exact hok)))
theorem zz_aload_16 {E : zE} {b : Nat} {G : zG} {own : String} {cc : ByteArray} {nL : Nat} {rt : Option FieldType} {cells slots pc : Nat} {t : zT} {h : zH} {x0 x1 x2 x3 x4 x5 x6 x7 x8 x9 x10 x11 x12 x13 x14 x15 : Option Value} {r : List (Option Value)} {st : List Value} (C : zCx E b G own cc nL rt) {v : Nat} (hd : decode cc pc = .ok (.aload 16, 2)) (kk : zAW E b G nL cells slots (pc + 2) (x0 :: x1 :: x2 :: x3 :: x4 :: x5 :: x6 :: x7 :: x8 :: x9 :: x10 :: x11 :: x12 :: x13 :: x14 :: x15 :: some (.ref v) :: r) (.ref v :: st) t h) : zAW E b G nL cells slots pc (x0 :: x1 :: x2 :: x3 :: x4 :: x5 :: x6 :: x7 :: x8 :: x9 :: x10 :: x11 :: x12 :: x13 :: x14 :: x15 :: some (.ref v) :: r) st t h := by
  obtain ⟨p, l, e, R, s, m, args, below, meth, c, Q⟩ := G
  intro H locs la hH hS hl
  exact lv_aload C.1 C.2.1 hd (zLs_at (k := 16) hl rfl) (kk H locs la hH hS hl)
theorem zz_astore_16 {E : zE} {b : Nat} {G : zG} {own : String} {cc : ByteArray} {nL : Nat} {rt : Option FieldType} {cells slots pc : Nat} {t : zT} {h : zH} {x0 x1 x2 x3 x4 x5 x6 x7 x8 x9 x10 x11 x12 x13 x14 x15 : Option Value} {y : Option Value} {r : List (Option Value)} {st : List Value} (C : zCx E b G own cc nL rt) {v : Nat} (hn : 16 < nL) (hok : zok x15 = true) (hd : decode cc pc = .ok (.astore 16, 2)) (kk : zAW E b G nL cells slots (pc + 2) (x0 :: x1 :: x2 :: x3 :: x4 :: x5 :: x6 :: x7 :: x8 :: x9 :: x10 :: x11 :: x12 :: x13 :: x14 :: x15 :: some (.ref v) :: r) st t h) : zAW E b G nL cells slots pc (x0 :: x1 :: x2 :: x3 :: x4 :: x5 :: x6 :: x7 :: x8 :: x9 :: x10 :: x11 :: x12 :: x13 :: x14 :: x15 :: y :: r) (.ref v :: st) t h := by
  obtain ⟨p, l, e, R, s, m, args, below, meth, c, Q⟩ := G
  intro H locs la hH hS hl
  exact lv_astore C.1 C.2.1 hd hl hn rfl (fun la2 hl2 => kk H locs la2 hH hS (zLs_st1 hl2 (fun j x hj hx => by cases hj; cases hx; exact hok)))
theorem zz_iinc_16 {E : zE} {b : Nat} {G : zG} {own : String} {cc : ByteArray} {nL : Nat} {rt : Option FieldType} {cells slots pc : Nat} {t : zT} {h : zH} {x0 x1 x2 x3 x4 x5 x6 x7 x8 x9 x10 x11 x12 x13 x14 x15 : Option Value} {r : List (Option Value)} {st : List Value} (C : zCx E b G own cc nL rt) {v : Int32} {n : Int} (w : Int32) (hn : 16 < nL) (hok : zok x15 = true) (hd : decode cc pc = .ok (.iinc 16 n, 3)) (hv : v + Int32.ofInt n = w) (kk : zAW E b G nL cells slots (pc + 3) (x0 :: x1 :: x2 :: x3 :: x4 :: x5 :: x6 :: x7 :: x8 :: x9 :: x10 :: x11 :: x12 :: x13 :: x14 :: x15 :: some (.int w) :: r) st t h) : zAW E b G nL cells slots pc (x0 :: x1 :: x2 :: x3 :: x4 :: x5 :: x6 :: x7 :: x8 :: x9 :: x10 :: x11 :: x12 :: x13 :: x14 :: x15 :: some (.int v) :: r) st t h := by
  obtain ⟨p, l, e, R, s, m, args, below, meth, c, Q⟩ := G
  intro H locs la hH hS hl
  obtain ⟨q, hq⟩ := List.getElem?_of_mem ((zAs_mem (x0 :: x1 :: x2 :: x3 :: x4 :: x5 :: x6 :: x7 :: x8 :: x9 :: x10 :: x11 :: x12 :: x13 :: x14 :: x15 :: some (.int v) :: r) 0 16 (.int v)).mpr ⟨16, rfl, rfl⟩)
  exact lv_iinc C.1 C.2.1 hd hl hq hv hn rfl (fun la2 hl2 => kk H locs la2 hH hS (zLs_st1 hl2 (fun j x hj hx => by cases hj; cases hx; exact hok)))
theorem zz_iload_17 {E : zE} {b : Nat} {G : zG} {own : String} {cc : ByteArray} {nL : Nat} {rt : Option FieldType} {cells slots pc : Nat} {t : zT} {h : zH} {x0 x1 x2 x3 x4 x5 x6 x7 x8 x9 x10 x11 x12 x13 x14 x15 x16 : Option Value} {r : List (Option Value)} {st : List Value} (C : zCx E b G own cc nL rt) {v : Int32} (hd : decode cc pc = .ok (.iload 17, 2)) (kk : zAW E b G nL cells slots (pc + 2) (x0 :: x1 :: x2 :: x3 :: x4 :: x5 :: x6 :: x7 :: x8 :: x9 :: x10 :: x11 :: x12 :: x13 :: x14 :: x15 :: x16 :: some (.int v) :: r) (.int v :: st) t h) : zAW E b G nL cells slots pc (x0 :: x1 :: x2 :: x3 :: x4 :: x5 :: x6 :: x7 :: x8 :: x9 :: x10 :: x11 :: x12 :: x13 :: x14 :: x15 :: x16 :: some (.int v) :: r) st t h := by
  obtain ⟨p, l, e, R, s, m, args, below, meth, c, Q⟩ := G
  intro H locs la hH hS hl
  exact lv_iload C.1 C.2.1 hd (zLs_at (k := 17) hl rfl) (kk H locs la hH hS hl)
theorem zz_istore_17 {E : zE} {b : Nat} {G : zG} {own : String} {cc : ByteArray} {nL : Nat} {rt : Option FieldType} {cells slots pc : Nat} {t : zT} {h : zH} {x0 x1 x2 x3 x4 x5 x6 x7 x8 x9 x10 x11 x12 x13 x14 x15 x16 : Option Value} {y : Option Value} {r : List (Option Value)} {st : List Value} (C : zCx E b G own cc nL rt) {v : Int32} (hn : 17 < nL) (hok : zok x16 = true) (hd : decode cc pc = .ok (.istore 17, 2)) (kk : zAW E b G nL cells slots (pc + 2) (x0 :: x1 :: x2 :: x3 :: x4 :: x5 :: x6 :: x7 :: x8 :: x9 :: x10 :: x11 :: x12 :: x13 :: x14 :: x15 :: x16 :: some (.int v) :: r) st t h) : zAW E b G nL cells slots pc (x0 :: x1 :: x2 :: x3 :: x4 :: x5 :: x6 :: x7 :: x8 :: x9 :: x10 :: x11 :: x12 :: x13 :: x14 :: x15 :: x16 :: y :: r) (.int v :: st) t h := by
  obtain ⟨p, l, e, R, s, m, args, below, meth, c, Q⟩ := G
  intro H locs la hH hS hl
  exact lv_istore C.1 C.2.1 hd hl hn rfl (fun la2 hl2 => kk H locs la2 hH hS (zLs_st1 hl2 (fun j x hj hx => by cases hj; cases hx; exact hok)))
theorem zz_lload_17 {E : zE} {b : Nat} {G : zG} {own : String} {cc : ByteArray} {nL : Nat} {rt : Option FieldType} {cells slots pc : Nat} {t : zT} {h : zH} {x0 x1 x2 x3 x4 x5 x6 x7 x8 x9 x10 x11 x12 x13 x14 x15 x16 : Option Value} {r : List (Option Value)} {st : List Value} (C : zCx E b G own cc nL rt) {v : Int64} (hd : decode cc pc = .ok (.lload 17, 2)) (kk : zAW E b G nL cells slots (pc + 2) (x0 :: x1 :: x2 :: x3 :: x4 :: x5 :: x6 :: x7 :: x8 :: x9 :: x10 :: x11 :: x12 :: x13 :: x14 :: x15 :: x16 :: some (.long v) :: r) (.long v :: st) t h) : zAW E b G nL cells slots pc (x0 :: x1 :: x2 :: x3 :: x4 :: x5 :: x6 :: x7 :: x8 :: x9 :: x10 :: x11 :: x12 :: x13 :: x14 :: x15 :: x16 :: some (.long v) :: r) st t h := by
  obtain ⟨p, l, e, R, s, m, args, below, meth, c, Q⟩ := G
  intro H locs la hH hS hl
  exact lv_lload C.1 C.2.1 hd (zLs_at (k := 17) hl rfl) (kk H locs la hH hS hl)
theorem zz_lstore_17 {E : zE} {b : Nat} {G : zG} {own : String} {cc : ByteArray} {nL : Nat} {rt : Option FieldType} {cells slots pc : Nat} {t : zT} {h : zH} {x0 x1 x2 x3 x4 x5 x6 x7 x8 x9 x10 x11 x12 x13 x14 x15 x16 : Option Value} {y y2 : Option Value} {r : List (Option Value)} {st : List Value} (C : zCx E b G own cc nL rt) {v : Int64} (hn : 18 < nL) (hok : zok x16 = true) (hd : decode cc pc = .ok (.lstore 17, 2)) (kk : zAW E b G nL cells slots (pc + 2) (x0 :: x1 :: x2 :: x3 :: x4 :: x5 :: x6 :: x7 :: x8 :: x9 :: x10 :: x11 :: x12 :: x13 :: x14 :: x15 :: x16 :: some (.long v) :: none :: r) st t h) : zAW E b G nL cells slots pc (x0 :: x1 :: x2 :: x3 :: x4 :: x5 :: x6 :: x7 :: x8 :: x9 :: x10 :: x11 :: x12 :: x13 :: x14 :: x15 :: x16 :: y :: y2 :: r) (.long v :: st) t h := by
  obtain ⟨p, l, e, R, s, m, args, below, meth, c, Q⟩ := G
  intro H locs la hH hS hl
  exact lv_lstore C.1 C.2.1 hd hl hn rfl (fun la2 hl2 => kk H locs la2 hH hS (zLs_st2 hl2 (fun j x hj hx => by cases hj; cases hx; exact hok)))
theorem zz_aload_17 {E : zE} {b : Nat} {G : zG} {own : String} {cc : ByteArray} {nL : Nat} {rt : Option FieldType} {cells slots pc : Nat} {t : zT} {h : zH} {x0 x1 x2 x3 x4 x5 x6 x7 x8 x9 x10 x11 x12 x13 x14 x15 x16 : Option Value} {r : List (Option Value)} {st : List Value} (C : zCx E b G own cc nL rt) {v : Nat} (hd : decode cc pc = .ok (.aload 17, 2)) (kk : zAW E b G nL cells slots (pc + 2) (x0 :: x1 :: x2 :: x3 :: x4 :: x5 :: x6 :: x7 :: x8 :: x9 :: x10 :: x11 :: x12 :: x13 :: x14 :: x15 :: x16 :: some (.ref v) :: r) (.ref v :: st) t h) : zAW E b G nL cells slots pc (x0 :: x1 :: x2 :: x3 :: x4 :: x5 :: x6 :: x7 :: x8 :: x9 :: x10 :: x11 :: x12 :: x13 :: x14 :: x15 :: x16 :: some (.ref v) :: r) st t h := by
  obtain ⟨p, l, e, R, s, m, args, below, meth, c, Q⟩ := G
  intro H locs la hH hS hl
  exact lv_aload C.1 C.2.1 hd (zLs_at (k := 17) hl rfl) (kk H locs la hH hS hl)
theorem zz_astore_17 {E : zE} {b : Nat} {G : zG} {own : String} {cc : ByteArray} {nL : Nat} {rt : Option FieldType} {cells slots pc : Nat} {t : zT} {h : zH} {x0 x1 x2 x3 x4 x5 x6 x7 x8 x9 x10 x11 x12 x13 x14 x15 x16 : Option Value} {y : Option Value} {r : List (Option Value)} {st : List Value} (C : zCx E b G own cc nL rt) {v : Nat} (hn : 17 < nL) (hok : zok x16 = true) (hd : decode cc pc = .ok (.astore 17, 2)) (kk : zAW E b G nL cells slots (pc + 2) (x0 :: x1 :: x2 :: x3 :: x4 :: x5 :: x6 :: x7 :: x8 :: x9 :: x10 :: x11 :: x12 :: x13 :: x14 :: x15 :: x16 :: some (.ref v) :: r) st t h) : zAW E b G nL cells slots pc (x0 :: x1 :: x2 :: x3 :: x4 :: x5 :: x6 :: x7 :: x8 :: x9 :: x10 :: x11 :: x12 :: x13 :: x14 :: x15 :: x16 :: y :: r) (.ref v :: st) t h := by
  obtain ⟨p, l, e, R, s, m, args, below, meth, c, Q⟩ := G
  intro H locs la hH hS hl
  exact lv_astore C.1 C.2.1 hd hl hn rfl (fun la2 hl2 => kk H locs la2 hH hS (zLs_st1 hl2 (fun j x hj hx => by cases hj; cases hx; exact hok)))
theorem zz_iinc_17 {E : zE} {b : Nat} {G : zG} {own : String} {cc : ByteArray} {nL : Nat} {rt : Option FieldType} {cells slots pc : Nat} {t : zT} {h : zH} {x0 x1 x2 x3 x4 x5 x6 x7 x8 x9 x10 x11 x12 x13 x14 x15 x16 : Option Value} {r : List (Option Value)} {st : List Value} (C : zCx E b G own cc nL rt) {v : Int32} {n : Int} (w : Int32) (hn : 17 < nL) (hok : zok x16 = true) (hd : decode cc pc = .ok (.iinc 17 n, 3)) (hv : v + Int32.ofInt n = w) (kk : zAW E b G nL cells slots (pc + 3) (x0 :: x1 :: x2 :: x3 :: x4 :: x5 :: x6 :: x7 :: x8 :: x9 :: x10 :: x11 :: x12 :: x13 :: x14 :: x15 :: x16 :: some (.int w) :: r) st t h) : zAW E b G nL cells slots pc (x0 :: x1 :: x2 :: x3 :: x4 :: x5 :: x6 :: x7 :: x8 :: x9 :: x10 :: x11 :: x12 :: x13 :: x14 :: x15 :: x16 :: some (.int v) :: r) st t h := by
  obtain ⟨p, l, e, R, s, m, args, below, meth, c, Q⟩ := G
  intro H locs la hH hS hl
  obtain ⟨q, hq⟩ := List.getElem?_of_mem ((zAs_mem (x0 :: x1 :: x2 :: x3 :: x4 :: x5 :: x6 :: x7 :: x8 :: x9 :: x10 :: x11 :: x12 :: x13 :: x14 :: x15 :: x16 :: some (.int v) :: r) 0 17 (.int v)).mpr ⟨17, rfl, rfl⟩)
  exact lv_iinc C.1 C.2.1 hd hl hq hv hn rfl (fun la2 hl2 => kk H locs la2 hH hS (zLs_st1 hl2 (fun j x hj hx => by cases hj; cases hx; exact hok)))
theorem zz_iload_18 {E : zE} {b : Nat} {G : zG} {own : String} {cc : ByteArray} {nL : Nat} {rt : Option FieldType} {cells slots pc : Nat} {t : zT} {h : zH} {x0 x1 x2 x3 x4 x5 x6 x7 x8 x9 x10 x11 x12 x13 x14 x15 x16 x17 : Option Value} {r : List (Option Value)} {st : List Value} (C : zCx E b G own cc nL rt) {v : Int32} (hd : decode cc pc = .ok (.iload 18, 2)) (kk : zAW E b G nL cells slots (pc + 2) (x0 :: x1 :: x2 :: x3 :: x4 :: x5 :: x6 :: x7 :: x8 :: x9 :: x10 :: x11 :: x12 :: x13 :: x14 :: x15 :: x16 :: x17 :: some (.int v) :: r) (.int v :: st) t h) : zAW E b G nL cells slots pc (x0 :: x1 :: x2 :: x3 :: x4 :: x5 :: x6 :: x7 :: x8 :: x9 :: x10 :: x11 :: x12 :: x13 :: x14 :: x15 :: x16 :: x17 :: some (.int v) :: r) st t h := by
  obtain ⟨p, l, e, R, s, m, args, below, meth, c, Q⟩ := G
  intro H locs la hH hS hl
  exact lv_iload C.1 C.2.1 hd (zLs_at (k := 18) hl rfl) (kk H locs la hH hS hl)
theorem zz_istore_18 {E : zE} {b : Nat} {G : zG} {own : String} {cc : ByteArray} {nL : Nat} {rt : Option FieldType} {cells slots pc : Nat} {t : zT} {h : zH} {x0 x1 x2 x3 x4 x5 x6 x7 x8 x9 x10 x11 x12 x13 x14 x15 x16 x17 : Option Value} {y : Option Value} {r : List (Option Value)} {st : List Value} (C : zCx E b G own cc nL rt) {v : Int32} (hn : 18 < nL) (hok : zok x17 = true) (hd : decode cc pc = .ok (.istore 18, 2)) (kk : zAW E b G nL cells slots (pc + 2) (x0 :: x1 :: x2 :: x3 :: x4 :: x5 :: x6 :: x7 :: x8 :: x9 :: x10 :: x11 :: x12 :: x13 :: x14 :: x15 :: x16 :: x17 :: some (.int v) :: r) st t h) : zAW E b G nL cells slots pc (x0 :: x1 :: x2 :: x3 :: x4 :: x5 :: x6 :: x7 :: x8 :: x9 :: x10 :: x11 :: x12 :: x13 :: x14 :: x15 :: x16 :: x17 :: y :: r) (.int v :: st) t h := by
  obtain ⟨p, l, e, R, s, m, args, below, meth, c, Q⟩ := G
  intro H locs la hH hS hl
  exact lv_istore C.1 C.2.1 hd hl hn rfl (fun la2 hl2 => kk H locs la2 hH hS (zLs_st1 hl2 (fun j x hj hx => by cases hj; cases hx; exact hok)))
theorem zz_lload_18 {E : zE} {b : Nat} {G : zG} {own : String} {cc : ByteArray} {nL : Nat} {rt : Option FieldType} {cells slots pc : Nat} {t : zT} {h : zH} {x0 x1 x2 x3 x4 x5 x6 x7 x8 x9 x10 x11 x12 x13 x14 x15 x16 x17 : Option Value} {r : List (Option Value)} {st : List Value} (C : zCx E b G own cc nL rt) {v : Int64} (hd : decode cc pc = .ok (.lload 18, 2)) (kk : zAW E b G nL cells slots (pc + 2) (x0 :: x1 :: x2 :: x3 :: x4 :: x5 :: x6 :: x7 :: x8 :: x9 :: x10 :: x11 :: x12 :: x13 :: x14 :: x15 :: x16 :: x17 :: some (.long v) :: r) (.long v :: st) t h) : zAW E b G nL cells slots pc (x0 :: x1 :: x2 :: x3 :: x4 :: x5 :: x6 :: x7 :: x8 :: x9 :: x10 :: x11 :: x12 :: x13 :: x14 :: x15 :: x16 :: x17 :: some (.long v) :: r) st t h := by
  obtain ⟨p, l, e, R, s, m, args, below, meth, c, Q⟩ := G
  intro H locs la hH hS hl
  exact lv_lload C.1 C.2.1 hd (zLs_at (k := 18) hl rfl) (kk H locs la hH hS hl)
theorem zz_lstore_18 {E : zE} {b : Nat} {G : zG} {own : String} {cc : ByteArray} {nL : Nat} {rt : Option FieldType} {cells slots pc : Nat} {t : zT} {h : zH} {x0 x1 x2 x3 x4 x5 x6 x7 x8 x9 x10 x11 x12 x13 x14 x15 x16 x17 : Option Value} {y y2 : Option Value} {r : List (Option Value)} {st : List Value} (C : zCx E b G own cc nL rt) {v : Int64} (hn : 19 < nL) (hok : zok x17 = true) (hd : decode cc pc = .ok (.lstore 18, 2)) (kk : zAW E b G nL cells slots (pc + 2) (x0 :: x1 :: x2 :: x3 :: x4 :: x5 :: x6 :: x7 :: x8 :: x9 :: x10 :: x11 :: x12 :: x13 :: x14 :: x15 :: x16 :: x17 :: some (.long v) :: none :: r) st t h) : zAW E b G nL cells slots pc (x0 :: x1 :: x2 :: x3 :: x4 :: x5 :: x6 :: x7 :: x8 :: x9 :: x10 :: x11 :: x12 :: x13 :: x14 :: x15 :: x16 :: x17 :: y :: y2 :: r) (.long v :: st) t h := by
  obtain ⟨p, l, e, R, s, m, args, below, meth, c, Q⟩ := G
  intro H locs la hH hS hl
  exact lv_lstore C.1 C.2.1 hd hl hn rfl (fun la2 hl2 => kk H locs la2 hH hS (zLs_st2 hl2 (fun j x hj hx => by cases hj; cases hx; exact hok)))
theorem zz_aload_18 {E : zE} {b : Nat} {G : zG} {own : String} {cc : ByteArray} {nL : Nat} {rt : Option FieldType} {cells slots pc : Nat} {t : zT} {h : zH} {x0 x1 x2 x3 x4 x5 x6 x7 x8 x9 x10 x11 x12 x13 x14 x15 x16 x17 : Option Value} {r : List (Option Value)} {st : List Value} (C : zCx E b G own cc nL rt) {v : Nat} (hd : decode cc pc = .ok (.aload 18, 2)) (kk : zAW E b G nL cells slots (pc + 2) (x0 :: x1 :: x2 :: x3 :: x4 :: x5 :: x6 :: x7 :: x8 :: x9 :: x10 :: x11 :: x12 :: x13 :: x14 :: x15 :: x16 :: x17 :: some (.ref v) :: r) (.ref v :: st) t h) : zAW E b G nL cells slots pc (x0 :: x1 :: x2 :: x3 :: x4 :: x5 :: x6 :: x7 :: x8 :: x9 :: x10 :: x11 :: x12 :: x13 :: x14 :: x15 :: x16 :: x17 :: some (.ref v) :: r) st t h := by
  obtain ⟨p, l, e, R, s, m, args, below, meth, c, Q⟩ := G
  intro H locs la hH hS hl
  exact lv_aload C.1 C.2.1 hd (zLs_at (k := 18) hl rfl) (kk H locs la hH hS hl)
theorem zz_astore_18 {E : zE} {b : Nat} {G : zG} {own : String} {cc : ByteArray} {nL : Nat} {rt : Option FieldType} {cells slots pc : Nat} {t : zT} {h : zH} {x0 x1 x2 x3 x4 x5 x6 x7 x8 x9 x10 x11 x12 x13 x14 x15 x16 x17 : Option Value} {y : Option Value} {r : List (Option Value)} {st : List Value} (C : zCx E b G own cc nL rt) {v : Nat} (hn : 18 < nL) (hok : zok x17 = true) (hd : decode cc pc = .ok (.astore 18, 2)) (kk : zAW E b G nL cells slots (pc + 2) (x0 :: x1 :: x2 :: x3 :: x4 :: x5 :: x6 :: x7 :: x8 :: x9 :: x10 :: x11 :: x12 :: x13 :: x14 :: x15 :: x16 :: x17 :: some (.ref v) :: r) st t h) : zAW E b G nL cells slots pc (x0 :: x1 :: x2 :: x3 :: x4 :: x5 :: x6 :: x7 :: x8 :: x9 :: x10 :: x11 :: x12 :: x13 :: x14 :: x15 :: x16 :: x17 :: y :: r) (.ref v :: st) t h := by
  obtain ⟨p, l, e, R, s, m, args, below, meth, c, Q⟩ := G
  intro H locs la hH hS hl
  exact lv_astore C.1 C.2.1 hd hl hn rfl (fun la2 hl2 => kk H locs la2 hH hS (zLs_st1 hl2 (fun j x hj hx => by cases hj; cases hx; exact hok)))
theorem zz_iinc_18 {E : zE} {b : Nat} {G : zG} {own : String} {cc : ByteArray} {nL : Nat} {rt : Option FieldType} {cells slots pc : Nat} {t : zT} {h : zH} {x0 x1 x2 x3 x4 x5 x6 x7 x8 x9 x10 x11 x12 x13 x14 x15 x16 x17 : Option Value} {r : List (Option Value)} {st : List Value} (C : zCx E b G own cc nL rt) {v : Int32} {n : Int} (w : Int32) (hn : 18 < nL) (hok : zok x17 = true) (hd : decode cc pc = .ok (.iinc 18 n, 3)) (hv : v + Int32.ofInt n = w) (kk : zAW E b G nL cells slots (pc + 3) (x0 :: x1 :: x2 :: x3 :: x4 :: x5 :: x6 :: x7 :: x8 :: x9 :: x10 :: x11 :: x12 :: x13 :: x14 :: x15 :: x16 :: x17 :: some (.int w) :: r) st t h) : zAW E b G nL cells slots pc (x0 :: x1 :: x2 :: x3 :: x4 :: x5 :: x6 :: x7 :: x8 :: x9 :: x10 :: x11 :: x12 :: x13 :: x14 :: x15 :: x16 :: x17 :: some (.int v) :: r) st t h := by
  obtain ⟨p, l, e, R, s, m, args, below, meth, c, Q⟩ := G
  intro H locs la hH hS hl
  obtain ⟨q, hq⟩ := List.getElem?_of_mem ((zAs_mem (x0 :: x1 :: x2 :: x3 :: x4 :: x5 :: x6 :: x7 :: x8 :: x9 :: x10 :: x11 :: x12 :: x13 :: x14 :: x15 :: x16 :: x17 :: some (.int v) :: r) 0 18 (.int v)).mpr ⟨18, rfl, rfl⟩)
  exact lv_iinc C.1 C.2.1 hd hl hq hv hn rfl (fun la2 hl2 => kk H locs la2 hH hS (zLs_st1 hl2 (fun j x hj hx => by cases hj; cases hx; exact hok)))
theorem zz_iload_19 {E : zE} {b : Nat} {G : zG} {own : String} {cc : ByteArray} {nL : Nat} {rt : Option FieldType} {cells slots pc : Nat} {t : zT} {h : zH} {x0 x1 x2 x3 x4 x5 x6 x7 x8 x9 x10 x11 x12 x13 x14 x15 x16 x17 x18 : Option Value} {r : List (Option Value)} {st : List Value} (C : zCx E b G own cc nL rt) {v : Int32} (hd : decode cc pc = .ok (.iload 19, 2)) (kk : zAW E b G nL cells slots (pc + 2) (x0 :: x1 :: x2 :: x3 :: x4 :: x5 :: x6 :: x7 :: x8 :: x9 :: x10 :: x11 :: x12 :: x13 :: x14 :: x15 :: x16 :: x17 :: x18 :: some (.int v) :: r) (.int v :: st) t h) : zAW E b G nL cells slots pc (x0 :: x1 :: x2 :: x3 :: x4 :: x5 :: x6 :: x7 :: x8 :: x9 :: x10 :: x11 :: x12 :: x13 :: x14 :: x15 :: x16 :: x17 :: x18 :: some (.int v) :: r) st t h := by
  obtain ⟨p, l, e, R, s, m, args, below, meth, c, Q⟩ := G
  intro H locs la hH hS hl
  exact lv_iload C.1 C.2.1 hd (zLs_at (k := 19) hl rfl) (kk H locs la hH hS hl)
theorem zz_istore_19 {E : zE} {b : Nat} {G : zG} {own : String} {cc : ByteArray} {nL : Nat} {rt : Option FieldType} {cells slots pc : Nat} {t : zT} {h : zH} {x0 x1 x2 x3 x4 x5 x6 x7 x8 x9 x10 x11 x12 x13 x14 x15 x16 x17 x18 : Option Value} {y : Option Value} {r : List (Option Value)} {st : List Value} (C : zCx E b G own cc nL rt) {v : Int32} (hn : 19 < nL) (hok : zok x18 = true) (hd : decode cc pc = .ok (.istore 19, 2)) (kk : zAW E b G nL cells slots (pc + 2) (x0 :: x1 :: x2 :: x3 :: x4 :: x5 :: x6 :: x7 :: x8 :: x9 :: x10 :: x11 :: x12 :: x13 :: x14 :: x15 :: x16 :: x17 :: x18 :: some (.int v) :: r) st t h) : zAW E b G nL cells slots pc (x0 :: x1 :: x2 :: x3 :: x4 :: x5 :: x6 :: x7 :: x8 :: x9 :: x10 :: x11 :: x12 :: x13 :: x14 :: x15 :: x16 :: x17 :: x18 :: y :: r) (.int v :: st) t h := by
  obtain ⟨p, l, e, R, s, m, args, below, meth, c, Q⟩ := G
  intro H locs la hH hS hl
  exact lv_istore C.1 C.2.1 hd hl hn rfl (fun la2 hl2 => kk H locs la2 hH hS (zLs_st1 hl2 (fun j x hj hx => by cases hj; cases hx; exact hok)))
theorem zz_lload_19 {E : zE} {b : Nat} {G : zG} {own : String} {cc : ByteArray} {nL : Nat} {rt : Option FieldType} {cells slots pc : Nat} {t : zT} {h : zH} {x0 x1 x2 x3 x4 x5 x6 x7 x8 x9 x10 x11 x12 x13 x14 x15 x16 x17 x18 : Option Value} {r : List (Option Value)} {st : List Value} (C : zCx E b G own cc nL rt) {v : Int64} (hd : decode cc pc = .ok (.lload 19, 2)) (kk : zAW E b G nL cells slots (pc + 2) (x0 :: x1 :: x2 :: x3 :: x4 :: x5 :: x6 :: x7 :: x8 :: x9 :: x10 :: x11 :: x12 :: x13 :: x14 :: x15 :: x16 :: x17 :: x18 :: some (.long v) :: r) (.long v :: st) t h) : zAW E b G nL cells slots pc (x0 :: x1 :: x2 :: x3 :: x4 :: x5 :: x6 :: x7 :: x8 :: x9 :: x10 :: x11 :: x12 :: x13 :: x14 :: x15 :: x16 :: x17 :: x18 :: some (.long v) :: r) st t h := by
  obtain ⟨p, l, e, R, s, m, args, below, meth, c, Q⟩ := G
  intro H locs la hH hS hl
  exact lv_lload C.1 C.2.1 hd (zLs_at (k := 19) hl rfl) (kk H locs la hH hS hl)
theorem zz_lstore_19 {E : zE} {b : Nat} {G : zG} {own : String} {cc : ByteArray} {nL : Nat} {rt : Option FieldType} {cells slots pc : Nat} {t : zT} {h : zH} {x0 x1 x2 x3 x4 x5 x6 x7 x8 x9 x10 x11 x12 x13 x14 x15 x16 x17 x18 : Option Value} {y y2 : Option Value} {r : List (Option Value)} {st : List Value} (C : zCx E b G own cc nL rt) {v : Int64} (hn : 20 < nL) (hok : zok x18 = true) (hd : decode cc pc = .ok (.lstore 19, 2)) (kk : zAW E b G nL cells slots (pc + 2) (x0 :: x1 :: x2 :: x3 :: x4 :: x5 :: x6 :: x7 :: x8 :: x9 :: x10 :: x11 :: x12 :: x13 :: x14 :: x15 :: x16 :: x17 :: x18 :: some (.long v) :: none :: r) st t h) : zAW E b G nL cells slots pc (x0 :: x1 :: x2 :: x3 :: x4 :: x5 :: x6 :: x7 :: x8 :: x9 :: x10 :: x11 :: x12 :: x13 :: x14 :: x15 :: x16 :: x17 :: x18 :: y :: y2 :: r) (.long v :: st) t h := by
  obtain ⟨p, l, e, R, s, m, args, below, meth, c, Q⟩ := G
  intro H locs la hH hS hl
  exact lv_lstore C.1 C.2.1 hd hl hn rfl (fun la2 hl2 => kk H locs la2 hH hS (zLs_st2 hl2 (fun j x hj hx => by cases hj; cases hx; exact hok)))
theorem zz_aload_19 {E : zE} {b : Nat} {G : zG} {own : String} {cc : ByteArray} {nL : Nat} {rt : Option FieldType} {cells slots pc : Nat} {t : zT} {h : zH} {x0 x1 x2 x3 x4 x5 x6 x7 x8 x9 x10 x11 x12 x13 x14 x15 x16 x17 x18 : Option Value} {r : List (Option Value)} {st : List Value} (C : zCx E b G own cc nL rt) {v : Nat} (hd : decode cc pc = .ok (.aload 19, 2)) (kk : zAW E b G nL cells slots (pc + 2) (x0 :: x1 :: x2 :: x3 :: x4 :: x5 :: x6 :: x7 :: x8 :: x9 :: x10 :: x11 :: x12 :: x13 :: x14 :: x15 :: x16 :: x17 :: x18 :: some (.ref v) :: r) (.ref v :: st) t h) : zAW E b G nL cells slots pc (x0 :: x1 :: x2 :: x3 :: x4 :: x5 :: x6 :: x7 :: x8 :: x9 :: x10 :: x11 :: x12 :: x13 :: x14 :: x15 :: x16 :: x17 :: x18 :: some (.ref v) :: r) st t h := by
  obtain ⟨p, l, e, R, s, m, args, below, meth, c, Q⟩ := G
  intro H locs la hH hS hl
  exact lv_aload C.1 C.2.1 hd (zLs_at (k := 19) hl rfl) (kk H locs la hH hS hl)
theorem zz_astore_19 {E : zE} {b : Nat} {G : zG} {own : String} {cc : ByteArray} {nL : Nat} {rt : Option FieldType} {cells slots pc : Nat} {t : zT} {h : zH} {x0 x1 x2 x3 x4 x5 x6 x7 x8 x9 x10 x11 x12 x13 x14 x15 x16 x17 x18 : Option Value} {y : Option Value} {r : List (Option Value)} {st : List Value} (C : zCx E b G own cc nL rt) {v : Nat} (hn : 19 < nL) (hok : zok x18 = true) (hd : decode cc pc = .ok (.astore 19, 2)) (kk : zAW E b G nL cells slots (pc + 2) (x0 :: x1 :: x2 :: x3 :: x4 :: x5 :: x6 :: x7 :: x8 :: x9 :: x10 :: x11 :: x12 :: x13 :: x14 :: x15 :: x16 :: x17 :: x18 :: some (.ref v) :: r) st t h) : zAW E b G nL cells slots pc (x0 :: x1 :: x2 :: x3 :: x4 :: x5 :: x6 :: x7 :: x8 :: x9 :: x10 :: x11 :: x12 :: x13 :: x14 :: x15 :: x16 :: x17 :: x18 :: y :: r) (.ref v :: st) t h := by
  obtain ⟨p, l, e, R, s, m, args, below, meth, c, Q⟩ := G
  intro H locs la hH hS hl
  exact lv_astore C.1 C.2.1 hd hl hn rfl (fun la2 hl2 => kk H locs la2 hH hS (zLs_st1 hl2 (fun j x hj hx => by cases hj; cases hx; exact hok)))
theorem zz_iinc_19 {E : zE} {b : Nat} {G : zG} {own : String} {cc : ByteArray} {nL : Nat} {rt : Option FieldType} {cells slots pc : Nat} {t : zT} {h : zH} {x0 x1 x2 x3 x4 x5 x6 x7 x8 x9 x10 x11 x12 x13 x14 x15 x16 x17 x18 : Option Value} {r : List (Option Value)} {st : List Value} (C : zCx E b G own cc nL rt) {v : Int32} {n : Int} (w : Int32) (hn : 19 < nL) (hok : zok x18 = true) (hd : decode cc pc = .ok (.iinc 19 n, 3)) (hv : v + Int32.ofInt n = w) (kk : zAW E b G nL cells slots (pc + 3) (x0 :: x1 :: x2 :: x3 :: x4 :: x5 :: x6 :: x7 :: x8 :: x9 :: x10 :: x11 :: x12 :: x13 :: x14 :: x15 :: x16 :: x17 :: x18 :: some (.int w) :: r) st t h) : zAW E b G nL cells slots pc (x0 :: x1 :: x2 :: x3 :: x4 :: x5 :: x6 :: x7 :: x8 :: x9 :: x10 :: x11 :: x12 :: x13 :: x14 :: x15 :: x16 :: x17 :: x18 :: some (.int v) :: r) st t h := by
  obtain ⟨p, l, e, R, s, m, args, below, meth, c, Q⟩ := G
  intro H locs la hH hS hl
  obtain ⟨q, hq⟩ := List.getElem?_of_mem ((zAs_mem (x0 :: x1 :: x2 :: x3 :: x4 :: x5 :: x6 :: x7 :: x8 :: x9 :: x10 :: x11 :: x12 :: x13 :: x14 :: x15 :: x16 :: x17 :: x18 :: some (.int v) :: r) 0 19 (.int v)).mpr ⟨19, rfl, rfl⟩)
  exact lv_iinc C.1 C.2.1 hd hl hq hv hn rfl (fun la2 hl2 => kk H locs la2 hH hS (zLs_st1 hl2 (fun j x hj hx => by cases hj; cases hx; exact hok)))
