/-! ===== the law's wrappers ===== -/
section ZLW
variable {E : zE} {b : Nat} {l : Launch} {t : zT} {h : zH}
theorem wo_land {post : Int32 → zT → zH → Prop} {d : Nat} (p0 : Int32) (hd : d ≤ 13) (hK : zK t 0 = (10, 0)) (hM : zMet E b l yX10_land cX10_land 3 (some .int) d 0 0 [.ref (b + 0), .int p0] t h (qI post)) (hP : ∀ v t' h', post v t' h' → zK t' 250 = (13, 1)) : zMetW E b l yL_land cL_land 4 (some .int) [(0, 9, 12, 13)] 15 1 6 [.ref (b + 0), .int p0, .ref (b + 250)] t h (qI (fun k t' h' => k = 0 ∧ ∃ v h1, post v t' h1 ∧ h' = zsL h1 250 0 v.toInt64)) := by
  refine zMetW.of (ls := [some (.ref (b + 0)), some (.int p0), some (.ref (b + 250)), none]) (by decide) (zle rfl) 1 rfl ?_
  intro G hlG C hR hE htab
  refine zz_aload_2 C dL_land_0 <| zz_iconst_0 C dL_land_1 <| zz_aload_0 C dL_land_2 <| zz_iload_1 C dL_land_3 <| zpc 4 rfl <| ?_
  rw [← hlG] at hM
  refine zy_callVI C hR [_] hM lL_7 rfl hK (by decide) rfl ⟨by omega, by omega, zle rfl, zle rfl⟩ (zle rfl) dL_land_4 ?_
  intro r t1 h1 q1
  have h9 := hP _ _ _ q1
  refine zz_i2l C dL_land_7 <| zc_lastore C 0 h9 (zlit _ (by decide)) (by decide) dL_land_8 <| zz_goto C 15 dL_land_9 (by decide) <| zz_iconst_0 C dL_land_15 <| zpc 16 rfl <| ?_
  refine zy_ireturn C hE (zle rfl) (zle rfl) dL_land_16 ?_
  exact ⟨rfl, r, h1, q1, rfl⟩
theorem wx_land_A {d : Nat} (p0 : Int32) (hd : d ≤ 13) (hK : zK t 0 = (10, 0)) (hM : zMetX E b l yX10_land cX10_land 3 (some .int) d 1 6 [.ref (b + 0), .int p0] t h "java/lang/IllegalArgumentException") : zMetW E b l yL_land cL_land 4 (some .int) [(0, 9, 12, 13)] 15 1 6 [.ref (b + 0), .int p0, .ref (b + 250)] t h (qIf 1 t h) := by
  refine zMetW.of (ls := [some (.ref (b + 0)), some (.int p0), some (.ref (b + 250)), none]) (by decide) (zle rfl) 1 rfl ?_
  intro G hlG C hR hE htab
  refine zz_aload_2 C dL_land_0 <| zz_iconst_0 C dL_land_1 <| zz_aload_0 C dL_land_2 <| zz_iload_1 C dL_land_3 <| zpc 4 rfl <| ?_
  rw [← hlG] at hM
  refine zx_catchV C hR [_] hM lL_7 rfl hK (by decide) rfl ⟨by omega, by omega, zle rfl, zle rfl⟩ (zle rfl) htab [] ⟨0, 9, 12, 13⟩ [] rfl (fun z hz => by cases hz) rfl (by decide) xl_A xc_A dL_land_4 ?_
  intro q
  refine zpc 12 rfl <| zz_astore_3 C (zle rfl) rfl dL_land_12 <| zz_iconst_1 C dL_land_13 <| zpc 14 rfl <| ?_
  exact zf_ireturn C hE (zle rfl) (zle rfl) dL_land_14 rfl rfl rfl
theorem wo_told {post : Int32 → zT → zH → Prop} {d : Nat} (p0 : Int32) (hd : d ≤ 13) (hK : zK t 0 = (10, 0)) (hM : zMet E b l yX10_told cX10_told 2 (some .int) d 0 0 [.ref (b + 0), .int p0] t h (qI post)) (hP : ∀ v t' h', post v t' h' → zK t' 250 = (13, 1)) : zMetW E b l yL_told cL_told 4 (some .int) [(0, 9, 12, 13)] 15 1 6 [.ref (b + 0), .int p0, .ref (b + 250)] t h (qI (fun k t' h' => k = 0 ∧ ∃ v h1, post v t' h1 ∧ h' = zsL h1 250 0 v.toInt64)) := by
  refine zMetW.of (ls := [some (.ref (b + 0)), some (.int p0), some (.ref (b + 250)), none]) (by decide) (zle rfl) 1 rfl ?_
  intro G hlG C hR hE htab
  refine zz_aload_2 C dL_told_0 <| zz_iconst_0 C dL_told_1 <| zz_aload_0 C dL_told_2 <| zz_iload_1 C dL_told_3 <| zpc 4 rfl <| ?_
  rw [← hlG] at hM
  refine zy_callVI C hR [_] hM lL_15 rfl hK (by decide) rfl ⟨by omega, by omega, zle rfl, zle rfl⟩ (zle rfl) dL_told_4 ?_
  intro r t1 h1 q1
  have h9 := hP _ _ _ q1
  refine zz_i2l C dL_told_7 <| zc_lastore C 0 h9 (zlit _ (by decide)) (by decide) dL_told_8 <| zz_goto C 15 dL_told_9 (by decide) <| zz_iconst_0 C dL_told_15 <| zpc 16 rfl <| ?_
  refine zy_ireturn C hE (zle rfl) (zle rfl) dL_told_16 ?_
  exact ⟨rfl, r, h1, q1, rfl⟩
theorem wx_told_A {d : Nat} (p0 : Int32) (hd : d ≤ 13) (hK : zK t 0 = (10, 0)) (hM : zMetX E b l yX10_told cX10_told 2 (some .int) d 1 6 [.ref (b + 0), .int p0] t h "java/lang/IllegalArgumentException") : zMetW E b l yL_told cL_told 4 (some .int) [(0, 9, 12, 13)] 15 1 6 [.ref (b + 0), .int p0, .ref (b + 250)] t h (qIf 1 t h) := by
  refine zMetW.of (ls := [some (.ref (b + 0)), some (.int p0), some (.ref (b + 250)), none]) (by decide) (zle rfl) 1 rfl ?_
  intro G hlG C hR hE htab
  refine zz_aload_2 C dL_told_0 <| zz_iconst_0 C dL_told_1 <| zz_aload_0 C dL_told_2 <| zz_iload_1 C dL_told_3 <| zpc 4 rfl <| ?_
  rw [← hlG] at hM
  refine zx_catchV C hR [_] hM lL_15 rfl hK (by decide) rfl ⟨by omega, by omega, zle rfl, zle rfl⟩ (zle rfl) htab [] ⟨0, 9, 12, 13⟩ [] rfl (fun z hz => by cases hz) rfl (by decide) xl_A xc_A dL_told_4 ?_
  intro q
  refine zpc 12 rfl <| zz_astore_3 C (zle rfl) rfl dL_told_12 <| zz_iconst_1 C dL_told_13 <| zpc 14 rfl <| ?_
  exact zf_ireturn C hE (zle rfl) (zle rfl) dL_told_14 rfl rfl rfl
theorem wo_road {post : Int32 → zT → zH → Prop} {d : Nat} (p0 : Int32) (p1 : Int32) (hd : d ≤ 13) (hK : zK t 0 = (10, 0)) (hM : zMet E b l yX10_road cX10_road 4 (some .int) d 0 0 [.ref (b + 0), .int p0, .int p1] t h (qI post)) (hP : ∀ v t' h', post v t' h' → zK t' 250 = (13, 1)) : zMetW E b l yL_road cL_road 5 (some .int) [(0, 10, 13, 22), (0, 10, 17, 13)] 15 1 6 [.ref (b + 0), .int p0, .int p1, .ref (b + 250)] t h (qI (fun k t' h' => k = 0 ∧ ∃ v h1, post v t' h1 ∧ h' = zsL h1 250 0 v.toInt64)) := by
  refine zMetW.of (ls := [some (.ref (b + 0)), some (.int p0), some (.int p1), some (.ref (b + 250)), none]) (by decide) (zle rfl) 1 rfl ?_
  intro G hlG C hR hE htab
  refine zz_aload_3 C dL_road_0 <| zz_iconst_0 C dL_road_1 <| zz_aload_0 C dL_road_2 <| zz_iload_1 C dL_road_3 <| zz_iload_2 C dL_road_4 <| zpc 5 rfl <| ?_
  rw [← hlG] at hM
  refine zy_callVI C hR [_, _] hM lL_18 rfl hK (by decide) rfl ⟨by omega, by omega, zle rfl, zle rfl⟩ (zle rfl) dL_road_5 ?_
  intro r t1 h1 q1
  have h9 := hP _ _ _ q1
  refine zz_i2l C dL_road_8 <| zc_lastore C 0 h9 (zlit _ (by decide)) (by decide) dL_road_9 <| zz_goto C 21 dL_road_10 (by decide) <| zz_iconst_0 C dL_road_21 <| zpc 22 rfl <| ?_
  refine zy_ireturn C hE (zle rfl) (zle rfl) dL_road_22 ?_
  exact ⟨rfl, r, h1, q1, rfl⟩
theorem wx_road_R {d : Nat} (p0 : Int32) (p1 : Int32) (hd : d ≤ 13) (hK : zK t 0 = (10, 0)) (hM : zMetX E b l yX10_road cX10_road 4 (some .int) d 1 6 [.ref (b + 0), .int p0, .int p1] t h "java/lang/IndexOutOfBoundsException") : zMetW E b l yL_road cL_road 5 (some .int) [(0, 10, 13, 22), (0, 10, 17, 13)] 15 1 6 [.ref (b + 0), .int p0, .int p1, .ref (b + 250)] t h (qIf 1 t h) := by
  refine zMetW.of (ls := [some (.ref (b + 0)), some (.int p0), some (.int p1), some (.ref (b + 250)), none]) (by decide) (zle rfl) 1 rfl ?_
  intro G hlG C hR hE htab
  refine zz_aload_3 C dL_road_0 <| zz_iconst_0 C dL_road_1 <| zz_aload_0 C dL_road_2 <| zz_iload_1 C dL_road_3 <| zz_iload_2 C dL_road_4 <| zpc 5 rfl <| ?_
  rw [← hlG] at hM
  refine zx_catchV C hR [_, _] hM lL_18 rfl hK (by decide) rfl ⟨by omega, by omega, zle rfl, zle rfl⟩ (zle rfl) htab [] ⟨0, 10, 13, 22⟩ [⟨0, 10, 17, 13⟩] rfl (fun z hz => by cases hz) rfl (by decide) xl_R xc_R dL_road_5 ?_
  intro q
  refine zpc 13 rfl <| zz_astore_4 C (zle rfl) rfl dL_road_13 <| zz_iconst_1 C dL_road_15 <| zpc 16 rfl <| ?_
  exact zf_ireturn C hE (zle rfl) (zle rfl) dL_road_16 rfl rfl rfl
theorem wx_road_A {d : Nat} (p0 : Int32) (p1 : Int32) (hd : d ≤ 13) (hK : zK t 0 = (10, 0)) (hM : zMetX E b l yX10_road cX10_road 4 (some .int) d 1 6 [.ref (b + 0), .int p0, .int p1] t h "java/lang/IllegalArgumentException") : zMetW E b l yL_road cL_road 5 (some .int) [(0, 10, 13, 22), (0, 10, 17, 13)] 15 1 6 [.ref (b + 0), .int p0, .int p1, .ref (b + 250)] t h (qIf 2 t h) := by
  refine zMetW.of (ls := [some (.ref (b + 0)), some (.int p0), some (.int p1), some (.ref (b + 250)), none]) (by decide) (zle rfl) 1 rfl ?_
  intro G hlG C hR hE htab
  refine zz_aload_3 C dL_road_0 <| zz_iconst_0 C dL_road_1 <| zz_aload_0 C dL_road_2 <| zz_iload_1 C dL_road_3 <| zz_iload_2 C dL_road_4 <| zpc 5 rfl <| ?_
  rw [← hlG] at hM
  refine zx_catchV C hR [_, _] hM lL_18 rfl hK (by decide) rfl ⟨by omega, by omega, zle rfl, zle rfl⟩ (zle rfl) htab [⟨0, 10, 13, 22⟩] ⟨0, 10, 17, 13⟩ [] rfl (fun z hz => by cases List.mem_singleton.mp hz; exact ⟨by decide, _, xl_R, fun U hU => xn_AR hU⟩) rfl (by decide) xl_A xc_A dL_road_5 ?_
  intro q
  refine zpc 17 rfl <| zz_astore_4 C (zle rfl) rfl dL_road_17 <| zz_iconst_2 C dL_road_19 <| zpc 20 rfl <| ?_
  exact zf_ireturn C hE (zle rfl) (zle rfl) dL_road_20 rfl rfl rfl
theorem wo_going {post : Int32 → zT → zH → Prop} {d : Nat} (p0 : Int32) (p1 : Int32) (hd : d ≤ 13) (hK : zK t 0 = (10, 0)) (hM : zMet E b l yX10_going cX10_going 3 (some .int) d 0 0 [.ref (b + 0), .int p0, .int p1] t h (qI post)) (hP : ∀ v t' h', post v t' h' → zK t' 250 = (13, 1)) : zMetW E b l yL_going cL_going 5 (some .int) [(0, 10, 13, 27), (0, 10, 17, 13)] 15 1 6 [.ref (b + 0), .int p0, .int p1, .ref (b + 250)] t h (qI (fun k t' h' => k = 0 ∧ ∃ v h1, post v t' h1 ∧ h' = zsL h1 250 0 v.toInt64)) := by
  refine zMetW.of (ls := [some (.ref (b + 0)), some (.int p0), some (.int p1), some (.ref (b + 250)), none]) (by decide) (zle rfl) 1 rfl ?_
  intro G hlG C hR hE htab
  refine zz_aload_3 C dL_going_0 <| zz_iconst_0 C dL_going_1 <| zz_aload_0 C dL_going_2 <| zz_iload_1 C dL_going_3 <| zz_iload_2 C dL_going_4 <| zpc 5 rfl <| ?_
  rw [← hlG] at hM
  refine zy_callVI C hR [_, _] hM lL_24 rfl hK (by decide) rfl ⟨by omega, by omega, zle rfl, zle rfl⟩ (zle rfl) dL_going_5 ?_
  intro r t1 h1 q1
  have h9 := hP _ _ _ q1
  refine zz_i2l C dL_going_8 <| zc_lastore C 0 h9 (zlit _ (by decide)) (by decide) dL_going_9 <| zz_goto C 21 dL_going_10 (by decide) <| zz_iconst_0 C dL_going_21 <| zpc 22 rfl <| ?_
  refine zy_ireturn C hE (zle rfl) (zle rfl) dL_going_22 ?_
  exact ⟨rfl, r, h1, q1, rfl⟩
theorem wx_going_N {d : Nat} (p0 : Int32) (p1 : Int32) (hd : d ≤ 13) (hK : zK t 0 = (10, 0)) (hM : zMetX E b l yX10_going cX10_going 3 (some .int) d 1 6 [.ref (b + 0), .int p0, .int p1] t h "java/util/NoSuchElementException") : zMetW E b l yL_going cL_going 5 (some .int) [(0, 10, 13, 27), (0, 10, 17, 13)] 15 1 6 [.ref (b + 0), .int p0, .int p1, .ref (b + 250)] t h (qIf 1 t h) := by
  refine zMetW.of (ls := [some (.ref (b + 0)), some (.int p0), some (.int p1), some (.ref (b + 250)), none]) (by decide) (zle rfl) 1 rfl ?_
  intro G hlG C hR hE htab
  refine zz_aload_3 C dL_going_0 <| zz_iconst_0 C dL_going_1 <| zz_aload_0 C dL_going_2 <| zz_iload_1 C dL_going_3 <| zz_iload_2 C dL_going_4 <| zpc 5 rfl <| ?_
  rw [← hlG] at hM
  refine zx_catchV C hR [_, _] hM lL_24 rfl hK (by decide) rfl ⟨by omega, by omega, zle rfl, zle rfl⟩ (zle rfl) htab [] ⟨0, 10, 13, 27⟩ [⟨0, 10, 17, 13⟩] rfl (fun z hz => by cases hz) rfl (by decide) xl_N xc_N dL_going_5 ?_
  intro q
  refine zpc 13 rfl <| zz_astore_4 C (zle rfl) rfl dL_going_13 <| zz_iconst_1 C dL_going_15 <| zpc 16 rfl <| ?_
  exact zf_ireturn C hE (zle rfl) (zle rfl) dL_going_16 rfl rfl rfl
theorem wx_going_A {d : Nat} (p0 : Int32) (p1 : Int32) (hd : d ≤ 13) (hK : zK t 0 = (10, 0)) (hM : zMetX E b l yX10_going cX10_going 3 (some .int) d 1 6 [.ref (b + 0), .int p0, .int p1] t h "java/lang/IllegalArgumentException") : zMetW E b l yL_going cL_going 5 (some .int) [(0, 10, 13, 27), (0, 10, 17, 13)] 15 1 6 [.ref (b + 0), .int p0, .int p1, .ref (b + 250)] t h (qIf 2 t h) := by
  refine zMetW.of (ls := [some (.ref (b + 0)), some (.int p0), some (.int p1), some (.ref (b + 250)), none]) (by decide) (zle rfl) 1 rfl ?_
  intro G hlG C hR hE htab
  refine zz_aload_3 C dL_going_0 <| zz_iconst_0 C dL_going_1 <| zz_aload_0 C dL_going_2 <| zz_iload_1 C dL_going_3 <| zz_iload_2 C dL_going_4 <| zpc 5 rfl <| ?_
  rw [← hlG] at hM
  refine zx_catchV C hR [_, _] hM lL_24 rfl hK (by decide) rfl ⟨by omega, by omega, zle rfl, zle rfl⟩ (zle rfl) htab [⟨0, 10, 13, 27⟩] ⟨0, 10, 17, 13⟩ [] rfl (fun z hz => by cases List.mem_singleton.mp hz; exact ⟨by decide, _, xl_N, fun U hU => xn_AN hU⟩) rfl (by decide) xl_A xc_A dL_going_5 ?_
  intro q
  refine zpc 17 rfl <| zz_astore_4 C (zle rfl) rfl dL_going_17 <| zz_iconst_2 C dL_going_19 <| zpc 20 rfl <| ?_
  exact zf_ireturn C hE (zle rfl) (zle rfl) dL_going_20 rfl rfl rfl
theorem wo_way {post : Int32 → zT → zH → Prop} {d : Nat} (p0 : Int32) (p1 : Int32) (hd : d ≤ 13) (hK : zK t 0 = (10, 0)) (hM : zMet E b l yX10_way cX10_way 3 (some .int) d 0 0 [.ref (b + 0), .int p0, .int p1] t h (qI post)) (hP : ∀ v t' h', post v t' h' → zK t' 250 = (13, 1)) : zMetW E b l yL_way cL_way 5 (some .int) [(0, 10, 13, 27), (0, 10, 17, 13)] 15 1 6 [.ref (b + 0), .int p0, .int p1, .ref (b + 250)] t h (qI (fun k t' h' => k = 0 ∧ ∃ v h1, post v t' h1 ∧ h' = zsL h1 250 0 v.toInt64)) := by
  refine zMetW.of (ls := [some (.ref (b + 0)), some (.int p0), some (.int p1), some (.ref (b + 250)), none]) (by decide) (zle rfl) 1 rfl ?_
  intro G hlG C hR hE htab
  refine zz_aload_3 C dL_way_0 <| zz_iconst_0 C dL_way_1 <| zz_aload_0 C dL_way_2 <| zz_iload_1 C dL_way_3 <| zz_iload_2 C dL_way_4 <| zpc 5 rfl <| ?_
  rw [← hlG] at hM
  refine zy_callVI C hR [_, _] hM lL_29 rfl hK (by decide) rfl ⟨by omega, by omega, zle rfl, zle rfl⟩ (zle rfl) dL_way_5 ?_
  intro r t1 h1 q1
  have h9 := hP _ _ _ q1
  refine zz_i2l C dL_way_8 <| zc_lastore C 0 h9 (zlit _ (by decide)) (by decide) dL_way_9 <| zz_goto C 21 dL_way_10 (by decide) <| zz_iconst_0 C dL_way_21 <| zpc 22 rfl <| ?_
  refine zy_ireturn C hE (zle rfl) (zle rfl) dL_way_22 ?_
  exact ⟨rfl, r, h1, q1, rfl⟩
theorem wx_way_N {d : Nat} (p0 : Int32) (p1 : Int32) (hd : d ≤ 13) (hK : zK t 0 = (10, 0)) (hM : zMetX E b l yX10_way cX10_way 3 (some .int) d 1 6 [.ref (b + 0), .int p0, .int p1] t h "java/util/NoSuchElementException") : zMetW E b l yL_way cL_way 5 (some .int) [(0, 10, 13, 27), (0, 10, 17, 13)] 15 1 6 [.ref (b + 0), .int p0, .int p1, .ref (b + 250)] t h (qIf 1 t h) := by
  refine zMetW.of (ls := [some (.ref (b + 0)), some (.int p0), some (.int p1), some (.ref (b + 250)), none]) (by decide) (zle rfl) 1 rfl ?_
  intro G hlG C hR hE htab
  refine zz_aload_3 C dL_way_0 <| zz_iconst_0 C dL_way_1 <| zz_aload_0 C dL_way_2 <| zz_iload_1 C dL_way_3 <| zz_iload_2 C dL_way_4 <| zpc 5 rfl <| ?_
  rw [← hlG] at hM
  refine zx_catchV C hR [_, _] hM lL_29 rfl hK (by decide) rfl ⟨by omega, by omega, zle rfl, zle rfl⟩ (zle rfl) htab [] ⟨0, 10, 13, 27⟩ [⟨0, 10, 17, 13⟩] rfl (fun z hz => by cases hz) rfl (by decide) xl_N xc_N dL_way_5 ?_
  intro q
  refine zpc 13 rfl <| zz_astore_4 C (zle rfl) rfl dL_way_13 <| zz_iconst_1 C dL_way_15 <| zpc 16 rfl <| ?_
  exact zf_ireturn C hE (zle rfl) (zle rfl) dL_way_16 rfl rfl rfl
theorem wx_way_A {d : Nat} (p0 : Int32) (p1 : Int32) (hd : d ≤ 13) (hK : zK t 0 = (10, 0)) (hM : zMetX E b l yX10_way cX10_way 3 (some .int) d 1 6 [.ref (b + 0), .int p0, .int p1] t h "java/lang/IllegalArgumentException") : zMetW E b l yL_way cL_way 5 (some .int) [(0, 10, 13, 27), (0, 10, 17, 13)] 15 1 6 [.ref (b + 0), .int p0, .int p1, .ref (b + 250)] t h (qIf 2 t h) := by
  refine zMetW.of (ls := [some (.ref (b + 0)), some (.int p0), some (.int p1), some (.ref (b + 250)), none]) (by decide) (zle rfl) 1 rfl ?_
  intro G hlG C hR hE htab
  refine zz_aload_3 C dL_way_0 <| zz_iconst_0 C dL_way_1 <| zz_aload_0 C dL_way_2 <| zz_iload_1 C dL_way_3 <| zz_iload_2 C dL_way_4 <| zpc 5 rfl <| ?_
  rw [← hlG] at hM
  refine zx_catchV C hR [_, _] hM lL_29 rfl hK (by decide) rfl ⟨by omega, by omega, zle rfl, zle rfl⟩ (zle rfl) htab [⟨0, 10, 13, 27⟩] ⟨0, 10, 17, 13⟩ [] rfl (fun z hz => by cases List.mem_singleton.mp hz; exact ⟨by decide, _, xl_N, fun U hU => xn_AN hU⟩) rfl (by decide) xl_A xc_A dL_way_5 ?_
  intro q
  refine zpc 17 rfl <| zz_astore_4 C (zle rfl) rfl dL_way_17 <| zz_iconst_2 C dL_way_19 <| zpc 20 rfl <| ?_
  exact zf_ireturn C hE (zle rfl) (zle rfl) dL_way_20 rfl rfl rfl
theorem wo_by {post : Int32 → zT → zH → Prop} {d : Nat} (p0 : Int32) (p1 : Int32) (p2 : Int32) (hd : d ≤ 13) (hK : zK t 0 = (10, 0)) (hM : zMet E b l yX10_by cX10_by 4 (some .int) d 0 0 [.ref (b + 0), .int p0, .int p1, .int p2] t h (qI post)) (hP : ∀ v t' h', post v t' h' → zK t' 250 = (13, 1)) : zMetW E b l yL_by cL_by 6 (some .int) [(0, 12, 15, 27), (0, 12, 19, 13)] 15 1 6 [.ref (b + 0), .int p0, .int p1, .int p2, .ref (b + 250)] t h (qI (fun k t' h' => k = 0 ∧ ∃ v h1, post v t' h1 ∧ h' = zsL h1 250 0 v.toInt64)) := by
  refine zMetW.of (ls := [some (.ref (b + 0)), some (.int p0), some (.int p1), some (.int p2), some (.ref (b + 250)), none]) (by decide) (zle rfl) 1 rfl ?_
  intro G hlG C hR hE htab
  refine zz_aload_4 C dL_by_0 <| zz_iconst_0 C dL_by_2 <| zz_aload_0 C dL_by_3 <| zz_iload_1 C dL_by_4 <| zz_iload_2 C dL_by_5 <| zz_iload_3 C dL_by_6 <| zpc 7 rfl <| ?_
  rw [← hlG] at hM
  refine zy_callVI C hR [_, _, _] hM lL_32 rfl hK (by decide) rfl ⟨by omega, by omega, zle rfl, zle rfl⟩ (zle rfl) dL_by_7 ?_
  intro r t1 h1 q1
  have h9 := hP _ _ _ q1
  refine zz_i2l C dL_by_10 <| zc_lastore C 0 h9 (zlit _ (by decide)) (by decide) dL_by_11 <| zz_goto C 23 dL_by_12 (by decide) <| zz_iconst_0 C dL_by_23 <| zpc 24 rfl <| ?_
  refine zy_ireturn C hE (zle rfl) (zle rfl) dL_by_24 ?_
  exact ⟨rfl, r, h1, q1, rfl⟩
theorem wx_by_N {d : Nat} (p0 : Int32) (p1 : Int32) (p2 : Int32) (hd : d ≤ 13) (hK : zK t 0 = (10, 0)) (hM : zMetX E b l yX10_by cX10_by 4 (some .int) d 1 6 [.ref (b + 0), .int p0, .int p1, .int p2] t h "java/util/NoSuchElementException") : zMetW E b l yL_by cL_by 6 (some .int) [(0, 12, 15, 27), (0, 12, 19, 13)] 15 1 6 [.ref (b + 0), .int p0, .int p1, .int p2, .ref (b + 250)] t h (qIf 1 t h) := by
  refine zMetW.of (ls := [some (.ref (b + 0)), some (.int p0), some (.int p1), some (.int p2), some (.ref (b + 250)), none]) (by decide) (zle rfl) 1 rfl ?_
  intro G hlG C hR hE htab
  refine zz_aload_4 C dL_by_0 <| zz_iconst_0 C dL_by_2 <| zz_aload_0 C dL_by_3 <| zz_iload_1 C dL_by_4 <| zz_iload_2 C dL_by_5 <| zz_iload_3 C dL_by_6 <| zpc 7 rfl <| ?_
  rw [← hlG] at hM
  refine zx_catchV C hR [_, _, _] hM lL_32 rfl hK (by decide) rfl ⟨by omega, by omega, zle rfl, zle rfl⟩ (zle rfl) htab [] ⟨0, 12, 15, 27⟩ [⟨0, 12, 19, 13⟩] rfl (fun z hz => by cases hz) rfl (by decide) xl_N xc_N dL_by_7 ?_
  intro q
  refine zpc 15 rfl <| zz_astore_5 C (zle rfl) rfl dL_by_15 <| zz_iconst_1 C dL_by_17 <| zpc 18 rfl <| ?_
  exact zf_ireturn C hE (zle rfl) (zle rfl) dL_by_18 rfl rfl rfl
theorem wx_by_A {d : Nat} (p0 : Int32) (p1 : Int32) (p2 : Int32) (hd : d ≤ 13) (hK : zK t 0 = (10, 0)) (hM : zMetX E b l yX10_by cX10_by 4 (some .int) d 1 6 [.ref (b + 0), .int p0, .int p1, .int p2] t h "java/lang/IllegalArgumentException") : zMetW E b l yL_by cL_by 6 (some .int) [(0, 12, 15, 27), (0, 12, 19, 13)] 15 1 6 [.ref (b + 0), .int p0, .int p1, .int p2, .ref (b + 250)] t h (qIf 2 t h) := by
  refine zMetW.of (ls := [some (.ref (b + 0)), some (.int p0), some (.int p1), some (.int p2), some (.ref (b + 250)), none]) (by decide) (zle rfl) 1 rfl ?_
  intro G hlG C hR hE htab
  refine zz_aload_4 C dL_by_0 <| zz_iconst_0 C dL_by_2 <| zz_aload_0 C dL_by_3 <| zz_iload_1 C dL_by_4 <| zz_iload_2 C dL_by_5 <| zz_iload_3 C dL_by_6 <| zpc 7 rfl <| ?_
  rw [← hlG] at hM
  refine zx_catchV C hR [_, _, _] hM lL_32 rfl hK (by decide) rfl ⟨by omega, by omega, zle rfl, zle rfl⟩ (zle rfl) htab [⟨0, 12, 15, 27⟩] ⟨0, 12, 19, 13⟩ [] rfl (fun z hz => by cases List.mem_singleton.mp hz; exact ⟨by decide, _, xl_N, fun U hU => xn_AN hU⟩) rfl (by decide) xl_A xc_A dL_by_7 ?_
  intro q
  refine zpc 19 rfl <| zz_astore_5 C (zle rfl) rfl dL_by_19 <| zz_iconst_2 C dL_by_21 <| zpc 22 rfl <| ?_
  exact zf_ireturn C hE (zle rfl) (zle rfl) dL_by_22 rfl rfl rfl
theorem wo_shuts {post : Int32 → zT → zH → Prop} {d : Nat} (p0 : Int32) (hd : d ≤ 13) (hK : zK t 0 = (10, 0)) (hM : zMet E b l yX10_shuts cX10_shuts 2 (some .int) d 0 0 [.ref (b + 0), .int p0] t h (qI post)) (hP : ∀ v t' h', post v t' h' → zK t' 250 = (13, 1)) : zMetW E b l yL_shuts cL_shuts 4 (some .int) [(0, 9, 12, 13)] 15 1 6 [.ref (b + 0), .int p0, .ref (b + 250)] t h (qI (fun k t' h' => k = 0 ∧ ∃ v h1, post v t' h1 ∧ h' = zsL h1 250 0 v.toInt64)) := by
  refine zMetW.of (ls := [some (.ref (b + 0)), some (.int p0), some (.ref (b + 250)), none]) (by decide) (zle rfl) 1 rfl ?_
  intro G hlG C hR hE htab
  refine zz_aload_2 C dL_shuts_0 <| zz_iconst_0 C dL_shuts_1 <| zz_aload_0 C dL_shuts_2 <| zz_iload_1 C dL_shuts_3 <| zpc 4 rfl <| ?_
  rw [← hlG] at hM
  refine zy_callVI C hR [_] hM lL_36 rfl hK (by decide) rfl ⟨by omega, by omega, zle rfl, zle rfl⟩ (zle rfl) dL_shuts_4 ?_
  intro r t1 h1 q1
  have h9 := hP _ _ _ q1
  refine zz_i2l C dL_shuts_7 <| zc_lastore C 0 h9 (zlit _ (by decide)) (by decide) dL_shuts_8 <| zz_goto C 15 dL_shuts_9 (by decide) <| zz_iconst_0 C dL_shuts_15 <| zpc 16 rfl <| ?_
  refine zy_ireturn C hE (zle rfl) (zle rfl) dL_shuts_16 ?_
  exact ⟨rfl, r, h1, q1, rfl⟩
theorem wx_shuts_A {d : Nat} (p0 : Int32) (hd : d ≤ 13) (hK : zK t 0 = (10, 0)) (hM : zMetX E b l yX10_shuts cX10_shuts 2 (some .int) d 1 6 [.ref (b + 0), .int p0] t h "java/lang/IllegalArgumentException") : zMetW E b l yL_shuts cL_shuts 4 (some .int) [(0, 9, 12, 13)] 15 1 6 [.ref (b + 0), .int p0, .ref (b + 250)] t h (qIf 1 t h) := by
  refine zMetW.of (ls := [some (.ref (b + 0)), some (.int p0), some (.ref (b + 250)), none]) (by decide) (zle rfl) 1 rfl ?_
  intro G hlG C hR hE htab
  refine zz_aload_2 C dL_shuts_0 <| zz_iconst_0 C dL_shuts_1 <| zz_aload_0 C dL_shuts_2 <| zz_iload_1 C dL_shuts_3 <| zpc 4 rfl <| ?_
  rw [← hlG] at hM
  refine zx_catchV C hR [_] hM lL_36 rfl hK (by decide) rfl ⟨by omega, by omega, zle rfl, zle rfl⟩ (zle rfl) htab [] ⟨0, 9, 12, 13⟩ [] rfl (fun z hz => by cases hz) rfl (by decide) xl_A xc_A dL_shuts_4 ?_
  intro q
  refine zpc 12 rfl <| zz_astore_3 C (zle rfl) rfl dL_shuts_12 <| zz_iconst_1 C dL_shuts_13 <| zpc 14 rfl <| ?_
  exact zf_ireturn C hE (zle rfl) (zle rfl) dL_shuts_14 rfl rfl rfl
theorem wo_day {post : Int32 → zT → zH → Prop} {d : Nat} (p0 : Int32) (hd : d ≤ 13) (hK : zK t 0 = (10, 0)) (hM : zMet E b l yX10_day cX10_day 2 (some .int) d 0 0 [.ref (b + 0), .int p0] t h (qI post)) (hP : ∀ v t' h', post v t' h' → zK t' 250 = (13, 1)) : zMetW E b l yL_day cL_day 4 (some .int) [(0, 9, 12, 13)] 15 1 6 [.ref (b + 0), .int p0, .ref (b + 250)] t h (qI (fun k t' h' => k = 0 ∧ ∃ v h1, post v t' h1 ∧ h' = zsL h1 250 0 v.toInt64)) := by
  refine zMetW.of (ls := [some (.ref (b + 0)), some (.int p0), some (.ref (b + 250)), none]) (by decide) (zle rfl) 1 rfl ?_
  intro G hlG C hR hE htab
  refine zz_aload_2 C dL_day_0 <| zz_iconst_0 C dL_day_1 <| zz_aload_0 C dL_day_2 <| zz_iload_1 C dL_day_3 <| zpc 4 rfl <| ?_
  rw [← hlG] at hM
  refine zy_callVI C hR [_] hM lL_39 rfl hK (by decide) rfl ⟨by omega, by omega, zle rfl, zle rfl⟩ (zle rfl) dL_day_4 ?_
  intro r t1 h1 q1
  have h9 := hP _ _ _ q1
  refine zz_i2l C dL_day_7 <| zc_lastore C 0 h9 (zlit _ (by decide)) (by decide) dL_day_8 <| zz_goto C 15 dL_day_9 (by decide) <| zz_iconst_0 C dL_day_15 <| zpc 16 rfl <| ?_
  refine zy_ireturn C hE (zle rfl) (zle rfl) dL_day_16 ?_
  exact ⟨rfl, r, h1, q1, rfl⟩
theorem wx_day_A {d : Nat} (p0 : Int32) (hd : d ≤ 13) (hK : zK t 0 = (10, 0)) (hM : zMetX E b l yX10_day cX10_day 2 (some .int) d 1 6 [.ref (b + 0), .int p0] t h "java/lang/IllegalArgumentException") : zMetW E b l yL_day cL_day 4 (some .int) [(0, 9, 12, 13)] 15 1 6 [.ref (b + 0), .int p0, .ref (b + 250)] t h (qIf 1 t h) := by
  refine zMetW.of (ls := [some (.ref (b + 0)), some (.int p0), some (.ref (b + 250)), none]) (by decide) (zle rfl) 1 rfl ?_
  intro G hlG C hR hE htab
  refine zz_aload_2 C dL_day_0 <| zz_iconst_0 C dL_day_1 <| zz_aload_0 C dL_day_2 <| zz_iload_1 C dL_day_3 <| zpc 4 rfl <| ?_
  rw [← hlG] at hM
  refine zx_catchV C hR [_] hM lL_39 rfl hK (by decide) rfl ⟨by omega, by omega, zle rfl, zle rfl⟩ (zle rfl) htab [] ⟨0, 9, 12, 13⟩ [] rfl (fun z hz => by cases hz) rfl (by decide) xl_A xc_A dL_day_4 ?_
  intro q
  refine zpc 12 rfl <| zz_astore_3 C (zle rfl) rfl dL_day_12 <| zz_iconst_1 C dL_day_13 <| zpc 14 rfl <| ?_
  exact zf_ireturn C hE (zle rfl) (zle rfl) dL_day_14 rfl rfl rfl
theorem wo_run {post : Int64 → zT → zH → Prop} {d : Nat} (p0 : Int32) (p1 : Int32) (hd : d ≤ 13) (hK : zK t 0 = (10, 0)) (hM : zMet E b l yX10_run cX10_run 5 (some .long) d 0 0 [.ref (b + 0), .int p0, .int p1] t h (qJ post)) (hP : ∀ v t' h', post v t' h' → zK t' 250 = (13, 1)) : zMetW E b l yL_run cL_run 5 (some .int) [(0, 9, 12, 13), (0, 9, 16, 46)] 15 1 6 [.ref (b + 0), .int p0, .int p1, .ref (b + 250)] t h (qI (fun k t' h' => k = 0 ∧ ∃ v h1, post v t' h1 ∧ h' = zsL h1 250 0 v)) := by
  refine zMetW.of (ls := [some (.ref (b + 0)), some (.int p0), some (.int p1), some (.ref (b + 250)), none]) (by decide) (zle rfl) 1 rfl ?_
  intro G hlG C hR hE htab
  refine zz_aload_3 C dL_run_0 <| zz_iconst_0 C dL_run_1 <| zz_aload_0 C dL_run_2 <| zz_iload_1 C dL_run_3 <| zz_iload_2 C dL_run_4 <| zpc 5 rfl <| ?_
  rw [← hlG] at hM
  refine zy_callVJ C hR [_, _] hM lL_42 rfl hK (by decide) rfl ⟨by omega, by omega, zle rfl, zle rfl⟩ (zle rfl) dL_run_5 ?_
  intro r t1 h1 q1
  have h9 := hP _ _ _ q1
  refine zc_lastore C 0 h9 (zlit _ (by decide)) (by decide) dL_run_8 <| zz_goto C 20 dL_run_9 (by decide) <| zz_iconst_0 C dL_run_20 <| zpc 21 rfl <| ?_
  refine zy_ireturn C hE (zle rfl) (zle rfl) dL_run_21 ?_
  exact ⟨rfl, r, h1, q1, rfl⟩
theorem wx_run_A {d : Nat} (p0 : Int32) (p1 : Int32) (hd : d ≤ 13) (hK : zK t 0 = (10, 0)) (hM : zMetX E b l yX10_run cX10_run 5 (some .long) d 1 6 [.ref (b + 0), .int p0, .int p1] t h "java/lang/IllegalArgumentException") : zMetW E b l yL_run cL_run 5 (some .int) [(0, 9, 12, 13), (0, 9, 16, 46)] 15 1 6 [.ref (b + 0), .int p0, .int p1, .ref (b + 250)] t h (qIf 1 t h) := by
  refine zMetW.of (ls := [some (.ref (b + 0)), some (.int p0), some (.int p1), some (.ref (b + 250)), none]) (by decide) (zle rfl) 1 rfl ?_
  intro G hlG C hR hE htab
  refine zz_aload_3 C dL_run_0 <| zz_iconst_0 C dL_run_1 <| zz_aload_0 C dL_run_2 <| zz_iload_1 C dL_run_3 <| zz_iload_2 C dL_run_4 <| zpc 5 rfl <| ?_
  rw [← hlG] at hM
  refine zx_catchV C hR [_, _] hM lL_42 rfl hK (by decide) rfl ⟨by omega, by omega, zle rfl, zle rfl⟩ (zle rfl) htab [] ⟨0, 9, 12, 13⟩ [⟨0, 9, 16, 46⟩] rfl (fun z hz => by cases hz) rfl (by decide) xl_A xc_A dL_run_5 ?_
  intro q
  refine zpc 12 rfl <| zz_astore_4 C (zle rfl) rfl dL_run_12 <| zz_iconst_1 C dL_run_14 <| zpc 15 rfl <| ?_
  exact zf_ireturn C hE (zle rfl) (zle rfl) dL_run_15 rfl rfl rfl
theorem wx_run_S {d : Nat} (p0 : Int32) (p1 : Int32) (hd : d ≤ 13) (hK : zK t 0 = (10, 0)) (hM : zMetX E b l yX10_run cX10_run 5 (some .long) d 1 6 [.ref (b + 0), .int p0, .int p1] t h "java/lang/IllegalStateException") : zMetW E b l yL_run cL_run 5 (some .int) [(0, 9, 12, 13), (0, 9, 16, 46)] 15 1 6 [.ref (b + 0), .int p0, .int p1, .ref (b + 250)] t h (qIf 2 t h) := by
  refine zMetW.of (ls := [some (.ref (b + 0)), some (.int p0), some (.int p1), some (.ref (b + 250)), none]) (by decide) (zle rfl) 1 rfl ?_
  intro G hlG C hR hE htab
  refine zz_aload_3 C dL_run_0 <| zz_iconst_0 C dL_run_1 <| zz_aload_0 C dL_run_2 <| zz_iload_1 C dL_run_3 <| zz_iload_2 C dL_run_4 <| zpc 5 rfl <| ?_
  rw [← hlG] at hM
  refine zx_catchV C hR [_, _] hM lL_42 rfl hK (by decide) rfl ⟨by omega, by omega, zle rfl, zle rfl⟩ (zle rfl) htab [⟨0, 9, 12, 13⟩] ⟨0, 9, 16, 46⟩ [] rfl (fun z hz => by cases List.mem_singleton.mp hz; exact ⟨by decide, _, xl_A, fun U hU => xn_SA hU⟩) rfl (by decide) xl_S xc_S dL_run_5 ?_
  intro q
  refine zpc 16 rfl <| zz_astore_4 C (zle rfl) rfl dL_run_16 <| zz_iconst_2 C dL_run_18 <| zpc 19 rfl <| ?_
  exact zf_ireturn C hE (zle rfl) (zle rfl) dL_run_19 rfl rfl rfl
theorem wo_would {post : Int64 → zT → zH → Prop} {d : Nat} (p0 : Int32) (p1 : Int32) (p2 : Int32) (hd : d ≤ 13) (hK : zK t 0 = (10, 0)) (hM : zMet E b l yX10_would cX10_would 6 (some .long) d 0 0 [.ref (b + 0), .int p0, .int p1, .int p2] t h (qJ post)) (hP : ∀ v t' h', post v t' h' → zK t' 250 = (13, 1)) : zMetW E b l yL_would cL_would 6 (some .int) [(0, 11, 14, 13), (0, 11, 18, 46)] 15 1 6 [.ref (b + 0), .int p0, .int p1, .int p2, .ref (b + 250)] t h (qI (fun k t' h' => k = 0 ∧ ∃ v h1, post v t' h1 ∧ h' = zsL h1 250 0 v)) := by
  refine zMetW.of (ls := [some (.ref (b + 0)), some (.int p0), some (.int p1), some (.int p2), some (.ref (b + 250)), none]) (by decide) (zle rfl) 1 rfl ?_
  intro G hlG C hR hE htab
  refine zz_aload_4 C dL_would_0 <| zz_iconst_0 C dL_would_2 <| zz_aload_0 C dL_would_3 <| zz_iload_1 C dL_would_4 <| zz_iload_2 C dL_would_5 <| zz_iload_3 C dL_would_6 <| zpc 7 rfl <| ?_
  rw [← hlG] at hM
  refine zy_callVJ C hR [_, _, _] hM lL_48 rfl hK (by decide) rfl ⟨by omega, by omega, zle rfl, zle rfl⟩ (zle rfl) dL_would_7 ?_
  intro r t1 h1 q1
  have h9 := hP _ _ _ q1
  refine zc_lastore C 0 h9 (zlit _ (by decide)) (by decide) dL_would_10 <| zz_goto C 22 dL_would_11 (by decide) <| zz_iconst_0 C dL_would_22 <| zpc 23 rfl <| ?_
  refine zy_ireturn C hE (zle rfl) (zle rfl) dL_would_23 ?_
  exact ⟨rfl, r, h1, q1, rfl⟩
theorem wx_would_A {d : Nat} (p0 : Int32) (p1 : Int32) (p2 : Int32) (hd : d ≤ 13) (hK : zK t 0 = (10, 0)) (hM : zMetX E b l yX10_would cX10_would 6 (some .long) d 1 6 [.ref (b + 0), .int p0, .int p1, .int p2] t h "java/lang/IllegalArgumentException") : zMetW E b l yL_would cL_would 6 (some .int) [(0, 11, 14, 13), (0, 11, 18, 46)] 15 1 6 [.ref (b + 0), .int p0, .int p1, .int p2, .ref (b + 250)] t h (qIf 1 t h) := by
  refine zMetW.of (ls := [some (.ref (b + 0)), some (.int p0), some (.int p1), some (.int p2), some (.ref (b + 250)), none]) (by decide) (zle rfl) 1 rfl ?_
  intro G hlG C hR hE htab
  refine zz_aload_4 C dL_would_0 <| zz_iconst_0 C dL_would_2 <| zz_aload_0 C dL_would_3 <| zz_iload_1 C dL_would_4 <| zz_iload_2 C dL_would_5 <| zz_iload_3 C dL_would_6 <| zpc 7 rfl <| ?_
  rw [← hlG] at hM
  refine zx_catchV C hR [_, _, _] hM lL_48 rfl hK (by decide) rfl ⟨by omega, by omega, zle rfl, zle rfl⟩ (zle rfl) htab [] ⟨0, 11, 14, 13⟩ [⟨0, 11, 18, 46⟩] rfl (fun z hz => by cases hz) rfl (by decide) xl_A xc_A dL_would_7 ?_
  intro q
  refine zpc 14 rfl <| zz_astore_5 C (zle rfl) rfl dL_would_14 <| zz_iconst_1 C dL_would_16 <| zpc 17 rfl <| ?_
  exact zf_ireturn C hE (zle rfl) (zle rfl) dL_would_17 rfl rfl rfl
theorem wx_would_S {d : Nat} (p0 : Int32) (p1 : Int32) (p2 : Int32) (hd : d ≤ 13) (hK : zK t 0 = (10, 0)) (hM : zMetX E b l yX10_would cX10_would 6 (some .long) d 1 6 [.ref (b + 0), .int p0, .int p1, .int p2] t h "java/lang/IllegalStateException") : zMetW E b l yL_would cL_would 6 (some .int) [(0, 11, 14, 13), (0, 11, 18, 46)] 15 1 6 [.ref (b + 0), .int p0, .int p1, .int p2, .ref (b + 250)] t h (qIf 2 t h) := by
  refine zMetW.of (ls := [some (.ref (b + 0)), some (.int p0), some (.int p1), some (.int p2), some (.ref (b + 250)), none]) (by decide) (zle rfl) 1 rfl ?_
  intro G hlG C hR hE htab
  refine zz_aload_4 C dL_would_0 <| zz_iconst_0 C dL_would_2 <| zz_aload_0 C dL_would_3 <| zz_iload_1 C dL_would_4 <| zz_iload_2 C dL_would_5 <| zz_iload_3 C dL_would_6 <| zpc 7 rfl <| ?_
  rw [← hlG] at hM
  refine zx_catchV C hR [_, _, _] hM lL_48 rfl hK (by decide) rfl ⟨by omega, by omega, zle rfl, zle rfl⟩ (zle rfl) htab [⟨0, 11, 14, 13⟩] ⟨0, 11, 18, 46⟩ [] rfl (fun z hz => by cases List.mem_singleton.mp hz; exact ⟨by decide, _, xl_A, fun U hU => xn_SA hU⟩) rfl (by decide) xl_S xc_S dL_would_7 ?_
  intro q
  refine zpc 18 rfl <| zz_astore_5 C (zle rfl) rfl dL_would_18 <| zz_iconst_2 C dL_would_20 <| zpc 21 rfl <| ?_
  exact zf_ireturn C hE (zle rfl) (zle rfl) dL_would_21 rfl rfl rfl
theorem wo_row {post : Int32 → zT → zH → Prop} {d : Nat} (p0 : Int32) (hd : d ≤ 13) (hK : zK t 0 = (10, 0)) (hM : zMet E b l yX10_row cX10_row 2 (some .int) d 0 0 [.ref (b + 0), .int p0] t h (qI post)) (hP : ∀ v t' h', post v t' h' → zK t' 250 = (13, 1)) : zMetW E b l yL_row cL_row 4 (some .int) [(0, 9, 12, 13)] 15 1 6 [.ref (b + 0), .int p0, .ref (b + 250)] t h (qI (fun k t' h' => k = 0 ∧ ∃ v h1, post v t' h1 ∧ h' = zsL h1 250 0 v.toInt64)) := by
  refine zMetW.of (ls := [some (.ref (b + 0)), some (.int p0), some (.ref (b + 250)), none]) (by decide) (zle rfl) 1 rfl ?_
  intro G hlG C hR hE htab
  refine zz_aload_2 C dL_row_0 <| zz_iconst_0 C dL_row_1 <| zz_aload_0 C dL_row_2 <| zz_iload_1 C dL_row_3 <| zpc 4 rfl <| ?_
  rw [← hlG] at hM
  refine zy_callVI C hR [_] hM lL_52 rfl hK (by decide) rfl ⟨by omega, by omega, zle rfl, zle rfl⟩ (zle rfl) dL_row_4 ?_
  intro r t1 h1 q1
  have h9 := hP _ _ _ q1
  refine zz_i2l C dL_row_7 <| zc_lastore C 0 h9 (zlit _ (by decide)) (by decide) dL_row_8 <| zz_goto C 15 dL_row_9 (by decide) <| zz_iconst_0 C dL_row_15 <| zpc 16 rfl <| ?_
  refine zy_ireturn C hE (zle rfl) (zle rfl) dL_row_16 ?_
  exact ⟨rfl, r, h1, q1, rfl⟩
theorem wx_row_A {d : Nat} (p0 : Int32) (hd : d ≤ 13) (hK : zK t 0 = (10, 0)) (hM : zMetX E b l yX10_row cX10_row 2 (some .int) d 1 6 [.ref (b + 0), .int p0] t h "java/lang/IllegalArgumentException") : zMetW E b l yL_row cL_row 4 (some .int) [(0, 9, 12, 13)] 15 1 6 [.ref (b + 0), .int p0, .ref (b + 250)] t h (qIf 1 t h) := by
  refine zMetW.of (ls := [some (.ref (b + 0)), some (.int p0), some (.ref (b + 250)), none]) (by decide) (zle rfl) 1 rfl ?_
  intro G hlG C hR hE htab
  refine zz_aload_2 C dL_row_0 <| zz_iconst_0 C dL_row_1 <| zz_aload_0 C dL_row_2 <| zz_iload_1 C dL_row_3 <| zpc 4 rfl <| ?_
  rw [← hlG] at hM
  refine zx_catchV C hR [_] hM lL_52 rfl hK (by decide) rfl ⟨by omega, by omega, zle rfl, zle rfl⟩ (zle rfl) htab [] ⟨0, 9, 12, 13⟩ [] rfl (fun z hz => by cases hz) rfl (by decide) xl_A xc_A dL_row_4 ?_
  intro q
  refine zpc 12 rfl <| zz_astore_3 C (zle rfl) rfl dL_row_12 <| zz_iconst_1 C dL_row_13 <| zpc 14 rfl <| ?_
  exact zf_ireturn C hE (zle rfl) (zle rfl) dL_row_14 rfl rfl rfl
theorem wo_judge {post : Int32 → zT → zH → Prop} {d : Nat} (p0 : Int32) (hd : d ≤ 13) (hK : zK t 0 = (10, 0)) (hM : zMet E b l yX10_judge cX10_judge 2 (some .int) d 0 0 [.ref (b + 0), .int p0] t h (qI post)) (hP : ∀ v t' h', post v t' h' → zK t' 250 = (13, 1)) : zMetW E b l yL_judge cL_judge 4 (some .int) [(0, 9, 12, 13)] 15 1 6 [.ref (b + 0), .int p0, .ref (b + 250)] t h (qI (fun k t' h' => k = 0 ∧ ∃ v h1, post v t' h1 ∧ h' = zsL h1 250 0 v.toInt64)) := by
  refine zMetW.of (ls := [some (.ref (b + 0)), some (.int p0), some (.ref (b + 250)), none]) (by decide) (zle rfl) 1 rfl ?_
  intro G hlG C hR hE htab
  refine zz_aload_2 C dL_judge_0 <| zz_iconst_0 C dL_judge_1 <| zz_aload_0 C dL_judge_2 <| zz_iload_1 C dL_judge_3 <| zpc 4 rfl <| ?_
  rw [← hlG] at hM
  refine zy_callVI C hR [_] hM lL_55 rfl hK (by decide) rfl ⟨by omega, by omega, zle rfl, zle rfl⟩ (zle rfl) dL_judge_4 ?_
  intro r t1 h1 q1
  have h9 := hP _ _ _ q1
  refine zz_i2l C dL_judge_7 <| zc_lastore C 0 h9 (zlit _ (by decide)) (by decide) dL_judge_8 <| zz_goto C 15 dL_judge_9 (by decide) <| zz_iconst_0 C dL_judge_15 <| zpc 16 rfl <| ?_
  refine zy_ireturn C hE (zle rfl) (zle rfl) dL_judge_16 ?_
  exact ⟨rfl, r, h1, q1, rfl⟩
theorem wx_judge_A {d : Nat} (p0 : Int32) (hd : d ≤ 13) (hK : zK t 0 = (10, 0)) (hM : zMetX E b l yX10_judge cX10_judge 2 (some .int) d 1 6 [.ref (b + 0), .int p0] t h "java/lang/IllegalArgumentException") : zMetW E b l yL_judge cL_judge 4 (some .int) [(0, 9, 12, 13)] 15 1 6 [.ref (b + 0), .int p0, .ref (b + 250)] t h (qIf 1 t h) := by
  refine zMetW.of (ls := [some (.ref (b + 0)), some (.int p0), some (.ref (b + 250)), none]) (by decide) (zle rfl) 1 rfl ?_
  intro G hlG C hR hE htab
  refine zz_aload_2 C dL_judge_0 <| zz_iconst_0 C dL_judge_1 <| zz_aload_0 C dL_judge_2 <| zz_iload_1 C dL_judge_3 <| zpc 4 rfl <| ?_
  rw [← hlG] at hM
  refine zx_catchV C hR [_] hM lL_55 rfl hK (by decide) rfl ⟨by omega, by omega, zle rfl, zle rfl⟩ (zle rfl) htab [] ⟨0, 9, 12, 13⟩ [] rfl (fun z hz => by cases hz) rfl (by decide) xl_A xc_A dL_judge_4 ?_
  intro q
  refine zpc 12 rfl <| zz_astore_3 C (zle rfl) rfl dL_judge_12 <| zz_iconst_1 C dL_judge_13 <| zpc 14 rfl <| ?_
  exact zf_ireturn C hE (zle rfl) (zle rfl) dL_judge_14 rfl rfl rfl
theorem wo_ever {post : Int32 → zT → zH → Prop} {d : Nat} (p0 : Int32) (hd : d ≤ 13) (hK : zK t 0 = (10, 0)) (hM : zMet E b l yX10_ever cX10_ever 2 (some .int) d 0 0 [.ref (b + 0), .int p0] t h (qI post)) (hP : ∀ v t' h', post v t' h' → zK t' 250 = (13, 1)) : zMetW E b l yL_ever cL_ever 4 (some .int) [(0, 9, 12, 13), (0, 9, 15, 46)] 15 1 6 [.ref (b + 0), .int p0, .ref (b + 250)] t h (qI (fun k t' h' => k = 0 ∧ ∃ v h1, post v t' h1 ∧ h' = zsL h1 250 0 v.toInt64)) := by
  refine zMetW.of (ls := [some (.ref (b + 0)), some (.int p0), some (.ref (b + 250)), none]) (by decide) (zle rfl) 1 rfl ?_
  intro G hlG C hR hE htab
  refine zz_aload_2 C dL_ever_0 <| zz_iconst_0 C dL_ever_1 <| zz_aload_0 C dL_ever_2 <| zz_iload_1 C dL_ever_3 <| zpc 4 rfl <| ?_
  rw [← hlG] at hM
  refine zy_callVI C hR [_] hM lL_58 rfl hK (by decide) rfl ⟨by omega, by omega, zle rfl, zle rfl⟩ (zle rfl) dL_ever_4 ?_
  intro r t1 h1 q1
  have h9 := hP _ _ _ q1
  refine zz_i2l C dL_ever_7 <| zc_lastore C 0 h9 (zlit _ (by decide)) (by decide) dL_ever_8 <| zz_goto C 18 dL_ever_9 (by decide) <| zz_iconst_0 C dL_ever_18 <| zpc 19 rfl <| ?_
  refine zy_ireturn C hE (zle rfl) (zle rfl) dL_ever_19 ?_
  exact ⟨rfl, r, h1, q1, rfl⟩
theorem wx_ever_A {d : Nat} (p0 : Int32) (hd : d ≤ 13) (hK : zK t 0 = (10, 0)) (hM : zMetX E b l yX10_ever cX10_ever 2 (some .int) d 1 6 [.ref (b + 0), .int p0] t h "java/lang/IllegalArgumentException") : zMetW E b l yL_ever cL_ever 4 (some .int) [(0, 9, 12, 13), (0, 9, 15, 46)] 15 1 6 [.ref (b + 0), .int p0, .ref (b + 250)] t h (qIf 1 t h) := by
  refine zMetW.of (ls := [some (.ref (b + 0)), some (.int p0), some (.ref (b + 250)), none]) (by decide) (zle rfl) 1 rfl ?_
  intro G hlG C hR hE htab
  refine zz_aload_2 C dL_ever_0 <| zz_iconst_0 C dL_ever_1 <| zz_aload_0 C dL_ever_2 <| zz_iload_1 C dL_ever_3 <| zpc 4 rfl <| ?_
  rw [← hlG] at hM
  refine zx_catchV C hR [_] hM lL_58 rfl hK (by decide) rfl ⟨by omega, by omega, zle rfl, zle rfl⟩ (zle rfl) htab [] ⟨0, 9, 12, 13⟩ [⟨0, 9, 15, 46⟩] rfl (fun z hz => by cases hz) rfl (by decide) xl_A xc_A dL_ever_4 ?_
  intro q
  refine zpc 12 rfl <| zz_astore_3 C (zle rfl) rfl dL_ever_12 <| zz_iconst_1 C dL_ever_13 <| zpc 14 rfl <| ?_
  exact zf_ireturn C hE (zle rfl) (zle rfl) dL_ever_14 rfl rfl rfl
theorem wx_ever_S {d : Nat} (p0 : Int32) (hd : d ≤ 13) (hK : zK t 0 = (10, 0)) (hM : zMetX E b l yX10_ever cX10_ever 2 (some .int) d 1 6 [.ref (b + 0), .int p0] t h "java/lang/IllegalStateException") : zMetW E b l yL_ever cL_ever 4 (some .int) [(0, 9, 12, 13), (0, 9, 15, 46)] 15 1 6 [.ref (b + 0), .int p0, .ref (b + 250)] t h (qIf 2 t h) := by
  refine zMetW.of (ls := [some (.ref (b + 0)), some (.int p0), some (.ref (b + 250)), none]) (by decide) (zle rfl) 1 rfl ?_
  intro G hlG C hR hE htab
  refine zz_aload_2 C dL_ever_0 <| zz_iconst_0 C dL_ever_1 <| zz_aload_0 C dL_ever_2 <| zz_iload_1 C dL_ever_3 <| zpc 4 rfl <| ?_
  rw [← hlG] at hM
  refine zx_catchV C hR [_] hM lL_58 rfl hK (by decide) rfl ⟨by omega, by omega, zle rfl, zle rfl⟩ (zle rfl) htab [⟨0, 9, 12, 13⟩] ⟨0, 9, 15, 46⟩ [] rfl (fun z hz => by cases List.mem_singleton.mp hz; exact ⟨by decide, _, xl_A, fun U hU => xn_SA hU⟩) rfl (by decide) xl_S xc_S dL_ever_4 ?_
  intro q
  refine zpc 15 rfl <| zz_astore_3 C (zle rfl) rfl dL_ever_15 <| zz_iconst_2 C dL_ever_16 <| zpc 17 rfl <| ?_
  exact zf_ireturn C hE (zle rfl) (zle rfl) dL_ever_17 rfl rfl rfl
theorem wo_fewest {post : Int32 → zT → zH → Prop} {d : Nat} (p0 : Int32) (p1 : Int32) (p2 : Int32) (hd : d ≤ 13) (hK : zK t 0 = (10, 0)) (hM : zMet E b l yX10_fewest cX10_fewest 6 (some .int) d 0 0 [.ref (b + 0), .int p0, .int p1, .int p2] t h (qI post)) (hP : ∀ v t' h', post v t' h' → zK t' 250 = (13, 1)) : zMetW E b l yL_fewest cL_fewest 6 (some .int) [(0, 12, 15, 13)] 15 1 6 [.ref (b + 0), .int p0, .int p1, .int p2, .ref (b + 250)] t h (qI (fun k t' h' => k = 0 ∧ ∃ v h1, post v t' h1 ∧ h' = zsL h1 250 0 v.toInt64)) := by
  refine zMetW.of (ls := [some (.ref (b + 0)), some (.int p0), some (.int p1), some (.int p2), some (.ref (b + 250)), none]) (by decide) (zle rfl) 1 rfl ?_
  intro G hlG C hR hE htab
  refine zz_aload_4 C dL_fewest_0 <| zz_iconst_0 C dL_fewest_2 <| zz_aload_0 C dL_fewest_3 <| zz_iload_1 C dL_fewest_4 <| zz_iload_2 C dL_fewest_5 <| zz_iload_3 C dL_fewest_6 <| zpc 7 rfl <| ?_
  rw [← hlG] at hM
  refine zy_callVI C hR [_, _, _] hM lL_61 rfl hK (by decide) rfl ⟨by omega, by omega, zle rfl, zle rfl⟩ (zle rfl) dL_fewest_7 ?_
  intro r t1 h1 q1
  have h9 := hP _ _ _ q1
  refine zz_i2l C dL_fewest_10 <| zc_lastore C 0 h9 (zlit _ (by decide)) (by decide) dL_fewest_11 <| zz_goto C 19 dL_fewest_12 (by decide) <| zz_iconst_0 C dL_fewest_19 <| zpc 20 rfl <| ?_
  refine zy_ireturn C hE (zle rfl) (zle rfl) dL_fewest_20 ?_
  exact ⟨rfl, r, h1, q1, rfl⟩
theorem wx_fewest_A {d : Nat} (p0 : Int32) (p1 : Int32) (p2 : Int32) (hd : d ≤ 13) (hK : zK t 0 = (10, 0)) (hM : zMetX E b l yX10_fewest cX10_fewest 6 (some .int) d 1 6 [.ref (b + 0), .int p0, .int p1, .int p2] t h "java/lang/IllegalArgumentException") : zMetW E b l yL_fewest cL_fewest 6 (some .int) [(0, 12, 15, 13)] 15 1 6 [.ref (b + 0), .int p0, .int p1, .int p2, .ref (b + 250)] t h (qIf 1 t h) := by
  refine zMetW.of (ls := [some (.ref (b + 0)), some (.int p0), some (.int p1), some (.int p2), some (.ref (b + 250)), none]) (by decide) (zle rfl) 1 rfl ?_
  intro G hlG C hR hE htab
  refine zz_aload_4 C dL_fewest_0 <| zz_iconst_0 C dL_fewest_2 <| zz_aload_0 C dL_fewest_3 <| zz_iload_1 C dL_fewest_4 <| zz_iload_2 C dL_fewest_5 <| zz_iload_3 C dL_fewest_6 <| zpc 7 rfl <| ?_
  rw [← hlG] at hM
  refine zx_catchV C hR [_, _, _] hM lL_61 rfl hK (by decide) rfl ⟨by omega, by omega, zle rfl, zle rfl⟩ (zle rfl) htab [] ⟨0, 12, 15, 13⟩ [] rfl (fun z hz => by cases hz) rfl (by decide) xl_A xc_A dL_fewest_7 ?_
  intro q
  refine zpc 15 rfl <| zz_astore_5 C (zle rfl) rfl dL_fewest_15 <| zz_iconst_1 C dL_fewest_17 <| zpc 18 rfl <| ?_
  exact zf_ireturn C hE (zle rfl) (zle rfl) dL_fewest_18 rfl rfl rfl
theorem wo_lasts {post : Int32 → zT → zH → Prop} {d : Nat} (p0 : Int32) (p1 : Int32) (p2 : Int32) (hd : d ≤ 13) (hK : zK t 0 = (10, 0)) (hM : zMet E b l yX10_lasts cX10_lasts 5 (some .int) d 0 0 [.ref (b + 0), .int p0, .int p1, .int p2] t h (qI post)) (hP : ∀ v t' h', post v t' h' → zK t' 250 = (13, 1)) : zMetW E b l yL_lasts cL_lasts 6 (some .int) [(0, 12, 15, 13)] 15 1 6 [.ref (b + 0), .int p0, .int p1, .int p2, .ref (b + 250)] t h (qI (fun k t' h' => k = 0 ∧ ∃ v h1, post v t' h1 ∧ h' = zsL h1 250 0 v.toInt64)) := by
  refine zMetW.of (ls := [some (.ref (b + 0)), some (.int p0), some (.int p1), some (.int p2), some (.ref (b + 250)), none]) (by decide) (zle rfl) 1 rfl ?_
  intro G hlG C hR hE htab
  refine zz_aload_4 C dL_lasts_0 <| zz_iconst_0 C dL_lasts_2 <| zz_aload_0 C dL_lasts_3 <| zz_iload_1 C dL_lasts_4 <| zz_iload_2 C dL_lasts_5 <| zz_iload_3 C dL_lasts_6 <| zpc 7 rfl <| ?_
  rw [← hlG] at hM
  refine zy_callVI C hR [_, _, _] hM lL_64 rfl hK (by decide) rfl ⟨by omega, by omega, zle rfl, zle rfl⟩ (zle rfl) dL_lasts_7 ?_
  intro r t1 h1 q1
  have h9 := hP _ _ _ q1
  refine zz_i2l C dL_lasts_10 <| zc_lastore C 0 h9 (zlit _ (by decide)) (by decide) dL_lasts_11 <| zz_goto C 19 dL_lasts_12 (by decide) <| zz_iconst_0 C dL_lasts_19 <| zpc 20 rfl <| ?_
  refine zy_ireturn C hE (zle rfl) (zle rfl) dL_lasts_20 ?_
  exact ⟨rfl, r, h1, q1, rfl⟩
theorem wx_lasts_A {d : Nat} (p0 : Int32) (p1 : Int32) (p2 : Int32) (hd : d ≤ 13) (hK : zK t 0 = (10, 0)) (hM : zMetX E b l yX10_lasts cX10_lasts 5 (some .int) d 1 6 [.ref (b + 0), .int p0, .int p1, .int p2] t h "java/lang/IllegalArgumentException") : zMetW E b l yL_lasts cL_lasts 6 (some .int) [(0, 12, 15, 13)] 15 1 6 [.ref (b + 0), .int p0, .int p1, .int p2, .ref (b + 250)] t h (qIf 1 t h) := by
  refine zMetW.of (ls := [some (.ref (b + 0)), some (.int p0), some (.int p1), some (.int p2), some (.ref (b + 250)), none]) (by decide) (zle rfl) 1 rfl ?_
  intro G hlG C hR hE htab
  refine zz_aload_4 C dL_lasts_0 <| zz_iconst_0 C dL_lasts_2 <| zz_aload_0 C dL_lasts_3 <| zz_iload_1 C dL_lasts_4 <| zz_iload_2 C dL_lasts_5 <| zz_iload_3 C dL_lasts_6 <| zpc 7 rfl <| ?_
  rw [← hlG] at hM
  refine zx_catchV C hR [_, _, _] hM lL_64 rfl hK (by decide) rfl ⟨by omega, by omega, zle rfl, zle rfl⟩ (zle rfl) htab [] ⟨0, 12, 15, 13⟩ [] rfl (fun z hz => by cases hz) rfl (by decide) xl_A xc_A dL_lasts_7 ?_
  intro q
  refine zpc 15 rfl <| zz_astore_5 C (zle rfl) rfl dL_lasts_15 <| zz_iconst_1 C dL_lasts_17 <| zpc 18 rfl <| ?_
  exact zf_ireturn C hE (zle rfl) (zle rfl) dL_lasts_18 rfl rfl rfl
theorem wo_best {post : Int32 → zT → zH → Prop} {d : Nat} (p0 : Int32) (p1 : Int32) (hd : d ≤ 13) (hK : zK t 0 = (10, 0)) (hM : zMet E b l yX10_best cX10_best 3 (some .int) d 0 0 [.ref (b + 0), .int p0, .int p1] t h (qI post)) (hP : ∀ v t' h', post v t' h' → zK t' 250 = (13, 1)) : zMetW E b l yL_best cL_best 5 (some .int) [(0, 10, 13, 13)] 15 1 6 [.ref (b + 0), .int p0, .int p1, .ref (b + 250)] t h (qI (fun k t' h' => k = 0 ∧ ∃ v h1, post v t' h1 ∧ h' = zsL h1 250 0 v.toInt64)) := by
  refine zMetW.of (ls := [some (.ref (b + 0)), some (.int p0), some (.int p1), some (.ref (b + 250)), none]) (by decide) (zle rfl) 1 rfl ?_
  intro G hlG C hR hE htab
  refine zz_aload_3 C dL_best_0 <| zz_iconst_0 C dL_best_1 <| zz_aload_0 C dL_best_2 <| zz_iload_1 C dL_best_3 <| zz_iload_2 C dL_best_4 <| zpc 5 rfl <| ?_
  rw [← hlG] at hM
  refine zy_callVI C hR [_, _] hM lL_67 rfl hK (by decide) rfl ⟨by omega, by omega, zle rfl, zle rfl⟩ (zle rfl) dL_best_5 ?_
  intro r t1 h1 q1
  have h9 := hP _ _ _ q1
  refine zz_i2l C dL_best_8 <| zc_lastore C 0 h9 (zlit _ (by decide)) (by decide) dL_best_9 <| zz_goto C 17 dL_best_10 (by decide) <| zz_iconst_0 C dL_best_17 <| zpc 18 rfl <| ?_
  refine zy_ireturn C hE (zle rfl) (zle rfl) dL_best_18 ?_
  exact ⟨rfl, r, h1, q1, rfl⟩
theorem wx_best_A {d : Nat} (p0 : Int32) (p1 : Int32) (hd : d ≤ 13) (hK : zK t 0 = (10, 0)) (hM : zMetX E b l yX10_best cX10_best 3 (some .int) d 1 6 [.ref (b + 0), .int p0, .int p1] t h "java/lang/IllegalArgumentException") : zMetW E b l yL_best cL_best 5 (some .int) [(0, 10, 13, 13)] 15 1 6 [.ref (b + 0), .int p0, .int p1, .ref (b + 250)] t h (qIf 1 t h) := by
  refine zMetW.of (ls := [some (.ref (b + 0)), some (.int p0), some (.int p1), some (.ref (b + 250)), none]) (by decide) (zle rfl) 1 rfl ?_
  intro G hlG C hR hE htab
  refine zz_aload_3 C dL_best_0 <| zz_iconst_0 C dL_best_1 <| zz_aload_0 C dL_best_2 <| zz_iload_1 C dL_best_3 <| zz_iload_2 C dL_best_4 <| zpc 5 rfl <| ?_
  rw [← hlG] at hM
  refine zx_catchV C hR [_, _] hM lL_67 rfl hK (by decide) rfl ⟨by omega, by omega, zle rfl, zle rfl⟩ (zle rfl) htab [] ⟨0, 10, 13, 13⟩ [] rfl (fun z hz => by cases hz) rfl (by decide) xl_A xc_A dL_best_5 ?_
  intro q
  refine zpc 13 rfl <| zz_astore_4 C (zle rfl) rfl dL_best_13 <| zz_iconst_1 C dL_best_15 <| zpc 16 rfl <| ?_
  exact zf_ireturn C hE (zle rfl) (zle rfl) dL_best_16 rfl rfl rfl
theorem wo_gap {post : Int32 → zT → zH → Prop} {d : Nat} (p0 : Int32) (hd : d ≤ 13) (hK : zK t 0 = (10, 0)) (hM : zMet E b l yX10_gap cX10_gap 4 (some .int) d 0 0 [.ref (b + 0), .int p0] t h (qI post)) (hP : ∀ v t' h', post v t' h' → zK t' 250 = (13, 1)) : zMetW E b l yL_gap cL_gap 4 (some .int) [(0, 9, 12, 13)] 15 1 6 [.ref (b + 0), .int p0, .ref (b + 250)] t h (qI (fun k t' h' => k = 0 ∧ ∃ v h1, post v t' h1 ∧ h' = zsL h1 250 0 v.toInt64)) := by
  refine zMetW.of (ls := [some (.ref (b + 0)), some (.int p0), some (.ref (b + 250)), none]) (by decide) (zle rfl) 1 rfl ?_
  intro G hlG C hR hE htab
  refine zz_aload_2 C dL_gap_0 <| zz_iconst_0 C dL_gap_1 <| zz_aload_0 C dL_gap_2 <| zz_iload_1 C dL_gap_3 <| zpc 4 rfl <| ?_
  rw [← hlG] at hM
  refine zy_callVI C hR [_] hM lL_70 rfl hK (by decide) rfl ⟨by omega, by omega, zle rfl, zle rfl⟩ (zle rfl) dL_gap_4 ?_
  intro r t1 h1 q1
  have h9 := hP _ _ _ q1
  refine zz_i2l C dL_gap_7 <| zc_lastore C 0 h9 (zlit _ (by decide)) (by decide) dL_gap_8 <| zz_goto C 15 dL_gap_9 (by decide) <| zz_iconst_0 C dL_gap_15 <| zpc 16 rfl <| ?_
  refine zy_ireturn C hE (zle rfl) (zle rfl) dL_gap_16 ?_
  exact ⟨rfl, r, h1, q1, rfl⟩
theorem wx_gap_A {d : Nat} (p0 : Int32) (hd : d ≤ 13) (hK : zK t 0 = (10, 0)) (hM : zMetX E b l yX10_gap cX10_gap 4 (some .int) d 1 6 [.ref (b + 0), .int p0] t h "java/lang/IllegalArgumentException") : zMetW E b l yL_gap cL_gap 4 (some .int) [(0, 9, 12, 13)] 15 1 6 [.ref (b + 0), .int p0, .ref (b + 250)] t h (qIf 1 t h) := by
  refine zMetW.of (ls := [some (.ref (b + 0)), some (.int p0), some (.ref (b + 250)), none]) (by decide) (zle rfl) 1 rfl ?_
  intro G hlG C hR hE htab
  refine zz_aload_2 C dL_gap_0 <| zz_iconst_0 C dL_gap_1 <| zz_aload_0 C dL_gap_2 <| zz_iload_1 C dL_gap_3 <| zpc 4 rfl <| ?_
  rw [← hlG] at hM
  refine zx_catchV C hR [_] hM lL_70 rfl hK (by decide) rfl ⟨by omega, by omega, zle rfl, zle rfl⟩ (zle rfl) htab [] ⟨0, 9, 12, 13⟩ [] rfl (fun z hz => by cases hz) rfl (by decide) xl_A xc_A dL_gap_4 ?_
  intro q
  refine zpc 12 rfl <| zz_astore_3 C (zle rfl) rfl dL_gap_12 <| zz_iconst_1 C dL_gap_13 <| zpc 14 rfl <| ?_
  exact zf_ireturn C hE (zle rfl) (zle rfl) dL_gap_14 rfl rfl rfl
theorem wo_toll {post : Int64 → zT → zH → Prop} {d : Nat} (p0 : Int32) (p1 : Int32) (p2 : Int32) (hd : d ≤ 13) (hK : zK t 0 = (10, 0)) (hM : zMet E b l yX10_toll cX10_toll 6 (some .long) d 0 0 [.ref (b + 0), .int p0, .int p1, .int p2] t h (qJ post)) (hP : ∀ v t' h', post v t' h' → zK t' 250 = (13, 1)) : zMetW E b l yL_toll cL_toll 6 (some .int) [(0, 11, 14, 13)] 15 1 6 [.ref (b + 0), .int p0, .int p1, .int p2, .ref (b + 250)] t h (qI (fun k t' h' => k = 0 ∧ ∃ v h1, post v t' h1 ∧ h' = zsL h1 250 0 v)) := by
  refine zMetW.of (ls := [some (.ref (b + 0)), some (.int p0), some (.int p1), some (.int p2), some (.ref (b + 250)), none]) (by decide) (zle rfl) 1 rfl ?_
  intro G hlG C hR hE htab
  refine zz_aload_4 C dL_toll_0 <| zz_iconst_0 C dL_toll_2 <| zz_aload_0 C dL_toll_3 <| zz_iload_1 C dL_toll_4 <| zz_iload_2 C dL_toll_5 <| zz_iload_3 C dL_toll_6 <| zpc 7 rfl <| ?_
  rw [← hlG] at hM
  refine zy_callVJ C hR [_, _, _] hM lL_73 rfl hK (by decide) rfl ⟨by omega, by omega, zle rfl, zle rfl⟩ (zle rfl) dL_toll_7 ?_
  intro r t1 h1 q1
  have h9 := hP _ _ _ q1
  refine zc_lastore C 0 h9 (zlit _ (by decide)) (by decide) dL_toll_10 <| zz_goto C 18 dL_toll_11 (by decide) <| zz_iconst_0 C dL_toll_18 <| zpc 19 rfl <| ?_
  refine zy_ireturn C hE (zle rfl) (zle rfl) dL_toll_19 ?_
  exact ⟨rfl, r, h1, q1, rfl⟩
theorem wx_toll_A {d : Nat} (p0 : Int32) (p1 : Int32) (p2 : Int32) (hd : d ≤ 13) (hK : zK t 0 = (10, 0)) (hM : zMetX E b l yX10_toll cX10_toll 6 (some .long) d 1 6 [.ref (b + 0), .int p0, .int p1, .int p2] t h "java/lang/IllegalArgumentException") : zMetW E b l yL_toll cL_toll 6 (some .int) [(0, 11, 14, 13)] 15 1 6 [.ref (b + 0), .int p0, .int p1, .int p2, .ref (b + 250)] t h (qIf 1 t h) := by
  refine zMetW.of (ls := [some (.ref (b + 0)), some (.int p0), some (.int p1), some (.int p2), some (.ref (b + 250)), none]) (by decide) (zle rfl) 1 rfl ?_
  intro G hlG C hR hE htab
  refine zz_aload_4 C dL_toll_0 <| zz_iconst_0 C dL_toll_2 <| zz_aload_0 C dL_toll_3 <| zz_iload_1 C dL_toll_4 <| zz_iload_2 C dL_toll_5 <| zz_iload_3 C dL_toll_6 <| zpc 7 rfl <| ?_
  rw [← hlG] at hM
  refine zx_catchV C hR [_, _, _] hM lL_73 rfl hK (by decide) rfl ⟨by omega, by omega, zle rfl, zle rfl⟩ (zle rfl) htab [] ⟨0, 11, 14, 13⟩ [] rfl (fun z hz => by cases hz) rfl (by decide) xl_A xc_A dL_toll_7 ?_
  intro q
  refine zpc 14 rfl <| zz_astore_5 C (zle rfl) rfl dL_toll_14 <| zz_iconst_1 C dL_toll_16 <| zpc 17 rfl <| ?_
  exact zf_ireturn C hE (zle rfl) (zle rfl) dL_toll_17 rfl rfl rfl
theorem wo_keep {post : Int32 → zT → zH → Prop} {d : Nat} (p0 : Int32) (hd : d ≤ 13) (hK : zK t 0 = (10, 0)) (hM : zMet E b l yX10_keep cX10_keep 8 (some .int) d 0 0 [.ref (b + 0), .int p0] t h (qI post)) (hP : ∀ v t' h', post v t' h' → zK t' 250 = (13, 1)) : zMetW E b l yL_keep cL_keep 4 (some .int) [(0, 9, 12, 13)] 15 1 6 [.ref (b + 0), .int p0, .ref (b + 250)] t h (qI (fun k t' h' => k = 0 ∧ ∃ v h1, post v t' h1 ∧ h' = zsL h1 250 0 v.toInt64)) := by
  refine zMetW.of (ls := [some (.ref (b + 0)), some (.int p0), some (.ref (b + 250)), none]) (by decide) (zle rfl) 1 rfl ?_
  intro G hlG C hR hE htab
  refine zz_aload_2 C dL_keep_0 <| zz_iconst_0 C dL_keep_1 <| zz_aload_0 C dL_keep_2 <| zz_iload_1 C dL_keep_3 <| zpc 4 rfl <| ?_
  rw [← hlG] at hM
  refine zy_callVI C hR [_] hM lL_76 rfl hK (by decide) rfl ⟨by omega, by omega, zle rfl, zle rfl⟩ (zle rfl) dL_keep_4 ?_
  intro r t1 h1 q1
  have h9 := hP _ _ _ q1
  refine zz_i2l C dL_keep_7 <| zc_lastore C 0 h9 (zlit _ (by decide)) (by decide) dL_keep_8 <| zz_goto C 15 dL_keep_9 (by decide) <| zz_iconst_0 C dL_keep_15 <| zpc 16 rfl <| ?_
  refine zy_ireturn C hE (zle rfl) (zle rfl) dL_keep_16 ?_
  exact ⟨rfl, r, h1, q1, rfl⟩
theorem wx_keep_A {d : Nat} (p0 : Int32) (hd : d ≤ 13) (hK : zK t 0 = (10, 0)) (hM : zMetX E b l yX10_keep cX10_keep 8 (some .int) d 1 6 [.ref (b + 0), .int p0] t h "java/lang/IllegalArgumentException") : zMetW E b l yL_keep cL_keep 4 (some .int) [(0, 9, 12, 13)] 15 1 6 [.ref (b + 0), .int p0, .ref (b + 250)] t h (qIf 1 t h) := by
  refine zMetW.of (ls := [some (.ref (b + 0)), some (.int p0), some (.ref (b + 250)), none]) (by decide) (zle rfl) 1 rfl ?_
  intro G hlG C hR hE htab
  refine zz_aload_2 C dL_keep_0 <| zz_iconst_0 C dL_keep_1 <| zz_aload_0 C dL_keep_2 <| zz_iload_1 C dL_keep_3 <| zpc 4 rfl <| ?_
  rw [← hlG] at hM
  refine zx_catchV C hR [_] hM lL_76 rfl hK (by decide) rfl ⟨by omega, by omega, zle rfl, zle rfl⟩ (zle rfl) htab [] ⟨0, 9, 12, 13⟩ [] rfl (fun z hz => by cases hz) rfl (by decide) xl_A xc_A dL_keep_4 ?_
  intro q
  refine zpc 12 rfl <| zz_astore_3 C (zle rfl) rfl dL_keep_12 <| zz_iconst_1 C dL_keep_13 <| zpc 14 rfl <| ?_
  exact zf_ireturn C hE (zle rfl) (zle rfl) dL_keep_14 rfl rfl rfl
theorem wo_careless {post : Int64 → zT → zH → Prop} {d : Nat} (p0 : Int32) (p1 : Int32) (hd : d ≤ 13) (hK : zK t 0 = (10, 0)) (hM : zMet E b l yX10_careless cX10_careless 5 (some .long) d 0 0 [.ref (b + 0), .int p0, .int p1] t h (qJ post)) (hP : ∀ v t' h', post v t' h' → zK t' 250 = (13, 1)) : zMetW E b l yL_careless cL_careless 5 (some .int) [(0, 9, 12, 27), (0, 9, 16, 13), (0, 9, 20, 46)] 15 1 6 [.ref (b + 0), .int p0, .int p1, .ref (b + 250)] t h (qI (fun k t' h' => k = 0 ∧ ∃ v h1, post v t' h1 ∧ h' = zsL h1 250 0 v)) := by
  refine zMetW.of (ls := [some (.ref (b + 0)), some (.int p0), some (.int p1), some (.ref (b + 250)), none]) (by decide) (zle rfl) 1 rfl ?_
  intro G hlG C hR hE htab
  refine zz_aload_3 C dL_careless_0 <| zz_iconst_0 C dL_careless_1 <| zz_aload_0 C dL_careless_2 <| zz_iload_1 C dL_careless_3 <| zz_iload_2 C dL_careless_4 <| zpc 5 rfl <| ?_
  rw [← hlG] at hM
  refine zy_callVJ C hR [_, _] hM lL_79 rfl hK (by decide) rfl ⟨by omega, by omega, zle rfl, zle rfl⟩ (zle rfl) dL_careless_5 ?_
  intro r t1 h1 q1
  have h9 := hP _ _ _ q1
  refine zc_lastore C 0 h9 (zlit _ (by decide)) (by decide) dL_careless_8 <| zz_goto C 24 dL_careless_9 (by decide) <| zz_iconst_0 C dL_careless_24 <| zpc 25 rfl <| ?_
  refine zy_ireturn C hE (zle rfl) (zle rfl) dL_careless_25 ?_
  exact ⟨rfl, r, h1, q1, rfl⟩
theorem wx_careless_N {d : Nat} (p0 : Int32) (p1 : Int32) (hd : d ≤ 13) (hK : zK t 0 = (10, 0)) (hM : zMetX E b l yX10_careless cX10_careless 5 (some .long) d 1 6 [.ref (b + 0), .int p0, .int p1] t h "java/util/NoSuchElementException") : zMetW E b l yL_careless cL_careless 5 (some .int) [(0, 9, 12, 27), (0, 9, 16, 13), (0, 9, 20, 46)] 15 1 6 [.ref (b + 0), .int p0, .int p1, .ref (b + 250)] t h (qIf 1 t h) := by
  refine zMetW.of (ls := [some (.ref (b + 0)), some (.int p0), some (.int p1), some (.ref (b + 250)), none]) (by decide) (zle rfl) 1 rfl ?_
  intro G hlG C hR hE htab
  refine zz_aload_3 C dL_careless_0 <| zz_iconst_0 C dL_careless_1 <| zz_aload_0 C dL_careless_2 <| zz_iload_1 C dL_careless_3 <| zz_iload_2 C dL_careless_4 <| zpc 5 rfl <| ?_
  rw [← hlG] at hM
  refine zx_catchV C hR [_, _] hM lL_79 rfl hK (by decide) rfl ⟨by omega, by omega, zle rfl, zle rfl⟩ (zle rfl) htab [] ⟨0, 9, 12, 27⟩ [⟨0, 9, 16, 13⟩, ⟨0, 9, 20, 46⟩] rfl (fun z hz => by cases hz) rfl (by decide) xl_N xc_N dL_careless_5 ?_
  intro q
  refine zpc 12 rfl <| zz_astore_4 C (zle rfl) rfl dL_careless_12 <| zz_iconst_1 C dL_careless_14 <| zpc 15 rfl <| ?_
  exact zf_ireturn C hE (zle rfl) (zle rfl) dL_careless_15 rfl rfl rfl
theorem wx_careless_A {d : Nat} (p0 : Int32) (p1 : Int32) (hd : d ≤ 13) (hK : zK t 0 = (10, 0)) (hM : zMetX E b l yX10_careless cX10_careless 5 (some .long) d 1 6 [.ref (b + 0), .int p0, .int p1] t h "java/lang/IllegalArgumentException") : zMetW E b l yL_careless cL_careless 5 (some .int) [(0, 9, 12, 27), (0, 9, 16, 13), (0, 9, 20, 46)] 15 1 6 [.ref (b + 0), .int p0, .int p1, .ref (b + 250)] t h (qIf 2 t h) := by
  refine zMetW.of (ls := [some (.ref (b + 0)), some (.int p0), some (.int p1), some (.ref (b + 250)), none]) (by decide) (zle rfl) 1 rfl ?_
  intro G hlG C hR hE htab
  refine zz_aload_3 C dL_careless_0 <| zz_iconst_0 C dL_careless_1 <| zz_aload_0 C dL_careless_2 <| zz_iload_1 C dL_careless_3 <| zz_iload_2 C dL_careless_4 <| zpc 5 rfl <| ?_
  rw [← hlG] at hM
  refine zx_catchV C hR [_, _] hM lL_79 rfl hK (by decide) rfl ⟨by omega, by omega, zle rfl, zle rfl⟩ (zle rfl) htab [⟨0, 9, 12, 27⟩] ⟨0, 9, 16, 13⟩ [⟨0, 9, 20, 46⟩] rfl (fun z hz => by cases List.mem_singleton.mp hz; exact ⟨by decide, _, xl_N, fun U hU => xn_AN hU⟩) rfl (by decide) xl_A xc_A dL_careless_5 ?_
  intro q
  refine zpc 16 rfl <| zz_astore_4 C (zle rfl) rfl dL_careless_16 <| zz_iconst_2 C dL_careless_18 <| zpc 19 rfl <| ?_
  exact zf_ireturn C hE (zle rfl) (zle rfl) dL_careless_19 rfl rfl rfl
theorem wx_careless_S {d : Nat} (p0 : Int32) (p1 : Int32) (hd : d ≤ 13) (hK : zK t 0 = (10, 0)) (hM : zMetX E b l yX10_careless cX10_careless 5 (some .long) d 1 6 [.ref (b + 0), .int p0, .int p1] t h "java/lang/IllegalStateException") : zMetW E b l yL_careless cL_careless 5 (some .int) [(0, 9, 12, 27), (0, 9, 16, 13), (0, 9, 20, 46)] 15 1 6 [.ref (b + 0), .int p0, .int p1, .ref (b + 250)] t h (qIf 3 t h) := by
  refine zMetW.of (ls := [some (.ref (b + 0)), some (.int p0), some (.int p1), some (.ref (b + 250)), none]) (by decide) (zle rfl) 1 rfl ?_
  intro G hlG C hR hE htab
  refine zz_aload_3 C dL_careless_0 <| zz_iconst_0 C dL_careless_1 <| zz_aload_0 C dL_careless_2 <| zz_iload_1 C dL_careless_3 <| zz_iload_2 C dL_careless_4 <| zpc 5 rfl <| ?_
  rw [← hlG] at hM
  refine zx_catchV C hR [_, _] hM lL_79 rfl hK (by decide) rfl ⟨by omega, by omega, zle rfl, zle rfl⟩ (zle rfl) htab [⟨0, 9, 12, 27⟩, ⟨0, 9, 16, 13⟩] ⟨0, 9, 20, 46⟩ [] rfl (fun z hz => by
    rcases List.mem_cons.mp hz with rfl | hz
    · exact ⟨by decide, _, xl_N, fun U hU => xn_SN hU⟩
    · cases List.mem_singleton.mp hz
      exact ⟨by decide, _, xl_A, fun U hU => xn_SA hU⟩) rfl (by decide) xl_S xc_S dL_careless_5 ?_
  intro q
  refine zpc 20 rfl <| zz_astore_4 C (zle rfl) rfl dL_careless_20 <| zz_iconst_3 C dL_careless_22 <| zpc 23 rfl <| ?_
  exact zf_ireturn C hE (zle rfl) (zle rfl) dL_careless_23 rfl rfl rfl
theorem wo_each {post : Int64 → zT → zH → Prop} {d : Nat} (p0 : Int32) (p1 : Int32) (hd : d ≤ 13) (hK : zK t 0 = (10, 0)) (hM : zMet E b l yX10_each cX10_each 5 (some .long) d 0 0 [.ref (b + 0), .int p0, .int p1] t h (qJ post)) (hP : ∀ v t' h', post v t' h' → zK t' 250 = (13, 1)) : zMetW E b l yL_each cL_each 5 (some .int) [(0, 9, 12, 27), (0, 9, 16, 13)] 15 1 6 [.ref (b + 0), .int p0, .int p1, .ref (b + 250)] t h (qI (fun k t' h' => k = 0 ∧ ∃ v h1, post v t' h1 ∧ h' = zsL h1 250 0 v)) := by
  refine zMetW.of (ls := [some (.ref (b + 0)), some (.int p0), some (.int p1), some (.ref (b + 250)), none]) (by decide) (zle rfl) 1 rfl ?_
  intro G hlG C hR hE htab
  refine zz_aload_3 C dL_each_0 <| zz_iconst_0 C dL_each_1 <| zz_aload_0 C dL_each_2 <| zz_iload_1 C dL_each_3 <| zz_iload_2 C dL_each_4 <| zpc 5 rfl <| ?_
  rw [← hlG] at hM
  refine zy_callVJ C hR [_, _] hM lL_82 rfl hK (by decide) rfl ⟨by omega, by omega, zle rfl, zle rfl⟩ (zle rfl) dL_each_5 ?_
  intro r t1 h1 q1
  have h9 := hP _ _ _ q1
  refine zc_lastore C 0 h9 (zlit _ (by decide)) (by decide) dL_each_8 <| zz_goto C 20 dL_each_9 (by decide) <| zz_iconst_0 C dL_each_20 <| zpc 21 rfl <| ?_
  refine zy_ireturn C hE (zle rfl) (zle rfl) dL_each_21 ?_
  exact ⟨rfl, r, h1, q1, rfl⟩
theorem wx_each_N {d : Nat} (p0 : Int32) (p1 : Int32) (hd : d ≤ 13) (hK : zK t 0 = (10, 0)) (hM : zMetX E b l yX10_each cX10_each 5 (some .long) d 1 6 [.ref (b + 0), .int p0, .int p1] t h "java/util/NoSuchElementException") : zMetW E b l yL_each cL_each 5 (some .int) [(0, 9, 12, 27), (0, 9, 16, 13)] 15 1 6 [.ref (b + 0), .int p0, .int p1, .ref (b + 250)] t h (qIf 1 t h) := by
  refine zMetW.of (ls := [some (.ref (b + 0)), some (.int p0), some (.int p1), some (.ref (b + 250)), none]) (by decide) (zle rfl) 1 rfl ?_
  intro G hlG C hR hE htab
  refine zz_aload_3 C dL_each_0 <| zz_iconst_0 C dL_each_1 <| zz_aload_0 C dL_each_2 <| zz_iload_1 C dL_each_3 <| zz_iload_2 C dL_each_4 <| zpc 5 rfl <| ?_
  rw [← hlG] at hM
  refine zx_catchV C hR [_, _] hM lL_82 rfl hK (by decide) rfl ⟨by omega, by omega, zle rfl, zle rfl⟩ (zle rfl) htab [] ⟨0, 9, 12, 27⟩ [⟨0, 9, 16, 13⟩] rfl (fun z hz => by cases hz) rfl (by decide) xl_N xc_N dL_each_5 ?_
  intro q
  refine zpc 12 rfl <| zz_astore_4 C (zle rfl) rfl dL_each_12 <| zz_iconst_1 C dL_each_14 <| zpc 15 rfl <| ?_
  exact zf_ireturn C hE (zle rfl) (zle rfl) dL_each_15 rfl rfl rfl
theorem wx_each_A {d : Nat} (p0 : Int32) (p1 : Int32) (hd : d ≤ 13) (hK : zK t 0 = (10, 0)) (hM : zMetX E b l yX10_each cX10_each 5 (some .long) d 1 6 [.ref (b + 0), .int p0, .int p1] t h "java/lang/IllegalArgumentException") : zMetW E b l yL_each cL_each 5 (some .int) [(0, 9, 12, 27), (0, 9, 16, 13)] 15 1 6 [.ref (b + 0), .int p0, .int p1, .ref (b + 250)] t h (qIf 2 t h) := by
  refine zMetW.of (ls := [some (.ref (b + 0)), some (.int p0), some (.int p1), some (.ref (b + 250)), none]) (by decide) (zle rfl) 1 rfl ?_
  intro G hlG C hR hE htab
  refine zz_aload_3 C dL_each_0 <| zz_iconst_0 C dL_each_1 <| zz_aload_0 C dL_each_2 <| zz_iload_1 C dL_each_3 <| zz_iload_2 C dL_each_4 <| zpc 5 rfl <| ?_
  rw [← hlG] at hM
  refine zx_catchV C hR [_, _] hM lL_82 rfl hK (by decide) rfl ⟨by omega, by omega, zle rfl, zle rfl⟩ (zle rfl) htab [⟨0, 9, 12, 27⟩] ⟨0, 9, 16, 13⟩ [] rfl (fun z hz => by cases List.mem_singleton.mp hz; exact ⟨by decide, _, xl_N, fun U hU => xn_AN hU⟩) rfl (by decide) xl_A xc_A dL_each_5 ?_
  intro q
  refine zpc 16 rfl <| zz_astore_4 C (zle rfl) rfl dL_each_16 <| zz_iconst_2 C dL_each_18 <| zpc 19 rfl <| ?_
  exact zf_ireturn C hE (zle rfl) (zle rfl) dL_each_19 rfl rfl rfl
theorem wo_hold {post : Int64 → zT → zH → Prop} {d : Nat} (p0 : Int32) (p1 : Int32) (p2 : Int32) (hd : d ≤ 13) (hK : zK t 0 = (10, 0)) (hM : zMet E b l yX10_hold cX10_hold 4 (some .long) d 0 0 [.ref (b + 0), .int p0, .int p1, .int p2] t h (qJ post)) (hP : ∀ v t' h', post v t' h' → zK t' 250 = (13, 1)) : zMetW E b l yL_hold cL_hold 6 (some .int) [(0, 11, 14, 27), (0, 11, 18, 13)] 15 1 6 [.ref (b + 0), .int p0, .int p1, .int p2, .ref (b + 250)] t h (qI (fun k t' h' => k = 0 ∧ ∃ v h1, post v t' h1 ∧ h' = zsL h1 250 0 v)) := by
  refine zMetW.of (ls := [some (.ref (b + 0)), some (.int p0), some (.int p1), some (.int p2), some (.ref (b + 250)), none]) (by decide) (zle rfl) 1 rfl ?_
  intro G hlG C hR hE htab
  refine zz_aload_4 C dL_hold_0 <| zz_iconst_0 C dL_hold_2 <| zz_aload_0 C dL_hold_3 <| zz_iload_1 C dL_hold_4 <| zz_iload_2 C dL_hold_5 <| zz_iload_3 C dL_hold_6 <| zpc 7 rfl <| ?_
  rw [← hlG] at hM
  refine zy_callVJ C hR [_, _, _] hM lL_85 rfl hK (by decide) rfl ⟨by omega, by omega, zle rfl, zle rfl⟩ (zle rfl) dL_hold_7 ?_
  intro r t1 h1 q1
  have h9 := hP _ _ _ q1
  refine zc_lastore C 0 h9 (zlit _ (by decide)) (by decide) dL_hold_10 <| zz_goto C 22 dL_hold_11 (by decide) <| zz_iconst_0 C dL_hold_22 <| zpc 23 rfl <| ?_
  refine zy_ireturn C hE (zle rfl) (zle rfl) dL_hold_23 ?_
  exact ⟨rfl, r, h1, q1, rfl⟩
theorem wx_hold_N {d : Nat} (p0 : Int32) (p1 : Int32) (p2 : Int32) (hd : d ≤ 13) (hK : zK t 0 = (10, 0)) (hM : zMetX E b l yX10_hold cX10_hold 4 (some .long) d 1 6 [.ref (b + 0), .int p0, .int p1, .int p2] t h "java/util/NoSuchElementException") : zMetW E b l yL_hold cL_hold 6 (some .int) [(0, 11, 14, 27), (0, 11, 18, 13)] 15 1 6 [.ref (b + 0), .int p0, .int p1, .int p2, .ref (b + 250)] t h (qIf 1 t h) := by
  refine zMetW.of (ls := [some (.ref (b + 0)), some (.int p0), some (.int p1), some (.int p2), some (.ref (b + 250)), none]) (by decide) (zle rfl) 1 rfl ?_
  intro G hlG C hR hE htab
  refine zz_aload_4 C dL_hold_0 <| zz_iconst_0 C dL_hold_2 <| zz_aload_0 C dL_hold_3 <| zz_iload_1 C dL_hold_4 <| zz_iload_2 C dL_hold_5 <| zz_iload_3 C dL_hold_6 <| zpc 7 rfl <| ?_
  rw [← hlG] at hM
  refine zx_catchV C hR [_, _, _] hM lL_85 rfl hK (by decide) rfl ⟨by omega, by omega, zle rfl, zle rfl⟩ (zle rfl) htab [] ⟨0, 11, 14, 27⟩ [⟨0, 11, 18, 13⟩] rfl (fun z hz => by cases hz) rfl (by decide) xl_N xc_N dL_hold_7 ?_
  intro q
  refine zpc 14 rfl <| zz_astore_5 C (zle rfl) rfl dL_hold_14 <| zz_iconst_1 C dL_hold_16 <| zpc 17 rfl <| ?_
  exact zf_ireturn C hE (zle rfl) (zle rfl) dL_hold_17 rfl rfl rfl
theorem wx_hold_A {d : Nat} (p0 : Int32) (p1 : Int32) (p2 : Int32) (hd : d ≤ 13) (hK : zK t 0 = (10, 0)) (hM : zMetX E b l yX10_hold cX10_hold 4 (some .long) d 1 6 [.ref (b + 0), .int p0, .int p1, .int p2] t h "java/lang/IllegalArgumentException") : zMetW E b l yL_hold cL_hold 6 (some .int) [(0, 11, 14, 27), (0, 11, 18, 13)] 15 1 6 [.ref (b + 0), .int p0, .int p1, .int p2, .ref (b + 250)] t h (qIf 2 t h) := by
  refine zMetW.of (ls := [some (.ref (b + 0)), some (.int p0), some (.int p1), some (.int p2), some (.ref (b + 250)), none]) (by decide) (zle rfl) 1 rfl ?_
  intro G hlG C hR hE htab
  refine zz_aload_4 C dL_hold_0 <| zz_iconst_0 C dL_hold_2 <| zz_aload_0 C dL_hold_3 <| zz_iload_1 C dL_hold_4 <| zz_iload_2 C dL_hold_5 <| zz_iload_3 C dL_hold_6 <| zpc 7 rfl <| ?_
  rw [← hlG] at hM
  refine zx_catchV C hR [_, _, _] hM lL_85 rfl hK (by decide) rfl ⟨by omega, by omega, zle rfl, zle rfl⟩ (zle rfl) htab [⟨0, 11, 14, 27⟩] ⟨0, 11, 18, 13⟩ [] rfl (fun z hz => by cases List.mem_singleton.mp hz; exact ⟨by decide, _, xl_N, fun U hU => xn_AN hU⟩) rfl (by decide) xl_A xc_A dL_hold_7 ?_
  intro q
  refine zpc 18 rfl <| zz_astore_5 C (zle rfl) rfl dL_hold_18 <| zz_iconst_2 C dL_hold_20 <| zpc 21 rfl <| ?_
  exact zf_ireturn C hE (zle rfl) (zle rfl) dL_hold_21 rfl rfl rfl
theorem wo_who {post : Int32 → zT → zH → Prop} {d : Nat} (p0 : Int32) (hd : d ≤ 13) (hK : zK t 0 = (10, 0)) (hM : zMet E b l yX10_who cX10_who 10 (some .int) d 0 0 [.ref (b + 0), .int p0] t h (qI post)) (hP : ∀ v t' h', post v t' h' → zK t' 250 = (13, 1)) : zMetW E b l yL_who cL_who 4 (some .int) [(0, 9, 12, 13)] 15 1 6 [.ref (b + 0), .int p0, .ref (b + 250)] t h (qI (fun k t' h' => k = 0 ∧ ∃ v h1, post v t' h1 ∧ h' = zsL h1 250 0 v.toInt64)) := by
  refine zMetW.of (ls := [some (.ref (b + 0)), some (.int p0), some (.ref (b + 250)), none]) (by decide) (zle rfl) 1 rfl ?_
  intro G hlG C hR hE htab
  refine zz_aload_2 C dL_who_0 <| zz_iconst_0 C dL_who_1 <| zz_aload_0 C dL_who_2 <| zz_iload_1 C dL_who_3 <| zpc 4 rfl <| ?_
  rw [← hlG] at hM
  refine zy_callVI C hR [_] hM lL_88 rfl hK (by decide) rfl ⟨by omega, by omega, zle rfl, zle rfl⟩ (zle rfl) dL_who_4 ?_
  intro r t1 h1 q1
  have h9 := hP _ _ _ q1
  refine zz_i2l C dL_who_7 <| zc_lastore C 0 h9 (zlit _ (by decide)) (by decide) dL_who_8 <| zz_goto C 15 dL_who_9 (by decide) <| zz_iconst_0 C dL_who_15 <| zpc 16 rfl <| ?_
  refine zy_ireturn C hE (zle rfl) (zle rfl) dL_who_16 ?_
  exact ⟨rfl, r, h1, q1, rfl⟩
theorem wx_who_A {d : Nat} (p0 : Int32) (hd : d ≤ 13) (hK : zK t 0 = (10, 0)) (hM : zMetX E b l yX10_who cX10_who 10 (some .int) d 1 6 [.ref (b + 0), .int p0] t h "java/lang/IllegalArgumentException") : zMetW E b l yL_who cL_who 4 (some .int) [(0, 9, 12, 13)] 15 1 6 [.ref (b + 0), .int p0, .ref (b + 250)] t h (qIf 1 t h) := by
  refine zMetW.of (ls := [some (.ref (b + 0)), some (.int p0), some (.ref (b + 250)), none]) (by decide) (zle rfl) 1 rfl ?_
  intro G hlG C hR hE htab
  refine zz_aload_2 C dL_who_0 <| zz_iconst_0 C dL_who_1 <| zz_aload_0 C dL_who_2 <| zz_iload_1 C dL_who_3 <| zpc 4 rfl <| ?_
  rw [← hlG] at hM
  refine zx_catchV C hR [_] hM lL_88 rfl hK (by decide) rfl ⟨by omega, by omega, zle rfl, zle rfl⟩ (zle rfl) htab [] ⟨0, 9, 12, 13⟩ [] rfl (fun z hz => by cases hz) rfl (by decide) xl_A xc_A dL_who_4 ?_
  intro q
  refine zpc 12 rfl <| zz_astore_3 C (zle rfl) rfl dL_who_12 <| zz_iconst_1 C dL_who_13 <| zpc 14 rfl <| ?_
  exact zf_ireturn C hE (zle rfl) (zle rfl) dL_who_14 rfl rfl rfl
theorem wo_more {post : Int64 → zT → zH → Prop} {d : Nat} (p0 : Int32) (p1 : Int32) (hd : d ≤ 13) (hK : zK t 0 = (10, 0)) (hM : zMet E b l yX10_more cX10_more 3 (some .long) d 0 0 [.ref (b + 0), .int p0, .int p1] t h (qJ post)) (hP : ∀ v t' h', post v t' h' → zK t' 250 = (13, 1)) : zMetW E b l yL_more cL_more 5 (some .int) [(0, 9, 12, 13)] 15 1 6 [.ref (b + 0), .int p0, .int p1, .ref (b + 250)] t h (qI (fun k t' h' => k = 0 ∧ ∃ v h1, post v t' h1 ∧ h' = zsL h1 250 0 v)) := by
  refine zMetW.of (ls := [some (.ref (b + 0)), some (.int p0), some (.int p1), some (.ref (b + 250)), none]) (by decide) (zle rfl) 1 rfl ?_
  intro G hlG C hR hE htab
  refine zz_aload_3 C dL_more_0 <| zz_iconst_0 C dL_more_1 <| zz_aload_0 C dL_more_2 <| zz_iload_1 C dL_more_3 <| zz_iload_2 C dL_more_4 <| zpc 5 rfl <| ?_
  rw [← hlG] at hM
  refine zy_callVJ C hR [_, _] hM lL_91 rfl hK (by decide) rfl ⟨by omega, by omega, zle rfl, zle rfl⟩ (zle rfl) dL_more_5 ?_
  intro r t1 h1 q1
  have h9 := hP _ _ _ q1
  refine zc_lastore C 0 h9 (zlit _ (by decide)) (by decide) dL_more_8 <| zz_goto C 16 dL_more_9 (by decide) <| zz_iconst_0 C dL_more_16 <| zpc 17 rfl <| ?_
  refine zy_ireturn C hE (zle rfl) (zle rfl) dL_more_17 ?_
  exact ⟨rfl, r, h1, q1, rfl⟩
theorem wx_more_A {d : Nat} (p0 : Int32) (p1 : Int32) (hd : d ≤ 13) (hK : zK t 0 = (10, 0)) (hM : zMetX E b l yX10_more cX10_more 3 (some .long) d 1 6 [.ref (b + 0), .int p0, .int p1] t h "java/lang/IllegalArgumentException") : zMetW E b l yL_more cL_more 5 (some .int) [(0, 9, 12, 13)] 15 1 6 [.ref (b + 0), .int p0, .int p1, .ref (b + 250)] t h (qIf 1 t h) := by
  refine zMetW.of (ls := [some (.ref (b + 0)), some (.int p0), some (.int p1), some (.ref (b + 250)), none]) (by decide) (zle rfl) 1 rfl ?_
  intro G hlG C hR hE htab
  refine zz_aload_3 C dL_more_0 <| zz_iconst_0 C dL_more_1 <| zz_aload_0 C dL_more_2 <| zz_iload_1 C dL_more_3 <| zz_iload_2 C dL_more_4 <| zpc 5 rfl <| ?_
  rw [← hlG] at hM
  refine zx_catchV C hR [_, _] hM lL_91 rfl hK (by decide) rfl ⟨by omega, by omega, zle rfl, zle rfl⟩ (zle rfl) htab [] ⟨0, 9, 12, 13⟩ [] rfl (fun z hz => by cases hz) rfl (by decide) xl_A xc_A dL_more_5 ?_
  intro q
  refine zpc 12 rfl <| zz_astore_4 C (zle rfl) rfl dL_more_12 <| zz_iconst_1 C dL_more_14 <| zpc 15 rfl <| ?_
  exact zf_ireturn C hE (zle rfl) (zle rfl) dL_more_15 rfl rfl rfl
theorem wo_which {post : Int32 → zT → zH → Prop} {d : Nat} (p0 : Int32) (hd : d ≤ 13) (hK : zK t 0 = (10, 0)) (hM : zMet E b l yX10_which cX10_which 8 (some .int) d 0 0 [.ref (b + 0), .int p0] t h (qI post)) (hP : ∀ v t' h', post v t' h' → zK t' 250 = (13, 1)) : zMetW E b l yL_which cL_which 4 (some .int) [(0, 9, 12, 13)] 15 1 6 [.ref (b + 0), .int p0, .ref (b + 250)] t h (qI (fun k t' h' => k = 0 ∧ ∃ v h1, post v t' h1 ∧ h' = zsL h1 250 0 v.toInt64)) := by
  refine zMetW.of (ls := [some (.ref (b + 0)), some (.int p0), some (.ref (b + 250)), none]) (by decide) (zle rfl) 1 rfl ?_
  intro G hlG C hR hE htab
  refine zz_aload_2 C dL_which_0 <| zz_iconst_0 C dL_which_1 <| zz_aload_0 C dL_which_2 <| zz_iload_1 C dL_which_3 <| zpc 4 rfl <| ?_
  rw [← hlG] at hM
  refine zy_callVI C hR [_] hM lL_94 rfl hK (by decide) rfl ⟨by omega, by omega, zle rfl, zle rfl⟩ (zle rfl) dL_which_4 ?_
  intro r t1 h1 q1
  have h9 := hP _ _ _ q1
  refine zz_i2l C dL_which_7 <| zc_lastore C 0 h9 (zlit _ (by decide)) (by decide) dL_which_8 <| zz_goto C 15 dL_which_9 (by decide) <| zz_iconst_0 C dL_which_15 <| zpc 16 rfl <| ?_
  refine zy_ireturn C hE (zle rfl) (zle rfl) dL_which_16 ?_
  exact ⟨rfl, r, h1, q1, rfl⟩
theorem wx_which_A {d : Nat} (p0 : Int32) (hd : d ≤ 13) (hK : zK t 0 = (10, 0)) (hM : zMetX E b l yX10_which cX10_which 8 (some .int) d 1 6 [.ref (b + 0), .int p0] t h "java/lang/IllegalArgumentException") : zMetW E b l yL_which cL_which 4 (some .int) [(0, 9, 12, 13)] 15 1 6 [.ref (b + 0), .int p0, .ref (b + 250)] t h (qIf 1 t h) := by
  refine zMetW.of (ls := [some (.ref (b + 0)), some (.int p0), some (.ref (b + 250)), none]) (by decide) (zle rfl) 1 rfl ?_
  intro G hlG C hR hE htab
  refine zz_aload_2 C dL_which_0 <| zz_iconst_0 C dL_which_1 <| zz_aload_0 C dL_which_2 <| zz_iload_1 C dL_which_3 <| zpc 4 rfl <| ?_
  rw [← hlG] at hM
  refine zx_catchV C hR [_] hM lL_94 rfl hK (by decide) rfl ⟨by omega, by omega, zle rfl, zle rfl⟩ (zle rfl) htab [] ⟨0, 9, 12, 13⟩ [] rfl (fun z hz => by cases hz) rfl (by decide) xl_A xc_A dL_which_4 ?_
  intro q
  refine zpc 12 rfl <| zz_astore_3 C (zle rfl) rfl dL_which_12 <| zz_iconst_1 C dL_which_13 <| zpc 14 rfl <| ?_
  exact zf_ireturn C hE (zle rfl) (zle rfl) dL_which_14 rfl rfl rfl
theorem wo_men {post : Int64 → zT → zH → Prop} {d : Nat} (p0 : Int32) (p1 : Int32) (hd : d ≤ 13) (hK : zK t 0 = (10, 0)) (hM : zMet E b l yX10_men cX10_men 3 (some .long) d 0 0 [.ref (b + 0), .int p0, .int p1] t h (qJ post)) (hP : ∀ v t' h', post v t' h' → zK t' 250 = (13, 1)) : zMetW E b l yL_men cL_men 5 (some .int) [(0, 9, 12, 22), (0, 9, 16, 13)] 15 1 6 [.ref (b + 0), .int p0, .int p1, .ref (b + 250)] t h (qI (fun k t' h' => k = 0 ∧ ∃ v h1, post v t' h1 ∧ h' = zsL h1 250 0 v)) := by
  refine zMetW.of (ls := [some (.ref (b + 0)), some (.int p0), some (.int p1), some (.ref (b + 250)), none]) (by decide) (zle rfl) 1 rfl ?_
  intro G hlG C hR hE htab
  refine zz_aload_3 C dL_men_0 <| zz_iconst_0 C dL_men_1 <| zz_aload_0 C dL_men_2 <| zz_iload_1 C dL_men_3 <| zz_iload_2 C dL_men_4 <| zpc 5 rfl <| ?_
  rw [← hlG] at hM
  refine zy_callVJ C hR [_, _] hM lL_97 rfl hK (by decide) rfl ⟨by omega, by omega, zle rfl, zle rfl⟩ (zle rfl) dL_men_5 ?_
  intro r t1 h1 q1
  have h9 := hP _ _ _ q1
  refine zc_lastore C 0 h9 (zlit _ (by decide)) (by decide) dL_men_8 <| zz_goto C 20 dL_men_9 (by decide) <| zz_iconst_0 C dL_men_20 <| zpc 21 rfl <| ?_
  refine zy_ireturn C hE (zle rfl) (zle rfl) dL_men_21 ?_
  exact ⟨rfl, r, h1, q1, rfl⟩
theorem wx_men_R {d : Nat} (p0 : Int32) (p1 : Int32) (hd : d ≤ 13) (hK : zK t 0 = (10, 0)) (hM : zMetX E b l yX10_men cX10_men 3 (some .long) d 1 6 [.ref (b + 0), .int p0, .int p1] t h "java/lang/IndexOutOfBoundsException") : zMetW E b l yL_men cL_men 5 (some .int) [(0, 9, 12, 22), (0, 9, 16, 13)] 15 1 6 [.ref (b + 0), .int p0, .int p1, .ref (b + 250)] t h (qIf 1 t h) := by
  refine zMetW.of (ls := [some (.ref (b + 0)), some (.int p0), some (.int p1), some (.ref (b + 250)), none]) (by decide) (zle rfl) 1 rfl ?_
  intro G hlG C hR hE htab
  refine zz_aload_3 C dL_men_0 <| zz_iconst_0 C dL_men_1 <| zz_aload_0 C dL_men_2 <| zz_iload_1 C dL_men_3 <| zz_iload_2 C dL_men_4 <| zpc 5 rfl <| ?_
  rw [← hlG] at hM
  refine zx_catchV C hR [_, _] hM lL_97 rfl hK (by decide) rfl ⟨by omega, by omega, zle rfl, zle rfl⟩ (zle rfl) htab [] ⟨0, 9, 12, 22⟩ [⟨0, 9, 16, 13⟩] rfl (fun z hz => by cases hz) rfl (by decide) xl_R xc_R dL_men_5 ?_
  intro q
  refine zpc 12 rfl <| zz_astore_4 C (zle rfl) rfl dL_men_12 <| zz_iconst_1 C dL_men_14 <| zpc 15 rfl <| ?_
  exact zf_ireturn C hE (zle rfl) (zle rfl) dL_men_15 rfl rfl rfl
theorem wx_men_A {d : Nat} (p0 : Int32) (p1 : Int32) (hd : d ≤ 13) (hK : zK t 0 = (10, 0)) (hM : zMetX E b l yX10_men cX10_men 3 (some .long) d 1 6 [.ref (b + 0), .int p0, .int p1] t h "java/lang/IllegalArgumentException") : zMetW E b l yL_men cL_men 5 (some .int) [(0, 9, 12, 22), (0, 9, 16, 13)] 15 1 6 [.ref (b + 0), .int p0, .int p1, .ref (b + 250)] t h (qIf 2 t h) := by
  refine zMetW.of (ls := [some (.ref (b + 0)), some (.int p0), some (.int p1), some (.ref (b + 250)), none]) (by decide) (zle rfl) 1 rfl ?_
  intro G hlG C hR hE htab
  refine zz_aload_3 C dL_men_0 <| zz_iconst_0 C dL_men_1 <| zz_aload_0 C dL_men_2 <| zz_iload_1 C dL_men_3 <| zz_iload_2 C dL_men_4 <| zpc 5 rfl <| ?_
  rw [← hlG] at hM
  refine zx_catchV C hR [_, _] hM lL_97 rfl hK (by decide) rfl ⟨by omega, by omega, zle rfl, zle rfl⟩ (zle rfl) htab [⟨0, 9, 12, 22⟩] ⟨0, 9, 16, 13⟩ [] rfl (fun z hz => by cases List.mem_singleton.mp hz; exact ⟨by decide, _, xl_R, fun U hU => xn_AR hU⟩) rfl (by decide) xl_A xc_A dL_men_5 ?_
  intro q
  refine zpc 16 rfl <| zz_astore_4 C (zle rfl) rfl dL_men_16 <| zz_iconst_2 C dL_men_18 <| zpc 19 rfl <| ?_
  exact zf_ireturn C hE (zle rfl) (zle rfl) dL_men_19 rfl rfl rfl
theorem wo_beside {post : Int32 → zT → zH → Prop} {d : Nat} (p0 : Int32) (hd : d ≤ 13) (hK : zK t 0 = (10, 0)) (hM : zMet E b l yX10_beside cX10_beside 8 (some .int) d 0 0 [.ref (b + 0), .int p0] t h (qI post)) (hP : ∀ v t' h', post v t' h' → zK t' 250 = (13, 1)) : zMetW E b l yL_beside cL_beside 4 (some .int) [(0, 9, 12, 13)] 15 1 6 [.ref (b + 0), .int p0, .ref (b + 250)] t h (qI (fun k t' h' => k = 0 ∧ ∃ v h1, post v t' h1 ∧ h' = zsL h1 250 0 v.toInt64)) := by
  refine zMetW.of (ls := [some (.ref (b + 0)), some (.int p0), some (.ref (b + 250)), none]) (by decide) (zle rfl) 1 rfl ?_
  intro G hlG C hR hE htab
  refine zz_aload_2 C dL_beside_0 <| zz_iconst_0 C dL_beside_1 <| zz_aload_0 C dL_beside_2 <| zz_iload_1 C dL_beside_3 <| zpc 4 rfl <| ?_
  rw [← hlG] at hM
  refine zy_callVI C hR [_] hM lL_100 rfl hK (by decide) rfl ⟨by omega, by omega, zle rfl, zle rfl⟩ (zle rfl) dL_beside_4 ?_
  intro r t1 h1 q1
  have h9 := hP _ _ _ q1
  refine zz_i2l C dL_beside_7 <| zc_lastore C 0 h9 (zlit _ (by decide)) (by decide) dL_beside_8 <| zz_goto C 15 dL_beside_9 (by decide) <| zz_iconst_0 C dL_beside_15 <| zpc 16 rfl <| ?_
  refine zy_ireturn C hE (zle rfl) (zle rfl) dL_beside_16 ?_
  exact ⟨rfl, r, h1, q1, rfl⟩
theorem wx_beside_A {d : Nat} (p0 : Int32) (hd : d ≤ 13) (hK : zK t 0 = (10, 0)) (hM : zMetX E b l yX10_beside cX10_beside 8 (some .int) d 1 6 [.ref (b + 0), .int p0] t h "java/lang/IllegalArgumentException") : zMetW E b l yL_beside cL_beside 4 (some .int) [(0, 9, 12, 13)] 15 1 6 [.ref (b + 0), .int p0, .ref (b + 250)] t h (qIf 1 t h) := by
  refine zMetW.of (ls := [some (.ref (b + 0)), some (.int p0), some (.ref (b + 250)), none]) (by decide) (zle rfl) 1 rfl ?_
  intro G hlG C hR hE htab
  refine zz_aload_2 C dL_beside_0 <| zz_iconst_0 C dL_beside_1 <| zz_aload_0 C dL_beside_2 <| zz_iload_1 C dL_beside_3 <| zpc 4 rfl <| ?_
  rw [← hlG] at hM
  refine zx_catchV C hR [_] hM lL_100 rfl hK (by decide) rfl ⟨by omega, by omega, zle rfl, zle rfl⟩ (zle rfl) htab [] ⟨0, 9, 12, 13⟩ [] rfl (fun z hz => by cases hz) rfl (by decide) xl_A xc_A dL_beside_4 ?_
  intro q
  refine zpc 12 rfl <| zz_astore_3 C (zle rfl) rfl dL_beside_12 <| zz_iconst_1 C dL_beside_13 <| zpc 14 rfl <| ?_
  exact zf_ireturn C hE (zle rfl) (zle rfl) dL_beside_14 rfl rfl rfl
theorem wo_law {post : Int64 → zT → zH → Prop} {d : Nat} (p0 : Int32) (p1 : Int32) (hd : d ≤ 13) (hK : zK t 0 = (10, 0)) (hM : zMet E b l yX10_law cX10_law 3 (some .long) d 0 0 [.ref (b + 0), .int p0, .int p1] t h (qJ post)) (hP : ∀ v t' h', post v t' h' → zK t' 250 = (13, 1)) : zMetW E b l yL_law cL_law 5 (some .int) [(0, 9, 12, 13)] 15 1 6 [.ref (b + 0), .int p0, .int p1, .ref (b + 250)] t h (qI (fun k t' h' => k = 0 ∧ ∃ v h1, post v t' h1 ∧ h' = zsL h1 250 0 v)) := by
  refine zMetW.of (ls := [some (.ref (b + 0)), some (.int p0), some (.int p1), some (.ref (b + 250)), none]) (by decide) (zle rfl) 1 rfl ?_
  intro G hlG C hR hE htab
  refine zz_aload_3 C dL_law_0 <| zz_iconst_0 C dL_law_1 <| zz_aload_0 C dL_law_2 <| zz_iload_1 C dL_law_3 <| zz_iload_2 C dL_law_4 <| zpc 5 rfl <| ?_
  rw [← hlG] at hM
  refine zy_callVJ C hR [_, _] hM lL_103 rfl hK (by decide) rfl ⟨by omega, by omega, zle rfl, zle rfl⟩ (zle rfl) dL_law_5 ?_
  intro r t1 h1 q1
  have h9 := hP _ _ _ q1
  refine zc_lastore C 0 h9 (zlit _ (by decide)) (by decide) dL_law_8 <| zz_goto C 16 dL_law_9 (by decide) <| zz_iconst_0 C dL_law_16 <| zpc 17 rfl <| ?_
  refine zy_ireturn C hE (zle rfl) (zle rfl) dL_law_17 ?_
  exact ⟨rfl, r, h1, q1, rfl⟩
theorem wx_law_A {d : Nat} (p0 : Int32) (p1 : Int32) (hd : d ≤ 13) (hK : zK t 0 = (10, 0)) (hM : zMetX E b l yX10_law cX10_law 3 (some .long) d 1 6 [.ref (b + 0), .int p0, .int p1] t h "java/lang/IllegalArgumentException") : zMetW E b l yL_law cL_law 5 (some .int) [(0, 9, 12, 13)] 15 1 6 [.ref (b + 0), .int p0, .int p1, .ref (b + 250)] t h (qIf 1 t h) := by
  refine zMetW.of (ls := [some (.ref (b + 0)), some (.int p0), some (.int p1), some (.ref (b + 250)), none]) (by decide) (zle rfl) 1 rfl ?_
  intro G hlG C hR hE htab
  refine zz_aload_3 C dL_law_0 <| zz_iconst_0 C dL_law_1 <| zz_aload_0 C dL_law_2 <| zz_iload_1 C dL_law_3 <| zz_iload_2 C dL_law_4 <| zpc 5 rfl <| ?_
  rw [← hlG] at hM
  refine zx_catchV C hR [_, _] hM lL_103 rfl hK (by decide) rfl ⟨by omega, by omega, zle rfl, zle rfl⟩ (zle rfl) htab [] ⟨0, 9, 12, 13⟩ [] rfl (fun z hz => by cases hz) rfl (by decide) xl_A xc_A dL_law_5 ?_
  intro q
  refine zpc 12 rfl <| zz_astore_4 C (zle rfl) rfl dL_law_12 <| zz_iconst_1 C dL_law_14 <| zpc 15 rfl <| ?_
  exact zf_ireturn C hE (zle rfl) (zle rfl) dL_law_15 rfl rfl rfl
theorem wo_other {post : Int32 → zT → zH → Prop} {d : Nat} (p0 : Int32) (hd : d ≤ 13) (hK : zK t 0 = (10, 0)) (hM : zMet E b l yX10_other cX10_other 8 (some .int) d 0 0 [.ref (b + 0), .int p0] t h (qI post)) (hP : ∀ v t' h', post v t' h' → zK t' 250 = (13, 1)) : zMetW E b l yL_other cL_other 4 (some .int) [(0, 9, 12, 13)] 15 1 6 [.ref (b + 0), .int p0, .ref (b + 250)] t h (qI (fun k t' h' => k = 0 ∧ ∃ v h1, post v t' h1 ∧ h' = zsL h1 250 0 v.toInt64)) := by
  refine zMetW.of (ls := [some (.ref (b + 0)), some (.int p0), some (.ref (b + 250)), none]) (by decide) (zle rfl) 1 rfl ?_
  intro G hlG C hR hE htab
  refine zz_aload_2 C dL_other_0 <| zz_iconst_0 C dL_other_1 <| zz_aload_0 C dL_other_2 <| zz_iload_1 C dL_other_3 <| zpc 4 rfl <| ?_
  rw [← hlG] at hM
  refine zy_callVI C hR [_] hM lL_106 rfl hK (by decide) rfl ⟨by omega, by omega, zle rfl, zle rfl⟩ (zle rfl) dL_other_4 ?_
  intro r t1 h1 q1
  have h9 := hP _ _ _ q1
  refine zz_i2l C dL_other_7 <| zc_lastore C 0 h9 (zlit _ (by decide)) (by decide) dL_other_8 <| zz_goto C 15 dL_other_9 (by decide) <| zz_iconst_0 C dL_other_15 <| zpc 16 rfl <| ?_
  refine zy_ireturn C hE (zle rfl) (zle rfl) dL_other_16 ?_
  exact ⟨rfl, r, h1, q1, rfl⟩
theorem wx_other_A {d : Nat} (p0 : Int32) (hd : d ≤ 13) (hK : zK t 0 = (10, 0)) (hM : zMetX E b l yX10_other cX10_other 8 (some .int) d 1 6 [.ref (b + 0), .int p0] t h "java/lang/IllegalArgumentException") : zMetW E b l yL_other cL_other 4 (some .int) [(0, 9, 12, 13)] 15 1 6 [.ref (b + 0), .int p0, .ref (b + 250)] t h (qIf 1 t h) := by
  refine zMetW.of (ls := [some (.ref (b + 0)), some (.int p0), some (.ref (b + 250)), none]) (by decide) (zle rfl) 1 rfl ?_
  intro G hlG C hR hE htab
  refine zz_aload_2 C dL_other_0 <| zz_iconst_0 C dL_other_1 <| zz_aload_0 C dL_other_2 <| zz_iload_1 C dL_other_3 <| zpc 4 rfl <| ?_
  rw [← hlG] at hM
  refine zx_catchV C hR [_] hM lL_106 rfl hK (by decide) rfl ⟨by omega, by omega, zle rfl, zle rfl⟩ (zle rfl) htab [] ⟨0, 9, 12, 13⟩ [] rfl (fun z hz => by cases hz) rfl (by decide) xl_A xc_A dL_other_4 ?_
  intro q
  refine zpc 12 rfl <| zz_astore_3 C (zle rfl) rfl dL_other_12 <| zz_iconst_1 C dL_other_13 <| zpc 14 rfl <| ?_
  exact zf_ireturn C hE (zle rfl) (zle rfl) dL_other_14 rfl rfl rfl
theorem wo_fits {post : Int32 → zT → zH → Prop} {d : Nat} (p0 : Int64) (p1 : Int32) (hd : d ≤ 13) (hK : zK t 0 = (10, 0)) (hM : zMet E b l yX10_fits cX10_fits 9 (some .int) d 0 0 [.ref (b + 0), .long p0, .int p1] t h (qI post)) (hP : ∀ v t' h', post v t' h' → zK t' 250 = (13, 1)) : zMetW E b l yL_fits cL_fits 6 (some .int) [(0, 11, 14, 13)] 15 1 6 [.ref (b + 0), .long p0, .int p1, .ref (b + 250)] t h (qI (fun k t' h' => k = 0 ∧ ∃ v h1, post v t' h1 ∧ h' = zsL h1 250 0 v.toInt64)) := by
  refine zMetW.of (ls := [some (.ref (b + 0)), some (.long p0), none, some (.int p1), some (.ref (b + 250)), none]) (by decide) (zle rfl) 1 rfl ?_
  intro G hlG C hR hE htab
  refine zz_aload_4 C dL_fits_0 <| zz_iconst_0 C dL_fits_2 <| zz_aload_0 C dL_fits_3 <| zz_lload_1 C dL_fits_4 <| zz_iload_3 C dL_fits_5 <| zpc 6 rfl <| ?_
  rw [← hlG] at hM
  refine zy_callVI C hR [_, _] hM lL_109 rfl hK (by decide) rfl ⟨by omega, by omega, zle rfl, zle rfl⟩ (zle rfl) dL_fits_6 ?_
  intro r t1 h1 q1
  have h9 := hP _ _ _ q1
  refine zz_i2l C dL_fits_9 <| zc_lastore C 0 h9 (zlit _ (by decide)) (by decide) dL_fits_10 <| zz_goto C 18 dL_fits_11 (by decide) <| zz_iconst_0 C dL_fits_18 <| zpc 19 rfl <| ?_
  refine zy_ireturn C hE (zle rfl) (zle rfl) dL_fits_19 ?_
  exact ⟨rfl, r, h1, q1, rfl⟩
theorem wx_fits_A {d : Nat} (p0 : Int64) (p1 : Int32) (hd : d ≤ 13) (hK : zK t 0 = (10, 0)) (hM : zMetX E b l yX10_fits cX10_fits 9 (some .int) d 1 6 [.ref (b + 0), .long p0, .int p1] t h "java/lang/IllegalArgumentException") : zMetW E b l yL_fits cL_fits 6 (some .int) [(0, 11, 14, 13)] 15 1 6 [.ref (b + 0), .long p0, .int p1, .ref (b + 250)] t h (qIf 1 t h) := by
  refine zMetW.of (ls := [some (.ref (b + 0)), some (.long p0), none, some (.int p1), some (.ref (b + 250)), none]) (by decide) (zle rfl) 1 rfl ?_
  intro G hlG C hR hE htab
  refine zz_aload_4 C dL_fits_0 <| zz_iconst_0 C dL_fits_2 <| zz_aload_0 C dL_fits_3 <| zz_lload_1 C dL_fits_4 <| zz_iload_3 C dL_fits_5 <| zpc 6 rfl <| ?_
  rw [← hlG] at hM
  refine zx_catchV C hR [_, _] hM lL_109 rfl hK (by decide) rfl ⟨by omega, by omega, zle rfl, zle rfl⟩ (zle rfl) htab [] ⟨0, 11, 14, 13⟩ [] rfl (fun z hz => by cases hz) rfl (by decide) xl_A xc_A dL_fits_6 ?_
  intro q
  refine zpc 14 rfl <| zz_astore_5 C (zle rfl) rfl dL_fits_14 <| zz_iconst_1 C dL_fits_16 <| zpc 17 rfl <| ?_
  exact zf_ireturn C hE (zle rfl) (zle rfl) dL_fits_17 rfl rfl rfl
theorem wo_seed {post : Int64 → zT → zH → Prop} {d : Nat} (p0 : Int32) (p1 : Int32) (p2 : Int32) (p3 : Int32) (hd : d ≤ 13) (hK : zK t 0 = (10, 0)) (hM : zMet E b l yX10_seed cX10_seed 7 (some .long) d 0 0 [.ref (b + 0), .int p0, .int p1, .int p2, .int p3] t h (qJ post)) (hP : ∀ v t' h', post v t' h' → zK t' 250 = (13, 1)) : zMetW E b l yL_seed cL_seed 7 (some .int) [(0, 13, 16, 13), (0, 13, 20, 46)] 15 1 6 [.ref (b + 0), .int p0, .int p1, .int p2, .int p3, .ref (b + 250)] t h (qI (fun k t' h' => k = 0 ∧ ∃ v h1, post v t' h1 ∧ h' = zsL h1 250 0 v)) := by
  refine zMetW.of (ls := [some (.ref (b + 0)), some (.int p0), some (.int p1), some (.int p2), some (.int p3), some (.ref (b + 250)), none]) (by decide) (zle rfl) 1 rfl ?_
  intro G hlG C hR hE htab
  refine zz_aload_5 C dL_seed_0 <| zz_iconst_0 C dL_seed_2 <| zz_aload_0 C dL_seed_3 <| zz_iload_1 C dL_seed_4 <| zz_iload_2 C dL_seed_5 <| zz_iload_3 C dL_seed_6 <| zz_iload_4 C dL_seed_7 <| zpc 9 rfl <| ?_
  rw [← hlG] at hM
  refine zy_callVJ C hR [_, _, _, _] hM lL_113 rfl hK (by decide) rfl ⟨by omega, by omega, zle rfl, zle rfl⟩ (zle rfl) dL_seed_9 ?_
  intro r t1 h1 q1
  have h9 := hP _ _ _ q1
  refine zc_lastore C 0 h9 (zlit _ (by decide)) (by decide) dL_seed_12 <| zz_goto C 24 dL_seed_13 (by decide) <| zz_iconst_0 C dL_seed_24 <| zpc 25 rfl <| ?_
  refine zy_ireturn C hE (zle rfl) (zle rfl) dL_seed_25 ?_
  exact ⟨rfl, r, h1, q1, rfl⟩
theorem wx_seed_A {d : Nat} (p0 : Int32) (p1 : Int32) (p2 : Int32) (p3 : Int32) (hd : d ≤ 13) (hK : zK t 0 = (10, 0)) (hM : zMetX E b l yX10_seed cX10_seed 7 (some .long) d 1 6 [.ref (b + 0), .int p0, .int p1, .int p2, .int p3] t h "java/lang/IllegalArgumentException") : zMetW E b l yL_seed cL_seed 7 (some .int) [(0, 13, 16, 13), (0, 13, 20, 46)] 15 1 6 [.ref (b + 0), .int p0, .int p1, .int p2, .int p3, .ref (b + 250)] t h (qIf 1 t h) := by
  refine zMetW.of (ls := [some (.ref (b + 0)), some (.int p0), some (.int p1), some (.int p2), some (.int p3), some (.ref (b + 250)), none]) (by decide) (zle rfl) 1 rfl ?_
  intro G hlG C hR hE htab
  refine zz_aload_5 C dL_seed_0 <| zz_iconst_0 C dL_seed_2 <| zz_aload_0 C dL_seed_3 <| zz_iload_1 C dL_seed_4 <| zz_iload_2 C dL_seed_5 <| zz_iload_3 C dL_seed_6 <| zz_iload_4 C dL_seed_7 <| zpc 9 rfl <| ?_
  rw [← hlG] at hM
  refine zx_catchV C hR [_, _, _, _] hM lL_113 rfl hK (by decide) rfl ⟨by omega, by omega, zle rfl, zle rfl⟩ (zle rfl) htab [] ⟨0, 13, 16, 13⟩ [⟨0, 13, 20, 46⟩] rfl (fun z hz => by cases hz) rfl (by decide) xl_A xc_A dL_seed_9 ?_
  intro q
  refine zpc 16 rfl <| zz_astore_6 C (zle rfl) rfl dL_seed_16 <| zz_iconst_1 C dL_seed_18 <| zpc 19 rfl <| ?_
  exact zf_ireturn C hE (zle rfl) (zle rfl) dL_seed_19 rfl rfl rfl
theorem wx_seed_S {d : Nat} (p0 : Int32) (p1 : Int32) (p2 : Int32) (p3 : Int32) (hd : d ≤ 13) (hK : zK t 0 = (10, 0)) (hM : zMetX E b l yX10_seed cX10_seed 7 (some .long) d 1 6 [.ref (b + 0), .int p0, .int p1, .int p2, .int p3] t h "java/lang/IllegalStateException") : zMetW E b l yL_seed cL_seed 7 (some .int) [(0, 13, 16, 13), (0, 13, 20, 46)] 15 1 6 [.ref (b + 0), .int p0, .int p1, .int p2, .int p3, .ref (b + 250)] t h (qIf 2 t h) := by
  refine zMetW.of (ls := [some (.ref (b + 0)), some (.int p0), some (.int p1), some (.int p2), some (.int p3), some (.ref (b + 250)), none]) (by decide) (zle rfl) 1 rfl ?_
  intro G hlG C hR hE htab
  refine zz_aload_5 C dL_seed_0 <| zz_iconst_0 C dL_seed_2 <| zz_aload_0 C dL_seed_3 <| zz_iload_1 C dL_seed_4 <| zz_iload_2 C dL_seed_5 <| zz_iload_3 C dL_seed_6 <| zz_iload_4 C dL_seed_7 <| zpc 9 rfl <| ?_
  rw [← hlG] at hM
  refine zx_catchV C hR [_, _, _, _] hM lL_113 rfl hK (by decide) rfl ⟨by omega, by omega, zle rfl, zle rfl⟩ (zle rfl) htab [⟨0, 13, 16, 13⟩] ⟨0, 13, 20, 46⟩ [] rfl (fun z hz => by cases List.mem_singleton.mp hz; exact ⟨by decide, _, xl_A, fun U hU => xn_SA hU⟩) rfl (by decide) xl_S xc_S dL_seed_9 ?_
  intro q
  refine zpc 20 rfl <| zz_astore_6 C (zle rfl) rfl dL_seed_20 <| zz_iconst_2 C dL_seed_22 <| zpc 23 rfl <| ?_
  exact zf_ireturn C hE (zle rfl) (zle rfl) dL_seed_23 rfl rfl rfl
end ZLW
