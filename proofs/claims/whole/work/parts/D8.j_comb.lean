/-! ===== a call on both sides ===== -/
def jAft (t : zT) (h : zH) (K : Nat) : Prop := ∃ a c e S, jI t h a c e S K
/-- behind the wrapper's call: the reference answers the same -/
def jMI (E : zE) (b : Nat) (l : Launch) (y : MethodName) (cc : ByteArray) (ml : Nat) (rt : Option FieldType) (av : List Value) (K : Nat) : Int32 → zT → zH → Prop := fun k t' h' => zTM t' ∧ ∃ d, d ≤ 13 ∧ zMet E b l y cc ml rt d 0 0 (.ref (b + 157) :: av) t' h' (qI (fun r t'' h'' => zI h'' 157 0 = k ∧ (k = 0 → zL h'' 250 0 = r.toInt64) ∧ jAft t'' h'' K))
def jMJ (E : zE) (b : Nat) (l : Launch) (y : MethodName) (cc : ByteArray) (ml : Nat) (rt : Option FieldType) (av : List Value) (K : Nat) : Int32 → zT → zH → Prop := fun k t' h' => zTM t' ∧ ∃ d, d ≤ 13 ∧ zMet E b l y cc ml rt d 0 0 (.ref (b + 157) :: av) t' h' (qJ (fun r t'' h'' => zI h'' 157 0 = k ∧ (k = 0 → zL h'' 250 0 = r) ∧ jAft t'' h'' K))
/-- behind a call without a wrapper -/
def jEI (E : zE) (b : Nat) (l : Launch) (y : MethodName) (cc : ByteArray) (ml : Nat) (rt : Option FieldType) (av : List Value) (K : Nat) : Int32 → zT → zH → Prop := fun v t' h' => zTM t' ∧ ∃ d, d ≤ 13 ∧ zMet E b l y cc ml rt d 0 0 (.ref (b + 157) :: av) t' h' (qI (fun r t'' h'' => r = v ∧ jAft t'' h'' K))
def jEJ (E : zE) (b : Nat) (l : Launch) (y : MethodName) (cc : ByteArray) (ml : Nat) (rt : Option FieldType) (av : List Value) (K : Nat) : Int64 → zT → zH → Prop := fun v t' h' => zTM t' ∧ ∃ d, d ≤ 13 ∧ zMet E b l y cc ml rt d 0 0 (.ref (b + 157) :: av) t' h' (qJ (fun r t'' h'' => r = v ∧ jAft t'' h'' K))
section JAC
variable {t : zT} {h : zH} {a c e : Nat} {S : yJ} {K : Nat}
theorem jI.T (I : jI t h a c e S K) : zTM t := I.1.1
theorem jI.X (I : jI t h a c e S K) : zTX t a c e := I.1.2.1
theorem jI.F (I : jI t h a c e S K) : t.1.2 = false := I.1.2.2.1
theorem jI.kX (I : jI t h a c e S K) : zK t 0 = (10, 0) := tX_K_X I.X
theorem jI.O (I : jI t h a c e S K) : dOk S.1.1 S.1.2.1 S.1.2.2 := I.2.1.1
theorem jI.C (I : jI t h a c e S K) : cSn h a S.1.1 S.1.2.1 S.1.2.2 := I.2.2.1.1
theorem jI.D (I : jI t h a c e S K) : sdOk S.1.1 yP0 := I.2.1.1.1
theorem jI.M (I : jI t h a c e S K) : mSd h S.1.1 yP0 := I.2.2.2.1
theorem jI.ro (I : jI t h a c e S K) : mRo h S.1.2.2 := I.2.2.2.2.1
theorem jI.Ro (I : jI t h a c e S K) : roOk S.1.2.2 := I.O.2.2.2.1
theorem jI.mo (I : jI t h a c e S K) : mMo h S.1.2.1 := I.2.2.2.2.2.1
theorem jI.Mo (I : jI t h a c e S K) : moOk S.1.1.1.1.1 S.1.2.1 := I.O.2.2.2.2
theorem jI.t0 (I : jI t h a c e S K) : S.1.1.2.1.1.2.1 = 0 := I.O.2.1
theorem jI.n (I : jI t h a c e S K) : S.1.1.2.1.1.1 ≤ 10 := I.O.2.2.1
theorem jI.td (I : jI t h a c e S K) (hK : K ≤ 511) {d : Nat} (hd : d ≤ 4000) : S.1.1.2.2.2 + d < 2 ^ 20 := by have := I.2.1.2.1; omega
theorem jI.hP {A : Sort _} {V : A} (I : jI t h a c e S K) (v : A) (t' : zT) (h' : zH) (hp : v = V ∧ cAsk t a h t' h') : zK t' 250 = (13, 1) := (I.1.ask hp.2.1).elim (fun _ z => z.2.2.2)
end JAC
section JCO
variable {E : zE} {b : Nat} {l : Launch} {t : zT} {h : zH} {a c e : Nat} {S : yJ} {K : Nat} {y ym : MethodName} {cc cm : ByteArray} {ml mlm : Nat} {rt rtm : Option FieldType} {hh : List (Nat × Nat × Nat × Nat)} {d dm mc ms : Nat} {av avm : List Value}
/-- a question that is answered -/
theorem jqI {V : Int32} (I : jI t h a c e S K) (hW : zMetW E b l y cc ml rt hh d mc ms av t h (qI (fun k t' h' => k = 0 ∧ ∃ v h1, (v = V ∧ cAsk t a h t' h1) ∧ h' = zsL h1 250 0 v.toInt64))) (hd : dm ≤ 13) (hm : ∀ e' t' h', jI t' h' a c e' S K → zI h' 157 41 = zI h 157 41 → zMet E b l ym cm mlm rtm dm 0 0 (.ref (b + 157) :: avm) t' h' (qI (fun v t'' h'' => v = V ∧ mCl h' t' S.1.1 0 t'' h''))) : zMetW E b l y cc ml rt hh d mc ms av t h (qI (jMI E b l ym cm mlm rtm avm (K + 1))) := by
  refine hW.mono (fun v t' h' hp => ?_)
  obtain ⟨k, rfl, rfl, v, h1, ⟨rfl, hq⟩, rfl⟩ := hp
  obtain ⟨e', I', g⟩ := I.ask hq
  have I2 := I'.sL 250 0 v.toInt64
  refine ⟨0, rfl, I'.1.1, dm, hd, (hm e' t' _ I2 (g 157 41 (by omega)).1).mono (fun r t'' h'' hr => ?_)⟩
  obtain ⟨r, rfl, rfl, hc⟩ := hr
  obtain ⟨I3, gm⟩ := I2.cl hc
  exact ⟨r, rfl, hc.2.2.1, fun _ => by rw [(gm 250 0 (by omega)).2]; exact zL_self _ _ _ _, a, c, e', S, I3⟩
theorem jqJ {V : Int64} (I : jI t h a c e S K) (hW : zMetW E b l y cc ml rt hh d mc ms av t h (qI (fun k t' h' => k = 0 ∧ ∃ v h1, (v = V ∧ cAsk t a h t' h1) ∧ h' = zsL h1 250 0 v))) (hd : dm ≤ 13) (hm : ∀ e' t' h', jI t' h' a c e' S K → zI h' 157 41 = zI h 157 41 → zMet E b l ym cm mlm rtm dm 0 0 (.ref (b + 157) :: avm) t' h' (qJ (fun v t'' h'' => v = V ∧ mCl h' t' S.1.1 0 t'' h''))) : zMetW E b l y cc ml rt hh d mc ms av t h (qI (jMJ E b l ym cm mlm rtm avm (K + 1))) := by
  refine hW.mono (fun v t' h' hp => ?_)
  obtain ⟨k, rfl, rfl, v, h1, ⟨rfl, hq⟩, rfl⟩ := hp
  obtain ⟨e', I', g⟩ := I.ask hq
  have I2 := I'.sL 250 0 v
  refine ⟨0, rfl, I'.1.1, dm, hd, (hm e' t' _ I2 (g 157 41 (by omega)).1).mono (fun r t'' h'' hr => ?_)⟩
  obtain ⟨r, rfl, rfl, hc⟩ := hr
  obtain ⟨I3, gm⟩ := I2.cl hc
  exact ⟨r, rfl, hc.2.2.1, fun _ => by rw [(gm 250 0 (by omega)).2]; exact zL_self _ _ _ _, a, c, e', S, I3⟩
/-- a call that is refused -/
theorem jxI {x : Int32} (I : jI t h a c e S K) (hx : ¬ x = 0) (hW : zMetW E b l y cc ml rt hh d mc ms av t h (qIf x t h)) (hd : dm ≤ 13) (hm : zMet E b l ym cm mlm rtm dm 0 0 (.ref (b + 157) :: avm) t h (qI (fun _ t' h' => mCl h t S.1.1 x t' h'))) : zMetW E b l y cc ml rt hh d mc ms av t h (qI (jMI E b l ym cm mlm rtm avm (K + 1))) := by
  refine hW.mono (fun v t' h' hp => ?_)
  obtain ⟨k, rfl, rfl, rfl, rfl⟩ := hp
  refine ⟨k, rfl, I.T, dm, hd, hm.mono (fun r t'' h'' hr => ?_)⟩
  obtain ⟨r, rfl, hc⟩ := hr
  exact ⟨r, rfl, hc.2.2.1, fun z => absurd z hx, a, c, e, S, (I.cl hc).1⟩
theorem jxJ {x : Int32} (I : jI t h a c e S K) (hx : ¬ x = 0) (hW : zMetW E b l y cc ml rt hh d mc ms av t h (qIf x t h)) (hd : dm ≤ 13) (hm : zMet E b l ym cm mlm rtm dm 0 0 (.ref (b + 157) :: avm) t h (qJ (fun _ t' h' => mCl h t S.1.1 x t' h'))) : zMetW E b l y cc ml rt hh d mc ms av t h (qI (jMJ E b l ym cm mlm rtm avm (K + 1))) := by
  refine hW.mono (fun v t' h' hp => ?_)
  obtain ⟨k, rfl, rfl, rfl, rfl⟩ := hp
  refine ⟨k, rfl, I.T, dm, hd, hm.mono (fun r t'' h'' hr => ?_)⟩
  obtain ⟨r, rfl, hc⟩ := hr
  exact ⟨r, rfl, hc.2.2.1, fun z => absurd z hx, a, c, e, S, (I.cl hc).1⟩
/-! the contracts' ends, made alike -/
theorem jaF {V : Int32} (hM : zMet E b l y cc ml rt d mc ms av t h (qIf V t h)) : zMet E b l y cc ml rt d mc ms av t h (qI (fun v t' h' => v = V ∧ cAsk t a h t' h')) := hM.mono (fun v t' h' hp => by
  obtain ⟨r, rfl, rfl, rfl, rfl⟩ := hp
  exact ⟨r, rfl, rfl, Or.inl rfl, cAg.rf _⟩)
theorem jm4 {V : Int32} {D : yD} {x : Int32} (hM : zMet E b l y cc ml rt d mc ms av t h (qI (fun v t' h' => v = V ∧ mCall h t D yP0 x t' h'))) : zMet E b l y cc ml rt d mc ms av t h (qI (fun v t' h' => v = V ∧ mCl h t D x t' h')) := hM.mono (fun v t' h' hp => by
  obtain ⟨r, rfl, q1, q2⟩ := hp
  exact ⟨r, rfl, q1, .of4 q2⟩)
theorem jn4 {V : Int64} {D : yD} {x : Int32} (hM : zMet E b l y cc ml rt d mc ms av t h (qJ (fun v t' h' => v = V ∧ mCall h t D yP0 x t' h'))) : zMet E b l y cc ml rt d mc ms av t h (qJ (fun v t' h' => v = V ∧ mCl h t D x t' h')) := hM.mono (fun v t' h' hp => by
  obtain ⟨r, rfl, q1, q2⟩ := hp
  exact ⟨r, rfl, q1, .of4 q2⟩)
theorem jmF {V : Int32} (I : jI t h a c e S K) (hM : zMet E b l y cc ml rt d mc ms av t h (qIf V t (zsI h 157 0 0))) : zMet E b l y cc ml rt d mc ms av t h (qI (fun v t' h' => v = V ∧ mCl h t S.1.1 0 t' h')) := hM.mono (fun v t' h' hp => by
  obtain ⟨r, rfl, q1, rfl, rfl⟩ := hp
  exact ⟨r, rfl, q1, .th I.D I.M⟩)
theorem jy5 {V : Int32} {D : yD} {x : Int32} (hM : zMet E b l y cc ml rt d mc ms av t h (qI (fun v t' h' => v = V ∧ mCl h t D x t' h'))) : zMet E b l y cc ml rt d mc ms av t h (qI (fun _ t' h' => mCl h t D x t' h')) := hM.mono (fun v t' h' hp => by
  obtain ⟨r, rfl, q1, q2⟩ := hp
  exact ⟨r, rfl, q2⟩)
theorem jz5 {V : Int64} {D : yD} {x : Int32} (hM : zMet E b l y cc ml rt d mc ms av t h (qJ (fun v t' h' => v = V ∧ mCl h t D x t' h'))) : zMet E b l y cc ml rt d mc ms av t h (qJ (fun _ t' h' => mCl h t D x t' h')) := hM.mono (fun v t' h' hp => by
  obtain ⟨r, rfl, q1, q2⟩ := hp
  exact ⟨r, rfl, q2⟩)
theorem jyF {x : Int32} (I : jI t h a c e S K) (hM : zMet E b l y cc ml rt d mc ms av t h (qIf 0 t (zsI (zsI h 157 0 0) 157 0 x))) : zMet E b l y cc ml rt d mc ms av t h (qI (fun _ t' h' => mCl h t S.1.1 x t' h')) := hM.mono (fun v t' h' hp => by
  obtain ⟨r, rfl, q1, rfl, rfl⟩ := hp
  exact ⟨r, rfl, .th2 I.D I.M x⟩)
end JCO
