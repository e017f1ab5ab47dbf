/-! ===== the abstract machine: ids for addresses (base b), contents as functions; zT: what cells there are and how they hang together, zH: the numbers ===== -/
abbrev zE : Type := va_G × ClassId × ClassId × ClassId × ClassId × State
abbrev zT : Type := (Nat × Bool) × (Nat → Nat × Nat) × (Nat → Nat → Option Nat)
abbrev zH : Type := (Nat → Nat → Int32) × (Nat → Nat → Int64)
def zK (t : zT) (i : Nat) : Nat × Nat := t.2.1 i
def zR (t : zT) (i k : Nat) : Option Nat := t.2.2 i k
def zI (h : zH) (i k : Nat) : Int32 := h.1 i k
def zL (h : zH) (i k : Nat) : Int64 := h.2 i k
/-- one number set -/
def zsI (h : zH) (i k : Nat) (v : Int32) : zH := (fun j q => if j = i ∧ q = k then v else h.1 j q, h.2)
def zsL (h : zH) (i k : Nat) (v : Int64) : zH := (h.1, fun j q => if j = i ∧ q = k then v else h.2 j q)
/-- a whole row set -/
def zrI (h : zH) (i : Nat) (f : Nat → Int32) : zH := (fun j => if j = i then f else h.1 j, h.2)
def zrL (h : zH) (i : Nat) (f : Nat → Int64) : zH := (h.1, fun j => if j = i then f else h.2 j)
def zsR (t : zT) (i k : Nat) (v : Option Nat) : zT := (t.1, t.2.1, fun j q => if j = i ∧ q = k then v else t.2.2 j q)
def zRv (b : Nat) (r : Option Nat) : Option Nat := r.map (fun j => b + j)
def zFv (b : Nat) (t : zT) (h : zH) (i k : Nat) (ty : FieldType) : Value := match ty with
  | .long => .long (zL h i k)
  | .object _ => va_rf (zRv b (zR t i k))
  | .array _ => va_rf (zRv b (zR t i k))
  | _ => .int (zI h i k)
def zFs (b : Nat) (t : zT) (h : zH) (i c : Nat) : List Value := (List.range (zNf c)).map (fun k => zFv b t h i k (zTy c k))
def zTys (E : zE) : List (ClassId × FieldType) := [(E.2.1, .int), (E.2.2.1, .long), (E.2.2.2.1, .object "MendingRoads$State"), (E.2.2.2.2.1, .array .int)]
def zEnt (E : zE) (b : Nat) (t : zT) (h : zH) (i : Nat) : va_E :=
  if (zK t i).1 = 12 then .inl (E.2.1, (zK t i).2, .inl (fun k => zI h i k))
  else if (zK t i).1 = 13 then .inl (E.2.2.1, (zK t i).2, .inr (.inl (fun k => zL h i k)))
  else if (zK t i).1 = 14 then .inl (E.2.2.2.1, (zK t i).2, .inr (.inr (.inr (.inr (fun k => zRv b (zR t i k))))))
  else if (zK t i).1 = 15 then .inl (E.2.2.2.2.1, (zK t i).2, .inr (.inr (.inr (.inr (fun k => zRv b (zR t i k))))))
  else .inr ((zK t i).1, zFs b t h i (zK t i).1)
def zEf (E : zE) (b : Nat) (t : zT) (h : zH) (a : Nat) : va_E := if a < b then .inr (0, []) else zEnt E b t h (a - b)
def zAd (b : Nat) (t : zT) : List Nat := ((List.range t.1.1).filter (fun i => decide ((zK t i).1 < 16))).map (fun i => b + i)
def zWd (E : zE) (b : Nat) (t : zT) (h : zH) : va_W := va_pl (zAd b t) (zEf E b t h)
def zHp (E : zE) (b : Nat) (t : zT) (h : zH) (H : Heap) : Prop := (b + t.1.1 ≤ H.size ∧ (t.1.2 = true → H.size = b + t.1.1)) ∧ (∀ i, (zK t i).1 < 16 → i < t.1.1) ∧ va_P E.1 vwCl (zWd E b t h) H
theorem zEf_at (E : zE) (b : Nat) (t : zT) (h : zH) (i : Nat) : zEf E b t h (b + i) = zEnt E b t h i := by
  unfold zEf
  rw [if_neg (by omega), Nat.add_sub_cancel_left]
theorem zAd_mem {b : Nat} {t : zT} {i : Nat} (hn : i < t.1.1) (hk : (zK t i).1 < 16) : b + i ∈ zAd b t :=
  List.mem_map.mpr ⟨i, List.mem_filter.mpr ⟨List.mem_range.mpr hn, decide_eq_true hk⟩, rfl⟩
theorem zWd_get {E : zE} {b : Nat} {t : zT} {h : zH} {i : Nat} (hn : i < t.1.1) (hk : (zK t i).1 < 16) : ∃ k : Nat, (zWd E b t h)[k]? = some (b + i, zEnt E b t h i) := by
  obtain ⟨k, q⟩ := va_pl_get (X := []) (f := zEf E b t h) (zAd_mem (b := b) hn hk)
  rw [zEf_at] at q
  exact ⟨k, q⟩
theorem zAd_nd (b : Nat) (t : zT) : (zAd b t).Nodup := by
  unfold zAd
  refine List.Pairwise.map _ (fun a c hac q => hac ?_) (List.Pairwise.filter _ List.nodup_range)
  omega
theorem zAd_ge {b : Nat} {t : zT} {a : Nat} (h : a ∈ zAd b t) : b ≤ a := by
  obtain ⟨i, -, rfl⟩ := List.mem_map.mp h
  omega
theorem zPl_D {L : List Nat} {f : Nat → va_E} {A : Nat → Prop} (hn : L.Nodup) (hA : ∀ a ∈ L, A a) : va_D A (va_pl L f) := by
  refine ⟨fun i j x y hi hj hxy => ?_, fun k q hk => ?_⟩
  · simp only [va_pl, List.getElem?_map, Option.map_eq_some_iff] at hi hj
    obtain ⟨u, hu, rfl⟩ := hi
    obtain ⟨v, hv, rfl⟩ := hj
    have huv : u = v := hxy
    subst huv
    obtain ⟨hi1, hi2⟩ := List.getElem?_eq_some_iff.mp hu
    obtain ⟨hj1, hj2⟩ := List.getElem?_eq_some_iff.mp hv
    exact (List.getElem_inj hn).mp (hi2.trans hj2.symm)
  · simp only [va_pl, List.getElem?_map, Option.map_eq_some_iff] at hk
    obtain ⟨u, hu, rfl⟩ := hk
    exact hA u (List.mem_of_getElem? hu)
theorem zWd_D (E : zE) (b : Nat) (t : zT) (h : zH) : va_D (fun q => b ≤ q) (zWd E b t h) := zPl_D (zAd_nd b t) (fun _ q => zAd_ge q)
/-- one cell's contents changed -/
theorem zWd_set {E : zE} {b : Nat} {t t' : zT} {h h' : zH} {i k : Nat} {e : va_E} (hn : i < t.1.1) (hk : (zK t i).1 < 16) (hg : (zWd E b t h)[k]? = some (b + i, zEnt E b t h i)) (ht : t'.1 = t.1) (htk : t'.2.1 = t.2.1) (he : zEnt E b t' h' i = e) (ho : ∀ j, j ≠ i → zEnt E b t' h' j = zEnt E b t h j) : (zWd E b t h).set k (b + i, e) = zWd E b t' h' := by
  have hD : va_D (fun q => b ≤ q) ([] ++ va_pl (zAd b t) (zEf E b t h)) := zWd_D E b t h
  have hg' : ([] ++ va_pl (zAd b t) (zEf E b t h))[k]? = some (b + i, zEf E b t h (b + i)) := by rw [zEf_at]; exact hg
  have h1 := va_pl_set (e := e) hD (zAd_mem (b := b) hn hk) hg'
  have h2 : zAd b t' = zAd b t := by unfold zAd zK; rw [ht, htk]
  show ([] ++ va_pl (zAd b t) (zEf E b t h)).set k (b + i, e) = va_pl (zAd b t') (zEf E b t' h')
  rw [h1, h2]
  show va_pl _ _ = va_pl _ _
  refine va_pl_congr (fun a => ?_)
  unfold va_up
  by_cases hc : a = b + i
  · rw [if_pos hc, hc, zEf_at, he]
  · rw [if_neg hc]
    unfold zEf
    by_cases hab : a < b
    · rw [if_pos hab, if_pos hab]
    · rw [if_neg hab, if_neg hab, ho _ (by omega)]
theorem zFs_at {b : Nat} {t : zT} {h : zH} {i c k : Nat} (hk : k < zNf c) : (zFs b t h i c)[k]? = some (zFv b t h i k (zTy c k)) := by
  unfold zFs
  rw [List.getElem?_map, List.getElem?_range hk]
  rfl
theorem zFs_len (b : Nat) (t : zT) (h : zH) (i c : Nat) : (zFs b t h i c).length = zNf c := by
  unfold zFs
  rw [List.length_map, List.length_range]
theorem zFs_set {b : Nat} {t t' : zT} {h h' : zH} {i c k : Nat} {v : Value} (hv : zFv b t' h' i k (zTy c k) = v) (ho : ∀ j, j ≠ k → zFv b t' h' i j (zTy c j) = zFv b t h i j (zTy c j)) : (zFs b t h i c).set k v = zFs b t' h' i c := by
  apply List.ext_getElem?
  intro j
  by_cases hj : j < zNf c
  · rw [zFs_at hj, List.getElem?_set]
    by_cases hkj : k = j
    · subst hkj
      rw [if_pos rfl, if_pos (by rw [zFs_len]; exact hj), hv]
    · rw [if_neg hkj, zFs_at hj, ho j (fun q => hkj q.symm)]
  · rw [List.getElem?_eq_none (by rw [List.length_set, zFs_len]; omega), List.getElem?_eq_none (by rw [zFs_len]; omega)]
theorem zEnt_obj {E : zE} {b : Nat} {t : zT} {h : zH} {i c n : Nat} (hK : zK t i = (c, n)) (hc : c < zNc) : zEnt E b t h i = .inr (c, zFs b t h i c) := by
  unfold zNc at hc
  unfold zEnt
  rw [hK]
  dsimp only
  rw [if_neg (by omega), if_neg (by omega), if_neg (by omega), if_neg (by omega)]
theorem zEnt_I {E : zE} {b : Nat} {t : zT} {h : zH} {i n : Nat} (hK : zK t i = (12, n)) : zEnt E b t h i = .inl (E.2.1, n, .inl (fun k => zI h i k)) := by
  unfold zEnt
  rw [hK]
  dsimp only
  rw [if_pos rfl]
theorem zEnt_L {E : zE} {b : Nat} {t : zT} {h : zH} {i n : Nat} (hK : zK t i = (13, n)) : zEnt E b t h i = .inl (E.2.2.1, n, .inr (.inl (fun k => zL h i k))) := by
  unfold zEnt
  rw [hK]
  dsimp only
  rw [if_neg (by omega), if_pos rfl]
theorem zEnt_S {E : zE} {b : Nat} {t : zT} {h : zH} {i n : Nat} (hK : zK t i = (14, n)) : zEnt E b t h i = .inl (E.2.2.2.1, n, .inr (.inr (.inr (.inr (fun k => zRv b (zR t i k)))))) := by
  unfold zEnt
  rw [hK]
  dsimp only
  rw [if_neg (by omega), if_neg (by omega), if_pos rfl]
theorem zEnt_A {E : zE} {b : Nat} {t : zT} {h : zH} {i n : Nat} (hK : zK t i = (15, n)) : zEnt E b t h i = .inl (E.2.2.2.2.1, n, .inr (.inr (.inr (.inr (fun k => zRv b (zR t i k)))))) := by
  unfold zEnt
  rw [hK]
  dsimp only
  rw [if_neg (by omega), if_neg (by omega), if_neg (by omega), if_pos rfl]
/-- entities elsewhere don't see a store -/
theorem zEnt_sI {E : zE} {b : Nat} {t : zT} {h : zH} {i k j : Nat} {v : Int32} (hj : j ≠ i) : zEnt E b t (zsI h i k v) j = zEnt E b t h j := by
  have hI : ∀ q, zI (zsI h i k v) j q = zI h j q := fun q => by
    show (if j = i ∧ q = k then v else h.1 j q) = h.1 j q
    rw [if_neg (fun x => hj x.1)]
  have hF : ∀ q ty, zFv b t (zsI h i k v) j q ty = zFv b t h j q ty := fun q ty => by
    unfold zFv
    split <;> first | rfl | rw [hI]
  unfold zEnt zFs
  simp only [hI, hF]
  rfl
theorem zEnt_sL {E : zE} {b : Nat} {t : zT} {h : zH} {i k j : Nat} {v : Int64} (hj : j ≠ i) : zEnt E b t (zsL h i k v) j = zEnt E b t h j := by
  have hI : ∀ q, zL (zsL h i k v) j q = zL h j q := fun q => by
    show (if j = i ∧ q = k then v else h.2 j q) = h.2 j q
    rw [if_neg (fun x => hj x.1)]
  have hF : ∀ q ty, zFv b t (zsL h i k v) j q ty = zFv b t h j q ty := fun q ty => by
    unfold zFv
    split <;> first | rfl | rw [hI]
  unfold zEnt zFs
  simp only [hI, hF]
  rfl
theorem zEnt_sR {E : zE} {b : Nat} {t : zT} {h : zH} {i k j : Nat} {v : Option Nat} (hj : j ≠ i) : zEnt E b (zsR t i k v) h j = zEnt E b t h j := by
  have hI : ∀ q, zR (zsR t i k v) j q = zR t j q := fun q => by
    show (if j = i ∧ q = k then v else t.2.2 j q) = t.2.2 j q
    rw [if_neg (fun x => hj x.1)]
  have hK : zK (zsR t i k v) j = zK t j := rfl
  have hF : ∀ q ty, zFv b (zsR t i k v) h j q ty = zFv b t h j q ty := fun q ty => by
    unfold zFv
    split <;> first | rfl | rw [hI]
  unfold zEnt zFs
  simp only [hI, hF, hK]
