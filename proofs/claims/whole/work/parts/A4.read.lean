/-! ===== a text read, as numbers: what both programs do ===== -/
def isBl (B : Nat → Nat) (k : Nat) : Bool := decide (B k = 32)
def isLt (B : Nat → Nat) (k : Nat) : Bool := decide (97 ≤ B k ∧ B k ≤ 122)
def isDg (B : Nat → Nat) (k : Nat) : Bool := decide (48 ≤ B k ∧ B k ≤ 57)
def scn (P : Nat → Bool) : Nat → Nat → Nat
  | 0, k => k
  | f + 1, k => if P k = true then scn P f (k + 1) else k
/-- the first place from k on that is past the end or not of a kind -/
def sc (P : Nat → Bool) (n k : Nat) : Nat := scn P (n - k) k
theorem sc_t {P : Nat → Bool} {n k : Nat} (h : k < n) (hp : P k = true) : sc P n k = sc P n (k + 1) := by
  unfold sc
  rw [show n - k = (n - (k + 1)) + 1 by omega]
  show (if P k = true then scn P (n - (k + 1)) (k + 1) else k) = _
  rw [if_pos hp]
theorem sc_f {P : Nat → Bool} {n k : Nat} (hp : ¬ (k < n ∧ P k = true)) : sc P n k = k := by
  unfold sc
  cases e : n - k with
  | zero => rfl
  | succ f =>
    show (if P k = true then scn P f (k + 1) else k) = _
    rw [if_neg (fun z => hp ⟨by omega, z⟩)]
theorem sc_fc {P : Nat → Bool} {n : Nat} : ∀ (m k : Nat), n - k = m → k ≤ sc P n k ∧ (k ≤ n → sc P n k ≤ n) ∧ (∀ i, k ≤ i → i < sc P n k → i < n ∧ P i = true) ∧ ¬ (sc P n k < n ∧ P (sc P n k) = true)
  | 0, k, h => by
    rw [sc_f (P := P) (n := n) (k := k) (fun z => by omega)]
    exact ⟨Nat.le_refl _, fun z => z, fun i h1 h2 => absurd h1 (by omega), fun z => by omega⟩
  | m + 1, k, h => by
    by_cases hp : P k = true
    · have ih := sc_fc (P := P) (n := n) m (k + 1) (by omega)
      rw [sc_t (P := P) (n := n) (k := k) (by omega) hp]
      refine ⟨by omega, fun z => ih.2.1 (by omega), fun i h1 h2 => ?_, ih.2.2.2⟩
      by_cases z : i = k
      · rw [z]; exact ⟨by omega, hp⟩
      · exact ih.2.2.1 i (by omega) h2
    · rw [sc_f (P := P) (n := n) (k := k) (fun z => hp z.2)]
      exact ⟨Nat.le_refl _, fun z => z, fun i h1 h2 => absurd h1 (by omega), fun z => hp z.2⟩
theorem sc_ge (P : Nat → Bool) (n k : Nat) : k ≤ sc P n k := (sc_fc _ k rfl).1
theorem sc_le {P : Nat → Bool} {n k : Nat} (h : k ≤ n) : sc P n k ≤ n := (sc_fc _ k rfl).2.1 h
theorem sc_in {P : Nat → Bool} {n k i : Nat} (h1 : k ≤ i) (h2 : i < sc P n k) : i < n ∧ P i = true := (sc_fc _ k rfl).2.2.1 i h1 h2
theorem sc_end (P : Nat → Bool) (n k : Nat) : ¬ (sc P n k < n ∧ P (sc P n k) = true) := (sc_fc _ k rfl).2.2.2
theorem sc_sc (P : Nat → Bool) (n k : Nat) : sc P n (sc P n k) = sc P n k := sc_f (sc_end P n k)
/-- a number's value, no more than 100000 -/
def dgn (B : Nat → Nat) : Nat → Nat → Nat → Nat
  | 0, _, v => v
  | f + 1, k, v => if isDg B k = true then dgn B f (k + 1) (min 100000 (10 * v + (B k - 48))) else v
def dg (B : Nat → Nat) (n k v : Nat) : Nat := dgn B (n - k) k v
theorem dg_t {B : Nat → Nat} {n k v : Nat} (h : k < n) (hp : isDg B k = true) : dg B n k v = dg B n (k + 1) (min 100000 (10 * v + (B k - 48))) := by
  unfold dg
  rw [show n - k = (n - (k + 1)) + 1 by omega]
  show (if isDg B k = true then _ else v) = _
  rw [if_pos hp]
theorem dg_f {B : Nat → Nat} {n k v : Nat} (hp : ¬ (k < n ∧ isDg B k = true)) : dg B n k v = v := by
  unfold dg
  cases e : n - k with
  | zero => rfl
  | succ f =>
    show (if isDg B k = true then _ else v) = _
    rw [if_neg (fun z => hp ⟨by omega, z⟩)]
theorem dg_le {B : Nat → Nat} {n : Nat} : ∀ (m k v : Nat), n - k = m → v ≤ 100000 → dg B n k v ≤ 100000
  | 0, k, v, h, hv => by rw [dg_f (fun z => by omega)]; exact hv
  | m + 1, k, v, h, hv => by
    by_cases hp : isDg B k = true
    · rw [dg_t (by omega) hp]; exact dg_le m (k + 1) _ (by omega) (Nat.min_le_left _ _)
    · rw [dg_f (fun z => hp z.2)]; exact hv
/-- a fault (kind, place), or how far it is read -/
abbrev yT : Type := (Nat × Nat) ⊕ Nat
def numR (B : Nat → Nat) (n : Nat) (st : yT) (lo u : Nat) (no : Option Nat) : (Nat × Nat) ⊕ (Nat × Nat) := match st with
  | .inl f => .inl f
  | .inr k => if sc (isDg B) n (sc (isBl B) n k) = sc (isBl B) n k then .inl (1, sc (isBl B) n k) else if dg B n (sc (isBl B) n k) 0 < lo ∨ u ≤ dg B n (sc (isBl B) n k) 0 ∨ no = some (dg B n (sc (isBl B) n k) 0) then .inl (2, sc (isBl B) n k) else .inr (dg B n (sc (isBl B) n k) 0, sc (isDg B) n (sc (isBl B) n k))
def rP (r : (Nat × Nat) ⊕ (Nat × Nat)) : yT := match r with
  | .inl f => .inl f
  | .inr x => .inr x.2
def rV (r : (Nat × Nat) ⊕ (Nat × Nat)) : Nat := match r with
  | .inl _ => 0
  | .inr x => x.1
/-- numbers one behind the other; the second mustn't be the first, if sm -/
def nms (B : Nat → Nat) (n k : Nat) (lo u : Nat → Nat) (sm : Bool) : Nat → yT × (Nat → Nat)
  | 0 => (.inr k, fun _ => 0)
  | i + 1 => (rP (numR B n (nms B n k lo u sm i).1 (lo i) (u i) (if sm = true ∧ i = 1 then some ((nms B n k lo u sm i).2 0) else none)), nUp (nms B n k lo u sm i).2 i (rV (numR B n (nms B n k lo u sm i).1 (lo i) (u i) (if sm = true ∧ i = 1 then some ((nms B n k lo u sm i).2 0) else none))))
theorem nms_fault {B : Nat → Nat} {n k : Nat} {lo u : Nat → Nat} {sm : Bool} {f : Nat × Nat} : ∀ (m i : Nat), (nms B n k lo u sm i).1 = .inl f → (nms B n k lo u sm (i + m)).1 = .inl f
  | 0, i, h => h
  | m + 1, i, h => by
    have ih := nms_fault m i h
    show rP (numR B n (nms B n k lo u sm (i + m)).1 _ _ _) = _
    rw [ih]
    rfl
/-- the end of a clause -/
def endR (B : Nat → Nat) (n : Nat) (st : yT) : yT := match st with
  | .inl f => .inl f
  | .inr k => if sc (isBl B) n k < n ∧ B (sc (isBl B) n k) = 59 then .inr (sc (isBl B) n k + 1) else .inl (1, sc (isBl B) n k)
/-- the words -/
def wrd : Nat → List Nat
  | 0 => [112, 108, 97, 99, 101, 115]
  | 1 => [114, 111, 97, 100]
  | 2 => [110, 101, 119]
  | 3 => [103, 111, 105, 110, 103]
  | 4 => [99, 104, 97, 110, 99, 101]
  | 5 => [119, 97, 105, 116]
  | 6 => [119, 101, 116]
  | _ => [108, 97, 119]
/-- whether a word stands from s to j -/
abbrev isW (B : Nat → Nat) (s j : Nat) (w : List Nat) : Prop := j - s = w.length ∧ ∀ i, i < w.length → B (s + i) = w.getD i 0
/-- a word's value by letters -/
def wv (a : Nat → Nat) : Nat → Nat
  | 0 => 0
  | i + 1 => 27 * wv a i + (a i - 96)
theorem wv_inj {a c : Nat → Nat} : ∀ (i j : Nat), (∀ k, k < i → 97 ≤ a k ∧ a k ≤ 122) → (∀ k, k < j → 97 ≤ c k ∧ c k ≤ 122) → wv a i = wv c j → i = j ∧ ∀ k, k < i → a k = c k
  | 0, 0, _, _, _ => ⟨rfl, fun k hk => absurd hk (by omega)⟩
  | 0, j + 1, _, h2, h => by
    have := h2 j (by omega)
    have h : 0 = 27 * wv c j + (c j - 96) := h
    omega
  | i + 1, 0, h1, _, h => by
    have := h1 i (by omega)
    have h : 27 * wv a i + (a i - 96) = 0 := h
    omega
  | i + 1, j + 1, h1, h2, h => by
    have b1 := h1 i (by omega)
    have b2 := h2 j (by omega)
    have h : 27 * wv a i + (a i - 96) = 27 * wv c j + (c j - 96) := h
    have e1 : wv a i = wv c j := by omega
    obtain ⟨e2, e3⟩ := wv_inj i j (fun k hk => h1 k (by omega)) (fun k hk => h2 k (by omega)) e1
    refine ⟨by omega, fun k hk => ?_⟩
    by_cases z : k = i
    · rw [z]; subst e2; omega
    · exact e3 k (by omega)
theorem wv_lt {a : Nat → Nat} : ∀ (i : Nat), (∀ k, k < i → 97 ≤ a k ∧ a k ≤ 122) → wv a i < 27 ^ i
  | 0, _ => Nat.zero_lt_one
  | i + 1, h => by
    have ih := wv_lt i (fun k hk => h k (by omega))
    have b := h i (by omega)
    show 27 * wv a i + (a i - 96) < 27 ^ (i + 1)
    rw [Nat.pow_succ]
    omega
theorem wrd_b : ∀ k, k < 8 → (∀ i, i < (wrd k).length → 97 ≤ (wrd k).getD i 0 ∧ (wrd k).getD i 0 ≤ 122) ∧ (wrd k).length ≤ 6 := by decide
/-- the same word by its value -/
theorem isW_wv {B : Nat → Nat} {s j k : Nat} (hk : k < 8) (hb : ∀ i, i < j - s → 97 ≤ B (s + i) ∧ B (s + i) ≤ 122) : isW B s j (wrd k) ↔ wv (fun i => B (s + i)) (j - s) = wv (fun i => (wrd k).getD i 0) (wrd k).length := by
  constructor
  · rintro ⟨h1, h2⟩
    rw [h1]
    have : ∀ m, m ≤ (wrd k).length → wv (fun i => B (s + i)) m = wv (fun i => (wrd k).getD i 0) m := by
      intro m
      induction m with
      | zero => intro _; rfl
      | succ m ih =>
        intro hm
        show 27 * wv _ m + (B (s + m) - 96) = 27 * wv _ m + ((wrd k).getD m 0 - 96)
        rw [ih (by omega), h2 m (by omega)]
    exact this _ (Nat.le_refl _)
  · intro h
    obtain ⟨e1, e2⟩ := wv_inj _ _ hb (wrd_b k hk).1 h
    exact ⟨e1, fun i hi => e2 i (by omega)⟩
/-- the kind of a word: the first that it is, 8 if none -/
noncomputable def kndN (B : Nat → Nat) (s j : Nat) : Nat → Nat
  | 0 => 8
  | m + 1 => @ite _ (isW B s j (wrd (7 - m))) (Classical.propDecidable _) (7 - m) (kndN B s j m)
noncomputable def knd (B : Nat → Nat) (s j : Nat) : Nat := kndN B s j 8
/-- no text is two words -/
theorem wrd_one : ∀ k, k < 8 → ∀ m, m < 8 → wrd k = wrd m → k = m := by decide
theorem isW_one {B : Nat → Nat} {s j k m : Nat} (hk : k < 8) (hm : m < 8) (h1 : isW B s j (wrd k)) (h2 : isW B s j (wrd m)) : k = m := by
  refine wrd_one k hk m hm ?_
  have hl : (wrd k).length = (wrd m).length := h1.1.symm.trans h2.1
  apply List.ext_getElem hl
  intro i q1 q2
  have e1 := h1.2 i q1
  have e2 := h2.2 i q2
  rw [List.getD_eq_getElem?_getD, List.getElem?_eq_getElem q1] at e1
  rw [List.getD_eq_getElem?_getD, List.getElem?_eq_getElem q2] at e2
  exact e1.symm.trans e2
theorem kndN_is {B : Nat → Nat} {s j k : Nat} (hk : k < 8) (h : isW B s j (wrd k)) : ∀ m, m ≤ 8 → 7 < k + m → kndN B s j m = k
  | 0, _, h2 => absurd h2 (by omega)
  | m + 1, h1, h2 => by
    show @ite _ (isW B s j (wrd (7 - m))) (Classical.propDecidable _) (7 - m) (kndN B s j m) = k
    by_cases z : k = 7 - m
    · rw [if_pos (by rw [← z]; exact h), z]
    · rw [if_neg (fun y => z (isW_one hk (by omega) h y))]
      exact kndN_is hk h m (by omega) (by omega)
theorem knd_is {B : Nat → Nat} {s j k : Nat} (hk : k < 8) (h : isW B s j (wrd k)) : knd B s j = k := kndN_is hk h 8 (by omega) (by omega)
theorem kndN_no {B : Nat → Nat} {s j : Nat} (h : ∀ k, k < 8 → ¬ isW B s j (wrd k)) : ∀ m, m ≤ 8 → kndN B s j m = 8
  | 0, _ => rfl
  | m + 1, h1 => by
    show @ite _ (isW B s j (wrd (7 - m))) (Classical.propDecidable _) (7 - m) (kndN B s j m) = 8
    rw [if_neg (h _ (by omega))]
    exact kndN_no h m (by omega)
theorem knd_no {B : Nat → Nat} {s j : Nat} (h : ∀ k, k < 8 → ¬ isW B s j (wrd k)) : knd B s j = 8 := kndN_no h 8 (by omega)
theorem knd_lt {B : Nat → Nat} {s j : Nat} : knd B s j < 8 ∧ isW B s j (wrd (knd B s j)) ∨ knd B s j = 8 := by
  by_cases h : ∃ k, k < 8 ∧ isW B s j (wrd k)
  · obtain ⟨k, hk, h⟩ := h
    rw [knd_is hk h]
    exact Or.inl ⟨hk, h⟩
  · exact Or.inr (knd_no (fun k hk z => h ⟨k, hk, z⟩))
/-- what is read so far: (places, roads, new ones), (goings, wet days, rest), facts of roads, of new ones, of goings, wet days -/
abbrev yR : Type := (Nat × Nat × Nat) × (Nat × Nat × Nat) × (Nat → Nat → Nat) × (Nat → Nat → Nat) × (Nat → Nat → Nat) × (Nat → Nat)
def kLo (kd i : Nat) : Nat := if kd = 0 then 2 else if kd ≤ 2 then (if i = 2 ∨ i = 4 then 1 else 0) else if kd = 3 then (if i = 2 ∨ i = 3 then 1 else 0) else if kd = 4 then (if i = 0 then 0 else 1) else if kd = 7 then 3 else 0
def kUp (kd P ng i : Nat) : Nat := if kd = 0 then 13 else if kd ≤ 2 then (if i ≤ 1 then P else if i = 2 then 100 else if i = 3 then 10 else 31) else if kd = 3 then (if i ≤ 1 then P else if i = 2 then 128 else 10) else if kd = 4 then (if i = 0 then ng else 9) else if kd = 5 then (if i = 0 then ng else 7) else if kd = 6 then 1000 else 12
def kCt (kd : Nat) : Nat := if kd = 0 then 1 else if kd ≤ 2 then 5 else if kd = 3 then 4 else if kd ≤ 5 then 2 else 1
def kSm (kd : Nat) : Bool := decide (1 ≤ kd ∧ kd ≤ 3)
def kFull (kd : Nat) (r : yR) : Prop := (kd = 1 ∧ 10 ≤ r.1.2.1) ∨ (kd = 2 ∧ 4 ≤ r.1.2.2) ∨ (kd = 3 ∧ 14 ≤ r.2.1.1) ∨ (kd = 6 ∧ 8 ≤ r.2.1.2.1)
noncomputable def tellR (kd : Nat) (v : Nat → Nat) (r : yR) : yR :=
  if kd = 0 then ((v 0, r.1.2), r.2)
  else if kd = 1 then ((r.1.1, r.1.2.1 + 1, r.1.2.2), r.2.1, (fun k i => if k = r.1.2.1 then v i else r.2.2.1 k i), r.2.2.2)
  else if kd = 2 then ((r.1.1, r.1.2.1, r.1.2.2 + 1), r.2.1, r.2.2.1, (fun k i => if k = r.1.2.2 then v i else r.2.2.2.1 k i), r.2.2.2.2)
  else if kd = 3 then (r.1, (r.2.1.1 + 1, r.2.1.2), r.2.2.1, r.2.2.2.1, (fun k i => if k = r.2.1.1 then (if i < 4 then v i else if i = 4 then 8 else 0) else r.2.2.2.2.1 k i), r.2.2.2.2.2)
  else if kd = 4 then (r.1, r.2.1, r.2.2.1, r.2.2.2.1, (fun k i => if k = v 0 ∧ i = 4 then v 1 else r.2.2.2.2.1 k i), r.2.2.2.2.2)
  else if kd = 5 then (r.1, r.2.1, r.2.2.1, r.2.2.2.1, (fun k i => if k = v 0 ∧ i = 5 then v 1 else r.2.2.2.2.1 k i), r.2.2.2.2.2)
  else if kd = 6 then @ite _ (∃ k, k < r.2.1.2.1 ∧ r.2.2.2.2.2 k = v 0) (Classical.propDecidable _) r (r.1, (r.2.1.1, r.2.1.2.1 + 1, r.2.1.2.2), r.2.2.1, r.2.2.2.1, r.2.2.2.2.1, nUp r.2.2.2.2.2 r.2.1.2.1 (v 0))
  else (r.1, (r.2.1.1, r.2.1.2.1, v 0), r.2.2)
/-- a clause's numbers -/
def clN (B : Nat → Nat) (n j kd : Nat) (r : yR) (m : Nat) : yT × (Nat → Nat) := nms B n j (kLo kd) (kUp kd r.1.1 r.2.1.1) (kSm kd) m
/-- a clause -/
noncomputable def clR (B : Nat → Nat) (n k cn : Nat) (r : yR) : (Nat × Nat) ⊕ (Nat × yR) :=
  if knd B k (sc (isLt B) n k) = 8 then .inl (1, k)
  else @ite _ (60 ≤ cn ∨ kFull (knd B k (sc (isLt B) n k)) r) (Classical.propDecidable _) (.inl (3, k))
    (if knd B k (sc (isLt B) n k) = 0 ∧ 0 < cn then .inl (4, k)
    else match endR B n (clN B n (sc (isLt B) n k) (knd B k (sc (isLt B) n k)) r (kCt (knd B k (sc (isLt B) n k)))).1 with
      | .inl f => .inl f
      | .inr k' => .inr (k', tellR (knd B k (sc (isLt B) n k)) (clN B n (sc (isLt B) n k) (knd B k (sc (isLt B) n k)) r (kCt (knd B k (sc (isLt B) n k)))).2 r))
/-- all clauses from the cn-th on -/
noncomputable def rdL (B : Nat → Nat) (n : Nat) : Nat → Nat → Nat → yR → (Nat × Nat) ⊕ yR
  | 0, _, _, r => .inr r
  | f + 1, k, cn, r => if sc (isBl B) n k < n then (match clR B n (sc (isBl B) n k) cn r with
      | .inl e => .inl e
      | .inr x => rdL B n f x.1 (cn + 1) x.2) else .inr r
def r0 : yR := ((4, 0, 0), (0, 0, 9), (fun _ _ => 0), (fun _ _ => 0), (fun _ _ => 0), fun _ => 0)
/-- the text's land, or where and how it is wrong -/
noncomputable def rdT (B : Nat → Nat) (n : Nat) : (Nat × Nat) ⊕ yR := rdL B n 61 0 0 r0
