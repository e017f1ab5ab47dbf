/-- the words that every method's list holds: those of the tables that stay good -/
def zW : List Cond := lw_tbl.filter goodWord
theorem zW_tbl : ∀ w ∈ zW, w ∈ lw_tbl := fun w h => (List.mem_filter.mp h).1
theorem zW_good : ∀ w ∈ zW, goodWord w = true := fun w h => (List.mem_filter.mp h).2
theorem zW_of {w : Cond} (h : (decide (w ∈ lw_tbl) && goodWord w) = true) : w ∈ zW := by
  rw [Bool.and_eq_true] at h
  exact List.mem_filter.mpr ⟨of_decide_eq_true h.1, h.2⟩
theorem zW_all {l : List Cond} (h : l.all (fun w => decide (w ∈ lw_tbl) && goodWord w) = true) : ∀ w ∈ l, w ∈ zW := fun w hw => zW_of (List.all_eq_true.mp h w hw)
theorem zU0 : ∀ w ∈ u_ws RX0 TX0 1, w ∈ zW := zW_all (by decide +kernel)
theorem zU1 : ∀ w ∈ u_ws RX1 TX1 9, w ∈ zW := zW_all (by decide +kernel)
theorem zU2 : ∀ w ∈ u_ws RX2 TX2 10, w ∈ zW := zW_all (by decide +kernel)
theorem zU3 : ∀ w ∈ u_ws RX3 TX3 9, w ∈ zW := zW_all (by decide +kernel)
theorem zU4 : ∀ w ∈ u_ws RX4 TX4 5, w ∈ zW := zW_all (by decide +kernel)
theorem zU5 : ∀ w ∈ u_ws RX5 TX5 4, w ∈ zW := zW_all (by decide +kernel)
theorem zU6 : ∀ w ∈ u_ws RX6 TX6 5, w ∈ zW := zW_all (by decide +kernel)
theorem zU7 : ∀ w ∈ u_ws RX7 TX7 7, w ∈ zW := zW_all (by decide +kernel)
theorem zU8 : ∀ w ∈ u_ws RX8 TX8 8, w ∈ zW := zW_all (by decide +kernel)
theorem zU9 : ∀ w ∈ u_ws RX9 TX9 13, w ∈ zW := zW_all (by decide +kernel)
theorem zU10 : ∀ w ∈ u_ws RX10 TX10 9, w ∈ zW := zW_all (by decide +kernel)
theorem zU11 : ∀ w ∈ u_ws RX11 TX11 62, w ∈ zW := zW_all (by decide +kernel)
theorem zCl_at : ∀ (c : Nat), c < zNc → vwCl[c]? = some (zRn c, zTb c, zNf c)
  | 0, _ => rfl
  | 1, _ => rfl
  | 2, _ => rfl
  | 3, _ => rfl
  | 4, _ => rfl
  | 5, _ => rfl
  | 6, _ => rfl
  | 7, _ => rfl
  | 8, _ => rfl
  | 9, _ => rfl
  | 10, _ => rfl
  | 11, _ => rfl
  | c + 12, h => absurd h (by unfold zNc; omega)
theorem zCl_ws : ∀ (c : Nat), c < zNc → ∀ w ∈ u_ws (zRn c) (zTb c) (zNf c), w ∈ zW
  | 0, _ => zU0
  | 1, _ => zU1
  | 2, _ => zU2
  | 3, _ => zU3
  | 4, _ => zU4
  | 5, _ => zU5
  | 6, _ => zU6
  | 7, _ => zU7
  | 8, _ => zU8
  | 9, _ => zU9
  | 10, _ => zU10
  | 11, _ => zU11
  | c + 12, h => absurd h (by unfold zNc; omega)
theorem zCl_nm : ∀ (c : Nat), c < zNc → ∀ a, a < zNf c → ∀ b, b < zNf c → a ≠ b → (zTb c a).2.1 ≠ (zTb c b).2.1
  | 0, _ => nmX0
  | 1, _ => nmX1
  | 2, _ => nmX2
  | 3, _ => nmX3
  | 4, _ => nmX4
  | 5, _ => nmX5
  | 6, _ => nmX6
  | 7, _ => nmX7
  | 8, _ => nmX8
  | 9, _ => nmX9
  | 10, _ => nmX10
  | 11, _ => nmX11
  | c + 12, h => absurd h (by unfold zNc; omega)
theorem zCl_ty : ∀ (c : Nat), c < zNc → ∀ k, k < zNf c → parseFieldDescriptor (zTb c k).2.2.1 = some (zTy c k)
  | 0, _ => tyX0_ok
  | 1, _ => tyX1_ok
  | 2, _ => tyX2_ok
  | 3, _ => tyX3_ok
  | 4, _ => tyX4_ok
  | 5, _ => tyX5_ok
  | 6, _ => tyX6_ok
  | 7, _ => tyX7_ok
  | 8, _ => tyX8_ok
  | 9, _ => tyX9_ok
  | 10, _ => tyX10_ok
  | 11, _ => tyX11_ok
  | c + 12, h => absurd h (by unfold zNc; omega)
