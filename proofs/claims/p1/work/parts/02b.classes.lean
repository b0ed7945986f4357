/-! the classes of the tables -/
/-- the classes of the tables: their rows are there, names differ, kinds of fields are as ftab has them -/
def tyF (c j : Nat) : FieldType := match c with
  | 0 => tyX0 j | 1 => tyX1 j | 2 => tyX2 j | 3 => tyX3 j | 4 => tyX4 j | 5 => tyX5 j | 6 => tyX6 j | 7 => tyX7 j | 8 => tyX8 j | 9 => tyX9 j | _ => tyX10 j
def ClsOk (ci : Nat) (q : vw_C) : Prop := (∀ w ∈ u_ws q.1 q.2.1 q.2.2, w ∈ lwT) ∧ (∀ a, a < q.2.2 → ∀ b, b < q.2.2 → a ≠ b → (q.2.1 a).2.1 ≠ (q.2.1 b).2.1) ∧ (∀ k, k < q.2.2 → parseFieldDescriptor (q.2.1 k).2.2.1 = some (tyF ci k)) ∧ nf ci = q.2.2 ∧
  (∀ k, k < q.2.2 → (ft ci k = 0 ∧ (tyF ci k = .int ∨ tyF ci k = .boolean)) ∨ (ft ci k = 1 ∧ tyF ci k = .long) ∨ (ft ci k = 2 ∧ refKind (tyF ci k) = true)) ∧ ci < 100
theorem cls_ok : ∀ (ci : Nat) (q : vw_C), vwCl[ci]? = some q → ClsOk ci q := by
  intro ci q h
  match ci, h with
  | 0, h => cases h; exact ⟨fun w hw => lwT_of ((by decide +kernel : ∀ w ∈ u_ws RX0 TX0 9, w ∈ lw_tbl) w hw) ((by decide +kernel : ∀ w ∈ u_ws RX0 TX0 9, goodWord w = true) w hw), by decide +kernel, by decide +kernel, by decide +kernel, by decide +kernel, by decide +kernel⟩
  | 1, h => cases h; exact ⟨fun w hw => lwT_of ((by decide +kernel : ∀ w ∈ u_ws RX1 TX1 6, w ∈ lw_tbl) w hw) ((by decide +kernel : ∀ w ∈ u_ws RX1 TX1 6, goodWord w = true) w hw), by decide +kernel, by decide +kernel, by decide +kernel, by decide +kernel, by decide +kernel⟩
  | 2, h => cases h; exact ⟨fun w hw => lwT_of ((by decide +kernel : ∀ w ∈ u_ws RX2 TX2 15, w ∈ lw_tbl) w hw) ((by decide +kernel : ∀ w ∈ u_ws RX2 TX2 15, goodWord w = true) w hw), by decide +kernel, by decide +kernel, by decide +kernel, by decide +kernel, by decide +kernel⟩
  | 3, h => cases h; exact ⟨fun w hw => lwT_of ((by decide +kernel : ∀ w ∈ u_ws RX3 TX3 10, w ∈ lw_tbl) w hw) ((by decide +kernel : ∀ w ∈ u_ws RX3 TX3 10, goodWord w = true) w hw), by decide +kernel, by decide +kernel, by decide +kernel, by decide +kernel, by decide +kernel⟩
  | 4, h => cases h; exact ⟨fun w hw => lwT_of ((by decide +kernel : ∀ w ∈ u_ws RX4 TX4 5, w ∈ lw_tbl) w hw) ((by decide +kernel : ∀ w ∈ u_ws RX4 TX4 5, goodWord w = true) w hw), by decide +kernel, by decide +kernel, by decide +kernel, by decide +kernel, by decide +kernel⟩
  | 5, h => cases h; exact ⟨fun w hw => lwT_of ((by decide +kernel : ∀ w ∈ u_ws RX5 TX5 3, w ∈ lw_tbl) w hw) ((by decide +kernel : ∀ w ∈ u_ws RX5 TX5 3, goodWord w = true) w hw), by decide +kernel, by decide +kernel, by decide +kernel, by decide +kernel, by decide +kernel⟩
  | 6, h => cases h; exact ⟨fun w hw => lwT_of ((by decide +kernel : ∀ w ∈ u_ws RX6 TX6 6, w ∈ lw_tbl) w hw) ((by decide +kernel : ∀ w ∈ u_ws RX6 TX6 6, goodWord w = true) w hw), by decide +kernel, by decide +kernel, by decide +kernel, by decide +kernel, by decide +kernel⟩
  | 7, h => cases h; exact ⟨fun w hw => lwT_of ((by decide +kernel : ∀ w ∈ u_ws RX7 TX7 3, w ∈ lw_tbl) w hw) ((by decide +kernel : ∀ w ∈ u_ws RX7 TX7 3, goodWord w = true) w hw), by decide +kernel, by decide +kernel, by decide +kernel, by decide +kernel, by decide +kernel⟩
  | 8, h => cases h; exact ⟨fun w hw => lwT_of ((by decide +kernel : ∀ w ∈ u_ws RX8 TX8 5, w ∈ lw_tbl) w hw) ((by decide +kernel : ∀ w ∈ u_ws RX8 TX8 5, goodWord w = true) w hw), by decide +kernel, by decide +kernel, by decide +kernel, by decide +kernel, by decide +kernel⟩
  | 9, h => cases h; exact ⟨fun w hw => lwT_of ((by decide +kernel : ∀ w ∈ u_ws RX9 TX9 9, w ∈ lw_tbl) w hw) ((by decide +kernel : ∀ w ∈ u_ws RX9 TX9 9, goodWord w = true) w hw), by decide +kernel, by decide +kernel, by decide +kernel, by decide +kernel, by decide +kernel⟩
  | 10, h => cases h; exact ⟨fun w hw => lwT_of ((by decide +kernel : ∀ w ∈ u_ws RX10 TX10 62, w ∈ lw_tbl) w hw) ((by decide +kernel : ∀ w ∈ u_ws RX10 TX10 62, goodWord w = true) w hw), by decide +kernel, by decide +kernel, by decide +kernel, by decide +kernel, by decide +kernel⟩
  | n + 11, h => simp [vwCl] at h
