/-! the classes of the tables -/
theorem memIx {l t : List Cond} {ix : List Nat} (h : l.map some = ix.map (fun i => t[i]?)) : ∀ w ∈ l, w ∈ t := by
  intro w hw
  have h1 : some w ∈ l.map some := List.mem_map.mpr ⟨w, hw, rfl⟩
  rw [h] at h1
  obtain ⟨i, -, hi⟩ := List.mem_map.mp h1
  exact List.mem_of_getElem? hi
/-! the classes of the tables -/
/-- the classes of the tables: their rows are there, names differ, kinds of fields are as ftab has them -/
def tyF (c j : Nat) : FieldType := match c with
  | 0 => tyX0 j | 1 => tyX1 j | 2 => tyX2 j | 3 => tyX3 j | 4 => tyX4 j | 5 => tyX5 j | 6 => tyX6 j | 7 => tyX7 j | 8 => tyX8 j | 9 => tyX9 j | _ => tyX10 j
def ClsOk (ci : Nat) (q : vw_C) : Prop := (∀ w ∈ u_ws q.1 q.2.1 q.2.2, w ∈ lwT) ∧ (∀ a, a < q.2.2 → ∀ b, b < q.2.2 → a ≠ b → (q.2.1 a).2.1 ≠ (q.2.1 b).2.1) ∧ (∀ k, k < q.2.2 → parseFieldDescriptor (q.2.1 k).2.2.1 = some (tyF ci k)) ∧ nf ci = q.2.2 ∧
  (∀ k, k < q.2.2 → (ft ci k = 0 ∧ (tyF ci k = .int ∨ tyF ci k = .boolean)) ∨ (ft ci k = 1 ∧ tyF ci k = .long) ∨ (ft ci k = 2 ∧ refKind (tyF ci k) = true)) ∧ ci < 100
theorem cls_ok : ∀ (ci : Nat) (q : vw_C), vwCl[ci]? = some q → ClsOk ci q := by
  intro ci q h
  match ci, h with
  | 0, h => cases h; exact ⟨fun w hw => lwT_of (memIx (t := lw_tbl) (ix := [153, 155, 157, 159, 161, 163, 165, 167, 169]) (by decide +kernel) w hw) ((by decide +kernel : ∀ w ∈ u_ws RX0 TX0 9, goodWord w = true) w hw), by decide +kernel, by decide +kernel, by decide +kernel, by decide +kernel, by decide +kernel⟩
  | 1, h => cases h; exact ⟨fun w hw => lwT_of (memIx (t := lw_tbl) (ix := [382, 384, 386, 388, 390, 392]) (by decide +kernel) w hw) ((by decide +kernel : ∀ w ∈ u_ws RX1 TX1 6, goodWord w = true) w hw), by decide +kernel, by decide +kernel, by decide +kernel, by decide +kernel, by decide +kernel⟩
  | 2, h => cases h; exact ⟨fun w hw => lwT_of (memIx (t := lw_tbl) (ix := [334, 336, 338, 340, 342, 344, 346, 348, 350, 352, 354, 356, 358, 360, 362]) (by decide +kernel) w hw) ((by decide +kernel : ∀ w ∈ u_ws RX2 TX2 15, goodWord w = true) w hw), by decide +kernel, by decide +kernel, by decide +kernel, by decide +kernel, by decide +kernel⟩
  | 3, h => cases h; exact ⟨fun w hw => lwT_of (memIx (t := lw_tbl) (ix := [255, 257, 259, 261, 263, 265, 267, 269, 271, 273]) (by decide +kernel) w hw) ((by decide +kernel : ∀ w ∈ u_ws RX3 TX3 10, goodWord w = true) w hw), by decide +kernel, by decide +kernel, by decide +kernel, by decide +kernel, by decide +kernel⟩
  | 4, h => cases h; exact ⟨fun w hw => lwT_of (memIx (t := lw_tbl) (ix := [225, 227, 229, 231, 233]) (by decide +kernel) w hw) ((by decide +kernel : ∀ w ∈ u_ws RX4 TX4 5, goodWord w = true) w hw), by decide +kernel, by decide +kernel, by decide +kernel, by decide +kernel, by decide +kernel⟩
  | 5, h => cases h; exact ⟨fun w hw => lwT_of (memIx (t := lw_tbl) (ix := [407, 409, 411]) (by decide +kernel) w hw) ((by decide +kernel : ∀ w ∈ u_ws RX5 TX5 3, goodWord w = true) w hw), by decide +kernel, by decide +kernel, by decide +kernel, by decide +kernel, by decide +kernel⟩
  | 6, h => cases h; exact ⟨fun w hw => lwT_of (memIx (t := lw_tbl) (ix := [292, 294, 296, 298, 300, 302]) (by decide +kernel) w hw) ((by decide +kernel : ∀ w ∈ u_ws RX6 TX6 6, goodWord w = true) w hw), by decide +kernel, by decide +kernel, by decide +kernel, by decide +kernel, by decide +kernel⟩
  | 7, h => cases h; exact ⟨fun w hw => lwT_of (memIx (t := lw_tbl) (ix := [114, 116, 118]) (by decide +kernel) w hw) ((by decide +kernel : ∀ w ∈ u_ws RX7 TX7 3, goodWord w = true) w hw), by decide +kernel, by decide +kernel, by decide +kernel, by decide +kernel, by decide +kernel⟩
  | 8, h => cases h; exact ⟨fun w hw => lwT_of (memIx (t := lw_tbl) (ix := [193, 195, 197, 199, 201]) (by decide +kernel) w hw) ((by decide +kernel : ∀ w ∈ u_ws RX8 TX8 5, goodWord w = true) w hw), by decide +kernel, by decide +kernel, by decide +kernel, by decide +kernel, by decide +kernel⟩
  | 9, h => cases h; exact ⟨fun w hw => lwT_of (memIx (t := lw_tbl) (ix := [584, 586, 588, 590, 592, 594, 596, 598, 600]) (by decide +kernel) w hw) ((by decide +kernel : ∀ w ∈ u_ws RX9 TX9 9, goodWord w = true) w hw), by decide +kernel, by decide +kernel, by decide +kernel, by decide +kernel, by decide +kernel⟩
  | 10, h => cases h; exact ⟨fun w hw => lwT_of (memIx (t := lw_tbl) (ix := [1208, 1210, 1212, 1214, 1216, 1218, 1220, 1222, 1224, 1226, 1228, 1230, 1232, 1234, 1236, 1238, 1240, 1242, 1244, 1246, 1248, 1250, 1252, 1254, 1256, 1258, 1260, 1262, 1264, 1266, 1268, 1270, 1272, 1274, 1276, 1278, 1280, 1282, 1284, 1286, 1288, 1290, 1292, 1294, 1296, 1298, 1300, 1302, 1304, 1306, 1308, 1310, 1312, 1314, 1316, 1318, 1320, 1322, 1324, 1326, 1328, 1330]) (by decide +kernel) w hw) ((by decide +kernel : ∀ w ∈ u_ws RX10 TX10 62, goodWord w = true) w hw), by decide +kernel, by decide +kernel, by decide +kernel, by decide +kernel, by decide +kernel⟩
  | n + 11, h => simp [vwCl] at h
