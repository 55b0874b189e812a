/-! the classes: names, fields, and their words in the table -/
theorem ab_inP (ws : List Jvm.Cond) (ps : List Nat) (h1 : ws = ps.filterMap (fun i => lw_tbl[i]?)) (h2 : ws.all goodWord = true) : ∀ w ∈ ws, w ∈ ab_gw := by
  intro w hw
  refine List.mem_filter.mpr ⟨?_, List.all_eq_true.mp h2 w hw⟩
  rw [h1] at hw
  obtain ⟨i, -, hi⟩ := List.mem_filterMap.mp hw
  exact List.mem_of_getElem? hi
set_option maxRecDepth 100000 in
theorem ab_in0 : ∀ w ∈ u_ws RX0 TX0 4, w ∈ ab_gw := ab_inP _ [245, 247, 249, 251] (by decide +kernel) (by decide +kernel)
set_option maxRecDepth 100000 in
theorem ab_in1 : ∀ w ∈ u_ws RX1 TX1 4, w ∈ ab_gw := ab_inP _ [265, 267, 269, 271] (by decide +kernel) (by decide +kernel)
set_option maxRecDepth 100000 in
theorem ab_in2 : ∀ w ∈ u_ws RX2 TX2 1, w ∈ ab_gw := ab_inP _ [281] (by decide +kernel) (by decide +kernel)
set_option maxRecDepth 100000 in
theorem ab_in3 : ∀ w ∈ u_ws RX3 TX3 4, w ∈ ab_gw := ab_inP _ [380, 382, 384, 386] (by decide +kernel) (by decide +kernel)
set_option maxRecDepth 100000 in
theorem ab_in4 : ∀ w ∈ u_ws RX4 TX4 11, w ∈ ab_gw := ab_inP _ [205, 207, 209, 211, 213, 215, 217, 219, 221, 223, 225] (by decide +kernel) (by decide +kernel)
set_option maxRecDepth 100000 in
theorem ab_in5 : ∀ w ∈ u_ws RX5 TX5 10, w ∈ ab_gw := ab_inP _ [168, 170, 172, 174, 176, 178, 180, 182, 184, 186] (by decide +kernel) (by decide +kernel)
set_option maxRecDepth 100000 in
theorem ab_in6 : ∀ w ∈ u_ws RX6 TX6 7, w ∈ ab_gw := ab_inP _ [351, 353, 355, 357, 359, 361, 363] (by decide +kernel) (by decide +kernel)
set_option maxRecDepth 100000 in
theorem ab_in7 : ∀ w ∈ u_ws RX7 TX7 10, w ∈ ab_gw := ab_inP _ [313, 315, 317, 319, 321, 323, 325, 327, 329, 331] (by decide +kernel) (by decide +kernel)
set_option maxRecDepth 100000 in
theorem ab_in8 : ∀ w ∈ u_ws RX8 TX8 17, w ∈ ab_gw := ab_inP _ [406, 408, 410, 412, 414, 416, 418, 420, 422, 424, 426, 428, 430, 432, 434, 436, 438] (by decide +kernel) (by decide +kernel)
set_option maxRecDepth 100000 in
theorem ab_in9 : ∀ w ∈ u_ws RX9 TX9 52, w ∈ ab_gw := ab_inP _ [1244, 1246, 1248, 1250, 1252, 1254, 1256, 1258, 1260, 1262, 1264, 1266, 1268, 1270, 1272, 1274, 1276, 1278, 1280, 1282, 1284, 1286, 1288, 1290, 1292, 1294, 1296, 1298, 1300, 1302, 1304, 1306, 1308, 1310, 1312, 1314, 1316, 1318, 1320, 1322, 1324, 1326, 1328, 1330, 1332, 1334, 1336, 1338, 1340, 1342, 1344, 1346] (by decide +kernel) (by decide +kernel)
def ab_C : Nat → String
  | 0 => RX0
  | 1 => RX1
  | 2 => RX2
  | 3 => RX3
  | 4 => RX4
  | 5 => RX5
  | 6 => RX6
  | 7 => RX7
  | 8 => RX8
  | _ => RX9
def ab_T : Nat → u_T
  | 0 => TX0
  | 1 => TX1
  | 2 => TX2
  | 3 => TX3
  | 4 => TX4
  | 5 => TX5
  | 6 => TX6
  | 7 => TX7
  | 8 => TX8
  | _ => TX9
def ab_ty : Nat → Nat → FieldType
  | 0 => tyX0
  | 1 => tyX1
  | 2 => tyX2
  | 3 => tyX3
  | 4 => tyX4
  | 5 => tyX5
  | 6 => tyX6
  | 7 => tyX7
  | 8 => tyX8
  | _ => tyX9
theorem ab_cls {ci : Nat} (h : ci < 10) : vwCl[ci]? = some (ab_C ci, ab_T ci, (ab_lay ci).length) := by
  match ci, h with
  | 0, _ => exact rfl
  | 1, _ => exact rfl
  | 2, _ => exact rfl
  | 3, _ => exact rfl
  | 4, _ => exact rfl
  | 5, _ => exact rfl
  | 6, _ => exact rfl
  | 7, _ => exact rfl
  | 8, _ => exact rfl
  | 9, _ => exact rfl
  | c + 10, h => exact absurd h (by omega)
theorem ab_tyok {ci : Nat} (h : ci < 10) : ∀ k, k < (ab_lay ci).length → parseFieldDescriptor (ab_T ci k).2.2.1 = some (ab_ty ci k) := by
  match ci, h with
  | 0, _ => exact tyX0_ok
  | 1, _ => exact tyX1_ok
  | 2, _ => exact tyX2_ok
  | 3, _ => exact tyX3_ok
  | 4, _ => exact tyX4_ok
  | 5, _ => exact tyX5_ok
  | 6, _ => exact tyX6_ok
  | 7, _ => exact tyX7_ok
  | 8, _ => exact tyX8_ok
  | 9, _ => exact tyX9_ok
  | c + 10, h => exact absurd h (by omega)
theorem ab_nms {ci : Nat} (h : ci < 10) : ∀ a, a < (ab_lay ci).length → ∀ b, b < (ab_lay ci).length → a ≠ b → (ab_T ci a).2.1 ≠ (ab_T ci b).2.1 := by
  match ci, h with
  | 0, _ => exact nmX0
  | 1, _ => exact nmX1
  | 2, _ => exact nmX2
  | 3, _ => exact nmX3
  | 4, _ => exact nmX4
  | 5, _ => exact nmX5
  | 6, _ => exact nmX6
  | 7, _ => exact nmX7
  | 8, _ => exact nmX8
  | 9, _ => exact nmX9
  | c + 10, h => exact absurd h (by omega)
theorem ab_inl {ci : Nat} (h : ci < 10) : ∀ w ∈ u_ws (ab_C ci) (ab_T ci) (ab_lay ci).length, w ∈ ab_gw := by
  match ci, h with
  | 0, _ => exact ab_in0
  | 1, _ => exact ab_in1
  | 2, _ => exact ab_in2
  | 3, _ => exact ab_in3
  | 4, _ => exact ab_in4
  | 5, _ => exact ab_in5
  | 6, _ => exact ab_in6
  | 7, _ => exact ab_in7
  | 8, _ => exact ab_in8
  | 9, _ => exact ab_in9
  | c + 10, h => exact absurd h (by omega)
theorem ab_kty {ci : Nat} (h : ci < 10) : ∀ k, k < (ab_lay ci).length → (ab_kd ci k = 0 → ab_ty ci k = .int ∧ (ab_T ci k).2.2.2 = false) ∧ (ab_kd ci k = 1 → ab_ty ci k = .boolean ∧ (ab_T ci k).2.2.2 = false) ∧ (ab_kd ci k = 2 → ab_ty ci k = .long ∧ (ab_T ci k).2.2.2 = false) ∧ (ab_kd ci k = 3 → ab_ty ci k = .array .int) ∧ (ab_kd ci k = 5 → ab_ty ci k = .array .long) ∧ (ab_kd ci k = 6 → ab_ty ci k = .array .boolean) := by
  match ci, h with
  | 0, _ => exact (by decide +kernel)
  | 1, _ => exact (by decide +kernel)
  | 2, _ => exact (by decide +kernel)
  | 3, _ => exact (by decide +kernel)
  | 4, _ => exact (by decide +kernel)
  | 5, _ => exact (by decide +kernel)
  | 6, _ => exact (by decide +kernel)
  | 7, _ => exact (by decide +kernel)
  | 8, _ => exact (by decide +kernel)
  | 9, _ => exact (by decide +kernel)
  | c + 10, h => exact absurd h (by omega)
