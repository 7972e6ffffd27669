/-! ===== classes by their numbers ===== -/
def q_c0 (ci : Nat) : vw_C := q_cl.getD ci ("", fun _ => ("", "", "", false), 0)
def q_F (ci j : Nat) : String × String × String × Bool := (q_c0 ci).2.1 j
theorem q_cl_at {ci : Nat} (h : ci < 13) : q_cl[ci]? = some ((q_c0 ci).1, q_F ci, q_nf ci) := by
  match ci, h with
  | 0, _ => rfl
  | 1, _ => rfl
  | 2, _ => rfl
  | 3, _ => rfl
  | 4, _ => rfl
  | 5, _ => rfl
  | 6, _ => rfl
  | 7, _ => rfl
  | 8, _ => rfl
  | 9, _ => rfl
  | 10, _ => rfl
  | 11, _ => rfl
  | 12, _ => rfl
theorem q_tyok {ci : Nat} (h : ci < 13) : ∀ k, k < q_nf ci → parseFieldDescriptor (q_F ci k).2.2.1 = some (q_ty ci k) := by
  match ci, h with
  | 0, _ => exact tyX0_ok
  | 1, _ => exact tyX1_ok
  | 2, _ => exact tyX2_ok
  | 3, _ => exact tyX3_ok
  | 4, _ => exact tyX4_ok
  | 5, _ => exact tyX5_ok
  | 6, _ => exact tyX6_ok
  | 7, _ => exact tyX7_ok
  | 8, _ => exact tyX8_ok
  | 9, _ => exact tyX9_ok
  | 10, _ => exact tyX10_ok
  | 11, _ => exact tyX11_ok
  | 12, _ => exact tyX12_ok
theorem q_nmok {ci : Nat} (h : ci < 13) : ∀ a, a < q_nf ci → ∀ b, b < q_nf ci → a ≠ b → (q_F ci a).2.1 ≠ (q_F ci b).2.1 := by
  match ci, h with
  | 0, _ => exact nmX0
  | 1, _ => exact nmX1
  | 2, _ => exact nmX2
  | 3, _ => exact nmX3
  | 4, _ => exact nmX4
  | 5, _ => exact nmX5
  | 6, _ => exact nmX6
  | 7, _ => exact nmX7
  | 8, _ => exact nmX8
  | 9, _ => exact nmX9
  | 10, _ => exact nmX10
  | 11, _ => exact nmX11
  | 12, _ => exact nmX12
theorem q_ly0 : ∀ w ∈ wsX00, w ∈ q_T := fun w hw => q_inT (List.mem_append_right _ (q_in wsX00 [98, 100, 102, 104, 106, 108, 110, 112, 114, 116] (by decide +kernel) w hw)) (List.all_eq_true.mp (show wsX00.all q_ok = true by decide +kernel) w hw)
theorem q_ly1 : ∀ w ∈ wsX10, w ∈ q_T := fun w hw => q_inT (List.mem_append_right _ (q_in wsX10 [172, 174, 176, 178, 180, 182, 184, 186, 188, 190, 192, 194, 196, 198] (by decide +kernel) w hw)) (List.all_eq_true.mp (show wsX10.all q_ok = true by decide +kernel) w hw)
theorem q_ly2 : ∀ w ∈ wsX20, w ∈ q_T := fun w hw => q_inT (List.mem_append_right _ (q_in wsX20 [423, 425, 427, 429, 431, 433, 435] (by decide +kernel) w hw)) (List.all_eq_true.mp (show wsX20.all q_ok = true by decide +kernel) w hw)
theorem q_ly3 : ∀ w ∈ wsX30, w ∈ q_T := fun w hw => q_inT (List.mem_append_right _ (q_in wsX30 [357, 359, 361, 363, 365] (by decide +kernel) w hw)) (List.all_eq_true.mp (show wsX30.all q_ok = true by decide +kernel) w hw)
theorem q_ly4 : ∀ w ∈ wsX40, w ∈ q_T := fun w hw => q_inT (List.mem_append_right _ (q_in wsX40 [327, 329, 331, 333, 335, 337, 339, 341, 343] (by decide +kernel) w hw)) (List.all_eq_true.mp (show wsX40.all q_ok = true by decide +kernel) w hw)
theorem q_ly5 : ∀ w ∈ wsX50, w ∈ q_T := fun w hw => q_inT (List.mem_append_right _ (q_in wsX50 [256, 258, 260, 262, 264, 266, 268, 270, 272, 274, 276, 278, 280, 282, 284, 286, 288] (by decide +kernel) w hw)) (List.all_eq_true.mp (show wsX50.all q_ok = true by decide +kernel) w hw)
theorem q_ly6 : ∀ w ∈ wsX60, w ∈ q_T := fun w hw => q_inT (List.mem_append_right _ (q_in wsX60 [464, 466, 468, 470, 472, 474, 476, 478, 480, 482, 484, 486, 488, 490, 492, 494, 496, 498, 500] (by decide +kernel) w hw)) (List.all_eq_true.mp (show wsX60.all q_ok = true by decide +kernel) w hw)
theorem q_ly7 : ∀ w ∈ wsX70, w ∈ q_T := fun w hw => q_inT (List.mem_append_right _ (q_in wsX70 [303, 305, 307, 309] (by decide +kernel) w hw)) (List.all_eq_true.mp (show wsX70.all q_ok = true by decide +kernel) w hw)
theorem q_ly8 : ∀ w ∈ wsX80, w ∈ q_T := fun w hw => q_inT (List.mem_append_right _ (q_in wsX80 [47, 49, 51, 53, 55, 57] (by decide +kernel) w hw)) (List.all_eq_true.mp (show wsX80.all q_ok = true by decide +kernel) w hw)
theorem q_ly9 : ∀ w ∈ wsX90, w ∈ q_T := fun w hw => q_inT (List.mem_append_right _ (q_in wsX90 [382, 384, 386, 388, 390, 392, 394, 396] (by decide +kernel) w hw)) (List.all_eq_true.mp (show wsX90.all q_ok = true by decide +kernel) w hw)
theorem q_ly10 : ∀ w ∈ wsX100, w ∈ q_T := fun w hw => q_inT (List.mem_append_right _ (q_in wsX100 [516, 518, 520, 522, 524, 526, 528, 530, 532, 534, 536, 538, 540] (by decide +kernel) w hw)) (List.all_eq_true.mp (show wsX100.all q_ok = true by decide +kernel) w hw)
theorem q_ly11 : ∀ w ∈ wsX110, w ∈ q_T := fun w hw => q_inT (List.mem_append_right _ (q_in wsX110 [1332, 1334, 1336, 1338, 1340, 1342, 1344, 1346, 1348, 1350, 1352, 1354, 1356, 1358, 1360, 1362, 1364, 1366, 1368, 1370, 1372, 1374, 1376, 1378, 1380, 1382, 1384, 1386, 1388, 1390, 1392, 1394, 1396, 1398] (by decide +kernel) w hw)) (List.all_eq_true.mp (show wsX110.all q_ok = true by decide +kernel) w hw)
theorem q_ly12 : ∀ w ∈ wsX120, w ∈ q_T := fun w hw => q_inT (List.mem_append_right _ (q_in wsX120 [1447, 1449, 1451, 1453, 1455, 1457, 1459, 1461, 1463, 1465, 1467, 1469, 1471, 1473, 1475, 1477, 1479, 1481, 1483, 1485, 1487, 1489, 1491, 1493, 1495, 1497, 1499, 1501, 1503, 1505, 1507, 1509, 1511, 1513, 1515, 1517, 1519, 1521, 1523, 1525, 1527, 1529, 1531, 1533, 1535, 1537] (by decide +kernel) w hw)) (List.all_eq_true.mp (show wsX120.all q_ok = true by decide +kernel) w hw)
theorem q_lays {ci : Nat} (h : ci < 13) : ∀ w ∈ u_ws (q_c0 ci).1 (q_F ci) (q_nf ci), w ∈ q_T := by
  match ci, h with
  | 0, _ => exact q_ly0
  | 1, _ => exact q_ly1
  | 2, _ => exact q_ly2
  | 3, _ => exact q_ly3
  | 4, _ => exact q_ly4
  | 5, _ => exact q_ly5
  | 6, _ => exact q_ly6
  | 7, _ => exact q_ly7
  | 8, _ => exact q_ly8
  | 9, _ => exact q_ly9
  | 10, _ => exact q_ly10
  | 11, _ => exact q_ly11
  | 12, _ => exact q_ly12
/-! ===== memory ===== -/
/-- something new, empty -/
def q_nw (S : QS) (sp : QSp) : QS := (S.1 ++ [sp], fun x => if x = S.1.length then fun _ => 0 else S.2.1 x, fun x => if x = S.1.length then fun _ => 0 else S.2.2.1 x, fun x => if x = S.1.length then fun _ => 2000000 else S.2.2.2 x)
theorem q_set_map {α : Type} {n j : Nat} {f f' : Nat → α} {v : α} (h : ∀ x, f' x = if x = j then v else f x) : ((List.range n).map f).set j v = (List.range n).map f' := by
  apply List.ext_getElem?
  intro i
  by_cases hi : i = j
  · subst hi
    by_cases hl : i < n
    · rw [List.getElem?_set_self (by simpa using hl)]
      simp [hl, h i]
    · rw [List.getElem?_eq_none (by simpa using hl), List.getElem?_eq_none (by simpa using hl)]
  · rw [List.getElem?_set_ne (Ne.symm hi)]
    by_cases hl : i < n
    · simp [hl, h i, hi]
    · rw [List.getElem?_eq_none (by simpa using hl), List.getElem?_eq_none (by simpa using hl)]
