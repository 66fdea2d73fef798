def zC : List vw_C := [(RX0, TX0, 17), (RX1, TX1, 18), (RX2, TX2, 10), (RX3, TX3, 8), (RX4, TX4, 5), (RX5, TX5, 20), (RX6, TX6, 20), (RX7, TX7, 19), (RX8, TX8, 12), (RX9, TX9, 15), (RX10, TX10, 21), (RX11, TX11, 20), (RX12, TX12, 21), (RX13, TX13, 180)]
def zT : List FieldType := [.int, .long, .byte, .boolean, .object "LinkHouse$Row", .object "LinkHouse$Member", .object "LinkHouse$Build", .object "LinkHouse$Node", .array .int]
def zV (b : Nat) (e : Nat → Value) (D : va_G) (A : Nat → ClassId) (X : State → Prop) : rx_V := (b, e, D, zC, A, zT, X, lw_tbl)
section ZW
variable {b : Nat} {e : Nat → Value} {D : va_G} {A : Nat → ClassId} {X : State → Prop}
theorem zin0 : ∀ w ∈ u_ws RX0 TX0 17, w ∈ lw_tbl := z_in [683, 685, 687, 689, 691, 693, 695, 697, 699, 701, 703, 705, 707, 709, 711, 713, 715] (by decide +kernel)
theorem zcl0 : rx_Cl (zV b e D A X) 0 RX0 TX0 17 tyX0 := ⟨rfl, zin0, tyX0_ok, nmX0⟩
def zfs0 : List (List Nat) := [[3, 3, 3, 0, 0, 3, 0, 3, 0, 3, 3, 0, 0, 3, 0, 3], [0]]
theorem zfk0 : ∀ k, k < 17 → rx_dfok (tyX0 k) = true ∧ rx_fg zfs0 k = rx_df (tyX0 k) := by decide +kernel
theorem zin1 : ∀ w ∈ u_ws RX1 TX1 18, w ∈ lw_tbl := z_in [1181, 1183, 1185, 1187, 1189, 1191, 1193, 1195, 1197, 1199, 1201, 1203, 1205, 1207, 1209, 1211, 1213, 1215] (by decide +kernel)
theorem zcl1 : rx_Cl (zV b e D A X) 1 RX1 TX1 18 tyX1 := ⟨rfl, zin1, tyX1_ok, nmX1⟩
def zfs1 : List (List Nat) := [[0, 0, 3, 0, 3, 0, 3, 0, 3, 3, 3, 3, 3, 3, 3, 0], [3, 0]]
theorem zfk1 : ∀ k, k < 18 → rx_dfok (tyX1 k) = true ∧ rx_fg zfs1 k = rx_df (tyX1 k) := by decide +kernel
theorem zin2 : ∀ w ∈ u_ws RX2 TX2 10, w ∈ lw_tbl := z_in [1448, 1450, 1452, 1454, 1456, 1458, 1460, 1462, 1464, 1466] (by decide +kernel)
theorem zcl2 : rx_Cl (zV b e D A X) 2 RX2 TX2 10 tyX2 := ⟨rfl, zin2, tyX2_ok, nmX2⟩
def zfs2 : List (List Nat) := [[3, 3, 0, 3, 0, 0, 0, 0, 3, 3]]
theorem zfk2 : ∀ k, k < 10 → rx_dfok (tyX2 k) = true ∧ rx_fg zfs2 k = rx_df (tyX2 k) := by decide +kernel
theorem zin3 : ∀ w ∈ u_ws RX3 TX3 8, w ∈ lw_tbl := z_in [732, 734, 736, 738, 740, 742, 744, 746] (by decide +kernel)
theorem zcl3 : rx_Cl (zV b e D A X) 3 RX3 TX3 8 tyX3 := ⟨rfl, zin3, tyX3_ok, nmX3⟩
def zfs3 : List (List Nat) := [[3, 3, 3, 3, 0, 3, 0, 0]]
theorem zfk3 : ∀ k, k < 8 → rx_dfok (tyX3 k) = true ∧ rx_fg zfs3 k = rx_df (tyX3 k) := by decide +kernel
theorem zin4 : ∀ w ∈ u_ws RX4 TX4 5, w ∈ lw_tbl := z_in [645, 647, 649, 651, 653] (by decide +kernel)
theorem zcl4 : rx_Cl (zV b e D A X) 4 RX4 TX4 5 tyX4 := ⟨rfl, zin4, tyX4_ok, nmX4⟩
def zfs4 : List (List Nat) := [[3, 3, 3, 0, 0]]
theorem zfk4 : ∀ k, k < 5 → rx_dfok (tyX4 k) = true ∧ rx_fg zfs4 k = rx_df (tyX4 k) := by decide +kernel
theorem zin5 : ∀ w ∈ u_ws RX5 TX5 20, w ∈ lw_tbl := z_in [1388, 1390, 1392, 1394, 1396, 1398, 1400, 1402, 1404, 1406, 1408, 1410, 1412, 1414, 1416, 1418, 1420, 1422, 1424, 1426] (by decide +kernel)
theorem zcl5 : rx_Cl (zV b e D A X) 5 RX5 TX5 20 tyX5 := ⟨rfl, zin5, tyX5_ok, nmX5⟩
def zfs5 : List (List Nat) := [[3, 3, 3, 3, 0, 3, 0, 3, 3, 3, 3, 3, 0, 1, 0, 3], [0, 3, 3, 3]]
theorem zfk5 : ∀ k, k < 20 → rx_dfok (tyX5 k) = true ∧ rx_fg zfs5 k = rx_df (tyX5 k) := by decide +kernel
theorem zin6 : ∀ w ∈ u_ws RX6 TX6 20, w ∈ lw_tbl := z_in [1512, 1514, 1516, 1518, 1520, 1522, 1524, 1526, 1528, 1530, 1532, 1534, 1536, 1538, 1540, 1542, 1544, 1546, 1548, 1550] (by decide +kernel)
theorem zcl6 : rx_Cl (zV b e D A X) 6 RX6 TX6 20 tyX6 := ⟨rfl, zin6, tyX6_ok, nmX6⟩
def zfs6 : List (List Nat) := [[3, 3, 3, 0, 3, 0, 3, 0, 3, 3, 0, 3, 0, 3, 0, 3], [0, 0, 0, 0]]
theorem zfk6 : ∀ k, k < 20 → rx_dfok (tyX6 k) = true ∧ rx_fg zfs6 k = rx_df (tyX6 k) := by decide +kernel
theorem zin7 : ∀ w ∈ u_ws RX7 TX7 19, w ∈ lw_tbl := z_in [1078, 1080, 1082, 1084, 1086, 1088, 1090, 1092, 1094, 1096, 1098, 1100, 1102, 1104, 1106, 1108, 1110, 1112, 1114] (by decide +kernel)
theorem zcl7 : rx_Cl (zV b e D A X) 7 RX7 TX7 19 tyX7 := ⟨rfl, zin7, tyX7_ok, nmX7⟩
def zfs7 : List (List Nat) := [[0, 0, 0, 0, 0, 0, 0, 1, 1, 0, 3, 0, 0, 0, 3, 0], [0, 0, 0]]
theorem zfk7 : ∀ k, k < 19 → rx_dfok (tyX7 k) = true ∧ rx_fg zfs7 k = rx_df (tyX7 k) := by decide +kernel
theorem zin8 : ∀ w ∈ u_ws RX8 TX8 12, w ∈ lw_tbl := z_in [501, 503, 505, 507, 509, 511, 513, 515, 517, 519, 521, 523] (by decide +kernel)
theorem zcl8 : rx_Cl (zV b e D A X) 8 RX8 TX8 12 tyX8 := ⟨rfl, zin8, tyX8_ok, nmX8⟩
def zfs8 : List (List Nat) := [[0, 0, 0, 0, 0, 3, 3, 3, 3, 1, 1, 3]]
theorem zfk8 : ∀ k, k < 12 → rx_dfok (tyX8 k) = true ∧ rx_fg zfs8 k = rx_df (tyX8 k) := by decide +kernel
theorem zin9 : ∀ w ∈ u_ws RX9 TX9 15, w ∈ lw_tbl := z_in [601, 603, 605, 607, 609, 611, 613, 615, 617, 619, 621, 623, 625, 627, 629] (by decide +kernel)
theorem zcl9 : rx_Cl (zV b e D A X) 9 RX9 TX9 15 tyX9 := ⟨rfl, zin9, tyX9_ok, nmX9⟩
def zfs9 : List (List Nat) := [[3, 3, 3, 3, 3, 0, 3, 0, 0, 0, 0, 3, 0, 3, 0]]
theorem zfk9 : ∀ k, k < 15 → rx_dfok (tyX9 k) = true ∧ rx_fg zfs9 k = rx_df (tyX9 k) := by decide +kernel
theorem zin10 : ∀ w ∈ u_ws RX10 TX10 21, w ∈ lw_tbl := z_in [899, 901, 903, 905, 907, 909, 911, 913, 915, 917, 919, 921, 923, 925, 927, 929, 931, 933, 935, 937, 939] (by decide +kernel)
theorem zcl10 : rx_Cl (zV b e D A X) 10 RX10 TX10 21 tyX10 := ⟨rfl, zin10, tyX10_ok, nmX10⟩
def zfs10 : List (List Nat) := [[3, 1, 0, 0, 0, 0, 0, 0, 1, 1, 3, 3, 3, 0, 3, 0], [0, 0, 3, 0, 0]]
theorem zfk10 : ∀ k, k < 21 → rx_dfok (tyX10 k) = true ∧ rx_fg zfs10 k = rx_df (tyX10 k) := by decide +kernel
theorem zin11 : ∀ w ∈ u_ws RX11 TX11 20, w ∈ lw_tbl := z_in [1308, 1310, 1312, 1314, 1316, 1318, 1320, 1322, 1324, 1326, 1328, 1330, 1332, 1334, 1336, 1338, 1340, 1342, 1344, 1346] (by decide +kernel)
theorem zcl11 : rx_Cl (zV b e D A X) 11 RX11 TX11 20 tyX11 := ⟨rfl, zin11, tyX11_ok, nmX11⟩
def zfs11 : List (List Nat) := [[3, 3, 0, 3, 3, 3, 3, 3, 3, 3, 3, 3, 3, 3, 3, 0], [3, 3, 0, 0]]
theorem zfk11 : ∀ k, k < 20 → rx_dfok (tyX11 k) = true ∧ rx_fg zfs11 k = rx_df (tyX11 k) := by decide +kernel
theorem zin12 : ∀ w ∈ u_ws RX12 TX12 21, w ∈ lw_tbl := z_in [1630, 1632, 1634, 1636, 1638, 1640, 1642, 1644, 1646, 1648, 1650, 1652, 1654, 1656, 1658, 1660, 1662, 1664, 1666, 1668, 1670] (by decide +kernel)
theorem zcl12 : rx_Cl (zV b e D A X) 12 RX12 TX12 21 tyX12 := ⟨rfl, zin12, tyX12_ok, nmX12⟩
def zfs12 : List (List Nat) := [[3, 0, 3, 0, 3, 3, 3, 3, 3, 3, 3, 3, 0, 3, 3, 3], [3, 3, 0, 3, 3]]
theorem zfk12 : ∀ k, k < 21 → rx_dfok (tyX12 k) = true ∧ rx_fg zfs12 k = rx_df (tyX12 k) := by decide +kernel
theorem zin13 : ∀ w ∈ u_ws RX13 TX13 180, w ∈ lw_tbl := z_in [4306, 4308, 4310, 4312, 4314, 4316, 4318, 4320, 4322, 4324, 4326, 4328, 4330, 4332, 4334, 4336, 4338, 4340, 4342, 4344, 4346, 4348, 4350, 4352, 4354, 4356, 4358, 4360, 4362, 4364, 4366, 4368, 4370, 4372, 4374, 4376, 4378, 4380, 4382, 4384, 4386, 4388, 4390, 4392, 4394, 4396, 4398, 4400, 4402, 4404, 4406, 4408, 4410, 4412, 4414, 4416, 4418, 4420, 4422, 4424, 4426, 4428, 4430, 4432, 4434, 4436, 4438, 4440, 4442, 4444, 4446, 4448, 4450, 4452, 4454, 4456, 4458, 4460, 4462, 4464, 4466, 4468, 4470, 4472, 4474, 4476, 4478, 4480, 4482, 4484, 4486, 4488, 4490, 4492, 4494, 4496, 4498, 4500, 4502, 4504, 4506, 4508, 4510, 4512, 4514, 4516, 4518, 4520, 4522, 4524, 4526, 4528, 4530, 4532, 4534, 4536, 4538, 4540, 4542, 4544, 4546, 4548, 4550, 4552, 4554, 4556, 4558, 4560, 4562, 4564, 4566, 4568, 4570, 4572, 4574, 4576, 4578, 4580, 4582, 4584, 4586, 4588, 4590, 4592, 4594, 4596, 4598, 4600, 4602, 4604, 4606, 4608, 4610, 4612, 4614, 4616, 4618, 4620, 4622, 4624, 4626, 4628, 4630, 4632, 4634, 4636, 4638, 4640, 4642, 4644, 4646, 4648, 4650, 4652, 4654, 4656, 4658, 4660, 4662, 4664] (by decide +kernel)
theorem zcl13 : rx_Cl (zV b e D A X) 13 RX13 TX13 180 tyX13 := ⟨rfl, zin13, tyX13_ok, nmX13⟩
def zfs13 : List (List Nat) := [[3, 0, 3, 0, 3, 3, 3, 3, 3, 3, 0, 3, 3, 3, 3, 3], [3, 3, 0, 0, 0, 0, 0, 3, 3, 3, 3, 3, 3, 3, 3, 3], [3, 3, 3, 3, 3, 3, 3, 3, 3, 3, 3, 3, 3, 3, 3, 3], [3, 3, 3, 3, 3, 3, 3, 3, 3, 3, 3, 3, 3, 3, 3, 3], [3, 3, 3, 3, 3, 3, 3, 3, 3, 3, 3, 3, 3, 3, 3, 3], [3, 3, 3, 3, 3, 3, 3, 3, 3, 0, 3, 0, 0, 3, 3, 0], [3, 3, 0, 3, 3, 0, 0, 3, 0, 3, 3, 3, 0, 0, 0, 0], [3, 3, 0, 3, 0, 3, 3, 3, 3, 3, 3, 3, 3, 3, 3, 3], [0, 0, 3, 3, 3, 3, 0, 3, 0, 0, 3, 0, 0, 3, 0, 3], [3, 0, 3, 3, 3, 3, 3, 0, 3, 0, 3, 0, 3, 3, 3, 3], [3, 0, 0, 0, 0, 0, 0, 0, 3, 0, 3, 0, 3, 0, 3, 0], [3, 3, 3, 3]]
theorem zfk13 : ∀ k, k < 180 → rx_dfok (tyX13 k) = true ∧ rx_fg zfs13 k = rx_df (tyX13 k) := by decide +kernel
theorem zaa10 : ∀ ci ∈ [10], ∃ r, (eC (zV b e D A X))[ci]? = some r ∧ (r.1 = "LinkHouse$Row" ∨ Cond.castable r.1 "LinkHouse$Row" ∈ eW (zV b e D A X)) := by
  intro ci h
  rw [List.mem_singleton.mp h]
  exact ⟨_, rfl, Or.inl rfl⟩
theorem zaa7 : ∀ ci ∈ [7], ∃ r, (eC (zV b e D A X))[ci]? = some r ∧ (r.1 = "LinkHouse$Member" ∨ Cond.castable r.1 "LinkHouse$Member" ∈ eW (zV b e D A X)) := by
  intro ci h
  rw [List.mem_singleton.mp h]
  exact ⟨_, rfl, Or.inl rfl⟩
theorem zaa1 : ∀ ci ∈ [1], ∃ r, (eC (zV b e D A X))[ci]? = some r ∧ (r.1 = "LinkHouse$Build" ∨ Cond.castable r.1 "LinkHouse$Build" ∈ eW (zV b e D A X)) := by
  intro ci h
  rw [List.mem_singleton.mp h]
  exact ⟨_, rfl, Or.inl rfl⟩
theorem zaa8 : ∀ ci ∈ [8], ∃ r, (eC (zV b e D A X))[ci]? = some r ∧ (r.1 = "LinkHouse$Node" ∨ Cond.castable r.1 "LinkHouse$Node" ∈ eW (zV b e D A X)) := by
  intro ci h
  rw [List.mem_singleton.mp h]
  exact ⟨_, rfl, Or.inl rfl⟩
def zbs7 : List Nat := [792, 864, 776, 920, 920, 256, 816, 776, 792, 808, 256, 776, 920, 256, 840, 920, 256, 840, 880, 256, 952, 840, 928, 832, 256, 888, 880, 864, 968, 256, 888, 896, 808, 880, 256, 856, 840, 880, 256, 888, 952, 880, 256, 816, 840, 880, 776, 864, 256, 784, 776, 912, 808, 256, 920, 928, 776, 928, 840, 792, 256, 920, 928, 776, 912, 928, 256, 944, 888, 840, 800, 256, 880, 808, 952, 256, 840, 880, 928, 256, 864, 808, 928, 256, 840, 816, 256, 808, 864, 920, 808, 256, 952, 832, 840, 864, 808, 256, 912, 808, 928, 936, 912, 880, 256, 928, 832, 912, 888, 952, 256, 928, 912, 968, 256, 792, 776, 928, 792, 832, 256, 888, 936, 928, 256, 880, 936, 864, 864, 256, 928, 832, 840, 920, 256, 920, 936, 896, 808, 912, 256, 776, 920, 856, 256]
def zbs9 : List Nat := [256, 792, 864, 776, 920, 920, 256, 816, 776, 792, 808, 256, 840, 920, 256, 776, 920, 256, 840, 880, 256, 952, 840, 928, 832, 256, 888, 880, 864, 968, 256, 888, 896, 808, 880, 256, 856, 840, 880, 256, 888, 952, 880, 256, 816, 840, 880, 776, 864, 256, 784, 776, 912, 808, 256, 920, 928, 776, 928, 840, 792, 256, 920, 928, 776, 912, 928, 256, 944, 888, 840, 800, 256, 880, 808, 952, 256, 840, 880, 928, 256, 864, 808, 928, 256, 840, 816, 256, 808, 864, 920, 808, 256, 952, 832, 840, 864, 808, 256, 912, 808, 928, 936, 912, 880, 256, 928, 832, 912, 888, 952, 256, 928, 912, 968, 256, 792, 776, 928, 792, 832, 256, 888, 936, 928, 256, 880, 936, 864, 864, 256, 928, 832, 840, 920, 256, 920, 936, 896, 808, 912, 256, 776, 920, 856, 256]
def zbs11 : List Nat := [792, 888, 800, 808]
def zO (b : Nat) (e : Nat → Value) (D : va_G) (A : Nat → ClassId) (X : State → Prop) : Prop :=
  rx_Ok (zV b e D A X) ∧
  (∀ s, X s → va_Z "java/lang/String" "COMPACT_STRINGS" "Z" (rx_v (zV b e D A X) 8) (fun q => b ≤ q) s s.heap) ∧
  (∀ s, X s → va_Z "jdk/internal/util/Preconditions" "SIOOBE_FORMATTER" "Ljava/util/function/BiFunction;" (rx_v (zV b e D A X) 44) (fun q => b ≤ q) s s.heap) ∧
  (∀ s, X s → ∀ args, (Cond.arrayOver (.array .int)).before args s = true) ∧
  (∀ s, X s → ∃ q, e 6 = .ref q ∧ vk_R RX9 35 "class face as is in with only open kin own final bare static start void new int let if else while return throw try catch out null this super ask " q s) ∧
  (∀ s, X s → ∃ q, e 6 = .ref q ∧ va_OF "java/lang/String" "value" "[B" (rx_v (zV b e D A X) 60) q (fun q => b ≤ q) s s.heap) ∧
  (∀ s, X s → ∃ q, e 6 = .ref q ∧ va_OF "java/lang/String" "coder" "B" (rx_v (zV b e D A X) 0) q (fun q => b ≤ q) s s.heap) ∧
  (∀ s, X s → ∃ q, e 6 = .ref q ∧ va_O "java/lang/String" q (fun q => b ≤ q) s s.heap) ∧
  (∀ s, X s → ∃ q, e 7 = .ref q ∧ va_T .byte q 145 (fun j => rx_v (zV b e D A X) (rx_nth zbs7 j 7)) (fun q => b ≤ q) s s.heap) ∧
  (∀ s, X s → ∃ q, e 8 = .ref q ∧ vk_R RX13 69 " class face is as in with only open kin own final bare static start void new int let if else while return throw try catch out null this super ask " q s) ∧
  (∀ s, X s → ∃ q, e 8 = .ref q ∧ va_OF "java/lang/String" "value" "[B" (rx_v (zV b e D A X) 76) q (fun q => b ≤ q) s s.heap) ∧
  (∀ s, X s → ∃ q, e 8 = .ref q ∧ va_OF "java/lang/String" "coder" "B" (rx_v (zV b e D A X) 0) q (fun q => b ≤ q) s s.heap) ∧
  (∀ s, X s → ∃ q, e 8 = .ref q ∧ va_O "java/lang/String" q (fun q => b ≤ q) s s.heap) ∧
  (∀ s, X s → ∃ q, e 9 = .ref q ∧ va_T .byte q 146 (fun j => rx_v (zV b e D A X) (rx_nth zbs9 j 7)) (fun q => b ≤ q) s s.heap) ∧
  (∀ s, X s → ∃ q, e 10 = .ref q ∧ vk_R RX13 526 "code" q s) ∧
  (∀ s, X s → ∃ q, e 10 = .ref q ∧ va_OF "java/lang/String" "value" "[B" (rx_v (zV b e D A X) 92) q (fun q => b ≤ q) s s.heap) ∧
  (∀ s, X s → ∃ q, e 10 = .ref q ∧ va_OF "java/lang/String" "coder" "B" (rx_v (zV b e D A X) 0) q (fun q => b ≤ q) s s.heap) ∧
  (∀ s, X s → ∃ q, e 10 = .ref q ∧ va_O "java/lang/String" q (fun q => b ≤ q) s s.heap) ∧
  (∀ s, X s → ∃ q, e 11 = .ref q ∧ va_T .byte q 4 (fun j => rx_v (zV b e D A X) (rx_nth zbs11 j 7)) (fun q => b ≤ q) s s.heap)
theorem zo_K (h : zO b e D A X) : (∀ s, X s → va_Z "java/lang/String" "COMPACT_STRINGS" "Z" (rx_v (zV b e D A X) 8) (fun q => b ≤ q) s s.heap) := h.2.1
theorem zo_F (h : zO b e D A X) : (∀ s, X s → va_Z "jdk/internal/util/Preconditions" "SIOOBE_FORMATTER" "Ljava/util/function/BiFunction;" (rx_v (zV b e D A X) 44) (fun q => b ≤ q) s s.heap) := h.2.2.1
theorem zo_A (h : zO b e D A X) : (∀ s, X s → ∀ args, (Cond.arrayOver (.array .int)).before args s = true) := h.2.2.2.1
theorem zo_R6 (h : zO b e D A X) : (∀ s, X s → ∃ q, e 6 = .ref q ∧ vk_R RX9 35 "class face as is in with only open kin own final bare static start void new int let if else while return throw try catch out null this super ask " q s) := h.2.2.2.2.1
theorem zo_V6 (h : zO b e D A X) : (∀ s, X s → ∃ q, e 6 = .ref q ∧ va_OF "java/lang/String" "value" "[B" (rx_v (zV b e D A X) 60) q (fun q => b ≤ q) s s.heap) := h.2.2.2.2.2.1
theorem zo_C6 (h : zO b e D A X) : (∀ s, X s → ∃ q, e 6 = .ref q ∧ va_OF "java/lang/String" "coder" "B" (rx_v (zV b e D A X) 0) q (fun q => b ≤ q) s s.heap) := h.2.2.2.2.2.2.1
theorem zo_O6 (h : zO b e D A X) : (∀ s, X s → ∃ q, e 6 = .ref q ∧ va_O "java/lang/String" q (fun q => b ≤ q) s s.heap) := h.2.2.2.2.2.2.2.1
theorem zo_B7 (h : zO b e D A X) : (∀ s, X s → ∃ q, e 7 = .ref q ∧ va_T .byte q 145 (fun j => rx_v (zV b e D A X) (rx_nth zbs7 j 7)) (fun q => b ≤ q) s s.heap) := h.2.2.2.2.2.2.2.2.1
theorem zo_R8 (h : zO b e D A X) : (∀ s, X s → ∃ q, e 8 = .ref q ∧ vk_R RX13 69 " class face is as in with only open kin own final bare static start void new int let if else while return throw try catch out null this super ask " q s) := h.2.2.2.2.2.2.2.2.2.1
theorem zo_V8 (h : zO b e D A X) : (∀ s, X s → ∃ q, e 8 = .ref q ∧ va_OF "java/lang/String" "value" "[B" (rx_v (zV b e D A X) 76) q (fun q => b ≤ q) s s.heap) := h.2.2.2.2.2.2.2.2.2.2.1
theorem zo_C8 (h : zO b e D A X) : (∀ s, X s → ∃ q, e 8 = .ref q ∧ va_OF "java/lang/String" "coder" "B" (rx_v (zV b e D A X) 0) q (fun q => b ≤ q) s s.heap) := h.2.2.2.2.2.2.2.2.2.2.2.1
theorem zo_O8 (h : zO b e D A X) : (∀ s, X s → ∃ q, e 8 = .ref q ∧ va_O "java/lang/String" q (fun q => b ≤ q) s s.heap) := h.2.2.2.2.2.2.2.2.2.2.2.2.1
theorem zo_B9 (h : zO b e D A X) : (∀ s, X s → ∃ q, e 9 = .ref q ∧ va_T .byte q 146 (fun j => rx_v (zV b e D A X) (rx_nth zbs9 j 7)) (fun q => b ≤ q) s s.heap) := h.2.2.2.2.2.2.2.2.2.2.2.2.2.1
theorem zo_R10 (h : zO b e D A X) : (∀ s, X s → ∃ q, e 10 = .ref q ∧ vk_R RX13 526 "code" q s) := h.2.2.2.2.2.2.2.2.2.2.2.2.2.2.1
theorem zo_V10 (h : zO b e D A X) : (∀ s, X s → ∃ q, e 10 = .ref q ∧ va_OF "java/lang/String" "value" "[B" (rx_v (zV b e D A X) 92) q (fun q => b ≤ q) s s.heap) := h.2.2.2.2.2.2.2.2.2.2.2.2.2.2.2.1
theorem zo_C10 (h : zO b e D A X) : (∀ s, X s → ∃ q, e 10 = .ref q ∧ va_OF "java/lang/String" "coder" "B" (rx_v (zV b e D A X) 0) q (fun q => b ≤ q) s s.heap) := h.2.2.2.2.2.2.2.2.2.2.2.2.2.2.2.2.1
theorem zo_O10 (h : zO b e D A X) : (∀ s, X s → ∃ q, e 10 = .ref q ∧ va_O "java/lang/String" q (fun q => b ≤ q) s s.heap) := h.2.2.2.2.2.2.2.2.2.2.2.2.2.2.2.2.2.1
theorem zo_B11 (h : zO b e D A X) : (∀ s, X s → ∃ q, e 11 = .ref q ∧ va_T .byte q 4 (fun j => rx_v (zV b e D A X) (rx_nth zbs11 j 7)) (fun q => b ≤ q) s s.heap) := h.2.2.2.2.2.2.2.2.2.2.2.2.2.2.2.2.2.2
end ZW
