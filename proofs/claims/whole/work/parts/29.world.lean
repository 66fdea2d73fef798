def zC : List vw_C := [(RX0, TX0, 17), (RX1, TX1, 18), (RX2, TX2, 10), (RX3, TX3, 8), (RX4, TX4, 5), (RX5, TX5, 20), (RX6, TX6, 20), (RX7, TX7, 19), (RX8, TX8, 12), (RX9, TX9, 15), (RX10, TX10, 21), (RX11, TX11, 20), (RX12, TX12, 21), (RX13, TX13, 180)]
def zT : List FieldType := [.int, .long, .byte, .boolean, .object "LinkHouse$Row", .object "LinkHouse$Member", .object "LinkHouse$Build", .object "LinkHouse$Node", .array .int]
def zV (b : Nat) (e : Nat → Value) (D : va_G) (A : Nat → ClassId) (X : State → Prop) : rx_V := (b, e, D, zC, A, zT, X, lw_tbl)
section ZW
variable {b : Nat} {e : Nat → Value} {D : va_G} {A : Nat → ClassId} {X : State → Prop}
theorem zin0 : ∀ w ∈ u_ws RX0 TX0 17, w ∈ lw_tbl := z_in [(2, 31), (2, 33), (2, 35), (2, 37), (2, 39), (2, 41), (2, 43), (2, 45), (2, 47), (2, 49), (2, 51), (2, 53), (2, 55), (2, 57), (2, 59), (2, 61), (2, 63)] rfl
theorem zcl0 : rx_Cl (zV b e D A X) 0 RX0 TX0 17 tyX0 := ⟨rfl, zin0, tyX0_ok, nmX0⟩
def zfs0 : List (List Nat) := [[3, 3, 3, 0, 0, 3, 0, 3, 0, 3, 3, 0, 0, 3, 0, 3], [0]]
theorem zfk0 : ∀ k, k < 17 → rx_dfok (tyX0 k) = true ∧ rx_fg zfs0 k = rx_df (tyX0 k) := by decide +kernel
theorem zin1 : ∀ w ∈ u_ws RX1 TX1 18, w ∈ lw_tbl := z_in [(4, 49), (4, 51), (4, 53), (4, 55), (4, 57), (4, 59), (4, 61), (4, 63), (4, 65), (4, 67), (4, 69), (4, 71), (4, 73), (4, 75), (4, 77), (4, 79), (4, 81), (4, 83)] rfl
theorem zcl1 : rx_Cl (zV b e D A X) 1 RX1 TX1 18 tyX1 := ⟨rfl, zin1, tyX1_ok, nmX1⟩
def zfs1 : List (List Nat) := [[0, 0, 3, 0, 3, 0, 3, 0, 3, 3, 3, 3, 3, 3, 3, 0], [3, 0]]
theorem zfk1 : ∀ k, k < 18 → rx_dfok (tyX1 k) = true ∧ rx_fg zfs1 k = rx_df (tyX1 k) := by decide +kernel
theorem zin2 : ∀ w ∈ u_ws RX2 TX2 10, w ∈ lw_tbl := z_in [(5, 76), (5, 78), (5, 80), (5, 82), (5, 84), (5, 86), (5, 88), (5, 90), (5, 92), (5, 94)] rfl
theorem zcl2 : rx_Cl (zV b e D A X) 2 RX2 TX2 10 tyX2 := ⟨rfl, zin2, tyX2_ok, nmX2⟩
def zfs2 : List (List Nat) := [[3, 3, 0, 3, 0, 0, 0, 0, 3, 3]]
theorem zfk2 : ∀ k, k < 10 → rx_dfok (tyX2 k) = true ∧ rx_fg zfs2 k = rx_df (tyX2 k) := by decide +kernel
theorem zin3 : ∀ w ∈ u_ws RX3 TX3 8, w ∈ lw_tbl := z_in [(2, 80), (2, 82), (2, 84), (2, 86), (2, 88), (2, 90), (2, 92), (2, 94)] rfl
theorem zcl3 : rx_Cl (zV b e D A X) 3 RX3 TX3 8 tyX3 := ⟨rfl, zin3, tyX3_ok, nmX3⟩
def zfs3 : List (List Nat) := [[3, 3, 3, 3, 0, 3, 0, 0]]
theorem zfk3 : ∀ k, k < 8 → rx_dfok (tyX3 k) = true ∧ rx_fg zfs3 k = rx_df (tyX3 k) := by decide +kernel
theorem zin4 : ∀ w ∈ u_ws RX4 TX4 5, w ∈ lw_tbl := z_in [(1, 233), (1, 235), (1, 237), (1, 239), (2, 1)] rfl
theorem zcl4 : rx_Cl (zV b e D A X) 4 RX4 TX4 5 tyX4 := ⟨rfl, zin4, tyX4_ok, nmX4⟩
def zfs4 : List (List Nat) := [[3, 3, 3, 0, 0]]
theorem zfk4 : ∀ k, k < 5 → rx_dfok (tyX4 k) = true ∧ rx_fg zfs4 k = rx_df (tyX4 k) := by decide +kernel
theorem zin5 : ∀ w ∈ u_ws RX5 TX5 20, w ∈ lw_tbl := z_in [(5, 16), (5, 18), (5, 20), (5, 22), (5, 24), (5, 26), (5, 28), (5, 30), (5, 32), (5, 34), (5, 36), (5, 38), (5, 40), (5, 42), (5, 44), (5, 46), (5, 48), (5, 50), (5, 52), (5, 54)] rfl
theorem zcl5 : rx_Cl (zV b e D A X) 5 RX5 TX5 20 tyX5 := ⟨rfl, zin5, tyX5_ok, nmX5⟩
def zfs5 : List (List Nat) := [[3, 3, 3, 3, 0, 3, 0, 3, 3, 3, 3, 3, 0, 1, 0, 3], [0, 3, 3, 3]]
theorem zfk5 : ∀ k, k < 20 → rx_dfok (tyX5 k) = true ∧ rx_fg zfs5 k = rx_df (tyX5 k) := by decide +kernel
theorem zin6 : ∀ w ∈ u_ws RX6 TX6 20, w ∈ lw_tbl := z_in [(5, 140), (5, 142), (5, 144), (5, 146), (5, 148), (5, 150), (5, 152), (5, 154), (5, 156), (5, 158), (5, 160), (5, 162), (5, 164), (5, 166), (5, 168), (5, 170), (5, 172), (5, 174), (5, 176), (5, 178)] rfl
theorem zcl6 : rx_Cl (zV b e D A X) 6 RX6 TX6 20 tyX6 := ⟨rfl, zin6, tyX6_ok, nmX6⟩
def zfs6 : List (List Nat) := [[3, 3, 3, 0, 3, 0, 3, 0, 3, 3, 0, 3, 0, 3, 0, 3], [0, 0, 0, 0]]
theorem zfk6 : ∀ k, k < 20 → rx_dfok (tyX6 k) = true ∧ rx_fg zfs6 k = rx_df (tyX6 k) := by decide +kernel
theorem zin7 : ∀ w ∈ u_ws RX7 TX7 19, w ∈ lw_tbl := z_in [(3, 186), (3, 188), (3, 190), (3, 192), (3, 194), (3, 196), (3, 198), (3, 200), (3, 202), (3, 204), (3, 206), (3, 208), (3, 210), (3, 212), (3, 214), (3, 216), (3, 218), (3, 220), (3, 222)] rfl
theorem zcl7 : rx_Cl (zV b e D A X) 7 RX7 TX7 19 tyX7 := ⟨rfl, zin7, tyX7_ok, nmX7⟩
def zfs7 : List (List Nat) := [[0, 0, 0, 0, 0, 0, 0, 1, 1, 0, 3, 0, 0, 0, 3, 0], [0, 0, 0]]
theorem zfk7 : ∀ k, k < 19 → rx_dfok (tyX7 k) = true ∧ rx_fg zfs7 k = rx_df (tyX7 k) := by decide +kernel
theorem zin8 : ∀ w ∈ u_ws RX8 TX8 12, w ∈ lw_tbl := z_in [(1, 89), (1, 91), (1, 93), (1, 95), (1, 97), (1, 99), (1, 101), (1, 103), (1, 105), (1, 107), (1, 109), (1, 111)] rfl
theorem zcl8 : rx_Cl (zV b e D A X) 8 RX8 TX8 12 tyX8 := ⟨rfl, zin8, tyX8_ok, nmX8⟩
def zfs8 : List (List Nat) := [[0, 0, 0, 0, 0, 3, 3, 3, 3, 1, 1, 3]]
theorem zfk8 : ∀ k, k < 12 → rx_dfok (tyX8 k) = true ∧ rx_fg zfs8 k = rx_df (tyX8 k) := by decide +kernel
theorem zin9 : ∀ w ∈ u_ws RX9 TX9 15, w ∈ lw_tbl := z_in [(1, 189), (1, 191), (1, 193), (1, 195), (1, 197), (1, 199), (1, 201), (1, 203), (1, 205), (1, 207), (1, 209), (1, 211), (1, 213), (1, 215), (1, 217)] rfl
theorem zcl9 : rx_Cl (zV b e D A X) 9 RX9 TX9 15 tyX9 := ⟨rfl, zin9, tyX9_ok, nmX9⟩
def zfs9 : List (List Nat) := [[3, 3, 3, 3, 3, 0, 3, 0, 0, 0, 0, 3, 0, 3, 0]]
theorem zfk9 : ∀ k, k < 15 → rx_dfok (tyX9 k) = true ∧ rx_fg zfs9 k = rx_df (tyX9 k) := by decide +kernel
theorem zin10 : ∀ w ∈ u_ws RX10 TX10 21, w ∈ lw_tbl := z_in [(3, 7), (3, 9), (3, 11), (3, 13), (3, 15), (3, 17), (3, 19), (3, 21), (3, 23), (3, 25), (3, 27), (3, 29), (3, 31), (3, 33), (3, 35), (3, 37), (3, 39), (3, 41), (3, 43), (3, 45), (3, 47)] rfl
theorem zcl10 : rx_Cl (zV b e D A X) 10 RX10 TX10 21 tyX10 := ⟨rfl, zin10, tyX10_ok, nmX10⟩
def zfs10 : List (List Nat) := [[3, 1, 0, 0, 0, 0, 0, 0, 1, 1, 3, 3, 3, 0, 3, 0], [0, 0, 3, 0, 0]]
theorem zfk10 : ∀ k, k < 21 → rx_dfok (tyX10 k) = true ∧ rx_fg zfs10 k = rx_df (tyX10 k) := by decide +kernel
theorem zin11 : ∀ w ∈ u_ws RX11 TX11 20, w ∈ lw_tbl := z_in [(4, 176), (4, 178), (4, 180), (4, 182), (4, 184), (4, 186), (4, 188), (4, 190), (4, 192), (4, 194), (4, 196), (4, 198), (4, 200), (4, 202), (4, 204), (4, 206), (4, 208), (4, 210), (4, 212), (4, 214)] rfl
theorem zcl11 : rx_Cl (zV b e D A X) 11 RX11 TX11 20 tyX11 := ⟨rfl, zin11, tyX11_ok, nmX11⟩
def zfs11 : List (List Nat) := [[3, 3, 0, 3, 3, 3, 3, 3, 3, 3, 3, 3, 3, 3, 3, 0], [3, 3, 0, 0]]
theorem zfk11 : ∀ k, k < 20 → rx_dfok (tyX11 k) = true ∧ rx_fg zfs11 k = rx_df (tyX11 k) := by decide +kernel
theorem zin12 : ∀ w ∈ u_ws RX12 TX12 21, w ∈ lw_tbl := z_in [(6, 18), (6, 20), (6, 22), (6, 24), (6, 26), (6, 28), (6, 30), (6, 32), (6, 34), (6, 36), (6, 38), (6, 40), (6, 42), (6, 44), (6, 46), (6, 48), (6, 50), (6, 52), (6, 54), (6, 56), (6, 58)] rfl
theorem zcl12 : rx_Cl (zV b e D A X) 12 RX12 TX12 21 tyX12 := ⟨rfl, zin12, tyX12_ok, nmX12⟩
def zfs12 : List (List Nat) := [[3, 0, 3, 0, 3, 3, 3, 3, 3, 3, 3, 3, 0, 3, 3, 3], [3, 3, 0, 3, 3]]
theorem zfk12 : ∀ k, k < 21 → rx_dfok (tyX12 k) = true ∧ rx_fg zfs12 k = rx_df (tyX12 k) := by decide +kernel
set_option maxRecDepth 20000 in
theorem zin13 : ∀ w ∈ u_ws RX13 TX13 180, w ∈ lw_tbl := z_in [(17, 54), (17, 56), (17, 58), (17, 60), (17, 62), (17, 64), (17, 66), (17, 68), (17, 70), (17, 72), (17, 74), (17, 76), (17, 78), (17, 80), (17, 82), (17, 84), (17, 86), (17, 88), (17, 90), (17, 92), (17, 94), (17, 96), (17, 98), (17, 100), (17, 102), (17, 104), (17, 106), (17, 108), (17, 110), (17, 112), (17, 114), (17, 116), (17, 118), (17, 120), (17, 122), (17, 124), (17, 126), (17, 128), (17, 130), (17, 132), (17, 134), (17, 136), (17, 138), (17, 140), (17, 142), (17, 144), (17, 146), (17, 148), (17, 150), (17, 152), (17, 154), (17, 156), (17, 158), (17, 160), (17, 162), (17, 164), (17, 166), (17, 168), (17, 170), (17, 172), (17, 174), (17, 176), (17, 178), (17, 180), (17, 182), (17, 184), (17, 186), (17, 188), (17, 190), (17, 192), (17, 194), (17, 196), (17, 198), (17, 200), (17, 202), (17, 204), (17, 206), (17, 208), (17, 210), (17, 212), (17, 214), (17, 216), (17, 218), (17, 220), (17, 222), (17, 224), (17, 226), (17, 228), (17, 230), (17, 232), (17, 234), (17, 236), (17, 238), (18, 0), (18, 2), (18, 4), (18, 6), (18, 8), (18, 10), (18, 12), (18, 14), (18, 16), (18, 18), (18, 20), (18, 22), (18, 24), (18, 26), (18, 28), (18, 30), (18, 32), (18, 34), (18, 36), (18, 38), (18, 40), (18, 42), (18, 44), (18, 46), (18, 48), (18, 50), (18, 52), (18, 54), (18, 56), (18, 58), (18, 60), (18, 62), (18, 64), (18, 66), (18, 68), (18, 70), (18, 72), (18, 74), (18, 76), (18, 78), (18, 80), (18, 82), (18, 84), (18, 86), (18, 88), (18, 90), (18, 92), (18, 94), (18, 96), (18, 98), (18, 100), (18, 102), (18, 104), (18, 106), (18, 108), (18, 110), (18, 112), (18, 114), (18, 116), (18, 118), (18, 120), (18, 122), (18, 124), (18, 126), (18, 128), (18, 130), (18, 132), (18, 134), (18, 136), (18, 138), (18, 140), (18, 142), (18, 144), (18, 146), (18, 148), (18, 150), (18, 152), (18, 154), (18, 156), (18, 158), (18, 160), (18, 162), (18, 164), (18, 166), (18, 168), (18, 170), (18, 172)] rfl
theorem zcl13 : rx_Cl (zV b e D A X) 13 RX13 TX13 180 tyX13 := ⟨rfl, zin13, tyX13_ok, nmX13⟩
def zfs13 : List (List Nat) := [[3, 0, 3, 0, 3, 3, 3, 3, 3, 3, 0, 3, 3, 3, 3, 3], [3, 3, 0, 0, 0, 0, 0, 3, 3, 3, 3, 3, 3, 3, 3, 3], [3, 3, 3, 3, 3, 3, 3, 3, 3, 3, 3, 3, 3, 3, 3, 3], [3, 3, 3, 3, 3, 3, 3, 3, 3, 3, 3, 3, 3, 3, 3, 3], [3, 3, 3, 3, 3, 3, 3, 3, 3, 3, 3, 3, 3, 3, 3, 3], [3, 3, 3, 3, 3, 3, 3, 3, 3, 0, 3, 0, 0, 3, 3, 0], [3, 3, 0, 3, 3, 0, 0, 3, 0, 3, 3, 3, 0, 0, 0, 0], [3, 3, 0, 3, 0, 3, 3, 3, 3, 3, 3, 3, 3, 3, 3, 3], [0, 0, 3, 3, 3, 3, 0, 3, 0, 0, 3, 0, 0, 3, 0, 3], [3, 0, 3, 3, 3, 3, 3, 0, 3, 0, 3, 0, 3, 3, 3, 3], [3, 0, 0, 0, 0, 0, 0, 0, 3, 0, 3, 0, 3, 0, 3, 0], [3, 3, 3, 3]]
theorem zfk13 : ∀ k, k < 180 → rx_dfok (tyX13 k) = true ∧ rx_fg zfs13 k = rx_df (tyX13 k) := by decide +kernel
theorem zaa10 : ∀ ci ∈ [10], ∃ r, (eC (zV b e D A X))[ci]? = some r ∧ (r.1 = "LinkHouse$Row" ∨ Cond.castable r.1 "LinkHouse$Row" ∈ eW (zV b e D A X)) := by
  intro ci h
  rw [List.mem_singleton.mp h]
  exact ⟨_, rfl, Or.inl rfl⟩
theorem zaa7 : ∀ ci ∈ [7], ∃ r, (eC (zV b e D A X))[ci]? = some r ∧ (r.1 = "LinkHouse$Member" ∨ Cond.castable r.1 "LinkHouse$Member" ∈ eW (zV b e D A X)) := by
  intro ci h
  rw [List.mem_singleton.mp h]
  exact ⟨_, rfl, Or.inl rfl⟩
theorem zaa1 : ∀ ci ∈ [1], ∃ r, (eC (zV b e D A X))[ci]? = some r ∧ (r.1 = "LinkHouse$Build" ∨ Cond.castable r.1 "LinkHouse$Build" ∈ eW (zV b e D A X)) := by
  intro ci h
  rw [List.mem_singleton.mp h]
  exact ⟨_, rfl, Or.inl rfl⟩
theorem zaa8 : ∀ ci ∈ [8], ∃ r, (eC (zV b e D A X))[ci]? = some r ∧ (r.1 = "LinkHouse$Node" ∨ Cond.castable r.1 "LinkHouse$Node" ∈ eW (zV b e D A X)) := by
  intro ci h
  rw [List.mem_singleton.mp h]
  exact ⟨_, rfl, Or.inl rfl⟩
def zbs7 : List Nat := [792, 864, 776, 920, 920, 256, 816, 776, 792, 808, 256, 776, 920, 256, 840, 920, 256, 840, 880, 256, 952, 840, 928, 832, 256, 888, 880, 864, 968, 256, 888, 896, 808, 880, 256, 856, 840, 880, 256, 888, 952, 880, 256, 816, 840, 880, 776, 864, 256, 784, 776, 912, 808, 256, 920, 928, 776, 928, 840, 792, 256, 920, 928, 776, 912, 928, 256, 944, 888, 840, 800, 256, 880, 808, 952, 256, 840, 880, 928, 256, 864, 808, 928, 256, 840, 816, 256, 808, 864, 920, 808, 256, 952, 832, 840, 864, 808, 256, 912, 808, 928, 936, 912, 880, 256, 928, 832, 912, 888, 952, 256, 928, 912, 968, 256, 792, 776, 928, 792, 832, 256, 888, 936, 928, 256, 880, 936, 864, 864, 256, 928, 832, 840, 920, 256, 920, 936, 896, 808, 912, 256, 776, 920, 856, 256]
def zbs9 : List Nat := [256, 792, 864, 776, 920, 920, 256, 816, 776, 792, 808, 256, 840, 920, 256, 776, 920, 256, 840, 880, 256, 952, 840, 928, 832, 256, 888, 880, 864, 968, 256, 888, 896, 808, 880, 256, 856, 840, 880, 256, 888, 952, 880, 256, 816, 840, 880, 776, 864, 256, 784, 776, 912, 808, 256, 920, 928, 776, 928, 840, 792, 256, 920, 928, 776, 912, 928, 256, 944, 888, 840, 800, 256, 880, 808, 952, 256, 840, 880, 928, 256, 864, 808, 928, 256, 840, 816, 256, 808, 864, 920, 808, 256, 952, 832, 840, 864, 808, 256, 912, 808, 928, 936, 912, 880, 256, 928, 832, 912, 888, 952, 256, 928, 912, 968, 256, 792, 776, 928, 792, 832, 256, 888, 936, 928, 256, 880, 936, 864, 864, 256, 928, 832, 840, 920, 256, 920, 936, 896, 808, 912, 256, 776, 920, 856, 256]
def zbs11 : List Nat := [792, 888, 800, 808]
def zO (b : Nat) (e : Nat → Value) (D : va_G) (A : Nat → ClassId) (X : State → Prop) : Prop :=
  rx_Ok (zV b e D A X) ∧
  (∀ s, X s → va_Z "java/lang/String" "COMPACT_STRINGS" "Z" (rx_v (zV b e D A X) 8) (fun q => b ≤ q) s s.heap) ∧
  (∀ s, X s → va_Z "jdk/internal/util/Preconditions" "SIOOBE_FORMATTER" "Ljava/util/function/BiFunction;" (rx_v (zV b e D A X) 44) (fun q => b ≤ q) s s.heap) ∧
  (∀ s, X s → ∀ args, (Cond.arrayOver (.array .int)).before args s = true) ∧
  (∀ s, X s → ∃ q, e 6 = .ref q ∧ vk_R RX9 35 "class face as is in with only open kin own final bare static start void new int let if else while return throw try catch out null this super ask " q s) ∧
  (∀ s, X s → ∃ q, e 6 = .ref q ∧ va_OF "java/lang/String" "value" "[B" (rx_v (zV b e D A X) 60) q (fun q => b ≤ q) s s.heap) ∧
  (∀ s, X s → ∃ q, e 6 = .ref q ∧ va_OF "java/lang/String" "coder" "B" (rx_v (zV b e D A X) 0) q (fun q => b ≤ q) s s.heap) ∧
  (∀ s, X s → ∃ q, e 6 = .ref q ∧ va_O "java/lang/String" q (fun q => b ≤ q) s s.heap) ∧
  (∀ s, X s → ∃ q, e 7 = .ref q ∧ va_T .byte q 145 (fun j => rx_v (zV b e D A X) (rx_nth zbs7 j 7)) (fun q => b ≤ q) s s.heap) ∧
  (∀ s, X s → ∃ q, e 8 = .ref q ∧ vk_R RX13 69 " class face is as in with only open kin own final bare static start void new int let if else while return throw try catch out null this super ask " q s) ∧
  (∀ s, X s → ∃ q, e 8 = .ref q ∧ va_OF "java/lang/String" "value" "[B" (rx_v (zV b e D A X) 76) q (fun q => b ≤ q) s s.heap) ∧
  (∀ s, X s → ∃ q, e 8 = .ref q ∧ va_OF "java/lang/String" "coder" "B" (rx_v (zV b e D A X) 0) q (fun q => b ≤ q) s s.heap) ∧
  (∀ s, X s → ∃ q, e 8 = .ref q ∧ va_O "java/lang/String" q (fun q => b ≤ q) s s.heap) ∧
  (∀ s, X s → ∃ q, e 9 = .ref q ∧ va_T .byte q 146 (fun j => rx_v (zV b e D A X) (rx_nth zbs9 j 7)) (fun q => b ≤ q) s s.heap) ∧
  (∀ s, X s → ∃ q, e 10 = .ref q ∧ vk_R RX13 526 "code" q s) ∧
  (∀ s, X s → ∃ q, e 10 = .ref q ∧ va_OF "java/lang/String" "value" "[B" (rx_v (zV b e D A X) 92) q (fun q => b ≤ q) s s.heap) ∧
  (∀ s, X s → ∃ q, e 10 = .ref q ∧ va_OF "java/lang/String" "coder" "B" (rx_v (zV b e D A X) 0) q (fun q => b ≤ q) s s.heap) ∧
  (∀ s, X s → ∃ q, e 10 = .ref q ∧ va_O "java/lang/String" q (fun q => b ≤ q) s s.heap) ∧
  (∀ s, X s → ∃ q, e 11 = .ref q ∧ va_T .byte q 4 (fun j => rx_v (zV b e D A X) (rx_nth zbs11 j 7)) (fun q => b ≤ q) s s.heap)
theorem zo_K (h : zO b e D A X) : (∀ s, X s → va_Z "java/lang/String" "COMPACT_STRINGS" "Z" (rx_v (zV b e D A X) 8) (fun q => b ≤ q) s s.heap) := h.2.1
theorem zo_F (h : zO b e D A X) : (∀ s, X s → va_Z "jdk/internal/util/Preconditions" "SIOOBE_FORMATTER" "Ljava/util/function/BiFunction;" (rx_v (zV b e D A X) 44) (fun q => b ≤ q) s s.heap) := h.2.2.1
theorem zo_A (h : zO b e D A X) : (∀ s, X s → ∀ args, (Cond.arrayOver (.array .int)).before args s = true) := h.2.2.2.1
theorem zo_R6 (h : zO b e D A X) : (∀ s, X s → ∃ q, e 6 = .ref q ∧ vk_R RX9 35 "class face as is in with only open kin own final bare static start void new int let if else while return throw try catch out null this super ask " q s) := h.2.2.2.2.1
theorem zo_V6 (h : zO b e D A X) : (∀ s, X s → ∃ q, e 6 = .ref q ∧ va_OF "java/lang/String" "value" "[B" (rx_v (zV b e D A X) 60) q (fun q => b ≤ q) s s.heap) := h.2.2.2.2.2.1
theorem zo_C6 (h : zO b e D A X) : (∀ s, X s → ∃ q, e 6 = .ref q ∧ va_OF "java/lang/String" "coder" "B" (rx_v (zV b e D A X) 0) q (fun q => b ≤ q) s s.heap) := h.2.2.2.2.2.2.1
theorem zo_O6 (h : zO b e D A X) : (∀ s, X s → ∃ q, e 6 = .ref q ∧ va_O "java/lang/String" q (fun q => b ≤ q) s s.heap) := h.2.2.2.2.2.2.2.1
theorem zo_B7 (h : zO b e D A X) : (∀ s, X s → ∃ q, e 7 = .ref q ∧ va_T .byte q 145 (fun j => rx_v (zV b e D A X) (rx_nth zbs7 j 7)) (fun q => b ≤ q) s s.heap) := h.2.2.2.2.2.2.2.2.1
theorem zo_R8 (h : zO b e D A X) : (∀ s, X s → ∃ q, e 8 = .ref q ∧ vk_R RX13 69 " class face is as in with only open kin own final bare static start void new int let if else while return throw try catch out null this super ask " q s) := h.2.2.2.2.2.2.2.2.2.1
theorem zo_V8 (h : zO b e D A X) : (∀ s, X s → ∃ q, e 8 = .ref q ∧ va_OF "java/lang/String" "value" "[B" (rx_v (zV b e D A X) 76) q (fun q => b ≤ q) s s.heap) := h.2.2.2.2.2.2.2.2.2.2.1
theorem zo_C8 (h : zO b e D A X) : (∀ s, X s → ∃ q, e 8 = .ref q ∧ va_OF "java/lang/String" "coder" "B" (rx_v (zV b e D A X) 0) q (fun q => b ≤ q) s s.heap) := h.2.2.2.2.2.2.2.2.2.2.2.1
theorem zo_O8 (h : zO b e D A X) : (∀ s, X s → ∃ q, e 8 = .ref q ∧ va_O "java/lang/String" q (fun q => b ≤ q) s s.heap) := h.2.2.2.2.2.2.2.2.2.2.2.2.1
theorem zo_B9 (h : zO b e D A X) : (∀ s, X s → ∃ q, e 9 = .ref q ∧ va_T .byte q 146 (fun j => rx_v (zV b e D A X) (rx_nth zbs9 j 7)) (fun q => b ≤ q) s s.heap) := h.2.2.2.2.2.2.2.2.2.2.2.2.2.1
theorem zo_R10 (h : zO b e D A X) : (∀ s, X s → ∃ q, e 10 = .ref q ∧ vk_R RX13 526 "code" q s) := h.2.2.2.2.2.2.2.2.2.2.2.2.2.2.1
theorem zo_V10 (h : zO b e D A X) : (∀ s, X s → ∃ q, e 10 = .ref q ∧ va_OF "java/lang/String" "value" "[B" (rx_v (zV b e D A X) 92) q (fun q => b ≤ q) s s.heap) := h.2.2.2.2.2.2.2.2.2.2.2.2.2.2.2.1
theorem zo_C10 (h : zO b e D A X) : (∀ s, X s → ∃ q, e 10 = .ref q ∧ va_OF "java/lang/String" "coder" "B" (rx_v (zV b e D A X) 0) q (fun q => b ≤ q) s s.heap) := h.2.2.2.2.2.2.2.2.2.2.2.2.2.2.2.2.1
theorem zo_O10 (h : zO b e D A X) : (∀ s, X s → ∃ q, e 10 = .ref q ∧ va_O "java/lang/String" q (fun q => b ≤ q) s s.heap) := h.2.2.2.2.2.2.2.2.2.2.2.2.2.2.2.2.2.1
theorem zo_B11 (h : zO b e D A X) : (∀ s, X s → ∃ q, e 11 = .ref q ∧ va_T .byte q 4 (fun j => rx_v (zV b e D A X) (rx_nth zbs11 j 7)) (fun q => b ≤ q) s s.heap) := h.2.2.2.2.2.2.2.2.2.2.2.2.2.2.2.2.2.2
def zS (b : Nat) (e : Nat → Value) (D : va_G) (A : Nat → ClassId) (X : State → Prop) (sc : List Nat) (w L : Nat) : Prop := ∃ F : Nat → Value, (∀ s, X s → ∃ q, e 12 = .ref q ∧ va_T .int q L F (fun q => b ≤ q) s s.heap) ∧ L < 2147483648 ∧ (∀ j, 1 ≤ j → j < L → F j = rx_v (zV b e D A X) (rx_nth sc j 7)) ∧ (1 ≤ L → ∃ x : Int32, F 0 = .int x ∧ x &&& 63 = rx_di (8 * w))
theorem zs_T {sc : List Nat} {w L : Nat} (h : zS b e D A X sc w L) : ∀ s, X s → ∃ q, e 12 = .ref q ∧ va_T .int q L h.choose (fun q => b ≤ q) s s.heap := h.choose_spec.1
theorem zs_S {sc : List Nat} {w L : Nat} (h : zS b e D A X sc w L) : (∀ s, X s → ∃ q, e 12 = .ref q ∧ va_T .int q L h.choose (fun q => b ≤ q) s s.heap) ∧ L < 2147483648 ∧ ∀ j, 1 ≤ j → j < L → h.choose j = rx_v (zV b e D A X) (rx_nth sc j 7) := ⟨h.choose_spec.1, h.choose_spec.2.1, h.choose_spec.2.2.1⟩
theorem zs_W {sc : List Nat} {w L : Nat} (h : zS b e D A X sc w L) : (∀ s, X s → ∃ q, e 12 = .ref q ∧ va_T .int q L h.choose (fun q => b ≤ q) s s.heap) ∧ L < 2147483648 ∧ (1 ≤ L → ∃ x : Int32, h.choose 0 = .int x ∧ x &&& 63 = rx_di (8 * w)) := ⟨h.choose_spec.1, h.choose_spec.2.1, h.choose_spec.2.2.2⟩
end ZW
