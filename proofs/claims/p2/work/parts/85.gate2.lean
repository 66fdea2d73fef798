noncomputable def fX12_g0 : List Nat → rx_H → Option (Nat × rx_H) := rx_ent 2 (bX12_init_0 (zJ bX12_init_181 zgX_6 4))
theorem zrunX : fX12_g0 [2] (1, 21, [], zA) = some (7, (16081, 543609, [], zB)) := zq_run_ok (by decide +kernel)
theorem met_X12_g0 {b : Nat} {e : Nat → Value} {D : va_G} {A : Nat → ClassId} {X : State → Prop} (hZ : zO b e D A X) : rx_Met (zV b e D A X) 5 yX12_init mX12_init fX12_g0 := rx_entry hZ.1 (kX12_init_0 hZ _ (zJ_ok (zgX_6_ok hZ) (fun j hj => kX12_init_181 hZ j hj) 4)) (by decide +kernel) rfl (fun _ => rfl)
