theorem zrunX_6 : zJ bX12_init_181 zgX_12 6 0 [2, 40] [] (5425, 229329, [], zH6) = some (7, (16081, 543609, [], zB)) := zq_run_ok (by decide +kernel)
noncomputable def zgX_6 : rx_K := zgate [2, 40] 5425 229329 zH6 (7, (16081, 543609, [], zB))
theorem zgX_6_ok {b : Nat} {e : Nat → Value} {D : va_G} {A : Nat → ClassId} {X : State → Prop} (hZ : zO b e D A X) : rx_OK (zV b e D A X) mX12_init 5 181 zgX_6 := zgate_ok zrunX_6 (zJ_ok (zgX_12_ok hZ) (fun j hj => kX12_init_181 hZ j hj) 6 0 181 rfl)
