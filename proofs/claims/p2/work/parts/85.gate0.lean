theorem zrunX_12 : zJ bX12_init_181 o_none 1000000 0 [2, 88] [] (10753, 386469, [], zH12) = some (7, (16081, 543609, [], zB)) := zq_run_ok (by decide +kernel)
noncomputable def zgX_12 : rx_K := zgate [2, 88] 10753 386469 zH12 (7, (16081, 543609, [], zB))
theorem zgX_12_ok {b : Nat} {e : Nat → Value} {D : va_G} {A : Nat → ClassId} {X : State → Prop} (hZ : zO b e D A X) : rx_OK (zV b e D A X) mX12_init 5 181 zgX_12 := zgate_ok zrunX_12 (zJ_ok s_none (fun j hj => kX12_init_181 hZ j hj) 1000000 0 181 rfl)
