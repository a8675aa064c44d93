set_option maxRecDepth 100000 in
set_option maxHeartbeats 4000000 in
theorem sg_X2_begin_0 {G : zG} {d : Nat} {h : zMem} {Q : zMem → Prop} {t : Nat} {x1 : Int32} (hS : zSh1 h t)  (B : Q (zsL h 99 0 x1.toInt64)) : zg G mX2_begin d 0 [.ref 99, .int x1] [] h (zPV Q) := by
  refine z_aload_n 0 rfl rfl ?_
  refine z_iload_n 1 rfl rfl ?_
  refine z_i2l 2 rfl ?_
  refine z_putL 3 rfl lX2_7 ⟨_, _, _, rfl, rfl⟩ rfl (hS.1.o 99 2 rfl rfl rfl) ?_
  exact z_vret 4 rfl rfl ⟨rfl, rfl⟩ ⟨rfl, B⟩
theorem cn_X2_begin {G : zG} {d : Nat} {h : zMem} {Q : zMem → Prop} {x1 : Int32} (B : zg G mX2_begin d 0 [.ref 99, .int x1] [] h (zPV Q)) : zConV G mX2_begin d [.ref 99, .int x1] h Q := zcon0 (by decide +kernel) eX2_begin (Nat.le_of_ble_eq_true rfl) rfl B
set_option maxRecDepth 100000 in
set_option maxHeartbeats 4000000 in
theorem sg_X2_draw_0 {G : zG} {d : Nat} {h : zMem} {Q : Int32 → zMem → Prop} {t : Nat}  (hS : zSh1 h t)  (B : Q (((zL (zsL h 99 0 ((((zL h 99 0) * (1103515245 : Int64)) + (12345 : Int64)) &&& (2147483647 : Int64))) 99 0) / (65536 : Int64)).toInt32) (zsL h 99 0 ((((zL h 99 0) * (1103515245 : Int64)) + (12345 : Int64)) &&& (2147483647 : Int64)))) : zg G mX2_draw d 0 [.ref 99] [] h (zPI Q) := by
  refine z_aload_n 0 rfl rfl ?_
  refine z_aload_n 1 rfl rfl ?_
  refine z_getL 2 rfl lX2_7 rfl (hS.1.o 99 2 rfl rfl rfl) ?_
  refine z_ldc2 3 rfl kX2_13 ?_
  refine z_lmul 4 rfl ?_
  refine z_ldc2 5 rfl kX2_15 ?_
  refine z_ladd 6 rfl ?_
  refine z_ldc2 7 rfl kX2_17 ?_
  refine z_land 8 rfl ?_
  refine z_putL 9 rfl lX2_7 ⟨_, _, _, rfl, rfl⟩ rfl (hS.1.o 99 2 rfl rfl rfl) ?_
  refine z_aload_n 10 rfl rfl ?_
  refine z_getL 11 rfl lX2_7 rfl (hS.1.o 99 2 rfl rfl rfl) ?_
  refine z_ldc2 12 rfl kX2_19 ?_
  refine z_ldiv 13 rfl (by decide) ?_
  refine z_l2i 14 rfl ?_
  exact z_iret 15 rfl rfl rfl ⟨rfl, rfl⟩ ⟨_, rfl, B⟩
theorem cn_X2_draw {G : zG} {d : Nat} {h : zMem} {Q : Int32 → zMem → Prop}  (B : zg G mX2_draw d 0 [.ref 99] [] h (zPI Q)) : zConI G mX2_draw d [.ref 99] h Q := zcon0 (by decide +kernel) eX2_draw (Nat.le_of_ble_eq_true rfl) rfl B
