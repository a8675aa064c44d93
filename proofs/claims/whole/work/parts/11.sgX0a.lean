set_option maxRecDepth 100000 in
set_option maxHeartbeats 4000000 in
theorem sg_X0_clear_0 {G : zG} {d : Nat} {h : zMem} {Q : zMem → Prop} {t : Nat} {a0 : Nat} (hS : zSh1 h t) (hl0 : isLw a0) (B : zg G mX0_clear d 12 [.ref a0, .int (0 : Int32)] [] (zsI (zsI h a0 7 (0 : Int32)) a0 8 (0 : Int32)) (zPV Q)) : zg G mX0_clear d 0 [.ref a0, zU] [] h (zPV Q) := by
  refine z_aload_n 0 rfl rfl ?_
  refine z_iconst (v := 0) 1 rfl (by decide) ?_
  refine z_putI 2 rfl lX0_37 ⟨_, _, _, rfl, rfl⟩ rfl rfl rfl (zS_lo hS hl0 0 0 rfl rfl) ?_
  refine z_aload_n 3 rfl rfl ?_
  refine z_iconst (v := 0) 4 rfl (by decide) ?_
  refine z_putI 5 rfl lX0_41 ⟨_, _, _, rfl, rfl⟩ rfl rfl rfl (zS_lo hS hl0 0 0 rfl rfl) ?_
  refine z_iconst (v := 0) 6 rfl (by decide) ?_
  refine z_istore_n 7 rfl (by decide) rfl ?_
  exact B
theorem cn_X0_clear {G : zG} {d : Nat} {h : zMem} {Q : zMem → Prop} {a0 : Nat} (B : zg G mX0_clear d 0 [.ref a0, zU] [] h (zPV Q)) : zConV G mX0_clear d [.ref a0] h Q := zcon0 (by decide +kernel) eX0_clear (Nat.le_of_ble_eq_true rfl) rfl B
set_option maxRecDepth 100000 in
set_option maxHeartbeats 4000000 in
theorem sg_X0_clear_12 {G : zG} {d : Nat} {h : zMem} {Q : zMem → Prop} {t : Nat} {a0 : Nat} {x1 : Int32} (hS : zSh1 h t) (hl0 : isLw a0) (B : ((3 : Int32) ≤ x1 → Q h) ∧ (¬ (3 : Int32) ≤ x1 → vp_in x1 3 ∧ zg G mX0_clear d 12 [.ref a0, .int (x1 + 1)] [] (zsI h (a0 + 5) x1.toNatClampNeg (vp_nar .boolean (0 : Int32))) (zPV Q))) : zg G mX0_clear d 12 [.ref a0, .int x1] [] h (zPV Q) := by
  refine z_iload_n 8 rfl rfl ?_
  refine z_iconst (v := 3) 9 rfl (by decide) ?_
  refine z_icmp_ge 10 30 rfl (by decide) ⟨fun c1 => ?_, fun c1 => ?_⟩
  · have B := B.1 c1
    exact z_vret 18 rfl rfl ⟨rfl, rfl⟩ ⟨rfl, B⟩
  · have B := B.2 c1
    refine z_aload_n 11 rfl rfl ?_
    refine z_getR 12 rfl lX0_24 rfl (zS_lo hS hl0 0 0 rfl rfl) (zS_lr hS hl0 0 4 5 rfl rfl rfl) ?_
    refine z_iload_n 13 rfl rfl ?_
    refine z_iconst (v := 0) 14 rfl (by decide) ?_
    obtain ⟨o2, B⟩ := B
    refine z_zast 15 rfl (zS_lo hS hl0 5 103 rfl rfl) (zin (zS_ll hS hl0 5 3 rfl rfl) o2) ?_
    refine z_iinc (v := 1) 16 rfl rfl (by decide) (by decide) rfl ?_
    refine z_goto 17 12 rfl (by decide) ?_
    exact B
set_option maxRecDepth 100000 in
set_option maxHeartbeats 4000000 in
theorem sg_X0_isTold_0 {G : zG} {d : Nat} {h : zMem} {Q : Int32 → zMem → Prop} {t : Nat} {a0 : Nat} {x1 : Int32} (hS : zSh1 h t) (hl0 : isLw a0) (B : vp_in x1 3 ∧ ((zI h (a0 + 5) x1.toNatClampNeg) = 0 ∨ (zI h (a0 + 5) x1.toNatClampNeg) = 1) ∧ Q (zI h (a0 + 5) x1.toNatClampNeg) h) : zg G mX0_isTold d 0 [.ref a0, .int x1] [] h (zPI Q) := by
  refine z_aload_n 0 rfl rfl ?_
  refine z_getR 1 rfl lX0_24 rfl (zS_lo hS hl0 0 0 rfl rfl) (zS_lr hS hl0 0 4 5 rfl rfl rfl) ?_
  refine z_iload_n 2 rfl rfl ?_
  obtain ⟨o1, B⟩ := B
  refine z_zald 3 rfl (zS_lo hS hl0 5 103 rfl rfl) (zin (zS_ll hS hl0 5 3 rfl rfl) o1) ?_
  obtain ⟨ob, B⟩ := B
  exact z_iret 4 rfl rfl (zbool_n ob) ⟨rfl, rfl⟩ ⟨_, rfl, B⟩
theorem cn_X0_isTold {G : zG} {d : Nat} {h : zMem} {Q : Int32 → zMem → Prop} {a0 : Nat} {x1 : Int32} (B : zg G mX0_isTold d 0 [.ref a0, .int x1] [] h (zPI Q)) : zConI G mX0_isTold d [.ref a0, .int x1] h Q := zcon0 (by decide +kernel) eX0_isTold (Nat.le_of_ble_eq_true rfl) rfl B
set_option maxRecDepth 100000 in
set_option maxHeartbeats 4000000 in
theorem sg_X0_begin_0 {G : zG} {d : Nat} {h : zMem} {Q : zMem → Prop} {t : Nat} {a0 : Nat} {x1 : Int32} (hS : zSh1 h t) (hl0 : isLw a0) (B : vp_in x1 3 ∧ Q (zsI (zsI (zsI h (a0 + 5) x1.toNatClampNeg (vp_nar .boolean (1 : Int32))) (a0 + 3) x1.toNatClampNeg (zI (zsI h (a0 + 5) x1.toNatClampNeg (vp_nar .boolean (1 : Int32))) a0 7)) (a0 + 4) x1.toNatClampNeg (zI (zsI (zsI h (a0 + 5) x1.toNatClampNeg (vp_nar .boolean (1 : Int32))) (a0 + 3) x1.toNatClampNeg (zI (zsI h (a0 + 5) x1.toNatClampNeg (vp_nar .boolean (1 : Int32))) a0 7)) a0 7))) : zg G mX0_begin d 0 [.ref a0, .int x1] [] h (zPV Q) := by
  refine z_aload_n 0 rfl rfl ?_
  refine z_getR 1 rfl lX0_24 rfl (zS_lo hS hl0 0 0 rfl rfl) (zS_lr hS hl0 0 4 5 rfl rfl rfl) ?_
  refine z_iload_n 2 rfl rfl ?_
  refine z_iconst (v := 1) 3 rfl (by decide) ?_
  obtain ⟨o1, B⟩ := B
  refine z_zast 4 rfl (zS_lo hS hl0 5 103 rfl rfl) (zin (zS_ll hS hl0 5 3 rfl rfl) o1) ?_
  refine z_aload_n 5 rfl rfl ?_
  refine z_getR 6 rfl lX0_18 rfl (zS_lo hS hl0 0 0 rfl rfl) (zS_lr hS hl0 0 2 3 rfl rfl rfl) ?_
  refine z_iload_n 7 rfl rfl ?_
  refine z_aload_n 8 rfl rfl ?_
  refine z_getI 9 rfl lX0_37 rfl (zS_lo hS hl0 0 0 rfl rfl) ?_
  refine z_iast 10 rfl (zS_lo hS hl0 3 100 rfl rfl) (zin (zS_ll hS hl0 3 3 rfl rfl) o1) ?_
  refine z_aload_n 11 rfl rfl ?_
  refine z_getR 12 rfl lX0_21 rfl (zS_lo hS hl0 0 0 rfl rfl) (zS_lr hS hl0 0 3 4 rfl rfl rfl) ?_
  refine z_iload_n 13 rfl rfl ?_
  refine z_aload_n 14 rfl rfl ?_
  refine z_getI 15 rfl lX0_37 rfl (zS_lo hS hl0 0 0 rfl rfl) ?_
  refine z_iast 16 rfl (zS_lo hS hl0 4 100 rfl rfl) (zin (zS_ll hS hl0 4 3 rfl rfl) o1) ?_
  exact z_vret 17 rfl rfl ⟨rfl, rfl⟩ ⟨rfl, B⟩
theorem cn_X0_begin {G : zG} {d : Nat} {h : zMem} {Q : zMem → Prop} {a0 : Nat} {x1 : Int32} (B : zg G mX0_begin d 0 [.ref a0, .int x1] [] h (zPV Q)) : zConV G mX0_begin d [.ref a0, .int x1] h Q := zcon0 (by decide +kernel) eX0_begin (Nat.le_of_ble_eq_true rfl) rfl B
set_option maxRecDepth 100000 in
set_option maxHeartbeats 4000000 in
theorem sg_X0_end_0 {G : zG} {d : Nat} {h : zMem} {Q : zMem → Prop} {t : Nat} {a0 : Nat} {x1 : Int32} (hS : zSh1 h t) (hl0 : isLw a0) (B : vp_in x1 3 ∧ Q (zsI h (a0 + 4) x1.toNatClampNeg (zI h a0 7))) : zg G mX0_end d 0 [.ref a0, .int x1] [] h (zPV Q) := by
  refine z_aload_n 0 rfl rfl ?_
  refine z_getR 1 rfl lX0_21 rfl (zS_lo hS hl0 0 0 rfl rfl) (zS_lr hS hl0 0 3 4 rfl rfl rfl) ?_
  refine z_iload_n 2 rfl rfl ?_
  refine z_aload_n 3 rfl rfl ?_
  refine z_getI 4 rfl lX0_37 rfl (zS_lo hS hl0 0 0 rfl rfl) ?_
  obtain ⟨o1, B⟩ := B
  refine z_iast 5 rfl (zS_lo hS hl0 4 100 rfl rfl) (zin (zS_ll hS hl0 4 3 rfl rfl) o1) ?_
  exact z_vret 6 rfl rfl ⟨rfl, rfl⟩ ⟨rfl, B⟩
theorem cn_X0_end {G : zG} {d : Nat} {h : zMem} {Q : zMem → Prop} {a0 : Nat} {x1 : Int32} (B : zg G mX0_end d 0 [.ref a0, .int x1] [] h (zPV Q)) : zConV G mX0_end d [.ref a0, .int x1] h Q := zcon0 (by decide +kernel) eX0_end (Nat.le_of_ble_eq_true rfl) rfl B
set_option maxRecDepth 100000 in
set_option maxHeartbeats 4000000 in
theorem sg_X0_addKnot_0 {G : zG} {d : Nat} {h : zMem} {Q : Int32 → zMem → Prop} {t : Nat} {a0 : Nat} (hS : zSh1 h t) (hl0 : isLw a0) (B : ((zI h a0 8) < (64 : Int32) → Q (1 : Int32) (zsI h a0 8 ((zI h a0 8) + (1 : Int32)))) ∧ (¬ (zI h a0 8) < (64 : Int32) → Q (0 : Int32) h)) : zg G mX0_addKnot d 0 [.ref a0] [] h (zPI Q) := by
  refine z_aload_n 0 rfl rfl ?_
  refine z_getI 1 rfl lX0_41 rfl (zS_lo hS hl0 0 0 rfl rfl) ?_
  refine z_bipush (v := 64) 2 rfl (by decide) ?_
  refine z_icmp_lt 3 11 rfl (by decide) ⟨fun c1 => ?_, fun c1 => ?_⟩
  · have B := B.1 c1
    refine z_aload_n 6 rfl rfl ?_
    refine z_dup 7 rfl rfl ?_
    refine z_getI 8 rfl lX0_41 rfl (zS_lo hS hl0 0 0 rfl rfl) ?_
    refine z_iconst (v := 1) 9 rfl (by decide) ?_
    refine z_iadd 10 rfl ?_
    refine z_putI 11 rfl lX0_41 ⟨_, _, _, rfl, rfl⟩ rfl rfl rfl (zS_lo hS hl0 0 0 rfl rfl) ?_
    refine z_iconst (v := 1) 12 rfl (by decide) ?_
    exact z_iret 13 rfl rfl rfl ⟨rfl, rfl⟩ ⟨_, rfl, B⟩
  · have B := B.2 c1
    refine z_iconst (v := 0) 4 rfl (by decide) ?_
    exact z_iret 5 rfl rfl rfl ⟨rfl, rfl⟩ ⟨_, rfl, B⟩
theorem cn_X0_addKnot {G : zG} {d : Nat} {h : zMem} {Q : Int32 → zMem → Prop} {a0 : Nat} (B : zg G mX0_addKnot d 0 [.ref a0] [] h (zPI Q)) : zConI G mX0_addKnot d [.ref a0] h Q := zcon0 (by decide +kernel) eX0_addKnot (Nat.le_of_ble_eq_true rfl) rfl B
set_option maxRecDepth 100000 in
set_option maxHeartbeats 4000000 in
theorem sg_X0_append_0 {G : zG} {d : Nat} {h : zMem} {Q : zMem → Prop} {t : Nat} {a0 : Nat} {x1 : Int32} {x2 : Int32} (hS : zSh1 h t) (hl0 : isLw a0) (B : ((64 : Int32) ≤ (zI h a0 7) → Q h) ∧ (¬ (64 : Int32) ≤ (zI h a0 7) → vp_in (zI h a0 7) 64 ∧ vp_in (zI (zsI h (a0 + 1) (zI h a0 7).toNatClampNeg x1) a0 7) 64 ∧ Q (zsI (zsI (zsI h (a0 + 1) (zI h a0 7).toNatClampNeg x1) (a0 + 2) (zI (zsI h (a0 + 1) (zI h a0 7).toNatClampNeg x1) a0 7).toNatClampNeg x2) a0 7 ((zI (zsI (zsI h (a0 + 1) (zI h a0 7).toNatClampNeg x1) (a0 + 2) (zI (zsI h (a0 + 1) (zI h a0 7).toNatClampNeg x1) a0 7).toNatClampNeg x2) a0 7) + (1 : Int32))))) : zg G mX0_append d 0 [.ref a0, .int x1, .int x2] [] h (zPV Q) := by
  refine z_aload_n 0 rfl rfl ?_
  refine z_getI 1 rfl lX0_37 rfl (zS_lo hS hl0 0 0 rfl rfl) ?_
  refine z_bipush (v := 64) 2 rfl (by decide) ?_
  refine z_icmp_ge 3 39 rfl (by decide) ⟨fun c1 => ?_, fun c1 => ?_⟩
  · have B := B.1 c1
    exact z_vret 22 rfl rfl ⟨rfl, rfl⟩ ⟨rfl, B⟩
  · have B := B.2 c1
    refine z_aload_n 4 rfl rfl ?_
    refine z_getR 5 rfl lX0_9 rfl (zS_lo hS hl0 0 0 rfl rfl) (zS_lr hS hl0 0 0 1 rfl rfl rfl) ?_
    refine z_aload_n 6 rfl rfl ?_
    refine z_getI 7 rfl lX0_37 rfl (zS_lo hS hl0 0 0 rfl rfl) ?_
    refine z_iload_n 8 rfl rfl ?_
    obtain ⟨o2, B⟩ := B
    refine z_iast 9 rfl (zS_lo hS hl0 1 100 rfl rfl) (zin (zS_ll hS hl0 1 64 rfl rfl) o2) ?_
    refine z_aload_n 10 rfl rfl ?_
    refine z_getR 11 rfl lX0_15 rfl (zS_lo hS hl0 0 0 rfl rfl) (zS_lr hS hl0 0 1 2 rfl rfl rfl) ?_
    refine z_aload_n 12 rfl rfl ?_
    refine z_getI 13 rfl lX0_37 rfl (zS_lo hS hl0 0 0 rfl rfl) ?_
    refine z_iload_n 14 rfl rfl ?_
    obtain ⟨o3, B⟩ := B
    refine z_iast 15 rfl (zS_lo hS hl0 2 100 rfl rfl) (zin (zS_ll hS hl0 2 64 rfl rfl) o3) ?_
    refine z_aload_n 16 rfl rfl ?_
    refine z_dup 17 rfl rfl ?_
    refine z_getI 18 rfl lX0_37 rfl (zS_lo hS hl0 0 0 rfl rfl) ?_
    refine z_iconst (v := 1) 19 rfl (by decide) ?_
    refine z_iadd 20 rfl ?_
    refine z_putI 21 rfl lX0_37 ⟨_, _, _, rfl, rfl⟩ rfl rfl rfl (zS_lo hS hl0 0 0 rfl rfl) ?_
    exact z_vret 22 rfl rfl ⟨rfl, rfl⟩ ⟨rfl, B⟩
theorem cn_X0_append {G : zG} {d : Nat} {h : zMem} {Q : zMem → Prop} {a0 : Nat} {x1 : Int32} {x2 : Int32} (B : zg G mX0_append d 0 [.ref a0, .int x1, .int x2] [] h (zPV Q)) : zConV G mX0_append d [.ref a0, .int x1, .int x2] h Q := zcon0 (by decide +kernel) eX0_append (Nat.le_of_ble_eq_true rfl) rfl B
set_option maxRecDepth 100000 in
set_option maxHeartbeats 4000000 in
theorem sg_X0_setNames_0 {G : zG} {d : Nat} {h : zMem} {Q : zMem → Prop} {t : Nat} {a0 : Nat} {x1 : Int32} {x2 : Int32} {x3 : Int32} {x4 : Int32} {x5 : Int32} {x6 : Int32} {x7 : Int32} (hS : zSh1 h t) (hl0 : isLw a0) (B : Q (zsL (zsL (zsL (zsL (zsL (zsL (zsL h (a0 + 6) 0 x1.toInt64) (a0 + 6) 1 x2.toInt64) (a0 + 6) 2 x3.toInt64) (a0 + 6) 3 x4.toInt64) (a0 + 6) 4 x5.toInt64) (a0 + 6) 5 x6.toInt64) (a0 + 6) 6 x7.toInt64)) : zg G mX0_setNames d 0 [.ref a0, .int x1, .int x2, .int x3, .int x4, .int x5, .int x6, .int x7] [] h (zPV Q) := by
  refine z_aload_n 0 rfl rfl ?_
  refine z_getR 1 rfl lX0_30 rfl (zS_lo hS hl0 0 0 rfl rfl) (zS_lr hS hl0 0 5 6 rfl rfl rfl) ?_
  refine z_iconst (v := 0) 2 rfl (by decide) ?_
  refine z_iload_n 3 rfl rfl ?_
  refine z_i2l 4 rfl ?_
  refine z_last_c 5 0 rfl (by decide) (zS_lo hS hl0 6 101 rfl rfl) (zin (zS_ll hS hl0 6 7 rfl rfl) (zvp (by decide))) ?_
  refine z_aload_n 6 rfl rfl ?_
  refine z_getR 7 rfl lX0_30 rfl (zS_lo hS hl0 0 0 rfl rfl) (zS_lr hS hl0 0 5 6 rfl rfl rfl) ?_
  refine z_iconst (v := 1) 8 rfl (by decide) ?_
  refine z_iload_n 9 rfl rfl ?_
  refine z_i2l 10 rfl ?_
  refine z_last_c 11 1 rfl (by decide) (zS_lo hS hl0 6 101 rfl rfl) (zin (zS_ll hS hl0 6 7 rfl rfl) (zvp (by decide))) ?_
  refine z_aload_n 12 rfl rfl ?_
  refine z_getR 13 rfl lX0_30 rfl (zS_lo hS hl0 0 0 rfl rfl) (zS_lr hS hl0 0 5 6 rfl rfl rfl) ?_
  refine z_iconst (v := 2) 14 rfl (by decide) ?_
  refine z_iload_n 15 rfl rfl ?_
  refine z_i2l 16 rfl ?_
  refine z_last_c 17 2 rfl (by decide) (zS_lo hS hl0 6 101 rfl rfl) (zin (zS_ll hS hl0 6 7 rfl rfl) (zvp (by decide))) ?_
  refine z_aload_n 18 rfl rfl ?_
  refine z_getR 19 rfl lX0_30 rfl (zS_lo hS hl0 0 0 rfl rfl) (zS_lr hS hl0 0 5 6 rfl rfl rfl) ?_
  refine z_iconst (v := 3) 20 rfl (by decide) ?_
  refine z_iload 21 rfl rfl ?_
  refine z_i2l 22 rfl ?_
  refine z_last_c 23 3 rfl (by decide) (zS_lo hS hl0 6 101 rfl rfl) (zin (zS_ll hS hl0 6 7 rfl rfl) (zvp (by decide))) ?_
  refine z_aload_n 24 rfl rfl ?_
  refine z_getR 25 rfl lX0_30 rfl (zS_lo hS hl0 0 0 rfl rfl) (zS_lr hS hl0 0 5 6 rfl rfl rfl) ?_
  refine z_iconst (v := 4) 26 rfl (by decide) ?_
  refine z_iload 27 rfl rfl ?_
  refine z_i2l 28 rfl ?_
  refine z_last_c 29 4 rfl (by decide) (zS_lo hS hl0 6 101 rfl rfl) (zin (zS_ll hS hl0 6 7 rfl rfl) (zvp (by decide))) ?_
  refine z_aload_n 30 rfl rfl ?_
  refine z_getR 31 rfl lX0_30 rfl (zS_lo hS hl0 0 0 rfl rfl) (zS_lr hS hl0 0 5 6 rfl rfl rfl) ?_
  refine z_iconst (v := 5) 32 rfl (by decide) ?_
  refine z_iload 33 rfl rfl ?_
  refine z_i2l 34 rfl ?_
  refine z_last_c 35 5 rfl (by decide) (zS_lo hS hl0 6 101 rfl rfl) (zin (zS_ll hS hl0 6 7 rfl rfl) (zvp (by decide))) ?_
  refine z_aload_n 36 rfl rfl ?_
  refine z_getR 37 rfl lX0_30 rfl (zS_lo hS hl0 0 0 rfl rfl) (zS_lr hS hl0 0 5 6 rfl rfl rfl) ?_
  refine z_bipush (v := 6) 38 rfl (by decide) ?_
  refine z_iload 39 rfl rfl ?_
  refine z_i2l 40 rfl ?_
  refine z_last_c 41 6 rfl (by decide) (zS_lo hS hl0 6 101 rfl rfl) (zin (zS_ll hS hl0 6 7 rfl rfl) (zvp (by decide))) ?_
  exact z_vret 42 rfl rfl ⟨rfl, rfl⟩ ⟨rfl, B⟩
theorem cn_X0_setNames {G : zG} {d : Nat} {h : zMem} {Q : zMem → Prop} {a0 : Nat} {x1 : Int32} {x2 : Int32} {x3 : Int32} {x4 : Int32} {x5 : Int32} {x6 : Int32} {x7 : Int32} (B : zg G mX0_setNames d 0 [.ref a0, .int x1, .int x2, .int x3, .int x4, .int x5, .int x6, .int x7] [] h (zPV Q)) : zConV G mX0_setNames d [.ref a0, .int x1, .int x2, .int x3, .int x4, .int x5, .int x6, .int x7] h Q := zcon0 (by decide +kernel) eX0_setNames (Nat.le_of_ble_eq_true rfl) rfl B
set_option maxRecDepth 100000 in
set_option maxHeartbeats 4000000 in
theorem sg_X0_workOut_0 {G : zG} {d : Nat} {h : zMem} {Q : Int64 → zMem → Prop} {t : Nat} {a0 : Nat} {x1 : Int32} (hS : zSh1 h t) (hl0 : isLw a0) (B : vp_in x1 3 ∧ (¬ (zI h (a0 + 5) x1.toNatClampNeg) = 0 → zg G mX0_workOut (d + 1) 22 [.ref a0, .int x1, .int (0 : Int32), .int (zI h (a0 + 3) x1.toNatClampNeg), zU, zU, zU, zU, zU, zU, zU] [] h (zPL Q)) ∧ ((zI h (a0 + 5) x1.toNatClampNeg) = 0 → Q (-9223372036854775808 : Int64) h)) : zg G mX0_workOut (d + 1) 0 [.ref a0, .int x1, zU, zU, zU, zU, zU, zU, zU, zU, zU] [] h (zPL Q) := by
  refine z_aload_n 0 rfl rfl ?_
  refine z_getR 1 rfl lX0_24 rfl (zS_lo hS hl0 0 0 rfl rfl) (zS_lr hS hl0 0 4 5 rfl rfl rfl) ?_
  refine z_iload_n 2 rfl rfl ?_
  obtain ⟨o1, B⟩ := B
  refine z_zald 3 rfl (zS_lo hS hl0 5 103 rfl rfl) (zin (zS_ll hS hl0 5 3 rfl rfl) o1) ?_
  refine z_if_ne 4 13 rfl (by decide) ⟨fun c2 => ?_, fun c2 => ?_⟩
  · have B := B.1 c2
    refine z_iconst (v := 0) 7 rfl (by decide) ?_
    refine z_istore_n 8 rfl (by decide) rfl ?_
    refine z_aload_n 9 rfl rfl ?_
    refine z_getR 10 rfl lX0_18 rfl (zS_lo hS hl0 0 0 rfl rfl) (zS_lr hS hl0 0 2 3 rfl rfl rfl) ?_
    refine z_iload_n 11 rfl rfl ?_
    refine z_iald 12 rfl (zS_lo hS hl0 3 100 rfl rfl) (zin (zS_ll hS hl0 3 3 rfl rfl) o1) ?_
    refine z_istore_n 13 rfl (by decide) rfl ?_
    exact B
  · have B := B.2 c2
    refine z_ldc2 5 rfl kX0_44 ?_
    exact z_lret 6 rfl rfl ⟨rfl, rfl⟩ ⟨_, rfl, B⟩
theorem cn_X0_workOut {G : zG} {d : Nat} {h : zMem} {Q : Int64 → zMem → Prop} {a0 : Nat} {x1 : Int32} (B : zg G mX0_workOut (d + 1) 0 [.ref a0, .int x1, zU, zU, zU, zU, zU, zU, zU, zU, zU] [] h (zPL Q)) : zConL G mX0_workOut (d + 1) [.ref a0, .int x1] h Q := zcon0 (by decide +kernel) eX0_workOut (Nat.le_of_ble_eq_true rfl) rfl B
set_option maxRecDepth 100000 in
set_option maxHeartbeats 4000000 in
theorem sg_X0_workOut_22 {G : zG} {d : Nat} {h : zMem} {Q : Int64 → zMem → Prop} {t : Nat} {a0 : Nat} {x1 : Int32} {x2 : Int32} {x3 : Int32} (hS : zSh1 h t) (hl0 : isLw a0) (B : vp_in x1 3 ∧ ((zI h (a0 + 4) x1.toNatClampNeg) ≤ x3 → (¬ x2 = (1 : Int32) → Q (-9223372036854775808 : Int64) h) ∧ (x2 = (1 : Int32) → Q (zL h (a0 + 7) 0) h)) ∧ (¬ (zI h (a0 + 4) x1.toNatClampNeg) ≤ x3 → vp_in x3 64 ∧ (¬ (zI h (a0 + 1) x3.toNatClampNeg) = (36 : Int32) → ((zI h (a0 + 1) x3.toNatClampNeg) < (15 : Int32) → (¬ (zI h (a0 + 1) x3.toNatClampNeg) = (14 : Int32) → zg G mX0_workOut (d + 1) 143 [.ref a0, .int x1, .int x2, .int x3, .int (zI h (a0 + 1) x3.toNatClampNeg), zU, zU, zU, zU, zU, zU] [] h (zPL Q)) ∧ ((zI h (a0 + 1) x3.toNatClampNeg) = (14 : Int32) → (x2 < (1 : Int32) → zg G mX0_workOut (d + 1) 143 [.ref a0, .int x1, .int x2, .int x3, .int (zI h (a0 + 1) x3.toNatClampNeg), zU, zU, zU, zU, zU, zU] [] h (zPL Q)) ∧ (¬ x2 < (1 : Int32) → vp_in (x2 - (1 : Int32)) 64 ∧ (¬ (lg_cmp (zL h (a0 + 7) (x2 - (1 : Int32)).toNatClampNeg) (0 : Int64)) = 0 → zg G mX0_workOut (d + 1) 22 [.ref a0, .int x1, .int x2, .int (x3 + 1), zU, zU, zU, zU, zU, zU, zU] [] (zsL h (a0 + 7) (x2 - (1 : Int32)).toNatClampNeg (0 : Int64)) (zPL Q)) ∧ ((lg_cmp (zL h (a0 + 7) (x2 - (1 : Int32)).toNatClampNeg) (0 : Int64)) = 0 → zg G mX0_workOut (d + 1) 22 [.ref a0, .int x1, .int x2, .int (x3 + 1), zU, zU, zU, zU, zU, zU, zU] [] (zsL h (a0 + 7) (x2 - (1 : Int32)).toNatClampNeg (1 : Int64)) (zPL Q))))) ∧ (¬ (zI h (a0 + 1) x3.toNatClampNeg) < (15 : Int32) → ((21 : Int32) < (zI h (a0 + 1) x3.toNatClampNeg) → (¬ (zI h (a0 + 1) x3.toNatClampNeg) = (14 : Int32) → zg G mX0_workOut (d + 1) 143 [.ref a0, .int x1, .int x2, .int x3, .int (zI h (a0 + 1) x3.toNatClampNeg), zU, zU, zU, zU, zU, zU] [] h (zPL Q)) ∧ ((zI h (a0 + 1) x3.toNatClampNeg) = (14 : Int32) → (x2 < (1 : Int32) → zg G mX0_workOut (d + 1) 143 [.ref a0, .int x1, .int x2, .int x3, .int (zI h (a0 + 1) x3.toNatClampNeg), zU, zU, zU, zU, zU, zU] [] h (zPL Q)) ∧ (¬ x2 < (1 : Int32) → vp_in (x2 - (1 : Int32)) 64 ∧ (¬ (lg_cmp (zL h (a0 + 7) (x2 - (1 : Int32)).toNatClampNeg) (0 : Int64)) = 0 → zg G mX0_workOut (d + 1) 22 [.ref a0, .int x1, .int x2, .int (x3 + 1), zU, zU, zU, zU, zU, zU, zU] [] (zsL h (a0 + 7) (x2 - (1 : Int32)).toNatClampNeg (0 : Int64)) (zPL Q)) ∧ ((lg_cmp (zL h (a0 + 7) (x2 - (1 : Int32)).toNatClampNeg) (0 : Int64)) = 0 → zg G mX0_workOut (d + 1) 22 [.ref a0, .int x1, .int x2, .int (x3 + 1), zU, zU, zU, zU, zU, zU, zU] [] (zsL h (a0 + 7) (x2 - (1 : Int32)).toNatClampNeg (1 : Int64)) (zPL Q))))) ∧ (¬ (21 : Int32) < (zI h (a0 + 1) x3.toNatClampNeg) → vp_in ((zI h (a0 + 1) x3.toNatClampNeg) - (15 : Int32)) 7 ∧ vp_in x2 64 ∧ zg G mX0_workOut (d + 1) 22 [.ref a0, .int x1, .int (x2 + 1), .int (x3 + 1), zU, zU, zU, zU, zU, zU, zU] [] (zsL h (a0 + 7) x2.toNatClampNeg (zL h (a0 + 6) ((zI h (a0 + 1) x3.toNatClampNeg) - (15 : Int32)).toNatClampNeg)) (zPL Q)))) ∧ ((zI h (a0 + 1) x3.toNatClampNeg) = (36 : Int32) → vp_in x2 64 ∧ zg G mX0_workOut (d + 1) 22 [.ref a0, .int x1, .int (x2 + 1), .int (x3 + 1), zU, zU, zU, zU, zU, zU, zU] [] (zsL h (a0 + 7) x2.toNatClampNeg ((zI h (a0 + 2) x3.toNatClampNeg).toInt64)) (zPL Q)))) : zg G mX0_workOut (d + 1) 22 [.ref a0, .int x1, .int x2, .int x3, zU, zU, zU, zU, zU, zU, zU] [] h (zPL Q) := by
  refine z_iload_n 14 rfl rfl ?_
  refine z_aload_n 15 rfl rfl ?_
  refine z_getR 16 rfl lX0_21 rfl (zS_lo hS hl0 0 0 rfl rfl) (zS_lr hS hl0 0 3 4 rfl rfl rfl) ?_
  refine z_iload_n 17 rfl rfl ?_
  obtain ⟨o1, B⟩ := B
  refine z_iald 18 rfl (zS_lo hS hl0 4 100 rfl rfl) (zin (zS_ll hS hl0 4 3 rfl rfl) o1) ?_
  refine z_icmp_ge 19 235 rfl (by decide) ⟨fun c2 => ?_, fun c2 => ?_⟩
  · have B := B.1 c2
    refine z_iload_n 129 rfl rfl ?_
    refine z_iconst (v := 1) 130 rfl (by decide) ?_
    refine z_icmp_ne 131 249 rfl (by decide) ⟨fun c3 => ?_, fun c3 => ?_⟩
    · have B := B.1 c3
      refine z_ldc2 137 rfl kX0_44 ?_
      exact z_lret 138 rfl rfl ⟨rfl, rfl⟩ ⟨_, rfl, B⟩
    · have B := B.2 c3
      refine z_aload_n 132 rfl rfl ?_
      refine z_getR 133 rfl lX0_34 rfl (zS_lo hS hl0 0 0 rfl rfl) (zS_lr hS hl0 0 6 7 rfl rfl rfl) ?_
      refine z_iconst (v := 0) 134 rfl (by decide) ?_
      refine z_lald_c 135 0 rfl (by decide) (zS_lo hS hl0 7 101 rfl rfl) (zin (zS_ll hS hl0 7 64 rfl rfl) (zvp (by decide))) ?_
      refine z_goto 136 252 rfl (by decide) ?_
      exact z_lret 138 rfl rfl ⟨rfl, rfl⟩ ⟨_, rfl, B⟩
  · have B := B.2 c2
    refine z_aload_n 20 rfl rfl ?_
    refine z_getR 21 rfl lX0_9 rfl (zS_lo hS hl0 0 0 rfl rfl) (zS_lr hS hl0 0 0 1 rfl rfl rfl) ?_
    refine z_iload_n 22 rfl rfl ?_
    obtain ⟨o4, B⟩ := B
    refine z_iald 23 rfl (zS_lo hS hl0 1 100 rfl rfl) (zin (zS_ll hS hl0 1 64 rfl rfl) o4) ?_
    refine z_istore 24 rfl (by decide) rfl ?_
    refine z_iload 25 rfl rfl ?_
    refine z_bipush (v := 36) 26 rfl (by decide) ?_
    refine z_icmp_ne 27 66 rfl (by decide) ⟨fun c5 => ?_, fun c5 => ?_⟩
    · have B := B.1 c5
      refine z_iload 39 rfl rfl ?_
      refine z_bipush (v := 15) 40 rfl (by decide) ?_
      refine z_icmp_lt 41 102 rfl (by decide) ⟨fun c6 => ?_, fun c6 => ?_⟩
      · have B := B.1 c6
        refine z_iload 57 rfl rfl ?_
        refine z_bipush (v := 14) 58 rfl (by decide) ?_
        refine z_icmp_ne 59 143 rfl (by decide) ⟨fun c7 => ?_, fun c7 => ?_⟩
        · have B := B.1 c7
          exact B
        · have B := B.2 c7
          refine z_iload_n 60 rfl rfl ?_
          refine z_iconst (v := 1) 61 rfl (by decide) ?_
          refine z_icmp_lt 62 143 rfl (by decide) ⟨fun c8 => ?_, fun c8 => ?_⟩
          · have B := B.1 c8
            exact B
          · have B := B.2 c8
            refine z_aload_n 63 rfl rfl ?_
            refine z_getR 64 rfl lX0_34 rfl (zS_lo hS hl0 0 0 rfl rfl) (zS_lr hS hl0 0 6 7 rfl rfl rfl) ?_
            refine z_iload_n 65 rfl rfl ?_
            refine z_iconst (v := 1) 66 rfl (by decide) ?_
            refine z_isub 67 rfl ?_
            refine z_aload_n 68 rfl rfl ?_
            refine z_getR 69 rfl lX0_34 rfl (zS_lo hS hl0 0 0 rfl rfl) (zS_lr hS hl0 0 6 7 rfl rfl rfl) ?_
            refine z_iload_n 70 rfl rfl ?_
            refine z_iconst (v := 1) 71 rfl (by decide) ?_
            refine z_isub 72 rfl ?_
            obtain ⟨o9, B⟩ := B
            refine z_lald 73 rfl (zS_lo hS hl0 7 101 rfl rfl) (zin (zS_ll hS hl0 7 64 rfl rfl) o9) ?_
            refine z_lconst (v := 0) 74 rfl (by decide) ?_
            refine z_lcmp 75 rfl ?_
            refine z_if_ne 76 138 rfl (by decide) ⟨fun c10 => ?_, fun c10 => ?_⟩
            · have B := B.1 c10
              refine z_lconst (v := 0) 79 rfl (by decide) ?_
              refine z_last 80 rfl (zS_lo hS hl0 7 101 rfl rfl) (zin (zS_ll hS hl0 7 64 rfl rfl) o9) ?_
              refine z_goto 81 229 rfl (by decide) ?_
              refine z_iinc (v := 1) 127 rfl rfl (by decide) (by decide) rfl ?_
              refine z_goto 128 22 rfl (by decide) ?_
              refine z_drop 4 ?_
              exact B
            · have B := B.2 c10
              refine z_lconst (v := 1) 77 rfl (by decide) ?_
              refine z_goto 78 139 rfl (by decide) ?_
              refine z_last 80 rfl (zS_lo hS hl0 7 101 rfl rfl) (zin (zS_ll hS hl0 7 64 rfl rfl) o9) ?_
              refine z_goto 81 229 rfl (by decide) ?_
              refine z_iinc (v := 1) 127 rfl rfl (by decide) (by decide) rfl ?_
              refine z_goto 128 22 rfl (by decide) ?_
              refine z_drop 4 ?_
              exact B
      · have B := B.2 c6
        refine z_iload 42 rfl rfl ?_
        refine z_bipush (v := 21) 43 rfl (by decide) ?_
        refine z_icmp_gt 44 102 rfl (by decide) ⟨fun c11 => ?_, fun c11 => ?_⟩
        · have B := B.1 c11
          refine z_iload 57 rfl rfl ?_
          refine z_bipush (v := 14) 58 rfl (by decide) ?_
          refine z_icmp_ne 59 143 rfl (by decide) ⟨fun c12 => ?_, fun c12 => ?_⟩
          · have B := B.1 c12
            exact B
          · have B := B.2 c12
            refine z_iload_n 60 rfl rfl ?_
            refine z_iconst (v := 1) 61 rfl (by decide) ?_
            refine z_icmp_lt 62 143 rfl (by decide) ⟨fun c13 => ?_, fun c13 => ?_⟩
            · have B := B.1 c13
              exact B
            · have B := B.2 c13
              refine z_aload_n 63 rfl rfl ?_
              refine z_getR 64 rfl lX0_34 rfl (zS_lo hS hl0 0 0 rfl rfl) (zS_lr hS hl0 0 6 7 rfl rfl rfl) ?_
              refine z_iload_n 65 rfl rfl ?_
              refine z_iconst (v := 1) 66 rfl (by decide) ?_
              refine z_isub 67 rfl ?_
              refine z_aload_n 68 rfl rfl ?_
              refine z_getR 69 rfl lX0_34 rfl (zS_lo hS hl0 0 0 rfl rfl) (zS_lr hS hl0 0 6 7 rfl rfl rfl) ?_
              refine z_iload_n 70 rfl rfl ?_
              refine z_iconst (v := 1) 71 rfl (by decide) ?_
              refine z_isub 72 rfl ?_
              obtain ⟨o14, B⟩ := B
              refine z_lald 73 rfl (zS_lo hS hl0 7 101 rfl rfl) (zin (zS_ll hS hl0 7 64 rfl rfl) o14) ?_
              refine z_lconst (v := 0) 74 rfl (by decide) ?_
              refine z_lcmp 75 rfl ?_
              refine z_if_ne 76 138 rfl (by decide) ⟨fun c15 => ?_, fun c15 => ?_⟩
              · have B := B.1 c15
                refine z_lconst (v := 0) 79 rfl (by decide) ?_
                refine z_last 80 rfl (zS_lo hS hl0 7 101 rfl rfl) (zin (zS_ll hS hl0 7 64 rfl rfl) o14) ?_
                refine z_goto 81 229 rfl (by decide) ?_
                refine z_iinc (v := 1) 127 rfl rfl (by decide) (by decide) rfl ?_
                refine z_goto 128 22 rfl (by decide) ?_
                refine z_drop 4 ?_
                exact B
              · have B := B.2 c15
                refine z_lconst (v := 1) 77 rfl (by decide) ?_
                refine z_goto 78 139 rfl (by decide) ?_
                refine z_last 80 rfl (zS_lo hS hl0 7 101 rfl rfl) (zin (zS_ll hS hl0 7 64 rfl rfl) o14) ?_
                refine z_goto 81 229 rfl (by decide) ?_
                refine z_iinc (v := 1) 127 rfl rfl (by decide) (by decide) rfl ?_
                refine z_goto 128 22 rfl (by decide) ?_
                refine z_drop 4 ?_
                exact B
        · have B := B.2 c11
          refine z_aload_n 45 rfl rfl ?_
          refine z_getR 46 rfl lX0_34 rfl (zS_lo hS hl0 0 0 rfl rfl) (zS_lr hS hl0 0 6 7 rfl rfl rfl) ?_
          refine z_iload_n 47 rfl rfl ?_
          refine z_aload_n 48 rfl rfl ?_
          refine z_getR 49 rfl lX0_30 rfl (zS_lo hS hl0 0 0 rfl rfl) (zS_lr hS hl0 0 5 6 rfl rfl rfl) ?_
          refine z_iload 50 rfl rfl ?_
          refine z_bipush (v := 15) 51 rfl (by decide) ?_
          refine z_isub 52 rfl ?_
          obtain ⟨o16, B⟩ := B
          refine z_lald 53 rfl (zS_lo hS hl0 6 101 rfl rfl) (zin (zS_ll hS hl0 6 7 rfl rfl) o16) ?_
          obtain ⟨o17, B⟩ := B
          refine z_last 54 rfl (zS_lo hS hl0 7 101 rfl rfl) (zin (zS_ll hS hl0 7 64 rfl rfl) o17) ?_
          refine z_iinc (v := 1) 55 rfl rfl (by decide) (by decide) rfl ?_
          refine z_goto 56 229 rfl (by decide) ?_
          refine z_iinc (v := 1) 127 rfl rfl (by decide) (by decide) rfl ?_
          refine z_goto 128 22 rfl (by decide) ?_
          refine z_drop 4 ?_
          exact B
    · have B := B.2 c5
      refine z_aload_n 28 rfl rfl ?_
      refine z_getR 29 rfl lX0_34 rfl (zS_lo hS hl0 0 0 rfl rfl) (zS_lr hS hl0 0 6 7 rfl rfl rfl) ?_
      refine z_iload_n 30 rfl rfl ?_
      refine z_aload_n 31 rfl rfl ?_
      refine z_getR 32 rfl lX0_15 rfl (zS_lo hS hl0 0 0 rfl rfl) (zS_lr hS hl0 0 1 2 rfl rfl rfl) ?_
      refine z_iload_n 33 rfl rfl ?_
      refine z_iald 34 rfl (zS_lo hS hl0 2 100 rfl rfl) (zin (zS_ll hS hl0 2 64 rfl rfl) o4) ?_
      refine z_i2l 35 rfl ?_
      obtain ⟨o18, B⟩ := B
      refine z_last 36 rfl (zS_lo hS hl0 7 101 rfl rfl) (zin (zS_ll hS hl0 7 64 rfl rfl) o18) ?_
      refine z_iinc (v := 1) 37 rfl rfl (by decide) (by decide) rfl ?_
      refine z_goto 38 229 rfl (by decide) ?_
      refine z_iinc (v := 1) 127 rfl rfl (by decide) (by decide) rfl ?_
      refine z_goto 128 22 rfl (by decide) ?_
      refine z_drop 4 ?_
      exact B
set_option maxRecDepth 100000 in
set_option maxHeartbeats 4000000 in
theorem sg_X0_workOut_143 {G : zG} {d : Nat} {h : zMem} {Q : Int64 → zMem → Prop} {t : Nat} {a0 : Nat} {x1 : Int32} {x2 : Int32} {x3 : Int32} {x4 : Int32} (hS : zSh1 h t) (hl0 : isLw a0) (B : (x2 < (2 : Int32) → zg G mX0_workOut (d + 1) 22 [.ref a0, .int x1, .int x2, .int (x3 + 1), zU, zU, zU, zU, zU, zU, zU] [] h (zPL Q)) ∧ (¬ x2 < (2 : Int32) → vp_in ((x2 + (-1)) - (1 : Int32)) 64 ∧ vp_in (x2 + (-1)) 64 ∧ (¬ x4 = (30 : Int32) → ∃ Q5 : Int64 → zMem → Prop, zConL G mX0_joined d [.int x4, .long (zL h (a0 + 7) ((x2 + (-1)) - (1 : Int32)).toNatClampNeg), .long (zL h (a0 + 7) (x2 + (-1)).toNatClampNeg)] h Q5 ∧ (∀ v8 h6, Q5 v8 h6 → zSh1 h6 t ∧ (0 < (lg_cmp v8 (1000000000000 : Int64)) → Q (-9223372036854775808 : Int64) h6) ∧ (¬ 0 < (lg_cmp v8 (1000000000000 : Int64)) → (0 ≤ (lg_cmp v8 (-1000000000000 : Int64)) → zg G mX0_workOut (d + 1) 22 [.ref a0, .int x1, .int (x2 + (-1)), .int (x3 + 1), zU, zU, zU, zU, zU, zU, zU] [] (zsL h6 (a0 + 7) ((x2 + (-1)) - (1 : Int32)).toNatClampNeg v8) (zPL Q)) ∧ (¬ 0 ≤ (lg_cmp v8 (-1000000000000 : Int64)) → Q (-9223372036854775808 : Int64) h6)))) ∧ (x4 = (30 : Int32) → ∃ Q11 : Int64 → zMem → Prop, zConL G mX0_multiplied d [.long (zL h (a0 + 7) ((x2 + (-1)) - (1 : Int32)).toNatClampNeg), .long (zL h (a0 + 7) (x2 + (-1)).toNatClampNeg)] h Q11 ∧ (∀ v14 h12, Q11 v14 h12 → zSh1 h12 t ∧ (0 < (lg_cmp v14 (1000000000000 : Int64)) → Q (-9223372036854775808 : Int64) h12) ∧ (¬ 0 < (lg_cmp v14 (1000000000000 : Int64)) → (0 ≤ (lg_cmp v14 (-1000000000000 : Int64)) → zg G mX0_workOut (d + 1) 22 [.ref a0, .int x1, .int (x2 + (-1)), .int (x3 + 1), zU, zU, zU, zU, zU, zU, zU] [] (zsL h12 (a0 + 7) ((x2 + (-1)) - (1 : Int32)).toNatClampNeg v14) (zPL Q)) ∧ (¬ 0 ≤ (lg_cmp v14 (-1000000000000 : Int64)) → Q (-9223372036854775808 : Int64) h12)))))) : zg G mX0_workOut (d + 1) 143 [.ref a0, .int x1, .int x2, .int x3, .int x4, zU, zU, zU, zU, zU, zU] [] h (zPL Q) := by
  refine z_iload_n 82 rfl rfl ?_
  refine z_iconst (v := 2) 83 rfl (by decide) ?_
  refine z_icmp_lt 84 229 rfl (by decide) ⟨fun c1 => ?_, fun c1 => ?_⟩
  · have B := B.1 c1
    refine z_iinc (v := 1) 127 rfl rfl (by decide) (by decide) rfl ?_
    refine z_goto 128 22 rfl (by decide) ?_
    refine z_drop 4 ?_
    exact B
  · have B := B.2 c1
    refine z_iinc (v := -1) 85 rfl rfl (by decide) (by decide) rfl ?_
    refine z_aload_n 86 rfl rfl ?_
    refine z_getR 87 rfl lX0_34 rfl (zS_lo hS hl0 0 0 rfl rfl) (zS_lr hS hl0 0 6 7 rfl rfl rfl) ?_
    refine z_iload_n 88 rfl rfl ?_
    refine z_iconst (v := 1) 89 rfl (by decide) ?_
    refine z_isub 90 rfl ?_
    obtain ⟨o2, B⟩ := B
    refine z_lald 91 rfl (zS_lo hS hl0 7 101 rfl rfl) (zin (zS_ll hS hl0 7 64 rfl rfl) o2) ?_
    refine z_lstore 92 rfl (by decide) rfl ?_
    refine z_aload_n 93 rfl rfl ?_
    refine z_getR 94 rfl lX0_34 rfl (zS_lo hS hl0 0 0 rfl rfl) (zS_lr hS hl0 0 6 7 rfl rfl rfl) ?_
    refine z_iload_n 95 rfl rfl ?_
    obtain ⟨o3, B⟩ := B
    refine z_lald 96 rfl (zS_lo hS hl0 7 101 rfl rfl) (zin (zS_ll hS hl0 7 64 rfl rfl) o3) ?_
    refine z_lstore 97 rfl (by decide) rfl ?_
    refine z_iload 98 rfl rfl ?_
    refine z_bipush (v := 30) 99 rfl (by decide) ?_
    refine z_icmp_ne 100 186 rfl (by decide) ⟨fun c4 => ?_, fun c4 => ?_⟩
    · have B := B.1 c4
      refine z_iload 105 rfl rfl ?_
      refine z_lload 106 rfl rfl ?_
      refine z_lload 107 rfl rfl ?_
      obtain ⟨Q5, K7, B⟩ := B
      refine z_cSL3 (ν := mX0_joined) 108 rfl rfl fX0_joined gX0_50 (Nat.le_of_ble_eq_true rfl) K7 (fun v8 h6 q => ?_)
      obtain ⟨hSh6, B⟩ := B v8 h6 q
      refine z_lstore 109 rfl (by decide) rfl ?_
      refine z_lload 110 rfl rfl ?_
      refine z_ldc2 111 rfl kX0_54 ?_
      refine z_lcmp 112 rfl ?_
      refine z_if_gt 113 215 rfl (by decide) ⟨fun c9 => ?_, fun c9 => ?_⟩
      · have B := B.1 c9
        refine z_ldc2 118 rfl kX0_44 ?_
        exact z_lret 119 rfl rfl ⟨rfl, rfl⟩ ⟨_, rfl, B⟩
      · have B := B.2 c9
        refine z_lload 114 rfl rfl ?_
        refine z_ldc2 115 rfl kX0_56 ?_
        refine z_lcmp 116 rfl ?_
        refine z_if_ge 117 219 rfl (by decide) ⟨fun c10 => ?_, fun c10 => ?_⟩
        · have B := B.1 c10
          refine z_aload_n 120 rfl rfl ?_
          refine z_getR 121 rfl lX0_34 rfl (zS_lo hSh6 hl0 0 0 rfl rfl) (zS_lr hSh6 hl0 0 6 7 rfl rfl rfl) ?_
          refine z_iload_n 122 rfl rfl ?_
          refine z_iconst (v := 1) 123 rfl (by decide) ?_
          refine z_isub 124 rfl ?_
          refine z_lload 125 rfl rfl ?_
          refine z_last 126 rfl (zS_lo hSh6 hl0 7 101 rfl rfl) (zin (zS_ll hSh6 hl0 7 64 rfl rfl) o2) ?_
          refine z_iinc (v := 1) 127 rfl rfl (by decide) (by decide) rfl ?_
          refine z_goto 128 22 rfl (by decide) ?_
          refine z_drop 4 ?_
          refine z_drop 5 ?_
          refine z_drop 7 ?_
          refine z_drop 9 ?_
          exact B
        · have B := B.2 c10
          refine z_ldc2 118 rfl kX0_44 ?_
          exact z_lret 119 rfl rfl ⟨rfl, rfl⟩ ⟨_, rfl, B⟩
    · have B := B.2 c4
      refine z_lload 101 rfl rfl ?_
      refine z_lload 102 rfl rfl ?_
      obtain ⟨Q11, K13, B⟩ := B
      refine z_cSL2 (ν := mX0_multiplied) 103 rfl rfl fX0_multiplied gX0_46 (Nat.le_of_ble_eq_true rfl) K13 (fun v14 h12 q => ?_)
      obtain ⟨hSh12, B⟩ := B v14 h12 q
      refine z_goto 104 195 rfl (by decide) ?_
      refine z_lstore 109 rfl (by decide) rfl ?_
      refine z_lload 110 rfl rfl ?_
      refine z_ldc2 111 rfl kX0_54 ?_
      refine z_lcmp 112 rfl ?_
      refine z_if_gt 113 215 rfl (by decide) ⟨fun c15 => ?_, fun c15 => ?_⟩
      · have B := B.1 c15
        refine z_ldc2 118 rfl kX0_44 ?_
        exact z_lret 119 rfl rfl ⟨rfl, rfl⟩ ⟨_, rfl, B⟩
      · have B := B.2 c15
        refine z_lload 114 rfl rfl ?_
        refine z_ldc2 115 rfl kX0_56 ?_
        refine z_lcmp 116 rfl ?_
        refine z_if_ge 117 219 rfl (by decide) ⟨fun c16 => ?_, fun c16 => ?_⟩
        · have B := B.1 c16
          refine z_aload_n 120 rfl rfl ?_
          refine z_getR 121 rfl lX0_34 rfl (zS_lo hSh12 hl0 0 0 rfl rfl) (zS_lr hSh12 hl0 0 6 7 rfl rfl rfl) ?_
          refine z_iload_n 122 rfl rfl ?_
          refine z_iconst (v := 1) 123 rfl (by decide) ?_
          refine z_isub 124 rfl ?_
          refine z_lload 125 rfl rfl ?_
          refine z_last 126 rfl (zS_lo hSh12 hl0 7 101 rfl rfl) (zin (zS_ll hSh12 hl0 7 64 rfl rfl) o2) ?_
          refine z_iinc (v := 1) 127 rfl rfl (by decide) (by decide) rfl ?_
          refine z_goto 128 22 rfl (by decide) ?_
          refine z_drop 4 ?_
          refine z_drop 5 ?_
          refine z_drop 7 ?_
          refine z_drop 9 ?_
          exact B
        · have B := B.2 c16
          refine z_ldc2 118 rfl kX0_44 ?_
          exact z_lret 119 rfl rfl ⟨rfl, rfl⟩ ⟨_, rfl, B⟩
theorem zsw_X0_joined_1 {x : Int32} (z1 : ¬ x.toInt < 12) (z2 : ¬ 31 < x.toInt) (c12 : ¬ x = 12) (c13 : ¬ x = 13) (c22 : ¬ x = 22) (c23 : ¬ x = 23) (c24 : ¬ x = 24) (c25 : ¬ x = 25) (c26 : ¬ x = 26) (c27 : ¬ x = 27) (c28 : ¬ x = 28) (c29 : ¬ x = 29) (c31 : ¬ x = 31) : (#[95, 113, 227, 227, 227, 227, 227, 227, 227, 227, 131, 143, 155, 167, 179, 191, 203, 207, 227, 211] : Array Int)[(x.toInt - 12).toNat]? = some 227 := by
  obtain ⟨v, hv⟩ : ∃ v : Int, v = x.toInt := ⟨_, rfl⟩
  have c12 : v ≠ 12 := fun e => c12 (Int32.toInt_inj.mp (by rw [← hv, e]; decide))
  have c13 : v ≠ 13 := fun e => c13 (Int32.toInt_inj.mp (by rw [← hv, e]; decide))
  have c22 : v ≠ 22 := fun e => c22 (Int32.toInt_inj.mp (by rw [← hv, e]; decide))
  have c23 : v ≠ 23 := fun e => c23 (Int32.toInt_inj.mp (by rw [← hv, e]; decide))
  have c24 : v ≠ 24 := fun e => c24 (Int32.toInt_inj.mp (by rw [← hv, e]; decide))
  have c25 : v ≠ 25 := fun e => c25 (Int32.toInt_inj.mp (by rw [← hv, e]; decide))
  have c26 : v ≠ 26 := fun e => c26 (Int32.toInt_inj.mp (by rw [← hv, e]; decide))
  have c27 : v ≠ 27 := fun e => c27 (Int32.toInt_inj.mp (by rw [← hv, e]; decide))
  have c28 : v ≠ 28 := fun e => c28 (Int32.toInt_inj.mp (by rw [← hv, e]; decide))
  have c29 : v ≠ 29 := fun e => c29 (Int32.toInt_inj.mp (by rw [← hv, e]; decide))
  have c31 : v ≠ 31 := fun e => c31 (Int32.toInt_inj.mp (by rw [← hv, e]; decide))
  rw [← hv] at z1 z2 ⊢
  rcases (show v = 12 ∨ v = 13 ∨ v = 14 ∨ v = 15 ∨ v = 16 ∨ v = 17 ∨ v = 18 ∨ v = 19 ∨ v = 20 ∨ v = 21 ∨ v = 22 ∨ v = 23 ∨ v = 24 ∨ v = 25 ∨ v = 26 ∨ v = 27 ∨ v = 28 ∨ v = 29 ∨ v = 30 ∨ v = 31 by omega) with rfl | rfl | rfl | rfl | rfl | rfl | rfl | rfl | rfl | rfl | rfl | rfl | rfl | rfl | rfl | rfl | rfl | rfl | rfl | rfl
  all_goals first | exact absurd rfl (by assumption) | decide
set_option maxRecDepth 100000 in
set_option maxHeartbeats 4000000 in
theorem sg_X0_joined_0 {G : zG} {d : Nat} {h : zMem} {Q : Int64 → zMem → Prop} {t : Nat} {x0 : Int32} {y1 : Int64} {y3 : Int64} (hS : zSh1 h t)  (B : (x0 = 12 → (¬ (lg_cmp y1 (0 : Int64)) = 0 → Q (1 : Int64) h) ∧ ((lg_cmp y1 (0 : Int64)) = 0 → ((lg_cmp y3 (0 : Int64)) = 0 → Q (0 : Int64) h) ∧ (¬ (lg_cmp y3 (0 : Int64)) = 0 → Q (1 : Int64) h))) ∧ (x0 = 13 → ((lg_cmp y1 (0 : Int64)) = 0 → Q (0 : Int64) h) ∧ (¬ (lg_cmp y1 (0 : Int64)) = 0 → ((lg_cmp y3 (0 : Int64)) = 0 → Q (0 : Int64) h) ∧ (¬ (lg_cmp y3 (0 : Int64)) = 0 → Q (1 : Int64) h))) ∧ (x0 = 22 → (0 ≤ (lg_cmp y1 y3) → Q (0 : Int64) h) ∧ (¬ 0 ≤ (lg_cmp y1 y3) → Q (1 : Int64) h)) ∧ (x0 = 23 → (0 < (lg_cmp y1 y3) → Q (0 : Int64) h) ∧ (¬ 0 < (lg_cmp y1 y3) → Q (1 : Int64) h)) ∧ (x0 = 24 → (¬ (lg_cmp y1 y3) = 0 → Q (0 : Int64) h) ∧ ((lg_cmp y1 y3) = 0 → Q (1 : Int64) h)) ∧ (x0 = 25 → ((lg_cmp y1 y3) = 0 → Q (0 : Int64) h) ∧ (¬ (lg_cmp y1 y3) = 0 → Q (1 : Int64) h)) ∧ (x0 = 26 → ((lg_cmp y1 y3) < 0 → Q (0 : Int64) h) ∧ (¬ (lg_cmp y1 y3) < 0 → Q (1 : Int64) h)) ∧ (x0 = 27 → ((lg_cmp y1 y3) ≤ 0 → Q (0 : Int64) h) ∧ (¬ (lg_cmp y1 y3) ≤ 0 → Q (1 : Int64) h)) ∧ (x0 = 28 → Q (y1 + y3) h) ∧ (x0 = 29 → Q (y1 - y3) h) ∧ (x0 = 31 → (¬ (lg_cmp y3 (0 : Int64)) = 0 → ¬ y3 = 0 ∧ Q (y1 / y3) h) ∧ ((lg_cmp y3 (0 : Int64)) = 0 → Q (-9223372036854775808 : Int64) h)) ∧ (¬ x0 = 12 → ¬ x0 = 13 → ¬ x0 = 22 → ¬ x0 = 23 → ¬ x0 = 24 → ¬ x0 = 25 → ¬ x0 = 26 → ¬ x0 = 27 → ¬ x0 = 28 → ¬ x0 = 29 → ¬ x0 = 31 → Q (-9223372036854775808 : Int64) h)) : zg G mX0_joined d 0 [.int x0, .long y1, zU, .long y3, zU] [] h (zPL Q) := by
  refine z_iload_n 0 rfl rfl ?_
  by_cases c13_12 : x0 = 12
  · obtain ⟨B, -⟩ := B
    refine z_tableIn 1 96 rfl 12 (by rw [c13_12]; decide) (by decide) (by decide) rfl (by decide) ?_
    have B := B c13_12
    refine z_lload_n 2 rfl rfl ?_
    refine z_lconst (v := 0) 3 rfl (by decide) ?_
    refine z_lcmp 4 rfl ?_
    refine z_if_ne 5 108 rfl (by decide) ⟨fun c1 => ?_, fun c1 => ?_⟩
    · have B := B.1 c1
      refine z_lconst (v := 1) 10 rfl (by decide) ?_
      refine z_goto 11 113 rfl (by decide) ?_
      exact z_lret 13 rfl rfl ⟨rfl, rfl⟩ ⟨_, rfl, B⟩
    · have B := B.2 c1
      refine z_lload_n 6 rfl rfl ?_
      refine z_lconst (v := 0) 7 rfl (by decide) ?_
      refine z_lcmp 8 rfl ?_
      refine z_if_eq 9 112 rfl (by decide) ⟨fun c2 => ?_, fun c2 => ?_⟩
      · have B := B.1 c2
        refine z_lconst (v := 0) 12 rfl (by decide) ?_
        exact z_lret 13 rfl rfl ⟨rfl, rfl⟩ ⟨_, rfl, B⟩
      · have B := B.2 c2
        refine z_lconst (v := 1) 10 rfl (by decide) ?_
        refine z_goto 11 113 rfl (by decide) ?_
        exact z_lret 13 rfl rfl ⟨rfl, rfl⟩ ⟨_, rfl, B⟩
  obtain ⟨-, B⟩ := B
  by_cases c13_13 : x0 = 13
  · obtain ⟨B, -⟩ := B
    refine z_tableIn 1 114 rfl 13 (by rw [c13_13]; decide) (by decide) (by decide) rfl (by decide) ?_
    have B := B c13_13
    refine z_lload_n 14 rfl rfl ?_
    refine z_lconst (v := 0) 15 rfl (by decide) ?_
    refine z_lcmp 16 rfl ?_
    refine z_if_eq 17 130 rfl (by decide) ⟨fun c3 => ?_, fun c3 => ?_⟩
    · have B := B.1 c3
      refine z_lconst (v := 0) 24 rfl (by decide) ?_
      exact z_lret 25 rfl rfl ⟨rfl, rfl⟩ ⟨_, rfl, B⟩
    · have B := B.2 c3
      refine z_lload_n 18 rfl rfl ?_
      refine z_lconst (v := 0) 19 rfl (by decide) ?_
      refine z_lcmp 20 rfl ?_
      refine z_if_eq 21 130 rfl (by decide) ⟨fun c4 => ?_, fun c4 => ?_⟩
      · have B := B.1 c4
        refine z_lconst (v := 0) 24 rfl (by decide) ?_
        exact z_lret 25 rfl rfl ⟨rfl, rfl⟩ ⟨_, rfl, B⟩
      · have B := B.2 c4
        refine z_lconst (v := 1) 22 rfl (by decide) ?_
        refine z_goto 23 131 rfl (by decide) ?_
        exact z_lret 25 rfl rfl ⟨rfl, rfl⟩ ⟨_, rfl, B⟩
  obtain ⟨-, B⟩ := B
  by_cases c13_22 : x0 = 22
  · obtain ⟨B, -⟩ := B
    refine z_tableIn 1 132 rfl 22 (by rw [c13_22]; decide) (by decide) (by decide) rfl (by decide) ?_
    have B := B c13_22
    refine z_lload_n 26 rfl rfl ?_
    refine z_lload_n 27 rfl rfl ?_
    refine z_lcmp 28 rfl ?_
    refine z_if_ge 29 142 rfl (by decide) ⟨fun c5 => ?_, fun c5 => ?_⟩
    · have B := B.1 c5
      refine z_lconst (v := 0) 32 rfl (by decide) ?_
      exact z_lret 33 rfl rfl ⟨rfl, rfl⟩ ⟨_, rfl, B⟩
    · have B := B.2 c5
      refine z_lconst (v := 1) 30 rfl (by decide) ?_
      refine z_goto 31 143 rfl (by decide) ?_
      exact z_lret 33 rfl rfl ⟨rfl, rfl⟩ ⟨_, rfl, B⟩
  obtain ⟨-, B⟩ := B
  by_cases c13_23 : x0 = 23
  · obtain ⟨B, -⟩ := B
    refine z_tableIn 1 144 rfl 23 (by rw [c13_23]; decide) (by decide) (by decide) rfl (by decide) ?_
    have B := B c13_23
    refine z_lload_n 34 rfl rfl ?_
    refine z_lload_n 35 rfl rfl ?_
    refine z_lcmp 36 rfl ?_
    refine z_if_gt 37 154 rfl (by decide) ⟨fun c6 => ?_, fun c6 => ?_⟩
    · have B := B.1 c6
      refine z_lconst (v := 0) 40 rfl (by decide) ?_
      exact z_lret 41 rfl rfl ⟨rfl, rfl⟩ ⟨_, rfl, B⟩
    · have B := B.2 c6
      refine z_lconst (v := 1) 38 rfl (by decide) ?_
      refine z_goto 39 155 rfl (by decide) ?_
      exact z_lret 41 rfl rfl ⟨rfl, rfl⟩ ⟨_, rfl, B⟩
  obtain ⟨-, B⟩ := B
  by_cases c13_24 : x0 = 24
  · obtain ⟨B, -⟩ := B
    refine z_tableIn 1 156 rfl 24 (by rw [c13_24]; decide) (by decide) (by decide) rfl (by decide) ?_
    have B := B c13_24
    refine z_lload_n 42 rfl rfl ?_
    refine z_lload_n 43 rfl rfl ?_
    refine z_lcmp 44 rfl ?_
    refine z_if_ne 45 166 rfl (by decide) ⟨fun c7 => ?_, fun c7 => ?_⟩
    · have B := B.1 c7
      refine z_lconst (v := 0) 48 rfl (by decide) ?_
      exact z_lret 49 rfl rfl ⟨rfl, rfl⟩ ⟨_, rfl, B⟩
    · have B := B.2 c7
      refine z_lconst (v := 1) 46 rfl (by decide) ?_
      refine z_goto 47 167 rfl (by decide) ?_
      exact z_lret 49 rfl rfl ⟨rfl, rfl⟩ ⟨_, rfl, B⟩
  obtain ⟨-, B⟩ := B
  by_cases c13_25 : x0 = 25
  · obtain ⟨B, -⟩ := B
    refine z_tableIn 1 168 rfl 25 (by rw [c13_25]; decide) (by decide) (by decide) rfl (by decide) ?_
    have B := B c13_25
    refine z_lload_n 50 rfl rfl ?_
    refine z_lload_n 51 rfl rfl ?_
    refine z_lcmp 52 rfl ?_
    refine z_if_eq 53 178 rfl (by decide) ⟨fun c8 => ?_, fun c8 => ?_⟩
    · have B := B.1 c8
      refine z_lconst (v := 0) 56 rfl (by decide) ?_
      exact z_lret 57 rfl rfl ⟨rfl, rfl⟩ ⟨_, rfl, B⟩
    · have B := B.2 c8
      refine z_lconst (v := 1) 54 rfl (by decide) ?_
      refine z_goto 55 179 rfl (by decide) ?_
      exact z_lret 57 rfl rfl ⟨rfl, rfl⟩ ⟨_, rfl, B⟩
  obtain ⟨-, B⟩ := B
  by_cases c13_26 : x0 = 26
  · obtain ⟨B, -⟩ := B
    refine z_tableIn 1 180 rfl 26 (by rw [c13_26]; decide) (by decide) (by decide) rfl (by decide) ?_
    have B := B c13_26
    refine z_lload_n 58 rfl rfl ?_
    refine z_lload_n 59 rfl rfl ?_
    refine z_lcmp 60 rfl ?_
    refine z_if_lt 61 190 rfl (by decide) ⟨fun c9 => ?_, fun c9 => ?_⟩
    · have B := B.1 c9
      refine z_lconst (v := 0) 64 rfl (by decide) ?_
      exact z_lret 65 rfl rfl ⟨rfl, rfl⟩ ⟨_, rfl, B⟩
    · have B := B.2 c9
      refine z_lconst (v := 1) 62 rfl (by decide) ?_
      refine z_goto 63 191 rfl (by decide) ?_
      exact z_lret 65 rfl rfl ⟨rfl, rfl⟩ ⟨_, rfl, B⟩
  obtain ⟨-, B⟩ := B
  by_cases c13_27 : x0 = 27
  · obtain ⟨B, -⟩ := B
    refine z_tableIn 1 192 rfl 27 (by rw [c13_27]; decide) (by decide) (by decide) rfl (by decide) ?_
    have B := B c13_27
    refine z_lload_n 66 rfl rfl ?_
    refine z_lload_n 67 rfl rfl ?_
    refine z_lcmp 68 rfl ?_
    refine z_if_le 69 202 rfl (by decide) ⟨fun c10 => ?_, fun c10 => ?_⟩
    · have B := B.1 c10
      refine z_lconst (v := 0) 72 rfl (by decide) ?_
      exact z_lret 73 rfl rfl ⟨rfl, rfl⟩ ⟨_, rfl, B⟩
    · have B := B.2 c10
      refine z_lconst (v := 1) 70 rfl (by decide) ?_
      refine z_goto 71 203 rfl (by decide) ?_
      exact z_lret 73 rfl rfl ⟨rfl, rfl⟩ ⟨_, rfl, B⟩
  obtain ⟨-, B⟩ := B
  by_cases c13_28 : x0 = 28
  · obtain ⟨B, -⟩ := B
    refine z_tableIn 1 204 rfl 28 (by rw [c13_28]; decide) (by decide) (by decide) rfl (by decide) ?_
    have B := B c13_28
    refine z_lload_n 74 rfl rfl ?_
    refine z_lload_n 75 rfl rfl ?_
    refine z_ladd 76 rfl ?_
    exact z_lret 77 rfl rfl ⟨rfl, rfl⟩ ⟨_, rfl, B⟩
  obtain ⟨-, B⟩ := B
  by_cases c13_29 : x0 = 29
  · obtain ⟨B, -⟩ := B
    refine z_tableIn 1 208 rfl 29 (by rw [c13_29]; decide) (by decide) (by decide) rfl (by decide) ?_
    have B := B c13_29
    refine z_lload_n 78 rfl rfl ?_
    refine z_lload_n 79 rfl rfl ?_
    refine z_lsub 80 rfl ?_
    exact z_lret 81 rfl rfl ⟨rfl, rfl⟩ ⟨_, rfl, B⟩
  obtain ⟨-, B⟩ := B
  by_cases c13_31 : x0 = 31
  · obtain ⟨B, -⟩ := B
    refine z_tableIn 1 212 rfl 31 (by rw [c13_31]; decide) (by decide) (by decide) rfl (by decide) ?_
    have B := B c13_31
    refine z_lload_n 82 rfl rfl ?_
    refine z_lconst (v := 0) 83 rfl (by decide) ?_
    refine z_lcmp 84 rfl ?_
    refine z_if_ne 85 224 rfl (by decide) ⟨fun c11 => ?_, fun c11 => ?_⟩
    · have B := B.1 c11
      refine z_lload_n 88 rfl rfl ?_
      refine z_lload_n 89 rfl rfl ?_
      obtain ⟨o12, B⟩ := B
      refine z_ldiv 90 rfl o12 ?_
      exact z_lret 91 rfl rfl ⟨rfl, rfl⟩ ⟨_, rfl, B⟩
    · have B := B.2 c11
      refine z_ldc2 86 rfl kX0_44 ?_
      refine z_goto 87 227 rfl (by decide) ?_
      exact z_lret 91 rfl rfl ⟨rfl, rfl⟩ ⟨_, rfl, B⟩
  obtain ⟨-, B⟩ := B
  have B := B c13_12 c13_13 c13_22 c13_23 c13_24 c13_25 c13_26 c13_27 c13_28 c13_29 c13_31
  refine z_tableD 1 228 rfl (by decide) (by
    intro z1 z2
    refine zsw_X0_joined_1 z1 z2 c13_12 c13_13 c13_22 c13_23 c13_24 c13_25 c13_26 c13_27 c13_28 c13_29 c13_31) ?_
  refine z_ldc2 92 rfl kX0_44 ?_
  exact z_lret 93 rfl rfl ⟨rfl, rfl⟩ ⟨_, rfl, B⟩
theorem cn_X0_joined {G : zG} {d : Nat} {h : zMem} {Q : Int64 → zMem → Prop} {x0 : Int32} {y1 : Int64} {y3 : Int64} (B : zg G mX0_joined d 0 [.int x0, .long y1, zU, .long y3, zU] [] h (zPL Q)) : zConL G mX0_joined d [.int x0, .long y1, .long y3] h Q := zcon0 (by decide +kernel) eX0_joined (Nat.le_of_ble_eq_true rfl) rfl B
set_option maxRecDepth 100000 in
set_option maxHeartbeats 4000000 in
theorem sg_X0_multiplied_0 {G : zG} {d : Nat} {h : zMem} {Q : Int64 → zMem → Prop} {t : Nat} {y0 : Int64} {y2 : Int64} (hS : zSh1 h t)  (B : (0 ≤ (lg_cmp y2 (0 : Int64)) → ((lg_cmp y2 (0 : Int64)) ≤ 0 → Q (y0 * y2) h) ∧ (¬ (lg_cmp y2 (0 : Int64)) ≤ 0 → ¬ y2 = 0 ∧ (0 < (lg_cmp y0 ((1000000000000 : Int64) / y2)) → Q (-9223372036854775808 : Int64) h) ∧ (¬ 0 < (lg_cmp y0 ((1000000000000 : Int64) / y2)) → (0 ≤ (lg_cmp y0 (-((1000000000000 : Int64) / y2))) → Q (y0 * y2) h) ∧ (¬ 0 ≤ (lg_cmp y0 (-((1000000000000 : Int64) / y2))) → Q (-9223372036854775808 : Int64) h)))) ∧ (¬ 0 ≤ (lg_cmp y2 (0 : Int64)) → ((lg_cmp (-y2) (0 : Int64)) ≤ 0 → Q (y0 * y2) h) ∧ (¬ (lg_cmp (-y2) (0 : Int64)) ≤ 0 → ¬ (-y2) = 0 ∧ (0 < (lg_cmp y0 ((1000000000000 : Int64) / (-y2))) → Q (-9223372036854775808 : Int64) h) ∧ (¬ 0 < (lg_cmp y0 ((1000000000000 : Int64) / (-y2))) → (0 ≤ (lg_cmp y0 (-((1000000000000 : Int64) / (-y2)))) → Q (y0 * y2) h) ∧ (¬ 0 ≤ (lg_cmp y0 (-((1000000000000 : Int64) / (-y2)))) → Q (-9223372036854775808 : Int64) h))))) : zg G mX0_multiplied d 0 [.long y0, zU, .long y2, zU, zU, zU] [] h (zPL Q) := by
  refine z_lload_n 0 rfl rfl ?_
  refine z_lconst (v := 0) 1 rfl (by decide) ?_
  refine z_lcmp 2 rfl ?_
  refine z_if_ge 3 11 rfl (by decide) ⟨fun c1 => ?_, fun c1 => ?_⟩
  · have B := B.1 c1
    refine z_lload_n 7 rfl rfl ?_
    refine z_lstore 8 rfl (by decide) rfl ?_
    refine z_lload 9 rfl rfl ?_
    refine z_lconst (v := 0) 10 rfl (by decide) ?_
    refine z_lcmp 11 rfl ?_
    refine z_if_le 12 48 rfl (by decide) ⟨fun c2 => ?_, fun c2 => ?_⟩
    · have B := B.1 c2
      refine z_lload_n 28 rfl rfl ?_
      refine z_lload_n 29 rfl rfl ?_
      refine z_lmul 30 rfl ?_
      exact z_lret 31 rfl rfl ⟨rfl, rfl⟩ ⟨_, rfl, B⟩
    · have B := B.2 c2
      refine z_lload_n 13 rfl rfl ?_
      refine z_ldc2 14 rfl kX0_54 ?_
      refine z_lload 15 rfl rfl ?_
      obtain ⟨o3, B⟩ := B
      refine z_ldiv 16 rfl o3 ?_
      refine z_lcmp 17 rfl ?_
      refine z_if_gt 18 44 rfl (by decide) ⟨fun c4 => ?_, fun c4 => ?_⟩
      · have B := B.1 c4
        refine z_ldc2 26 rfl kX0_44 ?_
        exact z_lret 27 rfl rfl ⟨rfl, rfl⟩ ⟨_, rfl, B⟩
      · have B := B.2 c4
        refine z_lload_n 19 rfl rfl ?_
        refine z_ldc2 20 rfl kX0_54 ?_
        refine z_lload 21 rfl rfl ?_
        refine z_ldiv 22 rfl o3 ?_
        refine z_lneg 23 rfl ?_
        refine z_lcmp 24 rfl ?_
        refine z_if_ge 25 48 rfl (by decide) ⟨fun c5 => ?_, fun c5 => ?_⟩
        · have B := B.1 c5
          refine z_lload_n 28 rfl rfl ?_
          refine z_lload_n 29 rfl rfl ?_
          refine z_lmul 30 rfl ?_
          exact z_lret 31 rfl rfl ⟨rfl, rfl⟩ ⟨_, rfl, B⟩
        · have B := B.2 c5
          refine z_ldc2 26 rfl kX0_44 ?_
          exact z_lret 27 rfl rfl ⟨rfl, rfl⟩ ⟨_, rfl, B⟩
  · have B := B.2 c1
    refine z_lload_n 4 rfl rfl ?_
    refine z_lneg 5 rfl ?_
    refine z_goto 6 12 rfl (by decide) ?_
    refine z_lstore 8 rfl (by decide) rfl ?_
    refine z_lload 9 rfl rfl ?_
    refine z_lconst (v := 0) 10 rfl (by decide) ?_
    refine z_lcmp 11 rfl ?_
    refine z_if_le 12 48 rfl (by decide) ⟨fun c6 => ?_, fun c6 => ?_⟩
    · have B := B.1 c6
      refine z_lload_n 28 rfl rfl ?_
      refine z_lload_n 29 rfl rfl ?_
      refine z_lmul 30 rfl ?_
      exact z_lret 31 rfl rfl ⟨rfl, rfl⟩ ⟨_, rfl, B⟩
    · have B := B.2 c6
      refine z_lload_n 13 rfl rfl ?_
      refine z_ldc2 14 rfl kX0_54 ?_
      refine z_lload 15 rfl rfl ?_
      obtain ⟨o7, B⟩ := B
      refine z_ldiv 16 rfl o7 ?_
      refine z_lcmp 17 rfl ?_
      refine z_if_gt 18 44 rfl (by decide) ⟨fun c8 => ?_, fun c8 => ?_⟩
      · have B := B.1 c8
        refine z_ldc2 26 rfl kX0_44 ?_
        exact z_lret 27 rfl rfl ⟨rfl, rfl⟩ ⟨_, rfl, B⟩
      · have B := B.2 c8
        refine z_lload_n 19 rfl rfl ?_
        refine z_ldc2 20 rfl kX0_54 ?_
        refine z_lload 21 rfl rfl ?_
        refine z_ldiv 22 rfl o7 ?_
        refine z_lneg 23 rfl ?_
        refine z_lcmp 24 rfl ?_
        refine z_if_ge 25 48 rfl (by decide) ⟨fun c9 => ?_, fun c9 => ?_⟩
        · have B := B.1 c9
          refine z_lload_n 28 rfl rfl ?_
          refine z_lload_n 29 rfl rfl ?_
          refine z_lmul 30 rfl ?_
          exact z_lret 31 rfl rfl ⟨rfl, rfl⟩ ⟨_, rfl, B⟩
        · have B := B.2 c9
          refine z_ldc2 26 rfl kX0_44 ?_
          exact z_lret 27 rfl rfl ⟨rfl, rfl⟩ ⟨_, rfl, B⟩
theorem cn_X0_multiplied {G : zG} {d : Nat} {h : zMem} {Q : Int64 → zMem → Prop} {y0 : Int64} {y2 : Int64} (B : zg G mX0_multiplied d 0 [.long y0, zU, .long y2, zU, zU, zU] [] h (zPL Q)) : zConL G mX0_multiplied d [.long y0, .long y2] h Q := zcon0 (by decide +kernel) eX0_multiplied (Nat.le_of_ble_eq_true rfl) rfl B
