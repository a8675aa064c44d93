set_option maxRecDepth 100000 in
set_option maxHeartbeats 4000000 in
theorem sg_X5_begin_0 {G : zG} {d : Nat} {h : zMem} {Q : zMem → Prop} {a0 : Nat} {a1 : Nat} (B : zg G mX5_begin (d + 1) 2 [.ref a0, .ref a1, .int (0 : Int32)] [] h (zPV Q)) : zg G mX5_begin (d + 1) 0 [.ref a0, .ref a1, zU] [] h (zPV Q) := by
  refine z_iconst (v := 0) 0 rfl (by decide) ?_
  refine z_istore_n 1 rfl (by decide) rfl ?_
  exact B
theorem cn_X5_begin {G : zG} {d : Nat} {h : zMem} {Q : zMem → Prop} {a0 : Nat} {a1 : Nat} (B : zg G mX5_begin (d + 1) 0 [.ref a0, .ref a1, zU] [] h (zPV Q)) : zConV G mX5_begin (d + 1) [.ref a0, .ref a1] h Q := zcon0 (by decide +kernel) eX5_begin (Nat.le_of_ble_eq_true rfl) rfl B
set_option maxRecDepth 100000 in
set_option maxHeartbeats 4000000 in
theorem sg_X5_begin_2 {G : zG} {d : Nat} {h : zMem} {Q : zMem → Prop} {a0 : Nat} {a1 : Nat} {x2 : Int32} (B : ((6 : Int32) ≤ x2 → zg G mX5_begin (d + 1) 35 [.ref a0, .ref a1, .int (0 : Int32)] [] h (zPV Q)) ∧ (¬ (6 : Int32) ≤ x2 → zO h a0 5 ∧ ∃ r3, zR h a0 0 = some r3 ∧ zO h a1 6 ∧ ∃ r5, zR h a1 2 = some r5 ∧ zO h r5 100 ∧ vp_in x2 (zLen h r5) ∧ zO h r3 100 ∧ vp_in x2 (zLen h r3) ∧ ∃ r10, zR h a0 1 = some r10 ∧ zO h r10 100 ∧ vp_in x2 (zLen h r10) ∧ zg G mX5_begin (d + 1) 2 [.ref a0, .ref a1, .int (x2 + 1)] [] (zsI (zsI h r3 x2.toNatClampNeg (zI h r5 x2.toNatClampNeg)) r10 x2.toNatClampNeg (0 : Int32)) (zPV Q))) : zg G mX5_begin (d + 1) 2 [.ref a0, .ref a1, .int x2] [] h (zPV Q) := by
  refine z_iload_n 2 rfl rfl ?_
  refine z_bipush (v := 6) 3 rfl (by decide) ?_
  refine z_icmp_ge 4 33 rfl (by decide) ⟨fun c1 => ?_, fun c1 => ?_⟩
  · have B := B.1 c1
    refine z_iconst (v := 0) 20 rfl (by decide) ?_
    refine z_istore_n 21 rfl (by decide) rfl ?_
    exact B
  · have B := B.2 c1
    refine z_aload_n 5 rfl rfl ?_
    obtain ⟨o2, B⟩ := B
    obtain ⟨r3, hr3, B⟩ := B
    refine z_getR 6 rfl lX5_9 rfl o2 hr3 ?_
    refine z_iload_n 7 rfl rfl ?_
    refine z_aload_n 8 rfl rfl ?_
    obtain ⟨o4, B⟩ := B
    obtain ⟨r5, hr5, B⟩ := B
    refine z_getR 9 rfl lX5_44 rfl o4 hr5 ?_
    refine z_iload_n 10 rfl rfl ?_
    obtain ⟨o6, B⟩ := B
    obtain ⟨o7, B⟩ := B
    refine z_iald 11 rfl o6 o7 ?_
    obtain ⟨o8, B⟩ := B
    obtain ⟨o9, B⟩ := B
    refine z_iast 12 rfl o8 o9 ?_
    refine z_aload_n 13 rfl rfl ?_
    obtain ⟨r10, hr10, B⟩ := B
    refine z_getR 14 rfl lX5_15 rfl o2 hr10 ?_
    refine z_iload_n 15 rfl rfl ?_
    refine z_iconst (v := 0) 16 rfl (by decide) ?_
    obtain ⟨o11, B⟩ := B
    obtain ⟨o12, B⟩ := B
    refine z_iast 17 rfl o11 o12 ?_
    refine z_iinc (v := 1) 18 rfl rfl (by decide) (by decide) rfl ?_
    refine z_goto 19 2 rfl (by decide) ?_
    exact B
set_option maxRecDepth 100000 in
set_option maxHeartbeats 4000000 in
theorem sg_X5_begin_35 {G : zG} {d : Nat} {h : zMem} {Q : zMem → Prop} {a0 : Nat} {a1 : Nat} {x2 : Int32} (B : ((6 : Int32) ≤ x2 → zg G mX5_begin (d + 1) 61 [.ref a0, .ref a1, .int (0 : Int32)] [] h (zPV Q)) ∧ (¬ (6 : Int32) ≤ x2 → zO h a0 5 ∧ ∃ r3, zR h a0 2 = some r3 ∧ zO h a1 6 ∧ ∃ r5, zR h a1 5 = some r5 ∧ zO h r5 100 ∧ vp_in x2 (zLen h r5) ∧ zO h r3 100 ∧ vp_in x2 (zLen h r3) ∧ zg G mX5_begin (d + 1) 35 [.ref a0, .ref a1, .int (x2 + 1)] [] (zsI h r3 x2.toNatClampNeg (zI h r5 x2.toNatClampNeg)) (zPV Q))) : zg G mX5_begin (d + 1) 35 [.ref a0, .ref a1, .int x2] [] h (zPV Q) := by
  refine z_iload_n 22 rfl rfl ?_
  refine z_bipush (v := 6) 23 rfl (by decide) ?_
  refine z_icmp_ge 24 59 rfl (by decide) ⟨fun c1 => ?_, fun c1 => ?_⟩
  · have B := B.1 c1
    refine z_iconst (v := 0) 35 rfl (by decide) ?_
    refine z_istore_n 36 rfl (by decide) rfl ?_
    exact B
  · have B := B.2 c1
    refine z_aload_n 25 rfl rfl ?_
    obtain ⟨o2, B⟩ := B
    obtain ⟨r3, hr3, B⟩ := B
    refine z_getR 26 rfl lX5_18 rfl o2 hr3 ?_
    refine z_iload_n 27 rfl rfl ?_
    refine z_aload_n 28 rfl rfl ?_
    obtain ⟨o4, B⟩ := B
    obtain ⟨r5, hr5, B⟩ := B
    refine z_getR 29 rfl lX5_47 rfl o4 hr5 ?_
    refine z_iload_n 30 rfl rfl ?_
    obtain ⟨o6, B⟩ := B
    obtain ⟨o7, B⟩ := B
    refine z_iald 31 rfl o6 o7 ?_
    obtain ⟨o8, B⟩ := B
    obtain ⟨o9, B⟩ := B
    refine z_iast 32 rfl o8 o9 ?_
    refine z_iinc (v := 1) 33 rfl rfl (by decide) (by decide) rfl ?_
    refine z_goto 34 35 rfl (by decide) ?_
    exact B
set_option maxRecDepth 100000 in
set_option maxHeartbeats 4000000 in
theorem sg_X5_begin_61 {G : zG} {d : Nat} {h : zMem} {Q : zMem → Prop} {a0 : Nat} {a1 : Nat} {x2 : Int32} (B : ((5 : Int32) ≤ x2 → zO h a0 5 ∧ ∃ Q2 : zMem → Prop, zConV G mX5_clearAir d [.ref a0] h Q2 ∧ (∀ h3, Q2 h3 → zO h3 a0 5 ∧ Q (zsI (zsI (zsI (zsI (zsI h3 a0 10 (0 : Int32)) a0 11 (-1 : Int32)) a0 12 (0 : Int32)) a0 13 (0 : Int32)) a0 14 (-1 : Int32)))) ∧ (¬ (5 : Int32) ≤ x2 → zO h a0 5 ∧ ∃ r8, zR h a0 4 = some r8 ∧ zO h a1 6 ∧ ∃ r10, zR h a1 6 = some r10 ∧ zO h r10 100 ∧ vp_in x2 (zLen h r10) ∧ zO h r8 100 ∧ vp_in x2 (zLen h r8) ∧ ∃ r15, zR h a0 5 = some r15 ∧ zO h r15 100 ∧ vp_in x2 (zLen h r15) ∧ ∃ r18, zR h a0 6 = some r18 ∧ zO h r18 100 ∧ vp_in x2 (zLen h r18) ∧ ∃ r21, zR h a0 7 = some r21 ∧ ∃ r22, zR h a1 0 = some r22 ∧ zO h r22 100 ∧ vp_in (1 : Int32) (zLen h r22) ∧ zO h r21 100 ∧ vp_in x2 (zLen h r21) ∧ zg G mX5_begin (d + 1) 61 [.ref a0, .ref a1, .int (x2 + 1)] [] (zsI (zsI (zsI (zsI h r8 x2.toNatClampNeg (zI h r10 x2.toNatClampNeg)) r15 x2.toNatClampNeg (0 : Int32)) r18 x2.toNatClampNeg (0 : Int32)) r21 x2.toNatClampNeg ((zI (zsI (zsI (zsI h r8 x2.toNatClampNeg (zI h r10 x2.toNatClampNeg)) r15 x2.toNatClampNeg (0 : Int32)) r18 x2.toNatClampNeg (0 : Int32)) r22 (1 : Int32).toNatClampNeg) - (1 : Int32))) (zPV Q))) : zg G mX5_begin (d + 1) 61 [.ref a0, .ref a1, .int x2] [] h (zPV Q) := by
  refine z_iload_n 37 rfl rfl ?_
  refine z_iconst (v := 5) 38 rfl (by decide) ?_
  refine z_icmp_ge 39 112 rfl (by decide) ⟨fun c1 => ?_, fun c1 => ?_⟩
  · have B := B.1 c1
    refine z_aload_n 70 rfl rfl ?_
    obtain ⟨o6, B⟩ := B
    obtain ⟨Q2, K4, B⟩ := B
    refine z_cVV0 (ν := mX5_clearAir) 71 rfl rfl fX5_clearAir gX5_52 ⟨_, rfl, rfl⟩ (by decide) o6 (Nat.le_of_ble_eq_true rfl) K4 (fun h3 q => ?_)
    have B := B h3 q
    refine z_aload_n 72 rfl rfl ?_
    refine z_iconst (v := 0) 73 rfl (by decide) ?_
    obtain ⟨o5, B⟩ := B
    refine z_putI 74 rfl lX5_55 ⟨_, _, _, rfl, rfl⟩ rfl rfl rfl o5 ?_
    refine z_aload_n 75 rfl rfl ?_
    refine z_iconst (v := -1) 76 rfl (by decide) ?_
    refine z_putI 77 rfl lX5_59 ⟨_, _, _, rfl, rfl⟩ rfl rfl rfl o5 ?_
    refine z_aload_n 78 rfl rfl ?_
    refine z_iconst (v := 0) 79 rfl (by decide) ?_
    refine z_putI 80 rfl lX5_62 ⟨_, _, _, rfl, rfl⟩ rfl rfl rfl o5 ?_
    refine z_aload_n 81 rfl rfl ?_
    refine z_iconst (v := 0) 82 rfl (by decide) ?_
    refine z_putI 83 rfl lX5_65 ⟨_, _, _, rfl, rfl⟩ rfl rfl rfl o5 ?_
    refine z_aload_n 84 rfl rfl ?_
    refine z_iconst (v := -1) 85 rfl (by decide) ?_
    refine z_putI 86 rfl lX5_68 ⟨_, _, _, rfl, rfl⟩ rfl rfl rfl o5 ?_
    exact z_vret 87 rfl rfl ⟨rfl, rfl⟩ ⟨rfl, B⟩
  · have B := B.2 c1
    refine z_aload_n 40 rfl rfl ?_
    obtain ⟨o7, B⟩ := B
    obtain ⟨r8, hr8, B⟩ := B
    refine z_getR 41 rfl lX5_26 rfl o7 hr8 ?_
    refine z_iload_n 42 rfl rfl ?_
    refine z_aload_n 43 rfl rfl ?_
    obtain ⟨o9, B⟩ := B
    obtain ⟨r10, hr10, B⟩ := B
    refine z_getR 44 rfl lX5_48 rfl o9 hr10 ?_
    refine z_iload_n 45 rfl rfl ?_
    obtain ⟨o11, B⟩ := B
    obtain ⟨o12, B⟩ := B
    refine z_iald 46 rfl o11 o12 ?_
    obtain ⟨o13, B⟩ := B
    obtain ⟨o14, B⟩ := B
    refine z_iast 47 rfl o13 o14 ?_
    refine z_aload_n 48 rfl rfl ?_
    obtain ⟨r15, hr15, B⟩ := B
    refine z_getR 49 rfl lX5_29 rfl o7 hr15 ?_
    refine z_iload_n 50 rfl rfl ?_
    refine z_iconst (v := 0) 51 rfl (by decide) ?_
    obtain ⟨o16, B⟩ := B
    obtain ⟨o17, B⟩ := B
    refine z_iast 52 rfl o16 o17 ?_
    refine z_aload_n 53 rfl rfl ?_
    obtain ⟨r18, hr18, B⟩ := B
    refine z_getR 54 rfl lX5_32 rfl o7 hr18 ?_
    refine z_iload_n 55 rfl rfl ?_
    refine z_iconst (v := 0) 56 rfl (by decide) ?_
    obtain ⟨o19, B⟩ := B
    obtain ⟨o20, B⟩ := B
    refine z_iast 57 rfl o19 o20 ?_
    refine z_aload_n 58 rfl rfl ?_
    obtain ⟨r21, hr21, B⟩ := B
    refine z_getR 59 rfl lX5_35 rfl o7 hr21 ?_
    refine z_iload_n 60 rfl rfl ?_
    refine z_aload_n 61 rfl rfl ?_
    obtain ⟨r22, hr22, B⟩ := B
    refine z_getR 62 rfl lX5_49 rfl o9 hr22 ?_
    refine z_iconst (v := 1) 63 rfl (by decide) ?_
    obtain ⟨o23, B⟩ := B
    obtain ⟨o24, B⟩ := B
    refine z_iald 64 rfl o23 o24 ?_
    refine z_iconst (v := 1) 65 rfl (by decide) ?_
    refine z_isub 66 rfl ?_
    obtain ⟨o25, B⟩ := B
    obtain ⟨o26, B⟩ := B
    refine z_iast 67 rfl o25 o26 ?_
    refine z_iinc (v := 1) 68 rfl rfl (by decide) (by decide) rfl ?_
    refine z_goto 69 61 rfl (by decide) ?_
    exact B
set_option maxRecDepth 100000 in
set_option maxHeartbeats 4000000 in
theorem sg_X5_copy_0 {G : zG} {d : Nat} {h : zMem} {Q : zMem → Prop} {a0 : Nat} {a1 : Nat} (B : zO h a1 5 ∧ ∃ r2, zR h a1 0 = some r2 ∧ zO h a0 5 ∧ ∃ r4, zR h a0 0 = some r4 ∧ zO h r2 100 ∧ zO h r4 100 ∧ zcpok (0 : Int32) (0 : Int32) (6 : Int32) (zLen h r2) (zLen h r4) ∧ ∃ r8, zR h a1 1 = some r8 ∧ ∃ r9, zR h a0 1 = some r9 ∧ zO h r8 100 ∧ zO h r9 100 ∧ zcpok (0 : Int32) (0 : Int32) (6 : Int32) (zLen h r8) (zLen h r9) ∧ ∃ r13, zR h a1 2 = some r13 ∧ ∃ r14, zR h a0 2 = some r14 ∧ zO h r13 100 ∧ zO h r14 100 ∧ zcpok (0 : Int32) (0 : Int32) (6 : Int32) (zLen h r13) (zLen h r14) ∧ zg G mX5_copy (d + 1) 47 [.ref a0, .ref a1, .int (0 : Int32)] [] (zcp (zcp (zcp h r2 (0 : Int32).toNatClampNeg r4 (0 : Int32).toNatClampNeg (6 : Int32).toNatClampNeg) r8 (0 : Int32).toNatClampNeg r9 (0 : Int32).toNatClampNeg (6 : Int32).toNatClampNeg) r13 (0 : Int32).toNatClampNeg r14 (0 : Int32).toNatClampNeg (6 : Int32).toNatClampNeg) (zPV Q)) : zg G mX5_copy (d + 1) 0 [.ref a0, .ref a1, zU] [] h (zPV Q) := by
  refine z_aload_n 0 rfl rfl ?_
  obtain ⟨o1, B⟩ := B
  obtain ⟨r2, hr2, B⟩ := B
  refine z_getR 1 rfl lX5_9 rfl o1 hr2 ?_
  refine z_iconst (v := 0) 2 rfl (by decide) ?_
  refine z_aload_n 3 rfl rfl ?_
  obtain ⟨o3, B⟩ := B
  obtain ⟨r4, hr4, B⟩ := B
  refine z_getR 4 rfl lX5_9 rfl o3 hr4 ?_
  refine z_iconst (v := 0) 5 rfl (by decide) ?_
  refine z_bipush (v := 6) 6 rfl (by decide) ?_
  obtain ⟨o5, B⟩ := B
  obtain ⟨o6, B⟩ := B
  obtain ⟨o7, B⟩ := B
  refine z_acopy 7 rfl gacX5 o5 o6 o7 (Nat.le_of_ble_eq_true rfl) ?_
  refine z_aload_n 8 rfl rfl ?_
  obtain ⟨r8, hr8, B⟩ := B
  refine z_getR 9 rfl lX5_15 rfl o1 hr8 ?_
  refine z_iconst (v := 0) 10 rfl (by decide) ?_
  refine z_aload_n 11 rfl rfl ?_
  obtain ⟨r9, hr9, B⟩ := B
  refine z_getR 12 rfl lX5_15 rfl o3 hr9 ?_
  refine z_iconst (v := 0) 13 rfl (by decide) ?_
  refine z_bipush (v := 6) 14 rfl (by decide) ?_
  obtain ⟨o10, B⟩ := B
  obtain ⟨o11, B⟩ := B
  obtain ⟨o12, B⟩ := B
  refine z_acopy 15 rfl gacX5 o10 o11 o12 (Nat.le_of_ble_eq_true rfl) ?_
  refine z_aload_n 16 rfl rfl ?_
  obtain ⟨r13, hr13, B⟩ := B
  refine z_getR 17 rfl lX5_18 rfl o1 hr13 ?_
  refine z_iconst (v := 0) 18 rfl (by decide) ?_
  refine z_aload_n 19 rfl rfl ?_
  obtain ⟨r14, hr14, B⟩ := B
  refine z_getR 20 rfl lX5_18 rfl o3 hr14 ?_
  refine z_iconst (v := 0) 21 rfl (by decide) ?_
  refine z_bipush (v := 6) 22 rfl (by decide) ?_
  obtain ⟨o15, B⟩ := B
  obtain ⟨o16, B⟩ := B
  obtain ⟨o17, B⟩ := B
  refine z_acopy 23 rfl gacX5 o15 o16 o17 (Nat.le_of_ble_eq_true rfl) ?_
  refine z_iconst (v := 0) 24 rfl (by decide) ?_
  refine z_istore_n 25 rfl (by decide) rfl ?_
  exact B
theorem cn_X5_copy {G : zG} {d : Nat} {h : zMem} {Q : zMem → Prop} {a0 : Nat} {a1 : Nat} (B : zg G mX5_copy (d + 1) 0 [.ref a0, .ref a1, zU] [] h (zPV Q)) : zConV G mX5_copy (d + 1) [.ref a0, .ref a1] h Q := zcon0 (by decide +kernel) eX5_copy (Nat.le_of_ble_eq_true rfl) rfl B
set_option maxRecDepth 100000 in
set_option maxHeartbeats 4000000 in
theorem sg_X5_copy_47 {G : zG} {d : Nat} {h : zMem} {Q : zMem → Prop} {a0 : Nat} {a1 : Nat} {x2 : Int32} (B : ((6 : Int32) ≤ x2 → zO h a1 5 ∧ ∃ r3, zR h a1 4 = some r3 ∧ zO h a0 5 ∧ ∃ r5, zR h a0 4 = some r5 ∧ zO h r3 100 ∧ zO h r5 100 ∧ zcpok (0 : Int32) (0 : Int32) (5 : Int32) (zLen h r3) (zLen h r5) ∧ ∃ r9, zR h a1 5 = some r9 ∧ ∃ r10, zR h a0 5 = some r10 ∧ zO h r9 100 ∧ zO h r10 100 ∧ zcpok (0 : Int32) (0 : Int32) (5 : Int32) (zLen h r9) (zLen h r10) ∧ ∃ r14, zR h a1 6 = some r14 ∧ ∃ r15, zR h a0 6 = some r15 ∧ zO h r14 100 ∧ zO h r15 100 ∧ zcpok (0 : Int32) (0 : Int32) (5 : Int32) (zLen h r14) (zLen h r15) ∧ ∃ r19, zR h a1 7 = some r19 ∧ ∃ r20, zR h a0 7 = some r20 ∧ zO h r19 100 ∧ zO h r20 100 ∧ zcpok (0 : Int32) (0 : Int32) (5 : Int32) (zLen h r19) (zLen h r20) ∧ Q (zsI (zsI (zsI (zsI (zsI (zcp (zcp (zcp (zcp h r3 (0 : Int32).toNatClampNeg r5 (0 : Int32).toNatClampNeg (5 : Int32).toNatClampNeg) r9 (0 : Int32).toNatClampNeg r10 (0 : Int32).toNatClampNeg (5 : Int32).toNatClampNeg) r14 (0 : Int32).toNatClampNeg r15 (0 : Int32).toNatClampNeg (5 : Int32).toNatClampNeg) r19 (0 : Int32).toNatClampNeg r20 (0 : Int32).toNatClampNeg (5 : Int32).toNatClampNeg) a0 10 (zI (zcp (zcp (zcp (zcp h r3 (0 : Int32).toNatClampNeg r5 (0 : Int32).toNatClampNeg (5 : Int32).toNatClampNeg) r9 (0 : Int32).toNatClampNeg r10 (0 : Int32).toNatClampNeg (5 : Int32).toNatClampNeg) r14 (0 : Int32).toNatClampNeg r15 (0 : Int32).toNatClampNeg (5 : Int32).toNatClampNeg) r19 (0 : Int32).toNatClampNeg r20 (0 : Int32).toNatClampNeg (5 : Int32).toNatClampNeg) a1 10)) a0 11 (zI (zsI (zcp (zcp (zcp (zcp h r3 (0 : Int32).toNatClampNeg r5 (0 : Int32).toNatClampNeg (5 : Int32).toNatClampNeg) r9 (0 : Int32).toNatClampNeg r10 (0 : Int32).toNatClampNeg (5 : Int32).toNatClampNeg) r14 (0 : Int32).toNatClampNeg r15 (0 : Int32).toNatClampNeg (5 : Int32).toNatClampNeg) r19 (0 : Int32).toNatClampNeg r20 (0 : Int32).toNatClampNeg (5 : Int32).toNatClampNeg) a0 10 (zI (zcp (zcp (zcp (zcp h r3 (0 : Int32).toNatClampNeg r5 (0 : Int32).toNatClampNeg (5 : Int32).toNatClampNeg) r9 (0 : Int32).toNatClampNeg r10 (0 : Int32).toNatClampNeg (5 : Int32).toNatClampNeg) r14 (0 : Int32).toNatClampNeg r15 (0 : Int32).toNatClampNeg (5 : Int32).toNatClampNeg) r19 (0 : Int32).toNatClampNeg r20 (0 : Int32).toNatClampNeg (5 : Int32).toNatClampNeg) a1 10)) a1 11)) a0 12 (zI (zsI (zsI (zcp (zcp (zcp (zcp h r3 (0 : Int32).toNatClampNeg r5 (0 : Int32).toNatClampNeg (5 : Int32).toNatClampNeg) r9 (0 : Int32).toNatClampNeg r10 (0 : Int32).toNatClampNeg (5 : Int32).toNatClampNeg) r14 (0 : Int32).toNatClampNeg r15 (0 : Int32).toNatClampNeg (5 : Int32).toNatClampNeg) r19 (0 : Int32).toNatClampNeg r20 (0 : Int32).toNatClampNeg (5 : Int32).toNatClampNeg) a0 10 (zI (zcp (zcp (zcp (zcp h r3 (0 : Int32).toNatClampNeg r5 (0 : Int32).toNatClampNeg (5 : Int32).toNatClampNeg) r9 (0 : Int32).toNatClampNeg r10 (0 : Int32).toNatClampNeg (5 : Int32).toNatClampNeg) r14 (0 : Int32).toNatClampNeg r15 (0 : Int32).toNatClampNeg (5 : Int32).toNatClampNeg) r19 (0 : Int32).toNatClampNeg r20 (0 : Int32).toNatClampNeg (5 : Int32).toNatClampNeg) a1 10)) a0 11 (zI (zsI (zcp (zcp (zcp (zcp h r3 (0 : Int32).toNatClampNeg r5 (0 : Int32).toNatClampNeg (5 : Int32).toNatClampNeg) r9 (0 : Int32).toNatClampNeg r10 (0 : Int32).toNatClampNeg (5 : Int32).toNatClampNeg) r14 (0 : Int32).toNatClampNeg r15 (0 : Int32).toNatClampNeg (5 : Int32).toNatClampNeg) r19 (0 : Int32).toNatClampNeg r20 (0 : Int32).toNatClampNeg (5 : Int32).toNatClampNeg) a0 10 (zI (zcp (zcp (zcp (zcp h r3 (0 : Int32).toNatClampNeg r5 (0 : Int32).toNatClampNeg (5 : Int32).toNatClampNeg) r9 (0 : Int32).toNatClampNeg r10 (0 : Int32).toNatClampNeg (5 : Int32).toNatClampNeg) r14 (0 : Int32).toNatClampNeg r15 (0 : Int32).toNatClampNeg (5 : Int32).toNatClampNeg) r19 (0 : Int32).toNatClampNeg r20 (0 : Int32).toNatClampNeg (5 : Int32).toNatClampNeg) a1 10)) a1 11)) a1 12)) a0 13 (zI (zsI (zsI (zsI (zcp (zcp (zcp (zcp h r3 (0 : Int32).toNatClampNeg r5 (0 : Int32).toNatClampNeg (5 : Int32).toNatClampNeg) r9 (0 : Int32).toNatClampNeg r10 (0 : Int32).toNatClampNeg (5 : Int32).toNatClampNeg) r14 (0 : Int32).toNatClampNeg r15 (0 : Int32).toNatClampNeg (5 : Int32).toNatClampNeg) r19 (0 : Int32).toNatClampNeg r20 (0 : Int32).toNatClampNeg (5 : Int32).toNatClampNeg) a0 10 (zI (zcp (zcp (zcp (zcp h r3 (0 : Int32).toNatClampNeg r5 (0 : Int32).toNatClampNeg (5 : Int32).toNatClampNeg) r9 (0 : Int32).toNatClampNeg r10 (0 : Int32).toNatClampNeg (5 : Int32).toNatClampNeg) r14 (0 : Int32).toNatClampNeg r15 (0 : Int32).toNatClampNeg (5 : Int32).toNatClampNeg) r19 (0 : Int32).toNatClampNeg r20 (0 : Int32).toNatClampNeg (5 : Int32).toNatClampNeg) a1 10)) a0 11 (zI (zsI (zcp (zcp (zcp (zcp h r3 (0 : Int32).toNatClampNeg r5 (0 : Int32).toNatClampNeg (5 : Int32).toNatClampNeg) r9 (0 : Int32).toNatClampNeg r10 (0 : Int32).toNatClampNeg (5 : Int32).toNatClampNeg) r14 (0 : Int32).toNatClampNeg r15 (0 : Int32).toNatClampNeg (5 : Int32).toNatClampNeg) r19 (0 : Int32).toNatClampNeg r20 (0 : Int32).toNatClampNeg (5 : Int32).toNatClampNeg) a0 10 (zI (zcp (zcp (zcp (zcp h r3 (0 : Int32).toNatClampNeg r5 (0 : Int32).toNatClampNeg (5 : Int32).toNatClampNeg) r9 (0 : Int32).toNatClampNeg r10 (0 : Int32).toNatClampNeg (5 : Int32).toNatClampNeg) r14 (0 : Int32).toNatClampNeg r15 (0 : Int32).toNatClampNeg (5 : Int32).toNatClampNeg) r19 (0 : Int32).toNatClampNeg r20 (0 : Int32).toNatClampNeg (5 : Int32).toNatClampNeg) a1 10)) a1 11)) a0 12 (zI (zsI (zsI (zcp (zcp (zcp (zcp h r3 (0 : Int32).toNatClampNeg r5 (0 : Int32).toNatClampNeg (5 : Int32).toNatClampNeg) r9 (0 : Int32).toNatClampNeg r10 (0 : Int32).toNatClampNeg (5 : Int32).toNatClampNeg) r14 (0 : Int32).toNatClampNeg r15 (0 : Int32).toNatClampNeg (5 : Int32).toNatClampNeg) r19 (0 : Int32).toNatClampNeg r20 (0 : Int32).toNatClampNeg (5 : Int32).toNatClampNeg) a0 10 (zI (zcp (zcp (zcp (zcp h r3 (0 : Int32).toNatClampNeg r5 (0 : Int32).toNatClampNeg (5 : Int32).toNatClampNeg) r9 (0 : Int32).toNatClampNeg r10 (0 : Int32).toNatClampNeg (5 : Int32).toNatClampNeg) r14 (0 : Int32).toNatClampNeg r15 (0 : Int32).toNatClampNeg (5 : Int32).toNatClampNeg) r19 (0 : Int32).toNatClampNeg r20 (0 : Int32).toNatClampNeg (5 : Int32).toNatClampNeg) a1 10)) a0 11 (zI (zsI (zcp (zcp (zcp (zcp h r3 (0 : Int32).toNatClampNeg r5 (0 : Int32).toNatClampNeg (5 : Int32).toNatClampNeg) r9 (0 : Int32).toNatClampNeg r10 (0 : Int32).toNatClampNeg (5 : Int32).toNatClampNeg) r14 (0 : Int32).toNatClampNeg r15 (0 : Int32).toNatClampNeg (5 : Int32).toNatClampNeg) r19 (0 : Int32).toNatClampNeg r20 (0 : Int32).toNatClampNeg (5 : Int32).toNatClampNeg) a0 10 (zI (zcp (zcp (zcp (zcp h r3 (0 : Int32).toNatClampNeg r5 (0 : Int32).toNatClampNeg (5 : Int32).toNatClampNeg) r9 (0 : Int32).toNatClampNeg r10 (0 : Int32).toNatClampNeg (5 : Int32).toNatClampNeg) r14 (0 : Int32).toNatClampNeg r15 (0 : Int32).toNatClampNeg (5 : Int32).toNatClampNeg) r19 (0 : Int32).toNatClampNeg r20 (0 : Int32).toNatClampNeg (5 : Int32).toNatClampNeg) a1 10)) a1 11)) a1 12)) a1 13)) a0 14 (zI (zsI (zsI (zsI (zsI (zcp (zcp (zcp (zcp h r3 (0 : Int32).toNatClampNeg r5 (0 : Int32).toNatClampNeg (5 : Int32).toNatClampNeg) r9 (0 : Int32).toNatClampNeg r10 (0 : Int32).toNatClampNeg (5 : Int32).toNatClampNeg) r14 (0 : Int32).toNatClampNeg r15 (0 : Int32).toNatClampNeg (5 : Int32).toNatClampNeg) r19 (0 : Int32).toNatClampNeg r20 (0 : Int32).toNatClampNeg (5 : Int32).toNatClampNeg) a0 10 (zI (zcp (zcp (zcp (zcp h r3 (0 : Int32).toNatClampNeg r5 (0 : Int32).toNatClampNeg (5 : Int32).toNatClampNeg) r9 (0 : Int32).toNatClampNeg r10 (0 : Int32).toNatClampNeg (5 : Int32).toNatClampNeg) r14 (0 : Int32).toNatClampNeg r15 (0 : Int32).toNatClampNeg (5 : Int32).toNatClampNeg) r19 (0 : Int32).toNatClampNeg r20 (0 : Int32).toNatClampNeg (5 : Int32).toNatClampNeg) a1 10)) a0 11 (zI (zsI (zcp (zcp (zcp (zcp h r3 (0 : Int32).toNatClampNeg r5 (0 : Int32).toNatClampNeg (5 : Int32).toNatClampNeg) r9 (0 : Int32).toNatClampNeg r10 (0 : Int32).toNatClampNeg (5 : Int32).toNatClampNeg) r14 (0 : Int32).toNatClampNeg r15 (0 : Int32).toNatClampNeg (5 : Int32).toNatClampNeg) r19 (0 : Int32).toNatClampNeg r20 (0 : Int32).toNatClampNeg (5 : Int32).toNatClampNeg) a0 10 (zI (zcp (zcp (zcp (zcp h r3 (0 : Int32).toNatClampNeg r5 (0 : Int32).toNatClampNeg (5 : Int32).toNatClampNeg) r9 (0 : Int32).toNatClampNeg r10 (0 : Int32).toNatClampNeg (5 : Int32).toNatClampNeg) r14 (0 : Int32).toNatClampNeg r15 (0 : Int32).toNatClampNeg (5 : Int32).toNatClampNeg) r19 (0 : Int32).toNatClampNeg r20 (0 : Int32).toNatClampNeg (5 : Int32).toNatClampNeg) a1 10)) a1 11)) a0 12 (zI (zsI (zsI (zcp (zcp (zcp (zcp h r3 (0 : Int32).toNatClampNeg r5 (0 : Int32).toNatClampNeg (5 : Int32).toNatClampNeg) r9 (0 : Int32).toNatClampNeg r10 (0 : Int32).toNatClampNeg (5 : Int32).toNatClampNeg) r14 (0 : Int32).toNatClampNeg r15 (0 : Int32).toNatClampNeg (5 : Int32).toNatClampNeg) r19 (0 : Int32).toNatClampNeg r20 (0 : Int32).toNatClampNeg (5 : Int32).toNatClampNeg) a0 10 (zI (zcp (zcp (zcp (zcp h r3 (0 : Int32).toNatClampNeg r5 (0 : Int32).toNatClampNeg (5 : Int32).toNatClampNeg) r9 (0 : Int32).toNatClampNeg r10 (0 : Int32).toNatClampNeg (5 : Int32).toNatClampNeg) r14 (0 : Int32).toNatClampNeg r15 (0 : Int32).toNatClampNeg (5 : Int32).toNatClampNeg) r19 (0 : Int32).toNatClampNeg r20 (0 : Int32).toNatClampNeg (5 : Int32).toNatClampNeg) a1 10)) a0 11 (zI (zsI (zcp (zcp (zcp (zcp h r3 (0 : Int32).toNatClampNeg r5 (0 : Int32).toNatClampNeg (5 : Int32).toNatClampNeg) r9 (0 : Int32).toNatClampNeg r10 (0 : Int32).toNatClampNeg (5 : Int32).toNatClampNeg) r14 (0 : Int32).toNatClampNeg r15 (0 : Int32).toNatClampNeg (5 : Int32).toNatClampNeg) r19 (0 : Int32).toNatClampNeg r20 (0 : Int32).toNatClampNeg (5 : Int32).toNatClampNeg) a0 10 (zI (zcp (zcp (zcp (zcp h r3 (0 : Int32).toNatClampNeg r5 (0 : Int32).toNatClampNeg (5 : Int32).toNatClampNeg) r9 (0 : Int32).toNatClampNeg r10 (0 : Int32).toNatClampNeg (5 : Int32).toNatClampNeg) r14 (0 : Int32).toNatClampNeg r15 (0 : Int32).toNatClampNeg (5 : Int32).toNatClampNeg) r19 (0 : Int32).toNatClampNeg r20 (0 : Int32).toNatClampNeg (5 : Int32).toNatClampNeg) a1 10)) a1 11)) a1 12)) a0 13 (zI (zsI (zsI (zsI (zcp (zcp (zcp (zcp h r3 (0 : Int32).toNatClampNeg r5 (0 : Int32).toNatClampNeg (5 : Int32).toNatClampNeg) r9 (0 : Int32).toNatClampNeg r10 (0 : Int32).toNatClampNeg (5 : Int32).toNatClampNeg) r14 (0 : Int32).toNatClampNeg r15 (0 : Int32).toNatClampNeg (5 : Int32).toNatClampNeg) r19 (0 : Int32).toNatClampNeg r20 (0 : Int32).toNatClampNeg (5 : Int32).toNatClampNeg) a0 10 (zI (zcp (zcp (zcp (zcp h r3 (0 : Int32).toNatClampNeg r5 (0 : Int32).toNatClampNeg (5 : Int32).toNatClampNeg) r9 (0 : Int32).toNatClampNeg r10 (0 : Int32).toNatClampNeg (5 : Int32).toNatClampNeg) r14 (0 : Int32).toNatClampNeg r15 (0 : Int32).toNatClampNeg (5 : Int32).toNatClampNeg) r19 (0 : Int32).toNatClampNeg r20 (0 : Int32).toNatClampNeg (5 : Int32).toNatClampNeg) a1 10)) a0 11 (zI (zsI (zcp (zcp (zcp (zcp h r3 (0 : Int32).toNatClampNeg r5 (0 : Int32).toNatClampNeg (5 : Int32).toNatClampNeg) r9 (0 : Int32).toNatClampNeg r10 (0 : Int32).toNatClampNeg (5 : Int32).toNatClampNeg) r14 (0 : Int32).toNatClampNeg r15 (0 : Int32).toNatClampNeg (5 : Int32).toNatClampNeg) r19 (0 : Int32).toNatClampNeg r20 (0 : Int32).toNatClampNeg (5 : Int32).toNatClampNeg) a0 10 (zI (zcp (zcp (zcp (zcp h r3 (0 : Int32).toNatClampNeg r5 (0 : Int32).toNatClampNeg (5 : Int32).toNatClampNeg) r9 (0 : Int32).toNatClampNeg r10 (0 : Int32).toNatClampNeg (5 : Int32).toNatClampNeg) r14 (0 : Int32).toNatClampNeg r15 (0 : Int32).toNatClampNeg (5 : Int32).toNatClampNeg) r19 (0 : Int32).toNatClampNeg r20 (0 : Int32).toNatClampNeg (5 : Int32).toNatClampNeg) a1 10)) a1 11)) a0 12 (zI (zsI (zsI (zcp (zcp (zcp (zcp h r3 (0 : Int32).toNatClampNeg r5 (0 : Int32).toNatClampNeg (5 : Int32).toNatClampNeg) r9 (0 : Int32).toNatClampNeg r10 (0 : Int32).toNatClampNeg (5 : Int32).toNatClampNeg) r14 (0 : Int32).toNatClampNeg r15 (0 : Int32).toNatClampNeg (5 : Int32).toNatClampNeg) r19 (0 : Int32).toNatClampNeg r20 (0 : Int32).toNatClampNeg (5 : Int32).toNatClampNeg) a0 10 (zI (zcp (zcp (zcp (zcp h r3 (0 : Int32).toNatClampNeg r5 (0 : Int32).toNatClampNeg (5 : Int32).toNatClampNeg) r9 (0 : Int32).toNatClampNeg r10 (0 : Int32).toNatClampNeg (5 : Int32).toNatClampNeg) r14 (0 : Int32).toNatClampNeg r15 (0 : Int32).toNatClampNeg (5 : Int32).toNatClampNeg) r19 (0 : Int32).toNatClampNeg r20 (0 : Int32).toNatClampNeg (5 : Int32).toNatClampNeg) a1 10)) a0 11 (zI (zsI (zcp (zcp (zcp (zcp h r3 (0 : Int32).toNatClampNeg r5 (0 : Int32).toNatClampNeg (5 : Int32).toNatClampNeg) r9 (0 : Int32).toNatClampNeg r10 (0 : Int32).toNatClampNeg (5 : Int32).toNatClampNeg) r14 (0 : Int32).toNatClampNeg r15 (0 : Int32).toNatClampNeg (5 : Int32).toNatClampNeg) r19 (0 : Int32).toNatClampNeg r20 (0 : Int32).toNatClampNeg (5 : Int32).toNatClampNeg) a0 10 (zI (zcp (zcp (zcp (zcp h r3 (0 : Int32).toNatClampNeg r5 (0 : Int32).toNatClampNeg (5 : Int32).toNatClampNeg) r9 (0 : Int32).toNatClampNeg r10 (0 : Int32).toNatClampNeg (5 : Int32).toNatClampNeg) r14 (0 : Int32).toNatClampNeg r15 (0 : Int32).toNatClampNeg (5 : Int32).toNatClampNeg) r19 (0 : Int32).toNatClampNeg r20 (0 : Int32).toNatClampNeg (5 : Int32).toNatClampNeg) a1 10)) a1 11)) a1 12)) a1 13)) a1 14))) ∧ (¬ (6 : Int32) ≤ x2 → zO h a1 5 ∧ ∃ r25, zR h a1 3 = some r25 ∧ zO h r25 104 ∧ vp_in x2 (zLen h r25) ∧ ∃ r28, zR h r25 x2.toNatClampNeg = some r28 ∧ zO h a0 5 ∧ ∃ r30, zR h a0 3 = some r30 ∧ zO h r30 104 ∧ vp_in x2 (zLen h r30) ∧ ∃ r33, zR h r30 x2.toNatClampNeg = some r33 ∧ zO h r28 100 ∧ zO h r33 100 ∧ zcpok (0 : Int32) (0 : Int32) (6 : Int32) (zLen h r28) (zLen h r33) ∧ zg G mX5_copy (d + 1) 47 [.ref a0, .ref a1, .int (x2 + 1)] [] (zcp h r28 (0 : Int32).toNatClampNeg r33 (0 : Int32).toNatClampNeg (6 : Int32).toNatClampNeg) (zPV Q))) : zg G mX5_copy (d + 1) 47 [.ref a0, .ref a1, .int x2] [] h (zPV Q) := by
  refine z_iload_n 26 rfl rfl ?_
  refine z_bipush (v := 6) 27 rfl (by decide) ?_
  refine z_icmp_ge 28 78 rfl (by decide) ⟨fun c1 => ?_, fun c1 => ?_⟩
  · have B := B.1 c1
    refine z_aload_n 43 rfl rfl ?_
    obtain ⟨o2, B⟩ := B
    obtain ⟨r3, hr3, B⟩ := B
    refine z_getR 44 rfl lX5_26 rfl o2 hr3 ?_
    refine z_iconst (v := 0) 45 rfl (by decide) ?_
    refine z_aload_n 46 rfl rfl ?_
    obtain ⟨o4, B⟩ := B
    obtain ⟨r5, hr5, B⟩ := B
    refine z_getR 47 rfl lX5_26 rfl o4 hr5 ?_
    refine z_iconst (v := 0) 48 rfl (by decide) ?_
    refine z_iconst (v := 5) 49 rfl (by decide) ?_
    obtain ⟨o6, B⟩ := B
    obtain ⟨o7, B⟩ := B
    obtain ⟨o8, B⟩ := B
    refine z_acopy 50 rfl gacX5 o6 o7 o8 (Nat.le_of_ble_eq_true rfl) ?_
    refine z_aload_n 51 rfl rfl ?_
    obtain ⟨r9, hr9, B⟩ := B
    refine z_getR 52 rfl lX5_29 rfl o2 hr9 ?_
    refine z_iconst (v := 0) 53 rfl (by decide) ?_
    refine z_aload_n 54 rfl rfl ?_
    obtain ⟨r10, hr10, B⟩ := B
    refine z_getR 55 rfl lX5_29 rfl o4 hr10 ?_
    refine z_iconst (v := 0) 56 rfl (by decide) ?_
    refine z_iconst (v := 5) 57 rfl (by decide) ?_
    obtain ⟨o11, B⟩ := B
    obtain ⟨o12, B⟩ := B
    obtain ⟨o13, B⟩ := B
    refine z_acopy 58 rfl gacX5 o11 o12 o13 (Nat.le_of_ble_eq_true rfl) ?_
    refine z_aload_n 59 rfl rfl ?_
    obtain ⟨r14, hr14, B⟩ := B
    refine z_getR 60 rfl lX5_32 rfl o2 hr14 ?_
    refine z_iconst (v := 0) 61 rfl (by decide) ?_
    refine z_aload_n 62 rfl rfl ?_
    obtain ⟨r15, hr15, B⟩ := B
    refine z_getR 63 rfl lX5_32 rfl o4 hr15 ?_
    refine z_iconst (v := 0) 64 rfl (by decide) ?_
    refine z_iconst (v := 5) 65 rfl (by decide) ?_
    obtain ⟨o16, B⟩ := B
    obtain ⟨o17, B⟩ := B
    obtain ⟨o18, B⟩ := B
    refine z_acopy 66 rfl gacX5 o16 o17 o18 (Nat.le_of_ble_eq_true rfl) ?_
    refine z_aload_n 67 rfl rfl ?_
    obtain ⟨r19, hr19, B⟩ := B
    refine z_getR 68 rfl lX5_35 rfl o2 hr19 ?_
    refine z_iconst (v := 0) 69 rfl (by decide) ?_
    refine z_aload_n 70 rfl rfl ?_
    obtain ⟨r20, hr20, B⟩ := B
    refine z_getR 71 rfl lX5_35 rfl o4 hr20 ?_
    refine z_iconst (v := 0) 72 rfl (by decide) ?_
    refine z_iconst (v := 5) 73 rfl (by decide) ?_
    obtain ⟨o21, B⟩ := B
    obtain ⟨o22, B⟩ := B
    obtain ⟨o23, B⟩ := B
    refine z_acopy 74 rfl gacX5 o21 o22 o23 (Nat.le_of_ble_eq_true rfl) ?_
    refine z_aload_n 75 rfl rfl ?_
    refine z_aload_n 76 rfl rfl ?_
    refine z_getI 77 rfl lX5_55 rfl o2 ?_
    refine z_putI 78 rfl lX5_55 ⟨_, _, _, rfl, rfl⟩ rfl rfl rfl o4 ?_
    refine z_aload_n 79 rfl rfl ?_
    refine z_aload_n 80 rfl rfl ?_
    refine z_getI 81 rfl lX5_59 rfl o2 ?_
    refine z_putI 82 rfl lX5_59 ⟨_, _, _, rfl, rfl⟩ rfl rfl rfl o4 ?_
    refine z_aload_n 83 rfl rfl ?_
    refine z_aload_n 84 rfl rfl ?_
    refine z_getI 85 rfl lX5_62 rfl o2 ?_
    refine z_putI 86 rfl lX5_62 ⟨_, _, _, rfl, rfl⟩ rfl rfl rfl o4 ?_
    refine z_aload_n 87 rfl rfl ?_
    refine z_aload_n 88 rfl rfl ?_
    refine z_getI 89 rfl lX5_65 rfl o2 ?_
    refine z_putI 90 rfl lX5_65 ⟨_, _, _, rfl, rfl⟩ rfl rfl rfl o4 ?_
    refine z_aload_n 91 rfl rfl ?_
    refine z_aload_n 92 rfl rfl ?_
    refine z_getI 93 rfl lX5_68 rfl o2 ?_
    refine z_putI 94 rfl lX5_68 ⟨_, _, _, rfl, rfl⟩ rfl rfl rfl o4 ?_
    exact z_vret 95 rfl rfl ⟨rfl, rfl⟩ ⟨rfl, B⟩
  · have B := B.2 c1
    refine z_aload_n 29 rfl rfl ?_
    obtain ⟨o24, B⟩ := B
    obtain ⟨r25, hr25, B⟩ := B
    refine z_getR 30 rfl lX5_23 rfl o24 hr25 ?_
    refine z_iload_n 31 rfl rfl ?_
    obtain ⟨o26, B⟩ := B
    obtain ⟨o27, B⟩ := B
    obtain ⟨r28, hr28, B⟩ := B
    refine z_aald 32 rfl o26 o27 hr28 ?_
    refine z_iconst (v := 0) 33 rfl (by decide) ?_
    refine z_aload_n 34 rfl rfl ?_
    obtain ⟨o29, B⟩ := B
    obtain ⟨r30, hr30, B⟩ := B
    refine z_getR 35 rfl lX5_23 rfl o29 hr30 ?_
    refine z_iload_n 36 rfl rfl ?_
    obtain ⟨o31, B⟩ := B
    obtain ⟨o32, B⟩ := B
    obtain ⟨r33, hr33, B⟩ := B
    refine z_aald 37 rfl o31 o32 hr33 ?_
    refine z_iconst (v := 0) 38 rfl (by decide) ?_
    refine z_bipush (v := 6) 39 rfl (by decide) ?_
    obtain ⟨o34, B⟩ := B
    obtain ⟨o35, B⟩ := B
    obtain ⟨o36, B⟩ := B
    refine z_acopy 40 rfl gacX5 o34 o35 o36 (Nat.le_of_ble_eq_true rfl) ?_
    refine z_iinc (v := 1) 41 rfl rfl (by decide) (by decide) rfl ?_
    refine z_goto 42 47 rfl (by decide) ?_
    exact B
set_option maxRecDepth 100000 in
set_option maxHeartbeats 4000000 in
theorem sg_X5_clearAir_0 {G : zG} {d : Nat} {h : zMem} {Q : zMem → Prop} {a0 : Nat} (B : zg G mX5_clearAir d 2 [.ref a0, .int (0 : Int32), zU] [] h (zPV Q)) : zg G mX5_clearAir d 0 [.ref a0, zU, zU] [] h (zPV Q) := by
  refine z_iconst (v := 0) 0 rfl (by decide) ?_
  refine z_istore_n 1 rfl (by decide) rfl ?_
  exact B
theorem cn_X5_clearAir {G : zG} {d : Nat} {h : zMem} {Q : zMem → Prop} {a0 : Nat} (B : zg G mX5_clearAir d 0 [.ref a0, zU, zU] [] h (zPV Q)) : zConV G mX5_clearAir d [.ref a0] h Q := zcon0 (by decide +kernel) eX5_clearAir (Nat.le_of_ble_eq_true rfl) rfl B
set_option maxRecDepth 100000 in
set_option maxHeartbeats 4000000 in
theorem sg_X5_clearAir_2 {G : zG} {d : Nat} {h : zMem} {Q : zMem → Prop} {a0 : Nat} {x1 : Int32} (B : ((6 : Int32) ≤ x1 → Q h) ∧ (¬ (6 : Int32) ≤ x1 → zg G mX5_clearAir d 10 [.ref a0, .int x1, .int (0 : Int32)] [] h (zPV Q))) : zg G mX5_clearAir d 2 [.ref a0, .int x1, zU] [] h (zPV Q) := by
  refine z_iload_n 2 rfl rfl ?_
  refine z_bipush (v := 6) 3 rfl (by decide) ?_
  refine z_icmp_ge 4 37 rfl (by decide) ⟨fun c1 => ?_, fun c1 => ?_⟩
  · have B := B.1 c1
    exact z_vret 21 rfl rfl ⟨rfl, rfl⟩ ⟨rfl, B⟩
  · have B := B.2 c1
    refine z_iconst (v := 0) 5 rfl (by decide) ?_
    refine z_istore_n 6 rfl (by decide) rfl ?_
    exact B
set_option maxRecDepth 100000 in
set_option maxHeartbeats 4000000 in
theorem sg_X5_clearAir_10 {G : zG} {d : Nat} {h : zMem} {Q : zMem → Prop} {a0 : Nat} {x1 : Int32} {x2 : Int32} (B : ((6 : Int32) ≤ x2 → zg G mX5_clearAir d 2 [.ref a0, .int (x1 + 1), zU] [] h (zPV Q)) ∧ (¬ (6 : Int32) ≤ x2 → zO h a0 5 ∧ ∃ r3, zR h a0 3 = some r3 ∧ zO h r3 104 ∧ vp_in x1 (zLen h r3) ∧ ∃ r6, zR h r3 x1.toNatClampNeg = some r6 ∧ zO h r6 100 ∧ vp_in x2 (zLen h r6) ∧ zg G mX5_clearAir d 10 [.ref a0, .int x1, .int (x2 + 1)] [] (zsI h r6 x2.toNatClampNeg (0 : Int32)) (zPV Q))) : zg G mX5_clearAir d 10 [.ref a0, .int x1, .int x2] [] h (zPV Q) := by
  refine z_iload_n 7 rfl rfl ?_
  refine z_bipush (v := 6) 8 rfl (by decide) ?_
  refine z_icmp_ge 9 31 rfl (by decide) ⟨fun c1 => ?_, fun c1 => ?_⟩
  · have B := B.1 c1
    refine z_iinc (v := 1) 19 rfl rfl (by decide) (by decide) rfl ?_
    refine z_goto 20 2 rfl (by decide) ?_
    refine z_drop 2 ?_
    exact B
  · have B := B.2 c1
    refine z_aload_n 10 rfl rfl ?_
    obtain ⟨o2, B⟩ := B
    obtain ⟨r3, hr3, B⟩ := B
    refine z_getR 11 rfl lX5_23 rfl o2 hr3 ?_
    refine z_iload_n 12 rfl rfl ?_
    obtain ⟨o4, B⟩ := B
    obtain ⟨o5, B⟩ := B
    obtain ⟨r6, hr6, B⟩ := B
    refine z_aald 13 rfl o4 o5 hr6 ?_
    refine z_iload_n 14 rfl rfl ?_
    refine z_iconst (v := 0) 15 rfl (by decide) ?_
    obtain ⟨o7, B⟩ := B
    obtain ⟨o8, B⟩ := B
    refine z_iast 16 rfl o7 o8 ?_
    refine z_iinc (v := 1) 17 rfl rfl (by decide) (by decide) rfl ?_
    refine z_goto 18 10 rfl (by decide) ?_
    exact B
set_option maxRecDepth 100000 in
set_option maxHeartbeats 4000000 in
theorem sg_X5_goThroughMorning_0 {G : zG} {d : Nat} {h : zMem} {Q : zMem → Prop} {a0 : Nat} {a1 : Nat} (B : zO h a0 5 ∧ ∃ Q1 : zMem → Prop, zConV G mX5_takeOut d [.ref a0, .ref a1] h Q1 ∧ (∀ h2, Q1 h2 → zO h2 a0 5 ∧ ∃ Q4 : zMem → Prop, zConV G mX5_drift d [.ref a0, .ref a1] h2 Q4 ∧ (∀ h5, Q4 h5 → zg G mX5_goThroughMorning (d + 1) 12 [.ref a0, .ref a1, .int (0 : Int32)] [] h5 (zPV Q)))) : zg G mX5_goThroughMorning (d + 1) 0 [.ref a0, .ref a1, zU] [] h (zPV Q) := by
  refine z_aload_n 0 rfl rfl ?_
  refine z_aload_n 1 rfl rfl ?_
  obtain ⟨o8, B⟩ := B
  obtain ⟨Q1, K3, B⟩ := B
  refine z_cVV1 (ν := mX5_takeOut) 2 rfl rfl fX5_takeOut gX5_77 ⟨_, rfl, rfl⟩ (by decide) o8 (Nat.le_of_ble_eq_true rfl) K3 (fun h2 q => ?_)
  have B := B h2 q
  refine z_aload_n 3 rfl rfl ?_
  refine z_aload_n 4 rfl rfl ?_
  obtain ⟨o7, B⟩ := B
  obtain ⟨Q4, K6, B⟩ := B
  refine z_cVV1 (ν := mX5_drift) 5 rfl rfl fX5_drift gX5_81 ⟨_, rfl, rfl⟩ (by decide) o7 (Nat.le_of_ble_eq_true rfl) K6 (fun h5 q => ?_)
  have B := B h5 q
  refine z_iconst (v := 0) 6 rfl (by decide) ?_
  refine z_istore_n 7 rfl (by decide) rfl ?_
  exact B
theorem cn_X5_goThroughMorning {G : zG} {d : Nat} {h : zMem} {Q : zMem → Prop} {a0 : Nat} {a1 : Nat} (B : zg G mX5_goThroughMorning (d + 1) 0 [.ref a0, .ref a1, zU] [] h (zPV Q)) : zConV G mX5_goThroughMorning (d + 1) [.ref a0, .ref a1] h Q := zcon0 (by decide +kernel) eX5_goThroughMorning (Nat.le_of_ble_eq_true rfl) rfl B
set_option maxRecDepth 100000 in
set_option maxHeartbeats 4000000 in
theorem sg_X5_goThroughMorning_12 {G : zG} {d : Nat} {h : zMem} {Q : zMem → Prop} {a0 : Nat} {a1 : Nat} {x2 : Int32} (B : zO h a1 6 ∧ ∃ r2, zR h a1 0 = some r2 ∧ zO h r2 100 ∧ vp_in (3 : Int32) (zLen h r2) ∧ ((zI h r2 (3 : Int32).toNatClampNeg) ≤ x2 → zO h a0 5 ∧ ∃ Q6 : zMem → Prop, zConV G mX5_vote d [.ref a0, .ref a1] h Q6 ∧ (∀ h7, Q6 h7 → zg G mX5_goThroughMorning (d + 1) 53 [.ref a0, .ref a1, .int (0 : Int32)] [] h7 (zPV Q))) ∧ (¬ (zI h r2 (3 : Int32).toNatClampNeg) ≤ x2 → zO h a0 5 ∧ ∃ r11, zR h a0 4 = some r11 ∧ zO h r11 100 ∧ vp_in x2 (zLen h r11) ∧ ∃ Q14 : Int32 → zMem → Prop, zConI G mX5_keenOf d [.ref a0, .ref a1, .int x2, .int (zI h r11 x2.toNatClampNeg)] h Q14 ∧ (∀ v17 h15, Q14 v17 h15 → zO h15 a0 5 ∧ ∃ Q18 : zMem → Prop, zConV G mX5_smellAndThink d [.ref a0, .ref a1, .int x2, .int v17] h15 Q18 ∧ (∀ h19, Q18 h19 → zg G mX5_goThroughMorning (d + 1) 12 [.ref a0, .ref a1, .int (x2 + 1)] [] h19 (zPV Q))))) : zg G mX5_goThroughMorning (d + 1) 12 [.ref a0, .ref a1, .int x2] [] h (zPV Q) := by
  refine z_iload_n 8 rfl rfl ?_
  refine z_aload_n 9 rfl rfl ?_
  obtain ⟨o1, B⟩ := B
  obtain ⟨r2, hr2, B⟩ := B
  refine z_getR 10 rfl lX5_49 rfl o1 hr2 ?_
  refine z_iconst (v := 3) 11 rfl (by decide) ?_
  obtain ⟨o3, B⟩ := B
  obtain ⟨o4, B⟩ := B
  refine z_iald 12 rfl o3 o4 ?_
  refine z_icmp_ge 13 46 rfl (by decide) ⟨fun c5 => ?_, fun c5 => ?_⟩
  · have B := B.1 c5
    refine z_aload_n 28 rfl rfl ?_
    refine z_aload_n 29 rfl rfl ?_
    obtain ⟨o9, B⟩ := B
    obtain ⟨Q6, K8, B⟩ := B
    refine z_cVV1 (ν := mX5_vote) 30 rfl rfl fX5_vote gX5_92 ⟨_, rfl, rfl⟩ (by decide) o9 (Nat.le_of_ble_eq_true rfl) K8 (fun h7 q => ?_)
    have B := B h7 q
    refine z_iconst (v := 0) 31 rfl (by decide) ?_
    refine z_istore_n 32 rfl (by decide) rfl ?_
    exact B
  · have B := B.2 c5
    refine z_aload_n 14 rfl rfl ?_
    refine z_aload_n 15 rfl rfl ?_
    refine z_iload_n 16 rfl rfl ?_
    refine z_aload_n 17 rfl rfl ?_
    refine z_aload_n 18 rfl rfl ?_
    refine z_iload_n 19 rfl rfl ?_
    refine z_aload_n 20 rfl rfl ?_
    obtain ⟨o10, B⟩ := B
    obtain ⟨r11, hr11, B⟩ := B
    refine z_getR 21 rfl lX5_26 rfl o10 hr11 ?_
    refine z_iload_n 22 rfl rfl ?_
    obtain ⟨o12, B⟩ := B
    obtain ⟨o13, B⟩ := B
    refine z_iald 23 rfl o12 o13 ?_
    obtain ⟨Q14, K16, B⟩ := B
    refine z_cVI3 (ν := mX5_keenOf) 24 rfl rfl fX5_keenOf gX5_84 ⟨_, rfl, rfl⟩ (by decide) o10 (Nat.le_of_ble_eq_true rfl) K16 (fun v17 h15 q => ?_)
    have B := B v17 h15 q
    obtain ⟨o21, B⟩ := B
    obtain ⟨Q18, K20, B⟩ := B
    refine z_cVV3 (ν := mX5_smellAndThink) 25 rfl rfl fX5_smellAndThink gX5_88 ⟨_, rfl, rfl⟩ (by decide) o21 (Nat.le_of_ble_eq_true rfl) K20 (fun h19 q => ?_)
    have B := B h19 q
    refine z_iinc (v := 1) 26 rfl rfl (by decide) (by decide) rfl ?_
    refine z_goto 27 12 rfl (by decide) ?_
    exact B
set_option maxRecDepth 100000 in
set_option maxHeartbeats 4000000 in
theorem sg_X5_goThroughMorning_53 {G : zG} {d : Nat} {h : zMem} {Q : zMem → Prop} {a0 : Nat} {a1 : Nat} {x2 : Int32} (B : ((6 : Int32) ≤ x2 → zO h a0 5 ∧ Q (zsI h a0 10 ((zI h a0 10) + (1 : Int32)))) ∧ (¬ (6 : Int32) ≤ x2 → zO h a0 5 ∧ ∃ r4, zR h a0 1 = some r4 ∧ zO h r4 100 ∧ vp_in x2 (zLen h r4) ∧ zg G mX5_goThroughMorning (d + 1) 53 [.ref a0, .ref a1, .int (x2 + 1)] [] (zsI h r4 x2.toNatClampNeg (0 : Int32)) (zPV Q))) : zg G mX5_goThroughMorning (d + 1) 53 [.ref a0, .ref a1, .int x2] [] h (zPV Q) := by
  refine z_iload_n 33 rfl rfl ?_
  refine z_bipush (v := 6) 34 rfl (by decide) ?_
  refine z_icmp_ge 35 72 rfl (by decide) ⟨fun c1 => ?_, fun c1 => ?_⟩
  · have B := B.1 c1
    refine z_aload_n 43 rfl rfl ?_
    refine z_dup 44 rfl rfl ?_
    obtain ⟨o2, B⟩ := B
    refine z_getI 45 rfl lX5_55 rfl o2 ?_
    refine z_iconst (v := 1) 46 rfl (by decide) ?_
    refine z_iadd 47 rfl ?_
    refine z_putI 48 rfl lX5_55 ⟨_, _, _, rfl, rfl⟩ rfl rfl rfl o2 ?_
    exact z_vret 49 rfl rfl ⟨rfl, rfl⟩ ⟨rfl, B⟩
  · have B := B.2 c1
    refine z_aload_n 36 rfl rfl ?_
    obtain ⟨o3, B⟩ := B
    obtain ⟨r4, hr4, B⟩ := B
    refine z_getR 37 rfl lX5_15 rfl o3 hr4 ?_
    refine z_iload_n 38 rfl rfl ?_
    refine z_iconst (v := 0) 39 rfl (by decide) ?_
    obtain ⟨o5, B⟩ := B
    obtain ⟨o6, B⟩ := B
    refine z_iast 40 rfl o5 o6 ?_
    refine z_iinc (v := 1) 41 rfl rfl (by decide) (by decide) rfl ?_
    refine z_goto 42 53 rfl (by decide) ?_
    exact B
set_option maxRecDepth 100000 in
set_option maxHeartbeats 4000000 in
theorem sg_X5_firstShort_0 {G : zG} {d : Nat} {h : zMem} {Q : Int32 → zMem → Prop} {a0 : Nat} {a1 : Nat} (B : zg G mX5_firstShort (d + 1) 2 [.ref a0, .ref a1, .int (0 : Int32)] [] h (zPI Q)) : zg G mX5_firstShort (d + 1) 0 [.ref a0, .ref a1, zU] [] h (zPI Q) := by
  refine z_iconst (v := 0) 0 rfl (by decide) ?_
  refine z_istore_n 1 rfl (by decide) rfl ?_
  exact B
theorem cn_X5_firstShort {G : zG} {d : Nat} {h : zMem} {Q : Int32 → zMem → Prop} {a0 : Nat} {a1 : Nat} (B : zg G mX5_firstShort (d + 1) 0 [.ref a0, .ref a1, zU] [] h (zPI Q)) : zConI G mX5_firstShort (d + 1) [.ref a0, .ref a1] h Q := zcon0 (by decide +kernel) eX5_firstShort (Nat.le_of_ble_eq_true rfl) rfl B
set_option maxRecDepth 100000 in
set_option maxHeartbeats 4000000 in
theorem sg_X5_firstShort_2 {G : zG} {d : Nat} {h : zMem} {Q : Int32 → zMem → Prop} {a0 : Nat} {a1 : Nat} {x2 : Int32} (B : zO h a1 6 ∧ ∃ r2, zR h a1 0 = some r2 ∧ zO h r2 100 ∧ vp_in (0 : Int32) (zLen h r2) ∧ ((zI h r2 (0 : Int32).toNatClampNeg) ≤ x2 → Q (-1 : Int32) h) ∧ (¬ (zI h r2 (0 : Int32).toNatClampNeg) ≤ x2 → zO h a0 5 ∧ ∃ Q7 : Int32 → zMem → Prop, zConI G mX7_mixedOn d [.ref a1, .int (zI h a0 10), .int x2] h Q7 ∧ (∀ v10 h8, Q7 v10 h8 → zO h8 a0 5 ∧ ∃ r12, zR h8 a0 0 = some r12 ∧ zO h8 r12 100 ∧ vp_in x2 (zLen h8 r12) ∧ (v10 ≤ (zI h8 r12 x2.toNatClampNeg) → zg G mX5_firstShort (d + 1) 2 [.ref a0, .ref a1, .int (x2 + 1)] [] h8 (zPI Q)) ∧ (¬ v10 ≤ (zI h8 r12 x2.toNatClampNeg) → Q x2 h8)))) : zg G mX5_firstShort (d + 1) 2 [.ref a0, .ref a1, .int x2] [] h (zPI Q) := by
  refine z_iload_n 2 rfl rfl ?_
  refine z_aload_n 3 rfl rfl ?_
  obtain ⟨o1, B⟩ := B
  obtain ⟨r2, hr2, B⟩ := B
  refine z_getR 4 rfl lX5_49 rfl o1 hr2 ?_
  refine z_iconst (v := 0) 5 rfl (by decide) ?_
  obtain ⟨o3, B⟩ := B
  obtain ⟨o4, B⟩ := B
  refine z_iald 6 rfl o3 o4 ?_
  refine z_icmp_ge 7 38 rfl (by decide) ⟨fun c5 => ?_, fun c5 => ?_⟩
  · have B := B.1 c5
    refine z_iconst (v := -1) 22 rfl (by decide) ?_
    exact z_iret 23 rfl rfl rfl ⟨rfl, rfl⟩ ⟨_, rfl, B⟩
  · have B := B.2 c5
    refine z_aload_n 8 rfl rfl ?_
    refine z_aload_n 9 rfl rfl ?_
    obtain ⟨o6, B⟩ := B
    refine z_getI 10 rfl lX5_55 rfl o6 ?_
    refine z_iload_n 11 rfl rfl ?_
    obtain ⟨Q7, K9, B⟩ := B
    refine z_cVI2 (ν := mX7_mixedOn) 12 rfl rfl fX7_mixedOn gX5_95 ⟨_, rfl, rfl⟩ (by decide) o1 (Nat.le_of_ble_eq_true rfl) K9 (fun v10 h8 q => ?_)
    have B := B v10 h8 q
    refine z_aload_n 13 rfl rfl ?_
    obtain ⟨o11, B⟩ := B
    obtain ⟨r12, hr12, B⟩ := B
    refine z_getR 14 rfl lX5_9 rfl o11 hr12 ?_
    refine z_iload_n 15 rfl rfl ?_
    obtain ⟨o13, B⟩ := B
    obtain ⟨o14, B⟩ := B
    refine z_iald 16 rfl o13 o14 ?_
    refine z_icmp_le 17 32 rfl (by decide) ⟨fun c15 => ?_, fun c15 => ?_⟩
    · have B := B.1 c15
      refine z_iinc (v := 1) 20 rfl rfl (by decide) (by decide) rfl ?_
      refine z_goto 21 2 rfl (by decide) ?_
      exact B
    · have B := B.2 c15
      refine z_iload_n 18 rfl rfl ?_
      exact z_iret 19 rfl rfl rfl ⟨rfl, rfl⟩ ⟨_, rfl, B⟩
set_option maxRecDepth 100000 in
set_option maxHeartbeats 4000000 in
theorem sg_X5_takeOut_0 {G : zG} {d : Nat} {h : zMem} {Q : zMem → Prop} {a0 : Nat} {a1 : Nat} (B : zg G mX5_takeOut (d + 1) 2 [.ref a0, .ref a1, .int (0 : Int32)] [] h (zPV Q)) : zg G mX5_takeOut (d + 1) 0 [.ref a0, .ref a1, zU] [] h (zPV Q) := by
  refine z_iconst (v := 0) 0 rfl (by decide) ?_
  refine z_istore_n 1 rfl (by decide) rfl ?_
  exact B
theorem cn_X5_takeOut {G : zG} {d : Nat} {h : zMem} {Q : zMem → Prop} {a0 : Nat} {a1 : Nat} (B : zg G mX5_takeOut (d + 1) 0 [.ref a0, .ref a1, zU] [] h (zPV Q)) : zConV G mX5_takeOut (d + 1) [.ref a0, .ref a1] h Q := zcon0 (by decide +kernel) eX5_takeOut (Nat.le_of_ble_eq_true rfl) rfl B
set_option maxRecDepth 100000 in
set_option maxHeartbeats 4000000 in
theorem sg_X5_takeOut_2 {G : zG} {d : Nat} {h : zMem} {Q : zMem → Prop} {a0 : Nat} {a1 : Nat} {x2 : Int32} (B : zO h a1 6 ∧ ∃ r2, zR h a1 0 = some r2 ∧ zO h r2 100 ∧ vp_in (0 : Int32) (zLen h r2) ∧ ((zI h r2 (0 : Int32).toNatClampNeg) ≤ x2 → Q h) ∧ (¬ (zI h r2 (0 : Int32).toNatClampNeg) ≤ x2 → zO h a0 5 ∧ ∃ r7, zR h a0 8 = some r7 ∧ ∃ Q8 : Int32 → zMem → Prop, zConI G mX7_mixedOn d [.ref a1, .int (zI h a0 10), .int x2] h Q8 ∧ (∀ v11 h9, Q8 v11 h9 → zO h9 a0 5 ∧ ∃ r13, zR h9 a0 0 = some r13 ∧ zO h9 r13 100 ∧ vp_in x2 (zLen h9 r13) ∧ zO h9 r7 100 ∧ vp_in x2 (zLen h9 r7) ∧ ∃ r18, zR h9 a0 8 = some r18 ∧ zO h9 r18 100 ∧ vp_in x2 (zLen h9 r18) ∧ zg G mX5_takeOut (d + 1) 2 [.ref a0, .ref a1, .int (x2 + 1)] [] (zsI (zsI h9 r7 x2.toNatClampNeg (if (zI h9 r13 x2.toNatClampNeg) < v11 then (zI h9 r13 x2.toNatClampNeg) else v11)) r13 x2.toNatClampNeg ((zI (zsI h9 r7 x2.toNatClampNeg (if (zI h9 r13 x2.toNatClampNeg) < v11 then (zI h9 r13 x2.toNatClampNeg) else v11)) r13 x2.toNatClampNeg) - (zI (zsI h9 r7 x2.toNatClampNeg (if (zI h9 r13 x2.toNatClampNeg) < v11 then (zI h9 r13 x2.toNatClampNeg) else v11)) r18 x2.toNatClampNeg))) (zPV Q)))) : zg G mX5_takeOut (d + 1) 2 [.ref a0, .ref a1, .int x2] [] h (zPV Q) := by
  refine z_iload_n 2 rfl rfl ?_
  refine z_aload_n 3 rfl rfl ?_
  obtain ⟨o1, B⟩ := B
  obtain ⟨r2, hr2, B⟩ := B
  refine z_getR 4 rfl lX5_49 rfl o1 hr2 ?_
  refine z_iconst (v := 0) 5 rfl (by decide) ?_
  obtain ⟨o3, B⟩ := B
  obtain ⟨o4, B⟩ := B
  refine z_iald 6 rfl o3 o4 ?_
  refine z_icmp_ge 7 57 rfl (by decide) ⟨fun c5 => ?_, fun c5 => ?_⟩
  · have B := B.1 c5
    exact z_vret 35 rfl rfl ⟨rfl, rfl⟩ ⟨rfl, B⟩
  · have B := B.2 c5
    refine z_aload_n 8 rfl rfl ?_
    obtain ⟨o6, B⟩ := B
    obtain ⟨r7, hr7, B⟩ := B
    refine z_getR 9 rfl lX5_38 rfl o6 hr7 ?_
    refine z_iload_n 10 rfl rfl ?_
    refine z_aload_n 11 rfl rfl ?_
    refine z_aload_n 12 rfl rfl ?_
    refine z_getI 13 rfl lX5_55 rfl o6 ?_
    refine z_iload_n 14 rfl rfl ?_
    obtain ⟨Q8, K10, B⟩ := B
    refine z_cVI2 (ν := mX7_mixedOn) 15 rfl rfl fX7_mixedOn gX5_95 ⟨_, rfl, rfl⟩ (by decide) o1 (Nat.le_of_ble_eq_true rfl) K10 (fun v11 h9 q => ?_)
    have B := B v11 h9 q
    refine z_aload_n 16 rfl rfl ?_
    obtain ⟨o12, B⟩ := B
    obtain ⟨r13, hr13, B⟩ := B
    refine z_getR 17 rfl lX5_9 rfl o12 hr13 ?_
    refine z_iload_n 18 rfl rfl ?_
    obtain ⟨o14, B⟩ := B
    obtain ⟨o15, B⟩ := B
    refine z_iald 19 rfl o14 o15 ?_
    refine z_mmin 20 rfl rfl gmX5_99 (Nat.le_of_ble_eq_true rfl) ?_
    obtain ⟨o16, B⟩ := B
    obtain ⟨o17, B⟩ := B
    refine z_iast 21 rfl o16 o17 ?_
    refine z_aload_n 22 rfl rfl ?_
    refine z_getR 23 rfl lX5_9 rfl o12 hr13 ?_
    refine z_iload_n 24 rfl rfl ?_
    refine z_dup2 25 rfl rfl rfl ?_
    refine z_iald 26 rfl o14 o15 ?_
    refine z_aload_n 27 rfl rfl ?_
    obtain ⟨r18, hr18, B⟩ := B
    refine z_getR 28 rfl lX5_38 rfl o12 hr18 ?_
    refine z_iload_n 29 rfl rfl ?_
    obtain ⟨o19, B⟩ := B
    obtain ⟨o20, B⟩ := B
    refine z_iald 30 rfl o19 o20 ?_
    refine z_isub 31 rfl ?_
    refine z_iast 32 rfl o14 o15 ?_
    refine z_iinc (v := 1) 33 rfl rfl (by decide) (by decide) rfl ?_
    refine z_goto 34 2 rfl (by decide) ?_
    exact B
set_option maxRecDepth 100000 in
set_option maxHeartbeats 4000000 in
theorem sg_X5_drift_0 {G : zG} {d : Nat} {h : zMem} {Q : zMem → Prop} {a0 : Nat} {a1 : Nat} (B : zg G mX5_drift (d + 1) 2 [.ref a0, .ref a1, .int (0 : Int32), zU, zU, zU, zU] [] h (zPV Q)) : zg G mX5_drift (d + 1) 0 [.ref a0, .ref a1, zU, zU, zU, zU, zU] [] h (zPV Q) := by
  refine z_iconst (v := 0) 0 rfl (by decide) ?_
  refine z_istore_n 1 rfl (by decide) rfl ?_
  exact B
theorem cn_X5_drift {G : zG} {d : Nat} {h : zMem} {Q : zMem → Prop} {a0 : Nat} {a1 : Nat} (B : zg G mX5_drift (d + 1) 0 [.ref a0, .ref a1, zU, zU, zU, zU, zU] [] h (zPV Q)) : zConV G mX5_drift (d + 1) [.ref a0, .ref a1] h Q := zcon0 (by decide +kernel) eX5_drift (Nat.le_of_ble_eq_true rfl) rfl B
set_option maxRecDepth 100000 in
set_option maxHeartbeats 4000000 in
theorem sg_X5_drift_2 {G : zG} {d : Nat} {h : zMem} {Q : zMem → Prop} {a0 : Nat} {a1 : Nat} {x2 : Int32} (B : zO h a1 6 ∧ ∃ r2, zR h a1 0 = some r2 ∧ zO h r2 100 ∧ vp_in (2 : Int32) (zLen h r2) ∧ ((zI h r2 (2 : Int32).toNatClampNeg) ≤ x2 → Q h) ∧ (¬ (zI h r2 (2 : Int32).toNatClampNeg) ≤ x2 → zg G mX5_drift (d + 1) 14 [.ref a0, .ref a1, .int x2, .int (0 : Int32), zU, zU, zU] [] h (zPV Q))) : zg G mX5_drift (d + 1) 2 [.ref a0, .ref a1, .int x2, zU, zU, zU, zU] [] h (zPV Q) := by
  refine z_iload_n 2 rfl rfl ?_
  refine z_aload_n 3 rfl rfl ?_
  obtain ⟨o1, B⟩ := B
  obtain ⟨r2, hr2, B⟩ := B
  refine z_getR 4 rfl lX5_49 rfl o1 hr2 ?_
  refine z_iconst (v := 2) 5 rfl (by decide) ?_
  obtain ⟨o3, B⟩ := B
  obtain ⟨o4, B⟩ := B
  refine z_iald 6 rfl o3 o4 ?_
  refine z_icmp_ge 7 124 rfl (by decide) ⟨fun c5 => ?_, fun c5 => ?_⟩
  · have B := B.1 c5
    exact z_vret 75 rfl rfl ⟨rfl, rfl⟩ ⟨rfl, B⟩
  · have B := B.2 c5
    refine z_iconst (v := 0) 8 rfl (by decide) ?_
    refine z_istore_n 9 rfl (by decide) rfl ?_
    exact B
set_option maxRecDepth 100000 in
set_option maxHeartbeats 4000000 in
theorem sg_X5_drift_14 {G : zG} {d : Nat} {h : zMem} {Q : zMem → Prop} {a0 : Nat} {a1 : Nat} {x2 : Int32} {x3 : Int32} (B : zO h a1 6 ∧ ∃ r2, zR h a1 0 = some r2 ∧ zO h r2 100 ∧ vp_in (0 : Int32) (zLen h r2) ∧ ((zI h r2 (0 : Int32).toNatClampNeg) ≤ x3 → zg G mX5_drift (d + 1) 2 [.ref a0, .ref a1, .int (x2 + 1), zU, zU, zU, zU] [] h (zPV Q)) ∧ (¬ (zI h r2 (0 : Int32).toNatClampNeg) ≤ x3 → zO h a0 5 ∧ ∃ r7, zR h a0 8 = some r7 ∧ zO h r7 100 ∧ vp_in x3 (zLen h r7) ∧ ∃ Q10 : Int64 → zMem → Prop, zConL G mX5_airLaw d [.ref a0, .ref a1, .int x2, .int x3, .int (zI h r7 x3.toNatClampNeg)] h Q10 ∧ (∀ v13 h11, Q10 v13 h11 → zO h11 a0 5 ∧ ∃ r15, zR h11 a0 3 = some r15 ∧ zO h11 r15 104 ∧ vp_in x2 (zLen h11 r15) ∧ ∃ r18, zR h11 r15 x2.toNatClampNeg = some r18 ∧ zO h11 r18 100 ∧ vp_in x3 (zLen h11 r18) ∧ zO h11 a1 6 ∧ (¬ (lg_cmp v13 (-9223372036854775808 : Int64)) = 0 → ∃ Q23 : Int32 → zMem → Prop, zConI G mX5_within d [.long v13, .int (0 : Int32), .int (9999 : Int32)] h11 Q23 ∧ (∀ v26 h24, Q23 v26 h24 → zO h24 r18 100 ∧ vp_in x3 (zLen h24 r18) ∧ zg G mX5_drift (d + 1) 14 [.ref a0, .ref a1, .int x2, .int (x3 + 1), zU, zU, zU] [] (zsI h24 r18 x3.toNatClampNeg v26) (zPV Q))) ∧ ((lg_cmp v13 (-9223372036854775808 : Int64)) = 0 → ∃ r29, zR h11 a0 8 = some r29 ∧ zO h11 r29 100 ∧ vp_in x3 (zLen h11 r29) ∧ ∃ r32, zR h11 a0 2 = some r32 ∧ zO h11 r32 100 ∧ vp_in x2 (zLen h11 r32) ∧ ∃ r35, zR h11 a0 1 = some r35 ∧ zO h11 r35 100 ∧ vp_in x3 (zLen h11 r35) ∧ zg G mX5_drift (d + 1) 14 [.ref a0, .ref a1, .int x2, .int (x3 + 1), zU, zU, zU] [] (zsI h11 r18 x3.toNatClampNeg (((((zI h11 r29 x3.toNatClampNeg) * (zI h11 r32 x2.toNatClampNeg)) / (100 : Int32)) + (((zI h11 r18 x3.toNatClampNeg) * (zI h11 a1 10)) / (100 : Int32))) + (zI h11 r35 x3.toNatClampNeg))) (zPV Q))))) : zg G mX5_drift (d + 1) 14 [.ref a0, .ref a1, .int x2, .int x3, zU, zU, zU] [] h (zPV Q) := by
  refine z_iload_n 10 rfl rfl ?_
  refine z_aload_n 11 rfl rfl ?_
  obtain ⟨o1, B⟩ := B
  obtain ⟨r2, hr2, B⟩ := B
  refine z_getR 12 rfl lX5_49 rfl o1 hr2 ?_
  refine z_iconst (v := 0) 13 rfl (by decide) ?_
  obtain ⟨o3, B⟩ := B
  obtain ⟨o4, B⟩ := B
  refine z_iald 14 rfl o3 o4 ?_
  refine z_icmp_ge 15 118 rfl (by decide) ⟨fun c5 => ?_, fun c5 => ?_⟩
  · have B := B.1 c5
    refine z_iinc (v := 1) 73 rfl rfl (by decide) (by decide) rfl ?_
    refine z_goto 74 2 rfl (by decide) ?_
    refine z_drop 3 ?_
    exact B
  · have B := B.2 c5
    refine z_aload_n 16 rfl rfl ?_
    refine z_aload_n 17 rfl rfl ?_
    refine z_iload_n 18 rfl rfl ?_
    refine z_iload_n 19 rfl rfl ?_
    refine z_aload_n 20 rfl rfl ?_
    obtain ⟨o6, B⟩ := B
    obtain ⟨r7, hr7, B⟩ := B
    refine z_getR 21 rfl lX5_38 rfl o6 hr7 ?_
    refine z_iload_n 22 rfl rfl ?_
    obtain ⟨o8, B⟩ := B
    obtain ⟨o9, B⟩ := B
    refine z_iald 23 rfl o8 o9 ?_
    obtain ⟨Q10, K12, B⟩ := B
    refine z_cVL4 (ν := mX5_airLaw) 24 rfl rfl fX5_airLaw gX5_104 ⟨_, rfl, rfl⟩ (by decide) o6 (Nat.le_of_ble_eq_true rfl) K12 (fun v13 h11 q => ?_)
    have B := B v13 h11 q
    refine z_lstore 25 rfl (by decide) rfl ?_
    refine z_aload_n 26 rfl rfl ?_
    obtain ⟨o14, B⟩ := B
    obtain ⟨r15, hr15, B⟩ := B
    refine z_getR 27 rfl lX5_23 rfl o14 hr15 ?_
    refine z_iload_n 28 rfl rfl ?_
    obtain ⟨o16, B⟩ := B
    obtain ⟨o17, B⟩ := B
    obtain ⟨r18, hr18, B⟩ := B
    refine z_aald 29 rfl o16 o17 hr18 ?_
    refine z_iload_n 30 rfl rfl ?_
    obtain ⟨o19, B⟩ := B
    obtain ⟨o20, B⟩ := B
    refine z_iald 31 rfl o19 o20 ?_
    refine z_aload_n 32 rfl rfl ?_
    obtain ⟨o21, B⟩ := B
    refine z_getI 33 rfl lX5_108 rfl o21 ?_
    refine z_imul 34 rfl ?_
    refine z_bipush (v := 100) 35 rfl (by decide) ?_
    refine z_idiv 36 rfl (by decide) ?_
    refine z_istore 37 rfl (by decide) rfl ?_
    refine z_aload_n 38 rfl rfl ?_
    refine z_getR 39 rfl lX5_23 rfl o14 hr15 ?_
    refine z_iload_n 40 rfl rfl ?_
    refine z_aald 41 rfl o16 o17 hr18 ?_
    refine z_iload_n 42 rfl rfl ?_
    refine z_lload 43 rfl rfl ?_
    refine z_ldc2 44 rfl kX5_111 ?_
    refine z_lcmp 45 rfl ?_
    refine z_if_ne 46 102 rfl (by decide) ⟨fun c22 => ?_, fun c22 => ?_⟩
    · have B := B.1 c22
      refine z_lload 66 rfl rfl ?_
      refine z_iconst (v := 0) 67 rfl (by decide) ?_
      refine z_sipush (v := 9999) 68 rfl (by decide) ?_
      obtain ⟨Q23, K25, B⟩ := B
      refine z_cSI3 (ν := mX5_within) 69 rfl rfl fX5_within gX5_113 (Nat.le_of_ble_eq_true rfl) K25 (fun v26 h24 q => ?_)
      have B := B v26 h24 q
      obtain ⟨o27, B⟩ := B
      obtain ⟨o28, B⟩ := B
      refine z_iast 70 rfl o27 o28 ?_
      refine z_iinc (v := 1) 71 rfl rfl (by decide) (by decide) rfl ?_
      refine z_goto 72 14 rfl (by decide) ?_
      refine z_drop 4 ?_
      refine z_drop 6 ?_
      exact B
    · have B := B.2 c22
      refine z_aload_n 47 rfl rfl ?_
      obtain ⟨r29, hr29, B⟩ := B
      refine z_getR 48 rfl lX5_38 rfl o14 hr29 ?_
      refine z_iload_n 49 rfl rfl ?_
      obtain ⟨o30, B⟩ := B
      obtain ⟨o31, B⟩ := B
      refine z_iald 50 rfl o30 o31 ?_
      refine z_aload_n 51 rfl rfl ?_
      obtain ⟨r32, hr32, B⟩ := B
      refine z_getR 52 rfl lX5_18 rfl o14 hr32 ?_
      refine z_iload_n 53 rfl rfl ?_
      obtain ⟨o33, B⟩ := B
      obtain ⟨o34, B⟩ := B
      refine z_iald 54 rfl o33 o34 ?_
      refine z_imul 55 rfl ?_
      refine z_bipush (v := 100) 56 rfl (by decide) ?_
      refine z_idiv 57 rfl (by decide) ?_
      refine z_iload 58 rfl rfl ?_
      refine z_iadd 59 rfl ?_
      refine z_aload_n 60 rfl rfl ?_
      obtain ⟨r35, hr35, B⟩ := B
      refine z_getR 61 rfl lX5_15 rfl o14 hr35 ?_
      refine z_iload_n 62 rfl rfl ?_
      obtain ⟨o36, B⟩ := B
      obtain ⟨o37, B⟩ := B
      refine z_iald 63 rfl o36 o37 ?_
      refine z_iadd 64 rfl ?_
      refine z_goto 65 111 rfl (by decide) ?_
      refine z_iast 70 rfl o19 o20 ?_
      refine z_iinc (v := 1) 71 rfl rfl (by decide) (by decide) rfl ?_
      refine z_goto 72 14 rfl (by decide) ?_
      refine z_drop 4 ?_
      refine z_drop 6 ?_
      exact B
set_option maxRecDepth 100000 in
set_option maxHeartbeats 4000000 in
theorem sg_X5_smellAndThink_0 {G : zG} {d : Nat} {h : zMem} {Q : zMem → Prop} {a0 : Nat} {a1 : Nat} {x2 : Int32} {x3 : Int32} (B : zO h a0 5 ∧ ∃ r2, zR h a0 6 = some r2 ∧ ∃ r3, zR h a0 3 = some r3 ∧ ∃ r4, zR h a0 4 = some r4 ∧ zO h r4 100 ∧ vp_in x2 (zLen h r4) ∧ zO h r3 104 ∧ vp_in (zI h r4 x2.toNatClampNeg) (zLen h r3) ∧ ∃ r9, zR h r3 (zI h r4 x2.toNatClampNeg).toNatClampNeg = some r9 ∧ ∃ r10, zR h a0 5 = some r10 ∧ zO h r10 100 ∧ vp_in x2 (zLen h r10) ∧ zO h a1 6 ∧ ∃ Q13 : Int32 → zMem → Prop, zConI G mX7_smelt d [.ref a1, .ref r9, .int (100 : Int32), .int x3, .int (zI h r10 x2.toNatClampNeg)] h Q13 ∧ (∀ v16 h14, Q13 v16 h14 → zO h14 r2 100 ∧ vp_in x2 (zLen h14 r2) ∧ zO h14 a1 6 ∧ ∃ r20, zR h14 a1 0 = some r20 ∧ zO h14 r20 100 ∧ vp_in (1 : Int32) (zLen h14 r20) ∧ zg G mX5_smellAndThink (d + 1) 41 [.ref a0, .ref a1, .int x2, .int x3, .int (zI (zsI h14 r2 x2.toNatClampNeg v16) r20 (1 : Int32).toNatClampNeg), .int (1 : Int32), zU] [] (zsI h14 r2 x2.toNatClampNeg v16) (zPV Q))) : zg G mX5_smellAndThink (d + 1) 0 [.ref a0, .ref a1, .int x2, .int x3, zU, zU, zU] [] h (zPV Q) := by
  refine z_aload_n 0 rfl rfl ?_
  obtain ⟨o1, B⟩ := B
  obtain ⟨r2, hr2, B⟩ := B
  refine z_getR 1 rfl lX5_32 rfl o1 hr2 ?_
  refine z_iload_n 2 rfl rfl ?_
  refine z_aload_n 3 rfl rfl ?_
  refine z_aload_n 4 rfl rfl ?_
  obtain ⟨r3, hr3, B⟩ := B
  refine z_getR 5 rfl lX5_23 rfl o1 hr3 ?_
  refine z_aload_n 6 rfl rfl ?_
  obtain ⟨r4, hr4, B⟩ := B
  refine z_getR 7 rfl lX5_26 rfl o1 hr4 ?_
  refine z_iload_n 8 rfl rfl ?_
  obtain ⟨o5, B⟩ := B
  obtain ⟨o6, B⟩ := B
  refine z_iald 9 rfl o5 o6 ?_
  obtain ⟨o7, B⟩ := B
  obtain ⟨o8, B⟩ := B
  obtain ⟨r9, hr9, B⟩ := B
  refine z_aald 10 rfl o7 o8 hr9 ?_
  refine z_bipush (v := 100) 11 rfl (by decide) ?_
  refine z_iload_n 12 rfl rfl ?_
  refine z_aload_n 13 rfl rfl ?_
  obtain ⟨r10, hr10, B⟩ := B
  refine z_getR 14 rfl lX5_29 rfl o1 hr10 ?_
  refine z_iload_n 15 rfl rfl ?_
  obtain ⟨o11, B⟩ := B
  obtain ⟨o12, B⟩ := B
  refine z_iald 16 rfl o11 o12 ?_
  obtain ⟨o23, B⟩ := B
  obtain ⟨Q13, K15, B⟩ := B
  refine z_cVI4 (ν := mX7_smelt) 17 rfl rfl fX7_smelt gX5_117 ⟨_, rfl, rfl⟩ (by decide) o23 (Nat.le_of_ble_eq_true rfl) K15 (fun v16 h14 q => ?_)
  have B := B v16 h14 q
  obtain ⟨o17, B⟩ := B
  obtain ⟨o18, B⟩ := B
  refine z_iast 18 rfl o17 o18 ?_
  refine z_aload_n 19 rfl rfl ?_
  obtain ⟨o19, B⟩ := B
  obtain ⟨r20, hr20, B⟩ := B
  refine z_getR 20 rfl lX5_49 rfl o19 hr20 ?_
  refine z_iconst (v := 1) 21 rfl (by decide) ?_
  obtain ⟨o21, B⟩ := B
  obtain ⟨o22, B⟩ := B
  refine z_iald 22 rfl o21 o22 ?_
  refine z_istore 23 rfl (by decide) rfl ?_
  refine z_iconst (v := 1) 24 rfl (by decide) ?_
  refine z_istore 25 rfl (by decide) rfl ?_
  exact B
theorem cn_X5_smellAndThink {G : zG} {d : Nat} {h : zMem} {Q : zMem → Prop} {a0 : Nat} {a1 : Nat} {x2 : Int32} {x3 : Int32} (B : zg G mX5_smellAndThink (d + 1) 0 [.ref a0, .ref a1, .int x2, .int x3, zU, zU, zU] [] h (zPV Q)) : zConV G mX5_smellAndThink (d + 1) [.ref a0, .ref a1, .int x2, .int x3] h Q := zcon0 (by decide +kernel) eX5_smellAndThink (Nat.le_of_ble_eq_true rfl) rfl B
set_option maxRecDepth 100000 in
set_option maxHeartbeats 4000000 in
theorem sg_X5_smellAndThink_41 {G : zG} {d : Nat} {h : zMem} {Q : zMem → Prop} {a0 : Nat} {a1 : Nat} {x2 : Int32} {x3 : Int32} {x4 : Int32} {x5 : Int32} (B : (x4 < x5 → (x4 ≤ 0 → Q h) ∧ (¬ x4 ≤ 0 → zO h a0 5 ∧ ∃ r4, zR h a0 7 = some r4 ∧ zO h r4 100 ∧ vp_in x2 (zLen h r4) ∧ ¬ x4 = 0 ∧ Q (zsI h r4 x2.toNatClampNeg (((zI h r4 x2.toNatClampNeg) + (1 : Int32)) - ((zI h r4 x2.toNatClampNeg) + (1 : Int32)) / x4 * x4)))) ∧ (¬ x4 < x5 → zO h a0 5 ∧ ∃ r9, zR h a0 7 = some r9 ∧ zO h r9 100 ∧ vp_in x2 (zLen h r9) ∧ ¬ x4 = 0 ∧ ∃ Q13 : Int32 → zMem → Prop, zConI G mX5_markOf d [.ref a0, .ref a1, .int x2, .int (((zI h r9 x2.toNatClampNeg) + x5) - ((zI h r9 x2.toNatClampNeg) + x5) / x4 * x4), .int x3] h Q13 ∧ (∀ v16 h14, Q13 v16 h14 → zO h14 a0 5 ∧ ∃ r18, zR h14 a0 6 = some r18 ∧ zO h14 r18 100 ∧ vp_in x2 (zLen h14 r18) ∧ (¬ v16 = (zI h14 r18 x2.toNatClampNeg) → zg G mX5_smellAndThink (d + 1) 41 [.ref a0, .ref a1, .int x2, .int x3, .int x4, .int (x5 + 1), zU] [] h14 (zPV Q)) ∧ (v16 = (zI h14 r18 x2.toNatClampNeg) → ∃ r22, zR h14 a0 7 = some r22 ∧ zO h14 r22 100 ∧ vp_in x2 (zLen h14 r22) ∧ Q (zsI h14 r22 x2.toNatClampNeg (((zI h r9 x2.toNatClampNeg) + x5) - ((zI h r9 x2.toNatClampNeg) + x5) / x4 * x4)))))) : zg G mX5_smellAndThink (d + 1) 41 [.ref a0, .ref a1, .int x2, .int x3, .int x4, .int x5, zU] [] h (zPV Q) := by
  refine z_iload 26 rfl rfl ?_
  refine z_iload 27 rfl rfl ?_
  refine z_icmp_gt 28 95 rfl (by decide) ⟨fun c1 => ?_, fun c1 => ?_⟩
  · have B := B.1 c1
    refine z_iload 57 rfl rfl ?_
    refine z_if_le 58 117 rfl (by decide) ⟨fun c2 => ?_, fun c2 => ?_⟩
    · have B := B.1 c2
      exact z_vret 71 rfl rfl ⟨rfl, rfl⟩ ⟨rfl, B⟩
    · have B := B.2 c2
      refine z_aload_n 59 rfl rfl ?_
      obtain ⟨o3, B⟩ := B
      obtain ⟨r4, hr4, B⟩ := B
      refine z_getR 60 rfl lX5_35 rfl o3 hr4 ?_
      refine z_iload_n 61 rfl rfl ?_
      refine z_aload_n 62 rfl rfl ?_
      refine z_getR 63 rfl lX5_35 rfl o3 hr4 ?_
      refine z_iload_n 64 rfl rfl ?_
      obtain ⟨o5, B⟩ := B
      obtain ⟨o6, B⟩ := B
      refine z_iald 65 rfl o5 o6 ?_
      refine z_iconst (v := 1) 66 rfl (by decide) ?_
      refine z_iadd 67 rfl ?_
      refine z_iload 68 rfl rfl ?_
      obtain ⟨o7, B⟩ := B
      refine z_irem 69 rfl o7 ?_
      refine z_iast 70 rfl o5 o6 ?_
      exact z_vret 71 rfl rfl ⟨rfl, rfl⟩ ⟨rfl, B⟩
  · have B := B.2 c1
    refine z_aload_n 29 rfl rfl ?_
    obtain ⟨o8, B⟩ := B
    obtain ⟨r9, hr9, B⟩ := B
    refine z_getR 30 rfl lX5_35 rfl o8 hr9 ?_
    refine z_iload_n 31 rfl rfl ?_
    obtain ⟨o10, B⟩ := B
    obtain ⟨o11, B⟩ := B
    refine z_iald 32 rfl o10 o11 ?_
    refine z_iload 33 rfl rfl ?_
    refine z_iadd 34 rfl ?_
    refine z_iload 35 rfl rfl ?_
    obtain ⟨o12, B⟩ := B
    refine z_irem 36 rfl o12 ?_
    refine z_istore 37 rfl (by decide) rfl ?_
    refine z_aload_n 38 rfl rfl ?_
    refine z_aload_n 39 rfl rfl ?_
    refine z_iload_n 40 rfl rfl ?_
    refine z_iload 41 rfl rfl ?_
    refine z_iload_n 42 rfl rfl ?_
    obtain ⟨Q13, K15, B⟩ := B
    refine z_cVI4 (ν := mX5_markOf) 43 rfl rfl fX5_markOf gX5_121 ⟨_, rfl, rfl⟩ (by decide) o8 (Nat.le_of_ble_eq_true rfl) K15 (fun v16 h14 q => ?_)
    have B := B v16 h14 q
    refine z_aload_n 44 rfl rfl ?_
    obtain ⟨o17, B⟩ := B
    obtain ⟨r18, hr18, B⟩ := B
    refine z_getR 45 rfl lX5_32 rfl o17 hr18 ?_
    refine z_iload_n 46 rfl rfl ?_
    obtain ⟨o19, B⟩ := B
    obtain ⟨o20, B⟩ := B
    refine z_iald 47 rfl o19 o20 ?_
    refine z_icmp_ne 48 89 rfl (by decide) ⟨fun c21 => ?_, fun c21 => ?_⟩
    · have B := B.1 c21
      refine z_iinc (v := 1) 55 rfl rfl (by decide) (by decide) rfl ?_
      refine z_goto 56 41 rfl (by decide) ?_
      refine z_drop 6 ?_
      exact B
    · have B := B.2 c21
      refine z_aload_n 49 rfl rfl ?_
      obtain ⟨r22, hr22, B⟩ := B
      refine z_getR 50 rfl lX5_35 rfl o17 hr22 ?_
      refine z_iload_n 51 rfl rfl ?_
      refine z_iload 52 rfl rfl ?_
      obtain ⟨o23, B⟩ := B
      obtain ⟨o24, B⟩ := B
      refine z_iast 53 rfl o23 o24 ?_
      exact z_vret 54 rfl rfl ⟨rfl, rfl⟩ ⟨rfl, B⟩
set_option maxRecDepth 100000 in
set_option maxHeartbeats 4000000 in
theorem sg_X5_vote_0 {G : zG} {d : Nat} {h : zMem} {Q : zMem → Prop} {a0 : Nat} {a1 : Nat} (B : zO h a1 6 ∧ ∃ r2, zR h a1 0 = some r2 ∧ zO h r2 100 ∧ vp_in (1 : Int32) (zLen h r2) ∧ (¬ (zI h r2 (1 : Int32).toNatClampNeg) = 0 → zO h a0 5 ∧ ¬ (zI h r2 (1 : Int32).toNatClampNeg) = 0 ∧ ∃ Q8 : Int32 → zMem → Prop, zConI G mX5_mostThought d [.ref a0, .ref a1, .int ((zI h a0 10) - (zI h a0 10) / (zI h r2 (1 : Int32).toNatClampNeg) * (zI h r2 (1 : Int32).toNatClampNeg))] h Q8 ∧ (∀ v11 h9, Q8 v11 h9 → zO h9 a0 5 ∧ (¬ (zI (zsI h9 a0 11 v11) a0 11) = ((zI h a0 10) - (zI h a0 10) / (zI h r2 (1 : Int32).toNatClampNeg) * (zI h r2 (1 : Int32).toNatClampNeg)) → zO h9 a1 6 ∧ ∃ r15, zR h9 a1 3 = some r15 ∧ zO h9 r15 103 ∧ vp_in (zI (zsI h9 a0 11 v11) a0 11) (zLen h9 r15) ∧ vp_in ((zI h a0 10) - (zI h a0 10) / (zI h r2 (1 : Int32).toNatClampNeg) * (zI h r2 (1 : Int32).toNatClampNeg)) (zLen h9 r15) ∧ ((zI (zsI h9 a0 11 v11) r15 (zI (zsI h9 a0 11 v11) a0 11).toNatClampNeg) = (zI (zsI h9 a0 11 v11) r15 ((zI h a0 10) - (zI h a0 10) / (zI h r2 (1 : Int32).toNatClampNeg) * (zI h r2 (1 : Int32).toNatClampNeg)).toNatClampNeg) → Q (zsI h9 a0 11 v11)) ∧ (¬ (zI (zsI h9 a0 11 v11) r15 (zI (zsI h9 a0 11 v11) a0 11).toNatClampNeg) = (zI (zsI h9 a0 11 v11) r15 ((zI h a0 10) - (zI h a0 10) / (zI h r2 (1 : Int32).toNatClampNeg) * (zI h r2 (1 : Int32).toNatClampNeg)).toNatClampNeg) → Q (zsI (zsI h9 a0 11 v11) a0 13 ((zI (zsI h9 a0 11 v11) a0 13) + (1 : Int32))))) ∧ ((zI (zsI h9 a0 11 v11) a0 11) = ((zI h a0 10) - (zI h a0 10) / (zI h r2 (1 : Int32).toNatClampNeg) * (zI h r2 (1 : Int32).toNatClampNeg)) → zO h9 a1 6 ∧ ∃ r21, zR h9 a1 3 = some r21 ∧ zO h9 r21 103 ∧ vp_in (zI (zsI (zsI h9 a0 11 v11) a0 12 ((zI (zsI h9 a0 11 v11) a0 12) + (1 : Int32))) a0 11) (zLen h9 r21) ∧ vp_in ((zI h a0 10) - (zI h a0 10) / (zI h r2 (1 : Int32).toNatClampNeg) * (zI h r2 (1 : Int32).toNatClampNeg)) (zLen h9 r21) ∧ ((zI (zsI (zsI h9 a0 11 v11) a0 12 ((zI (zsI h9 a0 11 v11) a0 12) + (1 : Int32))) r21 (zI (zsI (zsI h9 a0 11 v11) a0 12 ((zI (zsI h9 a0 11 v11) a0 12) + (1 : Int32))) a0 11).toNatClampNeg) = (zI (zsI (zsI h9 a0 11 v11) a0 12 ((zI (zsI h9 a0 11 v11) a0 12) + (1 : Int32))) r21 ((zI h a0 10) - (zI h a0 10) / (zI h r2 (1 : Int32).toNatClampNeg) * (zI h r2 (1 : Int32).toNatClampNeg)).toNatClampNeg) → Q (zsI (zsI h9 a0 11 v11) a0 12 ((zI (zsI h9 a0 11 v11) a0 12) + (1 : Int32)))) ∧ (¬ (zI (zsI (zsI h9 a0 11 v11) a0 12 ((zI (zsI h9 a0 11 v11) a0 12) + (1 : Int32))) r21 (zI (zsI (zsI h9 a0 11 v11) a0 12 ((zI (zsI h9 a0 11 v11) a0 12) + (1 : Int32))) a0 11).toNatClampNeg) = (zI (zsI (zsI h9 a0 11 v11) a0 12 ((zI (zsI h9 a0 11 v11) a0 12) + (1 : Int32))) r21 ((zI h a0 10) - (zI h a0 10) / (zI h r2 (1 : Int32).toNatClampNeg) * (zI h r2 (1 : Int32).toNatClampNeg)).toNatClampNeg) → Q (zsI (zsI (zsI h9 a0 11 v11) a0 12 ((zI (zsI h9 a0 11 v11) a0 12) + (1 : Int32))) a0 13 ((zI (zsI (zsI h9 a0 11 v11) a0 12 ((zI (zsI h9 a0 11 v11) a0 12) + (1 : Int32))) a0 13) + (1 : Int32))))))) ∧ ((zI h r2 (1 : Int32).toNatClampNeg) = 0 → Q h)) : zg G mX5_vote (d + 1) 0 [.ref a0, .ref a1, zU, zU] [] h (zPV Q) := by
  refine z_aload_n 0 rfl rfl ?_
  obtain ⟨o1, B⟩ := B
  obtain ⟨r2, hr2, B⟩ := B
  refine z_getR 1 rfl lX5_49 rfl o1 hr2 ?_
  refine z_iconst (v := 1) 2 rfl (by decide) ?_
  obtain ⟨o3, B⟩ := B
  obtain ⟨o4, B⟩ := B
  refine z_iald 3 rfl o3 o4 ?_
  refine z_istore_n 4 rfl (by decide) rfl ?_
  refine z_iload_n 5 rfl rfl ?_
  refine z_if_ne 6 12 rfl (by decide) ⟨fun c5 => ?_, fun c5 => ?_⟩
  · have B := B.1 c5
    refine z_aload_n 8 rfl rfl ?_
    obtain ⟨o6, B⟩ := B
    refine z_getI 9 rfl lX5_55 rfl o6 ?_
    refine z_iload_n 10 rfl rfl ?_
    obtain ⟨o7, B⟩ := B
    refine z_irem 11 rfl o7 ?_
    refine z_istore_n 12 rfl (by decide) rfl ?_
    refine z_aload_n 13 rfl rfl ?_
    refine z_aload_n 14 rfl rfl ?_
    refine z_aload_n 15 rfl rfl ?_
    refine z_iload_n 16 rfl rfl ?_
    obtain ⟨Q8, K10, B⟩ := B
    refine z_cVI2 (ν := mX5_mostThought) 17 rfl rfl fX5_mostThought gX5_125 ⟨_, rfl, rfl⟩ (by decide) o6 (Nat.le_of_ble_eq_true rfl) K10 (fun v11 h9 q => ?_)
    have B := B v11 h9 q
    obtain ⟨o12, B⟩ := B
    refine z_putI 18 rfl lX5_59 ⟨_, _, _, rfl, rfl⟩ rfl rfl rfl o12 ?_
    refine z_aload_n 19 rfl rfl ?_
    refine z_getI 20 rfl lX5_59 rfl o12 ?_
    refine z_iload_n 21 rfl rfl ?_
    refine z_icmp_ne 22 47 rfl (by decide) ⟨fun c13 => ?_, fun c13 => ?_⟩
    · have B := B.1 c13
      refine z_aload_n 29 rfl rfl ?_
      obtain ⟨o14, B⟩ := B
      obtain ⟨r15, hr15, B⟩ := B
      refine z_getR 30 rfl lX5_129 rfl o14 hr15 ?_
      refine z_aload_n 31 rfl rfl ?_
      refine z_getI 32 rfl lX5_59 rfl o12 ?_
      obtain ⟨o16, B⟩ := B
      obtain ⟨o17, B⟩ := B
      refine z_zald 33 rfl o16 o17 ?_
      refine z_aload_n 34 rfl rfl ?_
      refine z_getR 35 rfl lX5_129 rfl o14 hr15 ?_
      refine z_iload_n 36 rfl rfl ?_
      obtain ⟨o18, B⟩ := B
      refine z_zald 37 rfl o16 o18 ?_
      refine z_icmp_eq 38 75 rfl (by decide) ⟨fun c19 => ?_, fun c19 => ?_⟩
      · have B := B.1 c19
        exact z_vret 45 rfl rfl ⟨rfl, rfl⟩ ⟨rfl, B⟩
      · have B := B.2 c19
        refine z_aload_n 39 rfl rfl ?_
        refine z_dup 40 rfl rfl ?_
        refine z_getI 41 rfl lX5_65 rfl o12 ?_
        refine z_iconst (v := 1) 42 rfl (by decide) ?_
        refine z_iadd 43 rfl ?_
        refine z_putI 44 rfl lX5_65 ⟨_, _, _, rfl, rfl⟩ rfl rfl rfl o12 ?_
        exact z_vret 45 rfl rfl ⟨rfl, rfl⟩ ⟨rfl, B⟩
    · have B := B.2 c13
      refine z_aload_n 23 rfl rfl ?_
      refine z_dup 24 rfl rfl ?_
      refine z_getI 25 rfl lX5_62 rfl o12 ?_
      refine z_iconst (v := 1) 26 rfl (by decide) ?_
      refine z_iadd 27 rfl ?_
      refine z_putI 28 rfl lX5_62 ⟨_, _, _, rfl, rfl⟩ rfl rfl rfl o12 ?_
      refine z_aload_n 29 rfl rfl ?_
      obtain ⟨o20, B⟩ := B
      obtain ⟨r21, hr21, B⟩ := B
      refine z_getR 30 rfl lX5_129 rfl o20 hr21 ?_
      refine z_aload_n 31 rfl rfl ?_
      refine z_getI 32 rfl lX5_59 rfl o12 ?_
      obtain ⟨o22, B⟩ := B
      obtain ⟨o23, B⟩ := B
      refine z_zald 33 rfl o22 o23 ?_
      refine z_aload_n 34 rfl rfl ?_
      refine z_getR 35 rfl lX5_129 rfl o20 hr21 ?_
      refine z_iload_n 36 rfl rfl ?_
      obtain ⟨o24, B⟩ := B
      refine z_zald 37 rfl o22 o24 ?_
      refine z_icmp_eq 38 75 rfl (by decide) ⟨fun c25 => ?_, fun c25 => ?_⟩
      · have B := B.1 c25
        exact z_vret 45 rfl rfl ⟨rfl, rfl⟩ ⟨rfl, B⟩
      · have B := B.2 c25
        refine z_aload_n 39 rfl rfl ?_
        refine z_dup 40 rfl rfl ?_
        refine z_getI 41 rfl lX5_65 rfl o12 ?_
        refine z_iconst (v := 1) 42 rfl (by decide) ?_
        refine z_iadd 43 rfl ?_
        refine z_putI 44 rfl lX5_65 ⟨_, _, _, rfl, rfl⟩ rfl rfl rfl o12 ?_
        exact z_vret 45 rfl rfl ⟨rfl, rfl⟩ ⟨rfl, B⟩
  · have B := B.2 c5
    exact z_vret 7 rfl rfl ⟨rfl, rfl⟩ ⟨rfl, B⟩
theorem cn_X5_vote {G : zG} {d : Nat} {h : zMem} {Q : zMem → Prop} {a0 : Nat} {a1 : Nat} (B : zg G mX5_vote (d + 1) 0 [.ref a0, .ref a1, zU, zU] [] h (zPV Q)) : zConV G mX5_vote (d + 1) [.ref a0, .ref a1] h Q := zcon0 (by decide +kernel) eX5_vote (Nat.le_of_ble_eq_true rfl) rfl B
set_option maxRecDepth 100000 in
set_option maxHeartbeats 4000000 in
theorem sg_X5_mostThought_0 {G : zG} {d : Nat} {h : zMem} {Q : Int32 → zMem → Prop} {a0 : Nat} {a1 : Nat} {x2 : Int32} (B : zg G mX5_mostThought d 2 [.ref a0, .ref a1, .int x2, .int (0 : Int32), zU, zU] [] h (zPI Q)) : zg G mX5_mostThought d 0 [.ref a0, .ref a1, .int x2, zU, zU, zU] [] h (zPI Q) := by
  refine z_iconst (v := 0) 0 rfl (by decide) ?_
  refine z_istore_n 1 rfl (by decide) rfl ?_
  exact B
theorem cn_X5_mostThought {G : zG} {d : Nat} {h : zMem} {Q : Int32 → zMem → Prop} {a0 : Nat} {a1 : Nat} {x2 : Int32} (B : zg G mX5_mostThought d 0 [.ref a0, .ref a1, .int x2, zU, zU, zU] [] h (zPI Q)) : zConI G mX5_mostThought d [.ref a0, .ref a1, .int x2] h Q := zcon0 (by decide +kernel) eX5_mostThought (Nat.le_of_ble_eq_true rfl) rfl B
set_option maxRecDepth 100000 in
set_option maxHeartbeats 4000000 in
theorem sg_X5_mostThought_2 {G : zG} {d : Nat} {h : zMem} {Q : Int32 → zMem → Prop} {a0 : Nat} {a1 : Nat} {x2 : Int32} {x3 : Int32} (B : ((8 : Int32) ≤ x3 → zg G mX5_mostThought d 23 [.ref a0, .ref a1, .int x2, .int (0 : Int32), zU, zU] [] h (zPI Q)) ∧ (¬ (8 : Int32) ≤ x3 → zO h a0 5 ∧ ∃ r3, zR h a0 9 = some r3 ∧ zO h r3 100 ∧ vp_in x3 (zLen h r3) ∧ zg G mX5_mostThought d 2 [.ref a0, .ref a1, .int x2, .int (x3 + 1), zU, zU] [] (zsI h r3 x3.toNatClampNeg (0 : Int32)) (zPI Q))) : zg G mX5_mostThought d 2 [.ref a0, .ref a1, .int x2, .int x3, zU, zU] [] h (zPI Q) := by
  refine z_iload_n 2 rfl rfl ?_
  refine z_bipush (v := 8) 3 rfl (by decide) ?_
  refine z_icmp_ge 4 21 rfl (by decide) ⟨fun c1 => ?_, fun c1 => ?_⟩
  · have B := B.1 c1
    refine z_iconst (v := 0) 12 rfl (by decide) ?_
    refine z_istore_n 13 rfl (by decide) rfl ?_
    exact B
  · have B := B.2 c1
    refine z_aload_n 5 rfl rfl ?_
    obtain ⟨o2, B⟩ := B
    obtain ⟨r3, hr3, B⟩ := B
    refine z_getR 6 rfl lX5_41 rfl o2 hr3 ?_
    refine z_iload_n 7 rfl rfl ?_
    refine z_iconst (v := 0) 8 rfl (by decide) ?_
    obtain ⟨o4, B⟩ := B
    obtain ⟨o5, B⟩ := B
    refine z_iast 9 rfl o4 o5 ?_
    refine z_iinc (v := 1) 10 rfl rfl (by decide) (by decide) rfl ?_
    refine z_goto 11 2 rfl (by decide) ?_
    exact B
set_option maxRecDepth 100000 in
set_option maxHeartbeats 4000000 in
theorem sg_X5_mostThought_23 {G : zG} {d : Nat} {h : zMem} {Q : Int32 → zMem → Prop} {a0 : Nat} {a1 : Nat} {x2 : Int32} {x3 : Int32} (B : zO h a1 6 ∧ ∃ r2, zR h a1 0 = some r2 ∧ zO h r2 100 ∧ vp_in (3 : Int32) (zLen h r2) ∧ ((zI h r2 (3 : Int32).toNatClampNeg) ≤ x3 → zg G mX5_mostThought d 70 [.ref a0, .ref a1, .int x2, .int x2, .int (0 : Int32), .int (0 : Int32)] [] h (zPI Q)) ∧ (¬ (zI h r2 (3 : Int32).toNatClampNeg) ≤ x3 → zO h a0 5 ∧ (x3 = (zI h a0 14) → zg G mX5_mostThought d 23 [.ref a0, .ref a1, .int x2, .int (x3 + 1), zU, zU] [] h (zPI Q)) ∧ (¬ x3 = (zI h a0 14) → ∃ r8, zR h a0 9 = some r8 ∧ ∃ r9, zR h a0 7 = some r9 ∧ zO h r9 100 ∧ vp_in x3 (zLen h r9) ∧ zO h r8 100 ∧ vp_in (zI h r9 x3.toNatClampNeg) (zLen h r8) ∧ zg G mX5_mostThought d 23 [.ref a0, .ref a1, .int x2, .int (x3 + 1), zU, zU] [] (zsI h r8 (zI h r9 x3.toNatClampNeg).toNatClampNeg ((zI h r8 (zI h r9 x3.toNatClampNeg).toNatClampNeg) + (1 : Int32))) (zPI Q)))) : zg G mX5_mostThought d 23 [.ref a0, .ref a1, .int x2, .int x3, zU, zU] [] h (zPI Q) := by
  refine z_iload_n 14 rfl rfl ?_
  refine z_aload_n 15 rfl rfl ?_
  obtain ⟨o1, B⟩ := B
  obtain ⟨r2, hr2, B⟩ := B
  refine z_getR 16 rfl lX5_49 rfl o1 hr2 ?_
  refine z_iconst (v := 3) 17 rfl (by decide) ?_
  obtain ⟨o3, B⟩ := B
  obtain ⟨o4, B⟩ := B
  refine z_iald 18 rfl o3 o4 ?_
  refine z_icmp_ge 19 62 rfl (by decide) ⟨fun c5 => ?_, fun c5 => ?_⟩
  · have B := B.1 c5
    refine z_iload_n 37 rfl rfl ?_
    refine z_istore_n 38 rfl (by decide) rfl ?_
    refine z_iconst (v := 0) 39 rfl (by decide) ?_
    refine z_istore 40 rfl (by decide) rfl ?_
    refine z_iconst (v := 0) 41 rfl (by decide) ?_
    refine z_istore 42 rfl (by decide) rfl ?_
    exact B
  · have B := B.2 c5
    refine z_iload_n 20 rfl rfl ?_
    refine z_aload_n 21 rfl rfl ?_
    obtain ⟨o6, B⟩ := B
    refine z_getI 22 rfl lX5_68 rfl o6 ?_
    refine z_icmp_eq 23 56 rfl (by decide) ⟨fun c7 => ?_, fun c7 => ?_⟩
    · have B := B.1 c7
      refine z_iinc (v := 1) 35 rfl rfl (by decide) (by decide) rfl ?_
      refine z_goto 36 23 rfl (by decide) ?_
      exact B
    · have B := B.2 c7
      refine z_aload_n 24 rfl rfl ?_
      obtain ⟨r8, hr8, B⟩ := B
      refine z_getR 25 rfl lX5_41 rfl o6 hr8 ?_
      refine z_aload_n 26 rfl rfl ?_
      obtain ⟨r9, hr9, B⟩ := B
      refine z_getR 27 rfl lX5_35 rfl o6 hr9 ?_
      refine z_iload_n 28 rfl rfl ?_
      obtain ⟨o10, B⟩ := B
      obtain ⟨o11, B⟩ := B
      refine z_iald 29 rfl o10 o11 ?_
      refine z_dup2 30 rfl rfl rfl ?_
      obtain ⟨o12, B⟩ := B
      obtain ⟨o13, B⟩ := B
      refine z_iald 31 rfl o12 o13 ?_
      refine z_iconst (v := 1) 32 rfl (by decide) ?_
      refine z_iadd 33 rfl ?_
      refine z_iast 34 rfl o12 o13 ?_
      refine z_iinc (v := 1) 35 rfl rfl (by decide) (by decide) rfl ?_
      refine z_goto 36 23 rfl (by decide) ?_
      exact B
set_option maxRecDepth 100000 in
set_option maxHeartbeats 4000000 in
theorem sg_X5_mostThought_70 {G : zG} {d : Nat} {h : zMem} {Q : Int32 → zMem → Prop} {a0 : Nat} {a1 : Nat} {x2 : Int32} {x3 : Int32} {x4 : Int32} {x5 : Int32} (B : zO h a1 6 ∧ ∃ r2, zR h a1 0 = some r2 ∧ zO h r2 100 ∧ vp_in (1 : Int32) (zLen h r2) ∧ ((zI h r2 (1 : Int32).toNatClampNeg) ≤ x5 → Q x3 h) ∧ (¬ (zI h r2 (1 : Int32).toNatClampNeg) ≤ x5 → zO h a0 5 ∧ ∃ r7, zR h a0 9 = some r7 ∧ zO h r7 100 ∧ vp_in x5 (zLen h r7) ∧ ((zI h r7 x5.toNatClampNeg) ≤ x4 → zg G mX5_mostThought d 70 [.ref a0, .ref a1, .int x2, .int x3, .int x4, .int (x5 + 1)] [] h (zPI Q)) ∧ (¬ (zI h r7 x5.toNatClampNeg) ≤ x4 → zg G mX5_mostThought d 70 [.ref a0, .ref a1, .int x2, .int x5, .int (zI h r7 x5.toNatClampNeg), .int (x5 + 1)] [] h (zPI Q)))) : zg G mX5_mostThought d 70 [.ref a0, .ref a1, .int x2, .int x3, .int x4, .int x5] [] h (zPI Q) := by
  refine z_iload 43 rfl rfl ?_
  refine z_aload_n 44 rfl rfl ?_
  obtain ⟨o1, B⟩ := B
  obtain ⟨r2, hr2, B⟩ := B
  refine z_getR 45 rfl lX5_49 rfl o1 hr2 ?_
  refine z_iconst (v := 1) 46 rfl (by decide) ?_
  obtain ⟨o3, B⟩ := B
  obtain ⟨o4, B⟩ := B
  refine z_iald 47 rfl o3 o4 ?_
  refine z_icmp_ge 48 111 rfl (by decide) ⟨fun c5 => ?_, fun c5 => ?_⟩
  · have B := B.1 c5
    refine z_iload_n 64 rfl rfl ?_
    exact z_iret 65 rfl rfl rfl ⟨rfl, rfl⟩ ⟨_, rfl, B⟩
  · have B := B.2 c5
    refine z_aload_n 49 rfl rfl ?_
    obtain ⟨o6, B⟩ := B
    obtain ⟨r7, hr7, B⟩ := B
    refine z_getR 50 rfl lX5_41 rfl o6 hr7 ?_
    refine z_iload 51 rfl rfl ?_
    obtain ⟨o8, B⟩ := B
    obtain ⟨o9, B⟩ := B
    refine z_iald 52 rfl o8 o9 ?_
    refine z_iload 53 rfl rfl ?_
    refine z_icmp_le 54 105 rfl (by decide) ⟨fun c10 => ?_, fun c10 => ?_⟩
    · have B := B.1 c10
      refine z_iinc (v := 1) 62 rfl rfl (by decide) (by decide) rfl ?_
      refine z_goto 63 70 rfl (by decide) ?_
      exact B
    · have B := B.2 c10
      refine z_aload_n 55 rfl rfl ?_
      refine z_getR 56 rfl lX5_41 rfl o6 hr7 ?_
      refine z_iload 57 rfl rfl ?_
      refine z_iald 58 rfl o8 o9 ?_
      refine z_istore 59 rfl (by decide) rfl ?_
      refine z_iload 60 rfl rfl ?_
      refine z_istore_n 61 rfl (by decide) rfl ?_
      refine z_iinc (v := 1) 62 rfl rfl (by decide) (by decide) rfl ?_
      refine z_goto 63 70 rfl (by decide) ?_
      exact B
set_option maxRecDepth 100000 in
set_option maxHeartbeats 4000000 in
theorem sg_X5_feastThinkers_0 {G : zG} {d : Nat} {h : zMem} {Q : Int32 → zMem → Prop} {a0 : Nat} {a1 : Nat} (B : zg G mX5_feastThinkers d 4 [.ref a0, .ref a1, .int (0 : Int32), .int (0 : Int32), zU] [] h (zPI Q)) : zg G mX5_feastThinkers d 0 [.ref a0, .ref a1, zU, zU, zU] [] h (zPI Q) := by
  refine z_iconst (v := 0) 0 rfl (by decide) ?_
  refine z_istore_n 1 rfl (by decide) rfl ?_
  refine z_iconst (v := 0) 2 rfl (by decide) ?_
  refine z_istore_n 3 rfl (by decide) rfl ?_
  exact B
theorem cn_X5_feastThinkers {G : zG} {d : Nat} {h : zMem} {Q : Int32 → zMem → Prop} {a0 : Nat} {a1 : Nat} (B : zg G mX5_feastThinkers d 0 [.ref a0, .ref a1, zU, zU, zU] [] h (zPI Q)) : zConI G mX5_feastThinkers d [.ref a0, .ref a1] h Q := zcon0 (by decide +kernel) eX5_feastThinkers (Nat.le_of_ble_eq_true rfl) rfl B
set_option maxRecDepth 100000 in
set_option maxHeartbeats 4000000 in
theorem sg_X5_feastThinkers_4 {G : zG} {d : Nat} {h : zMem} {Q : Int32 → zMem → Prop} {a0 : Nat} {a1 : Nat} {x2 : Int32} {x3 : Int32} (B : zO h a1 6 ∧ ∃ r2, zR h a1 0 = some r2 ∧ zO h r2 100 ∧ vp_in (3 : Int32) (zLen h r2) ∧ ((zI h r2 (3 : Int32).toNatClampNeg) ≤ x3 → Q x2 h) ∧ (¬ (zI h r2 (3 : Int32).toNatClampNeg) ≤ x3 → zO h a0 5 ∧ ∃ r7, zR h a0 7 = some r7 ∧ zO h r7 100 ∧ vp_in x3 (zLen h r7) ∧ ((zI h r7 x3.toNatClampNeg) < 0 → zg G mX5_feastThinkers d 4 [.ref a0, .ref a1, .int x2, .int (x3 + 1), zU] [] h (zPI Q)) ∧ (¬ (zI h r7 x3.toNatClampNeg) < 0 → ∃ r11, zR h a1 3 = some r11 ∧ zO h r11 103 ∧ vp_in (zI h r7 x3.toNatClampNeg) (zLen h r11) ∧ ((zI h r11 (zI h r7 x3.toNatClampNeg).toNatClampNeg) = 0 → zg G mX5_feastThinkers d 4 [.ref a0, .ref a1, .int x2, .int (x3 + 1), zU] [] h (zPI Q)) ∧ (¬ (zI h r11 (zI h r7 x3.toNatClampNeg).toNatClampNeg) = 0 → zg G mX5_feastThinkers d 4 [.ref a0, .ref a1, .int (x2 + 1), .int (x3 + 1), zU] [] h (zPI Q))))) : zg G mX5_feastThinkers d 4 [.ref a0, .ref a1, .int x2, .int x3, zU] [] h (zPI Q) := by
  refine z_iload_n 4 rfl rfl ?_
  refine z_aload_n 5 rfl rfl ?_
  obtain ⟨o1, B⟩ := B
  obtain ⟨r2, hr2, B⟩ := B
  refine z_getR 6 rfl lX5_49 rfl o1 hr2 ?_
  refine z_iconst (v := 3) 7 rfl (by decide) ?_
  obtain ⟨o3, B⟩ := B
  obtain ⟨o4, B⟩ := B
  refine z_iald 8 rfl o3 o4 ?_
  refine z_icmp_ge 9 46 rfl (by decide) ⟨fun c5 => ?_, fun c5 => ?_⟩
  · have B := B.1 c5
    refine z_iload_n 25 rfl rfl ?_
    exact z_iret 26 rfl rfl rfl ⟨rfl, rfl⟩ ⟨_, rfl, B⟩
  · have B := B.2 c5
    refine z_aload_n 10 rfl rfl ?_
    obtain ⟨o6, B⟩ := B
    obtain ⟨r7, hr7, B⟩ := B
    refine z_getR 11 rfl lX5_35 rfl o6 hr7 ?_
    refine z_iload_n 12 rfl rfl ?_
    obtain ⟨o8, B⟩ := B
    obtain ⟨o9, B⟩ := B
    refine z_iald 13 rfl o8 o9 ?_
    refine z_istore 14 rfl (by decide) rfl ?_
    refine z_iload 15 rfl rfl ?_
    refine z_if_lt 16 40 rfl (by decide) ⟨fun c10 => ?_, fun c10 => ?_⟩
    · have B := B.1 c10
      refine z_iinc (v := 1) 23 rfl rfl (by decide) (by decide) rfl ?_
      refine z_goto 24 4 rfl (by decide) ?_
      refine z_drop 4 ?_
      exact B
    · have B := B.2 c10
      refine z_aload_n 17 rfl rfl ?_
      obtain ⟨r11, hr11, B⟩ := B
      refine z_getR 18 rfl lX5_129 rfl o1 hr11 ?_
      refine z_iload 19 rfl rfl ?_
      obtain ⟨o12, B⟩ := B
      obtain ⟨o13, B⟩ := B
      refine z_zald 20 rfl o12 o13 ?_
      refine z_if_eq 21 40 rfl (by decide) ⟨fun c14 => ?_, fun c14 => ?_⟩
      · have B := B.1 c14
        refine z_iinc (v := 1) 23 rfl rfl (by decide) (by decide) rfl ?_
        refine z_goto 24 4 rfl (by decide) ?_
        refine z_drop 4 ?_
        exact B
      · have B := B.2 c14
        refine z_iinc (v := 1) 22 rfl rfl (by decide) (by decide) rfl ?_
        refine z_iinc (v := 1) 23 rfl rfl (by decide) (by decide) rfl ?_
        refine z_goto 24 4 rfl (by decide) ?_
        refine z_drop 4 ?_
        exact B
set_option maxRecDepth 100000 in
set_option maxHeartbeats 4000000 in
theorem sg_X5_markOf_0 {G : zG} {d : Nat} {h : zMem} {Q : Int32 → zMem → Prop} {a0 : Nat} {a1 : Nat} {x2 : Int32} {x3 : Int32} {x4 : Int32} (B : zO h a1 6 ∧ ∃ r2, zR h a1 4 = some r2 ∧ zO h r2 104 ∧ vp_in x3 (zLen h r2) ∧ ∃ r5, zR h r2 x3.toNatClampNeg = some r5 ∧ zO h a0 5 ∧ ∃ r7, zR h a0 2 = some r7 ∧ ∃ r8, zR h a0 4 = some r8 ∧ zO h r8 100 ∧ vp_in x2 (zLen h r8) ∧ zO h r7 100 ∧ vp_in (zI h r8 x2.toNatClampNeg) (zLen h r7) ∧ ∃ r13, zR h a0 5 = some r13 ∧ zO h r13 100 ∧ vp_in x2 (zLen h r13) ∧ ∃ Q16 : Int32 → zMem → Prop, zConI G mX7_smelt d [.ref a1, .ref r5, .int (zI h r7 (zI h r8 x2.toNatClampNeg).toNatClampNeg), .int x4, .int (zI h r13 x2.toNatClampNeg)] h Q16 ∧ (∀ v19 h17, Q16 v19 h17 → Q v19 h17)) : zg G mX5_markOf (d + 1) 0 [.ref a0, .ref a1, .int x2, .int x3, .int x4] [] h (zPI Q) := by
  refine z_aload_n 0 rfl rfl ?_
  refine z_aload_n 1 rfl rfl ?_
  obtain ⟨o1, B⟩ := B
  obtain ⟨r2, hr2, B⟩ := B
  refine z_getR 2 rfl lX5_133 rfl o1 hr2 ?_
  refine z_iload_n 3 rfl rfl ?_
  obtain ⟨o3, B⟩ := B
  obtain ⟨o4, B⟩ := B
  obtain ⟨r5, hr5, B⟩ := B
  refine z_aald 4 rfl o3 o4 hr5 ?_
  refine z_aload_n 5 rfl rfl ?_
  obtain ⟨o6, B⟩ := B
  obtain ⟨r7, hr7, B⟩ := B
  refine z_getR 6 rfl lX5_18 rfl o6 hr7 ?_
  refine z_aload_n 7 rfl rfl ?_
  obtain ⟨r8, hr8, B⟩ := B
  refine z_getR 8 rfl lX5_26 rfl o6 hr8 ?_
  refine z_iload_n 9 rfl rfl ?_
  obtain ⟨o9, B⟩ := B
  obtain ⟨o10, B⟩ := B
  refine z_iald 10 rfl o9 o10 ?_
  obtain ⟨o11, B⟩ := B
  obtain ⟨o12, B⟩ := B
  refine z_iald 11 rfl o11 o12 ?_
  refine z_iload 12 rfl rfl ?_
  refine z_aload_n 13 rfl rfl ?_
  obtain ⟨r13, hr13, B⟩ := B
  refine z_getR 14 rfl lX5_29 rfl o6 hr13 ?_
  refine z_iload_n 15 rfl rfl ?_
  obtain ⟨o14, B⟩ := B
  obtain ⟨o15, B⟩ := B
  refine z_iald 16 rfl o14 o15 ?_
  obtain ⟨Q16, K18, B⟩ := B
  refine z_cVI4 (ν := mX7_smelt) 17 rfl rfl fX7_smelt gX5_117 ⟨_, rfl, rfl⟩ (by decide) o1 (Nat.le_of_ble_eq_true rfl) K18 (fun v19 h17 q => ?_)
  have B := B v19 h17 q
  exact z_iret 18 rfl rfl rfl ⟨rfl, rfl⟩ ⟨_, rfl, B⟩
theorem cn_X5_markOf {G : zG} {d : Nat} {h : zMem} {Q : Int32 → zMem → Prop} {a0 : Nat} {a1 : Nat} {x2 : Int32} {x3 : Int32} {x4 : Int32} (B : zg G mX5_markOf (d + 1) 0 [.ref a0, .ref a1, .int x2, .int x3, .int x4] [] h (zPI Q)) : zConI G mX5_markOf (d + 1) [.ref a0, .ref a1, .int x2, .int x3, .int x4] h Q := zcon0 (by decide +kernel) eX5_markOf (Nat.le_of_ble_eq_true rfl) rfl B
set_option maxRecDepth 100000 in
set_option maxHeartbeats 4000000 in
theorem sg_X5_airLaw_0 {G : zG} {d : Nat} {h : zMem} {Q : Int64 → zMem → Prop} {a0 : Nat} {a1 : Nat} {x2 : Int32} {x3 : Int32} {x4 : Int32} (B : zO h a1 6 ∧ ∃ r2, zR h a1 8 = some r2 ∧ zO h a0 5 ∧ ∃ r4, zR h a0 2 = some r4 ∧ zO h r4 100 ∧ vp_in x2 (zLen h r4) ∧ ∃ r7, zR h a0 3 = some r7 ∧ zO h r7 104 ∧ vp_in x2 (zLen h r7) ∧ ∃ r10, zR h r7 x2.toNatClampNeg = some r10 ∧ zO h r10 100 ∧ vp_in x3 (zLen h r10) ∧ ∃ r13, zR h a0 1 = some r13 ∧ zO h r13 100 ∧ vp_in x3 (zLen h r13) ∧ zO h r2 0 ∧ ∃ Q16 : zMem → Prop, zConV G mX0_setNames d [.ref r2, .int x4, .int (zI h r4 x2.toNatClampNeg), .int (zI h r10 x3.toNatClampNeg), .int (zI h r13 x3.toNatClampNeg), .int (zI h a0 10), .int x2, .int (0 : Int32)] h Q16 ∧ (∀ h17, Q16 h17 → zO h17 a1 6 ∧ ∃ r20, zR h17 a1 8 = some r20 ∧ zO h17 r20 0 ∧ ∃ Q21 : Int64 → zMem → Prop, zConL G mX0_workOut d [.ref r20, .int (0 : Int32)] h17 Q21 ∧ (∀ v24 h22, Q21 v24 h22 → Q v24 h22))) : zg G mX5_airLaw (d + 1) 0 [.ref a0, .ref a1, .int x2, .int x3, .int x4] [] h (zPL Q) := by
  refine z_aload_n 0 rfl rfl ?_
  obtain ⟨o1, B⟩ := B
  obtain ⟨r2, hr2, B⟩ := B
  refine z_getR 1 rfl lX5_136 rfl o1 hr2 ?_
  refine z_iload 2 rfl rfl ?_
  refine z_aload_n 3 rfl rfl ?_
  obtain ⟨o3, B⟩ := B
  obtain ⟨r4, hr4, B⟩ := B
  refine z_getR 4 rfl lX5_18 rfl o3 hr4 ?_
  refine z_iload_n 5 rfl rfl ?_
  obtain ⟨o5, B⟩ := B
  obtain ⟨o6, B⟩ := B
  refine z_iald 6 rfl o5 o6 ?_
  refine z_aload_n 7 rfl rfl ?_
  obtain ⟨r7, hr7, B⟩ := B
  refine z_getR 8 rfl lX5_23 rfl o3 hr7 ?_
  refine z_iload_n 9 rfl rfl ?_
  obtain ⟨o8, B⟩ := B
  obtain ⟨o9, B⟩ := B
  obtain ⟨r10, hr10, B⟩ := B
  refine z_aald 10 rfl o8 o9 hr10 ?_
  refine z_iload_n 11 rfl rfl ?_
  obtain ⟨o11, B⟩ := B
  obtain ⟨o12, B⟩ := B
  refine z_iald 12 rfl o11 o12 ?_
  refine z_aload_n 13 rfl rfl ?_
  obtain ⟨r13, hr13, B⟩ := B
  refine z_getR 14 rfl lX5_15 rfl o3 hr13 ?_
  refine z_iload_n 15 rfl rfl ?_
  obtain ⟨o14, B⟩ := B
  obtain ⟨o15, B⟩ := B
  refine z_iald 16 rfl o14 o15 ?_
  refine z_aload_n 17 rfl rfl ?_
  refine z_getI 18 rfl lX5_55 rfl o3 ?_
  refine z_iload_n 19 rfl rfl ?_
  refine z_iconst (v := 0) 20 rfl (by decide) ?_
  obtain ⟨o26, B⟩ := B
  obtain ⟨Q16, K18, B⟩ := B
  refine z_cVV7 (ν := mX0_setNames) 21 rfl rfl fX0_setNames gX5_140 ⟨_, rfl, rfl⟩ (by decide) o26 (Nat.le_of_ble_eq_true rfl) K18 (fun h17 q => ?_)
  have B := B h17 q
  refine z_aload_n 22 rfl rfl ?_
  obtain ⟨o19, B⟩ := B
  obtain ⟨r20, hr20, B⟩ := B
  refine z_getR 23 rfl lX5_136 rfl o19 hr20 ?_
  refine z_iconst (v := 0) 24 rfl (by decide) ?_
  obtain ⟨o25, B⟩ := B
  obtain ⟨Q21, K23, B⟩ := B
  refine z_cVL1 (ν := mX0_workOut) 25 rfl rfl fX0_workOut gX5_146 ⟨_, rfl, rfl⟩ (by decide) o25 (Nat.le_of_ble_eq_true rfl) K23 (fun v24 h22 q => ?_)
  have B := B v24 h22 q
  exact z_lret 26 rfl rfl ⟨rfl, rfl⟩ ⟨_, rfl, B⟩
theorem cn_X5_airLaw {G : zG} {d : Nat} {h : zMem} {Q : Int64 → zMem → Prop} {a0 : Nat} {a1 : Nat} {x2 : Int32} {x3 : Int32} {x4 : Int32} (B : zg G mX5_airLaw (d + 1) 0 [.ref a0, .ref a1, .int x2, .int x3, .int x4] [] h (zPL Q)) : zConL G mX5_airLaw (d + 1) [.ref a0, .ref a1, .int x2, .int x3, .int x4] h Q := zcon0 (by decide +kernel) eX5_airLaw (Nat.le_of_ble_eq_true rfl) rfl B
set_option maxRecDepth 100000 in
set_option maxHeartbeats 4000000 in
theorem sg_X5_keenLaw_0 {G : zG} {d : Nat} {h : zMem} {Q : Int64 → zMem → Prop} {a0 : Nat} {a1 : Nat} {x2 : Int32} {x3 : Int32} (B : zO h a1 6 ∧ ∃ r2, zR h a1 8 = some r2 ∧ zO h a0 5 ∧ ∃ r4, zR h a0 2 = some r4 ∧ zO h r4 100 ∧ vp_in x3 (zLen h r4) ∧ ∃ r7, zR h a1 7 = some r7 ∧ zO h r7 100 ∧ vp_in x2 (zLen h r7) ∧ zO h r2 0 ∧ ∃ Q10 : zMem → Prop, zConV G mX0_setNames d [.ref r2, .int (0 : Int32), .int (zI h r4 x3.toNatClampNeg), .int (0 : Int32), .int (0 : Int32), .int (zI h a0 10), .int x3, .int (zI h r7 x2.toNatClampNeg)] h Q10 ∧ (∀ h11, Q10 h11 → zO h11 a1 6 ∧ ∃ r14, zR h11 a1 8 = some r14 ∧ zO h11 r14 0 ∧ ∃ Q15 : Int64 → zMem → Prop, zConL G mX0_workOut d [.ref r14, .int (1 : Int32)] h11 Q15 ∧ (∀ v18 h16, Q15 v18 h16 → Q v18 h16))) : zg G mX5_keenLaw (d + 1) 0 [.ref a0, .ref a1, .int x2, .int x3] [] h (zPL Q) := by
  refine z_aload_n 0 rfl rfl ?_
  obtain ⟨o1, B⟩ := B
  obtain ⟨r2, hr2, B⟩ := B
  refine z_getR 1 rfl lX5_136 rfl o1 hr2 ?_
  refine z_iconst (v := 0) 2 rfl (by decide) ?_
  refine z_aload_n 3 rfl rfl ?_
  obtain ⟨o3, B⟩ := B
  obtain ⟨r4, hr4, B⟩ := B
  refine z_getR 4 rfl lX5_18 rfl o3 hr4 ?_
  refine z_iload_n 5 rfl rfl ?_
  obtain ⟨o5, B⟩ := B
  obtain ⟨o6, B⟩ := B
  refine z_iald 6 rfl o5 o6 ?_
  refine z_iconst (v := 0) 7 rfl (by decide) ?_
  refine z_iconst (v := 0) 8 rfl (by decide) ?_
  refine z_aload_n 9 rfl rfl ?_
  refine z_getI 10 rfl lX5_55 rfl o3 ?_
  refine z_iload_n 11 rfl rfl ?_
  refine z_aload_n 12 rfl rfl ?_
  obtain ⟨r7, hr7, B⟩ := B
  refine z_getR 13 rfl lX5_150 rfl o1 hr7 ?_
  refine z_iload_n 14 rfl rfl ?_
  obtain ⟨o8, B⟩ := B
  obtain ⟨o9, B⟩ := B
  refine z_iald 15 rfl o8 o9 ?_
  obtain ⟨o20, B⟩ := B
  obtain ⟨Q10, K12, B⟩ := B
  refine z_cVV7 (ν := mX0_setNames) 16 rfl rfl fX0_setNames gX5_140 ⟨_, rfl, rfl⟩ (by decide) o20 (Nat.le_of_ble_eq_true rfl) K12 (fun h11 q => ?_)
  have B := B h11 q
  refine z_aload_n 17 rfl rfl ?_
  obtain ⟨o13, B⟩ := B
  obtain ⟨r14, hr14, B⟩ := B
  refine z_getR 18 rfl lX5_136 rfl o13 hr14 ?_
  refine z_iconst (v := 1) 19 rfl (by decide) ?_
  obtain ⟨o19, B⟩ := B
  obtain ⟨Q15, K17, B⟩ := B
  refine z_cVL1 (ν := mX0_workOut) 20 rfl rfl fX0_workOut gX5_146 ⟨_, rfl, rfl⟩ (by decide) o19 (Nat.le_of_ble_eq_true rfl) K17 (fun v18 h16 q => ?_)
  have B := B v18 h16 q
  exact z_lret 21 rfl rfl ⟨rfl, rfl⟩ ⟨_, rfl, B⟩
theorem cn_X5_keenLaw {G : zG} {d : Nat} {h : zMem} {Q : Int64 → zMem → Prop} {a0 : Nat} {a1 : Nat} {x2 : Int32} {x3 : Int32} (B : zg G mX5_keenLaw (d + 1) 0 [.ref a0, .ref a1, .int x2, .int x3] [] h (zPL Q)) : zConL G mX5_keenLaw (d + 1) [.ref a0, .ref a1, .int x2, .int x3] h Q := zcon0 (by decide +kernel) eX5_keenLaw (Nat.le_of_ble_eq_true rfl) rfl B
set_option maxRecDepth 100000 in
set_option maxHeartbeats 4000000 in
theorem sg_X5_worthLaw_0 {G : zG} {d : Nat} {h : zMem} {Q : Int64 → zMem → Prop} {a0 : Nat} {a1 : Nat} {x2 : Int32} (B : zO h a1 6 ∧ ∃ r2, zR h a1 8 = some r2 ∧ zO h a0 5 ∧ ∃ r4, zR h a0 0 = some r4 ∧ zO h r4 100 ∧ vp_in x2 (zLen h r4) ∧ zO h r2 0 ∧ ∃ Q7 : zMem → Prop, zConV G mX0_setNames d [.ref r2, .int (zI h r4 x2.toNatClampNeg), .int (0 : Int32), .int (0 : Int32), .int (0 : Int32), .int (zI h a0 10), .int (0 : Int32), .int (0 : Int32)] h Q7 ∧ (∀ h8, Q7 h8 → zO h8 a1 6 ∧ ∃ r11, zR h8 a1 8 = some r11 ∧ zO h8 r11 0 ∧ ∃ Q12 : Int64 → zMem → Prop, zConL G mX0_workOut d [.ref r11, .int (2 : Int32)] h8 Q12 ∧ (∀ v15 h13, Q12 v15 h13 → Q v15 h13))) : zg G mX5_worthLaw (d + 1) 0 [.ref a0, .ref a1, .int x2] [] h (zPL Q) := by
  refine z_aload_n 0 rfl rfl ?_
  obtain ⟨o1, B⟩ := B
  obtain ⟨r2, hr2, B⟩ := B
  refine z_getR 1 rfl lX5_136 rfl o1 hr2 ?_
  refine z_aload_n 2 rfl rfl ?_
  obtain ⟨o3, B⟩ := B
  obtain ⟨r4, hr4, B⟩ := B
  refine z_getR 3 rfl lX5_9 rfl o3 hr4 ?_
  refine z_iload_n 4 rfl rfl ?_
  obtain ⟨o5, B⟩ := B
  obtain ⟨o6, B⟩ := B
  refine z_iald 5 rfl o5 o6 ?_
  refine z_iconst (v := 0) 6 rfl (by decide) ?_
  refine z_iconst (v := 0) 7 rfl (by decide) ?_
  refine z_iconst (v := 0) 8 rfl (by decide) ?_
  refine z_aload_n 9 rfl rfl ?_
  refine z_getI 10 rfl lX5_55 rfl o3 ?_
  refine z_iconst (v := 0) 11 rfl (by decide) ?_
  refine z_iconst (v := 0) 12 rfl (by decide) ?_
  obtain ⟨o17, B⟩ := B
  obtain ⟨Q7, K9, B⟩ := B
  refine z_cVV7 (ν := mX0_setNames) 13 rfl rfl fX0_setNames gX5_140 ⟨_, rfl, rfl⟩ (by decide) o17 (Nat.le_of_ble_eq_true rfl) K9 (fun h8 q => ?_)
  have B := B h8 q
  refine z_aload_n 14 rfl rfl ?_
  obtain ⟨o10, B⟩ := B
  obtain ⟨r11, hr11, B⟩ := B
  refine z_getR 15 rfl lX5_136 rfl o10 hr11 ?_
  refine z_iconst (v := 2) 16 rfl (by decide) ?_
  obtain ⟨o16, B⟩ := B
  obtain ⟨Q12, K14, B⟩ := B
  refine z_cVL1 (ν := mX0_workOut) 17 rfl rfl fX0_workOut gX5_146 ⟨_, rfl, rfl⟩ (by decide) o16 (Nat.le_of_ble_eq_true rfl) K14 (fun v15 h13 q => ?_)
  have B := B v15 h13 q
  exact z_lret 18 rfl rfl ⟨rfl, rfl⟩ ⟨_, rfl, B⟩
theorem cn_X5_worthLaw {G : zG} {d : Nat} {h : zMem} {Q : Int64 → zMem → Prop} {a0 : Nat} {a1 : Nat} {x2 : Int32} (B : zg G mX5_worthLaw (d + 1) 0 [.ref a0, .ref a1, .int x2] [] h (zPL Q)) : zConL G mX5_worthLaw (d + 1) [.ref a0, .ref a1, .int x2] h Q := zcon0 (by decide +kernel) eX5_worthLaw (Nat.le_of_ble_eq_true rfl) rfl B
set_option maxRecDepth 100000 in
set_option maxHeartbeats 4000000 in
theorem sg_X5_keenOf_0 {G : zG} {d : Nat} {h : zMem} {Q : Int32 → zMem → Prop} {a0 : Nat} {a1 : Nat} {x2 : Int32} {x3 : Int32} (B : zO h a0 5 ∧ ∃ Q1 : Int64 → zMem → Prop, zConL G mX5_keenLaw d [.ref a0, .ref a1, .int x2, .int x3] h Q1 ∧ (∀ v4 h2, Q1 v4 h2 → (¬ (lg_cmp v4 (-9223372036854775808 : Int64)) = 0 → ∃ Q6 : Int32 → zMem → Prop, zConI G mX5_within d [.long v4, .int (1 : Int32), .int (99 : Int32)] h2 Q6 ∧ (∀ v9 h7, Q6 v9 h7 → Q v9 h7)) ∧ ((lg_cmp v4 (-9223372036854775808 : Int64)) = 0 → zO h2 a1 6 ∧ ∃ r11, zR h2 a1 7 = some r11 ∧ zO h2 r11 100 ∧ vp_in x2 (zLen h2 r11) ∧ Q (zI h2 r11 x2.toNatClampNeg) h2))) : zg G mX5_keenOf (d + 1) 0 [.ref a0, .ref a1, .int x2, .int x3, zU, zU] [] h (zPI Q) := by
  refine z_aload_n 0 rfl rfl ?_
  refine z_aload_n 1 rfl rfl ?_
  refine z_iload_n 2 rfl rfl ?_
  refine z_iload_n 3 rfl rfl ?_
  obtain ⟨o14, B⟩ := B
  obtain ⟨Q1, K3, B⟩ := B
  refine z_cVL3 (ν := mX5_keenLaw) 4 rfl rfl fX5_keenLaw gX5_153 ⟨_, rfl, rfl⟩ (by decide) o14 (Nat.le_of_ble_eq_true rfl) K3 (fun v4 h2 q => ?_)
  have B := B v4 h2 q
  refine z_lstore 5 rfl (by decide) rfl ?_
  refine z_lload 6 rfl rfl ?_
  refine z_ldc2 7 rfl kX5_111 ?_
  refine z_lcmp 8 rfl ?_
  refine z_if_ne 9 27 rfl (by decide) ⟨fun c5 => ?_, fun c5 => ?_⟩
  · have B := B.1 c5
    refine z_lload 15 rfl rfl ?_
    refine z_iconst (v := 1) 16 rfl (by decide) ?_
    refine z_bipush (v := 99) 17 rfl (by decide) ?_
    obtain ⟨Q6, K8, B⟩ := B
    refine z_cSI3 (ν := mX5_within) 18 rfl rfl fX5_within gX5_113 (Nat.le_of_ble_eq_true rfl) K8 (fun v9 h7 q => ?_)
    have B := B v9 h7 q
    exact z_iret 19 rfl rfl rfl ⟨rfl, rfl⟩ ⟨_, rfl, B⟩
  · have B := B.2 c5
    refine z_aload_n 10 rfl rfl ?_
    obtain ⟨o10, B⟩ := B
    obtain ⟨r11, hr11, B⟩ := B
    refine z_getR 11 rfl lX5_150 rfl o10 hr11 ?_
    refine z_iload_n 12 rfl rfl ?_
    obtain ⟨o12, B⟩ := B
    obtain ⟨o13, B⟩ := B
    refine z_iald 13 rfl o12 o13 ?_
    refine z_goto 14 35 rfl (by decide) ?_
    exact z_iret 19 rfl rfl rfl ⟨rfl, rfl⟩ ⟨_, rfl, B⟩
theorem cn_X5_keenOf {G : zG} {d : Nat} {h : zMem} {Q : Int32 → zMem → Prop} {a0 : Nat} {a1 : Nat} {x2 : Int32} {x3 : Int32} (B : zg G mX5_keenOf (d + 1) 0 [.ref a0, .ref a1, .int x2, .int x3, zU, zU] [] h (zPI Q)) : zConI G mX5_keenOf (d + 1) [.ref a0, .ref a1, .int x2, .int x3] h Q := zcon0 (by decide +kernel) eX5_keenOf (Nat.le_of_ble_eq_true rfl) rfl B
set_option maxRecDepth 100000 in
set_option maxHeartbeats 4000000 in
theorem sg_X5_worthOf_0 {G : zG} {d : Nat} {h : zMem} {Q : Int32 → zMem → Prop} {a0 : Nat} {a1 : Nat} {x2 : Int32} (B : zO h a0 5 ∧ ∃ Q1 : Int64 → zMem → Prop, zConL G mX5_worthLaw d [.ref a0, .ref a1, .int x2] h Q1 ∧ (∀ v4 h2, Q1 v4 h2 → (¬ (lg_cmp v4 (-9223372036854775808 : Int64)) = 0 → ∃ Q6 : Int32 → zMem → Prop, zConI G mX5_within d [.long v4, .int (0 : Int32), .int (999 : Int32)] h2 Q6 ∧ (∀ v9 h7, Q6 v9 h7 → Q v9 h7)) ∧ ((lg_cmp v4 (-9223372036854775808 : Int64)) = 0 → Q (1 : Int32) h2))) : zg G mX5_worthOf (d + 1) 0 [.ref a0, .ref a1, .int x2, zU, zU] [] h (zPI Q) := by
  refine z_aload_n 0 rfl rfl ?_
  refine z_aload_n 1 rfl rfl ?_
  refine z_iload_n 2 rfl rfl ?_
  obtain ⟨o10, B⟩ := B
  obtain ⟨Q1, K3, B⟩ := B
  refine z_cVL2 (ν := mX5_worthLaw) 3 rfl rfl fX5_worthLaw gX5_157 ⟨_, rfl, rfl⟩ (by decide) o10 (Nat.le_of_ble_eq_true rfl) K3 (fun v4 h2 q => ?_)
  have B := B v4 h2 q
  refine z_lstore_n 4 rfl (by decide) rfl ?_
  refine z_lload_n 5 rfl rfl ?_
  refine z_ldc2 6 rfl kX5_111 ?_
  refine z_lcmp 7 rfl ?_
  refine z_if_ne 8 19 rfl (by decide) ⟨fun c5 => ?_, fun c5 => ?_⟩
  · have B := B.1 c5
    refine z_lload_n 11 rfl rfl ?_
    refine z_iconst (v := 0) 12 rfl (by decide) ?_
    refine z_sipush (v := 999) 13 rfl (by decide) ?_
    obtain ⟨Q6, K8, B⟩ := B
    refine z_cSI3 (ν := mX5_within) 14 rfl rfl fX5_within gX5_113 (Nat.le_of_ble_eq_true rfl) K8 (fun v9 h7 q => ?_)
    have B := B v9 h7 q
    exact z_iret 15 rfl rfl rfl ⟨rfl, rfl⟩ ⟨_, rfl, B⟩
  · have B := B.2 c5
    refine z_iconst (v := 1) 9 rfl (by decide) ?_
    refine z_goto 10 27 rfl (by decide) ?_
    exact z_iret 15 rfl rfl rfl ⟨rfl, rfl⟩ ⟨_, rfl, B⟩
theorem cn_X5_worthOf {G : zG} {d : Nat} {h : zMem} {Q : Int32 → zMem → Prop} {a0 : Nat} {a1 : Nat} {x2 : Int32} (B : zg G mX5_worthOf (d + 1) 0 [.ref a0, .ref a1, .int x2, zU, zU] [] h (zPI Q)) : zConI G mX5_worthOf (d + 1) [.ref a0, .ref a1, .int x2] h Q := zcon0 (by decide +kernel) eX5_worthOf (Nat.le_of_ble_eq_true rfl) rfl B
set_option maxRecDepth 100000 in
set_option maxHeartbeats 4000000 in
theorem sg_X5_within_0 {G : zG} {d : Nat} {h : zMem} {Q : Int32 → zMem → Prop} {y0 : Int64} {x2 : Int32} {x3 : Int32} (B : Q ((if (if y0 < x3.toInt64 then y0 else x3.toInt64) < x2.toInt64 then x2.toInt64 else (if y0 < x3.toInt64 then y0 else x3.toInt64)).toInt32) h) : zg G mX5_within (d + 1) 0 [.long y0, zU, .int x2, .int x3] [] h (zPI Q) := by
  refine z_iload_n 0 rfl rfl ?_
  refine z_i2l 1 rfl ?_
  refine z_iload_n 2 rfl rfl ?_
  refine z_i2l 3 rfl ?_
  refine z_lload_n 4 rfl rfl ?_
  refine z_lmin 5 rfl rfl gmX5_161 (Nat.le_of_ble_eq_true rfl) ?_
  refine z_lmax 6 rfl rfl gmX5_164 (Nat.le_of_ble_eq_true rfl) ?_
  refine z_l2i 7 rfl ?_
  exact z_iret 8 rfl rfl rfl ⟨rfl, rfl⟩ ⟨_, rfl, B⟩
theorem cn_X5_within {G : zG} {d : Nat} {h : zMem} {Q : Int32 → zMem → Prop} {y0 : Int64} {x2 : Int32} {x3 : Int32} (B : zg G mX5_within (d + 1) 0 [.long y0, zU, .int x2, .int x3] [] h (zPI Q)) : zConI G mX5_within (d + 1) [.long y0, .int x2, .int x3] h Q := zcon0 (by decide +kernel) eX5_within (Nat.le_of_ble_eq_true rfl) rfl B
