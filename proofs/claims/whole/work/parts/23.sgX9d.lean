set_option maxRecDepth 100000 in
set_option maxHeartbeats 4000000 in
theorem sg_X9_markDays_0 {G : zG} {d : Nat} {h : zMem} {Q : zMem → Prop} {a0 : Nat} {x1 : Int32} {x2 : Int32} (B : zO h a0 8 ∧ ∃ r2, zR h a0 4 = some r2 ∧ ∃ r3, zR h a0 11 = some r3 ∧ zO h r2 5 ∧ ∃ Q4 : Int32 → zMem → Prop, zConI G mX5_keenOf d [.ref r2, .ref r3, .int x1, .int x2] h Q4 ∧ (∀ v7 h5, Q4 v7 h5 → zg G mX9_markDays (d + 1) 17 [.ref a0, .int x1, .int x2, .int v7, .int (0 : Int32)] [] h5 (zPV Q))) : zg G mX9_markDays (d + 1) 0 [.ref a0, .int x1, .int x2, zU, zU] [] h (zPV Q) := by
  refine z_aload_n 0 rfl rfl ?_
  obtain ⟨o1, B⟩ := B
  obtain ⟨r2, hr2, B⟩ := B
  refine z_getR 1 rfl lX9_37 rfl o1 hr2 ?_
  refine z_aload_n 2 rfl rfl ?_
  obtain ⟨r3, hr3, B⟩ := B
  refine z_getR 3 rfl lX9_67 rfl o1 hr3 ?_
  refine z_iload_n 4 rfl rfl ?_
  refine z_iload_n 5 rfl rfl ?_
  obtain ⟨o8, B⟩ := B
  obtain ⟨Q4, K6, B⟩ := B
  refine z_cVI3 (ν := mX5_keenOf) 6 rfl rfl fX5_keenOf gX9_340 ⟨_, rfl, rfl⟩ (by decide) o8 (Nat.le_of_ble_eq_true rfl) K6 (fun v7 h5 q => ?_)
  have B := B v7 h5 q
  refine z_istore_n 7 rfl (by decide) rfl ?_
  refine z_iconst (v := 0) 8 rfl (by decide) ?_
  refine z_istore 9 rfl (by decide) rfl ?_
  exact B
theorem cn_X9_markDays {G : zG} {d : Nat} {h : zMem} {Q : zMem → Prop} {a0 : Nat} {x1 : Int32} {x2 : Int32} (B : zg G mX9_markDays (d + 1) 0 [.ref a0, .int x1, .int x2, zU, zU] [] h (zPV Q)) : zConV G mX9_markDays (d + 1) [.ref a0, .int x1, .int x2] h Q := zcon0 (by decide +kernel) eX9_markDays (Nat.le_of_ble_eq_true rfl) rfl B
set_option maxRecDepth 100000 in
set_option maxHeartbeats 4000000 in
theorem sg_X9_markDays_17 {G : zG} {d : Nat} {h : zMem} {Q : zMem → Prop} {a0 : Nat} {x1 : Int32} {x2 : Int32} {x3 : Int32} {x4 : Int32} (B : zO h a0 8 ∧ ∃ r2, zR h a0 11 = some r2 ∧ zO h r2 6 ∧ ∃ r4, zR h r2 0 = some r4 ∧ zO h r4 100 ∧ vp_in (1 : Int32) (zLen h r4) ∧ ((zI h r4 (1 : Int32).toNatClampNeg) ≤ x4 → Q h) ∧ (¬ (zI h r4 (1 : Int32).toNatClampNeg) ≤ x4 → ∃ r8, zR h a0 10 = some r8 ∧ ∃ r9, zR h r2 4 = some r9 ∧ zO h r9 104 ∧ vp_in x4 (zLen h r9) ∧ ∃ r12, zR h r9 x4.toNatClampNeg = some r12 ∧ ∃ r13, zR h a0 4 = some r13 ∧ zO h r13 5 ∧ ∃ r15, zR h r13 2 = some r15 ∧ zO h r15 100 ∧ vp_in x2 (zLen h r15) ∧ ∃ r18, zR h r13 5 = some r18 ∧ zO h r18 100 ∧ vp_in x1 (zLen h r18) ∧ ∃ Q21 : Int32 → zMem → Prop, zConI G mX7_smelt d [.ref r2, .ref r12, .int (zI h r15 x2.toNatClampNeg), .int x3, .int (zI h r18 x1.toNatClampNeg)] h Q21 ∧ (∀ v24 h22, Q21 v24 h22 → zO h22 r8 100 ∧ vp_in x4 (zLen h22 r8) ∧ zg G mX9_markDays (d + 1) 17 [.ref a0, .int x1, .int x2, .int x3, .int (x4 + 1)] [] (zsI h22 r8 x4.toNatClampNeg v24) (zPV Q)))) : zg G mX9_markDays (d + 1) 17 [.ref a0, .int x1, .int x2, .int x3, .int x4] [] h (zPV Q) := by
  refine z_iload 10 rfl rfl ?_
  refine z_aload_n 11 rfl rfl ?_
  obtain ⟨o1, B⟩ := B
  obtain ⟨r2, hr2, B⟩ := B
  refine z_getR 12 rfl lX9_67 rfl o1 hr2 ?_
  obtain ⟨o3, B⟩ := B
  obtain ⟨r4, hr4, B⟩ := B
  refine z_getR 13 rfl lX9_208 rfl o3 hr4 ?_
  refine z_iconst (v := 1) 14 rfl (by decide) ?_
  obtain ⟨o5, B⟩ := B
  obtain ⟨o6, B⟩ := B
  refine z_iald 15 rfl o5 o6 ?_
  refine z_icmp_ge 16 80 rfl (by decide) ⟨fun c7 => ?_, fun c7 => ?_⟩
  · have B := B.1 c7
    exact z_vret 42 rfl rfl ⟨rfl, rfl⟩ ⟨rfl, B⟩
  · have B := B.2 c7
    refine z_aload_n 17 rfl rfl ?_
    obtain ⟨r8, hr8, B⟩ := B
    refine z_getR 18 rfl lX9_61 rfl o1 hr8 ?_
    refine z_iload 19 rfl rfl ?_
    refine z_aload_n 20 rfl rfl ?_
    refine z_getR 21 rfl lX9_67 rfl o1 hr2 ?_
    refine z_aload_n 22 rfl rfl ?_
    refine z_getR 23 rfl lX9_67 rfl o1 hr2 ?_
    obtain ⟨r9, hr9, B⟩ := B
    refine z_getR 24 rfl lX9_158 rfl o3 hr9 ?_
    refine z_iload 25 rfl rfl ?_
    obtain ⟨o10, B⟩ := B
    obtain ⟨o11, B⟩ := B
    obtain ⟨r12, hr12, B⟩ := B
    refine z_aald 26 rfl o10 o11 hr12 ?_
    refine z_aload_n 27 rfl rfl ?_
    obtain ⟨r13, hr13, B⟩ := B
    refine z_getR 28 rfl lX9_37 rfl o1 hr13 ?_
    obtain ⟨o14, B⟩ := B
    obtain ⟨r15, hr15, B⟩ := B
    refine z_getR 29 rfl lX9_220 rfl o14 hr15 ?_
    refine z_iload_n 30 rfl rfl ?_
    obtain ⟨o16, B⟩ := B
    obtain ⟨o17, B⟩ := B
    refine z_iald 31 rfl o16 o17 ?_
    refine z_iload_n 32 rfl rfl ?_
    refine z_aload_n 33 rfl rfl ?_
    refine z_getR 34 rfl lX9_37 rfl o1 hr13 ?_
    obtain ⟨r18, hr18, B⟩ := B
    refine z_getR 35 rfl lX9_134 rfl o14 hr18 ?_
    refine z_iload_n 36 rfl rfl ?_
    obtain ⟨o19, B⟩ := B
    obtain ⟨o20, B⟩ := B
    refine z_iald 37 rfl o19 o20 ?_
    obtain ⟨Q21, K23, B⟩ := B
    refine z_cVI4 (ν := mX7_smelt) 38 rfl rfl fX7_smelt gX9_249 ⟨_, rfl, rfl⟩ (by decide) o3 (Nat.le_of_ble_eq_true rfl) K23 (fun v24 h22 q => ?_)
    have B := B v24 h22 q
    obtain ⟨o25, B⟩ := B
    obtain ⟨o26, B⟩ := B
    refine z_iast 39 rfl o25 o26 ?_
    refine z_iinc (v := 1) 40 rfl rfl (by decide) (by decide) rfl ?_
    refine z_goto 41 17 rfl (by decide) ?_
    exact B
set_option maxRecDepth 100000 in
set_option maxHeartbeats 4000000 in
theorem sg_X9_alikePairs_0 {G : zG} {d : Nat} {h : zMem} {Q : Int32 → zMem → Prop} {a0 : Nat} (B : zg G mX9_alikePairs d 4 [.ref a0, .int (0 : Int32), .int (0 : Int32), zU] [] h (zPI Q)) : zg G mX9_alikePairs d 0 [.ref a0, zU, zU, zU] [] h (zPI Q) := by
  refine z_iconst (v := 0) 0 rfl (by decide) ?_
  refine z_istore_n 1 rfl (by decide) rfl ?_
  refine z_iconst (v := 0) 2 rfl (by decide) ?_
  refine z_istore_n 3 rfl (by decide) rfl ?_
  exact B
theorem cn_X9_alikePairs {G : zG} {d : Nat} {h : zMem} {Q : Int32 → zMem → Prop} {a0 : Nat} (B : zg G mX9_alikePairs d 0 [.ref a0, zU, zU, zU] [] h (zPI Q)) : zConI G mX9_alikePairs d [.ref a0] h Q := zcon0 (by decide +kernel) eX9_alikePairs (Nat.le_of_ble_eq_true rfl) rfl B
set_option maxRecDepth 100000 in
set_option maxHeartbeats 4000000 in
theorem sg_X9_alikePairs_4 {G : zG} {d : Nat} {h : zMem} {Q : Int32 → zMem → Prop} {a0 : Nat} {x1 : Int32} {x2 : Int32} (B : zO h a0 8 ∧ ∃ r2, zR h a0 11 = some r2 ∧ zO h r2 6 ∧ ∃ r4, zR h r2 0 = some r4 ∧ zO h r4 100 ∧ vp_in (1 : Int32) (zLen h r4) ∧ ((zI h r4 (1 : Int32).toNatClampNeg) ≤ x2 → Q x1 h) ∧ (¬ (zI h r4 (1 : Int32).toNatClampNeg) ≤ x2 → zg G mX9_alikePairs d 21 [.ref a0, .int x1, .int x2, .int (x2 + (1 : Int32))] [] h (zPI Q))) : zg G mX9_alikePairs d 4 [.ref a0, .int x1, .int x2, zU] [] h (zPI Q) := by
  refine z_iload_n 4 rfl rfl ?_
  refine z_aload_n 5 rfl rfl ?_
  obtain ⟨o1, B⟩ := B
  obtain ⟨r2, hr2, B⟩ := B
  refine z_getR 6 rfl lX9_67 rfl o1 hr2 ?_
  obtain ⟨o3, B⟩ := B
  obtain ⟨r4, hr4, B⟩ := B
  refine z_getR 7 rfl lX9_208 rfl o3 hr4 ?_
  refine z_iconst (v := 1) 8 rfl (by decide) ?_
  obtain ⟨o5, B⟩ := B
  obtain ⟨o6, B⟩ := B
  refine z_iald 9 rfl o5 o6 ?_
  refine z_icmp_ge 10 64 rfl (by decide) ⟨fun c7 => ?_, fun c7 => ?_⟩
  · have B := B.1 c7
    refine z_iload_n 36 rfl rfl ?_
    exact z_iret 37 rfl rfl rfl ⟨rfl, rfl⟩ ⟨_, rfl, B⟩
  · have B := B.2 c7
    refine z_iload_n 11 rfl rfl ?_
    refine z_iconst (v := 1) 12 rfl (by decide) ?_
    refine z_iadd 13 rfl ?_
    refine z_istore_n 14 rfl (by decide) rfl ?_
    exact B
set_option maxRecDepth 100000 in
set_option maxHeartbeats 4000000 in
theorem sg_X9_alikePairs_21 {G : zG} {d : Nat} {h : zMem} {Q : Int32 → zMem → Prop} {a0 : Nat} {x1 : Int32} {x2 : Int32} {x3 : Int32} (B : zO h a0 8 ∧ ∃ r2, zR h a0 11 = some r2 ∧ zO h r2 6 ∧ ∃ r4, zR h r2 0 = some r4 ∧ zO h r4 100 ∧ vp_in (1 : Int32) (zLen h r4) ∧ ((zI h r4 (1 : Int32).toNatClampNeg) ≤ x3 → zg G mX9_alikePairs d 4 [.ref a0, .int x1, .int (x2 + 1), zU] [] h (zPI Q)) ∧ (¬ (zI h r4 (1 : Int32).toNatClampNeg) ≤ x3 → ∃ r8, zR h a0 10 = some r8 ∧ zO h r8 100 ∧ vp_in x2 (zLen h r8) ∧ vp_in x3 (zLen h r8) ∧ (¬ (zI h r8 x2.toNatClampNeg) = (zI h r8 x3.toNatClampNeg) → zg G mX9_alikePairs d 21 [.ref a0, .int x1, .int x2, .int (x3 + 1)] [] h (zPI Q)) ∧ ((zI h r8 x2.toNatClampNeg) = (zI h r8 x3.toNatClampNeg) → zg G mX9_alikePairs d 21 [.ref a0, .int (x1 + 1), .int x2, .int (x3 + 1)] [] h (zPI Q)))) : zg G mX9_alikePairs d 21 [.ref a0, .int x1, .int x2, .int x3] [] h (zPI Q) := by
  refine z_iload_n 15 rfl rfl ?_
  refine z_aload_n 16 rfl rfl ?_
  obtain ⟨o1, B⟩ := B
  obtain ⟨r2, hr2, B⟩ := B
  refine z_getR 17 rfl lX9_67 rfl o1 hr2 ?_
  obtain ⟨o3, B⟩ := B
  obtain ⟨r4, hr4, B⟩ := B
  refine z_getR 18 rfl lX9_208 rfl o3 hr4 ?_
  refine z_iconst (v := 1) 19 rfl (by decide) ?_
  obtain ⟨o5, B⟩ := B
  obtain ⟨o6, B⟩ := B
  refine z_iald 20 rfl o5 o6 ?_
  refine z_icmp_ge 21 58 rfl (by decide) ⟨fun c7 => ?_, fun c7 => ?_⟩
  · have B := B.1 c7
    refine z_iinc (v := 1) 34 rfl rfl (by decide) (by decide) rfl ?_
    refine z_goto 35 4 rfl (by decide) ?_
    refine z_drop 3 ?_
    exact B
  · have B := B.2 c7
    refine z_aload_n 22 rfl rfl ?_
    obtain ⟨r8, hr8, B⟩ := B
    refine z_getR 23 rfl lX9_61 rfl o1 hr8 ?_
    refine z_iload_n 24 rfl rfl ?_
    obtain ⟨o9, B⟩ := B
    obtain ⟨o10, B⟩ := B
    refine z_iald 25 rfl o9 o10 ?_
    refine z_aload_n 26 rfl rfl ?_
    refine z_getR 27 rfl lX9_61 rfl o1 hr8 ?_
    refine z_iload_n 28 rfl rfl ?_
    obtain ⟨o11, B⟩ := B
    refine z_iald 29 rfl o9 o11 ?_
    refine z_icmp_ne 30 52 rfl (by decide) ⟨fun c12 => ?_, fun c12 => ?_⟩
    · have B := B.1 c12
      refine z_iinc (v := 1) 32 rfl rfl (by decide) (by decide) rfl ?_
      refine z_goto 33 21 rfl (by decide) ?_
      exact B
    · have B := B.2 c12
      refine z_iinc (v := 1) 31 rfl rfl (by decide) (by decide) rfl ?_
      refine z_iinc (v := 1) 32 rfl rfl (by decide) (by decide) rfl ?_
      refine z_goto 33 21 rfl (by decide) ?_
      exact B
set_option maxRecDepth 100000 in
set_option maxHeartbeats 4000000 in
theorem sg_X9_unlikeMarks_0 {G : zG} {d : Nat} {h : zMem} {Q : Int32 → zMem → Prop} {a0 : Nat} (B : zg G mX9_unlikeMarks d 4 [.ref a0, .int (0 : Int32), .int (0 : Int32), zU, zU] [] h (zPI Q)) : zg G mX9_unlikeMarks d 0 [.ref a0, zU, zU, zU, zU] [] h (zPI Q) := by
  refine z_iconst (v := 0) 0 rfl (by decide) ?_
  refine z_istore_n 1 rfl (by decide) rfl ?_
  refine z_iconst (v := 0) 2 rfl (by decide) ?_
  refine z_istore_n 3 rfl (by decide) rfl ?_
  exact B
theorem cn_X9_unlikeMarks {G : zG} {d : Nat} {h : zMem} {Q : Int32 → zMem → Prop} {a0 : Nat} (B : zg G mX9_unlikeMarks d 0 [.ref a0, zU, zU, zU, zU] [] h (zPI Q)) : zConI G mX9_unlikeMarks d [.ref a0] h Q := zcon0 (by decide +kernel) eX9_unlikeMarks (Nat.le_of_ble_eq_true rfl) rfl B
set_option maxRecDepth 100000 in
set_option maxHeartbeats 4000000 in
theorem sg_X9_unlikeMarks_4 {G : zG} {d : Nat} {h : zMem} {Q : Int32 → zMem → Prop} {a0 : Nat} {x1 : Int32} {x2 : Int32} (B : zO h a0 8 ∧ ∃ r2, zR h a0 11 = some r2 ∧ zO h r2 6 ∧ ∃ r4, zR h r2 0 = some r4 ∧ zO h r4 100 ∧ vp_in (1 : Int32) (zLen h r4) ∧ ((zI h r4 (1 : Int32).toNatClampNeg) ≤ x2 → Q x1 h) ∧ (¬ (zI h r4 (1 : Int32).toNatClampNeg) ≤ x2 → zg G mX9_unlikeMarks d 22 [.ref a0, .int x1, .int x2, .int (1 : Int32), .int (0 : Int32)] [] h (zPI Q))) : zg G mX9_unlikeMarks d 4 [.ref a0, .int x1, .int x2, zU, zU] [] h (zPI Q) := by
  refine z_iload_n 4 rfl rfl ?_
  refine z_aload_n 5 rfl rfl ?_
  obtain ⟨o1, B⟩ := B
  obtain ⟨r2, hr2, B⟩ := B
  refine z_getR 6 rfl lX9_67 rfl o1 hr2 ?_
  obtain ⟨o3, B⟩ := B
  obtain ⟨r4, hr4, B⟩ := B
  refine z_getR 7 rfl lX9_208 rfl o3 hr4 ?_
  refine z_iconst (v := 1) 8 rfl (by decide) ?_
  obtain ⟨o5, B⟩ := B
  obtain ⟨o6, B⟩ := B
  refine z_iald 9 rfl o5 o6 ?_
  refine z_icmp_ge 10 73 rfl (by decide) ⟨fun c7 => ?_, fun c7 => ?_⟩
  · have B := B.1 c7
    refine z_iload_n 40 rfl rfl ?_
    exact z_iret 41 rfl rfl rfl ⟨rfl, rfl⟩ ⟨_, rfl, B⟩
  · have B := B.2 c7
    refine z_iconst (v := 1) 11 rfl (by decide) ?_
    refine z_istore_n 12 rfl (by decide) rfl ?_
    refine z_iconst (v := 0) 13 rfl (by decide) ?_
    refine z_istore 14 rfl (by decide) rfl ?_
    exact B
set_option maxRecDepth 100000 in
set_option maxHeartbeats 4000000 in
theorem sg_X9_unlikeMarks_22 {G : zG} {d : Nat} {h : zMem} {Q : Int32 → zMem → Prop} {a0 : Nat} {x1 : Int32} {x2 : Int32} {x3 : Int32} {x4 : Int32} (B : (x2 ≤ x4 → (x3 = 0 → zg G mX9_unlikeMarks d 4 [.ref a0, .int x1, .int (x2 + 1), zU, zU] [] h (zPI Q)) ∧ (¬ x3 = 0 → zg G mX9_unlikeMarks d 4 [.ref a0, .int (x1 + 1), .int (x2 + 1), zU, zU] [] h (zPI Q))) ∧ (¬ x2 ≤ x4 → (x3 = 0 → zg G mX9_unlikeMarks d 22 [.ref a0, .int x1, .int x2, .int (0 : Int32), .int (x4 + 1)] [] h (zPI Q)) ∧ (¬ x3 = 0 → zO h a0 8 ∧ ∃ r5, zR h a0 10 = some r5 ∧ zO h r5 100 ∧ vp_in x4 (zLen h r5) ∧ vp_in x2 (zLen h r5) ∧ ((zI h r5 x4.toNatClampNeg) = (zI h r5 x2.toNatClampNeg) → zg G mX9_unlikeMarks d 22 [.ref a0, .int x1, .int x2, .int (0 : Int32), .int (x4 + 1)] [] h (zPI Q)) ∧ (¬ (zI h r5 x4.toNatClampNeg) = (zI h r5 x2.toNatClampNeg) → zg G mX9_unlikeMarks d 22 [.ref a0, .int x1, .int x2, .int (1 : Int32), .int (x4 + 1)] [] h (zPI Q))))) : zg G mX9_unlikeMarks d 22 [.ref a0, .int x1, .int x2, .int x3, .int x4] [] h (zPI Q) := by
  refine z_iload 15 rfl rfl ?_
  refine z_iload_n 16 rfl rfl ?_
  refine z_icmp_ge 17 60 rfl (by decide) ⟨fun c1 => ?_, fun c1 => ?_⟩
  · have B := B.1 c1
    refine z_iload_n 35 rfl rfl ?_
    refine z_if_eq 36 67 rfl (by decide) ⟨fun c2 => ?_, fun c2 => ?_⟩
    · have B := B.1 c2
      refine z_iinc (v := 1) 38 rfl rfl (by decide) (by decide) rfl ?_
      refine z_goto 39 4 rfl (by decide) ?_
      refine z_drop 3 ?_
      refine z_drop 4 ?_
      exact B
    · have B := B.2 c2
      refine z_iinc (v := 1) 37 rfl rfl (by decide) (by decide) rfl ?_
      refine z_iinc (v := 1) 38 rfl rfl (by decide) (by decide) rfl ?_
      refine z_goto 39 4 rfl (by decide) ?_
      refine z_drop 3 ?_
      refine z_drop 4 ?_
      exact B
  · have B := B.2 c1
    refine z_iload_n 18 rfl rfl ?_
    refine z_if_eq 19 52 rfl (by decide) ⟨fun c3 => ?_, fun c3 => ?_⟩
    · have B := B.1 c3
      refine z_iconst (v := 0) 31 rfl (by decide) ?_
      refine z_istore_n 32 rfl (by decide) rfl ?_
      refine z_iinc (v := 1) 33 rfl rfl (by decide) (by decide) rfl ?_
      refine z_goto 34 22 rfl (by decide) ?_
      exact B
    · have B := B.2 c3
      refine z_aload_n 20 rfl rfl ?_
      obtain ⟨o4, B⟩ := B
      obtain ⟨r5, hr5, B⟩ := B
      refine z_getR 21 rfl lX9_61 rfl o4 hr5 ?_
      refine z_iload 22 rfl rfl ?_
      obtain ⟨o6, B⟩ := B
      obtain ⟨o7, B⟩ := B
      refine z_iald 23 rfl o6 o7 ?_
      refine z_aload_n 24 rfl rfl ?_
      refine z_getR 25 rfl lX9_61 rfl o4 hr5 ?_
      refine z_iload_n 26 rfl rfl ?_
      obtain ⟨o8, B⟩ := B
      refine z_iald 27 rfl o6 o8 ?_
      refine z_icmp_eq 28 52 rfl (by decide) ⟨fun c9 => ?_, fun c9 => ?_⟩
      · have B := B.1 c9
        refine z_iconst (v := 0) 31 rfl (by decide) ?_
        refine z_istore_n 32 rfl (by decide) rfl ?_
        refine z_iinc (v := 1) 33 rfl rfl (by decide) (by decide) rfl ?_
        refine z_goto 34 22 rfl (by decide) ?_
        exact B
      · have B := B.2 c9
        refine z_iconst (v := 1) 29 rfl (by decide) ?_
        refine z_goto 30 53 rfl (by decide) ?_
        refine z_istore_n 32 rfl (by decide) rfl ?_
        refine z_iinc (v := 1) 33 rfl rfl (by decide) (by decide) rfl ?_
        refine z_goto 34 22 rfl (by decide) ?_
        exact B
