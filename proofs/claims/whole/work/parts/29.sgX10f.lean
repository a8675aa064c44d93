set_option maxRecDepth 100000 in
set_option maxHeartbeats 4000000 in
theorem sg_X10_thinks_0 {G : zG} {d : Nat} {h : zMem} {Q : Int32 → zMem → Prop} {a0 : Nat} {x1 : Int32} {x2 : Int32} (B : zO h a0 9 ∧ ∃ r2, zR h a0 3 = some r2 ∧ zO h r2 100 ∧ vp_in (1 : Int32) (zLen h r2) ∧ ∃ r5, zR h a0 45 = some r5 ∧ zO h r5 100 ∧ vp_in (((5 : Int32) * x1) + x2) (zLen h r5) ∧ ¬ (zI h r2 (1 : Int32).toNatClampNeg) = 0 ∧ zg G mX10_thinks (d + 1) 26 [.ref a0, .int x1, .int x2, .int (zI h r2 (1 : Int32).toNatClampNeg), .int (((zI h r5 (((5 : Int32) * x1) + x2).toNatClampNeg) + (1 : Int32)) - ((zI h r5 (((5 : Int32) * x1) + x2).toNatClampNeg) + (1 : Int32)) / (zI h r2 (1 : Int32).toNatClampNeg) * (zI h r2 (1 : Int32).toNatClampNeg)), .int (0 : Int32), zU] [] h (zPI Q)) : zg G mX10_thinks (d + 1) 0 [.ref a0, .int x1, .int x2, zU, zU, zU, zU] [] h (zPI Q) := by
  refine z_aload_n 0 rfl rfl ?_
  obtain ⟨o1, B⟩ := B
  obtain ⟨r2, hr2, B⟩ := B
  refine z_getR 1 rfl lX10_13 rfl o1 hr2 ?_
  refine z_iconst (v := 1) 2 rfl (by decide) ?_
  obtain ⟨o3, B⟩ := B
  obtain ⟨o4, B⟩ := B
  refine z_iald 3 rfl o3 o4 ?_
  refine z_istore_n 4 rfl (by decide) rfl ?_
  refine z_aload_n 5 rfl rfl ?_
  obtain ⟨r5, hr5, B⟩ := B
  refine z_getR 6 rfl lX10_102 rfl o1 hr5 ?_
  refine z_iconst (v := 5) 7 rfl (by decide) ?_
  refine z_iload_n 8 rfl rfl ?_
  refine z_imul 9 rfl ?_
  refine z_iload_n 10 rfl rfl ?_
  refine z_iadd 11 rfl ?_
  obtain ⟨o6, B⟩ := B
  obtain ⟨o7, B⟩ := B
  refine z_iald 12 rfl o6 o7 ?_
  refine z_iconst (v := 1) 13 rfl (by decide) ?_
  refine z_iadd 14 rfl ?_
  refine z_iload_n 15 rfl rfl ?_
  obtain ⟨o8, B⟩ := B
  refine z_irem 16 rfl o8 ?_
  refine z_istore 17 rfl (by decide) rfl ?_
  refine z_iconst (v := 0) 18 rfl (by decide) ?_
  refine z_istore 19 rfl (by decide) rfl ?_
  exact B
theorem cn_X10_thinks {G : zG} {d : Nat} {h : zMem} {Q : Int32 → zMem → Prop} {a0 : Nat} {x1 : Int32} {x2 : Int32} (B : zg G mX10_thinks (d + 1) 0 [.ref a0, .int x1, .int x2, zU, zU, zU, zU] [] h (zPI Q)) : zConI G mX10_thinks (d + 1) [.ref a0, .int x1, .int x2] h Q := zcon0 (by decide +kernel) eX10_thinks (Nat.le_of_ble_eq_true rfl) rfl B
set_option maxRecDepth 100000 in
set_option maxHeartbeats 4000000 in
theorem sg_X10_thinks_26 {G : zG} {d : Nat} {h : zMem} {Q : Int32 → zMem → Prop} {a0 : Nat} {x1 : Int32} {x2 : Int32} {x3 : Int32} {x4 : Int32} {x5 : Int32} (B : (x3 ≤ x5 → Q x4 h) ∧ (¬ x3 ≤ x5 → ¬ x3 = 0 ∧ zO h a0 9 ∧ ∃ Q3 : Int32 → zMem → Prop, zConI G mX10_markOf d [.ref a0, .int x1, .int x2, .int ((x4 + x5) - (x4 + x5) / x3 * x3)] h Q3 ∧ (∀ v6 h4, Q3 v6 h4 → zO h4 a0 9 ∧ ∃ r8, zR h4 a0 44 = some r8 ∧ zO h4 r8 100 ∧ vp_in (((5 : Int32) * x1) + x2) (zLen h4 r8) ∧ (¬ v6 = (zI h4 r8 (((5 : Int32) * x1) + x2).toNatClampNeg) → zg G mX10_thinks (d + 1) 26 [.ref a0, .int x1, .int x2, .int x3, .int x4, .int (x5 + 1), zU] [] h4 (zPI Q)) ∧ (v6 = (zI h4 r8 (((5 : Int32) * x1) + x2).toNatClampNeg) → Q ((x4 + x5) - (x4 + x5) / x3 * x3) h4)))) : zg G mX10_thinks (d + 1) 26 [.ref a0, .int x1, .int x2, .int x3, .int x4, .int x5, zU] [] h (zPI Q) := by
  refine z_iload 20 rfl rfl ?_
  refine z_iload_n 21 rfl rfl ?_
  refine z_icmp_ge 22 71 rfl (by decide) ⟨fun c1 => ?_, fun c1 => ?_⟩
  · have B := B.1 c1
    refine z_iload 47 rfl rfl ?_
    exact z_iret 48 rfl rfl rfl ⟨rfl, rfl⟩ ⟨_, rfl, B⟩
  · have B := B.2 c1
    refine z_iload 23 rfl rfl ?_
    refine z_iload 24 rfl rfl ?_
    refine z_iadd 25 rfl ?_
    refine z_iload_n 26 rfl rfl ?_
    obtain ⟨o2, B⟩ := B
    refine z_irem 27 rfl o2 ?_
    refine z_istore 28 rfl (by decide) rfl ?_
    refine z_aload_n 29 rfl rfl ?_
    refine z_iload_n 30 rfl rfl ?_
    refine z_iload_n 31 rfl rfl ?_
    refine z_iload 32 rfl rfl ?_
    obtain ⟨o12, B⟩ := B
    obtain ⟨Q3, K5, B⟩ := B
    refine z_cVI3 (ν := mX10_markOf) 33 rfl rfl fX10_markOf gX10_397 ⟨_, rfl, rfl⟩ (by decide) o12 (Nat.le_of_ble_eq_true rfl) K5 (fun v6 h4 q => ?_)
    have B := B v6 h4 q
    refine z_aload_n 34 rfl rfl ?_
    obtain ⟨o7, B⟩ := B
    obtain ⟨r8, hr8, B⟩ := B
    refine z_getR 35 rfl lX10_99 rfl o7 hr8 ?_
    refine z_iconst (v := 5) 36 rfl (by decide) ?_
    refine z_iload_n 37 rfl rfl ?_
    refine z_imul 38 rfl ?_
    refine z_iload_n 39 rfl rfl ?_
    refine z_iadd 40 rfl ?_
    obtain ⟨o9, B⟩ := B
    obtain ⟨o10, B⟩ := B
    refine z_iald 41 rfl o9 o10 ?_
    refine z_icmp_ne 42 65 rfl (by decide) ⟨fun c11 => ?_, fun c11 => ?_⟩
    · have B := B.1 c11
      refine z_iinc (v := 1) 45 rfl rfl (by decide) (by decide) rfl ?_
      refine z_goto 46 26 rfl (by decide) ?_
      refine z_drop 6 ?_
      exact B
    · have B := B.2 c11
      refine z_iload 43 rfl rfl ?_
      exact z_iret 44 rfl rfl rfl ⟨rfl, rfl⟩ ⟨_, rfl, B⟩
set_option maxRecDepth 100000 in
set_option maxHeartbeats 4000000 in
theorem sg_X10_keepsHouse_0 {G : zG} {d : Nat} {h : zMem} {Q : zMem → Prop} {a0 : Nat} {x1 : Int32} (B : zO h a0 9 ∧ ∃ r2, zR h a0 34 = some r2 ∧ zO h r2 100 ∧ vp_in x1 (zLen h r2) ∧ ∃ r5, zR h a0 3 = some r5 ∧ zO h r5 100 ∧ vp_in (1 : Int32) (zLen h r5) ∧ ¬ (zI h r5 (1 : Int32).toNatClampNeg) = 0 ∧ zg G mX10_keepsHouse d 19 [.ref a0, .int x1, .int ((zI h r2 x1.toNatClampNeg) - (zI h r2 x1.toNatClampNeg) / (zI h r5 (1 : Int32).toNatClampNeg) * (zI h r5 (1 : Int32).toNatClampNeg)), .int (0 : Int32), .int (0 : Int32), zU] [] h (zPV Q)) : zg G mX10_keepsHouse d 0 [.ref a0, .int x1, zU, zU, zU, zU] [] h (zPV Q) := by
  refine z_aload_n 0 rfl rfl ?_
  obtain ⟨o1, B⟩ := B
  obtain ⟨r2, hr2, B⟩ := B
  refine z_getR 1 rfl lX10_69 rfl o1 hr2 ?_
  refine z_iload_n 2 rfl rfl ?_
  obtain ⟨o3, B⟩ := B
  obtain ⟨o4, B⟩ := B
  refine z_iald 3 rfl o3 o4 ?_
  refine z_aload_n 4 rfl rfl ?_
  obtain ⟨r5, hr5, B⟩ := B
  refine z_getR 5 rfl lX10_13 rfl o1 hr5 ?_
  refine z_iconst (v := 1) 6 rfl (by decide) ?_
  obtain ⟨o6, B⟩ := B
  obtain ⟨o7, B⟩ := B
  refine z_iald 7 rfl o6 o7 ?_
  obtain ⟨o8, B⟩ := B
  refine z_irem 8 rfl o8 ?_
  refine z_istore_n 9 rfl (by decide) rfl ?_
  refine z_iconst (v := 0) 10 rfl (by decide) ?_
  refine z_istore_n 11 rfl (by decide) rfl ?_
  refine z_iconst (v := 0) 12 rfl (by decide) ?_
  refine z_istore 13 rfl (by decide) rfl ?_
  exact B
theorem cn_X10_keepsHouse {G : zG} {d : Nat} {h : zMem} {Q : zMem → Prop} {a0 : Nat} {x1 : Int32} (B : zg G mX10_keepsHouse d 0 [.ref a0, .int x1, zU, zU, zU, zU] [] h (zPV Q)) : zConV G mX10_keepsHouse d [.ref a0, .int x1] h Q := zcon0 (by decide +kernel) eX10_keepsHouse (Nat.le_of_ble_eq_true rfl) rfl B
set_option maxRecDepth 100000 in
set_option maxHeartbeats 4000000 in
theorem sg_X10_keepsHouse_19 {G : zG} {d : Nat} {h : zMem} {Q : zMem → Prop} {a0 : Nat} {x1 : Int32} {x2 : Int32} {x3 : Int32} {x4 : Int32} (B : ((8 : Int32) ≤ x4 → zg G mX10_keepsHouse d 43 [.ref a0, .int x1, .int x2, .int x3, .int (0 : Int32), zU] [] h (zPV Q)) ∧ (¬ (8 : Int32) ≤ x4 → zO h a0 9 ∧ ∃ r3, zR h a0 55 = some r3 ∧ zO h r3 100 ∧ vp_in x4 (zLen h r3) ∧ zg G mX10_keepsHouse d 19 [.ref a0, .int x1, .int x2, .int x3, .int (x4 + 1), zU] [] (zsI h r3 x4.toNatClampNeg (0 : Int32)) (zPV Q))) : zg G mX10_keepsHouse d 19 [.ref a0, .int x1, .int x2, .int x3, .int x4, zU] [] h (zPV Q) := by
  refine z_iload 14 rfl rfl ?_
  refine z_bipush (v := 8) 15 rfl (by decide) ?_
  refine z_icmp_ge 16 40 rfl (by decide) ⟨fun c1 => ?_, fun c1 => ?_⟩
  · have B := B.1 c1
    refine z_iconst (v := 0) 24 rfl (by decide) ?_
    refine z_istore 25 rfl (by decide) rfl ?_
    exact B
  · have B := B.2 c1
    refine z_aload_n 17 rfl rfl ?_
    obtain ⟨o2, B⟩ := B
    obtain ⟨r3, hr3, B⟩ := B
    refine z_getR 18 rfl lX10_120 rfl o2 hr3 ?_
    refine z_iload 19 rfl rfl ?_
    refine z_iconst (v := 0) 20 rfl (by decide) ?_
    obtain ⟨o4, B⟩ := B
    obtain ⟨o5, B⟩ := B
    refine z_iast 21 rfl o4 o5 ?_
    refine z_iinc (v := 1) 22 rfl rfl (by decide) (by decide) rfl ?_
    refine z_goto 23 19 rfl (by decide) ?_
    exact B
set_option maxRecDepth 100000 in
set_option maxHeartbeats 4000000 in
theorem sg_X10_keepsHouse_43 {G : zG} {d : Nat} {h : zMem} {Q : zMem → Prop} {a0 : Nat} {x1 : Int32} {x2 : Int32} {x3 : Int32} {x4 : Int32} (B : zO h a0 9 ∧ ∃ r2, zR h a0 3 = some r2 ∧ zO h r2 100 ∧ vp_in (4 : Int32) (zLen h r2) ∧ ((zI h r2 (4 : Int32).toNatClampNeg) ≤ x4 → zg G mX10_keepsHouse d 109 [.ref a0, .int x1, .int x2, .int x3, .int (0 : Int32), .int (1 : Int32)] [] h (zPV Q)) ∧ (¬ (zI h r2 (4 : Int32).toNatClampNeg) ≤ x4 → (¬ (zI h a0 48) = (3 : Int32) → ∃ r7, zR h a0 55 = some r7 ∧ ∃ r8, zR h a0 45 = some r8 ∧ zO h r8 100 ∧ vp_in (((5 : Int32) * x1) + x4) (zLen h r8) ∧ zO h r7 100 ∧ vp_in (zI h r8 (((5 : Int32) * x1) + x4).toNatClampNeg) (zLen h r7) ∧ zg G mX10_keepsHouse d 43 [.ref a0, .int x1, .int x2, .int (x3 + 1), .int (x4 + 1), zU] [] (zsI h r7 (zI h r8 (((5 : Int32) * x1) + x4).toNatClampNeg).toNatClampNeg ((zI h r7 (zI h r8 (((5 : Int32) * x1) + x4).toNatClampNeg).toNatClampNeg) + (1 : Int32))) (zPV Q)) ∧ ((zI h a0 48) = (3 : Int32) → (¬ x4 = (zI h a0 49) → ∃ r14, zR h a0 55 = some r14 ∧ ∃ r15, zR h a0 45 = some r15 ∧ zO h r15 100 ∧ vp_in (((5 : Int32) * x1) + x4) (zLen h r15) ∧ zO h r14 100 ∧ vp_in (zI h r15 (((5 : Int32) * x1) + x4).toNatClampNeg) (zLen h r14) ∧ zg G mX10_keepsHouse d 43 [.ref a0, .int x1, .int x2, .int (x3 + 1), .int (x4 + 1), zU] [] (zsI h r14 (zI h r15 (((5 : Int32) * x1) + x4).toNatClampNeg).toNatClampNeg ((zI h r14 (zI h r15 (((5 : Int32) * x1) + x4).toNatClampNeg).toNatClampNeg) + (1 : Int32))) (zPV Q)) ∧ (x4 = (zI h a0 49) → zg G mX10_keepsHouse d 43 [.ref a0, .int x1, .int x2, .int x3, .int (x4 + 1), zU] [] h (zPV Q))))) : zg G mX10_keepsHouse d 43 [.ref a0, .int x1, .int x2, .int x3, .int x4, zU] [] h (zPV Q) := by
  refine z_iload 26 rfl rfl ?_
  refine z_aload_n 27 rfl rfl ?_
  obtain ⟨o1, B⟩ := B
  obtain ⟨r2, hr2, B⟩ := B
  refine z_getR 28 rfl lX10_13 rfl o1 hr2 ?_
  refine z_iconst (v := 4) 29 rfl (by decide) ?_
  obtain ⟨o3, B⟩ := B
  obtain ⟨o4, B⟩ := B
  refine z_iald 30 rfl o3 o4 ?_
  refine z_icmp_ge 31 103 rfl (by decide) ⟨fun c5 => ?_, fun c5 => ?_⟩
  · have B := B.1 c5
    refine z_iconst (v := 0) 59 rfl (by decide) ?_
    refine z_istore 60 rfl (by decide) rfl ?_
    refine z_iconst (v := 1) 61 rfl (by decide) ?_
    refine z_istore 62 rfl (by decide) rfl ?_
    exact B
  · have B := B.2 c5
    refine z_aload_n 32 rfl rfl ?_
    refine z_getI 33 rfl lX10_349 rfl o1 ?_
    refine z_iconst (v := 3) 34 rfl (by decide) ?_
    refine z_icmp_ne 35 74 rfl (by decide) ⟨fun c6 => ?_, fun c6 => ?_⟩
    · have B := B.1 c6
      refine z_aload_n 41 rfl rfl ?_
      obtain ⟨r7, hr7, B⟩ := B
      refine z_getR 42 rfl lX10_120 rfl o1 hr7 ?_
      refine z_aload_n 43 rfl rfl ?_
      obtain ⟨r8, hr8, B⟩ := B
      refine z_getR 44 rfl lX10_102 rfl o1 hr8 ?_
      refine z_iconst (v := 5) 45 rfl (by decide) ?_
      refine z_iload_n 46 rfl rfl ?_
      refine z_imul 47 rfl ?_
      refine z_iload 48 rfl rfl ?_
      refine z_iadd 49 rfl ?_
      obtain ⟨o9, B⟩ := B
      obtain ⟨o10, B⟩ := B
      refine z_iald 50 rfl o9 o10 ?_
      refine z_dup2 51 rfl rfl rfl ?_
      obtain ⟨o11, B⟩ := B
      obtain ⟨o12, B⟩ := B
      refine z_iald 52 rfl o11 o12 ?_
      refine z_iconst (v := 1) 53 rfl (by decide) ?_
      refine z_iadd 54 rfl ?_
      refine z_iast 55 rfl o11 o12 ?_
      refine z_iinc (v := 1) 56 rfl rfl (by decide) (by decide) rfl ?_
      refine z_iinc (v := 1) 57 rfl rfl (by decide) (by decide) rfl ?_
      refine z_goto 58 43 rfl (by decide) ?_
      exact B
    · have B := B.2 c6
      refine z_iload 36 rfl rfl ?_
      refine z_aload_n 37 rfl rfl ?_
      refine z_getI 38 rfl lX10_105 rfl o1 ?_
      refine z_icmp_ne 39 74 rfl (by decide) ⟨fun c13 => ?_, fun c13 => ?_⟩
      · have B := B.1 c13
        refine z_aload_n 41 rfl rfl ?_
        obtain ⟨r14, hr14, B⟩ := B
        refine z_getR 42 rfl lX10_120 rfl o1 hr14 ?_
        refine z_aload_n 43 rfl rfl ?_
        obtain ⟨r15, hr15, B⟩ := B
        refine z_getR 44 rfl lX10_102 rfl o1 hr15 ?_
        refine z_iconst (v := 5) 45 rfl (by decide) ?_
        refine z_iload_n 46 rfl rfl ?_
        refine z_imul 47 rfl ?_
        refine z_iload 48 rfl rfl ?_
        refine z_iadd 49 rfl ?_
        obtain ⟨o16, B⟩ := B
        obtain ⟨o17, B⟩ := B
        refine z_iald 50 rfl o16 o17 ?_
        refine z_dup2 51 rfl rfl rfl ?_
        obtain ⟨o18, B⟩ := B
        obtain ⟨o19, B⟩ := B
        refine z_iald 52 rfl o18 o19 ?_
        refine z_iconst (v := 1) 53 rfl (by decide) ?_
        refine z_iadd 54 rfl ?_
        refine z_iast 55 rfl o18 o19 ?_
        refine z_iinc (v := 1) 56 rfl rfl (by decide) (by decide) rfl ?_
        refine z_iinc (v := 1) 57 rfl rfl (by decide) (by decide) rfl ?_
        refine z_goto 58 43 rfl (by decide) ?_
        exact B
      · have B := B.2 c13
        refine z_goto 40 97 rfl (by decide) ?_
        refine z_iinc (v := 1) 57 rfl rfl (by decide) (by decide) rfl ?_
        refine z_goto 58 43 rfl (by decide) ?_
        exact B
set_option maxRecDepth 100000 in
set_option maxHeartbeats 4000000 in
theorem sg_X10_keepsHouse_109 {G : zG} {d : Nat} {h : zMem} {Q : zMem → Prop} {a0 : Nat} {x1 : Int32} {x2 : Int32} {x3 : Int32} {x4 : Int32} {x5 : Int32} (B : zO h a0 9 ∧ ∃ r2, zR h a0 3 = some r2 ∧ zO h r2 100 ∧ vp_in (1 : Int32) (zLen h r2) ∧ ((zI h r2 (1 : Int32).toNatClampNeg) ≤ x5 → ∃ r6, zR h a0 35 = some r6 ∧ (¬ x3 = 0 → zO h r6 100 ∧ vp_in x1 (zLen h r6) ∧ ∃ r10, zR h a0 36 = some r10 ∧ zO h r10 100 ∧ vp_in x1 (zLen h r10) ∧ (¬ (zI (zsI h r6 x1.toNatClampNeg x4) r6 x1.toNatClampNeg) = x2 → ∃ r14, zR h a0 37 = some r14 ∧ zO h r14 100 ∧ vp_in x1 (zLen h r14) ∧ ∃ r17, zR h a0 7 = some r17 ∧ zO h r17 100 ∧ vp_in (zI (zsI (zsI h r6 x1.toNatClampNeg x4) r10 x1.toNatClampNeg ((zI (zsI h r6 x1.toNatClampNeg x4) r10 x1.toNatClampNeg) + (0 : Int32))) r6 x1.toNatClampNeg) (zLen h r17) ∧ vp_in x2 (zLen h r17) ∧ ((zI (zsI (zsI h r6 x1.toNatClampNeg x4) r10 x1.toNatClampNeg ((zI (zsI h r6 x1.toNatClampNeg x4) r10 x1.toNatClampNeg) + (0 : Int32))) r17 (zI (zsI (zsI h r6 x1.toNatClampNeg x4) r10 x1.toNatClampNeg ((zI (zsI h r6 x1.toNatClampNeg x4) r10 x1.toNatClampNeg) + (0 : Int32))) r6 x1.toNatClampNeg).toNatClampNeg) = (zI (zsI (zsI h r6 x1.toNatClampNeg x4) r10 x1.toNatClampNeg ((zI (zsI h r6 x1.toNatClampNeg x4) r10 x1.toNatClampNeg) + (0 : Int32))) r17 x2.toNatClampNeg) → Q (zsI (zsI (zsI h r6 x1.toNatClampNeg x4) r10 x1.toNatClampNeg ((zI (zsI h r6 x1.toNatClampNeg x4) r10 x1.toNatClampNeg) + (0 : Int32))) r14 x1.toNatClampNeg ((zI (zsI (zsI h r6 x1.toNatClampNeg x4) r10 x1.toNatClampNeg ((zI (zsI h r6 x1.toNatClampNeg x4) r10 x1.toNatClampNeg) + (0 : Int32))) r14 x1.toNatClampNeg) + (0 : Int32)))) ∧ (¬ (zI (zsI (zsI h r6 x1.toNatClampNeg x4) r10 x1.toNatClampNeg ((zI (zsI h r6 x1.toNatClampNeg x4) r10 x1.toNatClampNeg) + (0 : Int32))) r17 (zI (zsI (zsI h r6 x1.toNatClampNeg x4) r10 x1.toNatClampNeg ((zI (zsI h r6 x1.toNatClampNeg x4) r10 x1.toNatClampNeg) + (0 : Int32))) r6 x1.toNatClampNeg).toNatClampNeg) = (zI (zsI (zsI h r6 x1.toNatClampNeg x4) r10 x1.toNatClampNeg ((zI (zsI h r6 x1.toNatClampNeg x4) r10 x1.toNatClampNeg) + (0 : Int32))) r17 x2.toNatClampNeg) → Q (zsI (zsI (zsI h r6 x1.toNatClampNeg x4) r10 x1.toNatClampNeg ((zI (zsI h r6 x1.toNatClampNeg x4) r10 x1.toNatClampNeg) + (0 : Int32))) r14 x1.toNatClampNeg ((zI (zsI (zsI h r6 x1.toNatClampNeg x4) r10 x1.toNatClampNeg ((zI (zsI h r6 x1.toNatClampNeg x4) r10 x1.toNatClampNeg) + (0 : Int32))) r14 x1.toNatClampNeg) + (1 : Int32))))) ∧ ((zI (zsI h r6 x1.toNatClampNeg x4) r6 x1.toNatClampNeg) = x2 → ∃ r22, zR h a0 37 = some r22 ∧ zO h r22 100 ∧ vp_in x1 (zLen h r22) ∧ ∃ r25, zR h a0 7 = some r25 ∧ zO h r25 100 ∧ vp_in (zI (zsI (zsI h r6 x1.toNatClampNeg x4) r10 x1.toNatClampNeg ((zI (zsI h r6 x1.toNatClampNeg x4) r10 x1.toNatClampNeg) + (1 : Int32))) r6 x1.toNatClampNeg) (zLen h r25) ∧ vp_in x2 (zLen h r25) ∧ ((zI (zsI (zsI h r6 x1.toNatClampNeg x4) r10 x1.toNatClampNeg ((zI (zsI h r6 x1.toNatClampNeg x4) r10 x1.toNatClampNeg) + (1 : Int32))) r25 (zI (zsI (zsI h r6 x1.toNatClampNeg x4) r10 x1.toNatClampNeg ((zI (zsI h r6 x1.toNatClampNeg x4) r10 x1.toNatClampNeg) + (1 : Int32))) r6 x1.toNatClampNeg).toNatClampNeg) = (zI (zsI (zsI h r6 x1.toNatClampNeg x4) r10 x1.toNatClampNeg ((zI (zsI h r6 x1.toNatClampNeg x4) r10 x1.toNatClampNeg) + (1 : Int32))) r25 x2.toNatClampNeg) → Q (zsI (zsI (zsI h r6 x1.toNatClampNeg x4) r10 x1.toNatClampNeg ((zI (zsI h r6 x1.toNatClampNeg x4) r10 x1.toNatClampNeg) + (1 : Int32))) r22 x1.toNatClampNeg ((zI (zsI (zsI h r6 x1.toNatClampNeg x4) r10 x1.toNatClampNeg ((zI (zsI h r6 x1.toNatClampNeg x4) r10 x1.toNatClampNeg) + (1 : Int32))) r22 x1.toNatClampNeg) + (0 : Int32)))) ∧ (¬ (zI (zsI (zsI h r6 x1.toNatClampNeg x4) r10 x1.toNatClampNeg ((zI (zsI h r6 x1.toNatClampNeg x4) r10 x1.toNatClampNeg) + (1 : Int32))) r25 (zI (zsI (zsI h r6 x1.toNatClampNeg x4) r10 x1.toNatClampNeg ((zI (zsI h r6 x1.toNatClampNeg x4) r10 x1.toNatClampNeg) + (1 : Int32))) r6 x1.toNatClampNeg).toNatClampNeg) = (zI (zsI (zsI h r6 x1.toNatClampNeg x4) r10 x1.toNatClampNeg ((zI (zsI h r6 x1.toNatClampNeg x4) r10 x1.toNatClampNeg) + (1 : Int32))) r25 x2.toNatClampNeg) → Q (zsI (zsI (zsI h r6 x1.toNatClampNeg x4) r10 x1.toNatClampNeg ((zI (zsI h r6 x1.toNatClampNeg x4) r10 x1.toNatClampNeg) + (1 : Int32))) r22 x1.toNatClampNeg ((zI (zsI (zsI h r6 x1.toNatClampNeg x4) r10 x1.toNatClampNeg ((zI (zsI h r6 x1.toNatClampNeg x4) r10 x1.toNatClampNeg) + (1 : Int32))) r22 x1.toNatClampNeg) + (1 : Int32)))))) ∧ (x3 = 0 → zO h r6 100 ∧ vp_in x1 (zLen h r6) ∧ ∃ r32, zR h a0 36 = some r32 ∧ zO h r32 100 ∧ vp_in x1 (zLen h r32) ∧ (¬ (zI (zsI h r6 x1.toNatClampNeg x2) r6 x1.toNatClampNeg) = x2 → ∃ r36, zR h a0 37 = some r36 ∧ zO h r36 100 ∧ vp_in x1 (zLen h r36) ∧ ∃ r39, zR h a0 7 = some r39 ∧ zO h r39 100 ∧ vp_in (zI (zsI (zsI h r6 x1.toNatClampNeg x2) r32 x1.toNatClampNeg ((zI (zsI h r6 x1.toNatClampNeg x2) r32 x1.toNatClampNeg) + (0 : Int32))) r6 x1.toNatClampNeg) (zLen h r39) ∧ vp_in x2 (zLen h r39) ∧ ((zI (zsI (zsI h r6 x1.toNatClampNeg x2) r32 x1.toNatClampNeg ((zI (zsI h r6 x1.toNatClampNeg x2) r32 x1.toNatClampNeg) + (0 : Int32))) r39 (zI (zsI (zsI h r6 x1.toNatClampNeg x2) r32 x1.toNatClampNeg ((zI (zsI h r6 x1.toNatClampNeg x2) r32 x1.toNatClampNeg) + (0 : Int32))) r6 x1.toNatClampNeg).toNatClampNeg) = (zI (zsI (zsI h r6 x1.toNatClampNeg x2) r32 x1.toNatClampNeg ((zI (zsI h r6 x1.toNatClampNeg x2) r32 x1.toNatClampNeg) + (0 : Int32))) r39 x2.toNatClampNeg) → Q (zsI (zsI (zsI h r6 x1.toNatClampNeg x2) r32 x1.toNatClampNeg ((zI (zsI h r6 x1.toNatClampNeg x2) r32 x1.toNatClampNeg) + (0 : Int32))) r36 x1.toNatClampNeg ((zI (zsI (zsI h r6 x1.toNatClampNeg x2) r32 x1.toNatClampNeg ((zI (zsI h r6 x1.toNatClampNeg x2) r32 x1.toNatClampNeg) + (0 : Int32))) r36 x1.toNatClampNeg) + (0 : Int32)))) ∧ (¬ (zI (zsI (zsI h r6 x1.toNatClampNeg x2) r32 x1.toNatClampNeg ((zI (zsI h r6 x1.toNatClampNeg x2) r32 x1.toNatClampNeg) + (0 : Int32))) r39 (zI (zsI (zsI h r6 x1.toNatClampNeg x2) r32 x1.toNatClampNeg ((zI (zsI h r6 x1.toNatClampNeg x2) r32 x1.toNatClampNeg) + (0 : Int32))) r6 x1.toNatClampNeg).toNatClampNeg) = (zI (zsI (zsI h r6 x1.toNatClampNeg x2) r32 x1.toNatClampNeg ((zI (zsI h r6 x1.toNatClampNeg x2) r32 x1.toNatClampNeg) + (0 : Int32))) r39 x2.toNatClampNeg) → Q (zsI (zsI (zsI h r6 x1.toNatClampNeg x2) r32 x1.toNatClampNeg ((zI (zsI h r6 x1.toNatClampNeg x2) r32 x1.toNatClampNeg) + (0 : Int32))) r36 x1.toNatClampNeg ((zI (zsI (zsI h r6 x1.toNatClampNeg x2) r32 x1.toNatClampNeg ((zI (zsI h r6 x1.toNatClampNeg x2) r32 x1.toNatClampNeg) + (0 : Int32))) r36 x1.toNatClampNeg) + (1 : Int32))))) ∧ ((zI (zsI h r6 x1.toNatClampNeg x2) r6 x1.toNatClampNeg) = x2 → ∃ r44, zR h a0 37 = some r44 ∧ zO h r44 100 ∧ vp_in x1 (zLen h r44) ∧ ∃ r47, zR h a0 7 = some r47 ∧ zO h r47 100 ∧ vp_in (zI (zsI (zsI h r6 x1.toNatClampNeg x2) r32 x1.toNatClampNeg ((zI (zsI h r6 x1.toNatClampNeg x2) r32 x1.toNatClampNeg) + (1 : Int32))) r6 x1.toNatClampNeg) (zLen h r47) ∧ vp_in x2 (zLen h r47) ∧ ((zI (zsI (zsI h r6 x1.toNatClampNeg x2) r32 x1.toNatClampNeg ((zI (zsI h r6 x1.toNatClampNeg x2) r32 x1.toNatClampNeg) + (1 : Int32))) r47 (zI (zsI (zsI h r6 x1.toNatClampNeg x2) r32 x1.toNatClampNeg ((zI (zsI h r6 x1.toNatClampNeg x2) r32 x1.toNatClampNeg) + (1 : Int32))) r6 x1.toNatClampNeg).toNatClampNeg) = (zI (zsI (zsI h r6 x1.toNatClampNeg x2) r32 x1.toNatClampNeg ((zI (zsI h r6 x1.toNatClampNeg x2) r32 x1.toNatClampNeg) + (1 : Int32))) r47 x2.toNatClampNeg) → Q (zsI (zsI (zsI h r6 x1.toNatClampNeg x2) r32 x1.toNatClampNeg ((zI (zsI h r6 x1.toNatClampNeg x2) r32 x1.toNatClampNeg) + (1 : Int32))) r44 x1.toNatClampNeg ((zI (zsI (zsI h r6 x1.toNatClampNeg x2) r32 x1.toNatClampNeg ((zI (zsI h r6 x1.toNatClampNeg x2) r32 x1.toNatClampNeg) + (1 : Int32))) r44 x1.toNatClampNeg) + (0 : Int32)))) ∧ (¬ (zI (zsI (zsI h r6 x1.toNatClampNeg x2) r32 x1.toNatClampNeg ((zI (zsI h r6 x1.toNatClampNeg x2) r32 x1.toNatClampNeg) + (1 : Int32))) r47 (zI (zsI (zsI h r6 x1.toNatClampNeg x2) r32 x1.toNatClampNeg ((zI (zsI h r6 x1.toNatClampNeg x2) r32 x1.toNatClampNeg) + (1 : Int32))) r6 x1.toNatClampNeg).toNatClampNeg) = (zI (zsI (zsI h r6 x1.toNatClampNeg x2) r32 x1.toNatClampNeg ((zI (zsI h r6 x1.toNatClampNeg x2) r32 x1.toNatClampNeg) + (1 : Int32))) r47 x2.toNatClampNeg) → Q (zsI (zsI (zsI h r6 x1.toNatClampNeg x2) r32 x1.toNatClampNeg ((zI (zsI h r6 x1.toNatClampNeg x2) r32 x1.toNatClampNeg) + (1 : Int32))) r44 x1.toNatClampNeg ((zI (zsI (zsI h r6 x1.toNatClampNeg x2) r32 x1.toNatClampNeg ((zI (zsI h r6 x1.toNatClampNeg x2) r32 x1.toNatClampNeg) + (1 : Int32))) r44 x1.toNatClampNeg) + (1 : Int32))))))) ∧ (¬ (zI h r2 (1 : Int32).toNatClampNeg) ≤ x5 → ∃ r52, zR h a0 55 = some r52 ∧ zO h r52 100 ∧ vp_in x5 (zLen h r52) ∧ vp_in x4 (zLen h r52) ∧ ((zI h r52 x5.toNatClampNeg) ≤ (zI h r52 x4.toNatClampNeg) → zg G mX10_keepsHouse d 109 [.ref a0, .int x1, .int x2, .int x3, .int x4, .int (x5 + 1)] [] h (zPV Q)) ∧ (¬ (zI h r52 x5.toNatClampNeg) ≤ (zI h r52 x4.toNatClampNeg) → zg G mX10_keepsHouse d 109 [.ref a0, .int x1, .int x2, .int x3, .int x5, .int (x5 + 1)] [] h (zPV Q)))) : zg G mX10_keepsHouse d 109 [.ref a0, .int x1, .int x2, .int x3, .int x4, .int x5] [] h (zPV Q) := by
  refine z_iload 63 rfl rfl ?_
  refine z_aload_n 64 rfl rfl ?_
  obtain ⟨o1, B⟩ := B
  obtain ⟨r2, hr2, B⟩ := B
  refine z_getR 65 rfl lX10_13 rfl o1 hr2 ?_
  refine z_iconst (v := 1) 66 rfl (by decide) ?_
  obtain ⟨o3, B⟩ := B
  obtain ⟨o4, B⟩ := B
  refine z_iald 67 rfl o3 o4 ?_
  refine z_icmp_ge 68 147 rfl (by decide) ⟨fun c5 => ?_, fun c5 => ?_⟩
  · have B := B.1 c5
    refine z_aload_n 82 rfl rfl ?_
    obtain ⟨r6, hr6, B⟩ := B
    refine z_getR 83 rfl lX10_72 rfl o1 hr6 ?_
    refine z_iload_n 84 rfl rfl ?_
    refine z_iload_n 85 rfl rfl ?_
    refine z_if_ne 86 160 rfl (by decide) ⟨fun c7 => ?_, fun c7 => ?_⟩
    · have B := B.1 c7
      refine z_iload 89 rfl rfl ?_
      obtain ⟨o8, B⟩ := B
      obtain ⟨o9, B⟩ := B
      refine z_iast 90 rfl o8 o9 ?_
      refine z_aload_n 91 rfl rfl ?_
      obtain ⟨r10, hr10, B⟩ := B
      refine z_getR 92 rfl lX10_75 rfl o1 hr10 ?_
      refine z_iload_n 93 rfl rfl ?_
      refine z_dup2 94 rfl rfl rfl ?_
      obtain ⟨o11, B⟩ := B
      obtain ⟨o12, B⟩ := B
      refine z_iald 95 rfl o11 o12 ?_
      refine z_aload_n 96 rfl rfl ?_
      refine z_getR 97 rfl lX10_72 rfl o1 hr6 ?_
      refine z_iload_n 98 rfl rfl ?_
      refine z_iald 99 rfl o8 o9 ?_
      refine z_iload_n 100 rfl rfl ?_
      refine z_icmp_ne 101 184 rfl (by decide) ⟨fun c13 => ?_, fun c13 => ?_⟩
      · have B := B.1 c13
        refine z_iconst (v := 0) 104 rfl (by decide) ?_
        refine z_iadd 105 rfl ?_
        refine z_iast 106 rfl o11 o12 ?_
        refine z_aload_n 107 rfl rfl ?_
        obtain ⟨r14, hr14, B⟩ := B
        refine z_getR 108 rfl lX10_78 rfl o1 hr14 ?_
        refine z_iload_n 109 rfl rfl ?_
        refine z_dup2 110 rfl rfl rfl ?_
        obtain ⟨o15, B⟩ := B
        obtain ⟨o16, B⟩ := B
        refine z_iald 111 rfl o15 o16 ?_
        refine z_aload_n 112 rfl rfl ?_
        obtain ⟨r17, hr17, B⟩ := B
        refine z_getR 113 rfl lX10_25 rfl o1 hr17 ?_
        refine z_aload_n 114 rfl rfl ?_
        refine z_getR 115 rfl lX10_72 rfl o1 hr6 ?_
        refine z_iload_n 116 rfl rfl ?_
        refine z_iald 117 rfl o8 o9 ?_
        obtain ⟨o18, B⟩ := B
        obtain ⟨o19, B⟩ := B
        refine z_iald 118 rfl o18 o19 ?_
        refine z_aload_n 119 rfl rfl ?_
        refine z_getR 120 rfl lX10_25 rfl o1 hr17 ?_
        refine z_iload_n 121 rfl rfl ?_
        obtain ⟨o20, B⟩ := B
        refine z_iald 122 rfl o18 o20 ?_
        refine z_icmp_eq 123 218 rfl (by decide) ⟨fun c21 => ?_, fun c21 => ?_⟩
        · have B := B.1 c21
          refine z_iconst (v := 0) 126 rfl (by decide) ?_
          refine z_iadd 127 rfl ?_
          refine z_iast 128 rfl o15 o16 ?_
          exact z_vret 129 rfl rfl ⟨rfl, rfl⟩ ⟨rfl, B⟩
        · have B := B.2 c21
          refine z_iconst (v := 1) 124 rfl (by decide) ?_
          refine z_goto 125 219 rfl (by decide) ?_
          refine z_iadd 127 rfl ?_
          refine z_iast 128 rfl o15 o16 ?_
          exact z_vret 129 rfl rfl ⟨rfl, rfl⟩ ⟨rfl, B⟩
      · have B := B.2 c13
        refine z_iconst (v := 1) 102 rfl (by decide) ?_
        refine z_goto 103 185 rfl (by decide) ?_
        refine z_iadd 105 rfl ?_
        refine z_iast 106 rfl o11 o12 ?_
        refine z_aload_n 107 rfl rfl ?_
        obtain ⟨r22, hr22, B⟩ := B
        refine z_getR 108 rfl lX10_78 rfl o1 hr22 ?_
        refine z_iload_n 109 rfl rfl ?_
        refine z_dup2 110 rfl rfl rfl ?_
        obtain ⟨o23, B⟩ := B
        obtain ⟨o24, B⟩ := B
        refine z_iald 111 rfl o23 o24 ?_
        refine z_aload_n 112 rfl rfl ?_
        obtain ⟨r25, hr25, B⟩ := B
        refine z_getR 113 rfl lX10_25 rfl o1 hr25 ?_
        refine z_aload_n 114 rfl rfl ?_
        refine z_getR 115 rfl lX10_72 rfl o1 hr6 ?_
        refine z_iload_n 116 rfl rfl ?_
        refine z_iald 117 rfl o8 o9 ?_
        obtain ⟨o26, B⟩ := B
        obtain ⟨o27, B⟩ := B
        refine z_iald 118 rfl o26 o27 ?_
        refine z_aload_n 119 rfl rfl ?_
        refine z_getR 120 rfl lX10_25 rfl o1 hr25 ?_
        refine z_iload_n 121 rfl rfl ?_
        obtain ⟨o28, B⟩ := B
        refine z_iald 122 rfl o26 o28 ?_
        refine z_icmp_eq 123 218 rfl (by decide) ⟨fun c29 => ?_, fun c29 => ?_⟩
        · have B := B.1 c29
          refine z_iconst (v := 0) 126 rfl (by decide) ?_
          refine z_iadd 127 rfl ?_
          refine z_iast 128 rfl o23 o24 ?_
          exact z_vret 129 rfl rfl ⟨rfl, rfl⟩ ⟨rfl, B⟩
        · have B := B.2 c29
          refine z_iconst (v := 1) 124 rfl (by decide) ?_
          refine z_goto 125 219 rfl (by decide) ?_
          refine z_iadd 127 rfl ?_
          refine z_iast 128 rfl o23 o24 ?_
          exact z_vret 129 rfl rfl ⟨rfl, rfl⟩ ⟨rfl, B⟩
    · have B := B.2 c7
      refine z_iload_n 87 rfl rfl ?_
      refine z_goto 88 162 rfl (by decide) ?_
      obtain ⟨o30, B⟩ := B
      obtain ⟨o31, B⟩ := B
      refine z_iast 90 rfl o30 o31 ?_
      refine z_aload_n 91 rfl rfl ?_
      obtain ⟨r32, hr32, B⟩ := B
      refine z_getR 92 rfl lX10_75 rfl o1 hr32 ?_
      refine z_iload_n 93 rfl rfl ?_
      refine z_dup2 94 rfl rfl rfl ?_
      obtain ⟨o33, B⟩ := B
      obtain ⟨o34, B⟩ := B
      refine z_iald 95 rfl o33 o34 ?_
      refine z_aload_n 96 rfl rfl ?_
      refine z_getR 97 rfl lX10_72 rfl o1 hr6 ?_
      refine z_iload_n 98 rfl rfl ?_
      refine z_iald 99 rfl o30 o31 ?_
      refine z_iload_n 100 rfl rfl ?_
      refine z_icmp_ne 101 184 rfl (by decide) ⟨fun c35 => ?_, fun c35 => ?_⟩
      · have B := B.1 c35
        refine z_iconst (v := 0) 104 rfl (by decide) ?_
        refine z_iadd 105 rfl ?_
        refine z_iast 106 rfl o33 o34 ?_
        refine z_aload_n 107 rfl rfl ?_
        obtain ⟨r36, hr36, B⟩ := B
        refine z_getR 108 rfl lX10_78 rfl o1 hr36 ?_
        refine z_iload_n 109 rfl rfl ?_
        refine z_dup2 110 rfl rfl rfl ?_
        obtain ⟨o37, B⟩ := B
        obtain ⟨o38, B⟩ := B
        refine z_iald 111 rfl o37 o38 ?_
        refine z_aload_n 112 rfl rfl ?_
        obtain ⟨r39, hr39, B⟩ := B
        refine z_getR 113 rfl lX10_25 rfl o1 hr39 ?_
        refine z_aload_n 114 rfl rfl ?_
        refine z_getR 115 rfl lX10_72 rfl o1 hr6 ?_
        refine z_iload_n 116 rfl rfl ?_
        refine z_iald 117 rfl o30 o31 ?_
        obtain ⟨o40, B⟩ := B
        obtain ⟨o41, B⟩ := B
        refine z_iald 118 rfl o40 o41 ?_
        refine z_aload_n 119 rfl rfl ?_
        refine z_getR 120 rfl lX10_25 rfl o1 hr39 ?_
        refine z_iload_n 121 rfl rfl ?_
        obtain ⟨o42, B⟩ := B
        refine z_iald 122 rfl o40 o42 ?_
        refine z_icmp_eq 123 218 rfl (by decide) ⟨fun c43 => ?_, fun c43 => ?_⟩
        · have B := B.1 c43
          refine z_iconst (v := 0) 126 rfl (by decide) ?_
          refine z_iadd 127 rfl ?_
          refine z_iast 128 rfl o37 o38 ?_
          exact z_vret 129 rfl rfl ⟨rfl, rfl⟩ ⟨rfl, B⟩
        · have B := B.2 c43
          refine z_iconst (v := 1) 124 rfl (by decide) ?_
          refine z_goto 125 219 rfl (by decide) ?_
          refine z_iadd 127 rfl ?_
          refine z_iast 128 rfl o37 o38 ?_
          exact z_vret 129 rfl rfl ⟨rfl, rfl⟩ ⟨rfl, B⟩
      · have B := B.2 c35
        refine z_iconst (v := 1) 102 rfl (by decide) ?_
        refine z_goto 103 185 rfl (by decide) ?_
        refine z_iadd 105 rfl ?_
        refine z_iast 106 rfl o33 o34 ?_
        refine z_aload_n 107 rfl rfl ?_
        obtain ⟨r44, hr44, B⟩ := B
        refine z_getR 108 rfl lX10_78 rfl o1 hr44 ?_
        refine z_iload_n 109 rfl rfl ?_
        refine z_dup2 110 rfl rfl rfl ?_
        obtain ⟨o45, B⟩ := B
        obtain ⟨o46, B⟩ := B
        refine z_iald 111 rfl o45 o46 ?_
        refine z_aload_n 112 rfl rfl ?_
        obtain ⟨r47, hr47, B⟩ := B
        refine z_getR 113 rfl lX10_25 rfl o1 hr47 ?_
        refine z_aload_n 114 rfl rfl ?_
        refine z_getR 115 rfl lX10_72 rfl o1 hr6 ?_
        refine z_iload_n 116 rfl rfl ?_
        refine z_iald 117 rfl o30 o31 ?_
        obtain ⟨o48, B⟩ := B
        obtain ⟨o49, B⟩ := B
        refine z_iald 118 rfl o48 o49 ?_
        refine z_aload_n 119 rfl rfl ?_
        refine z_getR 120 rfl lX10_25 rfl o1 hr47 ?_
        refine z_iload_n 121 rfl rfl ?_
        obtain ⟨o50, B⟩ := B
        refine z_iald 122 rfl o48 o50 ?_
        refine z_icmp_eq 123 218 rfl (by decide) ⟨fun c51 => ?_, fun c51 => ?_⟩
        · have B := B.1 c51
          refine z_iconst (v := 0) 126 rfl (by decide) ?_
          refine z_iadd 127 rfl ?_
          refine z_iast 128 rfl o45 o46 ?_
          exact z_vret 129 rfl rfl ⟨rfl, rfl⟩ ⟨rfl, B⟩
        · have B := B.2 c51
          refine z_iconst (v := 1) 124 rfl (by decide) ?_
          refine z_goto 125 219 rfl (by decide) ?_
          refine z_iadd 127 rfl ?_
          refine z_iast 128 rfl o45 o46 ?_
          exact z_vret 129 rfl rfl ⟨rfl, rfl⟩ ⟨rfl, B⟩
  · have B := B.2 c5
    refine z_aload_n 69 rfl rfl ?_
    obtain ⟨r52, hr52, B⟩ := B
    refine z_getR 70 rfl lX10_120 rfl o1 hr52 ?_
    refine z_iload 71 rfl rfl ?_
    obtain ⟨o53, B⟩ := B
    obtain ⟨o54, B⟩ := B
    refine z_iald 72 rfl o53 o54 ?_
    refine z_aload_n 73 rfl rfl ?_
    refine z_getR 74 rfl lX10_120 rfl o1 hr52 ?_
    refine z_iload 75 rfl rfl ?_
    obtain ⟨o55, B⟩ := B
    refine z_iald 76 rfl o53 o55 ?_
    refine z_icmp_le 77 141 rfl (by decide) ⟨fun c56 => ?_, fun c56 => ?_⟩
    · have B := B.1 c56
      refine z_iinc (v := 1) 80 rfl rfl (by decide) (by decide) rfl ?_
      refine z_goto 81 109 rfl (by decide) ?_
      exact B
    · have B := B.2 c56
      refine z_iload 78 rfl rfl ?_
      refine z_istore 79 rfl (by decide) rfl ?_
      refine z_iinc (v := 1) 80 rfl rfl (by decide) (by decide) rfl ?_
      refine z_goto 81 109 rfl (by decide) ?_
      exact B
set_option maxRecDepth 100000 in
set_option maxHeartbeats 4000000 in
theorem sg_X10_passes_0 {G : zG} {d : Nat} {h : zMem} {Q : zMem → Prop} {a0 : Nat} {x1 : Int32} (B : zO h a0 9 ∧ ∃ Q1 : zMem → Prop, zConV G mX10_mixes d [.ref a0, .int x1] h Q1 ∧ (∀ h2, Q1 h2 → zO h2 a0 9 ∧ ∃ Q4 : zMem → Prop, zConV G mX10_drifts d [.ref a0, .int x1] h2 Q4 ∧ (∀ h5, Q4 h5 → zg G mX10_passes (d + 1) 12 [.ref a0, .int x1, .int (0 : Int32)] [] h5 (zPV Q)))) : zg G mX10_passes (d + 1) 0 [.ref a0, .int x1, zU] [] h (zPV Q) := by
  refine z_aload_n 0 rfl rfl ?_
  refine z_iload_n 1 rfl rfl ?_
  obtain ⟨o8, B⟩ := B
  obtain ⟨Q1, K3, B⟩ := B
  refine z_cVV1 (ν := mX10_mixes) 2 rfl rfl fX10_mixes gX10_400 ⟨_, rfl, rfl⟩ (by decide) o8 (Nat.le_of_ble_eq_true rfl) K3 (fun h2 q => ?_)
  have B := B h2 q
  refine z_aload_n 3 rfl rfl ?_
  refine z_iload_n 4 rfl rfl ?_
  obtain ⟨o7, B⟩ := B
  obtain ⟨Q4, K6, B⟩ := B
  refine z_cVV1 (ν := mX10_drifts) 5 rfl rfl fX10_drifts gX10_403 ⟨_, rfl, rfl⟩ (by decide) o7 (Nat.le_of_ble_eq_true rfl) K6 (fun h5 q => ?_)
  have B := B h5 q
  refine z_iconst (v := 0) 6 rfl (by decide) ?_
  refine z_istore_n 7 rfl (by decide) rfl ?_
  exact B
theorem cn_X10_passes {G : zG} {d : Nat} {h : zMem} {Q : zMem → Prop} {a0 : Nat} {x1 : Int32} (B : zg G mX10_passes (d + 1) 0 [.ref a0, .int x1, zU] [] h (zPV Q)) : zConV G mX10_passes (d + 1) [.ref a0, .int x1] h Q := zcon0 (by decide +kernel) eX10_passes (Nat.le_of_ble_eq_true rfl) rfl B
set_option maxRecDepth 100000 in
set_option maxHeartbeats 4000000 in
theorem sg_X10_passes_12 {G : zG} {d : Nat} {h : zMem} {Q : zMem → Prop} {a0 : Nat} {x1 : Int32} {x2 : Int32} (B : zO h a0 9 ∧ ∃ r2, zR h a0 3 = some r2 ∧ zO h r2 100 ∧ vp_in (4 : Int32) (zLen h r2) ∧ ((zI h r2 (4 : Int32).toNatClampNeg) ≤ x2 → vp_in (1 : Int32) (zLen h r2) ∧ ((zI h r2 (1 : Int32).toNatClampNeg) ≤ 0 → ∃ r8, zR h a0 34 = some r8 ∧ zO h r8 100 ∧ vp_in x1 (zLen h r8) ∧ Q (zsI h r8 x1.toNatClampNeg ((zI h r8 x1.toNatClampNeg) + (1 : Int32)))) ∧ (¬ (zI h r2 (1 : Int32).toNatClampNeg) ≤ 0 → ∃ Q11 : zMem → Prop, zConV G mX10_keepsHouse d [.ref a0, .int x1] h Q11 ∧ (∀ h12, Q11 h12 → zO h12 a0 9 ∧ ∃ r15, zR h12 a0 34 = some r15 ∧ zO h12 r15 100 ∧ vp_in x1 (zLen h12 r15) ∧ Q (zsI h12 r15 x1.toNatClampNeg ((zI h12 r15 x1.toNatClampNeg) + (1 : Int32)))))) ∧ (¬ (zI h r2 (4 : Int32).toNatClampNeg) ≤ x2 → ∃ r18, zR h a0 44 = some r18 ∧ ∃ Q19 : Int32 → zMem → Prop, zConI G mX10_smells d [.ref a0, .int x1, .int x2] h Q19 ∧ (∀ v22 h20, Q19 v22 h20 → zO h20 r18 100 ∧ vp_in (((5 : Int32) * x1) + x2) (zLen h20 r18) ∧ zO h20 a0 9 ∧ ∃ r26, zR h20 a0 3 = some r26 ∧ zO h20 r26 100 ∧ vp_in (1 : Int32) (zLen h20 r26) ∧ ((zI (zsI h20 r18 (((5 : Int32) * x1) + x2).toNatClampNeg v22) r26 (1 : Int32).toNatClampNeg) ≤ 0 → zg G mX10_passes (d + 1) 12 [.ref a0, .int x1, .int (x2 + 1)] [] (zsI h20 r18 (((5 : Int32) * x1) + x2).toNatClampNeg v22) (zPV Q)) ∧ (¬ (zI (zsI h20 r18 (((5 : Int32) * x1) + x2).toNatClampNeg v22) r26 (1 : Int32).toNatClampNeg) ≤ 0 → ∃ r30, zR h20 a0 45 = some r30 ∧ ∃ Q31 : Int32 → zMem → Prop, zConI G mX10_thinks d [.ref a0, .int x1, .int x2] (zsI h20 r18 (((5 : Int32) * x1) + x2).toNatClampNeg v22) Q31 ∧ (∀ v34 h32, Q31 v34 h32 → zO h32 r30 100 ∧ vp_in (((5 : Int32) * x1) + x2) (zLen h32 r30) ∧ zg G mX10_passes (d + 1) 12 [.ref a0, .int x1, .int (x2 + 1)] [] (zsI h32 r30 (((5 : Int32) * x1) + x2).toNatClampNeg v34) (zPV Q)))))) : zg G mX10_passes (d + 1) 12 [.ref a0, .int x1, .int x2] [] h (zPV Q) := by
  refine z_iload_n 8 rfl rfl ?_
  refine z_aload_n 9 rfl rfl ?_
  obtain ⟨o1, B⟩ := B
  obtain ⟨r2, hr2, B⟩ := B
  refine z_getR 10 rfl lX10_13 rfl o1 hr2 ?_
  refine z_iconst (v := 4) 11 rfl (by decide) ?_
  obtain ⟨o3, B⟩ := B
  obtain ⟨o4, B⟩ := B
  refine z_iald 12 rfl o3 o4 ?_
  refine z_icmp_ge 13 69 rfl (by decide) ⟨fun c5 => ?_, fun c5 => ?_⟩
  · have B := B.1 c5
    refine z_aload_n 45 rfl rfl ?_
    refine z_getR 46 rfl lX10_13 rfl o1 hr2 ?_
    refine z_iconst (v := 1) 47 rfl (by decide) ?_
    obtain ⟨o6, B⟩ := B
    refine z_iald 48 rfl o3 o6 ?_
    refine z_if_le 49 83 rfl (by decide) ⟨fun c7 => ?_, fun c7 => ?_⟩
    · have B := B.1 c7
      refine z_aload_n 53 rfl rfl ?_
      obtain ⟨r8, hr8, B⟩ := B
      refine z_getR 54 rfl lX10_69 rfl o1 hr8 ?_
      refine z_iload_n 55 rfl rfl ?_
      refine z_dup2 56 rfl rfl rfl ?_
      obtain ⟨o9, B⟩ := B
      obtain ⟨o10, B⟩ := B
      refine z_iald 57 rfl o9 o10 ?_
      refine z_iconst (v := 1) 58 rfl (by decide) ?_
      refine z_iadd 59 rfl ?_
      refine z_iast 60 rfl o9 o10 ?_
      exact z_vret 61 rfl rfl ⟨rfl, rfl⟩ ⟨rfl, B⟩
    · have B := B.2 c7
      refine z_aload_n 50 rfl rfl ?_
      refine z_iload_n 51 rfl rfl ?_
      obtain ⟨Q11, K13, B⟩ := B
      refine z_cVV1 (ν := mX10_keepsHouse) 52 rfl rfl fX10_keepsHouse gX10_412 ⟨_, rfl, rfl⟩ (by decide) o1 (Nat.le_of_ble_eq_true rfl) K13 (fun h12 q => ?_)
      have B := B h12 q
      refine z_aload_n 53 rfl rfl ?_
      obtain ⟨o14, B⟩ := B
      obtain ⟨r15, hr15, B⟩ := B
      refine z_getR 54 rfl lX10_69 rfl o14 hr15 ?_
      refine z_iload_n 55 rfl rfl ?_
      refine z_dup2 56 rfl rfl rfl ?_
      obtain ⟨o16, B⟩ := B
      obtain ⟨o17, B⟩ := B
      refine z_iald 57 rfl o16 o17 ?_
      refine z_iconst (v := 1) 58 rfl (by decide) ?_
      refine z_iadd 59 rfl ?_
      refine z_iast 60 rfl o16 o17 ?_
      exact z_vret 61 rfl rfl ⟨rfl, rfl⟩ ⟨rfl, B⟩
  · have B := B.2 c5
    refine z_aload_n 14 rfl rfl ?_
    obtain ⟨r18, hr18, B⟩ := B
    refine z_getR 15 rfl lX10_99 rfl o1 hr18 ?_
    refine z_iconst (v := 5) 16 rfl (by decide) ?_
    refine z_iload_n 17 rfl rfl ?_
    refine z_imul 18 rfl ?_
    refine z_iload_n 19 rfl rfl ?_
    refine z_iadd 20 rfl ?_
    refine z_aload_n 21 rfl rfl ?_
    refine z_iload_n 22 rfl rfl ?_
    refine z_iload_n 23 rfl rfl ?_
    obtain ⟨Q19, K21, B⟩ := B
    refine z_cVI2 (ν := mX10_smells) 24 rfl rfl fX10_smells gX10_406 ⟨_, rfl, rfl⟩ (by decide) o1 (Nat.le_of_ble_eq_true rfl) K21 (fun v22 h20 q => ?_)
    have B := B v22 h20 q
    obtain ⟨o23, B⟩ := B
    obtain ⟨o24, B⟩ := B
    refine z_iast 25 rfl o23 o24 ?_
    refine z_aload_n 26 rfl rfl ?_
    obtain ⟨o25, B⟩ := B
    obtain ⟨r26, hr26, B⟩ := B
    refine z_getR 27 rfl lX10_13 rfl o25 hr26 ?_
    refine z_iconst (v := 1) 28 rfl (by decide) ?_
    obtain ⟨o27, B⟩ := B
    obtain ⟨o28, B⟩ := B
    refine z_iald 29 rfl o27 o28 ?_
    refine z_if_le 30 63 rfl (by decide) ⟨fun c29 => ?_, fun c29 => ?_⟩
    · have B := B.1 c29
      refine z_iinc (v := 1) 43 rfl rfl (by decide) (by decide) rfl ?_
      refine z_goto 44 12 rfl (by decide) ?_
      exact B
    · have B := B.2 c29
      refine z_aload_n 31 rfl rfl ?_
      obtain ⟨r30, hr30, B⟩ := B
      refine z_getR 32 rfl lX10_102 rfl o25 hr30 ?_
      refine z_iconst (v := 5) 33 rfl (by decide) ?_
      refine z_iload_n 34 rfl rfl ?_
      refine z_imul 35 rfl ?_
      refine z_iload_n 36 rfl rfl ?_
      refine z_iadd 37 rfl ?_
      refine z_aload_n 38 rfl rfl ?_
      refine z_iload_n 39 rfl rfl ?_
      refine z_iload_n 40 rfl rfl ?_
      obtain ⟨Q31, K33, B⟩ := B
      refine z_cVI2 (ν := mX10_thinks) 41 rfl rfl fX10_thinks gX10_409 ⟨_, rfl, rfl⟩ (by decide) o25 (Nat.le_of_ble_eq_true rfl) K33 (fun v34 h32 q => ?_)
      have B := B v34 h32 q
      obtain ⟨o35, B⟩ := B
      obtain ⟨o36, B⟩ := B
      refine z_iast 42 rfl o35 o36 ?_
      refine z_iinc (v := 1) 43 rfl rfl (by decide) (by decide) rfl ?_
      refine z_goto 44 12 rfl (by decide) ?_
      exact B
theorem zsw_X10_monk_40 {x : Int32} (z1 : ¬ x.toInt < 0) (z2 : ¬ 3 < x.toInt) (c0 : ¬ x = 0) (c1 : ¬ x = 1) (c2 : ¬ x = 2) (c3 : ¬ x = 3) : (#[32, 39, 46, 53] : Array Int)[(x.toInt - 0).toNat]? = some 60 := by
  obtain ⟨v, hv⟩ : ∃ v : Int, v = x.toInt := ⟨_, rfl⟩
  have c0 : v ≠ 0 := fun e => c0 (Int32.toInt_inj.mp (by rw [← hv, e]; decide))
  have c1 : v ≠ 1 := fun e => c1 (Int32.toInt_inj.mp (by rw [← hv, e]; decide))
  have c2 : v ≠ 2 := fun e => c2 (Int32.toInt_inj.mp (by rw [← hv, e]; decide))
  have c3 : v ≠ 3 := fun e => c3 (Int32.toInt_inj.mp (by rw [← hv, e]; decide))
  rw [← hv] at z1 z2 ⊢
  rcases (show v = 0 ∨ v = 1 ∨ v = 2 ∨ v = 3 by omega) with rfl | rfl | rfl | rfl
  all_goals first | exact absurd rfl (by assumption) | decide
set_option maxRecDepth 100000 in
set_option maxHeartbeats 4000000 in
theorem sg_X10_monk_0 {G : zG} {d : Nat} {h : zMem} {Q : Int32 → zMem → Prop} {a0 : Nat} {x1 : Int32} {x2 : Int32} (B : zO h a0 9 ∧ ∃ Q1 : Int32 → zMem → Prop, zConI G mX10_isMonk d [.ref a0, .int x1] h Q1 ∧ (∀ v4 h2, Q1 v4 h2 → (¬ v4 = 0 → (x2 < 0 → zg G mX10_monk (d + 1) 22 [.ref a0, .int x1, .int x2] [.ref a0] h2 (zPI Q)) ∧ (¬ x2 < 0 → (x2 ≤ (4 : Int32) → zO h2 a0 9 ∧ ((zI (zsI h2 a0 0 (0 : Int32)) a0 0) = 0 → (x2 = 0 → ∃ r10, zR h2 a0 42 = some r10 ∧ zO h2 r10 100 ∧ vp_in x1 (zLen h2 r10) ∧ Q (zI (zsI h2 a0 0 (0 : Int32)) r10 x1.toNatClampNeg) (zsI h2 a0 0 (0 : Int32))) ∧ (x2 = 1 → ∃ r13, zR h2 a0 13 = some r13 ∧ zO h2 r13 100 ∧ vp_in x1 (zLen h2 r13) ∧ Q (zI (zsI h2 a0 0 (0 : Int32)) r13 x1.toNatClampNeg) (zsI h2 a0 0 (0 : Int32))) ∧ (x2 = 2 → ∃ r16, zR h2 a0 43 = some r16 ∧ zO h2 r16 100 ∧ vp_in x1 (zLen h2 r16) ∧ Q (zI (zsI h2 a0 0 (0 : Int32)) r16 x1.toNatClampNeg) (zsI h2 a0 0 (0 : Int32))) ∧ (x2 = 3 → ∃ r19, zR h2 a0 44 = some r19 ∧ zO h2 r19 100 ∧ vp_in x1 (zLen h2 r19) ∧ Q (zI (zsI h2 a0 0 (0 : Int32)) r19 x1.toNatClampNeg) (zsI h2 a0 0 (0 : Int32))) ∧ (¬ x2 = 0 → ¬ x2 = 1 → ¬ x2 = 2 → ¬ x2 = 3 → ∃ r22, zR h2 a0 45 = some r22 ∧ zO h2 r22 100 ∧ vp_in x1 (zLen h2 r22) ∧ Q (zI (zsI h2 a0 0 (0 : Int32)) r22 x1.toNatClampNeg) (zsI h2 a0 0 (0 : Int32)))) ∧ (¬ (zI (zsI h2 a0 0 (0 : Int32)) a0 0) = 0 → Q (0 : Int32) (zsI h2 a0 0 (0 : Int32)))) ∧ (¬ x2 ≤ (4 : Int32) → zg G mX10_monk (d + 1) 22 [.ref a0, .int x1, .int x2] [.ref a0] h2 (zPI Q)))) ∧ (v4 = 0 → zO h2 a0 9 ∧ ((zI (zsI h2 a0 0 (1 : Int32)) a0 0) = 0 → (x2 = 0 → ∃ r28, zR h2 a0 42 = some r28 ∧ zO h2 r28 100 ∧ vp_in x1 (zLen h2 r28) ∧ Q (zI (zsI h2 a0 0 (1 : Int32)) r28 x1.toNatClampNeg) (zsI h2 a0 0 (1 : Int32))) ∧ (x2 = 1 → ∃ r31, zR h2 a0 13 = some r31 ∧ zO h2 r31 100 ∧ vp_in x1 (zLen h2 r31) ∧ Q (zI (zsI h2 a0 0 (1 : Int32)) r31 x1.toNatClampNeg) (zsI h2 a0 0 (1 : Int32))) ∧ (x2 = 2 → ∃ r34, zR h2 a0 43 = some r34 ∧ zO h2 r34 100 ∧ vp_in x1 (zLen h2 r34) ∧ Q (zI (zsI h2 a0 0 (1 : Int32)) r34 x1.toNatClampNeg) (zsI h2 a0 0 (1 : Int32))) ∧ (x2 = 3 → ∃ r37, zR h2 a0 44 = some r37 ∧ zO h2 r37 100 ∧ vp_in x1 (zLen h2 r37) ∧ Q (zI (zsI h2 a0 0 (1 : Int32)) r37 x1.toNatClampNeg) (zsI h2 a0 0 (1 : Int32))) ∧ (¬ x2 = 0 → ¬ x2 = 1 → ¬ x2 = 2 → ¬ x2 = 3 → ∃ r40, zR h2 a0 45 = some r40 ∧ zO h2 r40 100 ∧ vp_in x1 (zLen h2 r40) ∧ Q (zI (zsI h2 a0 0 (1 : Int32)) r40 x1.toNatClampNeg) (zsI h2 a0 0 (1 : Int32)))) ∧ (¬ (zI (zsI h2 a0 0 (1 : Int32)) a0 0) = 0 → Q (0 : Int32) (zsI h2 a0 0 (1 : Int32)))))) : zg G mX10_monk (d + 1) 0 [.ref a0, .int x1, .int x2] [] h (zPI Q) := by
  refine z_aload_n 0 rfl rfl ?_
  refine z_aload_n 1 rfl rfl ?_
  refine z_iload_n 2 rfl rfl ?_
  obtain ⟨o44, B⟩ := B
  obtain ⟨Q1, K3, B⟩ := B
  refine z_cVI1 (ν := mX10_isMonk) 3 rfl rfl fX10_isMonk gX10_415 ⟨_, rfl, rfl⟩ (by decide) o44 (Nat.le_of_ble_eq_true rfl) K3 (fun v4 h2 q => ?_)
  have B := B v4 h2 q
  refine z_if_ne 4 13 rfl (by decide) ⟨fun c5 => ?_, fun c5 => ?_⟩
  · have B := B.1 c5
    refine z_iload_n 7 rfl rfl ?_
    refine z_if_lt 8 22 rfl (by decide) ⟨fun c6 => ?_, fun c6 => ?_⟩
    · have B := B.1 c6
      exact B
    · have B := B.2 c6
      refine z_iload_n 9 rfl rfl ?_
      refine z_iconst (v := 4) 10 rfl (by decide) ?_
      refine z_icmp_le 11 26 rfl (by decide) ⟨fun c7 => ?_, fun c7 => ?_⟩
      · have B := B.1 c7
        refine z_iconst (v := 0) 14 rfl (by decide) ?_
        obtain ⟨o8, B⟩ := B
        refine z_putI 15 rfl lX10_160 ⟨_, _, _, rfl, rfl⟩ rfl rfl rfl o8 ?_
        refine z_aload_n 16 rfl rfl ?_
        refine z_getI 17 rfl lX10_160 rfl o8 ?_
        refine z_if_eq 18 39 rfl (by decide) ⟨fun c9 => ?_, fun c9 => ?_⟩
        · have B := B.1 c9
          refine z_iload_n 21 rfl rfl ?_
          by_cases c25_0 : x2 = 0
          · obtain ⟨B, -⟩ := B
            refine z_tableIn 22 72 rfl 0 (by rw [c25_0]; decide) (by decide) (by decide) rfl (by decide) ?_
            have B := B c25_0
            refine z_aload_n 23 rfl rfl ?_
            obtain ⟨r10, hr10, B⟩ := B
            refine z_getR 24 rfl lX10_93 rfl o8 hr10 ?_
            refine z_iload_n 25 rfl rfl ?_
            obtain ⟨o11, B⟩ := B
            obtain ⟨o12, B⟩ := B
            refine z_iald 26 rfl o11 o12 ?_
            exact z_iret 27 rfl rfl rfl ⟨rfl, rfl⟩ ⟨_, rfl, B⟩
          obtain ⟨-, B⟩ := B
          by_cases c25_1 : x2 = 1
          · obtain ⟨B, -⟩ := B
            refine z_tableIn 22 79 rfl 1 (by rw [c25_1]; decide) (by decide) (by decide) rfl (by decide) ?_
            have B := B c25_1
            refine z_aload_n 28 rfl rfl ?_
            obtain ⟨r13, hr13, B⟩ := B
            refine z_getR 29 rfl lX10_43 rfl o8 hr13 ?_
            refine z_iload_n 30 rfl rfl ?_
            obtain ⟨o14, B⟩ := B
            obtain ⟨o15, B⟩ := B
            refine z_iald 31 rfl o14 o15 ?_
            exact z_iret 32 rfl rfl rfl ⟨rfl, rfl⟩ ⟨_, rfl, B⟩
          obtain ⟨-, B⟩ := B
          by_cases c25_2 : x2 = 2
          · obtain ⟨B, -⟩ := B
            refine z_tableIn 22 86 rfl 2 (by rw [c25_2]; decide) (by decide) (by decide) rfl (by decide) ?_
            have B := B c25_2
            refine z_aload_n 33 rfl rfl ?_
            obtain ⟨r16, hr16, B⟩ := B
            refine z_getR 34 rfl lX10_96 rfl o8 hr16 ?_
            refine z_iload_n 35 rfl rfl ?_
            obtain ⟨o17, B⟩ := B
            obtain ⟨o18, B⟩ := B
            refine z_iald 36 rfl o17 o18 ?_
            exact z_iret 37 rfl rfl rfl ⟨rfl, rfl⟩ ⟨_, rfl, B⟩
          obtain ⟨-, B⟩ := B
          by_cases c25_3 : x2 = 3
          · obtain ⟨B, -⟩ := B
            refine z_tableIn 22 93 rfl 3 (by rw [c25_3]; decide) (by decide) (by decide) rfl (by decide) ?_
            have B := B c25_3
            refine z_aload_n 38 rfl rfl ?_
            obtain ⟨r19, hr19, B⟩ := B
            refine z_getR 39 rfl lX10_99 rfl o8 hr19 ?_
            refine z_iload_n 40 rfl rfl ?_
            obtain ⟨o20, B⟩ := B
            obtain ⟨o21, B⟩ := B
            refine z_iald 41 rfl o20 o21 ?_
            exact z_iret 42 rfl rfl rfl ⟨rfl, rfl⟩ ⟨_, rfl, B⟩
          obtain ⟨-, B⟩ := B
          have B := B c25_0 c25_1 c25_2 c25_3
          refine z_tableD 22 100 rfl (by decide) (by
            intro z1 z2
            refine zsw_X10_monk_40 z1 z2 c25_0 c25_1 c25_2 c25_3) ?_
          refine z_aload_n 43 rfl rfl ?_
          obtain ⟨r22, hr22, B⟩ := B
          refine z_getR 44 rfl lX10_102 rfl o8 hr22 ?_
          refine z_iload_n 45 rfl rfl ?_
          obtain ⟨o23, B⟩ := B
          obtain ⟨o24, B⟩ := B
          refine z_iald 46 rfl o23 o24 ?_
          exact z_iret 47 rfl rfl rfl ⟨rfl, rfl⟩ ⟨_, rfl, B⟩
        · have B := B.2 c9
          refine z_iconst (v := 0) 19 rfl (by decide) ?_
          exact z_iret 20 rfl rfl rfl ⟨rfl, rfl⟩ ⟨_, rfl, B⟩
      · have B := B.2 c7
        exact B
  · have B := B.2 c5
    refine z_iconst (v := 1) 5 rfl (by decide) ?_
    refine z_goto 6 27 rfl (by decide) ?_
    obtain ⟨o26, B⟩ := B
    refine z_putI 15 rfl lX10_160 ⟨_, _, _, rfl, rfl⟩ rfl rfl rfl o26 ?_
    refine z_aload_n 16 rfl rfl ?_
    refine z_getI 17 rfl lX10_160 rfl o26 ?_
    refine z_if_eq 18 39 rfl (by decide) ⟨fun c27 => ?_, fun c27 => ?_⟩
    · have B := B.1 c27
      refine z_iload_n 21 rfl rfl ?_
      by_cases c43_0 : x2 = 0
      · obtain ⟨B, -⟩ := B
        refine z_tableIn 22 72 rfl 0 (by rw [c43_0]; decide) (by decide) (by decide) rfl (by decide) ?_
        have B := B c43_0
        refine z_aload_n 23 rfl rfl ?_
        obtain ⟨r28, hr28, B⟩ := B
        refine z_getR 24 rfl lX10_93 rfl o26 hr28 ?_
        refine z_iload_n 25 rfl rfl ?_
        obtain ⟨o29, B⟩ := B
        obtain ⟨o30, B⟩ := B
        refine z_iald 26 rfl o29 o30 ?_
        exact z_iret 27 rfl rfl rfl ⟨rfl, rfl⟩ ⟨_, rfl, B⟩
      obtain ⟨-, B⟩ := B
      by_cases c43_1 : x2 = 1
      · obtain ⟨B, -⟩ := B
        refine z_tableIn 22 79 rfl 1 (by rw [c43_1]; decide) (by decide) (by decide) rfl (by decide) ?_
        have B := B c43_1
        refine z_aload_n 28 rfl rfl ?_
        obtain ⟨r31, hr31, B⟩ := B
        refine z_getR 29 rfl lX10_43 rfl o26 hr31 ?_
        refine z_iload_n 30 rfl rfl ?_
        obtain ⟨o32, B⟩ := B
        obtain ⟨o33, B⟩ := B
        refine z_iald 31 rfl o32 o33 ?_
        exact z_iret 32 rfl rfl rfl ⟨rfl, rfl⟩ ⟨_, rfl, B⟩
      obtain ⟨-, B⟩ := B
      by_cases c43_2 : x2 = 2
      · obtain ⟨B, -⟩ := B
        refine z_tableIn 22 86 rfl 2 (by rw [c43_2]; decide) (by decide) (by decide) rfl (by decide) ?_
        have B := B c43_2
        refine z_aload_n 33 rfl rfl ?_
        obtain ⟨r34, hr34, B⟩ := B
        refine z_getR 34 rfl lX10_96 rfl o26 hr34 ?_
        refine z_iload_n 35 rfl rfl ?_
        obtain ⟨o35, B⟩ := B
        obtain ⟨o36, B⟩ := B
        refine z_iald 36 rfl o35 o36 ?_
        exact z_iret 37 rfl rfl rfl ⟨rfl, rfl⟩ ⟨_, rfl, B⟩
      obtain ⟨-, B⟩ := B
      by_cases c43_3 : x2 = 3
      · obtain ⟨B, -⟩ := B
        refine z_tableIn 22 93 rfl 3 (by rw [c43_3]; decide) (by decide) (by decide) rfl (by decide) ?_
        have B := B c43_3
        refine z_aload_n 38 rfl rfl ?_
        obtain ⟨r37, hr37, B⟩ := B
        refine z_getR 39 rfl lX10_99 rfl o26 hr37 ?_
        refine z_iload_n 40 rfl rfl ?_
        obtain ⟨o38, B⟩ := B
        obtain ⟨o39, B⟩ := B
        refine z_iald 41 rfl o38 o39 ?_
        exact z_iret 42 rfl rfl rfl ⟨rfl, rfl⟩ ⟨_, rfl, B⟩
      obtain ⟨-, B⟩ := B
      have B := B c43_0 c43_1 c43_2 c43_3
      refine z_tableD 22 100 rfl (by decide) (by
        intro z1 z2
        refine zsw_X10_monk_40 z1 z2 c43_0 c43_1 c43_2 c43_3) ?_
      refine z_aload_n 43 rfl rfl ?_
      obtain ⟨r40, hr40, B⟩ := B
      refine z_getR 44 rfl lX10_102 rfl o26 hr40 ?_
      refine z_iload_n 45 rfl rfl ?_
      obtain ⟨o41, B⟩ := B
      obtain ⟨o42, B⟩ := B
      refine z_iald 46 rfl o41 o42 ?_
      exact z_iret 47 rfl rfl rfl ⟨rfl, rfl⟩ ⟨_, rfl, B⟩
    · have B := B.2 c27
      refine z_iconst (v := 0) 19 rfl (by decide) ?_
      exact z_iret 20 rfl rfl rfl ⟨rfl, rfl⟩ ⟨_, rfl, B⟩
theorem cn_X10_monk {G : zG} {d : Nat} {h : zMem} {Q : Int32 → zMem → Prop} {a0 : Nat} {x1 : Int32} {x2 : Int32} (B : zg G mX10_monk (d + 1) 0 [.ref a0, .int x1, .int x2] [] h (zPI Q)) : zConI G mX10_monk (d + 1) [.ref a0, .int x1, .int x2] h Q := zcon0 (by decide +kernel) eX10_monk (Nat.le_of_ble_eq_true rfl) rfl B
set_option maxRecDepth 100000 in
set_option maxHeartbeats 4000000 in
theorem sg_X10_monk_22 {G : zG} {d : Nat} {h : zMem} {Q : Int32 → zMem → Prop} {a0 : Nat} {x1 : Int32} {x2 : Int32} {as0 : Nat} (B : zO h as0 9 ∧ zO h a0 9 ∧ ((zI (zsI h as0 0 (2 : Int32)) a0 0) = 0 → (x2 = 0 → ∃ r4, zR h a0 42 = some r4 ∧ zO h r4 100 ∧ vp_in x1 (zLen h r4) ∧ Q (zI (zsI h as0 0 (2 : Int32)) r4 x1.toNatClampNeg) (zsI h as0 0 (2 : Int32))) ∧ (x2 = 1 → ∃ r7, zR h a0 13 = some r7 ∧ zO h r7 100 ∧ vp_in x1 (zLen h r7) ∧ Q (zI (zsI h as0 0 (2 : Int32)) r7 x1.toNatClampNeg) (zsI h as0 0 (2 : Int32))) ∧ (x2 = 2 → ∃ r10, zR h a0 43 = some r10 ∧ zO h r10 100 ∧ vp_in x1 (zLen h r10) ∧ Q (zI (zsI h as0 0 (2 : Int32)) r10 x1.toNatClampNeg) (zsI h as0 0 (2 : Int32))) ∧ (x2 = 3 → ∃ r13, zR h a0 44 = some r13 ∧ zO h r13 100 ∧ vp_in x1 (zLen h r13) ∧ Q (zI (zsI h as0 0 (2 : Int32)) r13 x1.toNatClampNeg) (zsI h as0 0 (2 : Int32))) ∧ (¬ x2 = 0 → ¬ x2 = 1 → ¬ x2 = 2 → ¬ x2 = 3 → ∃ r16, zR h a0 45 = some r16 ∧ zO h r16 100 ∧ vp_in x1 (zLen h r16) ∧ Q (zI (zsI h as0 0 (2 : Int32)) r16 x1.toNatClampNeg) (zsI h as0 0 (2 : Int32)))) ∧ (¬ (zI (zsI h as0 0 (2 : Int32)) a0 0) = 0 → Q (0 : Int32) (zsI h as0 0 (2 : Int32)))) : zg G mX10_monk (d + 1) 22 [.ref a0, .int x1, .int x2] [.ref as0] h (zPI Q) := by
  refine z_iconst (v := 2) 12 rfl (by decide) ?_
  refine z_goto 13 27 rfl (by decide) ?_
  obtain ⟨o1, B⟩ := B
  refine z_putI 15 rfl lX10_160 ⟨_, _, _, rfl, rfl⟩ rfl rfl rfl o1 ?_
  refine z_aload_n 16 rfl rfl ?_
  obtain ⟨o2, B⟩ := B
  refine z_getI 17 rfl lX10_160 rfl o2 ?_
  refine z_if_eq 18 39 rfl (by decide) ⟨fun c3 => ?_, fun c3 => ?_⟩
  · have B := B.1 c3
    refine z_iload_n 21 rfl rfl ?_
    by_cases c19_0 : x2 = 0
    · obtain ⟨B, -⟩ := B
      refine z_tableIn 22 72 rfl 0 (by rw [c19_0]; decide) (by decide) (by decide) rfl (by decide) ?_
      have B := B c19_0
      refine z_aload_n 23 rfl rfl ?_
      obtain ⟨r4, hr4, B⟩ := B
      refine z_getR 24 rfl lX10_93 rfl o2 hr4 ?_
      refine z_iload_n 25 rfl rfl ?_
      obtain ⟨o5, B⟩ := B
      obtain ⟨o6, B⟩ := B
      refine z_iald 26 rfl o5 o6 ?_
      exact z_iret 27 rfl rfl rfl ⟨rfl, rfl⟩ ⟨_, rfl, B⟩
    obtain ⟨-, B⟩ := B
    by_cases c19_1 : x2 = 1
    · obtain ⟨B, -⟩ := B
      refine z_tableIn 22 79 rfl 1 (by rw [c19_1]; decide) (by decide) (by decide) rfl (by decide) ?_
      have B := B c19_1
      refine z_aload_n 28 rfl rfl ?_
      obtain ⟨r7, hr7, B⟩ := B
      refine z_getR 29 rfl lX10_43 rfl o2 hr7 ?_
      refine z_iload_n 30 rfl rfl ?_
      obtain ⟨o8, B⟩ := B
      obtain ⟨o9, B⟩ := B
      refine z_iald 31 rfl o8 o9 ?_
      exact z_iret 32 rfl rfl rfl ⟨rfl, rfl⟩ ⟨_, rfl, B⟩
    obtain ⟨-, B⟩ := B
    by_cases c19_2 : x2 = 2
    · obtain ⟨B, -⟩ := B
      refine z_tableIn 22 86 rfl 2 (by rw [c19_2]; decide) (by decide) (by decide) rfl (by decide) ?_
      have B := B c19_2
      refine z_aload_n 33 rfl rfl ?_
      obtain ⟨r10, hr10, B⟩ := B
      refine z_getR 34 rfl lX10_96 rfl o2 hr10 ?_
      refine z_iload_n 35 rfl rfl ?_
      obtain ⟨o11, B⟩ := B
      obtain ⟨o12, B⟩ := B
      refine z_iald 36 rfl o11 o12 ?_
      exact z_iret 37 rfl rfl rfl ⟨rfl, rfl⟩ ⟨_, rfl, B⟩
    obtain ⟨-, B⟩ := B
    by_cases c19_3 : x2 = 3
    · obtain ⟨B, -⟩ := B
      refine z_tableIn 22 93 rfl 3 (by rw [c19_3]; decide) (by decide) (by decide) rfl (by decide) ?_
      have B := B c19_3
      refine z_aload_n 38 rfl rfl ?_
      obtain ⟨r13, hr13, B⟩ := B
      refine z_getR 39 rfl lX10_99 rfl o2 hr13 ?_
      refine z_iload_n 40 rfl rfl ?_
      obtain ⟨o14, B⟩ := B
      obtain ⟨o15, B⟩ := B
      refine z_iald 41 rfl o14 o15 ?_
      exact z_iret 42 rfl rfl rfl ⟨rfl, rfl⟩ ⟨_, rfl, B⟩
    obtain ⟨-, B⟩ := B
    have B := B c19_0 c19_1 c19_2 c19_3
    refine z_tableD 22 100 rfl (by decide) (by
      intro z1 z2
      refine zsw_X10_monk_40 z1 z2 c19_0 c19_1 c19_2 c19_3) ?_
    refine z_aload_n 43 rfl rfl ?_
    obtain ⟨r16, hr16, B⟩ := B
    refine z_getR 44 rfl lX10_102 rfl o2 hr16 ?_
    refine z_iload_n 45 rfl rfl ?_
    obtain ⟨o17, B⟩ := B
    obtain ⟨o18, B⟩ := B
    refine z_iald 46 rfl o17 o18 ?_
    exact z_iret 47 rfl rfl rfl ⟨rfl, rfl⟩ ⟨_, rfl, B⟩
  · have B := B.2 c3
    refine z_iconst (v := 0) 19 rfl (by decide) ?_
    exact z_iret 20 rfl rfl rfl ⟨rfl, rfl⟩ ⟨_, rfl, B⟩
set_option maxRecDepth 100000 in
set_option maxHeartbeats 4000000 in
theorem sg_X10_stuff_0 {G : zG} {d : Nat} {h : zMem} {Q : Int32 → zMem → Prop} {a0 : Nat} {x1 : Int32} {x2 : Int32} (B : zO h a0 9 ∧ ∃ Q2 : Int32 → zMem → Prop, zConI G mX10_isStuff d [.ref a0, .int x1] (zsI h a0 0 (0 : Int32)) Q2 ∧ (∀ v5 h3, Q2 v5 h3 → (¬ v5 = 0 → (¬ x2 = 0 → (¬ x2 = (1 : Int32) → (¬ x2 = (2 : Int32) → Q (-1 : Int32) h3) ∧ (x2 = (2 : Int32) → zO h3 a0 9 ∧ ∃ r11, zR h3 a0 40 = some r11 ∧ zO h3 r11 100 ∧ vp_in x1 (zLen h3 r11) ∧ Q (zI h3 r11 x1.toNatClampNeg) h3)) ∧ (x2 = (1 : Int32) → zO h3 a0 9 ∧ ∃ Q14 : Int32 → zMem → Prop, zConI G mX10_worthOf d [.ref a0, .int (0 : Int32), .int x1] h3 Q14 ∧ (∀ v17 h15, Q14 v17 h15 → Q v17 h15))) ∧ (x2 = 0 → zO h3 a0 9 ∧ ∃ r20, zR h3 a0 39 = some r20 ∧ zO h3 r20 100 ∧ vp_in x1 (zLen h3 r20) ∧ Q (zI h3 r20 x1.toNatClampNeg) h3)) ∧ (v5 = 0 → Q (-1 : Int32) h3))) : zg G mX10_stuff (d + 1) 0 [.ref a0, .int x1, .int x2] [] h (zPI Q) := by
  refine z_aload_n 0 rfl rfl ?_
  refine z_iconst (v := 0) 1 rfl (by decide) ?_
  obtain ⟨o1, B⟩ := B
  refine z_putI 2 rfl lX10_160 ⟨_, _, _, rfl, rfl⟩ rfl rfl rfl o1 ?_
  refine z_aload_n 3 rfl rfl ?_
  refine z_iload_n 4 rfl rfl ?_
  obtain ⟨Q2, K4, B⟩ := B
  refine z_cVI1 (ν := mX10_isStuff) 5 rfl rfl fX10_isStuff gX10_418 ⟨_, rfl, rfl⟩ (by decide) o1 (Nat.le_of_ble_eq_true rfl) K4 (fun v5 h3 q => ?_)
  have B := B v5 h3 q
  refine z_if_ne 6 15 rfl (by decide) ⟨fun c6 => ?_, fun c6 => ?_⟩
  · have B := B.1 c6
    refine z_iload_n 9 rfl rfl ?_
    refine z_if_ne 10 28 rfl (by decide) ⟨fun c7 => ?_, fun c7 => ?_⟩
    · have B := B.1 c7
      refine z_iload_n 16 rfl rfl ?_
      refine z_iconst (v := 1) 17 rfl (by decide) ?_
      refine z_icmp_ne 18 42 rfl (by decide) ⟨fun c8 => ?_, fun c8 => ?_⟩
      · have B := B.1 c8
        refine z_iload_n 24 rfl rfl ?_
        refine z_iconst (v := 2) 25 rfl (by decide) ?_
        refine z_icmp_ne 26 56 rfl (by decide) ⟨fun c9 => ?_, fun c9 => ?_⟩
        · have B := B.1 c9
          refine z_iconst (v := -1) 32 rfl (by decide) ?_
          exact z_iret 33 rfl rfl rfl ⟨rfl, rfl⟩ ⟨_, rfl, B⟩
        · have B := B.2 c9
          refine z_aload_n 27 rfl rfl ?_
          obtain ⟨o10, B⟩ := B
          obtain ⟨r11, hr11, B⟩ := B
          refine z_getR 28 rfl lX10_87 rfl o10 hr11 ?_
          refine z_iload_n 29 rfl rfl ?_
          obtain ⟨o12, B⟩ := B
          obtain ⟨o13, B⟩ := B
          refine z_iald 30 rfl o12 o13 ?_
          refine z_goto 31 57 rfl (by decide) ?_
          exact z_iret 33 rfl rfl rfl ⟨rfl, rfl⟩ ⟨_, rfl, B⟩
      · have B := B.2 c8
        refine z_aload_n 19 rfl rfl ?_
        refine z_iconst (v := 0) 20 rfl (by decide) ?_
        refine z_iload_n 21 rfl rfl ?_
        obtain ⟨o18, B⟩ := B
        obtain ⟨Q14, K16, B⟩ := B
        refine z_cVI2 (ν := mX10_worthOf) 22 rfl rfl fX10_worthOf gX10_421 ⟨_, rfl, rfl⟩ (by decide) o18 (Nat.le_of_ble_eq_true rfl) K16 (fun v17 h15 q => ?_)
        have B := B v17 h15 q
        refine z_goto 23 57 rfl (by decide) ?_
        exact z_iret 33 rfl rfl rfl ⟨rfl, rfl⟩ ⟨_, rfl, B⟩
    · have B := B.2 c7
      refine z_aload_n 11 rfl rfl ?_
      obtain ⟨o19, B⟩ := B
      obtain ⟨r20, hr20, B⟩ := B
      refine z_getR 12 rfl lX10_84 rfl o19 hr20 ?_
      refine z_iload_n 13 rfl rfl ?_
      obtain ⟨o21, B⟩ := B
      obtain ⟨o22, B⟩ := B
      refine z_iald 14 rfl o21 o22 ?_
      refine z_goto 15 57 rfl (by decide) ?_
      exact z_iret 33 rfl rfl rfl ⟨rfl, rfl⟩ ⟨_, rfl, B⟩
  · have B := B.2 c6
    refine z_iconst (v := -1) 7 rfl (by decide) ?_
    exact z_iret 8 rfl rfl rfl ⟨rfl, rfl⟩ ⟨_, rfl, B⟩
theorem cn_X10_stuff {G : zG} {d : Nat} {h : zMem} {Q : Int32 → zMem → Prop} {a0 : Nat} {x1 : Int32} {x2 : Int32} (B : zg G mX10_stuff (d + 1) 0 [.ref a0, .int x1, .int x2] [] h (zPI Q)) : zConI G mX10_stuff (d + 1) [.ref a0, .int x1, .int x2] h Q := zcon0 (by decide +kernel) eX10_stuff (Nat.le_of_ble_eq_true rfl) rfl B
set_option maxRecDepth 100000 in
set_option maxHeartbeats 4000000 in
theorem sg_X10_mix_0 {G : zG} {d : Nat} {h : zMem} {Q : Int32 → zMem → Prop} {a0 : Nat} {x1 : Int32} {x2 : Int32} (B : zO h a0 9 ∧ ∃ Q2 : Int32 → zMem → Prop, zConI G mX10_isDay d [.ref a0, .int x1] (zsI h a0 0 (0 : Int32)) Q2 ∧ (∀ v5 h3, Q2 v5 h3 → (v5 = 0 → Q (-1 : Int32) h3) ∧ (¬ v5 = 0 → zO h3 a0 9 ∧ ∃ Q7 : Int32 → zMem → Prop, zConI G mX10_isStuff d [.ref a0, .int x2] h3 Q7 ∧ (∀ v10 h8, Q7 v10 h8 → (v10 = 0 → Q (-1 : Int32) h8) ∧ (¬ v10 = 0 → zO h8 a0 9 ∧ ∃ r13, zR h8 a0 8 = some r13 ∧ zO h8 r13 100 ∧ vp_in (((6 : Int32) * x1) + x2) (zLen h8 r13) ∧ Q (zI h8 r13 (((6 : Int32) * x1) + x2).toNatClampNeg) h8))))) : zg G mX10_mix (d + 1) 0 [.ref a0, .int x1, .int x2] [] h (zPI Q) := by
  refine z_aload_n 0 rfl rfl ?_
  refine z_iconst (v := 0) 1 rfl (by decide) ?_
  obtain ⟨o1, B⟩ := B
  refine z_putI 2 rfl lX10_160 ⟨_, _, _, rfl, rfl⟩ rfl rfl rfl o1 ?_
  refine z_aload_n 3 rfl rfl ?_
  refine z_iload_n 4 rfl rfl ?_
  obtain ⟨Q2, K4, B⟩ := B
  refine z_cVI1 (ν := mX10_isDay) 5 rfl rfl fX10_isDay gX10_424 ⟨_, rfl, rfl⟩ (by decide) o1 (Nat.le_of_ble_eq_true rfl) K4 (fun v5 h3 q => ?_)
  have B := B v5 h3 q
  refine z_if_eq 6 35 rfl (by decide) ⟨fun c6 => ?_, fun c6 => ?_⟩
  · have B := B.1 c6
    refine z_iconst (v := -1) 20 rfl (by decide) ?_
    exact z_iret 21 rfl rfl rfl ⟨rfl, rfl⟩ ⟨_, rfl, B⟩
  · have B := B.2 c6
    refine z_aload_n 7 rfl rfl ?_
    refine z_iload_n 8 rfl rfl ?_
    obtain ⟨o16, B⟩ := B
    obtain ⟨Q7, K9, B⟩ := B
    refine z_cVI1 (ν := mX10_isStuff) 9 rfl rfl fX10_isStuff gX10_418 ⟨_, rfl, rfl⟩ (by decide) o16 (Nat.le_of_ble_eq_true rfl) K9 (fun v10 h8 q => ?_)
    have B := B v10 h8 q
    refine z_if_eq 10 35 rfl (by decide) ⟨fun c11 => ?_, fun c11 => ?_⟩
    · have B := B.1 c11
      refine z_iconst (v := -1) 20 rfl (by decide) ?_
      exact z_iret 21 rfl rfl rfl ⟨rfl, rfl⟩ ⟨_, rfl, B⟩
    · have B := B.2 c11
      refine z_aload_n 11 rfl rfl ?_
      obtain ⟨o12, B⟩ := B
      obtain ⟨r13, hr13, B⟩ := B
      refine z_getR 12 rfl lX10_28 rfl o12 hr13 ?_
      refine z_bipush (v := 6) 13 rfl (by decide) ?_
      refine z_iload_n 14 rfl rfl ?_
      refine z_imul 15 rfl ?_
      refine z_iload_n 16 rfl rfl ?_
      refine z_iadd 17 rfl ?_
      obtain ⟨o14, B⟩ := B
      obtain ⟨o15, B⟩ := B
      refine z_iald 18 rfl o14 o15 ?_
      refine z_goto 19 36 rfl (by decide) ?_
      exact z_iret 21 rfl rfl rfl ⟨rfl, rfl⟩ ⟨_, rfl, B⟩
theorem cn_X10_mix {G : zG} {d : Nat} {h : zMem} {Q : Int32 → zMem → Prop} {a0 : Nat} {x1 : Int32} {x2 : Int32} (B : zg G mX10_mix (d + 1) 0 [.ref a0, .int x1, .int x2] [] h (zPI Q)) : zConI G mX10_mix (d + 1) [.ref a0, .int x1, .int x2] h Q := zcon0 (by decide +kernel) eX10_mix (Nat.le_of_ble_eq_true rfl) rfl B
set_option maxRecDepth 100000 in
set_option maxHeartbeats 4000000 in
theorem sg_X10_feast_0 {G : zG} {d : Nat} {h : zMem} {Q : Int32 → zMem → Prop} {a0 : Nat} {x1 : Int32} (B : zO h a0 9 ∧ ∃ Q2 : Int32 → zMem → Prop, zConI G mX10_isDay d [.ref a0, .int x1] (zsI h a0 0 (0 : Int32)) Q2 ∧ (∀ v5 h3, Q2 v5 h3 → (v5 = 0 → Q (-1 : Int32) h3) ∧ (¬ v5 = 0 → zO h3 a0 9 ∧ ∃ r8, zR h3 a0 7 = some r8 ∧ zO h3 r8 100 ∧ vp_in x1 (zLen h3 r8) ∧ Q (zI h3 r8 x1.toNatClampNeg) h3))) : zg G mX10_feast (d + 1) 0 [.ref a0, .int x1] [] h (zPI Q) := by
  refine z_aload_n 0 rfl rfl ?_
  refine z_iconst (v := 0) 1 rfl (by decide) ?_
  obtain ⟨o1, B⟩ := B
  refine z_putI 2 rfl lX10_160 ⟨_, _, _, rfl, rfl⟩ rfl rfl rfl o1 ?_
  refine z_aload_n 3 rfl rfl ?_
  refine z_iload_n 4 rfl rfl ?_
  obtain ⟨Q2, K4, B⟩ := B
  refine z_cVI1 (ν := mX10_isDay) 5 rfl rfl fX10_isDay gX10_424 ⟨_, rfl, rfl⟩ (by decide) o1 (Nat.le_of_ble_eq_true rfl) K4 (fun v5 h3 q => ?_)
  have B := B v5 h3 q
  refine z_if_eq 6 22 rfl (by decide) ⟨fun c6 => ?_, fun c6 => ?_⟩
  · have B := B.1 c6
    refine z_iconst (v := -1) 12 rfl (by decide) ?_
    exact z_iret 13 rfl rfl rfl ⟨rfl, rfl⟩ ⟨_, rfl, B⟩
  · have B := B.2 c6
    refine z_aload_n 7 rfl rfl ?_
    obtain ⟨o7, B⟩ := B
    obtain ⟨r8, hr8, B⟩ := B
    refine z_getR 8 rfl lX10_25 rfl o7 hr8 ?_
    refine z_iload_n 9 rfl rfl ?_
    obtain ⟨o9, B⟩ := B
    obtain ⟨o10, B⟩ := B
    refine z_iald 10 rfl o9 o10 ?_
    refine z_goto 11 23 rfl (by decide) ?_
    exact z_iret 13 rfl rfl rfl ⟨rfl, rfl⟩ ⟨_, rfl, B⟩
theorem cn_X10_feast {G : zG} {d : Nat} {h : zMem} {Q : Int32 → zMem → Prop} {a0 : Nat} {x1 : Int32} (B : zg G mX10_feast (d + 1) 0 [.ref a0, .int x1] [] h (zPI Q)) : zConI G mX10_feast (d + 1) [.ref a0, .int x1] h Q := zcon0 (by decide +kernel) eX10_feast (Nat.le_of_ble_eq_true rfl) rfl B
set_option maxRecDepth 100000 in
set_option maxHeartbeats 4000000 in
theorem sg_X10_air_0 {G : zG} {d : Nat} {h : zMem} {Q : Int32 → zMem → Prop} {a0 : Nat} {x1 : Int32} {x2 : Int32} (B : zO h a0 9 ∧ ∃ Q2 : Int32 → zMem → Prop, zConI G mX10_isRoom d [.ref a0, .int x1] (zsI h a0 0 (0 : Int32)) Q2 ∧ (∀ v5 h3, Q2 v5 h3 → (v5 = 0 → Q (-1 : Int32) h3) ∧ (¬ v5 = 0 → zO h3 a0 9 ∧ ∃ Q7 : Int32 → zMem → Prop, zConI G mX10_isStuff d [.ref a0, .int x2] h3 Q7 ∧ (∀ v10 h8, Q7 v10 h8 → (v10 = 0 → Q (-1 : Int32) h8) ∧ (¬ v10 = 0 → zO h8 a0 9 ∧ ∃ r13, zR h8 a0 41 = some r13 ∧ zO h8 r13 100 ∧ vp_in (((6 : Int32) * x1) + x2) (zLen h8 r13) ∧ Q (zI h8 r13 (((6 : Int32) * x1) + x2).toNatClampNeg) h8))))) : zg G mX10_air (d + 1) 0 [.ref a0, .int x1, .int x2] [] h (zPI Q) := by
  refine z_aload_n 0 rfl rfl ?_
  refine z_iconst (v := 0) 1 rfl (by decide) ?_
  obtain ⟨o1, B⟩ := B
  refine z_putI 2 rfl lX10_160 ⟨_, _, _, rfl, rfl⟩ rfl rfl rfl o1 ?_
  refine z_aload_n 3 rfl rfl ?_
  refine z_iload_n 4 rfl rfl ?_
  obtain ⟨Q2, K4, B⟩ := B
  refine z_cVI1 (ν := mX10_isRoom) 5 rfl rfl fX10_isRoom gX10_427 ⟨_, rfl, rfl⟩ (by decide) o1 (Nat.le_of_ble_eq_true rfl) K4 (fun v5 h3 q => ?_)
  have B := B v5 h3 q
  refine z_if_eq 6 35 rfl (by decide) ⟨fun c6 => ?_, fun c6 => ?_⟩
  · have B := B.1 c6
    refine z_iconst (v := -1) 20 rfl (by decide) ?_
    exact z_iret 21 rfl rfl rfl ⟨rfl, rfl⟩ ⟨_, rfl, B⟩
  · have B := B.2 c6
    refine z_aload_n 7 rfl rfl ?_
    refine z_iload_n 8 rfl rfl ?_
    obtain ⟨o16, B⟩ := B
    obtain ⟨Q7, K9, B⟩ := B
    refine z_cVI1 (ν := mX10_isStuff) 9 rfl rfl fX10_isStuff gX10_418 ⟨_, rfl, rfl⟩ (by decide) o16 (Nat.le_of_ble_eq_true rfl) K9 (fun v10 h8 q => ?_)
    have B := B v10 h8 q
    refine z_if_eq 10 35 rfl (by decide) ⟨fun c11 => ?_, fun c11 => ?_⟩
    · have B := B.1 c11
      refine z_iconst (v := -1) 20 rfl (by decide) ?_
      exact z_iret 21 rfl rfl rfl ⟨rfl, rfl⟩ ⟨_, rfl, B⟩
    · have B := B.2 c11
      refine z_aload_n 11 rfl rfl ?_
      obtain ⟨o12, B⟩ := B
      obtain ⟨r13, hr13, B⟩ := B
      refine z_getR 12 rfl lX10_90 rfl o12 hr13 ?_
      refine z_bipush (v := 6) 13 rfl (by decide) ?_
      refine z_iload_n 14 rfl rfl ?_
      refine z_imul 15 rfl ?_
      refine z_iload_n 16 rfl rfl ?_
      refine z_iadd 17 rfl ?_
      obtain ⟨o14, B⟩ := B
      obtain ⟨o15, B⟩ := B
      refine z_iald 18 rfl o14 o15 ?_
      refine z_goto 19 36 rfl (by decide) ?_
      exact z_iret 21 rfl rfl rfl ⟨rfl, rfl⟩ ⟨_, rfl, B⟩
theorem cn_X10_air {G : zG} {d : Nat} {h : zMem} {Q : Int32 → zMem → Prop} {a0 : Nat} {x1 : Int32} {x2 : Int32} (B : zg G mX10_air (d + 1) 0 [.ref a0, .int x1, .int x2] [] h (zPI Q)) : zConI G mX10_air (d + 1) [.ref a0, .int x1, .int x2] h Q := zcon0 (by decide +kernel) eX10_air (Nat.le_of_ble_eq_true rfl) rfl B
set_option maxRecDepth 100000 in
set_option maxHeartbeats 4000000 in
theorem sg_X10_mark_0 {G : zG} {d : Nat} {h : zMem} {Q : Int32 → zMem → Prop} {a0 : Nat} {x1 : Int32} {x2 : Int32} (B : zO h a0 9 ∧ ∃ Q2 : Int32 → zMem → Prop, zConI G mX10_isMonk d [.ref a0, .int x1] (zsI h a0 0 (0 : Int32)) Q2 ∧ (∀ v5 h3, Q2 v5 h3 → (v5 = 0 → Q (-1 : Int32) h3) ∧ (¬ v5 = 0 → zO h3 a0 9 ∧ ∃ Q7 : Int32 → zMem → Prop, zConI G mX10_isDay d [.ref a0, .int x2] h3 Q7 ∧ (∀ v10 h8, Q7 v10 h8 → (v10 = 0 → Q (-1 : Int32) h8) ∧ (¬ v10 = 0 → zO h8 a0 9 ∧ ∃ Q12 : Int32 → zMem → Prop, zConI G mX10_markOf d [.ref a0, .int (0 : Int32), .int x1, .int x2] h8 Q12 ∧ (∀ v15 h13, Q12 v15 h13 → Q v15 h13)))))) : zg G mX10_mark (d + 1) 0 [.ref a0, .int x1, .int x2] [] h (zPI Q) := by
  refine z_aload_n 0 rfl rfl ?_
  refine z_iconst (v := 0) 1 rfl (by decide) ?_
  obtain ⟨o1, B⟩ := B
  refine z_putI 2 rfl lX10_160 ⟨_, _, _, rfl, rfl⟩ rfl rfl rfl o1 ?_
  refine z_aload_n 3 rfl rfl ?_
  refine z_iload_n 4 rfl rfl ?_
  obtain ⟨Q2, K4, B⟩ := B
  refine z_cVI1 (ν := mX10_isMonk) 5 rfl rfl fX10_isMonk gX10_415 ⟨_, rfl, rfl⟩ (by decide) o1 (Nat.le_of_ble_eq_true rfl) K4 (fun v5 h3 q => ?_)
  have B := B v5 h3 q
  refine z_if_eq 6 31 rfl (by decide) ⟨fun c6 => ?_, fun c6 => ?_⟩
  · have B := B.1 c6
    refine z_iconst (v := -1) 17 rfl (by decide) ?_
    exact z_iret 18 rfl rfl rfl ⟨rfl, rfl⟩ ⟨_, rfl, B⟩
  · have B := B.2 c6
    refine z_aload_n 7 rfl rfl ?_
    refine z_iload_n 8 rfl rfl ?_
    obtain ⟨o17, B⟩ := B
    obtain ⟨Q7, K9, B⟩ := B
    refine z_cVI1 (ν := mX10_isDay) 9 rfl rfl fX10_isDay gX10_424 ⟨_, rfl, rfl⟩ (by decide) o17 (Nat.le_of_ble_eq_true rfl) K9 (fun v10 h8 q => ?_)
    have B := B v10 h8 q
    refine z_if_eq 10 31 rfl (by decide) ⟨fun c11 => ?_, fun c11 => ?_⟩
    · have B := B.1 c11
      refine z_iconst (v := -1) 17 rfl (by decide) ?_
      exact z_iret 18 rfl rfl rfl ⟨rfl, rfl⟩ ⟨_, rfl, B⟩
    · have B := B.2 c11
      refine z_aload_n 11 rfl rfl ?_
      refine z_iconst (v := 0) 12 rfl (by decide) ?_
      refine z_iload_n 13 rfl rfl ?_
      refine z_iload_n 14 rfl rfl ?_
      obtain ⟨o16, B⟩ := B
      obtain ⟨Q12, K14, B⟩ := B
      refine z_cVI3 (ν := mX10_markOf) 15 rfl rfl fX10_markOf gX10_397 ⟨_, rfl, rfl⟩ (by decide) o16 (Nat.le_of_ble_eq_true rfl) K14 (fun v15 h13 q => ?_)
      have B := B v15 h13 q
      refine z_goto 16 32 rfl (by decide) ?_
      exact z_iret 18 rfl rfl rfl ⟨rfl, rfl⟩ ⟨_, rfl, B⟩
theorem cn_X10_mark {G : zG} {d : Nat} {h : zMem} {Q : Int32 → zMem → Prop} {a0 : Nat} {x1 : Int32} {x2 : Int32} (B : zg G mX10_mark (d + 1) 0 [.ref a0, .int x1, .int x2] [] h (zPI Q)) : zConI G mX10_mark (d + 1) [.ref a0, .int x1, .int x2] h Q := zcon0 (by decide +kernel) eX10_mark (Nat.le_of_ble_eq_true rfl) rfl B
