set_option maxRecDepth 100000 in
set_option maxHeartbeats 4000000 in
theorem sg_X10_copies_0 {G : zG} {d : Nat} {h : zMem} {Q : zMem → Prop} {a0 : Nat} {x1 : Int32} {x2 : Int32} (B : zO h a0 9 ∧ ∃ r2, zR h a0 34 = some r2 ∧ zO h r2 100 ∧ vp_in x2 (zLen h r2) ∧ vp_in x1 (zLen h r2) ∧ ∃ r6, zR h a0 35 = some r6 ∧ zO h r6 100 ∧ vp_in x2 (zLen h r6) ∧ vp_in x1 (zLen h r6) ∧ ∃ r10, zR h a0 36 = some r10 ∧ zO h r10 100 ∧ vp_in x2 (zLen h r10) ∧ vp_in x1 (zLen h r10) ∧ ∃ r14, zR h a0 37 = some r14 ∧ zO h r14 100 ∧ vp_in x2 (zLen h r14) ∧ vp_in x1 (zLen h r14) ∧ ∃ r18, zR h a0 38 = some r18 ∧ zO h r18 100 ∧ vp_in x2 (zLen h r18) ∧ vp_in x1 (zLen h r18) ∧ zg G mX10_copies d 62 [.ref a0, .int x1, .int x2, .int (0 : Int32)] [] (zsI (zsI (zsI (zsI (zsI h r2 x1.toNatClampNeg (zI h r2 x2.toNatClampNeg)) r6 x1.toNatClampNeg (zI (zsI h r2 x1.toNatClampNeg (zI h r2 x2.toNatClampNeg)) r6 x2.toNatClampNeg)) r10 x1.toNatClampNeg (zI (zsI (zsI h r2 x1.toNatClampNeg (zI h r2 x2.toNatClampNeg)) r6 x1.toNatClampNeg (zI (zsI h r2 x1.toNatClampNeg (zI h r2 x2.toNatClampNeg)) r6 x2.toNatClampNeg)) r10 x2.toNatClampNeg)) r14 x1.toNatClampNeg (zI (zsI (zsI (zsI h r2 x1.toNatClampNeg (zI h r2 x2.toNatClampNeg)) r6 x1.toNatClampNeg (zI (zsI h r2 x1.toNatClampNeg (zI h r2 x2.toNatClampNeg)) r6 x2.toNatClampNeg)) r10 x1.toNatClampNeg (zI (zsI (zsI h r2 x1.toNatClampNeg (zI h r2 x2.toNatClampNeg)) r6 x1.toNatClampNeg (zI (zsI h r2 x1.toNatClampNeg (zI h r2 x2.toNatClampNeg)) r6 x2.toNatClampNeg)) r10 x2.toNatClampNeg)) r14 x2.toNatClampNeg)) r18 x1.toNatClampNeg (zI (zsI (zsI (zsI (zsI h r2 x1.toNatClampNeg (zI h r2 x2.toNatClampNeg)) r6 x1.toNatClampNeg (zI (zsI h r2 x1.toNatClampNeg (zI h r2 x2.toNatClampNeg)) r6 x2.toNatClampNeg)) r10 x1.toNatClampNeg (zI (zsI (zsI h r2 x1.toNatClampNeg (zI h r2 x2.toNatClampNeg)) r6 x1.toNatClampNeg (zI (zsI h r2 x1.toNatClampNeg (zI h r2 x2.toNatClampNeg)) r6 x2.toNatClampNeg)) r10 x2.toNatClampNeg)) r14 x1.toNatClampNeg (zI (zsI (zsI (zsI h r2 x1.toNatClampNeg (zI h r2 x2.toNatClampNeg)) r6 x1.toNatClampNeg (zI (zsI h r2 x1.toNatClampNeg (zI h r2 x2.toNatClampNeg)) r6 x2.toNatClampNeg)) r10 x1.toNatClampNeg (zI (zsI (zsI h r2 x1.toNatClampNeg (zI h r2 x2.toNatClampNeg)) r6 x1.toNatClampNeg (zI (zsI h r2 x1.toNatClampNeg (zI h r2 x2.toNatClampNeg)) r6 x2.toNatClampNeg)) r10 x2.toNatClampNeg)) r14 x2.toNatClampNeg)) r18 x2.toNatClampNeg)) (zPV Q)) : zg G mX10_copies d 0 [.ref a0, .int x1, .int x2, zU] [] h (zPV Q) := by
  refine z_aload_n 0 rfl rfl ?_
  obtain ⟨o1, B⟩ := B
  obtain ⟨r2, hr2, B⟩ := B
  refine z_getR 1 rfl lX10_69 rfl o1 hr2 ?_
  refine z_iload_n 2 rfl rfl ?_
  refine z_aload_n 3 rfl rfl ?_
  refine z_getR 4 rfl lX10_69 rfl o1 hr2 ?_
  refine z_iload_n 5 rfl rfl ?_
  obtain ⟨o3, B⟩ := B
  obtain ⟨o4, B⟩ := B
  refine z_iald 6 rfl o3 o4 ?_
  obtain ⟨o5, B⟩ := B
  refine z_iast 7 rfl o3 o5 ?_
  refine z_aload_n 8 rfl rfl ?_
  obtain ⟨r6, hr6, B⟩ := B
  refine z_getR 9 rfl lX10_72 rfl o1 hr6 ?_
  refine z_iload_n 10 rfl rfl ?_
  refine z_aload_n 11 rfl rfl ?_
  refine z_getR 12 rfl lX10_72 rfl o1 hr6 ?_
  refine z_iload_n 13 rfl rfl ?_
  obtain ⟨o7, B⟩ := B
  obtain ⟨o8, B⟩ := B
  refine z_iald 14 rfl o7 o8 ?_
  obtain ⟨o9, B⟩ := B
  refine z_iast 15 rfl o7 o9 ?_
  refine z_aload_n 16 rfl rfl ?_
  obtain ⟨r10, hr10, B⟩ := B
  refine z_getR 17 rfl lX10_75 rfl o1 hr10 ?_
  refine z_iload_n 18 rfl rfl ?_
  refine z_aload_n 19 rfl rfl ?_
  refine z_getR 20 rfl lX10_75 rfl o1 hr10 ?_
  refine z_iload_n 21 rfl rfl ?_
  obtain ⟨o11, B⟩ := B
  obtain ⟨o12, B⟩ := B
  refine z_iald 22 rfl o11 o12 ?_
  obtain ⟨o13, B⟩ := B
  refine z_iast 23 rfl o11 o13 ?_
  refine z_aload_n 24 rfl rfl ?_
  obtain ⟨r14, hr14, B⟩ := B
  refine z_getR 25 rfl lX10_78 rfl o1 hr14 ?_
  refine z_iload_n 26 rfl rfl ?_
  refine z_aload_n 27 rfl rfl ?_
  refine z_getR 28 rfl lX10_78 rfl o1 hr14 ?_
  refine z_iload_n 29 rfl rfl ?_
  obtain ⟨o15, B⟩ := B
  obtain ⟨o16, B⟩ := B
  refine z_iald 30 rfl o15 o16 ?_
  obtain ⟨o17, B⟩ := B
  refine z_iast 31 rfl o15 o17 ?_
  refine z_aload_n 32 rfl rfl ?_
  obtain ⟨r18, hr18, B⟩ := B
  refine z_getR 33 rfl lX10_81 rfl o1 hr18 ?_
  refine z_iload_n 34 rfl rfl ?_
  refine z_aload_n 35 rfl rfl ?_
  refine z_getR 36 rfl lX10_81 rfl o1 hr18 ?_
  refine z_iload_n 37 rfl rfl ?_
  obtain ⟨o19, B⟩ := B
  obtain ⟨o20, B⟩ := B
  refine z_iald 38 rfl o19 o20 ?_
  obtain ⟨o21, B⟩ := B
  refine z_iast 39 rfl o19 o21 ?_
  refine z_iconst (v := 0) 40 rfl (by decide) ?_
  refine z_istore_n 41 rfl (by decide) rfl ?_
  exact B
theorem cn_X10_copies {G : zG} {d : Nat} {h : zMem} {Q : zMem → Prop} {a0 : Nat} {x1 : Int32} {x2 : Int32} (B : zg G mX10_copies d 0 [.ref a0, .int x1, .int x2, zU] [] h (zPV Q)) : zConV G mX10_copies d [.ref a0, .int x1, .int x2] h Q := zcon0 (by decide +kernel) eX10_copies (Nat.le_of_ble_eq_true rfl) rfl B
set_option maxRecDepth 100000 in
set_option maxHeartbeats 4000000 in
theorem sg_X10_copies_62 {G : zG} {d : Nat} {h : zMem} {Q : zMem → Prop} {a0 : Nat} {x1 : Int32} {x2 : Int32} {x3 : Int32} (B : ((6 : Int32) ≤ x3 → zg G mX10_copies d 120 [.ref a0, .int x1, .int x2, .int (0 : Int32)] [] h (zPV Q)) ∧ (¬ (6 : Int32) ≤ x3 → zO h a0 9 ∧ ∃ r3, zR h a0 39 = some r3 ∧ zO h r3 100 ∧ vp_in (((6 : Int32) * x2) + x3) (zLen h r3) ∧ vp_in (((6 : Int32) * x1) + x3) (zLen h r3) ∧ ∃ r7, zR h a0 40 = some r7 ∧ zO h r7 100 ∧ vp_in (((6 : Int32) * x2) + x3) (zLen h r7) ∧ vp_in (((6 : Int32) * x1) + x3) (zLen h r7) ∧ zg G mX10_copies d 62 [.ref a0, .int x1, .int x2, .int (x3 + 1)] [] (zsI (zsI h r3 (((6 : Int32) * x1) + x3).toNatClampNeg (zI h r3 (((6 : Int32) * x2) + x3).toNatClampNeg)) r7 (((6 : Int32) * x1) + x3).toNatClampNeg (zI (zsI h r3 (((6 : Int32) * x1) + x3).toNatClampNeg (zI h r3 (((6 : Int32) * x2) + x3).toNatClampNeg)) r7 (((6 : Int32) * x2) + x3).toNatClampNeg)) (zPV Q))) : zg G mX10_copies d 62 [.ref a0, .int x1, .int x2, .int x3] [] h (zPV Q) := by
  refine z_iload_n 42 rfl rfl ?_
  refine z_bipush (v := 6) 43 rfl (by decide) ?_
  refine z_icmp_ge 44 118 rfl (by decide) ⟨fun c1 => ?_, fun c1 => ?_⟩
  · have B := B.1 c1
    refine z_iconst (v := 0) 79 rfl (by decide) ?_
    refine z_istore_n 80 rfl (by decide) rfl ?_
    exact B
  · have B := B.2 c1
    refine z_aload_n 45 rfl rfl ?_
    obtain ⟨o2, B⟩ := B
    obtain ⟨r3, hr3, B⟩ := B
    refine z_getR 46 rfl lX10_84 rfl o2 hr3 ?_
    refine z_bipush (v := 6) 47 rfl (by decide) ?_
    refine z_iload_n 48 rfl rfl ?_
    refine z_imul 49 rfl ?_
    refine z_iload_n 50 rfl rfl ?_
    refine z_iadd 51 rfl ?_
    refine z_aload_n 52 rfl rfl ?_
    refine z_getR 53 rfl lX10_84 rfl o2 hr3 ?_
    refine z_bipush (v := 6) 54 rfl (by decide) ?_
    refine z_iload_n 55 rfl rfl ?_
    refine z_imul 56 rfl ?_
    refine z_iload_n 57 rfl rfl ?_
    refine z_iadd 58 rfl ?_
    obtain ⟨o4, B⟩ := B
    obtain ⟨o5, B⟩ := B
    refine z_iald 59 rfl o4 o5 ?_
    obtain ⟨o6, B⟩ := B
    refine z_iast 60 rfl o4 o6 ?_
    refine z_aload_n 61 rfl rfl ?_
    obtain ⟨r7, hr7, B⟩ := B
    refine z_getR 62 rfl lX10_87 rfl o2 hr7 ?_
    refine z_bipush (v := 6) 63 rfl (by decide) ?_
    refine z_iload_n 64 rfl rfl ?_
    refine z_imul 65 rfl ?_
    refine z_iload_n 66 rfl rfl ?_
    refine z_iadd 67 rfl ?_
    refine z_aload_n 68 rfl rfl ?_
    refine z_getR 69 rfl lX10_87 rfl o2 hr7 ?_
    refine z_bipush (v := 6) 70 rfl (by decide) ?_
    refine z_iload_n 71 rfl rfl ?_
    refine z_imul 72 rfl ?_
    refine z_iload_n 73 rfl rfl ?_
    refine z_iadd 74 rfl ?_
    obtain ⟨o8, B⟩ := B
    obtain ⟨o9, B⟩ := B
    refine z_iald 75 rfl o8 o9 ?_
    obtain ⟨o10, B⟩ := B
    refine z_iast 76 rfl o8 o10 ?_
    refine z_iinc (v := 1) 77 rfl rfl (by decide) (by decide) rfl ?_
    refine z_goto 78 62 rfl (by decide) ?_
    exact B
set_option maxRecDepth 100000 in
set_option maxHeartbeats 4000000 in
theorem sg_X10_copies_120 {G : zG} {d : Nat} {h : zMem} {Q : zMem → Prop} {a0 : Nat} {x1 : Int32} {x2 : Int32} {x3 : Int32} (B : ((36 : Int32) ≤ x3 → zg G mX10_copies d 156 [.ref a0, .int x1, .int x2, .int (0 : Int32)] [] h (zPV Q)) ∧ (¬ (36 : Int32) ≤ x3 → zO h a0 9 ∧ ∃ r3, zR h a0 41 = some r3 ∧ zO h r3 100 ∧ vp_in (((36 : Int32) * x2) + x3) (zLen h r3) ∧ vp_in (((36 : Int32) * x1) + x3) (zLen h r3) ∧ zg G mX10_copies d 120 [.ref a0, .int x1, .int x2, .int (x3 + 1)] [] (zsI h r3 (((36 : Int32) * x1) + x3).toNatClampNeg (zI h r3 (((36 : Int32) * x2) + x3).toNatClampNeg)) (zPV Q))) : zg G mX10_copies d 120 [.ref a0, .int x1, .int x2, .int x3] [] h (zPV Q) := by
  refine z_iload_n 81 rfl rfl ?_
  refine z_bipush (v := 36) 82 rfl (by decide) ?_
  refine z_icmp_ge 83 154 rfl (by decide) ⟨fun c1 => ?_, fun c1 => ?_⟩
  · have B := B.1 c1
    refine z_iconst (v := 0) 102 rfl (by decide) ?_
    refine z_istore_n 103 rfl (by decide) rfl ?_
    exact B
  · have B := B.2 c1
    refine z_aload_n 84 rfl rfl ?_
    obtain ⟨o2, B⟩ := B
    obtain ⟨r3, hr3, B⟩ := B
    refine z_getR 85 rfl lX10_90 rfl o2 hr3 ?_
    refine z_bipush (v := 36) 86 rfl (by decide) ?_
    refine z_iload_n 87 rfl rfl ?_
    refine z_imul 88 rfl ?_
    refine z_iload_n 89 rfl rfl ?_
    refine z_iadd 90 rfl ?_
    refine z_aload_n 91 rfl rfl ?_
    refine z_getR 92 rfl lX10_90 rfl o2 hr3 ?_
    refine z_bipush (v := 36) 93 rfl (by decide) ?_
    refine z_iload_n 94 rfl rfl ?_
    refine z_imul 95 rfl ?_
    refine z_iload_n 96 rfl rfl ?_
    refine z_iadd 97 rfl ?_
    obtain ⟨o4, B⟩ := B
    obtain ⟨o5, B⟩ := B
    refine z_iald 98 rfl o4 o5 ?_
    obtain ⟨o6, B⟩ := B
    refine z_iast 99 rfl o4 o6 ?_
    refine z_iinc (v := 1) 100 rfl rfl (by decide) (by decide) rfl ?_
    refine z_goto 101 120 rfl (by decide) ?_
    exact B
set_option maxRecDepth 100000 in
set_option maxHeartbeats 4000000 in
theorem sg_X10_copies_156 {G : zG} {d : Nat} {h : zMem} {Q : zMem → Prop} {a0 : Nat} {x1 : Int32} {x2 : Int32} {x3 : Int32} (B : ((5 : Int32) ≤ x3 → Q h) ∧ (¬ (5 : Int32) ≤ x3 → zO h a0 9 ∧ ∃ r3, zR h a0 42 = some r3 ∧ zO h r3 100 ∧ vp_in (((5 : Int32) * x2) + x3) (zLen h r3) ∧ vp_in (((5 : Int32) * x1) + x3) (zLen h r3) ∧ ∃ r7, zR h a0 43 = some r7 ∧ zO h r7 100 ∧ vp_in (((5 : Int32) * x2) + x3) (zLen h r7) ∧ vp_in (((5 : Int32) * x1) + x3) (zLen h r7) ∧ ∃ r11, zR h a0 44 = some r11 ∧ zO h r11 100 ∧ vp_in (((5 : Int32) * x2) + x3) (zLen h r11) ∧ vp_in (((5 : Int32) * x1) + x3) (zLen h r11) ∧ ∃ r15, zR h a0 45 = some r15 ∧ zO h r15 100 ∧ vp_in (((5 : Int32) * x2) + x3) (zLen h r15) ∧ vp_in (((5 : Int32) * x1) + x3) (zLen h r15) ∧ zg G mX10_copies d 156 [.ref a0, .int x1, .int x2, .int (x3 + 1)] [] (zsI (zsI (zsI (zsI h r3 (((5 : Int32) * x1) + x3).toNatClampNeg (zI h r3 (((5 : Int32) * x2) + x3).toNatClampNeg)) r7 (((5 : Int32) * x1) + x3).toNatClampNeg (zI (zsI h r3 (((5 : Int32) * x1) + x3).toNatClampNeg (zI h r3 (((5 : Int32) * x2) + x3).toNatClampNeg)) r7 (((5 : Int32) * x2) + x3).toNatClampNeg)) r11 (((5 : Int32) * x1) + x3).toNatClampNeg (zI (zsI (zsI h r3 (((5 : Int32) * x1) + x3).toNatClampNeg (zI h r3 (((5 : Int32) * x2) + x3).toNatClampNeg)) r7 (((5 : Int32) * x1) + x3).toNatClampNeg (zI (zsI h r3 (((5 : Int32) * x1) + x3).toNatClampNeg (zI h r3 (((5 : Int32) * x2) + x3).toNatClampNeg)) r7 (((5 : Int32) * x2) + x3).toNatClampNeg)) r11 (((5 : Int32) * x2) + x3).toNatClampNeg)) r15 (((5 : Int32) * x1) + x3).toNatClampNeg (zI (zsI (zsI (zsI h r3 (((5 : Int32) * x1) + x3).toNatClampNeg (zI h r3 (((5 : Int32) * x2) + x3).toNatClampNeg)) r7 (((5 : Int32) * x1) + x3).toNatClampNeg (zI (zsI h r3 (((5 : Int32) * x1) + x3).toNatClampNeg (zI h r3 (((5 : Int32) * x2) + x3).toNatClampNeg)) r7 (((5 : Int32) * x2) + x3).toNatClampNeg)) r11 (((5 : Int32) * x1) + x3).toNatClampNeg (zI (zsI (zsI h r3 (((5 : Int32) * x1) + x3).toNatClampNeg (zI h r3 (((5 : Int32) * x2) + x3).toNatClampNeg)) r7 (((5 : Int32) * x1) + x3).toNatClampNeg (zI (zsI h r3 (((5 : Int32) * x1) + x3).toNatClampNeg (zI h r3 (((5 : Int32) * x2) + x3).toNatClampNeg)) r7 (((5 : Int32) * x2) + x3).toNatClampNeg)) r11 (((5 : Int32) * x2) + x3).toNatClampNeg)) r15 (((5 : Int32) * x2) + x3).toNatClampNeg)) (zPV Q))) : zg G mX10_copies d 156 [.ref a0, .int x1, .int x2, .int x3] [] h (zPV Q) := by
  refine z_iload_n 104 rfl rfl ?_
  refine z_iconst (v := 5) 105 rfl (by decide) ?_
  refine z_icmp_ge 106 247 rfl (by decide) ⟨fun c1 => ?_, fun c1 => ?_⟩
  · have B := B.1 c1
    exact z_vret 173 rfl rfl ⟨rfl, rfl⟩ ⟨rfl, B⟩
  · have B := B.2 c1
    refine z_aload_n 107 rfl rfl ?_
    obtain ⟨o2, B⟩ := B
    obtain ⟨r3, hr3, B⟩ := B
    refine z_getR 108 rfl lX10_93 rfl o2 hr3 ?_
    refine z_iconst (v := 5) 109 rfl (by decide) ?_
    refine z_iload_n 110 rfl rfl ?_
    refine z_imul 111 rfl ?_
    refine z_iload_n 112 rfl rfl ?_
    refine z_iadd 113 rfl ?_
    refine z_aload_n 114 rfl rfl ?_
    refine z_getR 115 rfl lX10_93 rfl o2 hr3 ?_
    refine z_iconst (v := 5) 116 rfl (by decide) ?_
    refine z_iload_n 117 rfl rfl ?_
    refine z_imul 118 rfl ?_
    refine z_iload_n 119 rfl rfl ?_
    refine z_iadd 120 rfl ?_
    obtain ⟨o4, B⟩ := B
    obtain ⟨o5, B⟩ := B
    refine z_iald 121 rfl o4 o5 ?_
    obtain ⟨o6, B⟩ := B
    refine z_iast 122 rfl o4 o6 ?_
    refine z_aload_n 123 rfl rfl ?_
    obtain ⟨r7, hr7, B⟩ := B
    refine z_getR 124 rfl lX10_96 rfl o2 hr7 ?_
    refine z_iconst (v := 5) 125 rfl (by decide) ?_
    refine z_iload_n 126 rfl rfl ?_
    refine z_imul 127 rfl ?_
    refine z_iload_n 128 rfl rfl ?_
    refine z_iadd 129 rfl ?_
    refine z_aload_n 130 rfl rfl ?_
    refine z_getR 131 rfl lX10_96 rfl o2 hr7 ?_
    refine z_iconst (v := 5) 132 rfl (by decide) ?_
    refine z_iload_n 133 rfl rfl ?_
    refine z_imul 134 rfl ?_
    refine z_iload_n 135 rfl rfl ?_
    refine z_iadd 136 rfl ?_
    obtain ⟨o8, B⟩ := B
    obtain ⟨o9, B⟩ := B
    refine z_iald 137 rfl o8 o9 ?_
    obtain ⟨o10, B⟩ := B
    refine z_iast 138 rfl o8 o10 ?_
    refine z_aload_n 139 rfl rfl ?_
    obtain ⟨r11, hr11, B⟩ := B
    refine z_getR 140 rfl lX10_99 rfl o2 hr11 ?_
    refine z_iconst (v := 5) 141 rfl (by decide) ?_
    refine z_iload_n 142 rfl rfl ?_
    refine z_imul 143 rfl ?_
    refine z_iload_n 144 rfl rfl ?_
    refine z_iadd 145 rfl ?_
    refine z_aload_n 146 rfl rfl ?_
    refine z_getR 147 rfl lX10_99 rfl o2 hr11 ?_
    refine z_iconst (v := 5) 148 rfl (by decide) ?_
    refine z_iload_n 149 rfl rfl ?_
    refine z_imul 150 rfl ?_
    refine z_iload_n 151 rfl rfl ?_
    refine z_iadd 152 rfl ?_
    obtain ⟨o12, B⟩ := B
    obtain ⟨o13, B⟩ := B
    refine z_iald 153 rfl o12 o13 ?_
    obtain ⟨o14, B⟩ := B
    refine z_iast 154 rfl o12 o14 ?_
    refine z_aload_n 155 rfl rfl ?_
    obtain ⟨r15, hr15, B⟩ := B
    refine z_getR 156 rfl lX10_102 rfl o2 hr15 ?_
    refine z_iconst (v := 5) 157 rfl (by decide) ?_
    refine z_iload_n 158 rfl rfl ?_
    refine z_imul 159 rfl ?_
    refine z_iload_n 160 rfl rfl ?_
    refine z_iadd 161 rfl ?_
    refine z_aload_n 162 rfl rfl ?_
    refine z_getR 163 rfl lX10_102 rfl o2 hr15 ?_
    refine z_iconst (v := 5) 164 rfl (by decide) ?_
    refine z_iload_n 165 rfl rfl ?_
    refine z_imul 166 rfl ?_
    refine z_iload_n 167 rfl rfl ?_
    refine z_iadd 168 rfl ?_
    obtain ⟨o16, B⟩ := B
    obtain ⟨o17, B⟩ := B
    refine z_iald 169 rfl o16 o17 ?_
    obtain ⟨o18, B⟩ := B
    refine z_iast 170 rfl o16 o18 ?_
    refine z_iinc (v := 1) 171 rfl rfl (by decide) (by decide) rfl ?_
    refine z_goto 172 156 rfl (by decide) ?_
    exact B
set_option maxRecDepth 100000 in
set_option maxHeartbeats 4000000 in
theorem sg_X10_isStuff_0 {G : zG} {d : Nat} {h : zMem} {Q : Int32 → zMem → Prop} {a0 : Nat} {x1 : Int32} (B : (x1 < 0 → Q (0 : Int32) h) ∧ (¬ x1 < 0 → zO h a0 9 ∧ ∃ r3, zR h a0 3 = some r3 ∧ zO h r3 100 ∧ vp_in (0 : Int32) (zLen h r3) ∧ ((zI h r3 (0 : Int32).toNatClampNeg) ≤ x1 → Q (0 : Int32) h) ∧ (¬ (zI h r3 (0 : Int32).toNatClampNeg) ≤ x1 → Q (1 : Int32) h))) : zg G mX10_isStuff d 0 [.ref a0, .int x1] [] h (zPI Q) := by
  refine z_iload_n 0 rfl rfl ?_
  refine z_if_lt 1 18 rfl (by decide) ⟨fun c1 => ?_, fun c1 => ?_⟩
  · have B := B.1 c1
    refine z_iconst (v := 0) 10 rfl (by decide) ?_
    exact z_iret 11 rfl rfl rfl ⟨rfl, rfl⟩ ⟨_, rfl, B⟩
  · have B := B.2 c1
    refine z_iload_n 2 rfl rfl ?_
    refine z_aload_n 3 rfl rfl ?_
    obtain ⟨o2, B⟩ := B
    obtain ⟨r3, hr3, B⟩ := B
    refine z_getR 4 rfl lX10_13 rfl o2 hr3 ?_
    refine z_iconst (v := 0) 5 rfl (by decide) ?_
    obtain ⟨o4, B⟩ := B
    obtain ⟨o5, B⟩ := B
    refine z_iald 6 rfl o4 o5 ?_
    refine z_icmp_ge 7 18 rfl (by decide) ⟨fun c6 => ?_, fun c6 => ?_⟩
    · have B := B.1 c6
      refine z_iconst (v := 0) 10 rfl (by decide) ?_
      exact z_iret 11 rfl rfl rfl ⟨rfl, rfl⟩ ⟨_, rfl, B⟩
    · have B := B.2 c6
      refine z_iconst (v := 1) 8 rfl (by decide) ?_
      refine z_goto 9 19 rfl (by decide) ?_
      exact z_iret 11 rfl rfl rfl ⟨rfl, rfl⟩ ⟨_, rfl, B⟩
theorem cn_X10_isStuff {G : zG} {d : Nat} {h : zMem} {Q : Int32 → zMem → Prop} {a0 : Nat} {x1 : Int32} (B : zg G mX10_isStuff d 0 [.ref a0, .int x1] [] h (zPI Q)) : zConI G mX10_isStuff d [.ref a0, .int x1] h Q := zcon0 (by decide +kernel) eX10_isStuff (Nat.le_of_ble_eq_true rfl) rfl B
set_option maxRecDepth 100000 in
set_option maxHeartbeats 4000000 in
theorem sg_X10_isDay_0 {G : zG} {d : Nat} {h : zMem} {Q : Int32 → zMem → Prop} {a0 : Nat} {x1 : Int32} (B : (x1 < 0 → Q (0 : Int32) h) ∧ (¬ x1 < 0 → zO h a0 9 ∧ ∃ r3, zR h a0 3 = some r3 ∧ zO h r3 100 ∧ vp_in (1 : Int32) (zLen h r3) ∧ ((zI h r3 (1 : Int32).toNatClampNeg) ≤ x1 → Q (0 : Int32) h) ∧ (¬ (zI h r3 (1 : Int32).toNatClampNeg) ≤ x1 → Q (1 : Int32) h))) : zg G mX10_isDay d 0 [.ref a0, .int x1] [] h (zPI Q) := by
  refine z_iload_n 0 rfl rfl ?_
  refine z_if_lt 1 18 rfl (by decide) ⟨fun c1 => ?_, fun c1 => ?_⟩
  · have B := B.1 c1
    refine z_iconst (v := 0) 10 rfl (by decide) ?_
    exact z_iret 11 rfl rfl rfl ⟨rfl, rfl⟩ ⟨_, rfl, B⟩
  · have B := B.2 c1
    refine z_iload_n 2 rfl rfl ?_
    refine z_aload_n 3 rfl rfl ?_
    obtain ⟨o2, B⟩ := B
    obtain ⟨r3, hr3, B⟩ := B
    refine z_getR 4 rfl lX10_13 rfl o2 hr3 ?_
    refine z_iconst (v := 1) 5 rfl (by decide) ?_
    obtain ⟨o4, B⟩ := B
    obtain ⟨o5, B⟩ := B
    refine z_iald 6 rfl o4 o5 ?_
    refine z_icmp_ge 7 18 rfl (by decide) ⟨fun c6 => ?_, fun c6 => ?_⟩
    · have B := B.1 c6
      refine z_iconst (v := 0) 10 rfl (by decide) ?_
      exact z_iret 11 rfl rfl rfl ⟨rfl, rfl⟩ ⟨_, rfl, B⟩
    · have B := B.2 c6
      refine z_iconst (v := 1) 8 rfl (by decide) ?_
      refine z_goto 9 19 rfl (by decide) ?_
      exact z_iret 11 rfl rfl rfl ⟨rfl, rfl⟩ ⟨_, rfl, B⟩
theorem cn_X10_isDay {G : zG} {d : Nat} {h : zMem} {Q : Int32 → zMem → Prop} {a0 : Nat} {x1 : Int32} (B : zg G mX10_isDay d 0 [.ref a0, .int x1] [] h (zPI Q)) : zConI G mX10_isDay d [.ref a0, .int x1] h Q := zcon0 (by decide +kernel) eX10_isDay (Nat.le_of_ble_eq_true rfl) rfl B
set_option maxRecDepth 100000 in
set_option maxHeartbeats 4000000 in
theorem sg_X10_isRoom_0 {G : zG} {d : Nat} {h : zMem} {Q : Int32 → zMem → Prop} {a0 : Nat} {x1 : Int32} (B : (x1 < 0 → Q (0 : Int32) h) ∧ (¬ x1 < 0 → zO h a0 9 ∧ ∃ r3, zR h a0 3 = some r3 ∧ zO h r3 100 ∧ vp_in (3 : Int32) (zLen h r3) ∧ ((zI h r3 (3 : Int32).toNatClampNeg) ≤ x1 → Q (0 : Int32) h) ∧ (¬ (zI h r3 (3 : Int32).toNatClampNeg) ≤ x1 → Q (1 : Int32) h))) : zg G mX10_isRoom d 0 [.ref a0, .int x1] [] h (zPI Q) := by
  refine z_iload_n 0 rfl rfl ?_
  refine z_if_lt 1 18 rfl (by decide) ⟨fun c1 => ?_, fun c1 => ?_⟩
  · have B := B.1 c1
    refine z_iconst (v := 0) 10 rfl (by decide) ?_
    exact z_iret 11 rfl rfl rfl ⟨rfl, rfl⟩ ⟨_, rfl, B⟩
  · have B := B.2 c1
    refine z_iload_n 2 rfl rfl ?_
    refine z_aload_n 3 rfl rfl ?_
    obtain ⟨o2, B⟩ := B
    obtain ⟨r3, hr3, B⟩ := B
    refine z_getR 4 rfl lX10_13 rfl o2 hr3 ?_
    refine z_iconst (v := 3) 5 rfl (by decide) ?_
    obtain ⟨o4, B⟩ := B
    obtain ⟨o5, B⟩ := B
    refine z_iald 6 rfl o4 o5 ?_
    refine z_icmp_ge 7 18 rfl (by decide) ⟨fun c6 => ?_, fun c6 => ?_⟩
    · have B := B.1 c6
      refine z_iconst (v := 0) 10 rfl (by decide) ?_
      exact z_iret 11 rfl rfl rfl ⟨rfl, rfl⟩ ⟨_, rfl, B⟩
    · have B := B.2 c6
      refine z_iconst (v := 1) 8 rfl (by decide) ?_
      refine z_goto 9 19 rfl (by decide) ?_
      exact z_iret 11 rfl rfl rfl ⟨rfl, rfl⟩ ⟨_, rfl, B⟩
theorem cn_X10_isRoom {G : zG} {d : Nat} {h : zMem} {Q : Int32 → zMem → Prop} {a0 : Nat} {x1 : Int32} (B : zg G mX10_isRoom d 0 [.ref a0, .int x1] [] h (zPI Q)) : zConI G mX10_isRoom d [.ref a0, .int x1] h Q := zcon0 (by decide +kernel) eX10_isRoom (Nat.le_of_ble_eq_true rfl) rfl B
set_option maxRecDepth 100000 in
set_option maxHeartbeats 4000000 in
theorem sg_X10_isMonk_0 {G : zG} {d : Nat} {h : zMem} {Q : Int32 → zMem → Prop} {a0 : Nat} {x1 : Int32} (B : (x1 < 0 → Q (0 : Int32) h) ∧ (¬ x1 < 0 → zO h a0 9 ∧ ∃ r3, zR h a0 3 = some r3 ∧ zO h r3 100 ∧ vp_in (4 : Int32) (zLen h r3) ∧ ((zI h r3 (4 : Int32).toNatClampNeg) ≤ x1 → Q (0 : Int32) h) ∧ (¬ (zI h r3 (4 : Int32).toNatClampNeg) ≤ x1 → Q (1 : Int32) h))) : zg G mX10_isMonk d 0 [.ref a0, .int x1] [] h (zPI Q) := by
  refine z_iload_n 0 rfl rfl ?_
  refine z_if_lt 1 18 rfl (by decide) ⟨fun c1 => ?_, fun c1 => ?_⟩
  · have B := B.1 c1
    refine z_iconst (v := 0) 10 rfl (by decide) ?_
    exact z_iret 11 rfl rfl rfl ⟨rfl, rfl⟩ ⟨_, rfl, B⟩
  · have B := B.2 c1
    refine z_iload_n 2 rfl rfl ?_
    refine z_aload_n 3 rfl rfl ?_
    obtain ⟨o2, B⟩ := B
    obtain ⟨r3, hr3, B⟩ := B
    refine z_getR 4 rfl lX10_13 rfl o2 hr3 ?_
    refine z_iconst (v := 4) 5 rfl (by decide) ?_
    obtain ⟨o4, B⟩ := B
    obtain ⟨o5, B⟩ := B
    refine z_iald 6 rfl o4 o5 ?_
    refine z_icmp_ge 7 18 rfl (by decide) ⟨fun c6 => ?_, fun c6 => ?_⟩
    · have B := B.1 c6
      refine z_iconst (v := 0) 10 rfl (by decide) ?_
      exact z_iret 11 rfl rfl rfl ⟨rfl, rfl⟩ ⟨_, rfl, B⟩
    · have B := B.2 c6
      refine z_iconst (v := 1) 8 rfl (by decide) ?_
      refine z_goto 9 19 rfl (by decide) ?_
      exact z_iret 11 rfl rfl rfl ⟨rfl, rfl⟩ ⟨_, rfl, B⟩
theorem cn_X10_isMonk {G : zG} {d : Nat} {h : zMem} {Q : Int32 → zMem → Prop} {a0 : Nat} {x1 : Int32} (B : zg G mX10_isMonk d 0 [.ref a0, .int x1] [] h (zPI Q)) : zConI G mX10_isMonk d [.ref a0, .int x1] h Q := zcon0 (by decide +kernel) eX10_isMonk (Nat.le_of_ble_eq_true rfl) rfl B
set_option maxRecDepth 100000 in
set_option maxHeartbeats 4000000 in
theorem sg_X10_partIn_0 {G : zG} {d : Nat} {h : zMem} {Q : Int32 → zMem → Prop} {a0 : Nat} {x1 : Int32} (B : zO h a0 9 ∧ (¬ (zI h a0 48) = (5 : Int32) → ∃ r3, zR h a0 10 = some r3 ∧ zO h r3 100 ∧ vp_in x1 (zLen h r3) ∧ Q (zI h r3 x1.toNatClampNeg) h) ∧ ((zI h a0 48) = (5 : Int32) → Q (100 : Int32) h)) : zg G mX10_partIn d 0 [.ref a0, .int x1] [] h (zPI Q) := by
  refine z_aload_n 0 rfl rfl ?_
  obtain ⟨o1, B⟩ := B
  refine z_getI 1 rfl lX10_349 rfl o1 ?_
  refine z_iconst (v := 5) 2 rfl (by decide) ?_
  refine z_icmp_ne 3 13 rfl (by decide) ⟨fun c2 => ?_, fun c2 => ?_⟩
  · have B := B.1 c2
    refine z_aload_n 6 rfl rfl ?_
    obtain ⟨r3, hr3, B⟩ := B
    refine z_getR 7 rfl lX10_34 rfl o1 hr3 ?_
    refine z_iload_n 8 rfl rfl ?_
    obtain ⟨o4, B⟩ := B
    obtain ⟨o5, B⟩ := B
    refine z_iald 9 rfl o4 o5 ?_
    exact z_iret 10 rfl rfl rfl ⟨rfl, rfl⟩ ⟨_, rfl, B⟩
  · have B := B.2 c2
    refine z_bipush (v := 100) 4 rfl (by decide) ?_
    refine z_goto 5 19 rfl (by decide) ?_
    exact z_iret 10 rfl rfl rfl ⟨rfl, rfl⟩ ⟨_, rfl, B⟩
theorem cn_X10_partIn {G : zG} {d : Nat} {h : zMem} {Q : Int32 → zMem → Prop} {a0 : Nat} {x1 : Int32} (B : zg G mX10_partIn d 0 [.ref a0, .int x1] [] h (zPI Q)) : zConI G mX10_partIn d [.ref a0, .int x1] h Q := zcon0 (by decide +kernel) eX10_partIn (Nat.le_of_ble_eq_true rfl) rfl B
set_option maxRecDepth 100000 in
set_option maxHeartbeats 4000000 in
theorem sg_X10_mixOf_0 {G : zG} {d : Nat} {h : zMem} {Q : Int32 → zMem → Prop} {a0 : Nat} {x1 : Int32} {x2 : Int32} (B : zO h a0 9 ∧ ((zI h a0 50) = (-1 : Int32) → zg G mX10_mixOf d 18 [.ref a0, .int x1, .int x2, zU] [] h (zPI Q)) ∧ (¬ (zI h a0 50) = (-1 : Int32) → (¬ x2 = (zI h a0 50) → zg G mX10_mixOf d 18 [.ref a0, .int x1, .int x2, zU] [] h (zPI Q)) ∧ (x2 = (zI h a0 50) → Q (0 : Int32) h))) : zg G mX10_mixOf d 0 [.ref a0, .int x1, .int x2, zU] [] h (zPI Q) := by
  refine z_aload_n 0 rfl rfl ?_
  obtain ⟨o1, B⟩ := B
  refine z_getI 1 rfl lX10_108 rfl o1 ?_
  refine z_iconst (v := -1) 2 rfl (by decide) ?_
  refine z_icmp_eq 3 18 rfl (by decide) ⟨fun c2 => ?_, fun c2 => ?_⟩
  · have B := B.1 c2
    exact B
  · have B := B.2 c2
    refine z_iload_n 4 rfl rfl ?_
    refine z_aload_n 5 rfl rfl ?_
    refine z_getI 6 rfl lX10_108 rfl o1 ?_
    refine z_icmp_ne 7 18 rfl (by decide) ⟨fun c3 => ?_, fun c3 => ?_⟩
    · have B := B.1 c3
      exact B
    · have B := B.2 c3
      refine z_iconst (v := 0) 8 rfl (by decide) ?_
      exact z_iret 9 rfl rfl rfl ⟨rfl, rfl⟩ ⟨_, rfl, B⟩
theorem cn_X10_mixOf {G : zG} {d : Nat} {h : zMem} {Q : Int32 → zMem → Prop} {a0 : Nat} {x1 : Int32} {x2 : Int32} (B : zg G mX10_mixOf d 0 [.ref a0, .int x1, .int x2, zU] [] h (zPI Q)) : zConI G mX10_mixOf d [.ref a0, .int x1, .int x2] h Q := zcon0 (by decide +kernel) eX10_mixOf (Nat.le_of_ble_eq_true rfl) rfl B
set_option maxRecDepth 100000 in
set_option maxHeartbeats 4000000 in
theorem sg_X10_mixOf_18 {G : zG} {d : Nat} {h : zMem} {Q : Int32 → zMem → Prop} {a0 : Nat} {x1 : Int32} {x2 : Int32} (B : zO h a0 9 ∧ ∃ r2, zR h a0 8 = some r2 ∧ ((zI h a0 50) = (-1 : Int32) → zO h r2 100 ∧ vp_in (((6 : Int32) * x1) + x2) (zLen h r2) ∧ (¬ x1 = (zI h a0 52) → Q (zI h r2 (((6 : Int32) * x1) + x2).toNatClampNeg) h) ∧ (x1 = (zI h a0 52) → (¬ x2 = (zI h a0 53) → Q (zI h r2 (((6 : Int32) * x1) + x2).toNatClampNeg) h) ∧ (x2 = (zI h a0 53) → Q ((zI h r2 (((6 : Int32) * x1) + x2).toNatClampNeg) + (zI h a0 54)) h))) ∧ (¬ (zI h a0 50) = (-1 : Int32) → (¬ x2 = (zI h a0 51) → zO h r2 100 ∧ vp_in (((6 : Int32) * x1) + x2) (zLen h r2) ∧ (¬ x1 = (zI h a0 52) → Q (zI h r2 (((6 : Int32) * x1) + x2).toNatClampNeg) h) ∧ (x1 = (zI h a0 52) → (¬ x2 = (zI h a0 53) → Q (zI h r2 (((6 : Int32) * x1) + x2).toNatClampNeg) h) ∧ (x2 = (zI h a0 53) → Q ((zI h r2 (((6 : Int32) * x1) + x2).toNatClampNeg) + (zI h a0 54)) h))) ∧ (x2 = (zI h a0 51) → zO h r2 100 ∧ vp_in (((6 : Int32) * x1) + (zI h a0 50)) (zLen h r2) ∧ (¬ x1 = (zI h a0 52) → Q (zI h r2 (((6 : Int32) * x1) + (zI h a0 50)).toNatClampNeg) h) ∧ (x1 = (zI h a0 52) → (¬ x2 = (zI h a0 53) → Q (zI h r2 (((6 : Int32) * x1) + (zI h a0 50)).toNatClampNeg) h) ∧ (x2 = (zI h a0 53) → Q ((zI h r2 (((6 : Int32) * x1) + (zI h a0 50)).toNatClampNeg) + (zI h a0 54)) h))))) : zg G mX10_mixOf d 18 [.ref a0, .int x1, .int x2, zU] [] h (zPI Q) := by
  refine z_aload_n 10 rfl rfl ?_
  obtain ⟨o1, B⟩ := B
  obtain ⟨r2, hr2, B⟩ := B
  refine z_getR 11 rfl lX10_28 rfl o1 hr2 ?_
  refine z_bipush (v := 6) 12 rfl (by decide) ?_
  refine z_iload_n 13 rfl rfl ?_
  refine z_imul 14 rfl ?_
  refine z_aload_n 15 rfl rfl ?_
  refine z_getI 16 rfl lX10_108 rfl o1 ?_
  refine z_iconst (v := -1) 17 rfl (by decide) ?_
  refine z_icmp_eq 18 49 rfl (by decide) ⟨fun c3 => ?_, fun c3 => ?_⟩
  · have B := B.1 c3
    refine z_iload_n 26 rfl rfl ?_
    refine z_iadd 27 rfl ?_
    obtain ⟨o4, B⟩ := B
    obtain ⟨o5, B⟩ := B
    refine z_iald 28 rfl o4 o5 ?_
    refine z_istore_n 29 rfl (by decide) rfl ?_
    refine z_iload_n 30 rfl rfl ?_
    refine z_aload_n 31 rfl rfl ?_
    refine z_getI 32 rfl lX10_114 rfl o1 ?_
    refine z_icmp_ne 33 78 rfl (by decide) ⟨fun c6 => ?_, fun c6 => ?_⟩
    · have B := B.1 c6
      refine z_iload_n 43 rfl rfl ?_
      exact z_iret 44 rfl rfl rfl ⟨rfl, rfl⟩ ⟨_, rfl, B⟩
    · have B := B.2 c6
      refine z_iload_n 34 rfl rfl ?_
      refine z_aload_n 35 rfl rfl ?_
      refine z_getI 36 rfl lX10_117 rfl o1 ?_
      refine z_icmp_ne 37 78 rfl (by decide) ⟨fun c7 => ?_, fun c7 => ?_⟩
      · have B := B.1 c7
        refine z_iload_n 43 rfl rfl ?_
        exact z_iret 44 rfl rfl rfl ⟨rfl, rfl⟩ ⟨_, rfl, B⟩
      · have B := B.2 c7
        refine z_iload_n 38 rfl rfl ?_
        refine z_aload_n 39 rfl rfl ?_
        refine z_getI 40 rfl lX10_352 rfl o1 ?_
        refine z_iadd 41 rfl ?_
        refine z_goto 42 79 rfl (by decide) ?_
        exact z_iret 44 rfl rfl rfl ⟨rfl, rfl⟩ ⟨_, rfl, B⟩
  · have B := B.2 c3
    refine z_iload_n 19 rfl rfl ?_
    refine z_aload_n 20 rfl rfl ?_
    refine z_getI 21 rfl lX10_111 rfl o1 ?_
    refine z_icmp_ne 22 49 rfl (by decide) ⟨fun c8 => ?_, fun c8 => ?_⟩
    · have B := B.1 c8
      refine z_iload_n 26 rfl rfl ?_
      refine z_iadd 27 rfl ?_
      obtain ⟨o9, B⟩ := B
      obtain ⟨o10, B⟩ := B
      refine z_iald 28 rfl o9 o10 ?_
      refine z_istore_n 29 rfl (by decide) rfl ?_
      refine z_iload_n 30 rfl rfl ?_
      refine z_aload_n 31 rfl rfl ?_
      refine z_getI 32 rfl lX10_114 rfl o1 ?_
      refine z_icmp_ne 33 78 rfl (by decide) ⟨fun c11 => ?_, fun c11 => ?_⟩
      · have B := B.1 c11
        refine z_iload_n 43 rfl rfl ?_
        exact z_iret 44 rfl rfl rfl ⟨rfl, rfl⟩ ⟨_, rfl, B⟩
      · have B := B.2 c11
        refine z_iload_n 34 rfl rfl ?_
        refine z_aload_n 35 rfl rfl ?_
        refine z_getI 36 rfl lX10_117 rfl o1 ?_
        refine z_icmp_ne 37 78 rfl (by decide) ⟨fun c12 => ?_, fun c12 => ?_⟩
        · have B := B.1 c12
          refine z_iload_n 43 rfl rfl ?_
          exact z_iret 44 rfl rfl rfl ⟨rfl, rfl⟩ ⟨_, rfl, B⟩
        · have B := B.2 c12
          refine z_iload_n 38 rfl rfl ?_
          refine z_aload_n 39 rfl rfl ?_
          refine z_getI 40 rfl lX10_352 rfl o1 ?_
          refine z_iadd 41 rfl ?_
          refine z_goto 42 79 rfl (by decide) ?_
          exact z_iret 44 rfl rfl rfl ⟨rfl, rfl⟩ ⟨_, rfl, B⟩
    · have B := B.2 c8
      refine z_aload_n 23 rfl rfl ?_
      refine z_getI 24 rfl lX10_108 rfl o1 ?_
      refine z_goto 25 50 rfl (by decide) ?_
      refine z_iadd 27 rfl ?_
      obtain ⟨o13, B⟩ := B
      obtain ⟨o14, B⟩ := B
      refine z_iald 28 rfl o13 o14 ?_
      refine z_istore_n 29 rfl (by decide) rfl ?_
      refine z_iload_n 30 rfl rfl ?_
      refine z_aload_n 31 rfl rfl ?_
      refine z_getI 32 rfl lX10_114 rfl o1 ?_
      refine z_icmp_ne 33 78 rfl (by decide) ⟨fun c15 => ?_, fun c15 => ?_⟩
      · have B := B.1 c15
        refine z_iload_n 43 rfl rfl ?_
        exact z_iret 44 rfl rfl rfl ⟨rfl, rfl⟩ ⟨_, rfl, B⟩
      · have B := B.2 c15
        refine z_iload_n 34 rfl rfl ?_
        refine z_aload_n 35 rfl rfl ?_
        refine z_getI 36 rfl lX10_117 rfl o1 ?_
        refine z_icmp_ne 37 78 rfl (by decide) ⟨fun c16 => ?_, fun c16 => ?_⟩
        · have B := B.1 c16
          refine z_iload_n 43 rfl rfl ?_
          exact z_iret 44 rfl rfl rfl ⟨rfl, rfl⟩ ⟨_, rfl, B⟩
        · have B := B.2 c16
          refine z_iload_n 38 rfl rfl ?_
          refine z_aload_n 39 rfl rfl ?_
          refine z_getI 40 rfl lX10_352 rfl o1 ?_
          refine z_iadd 41 rfl ?_
          refine z_goto 42 79 rfl (by decide) ?_
          exact z_iret 44 rfl rfl rfl ⟨rfl, rfl⟩ ⟨_, rfl, B⟩
set_option maxRecDepth 100000 in
set_option maxHeartbeats 4000000 in
theorem sg_X10_calls_0 {G : zG} {d : Nat} {h : zMem} {Q : zMem → Prop} {a0 : Nat} {x1 : Int32} {x2 : Int32} {x3 : Int32} {x4 : Int32} {x5 : Int32} {x6 : Int32} {x7 : Int32} (B : zO h a0 9 ∧ ∃ r2, zR h a0 31 = some r2 ∧ zO h r2 101 ∧ vp_in (0 : Int32) (zLen h r2) ∧ vp_in (1 : Int32) (zLen h r2) ∧ vp_in (2 : Int32) (zLen h r2) ∧ vp_in (3 : Int32) (zLen h r2) ∧ ∃ r8, zR h a0 34 = some r8 ∧ zO h r8 100 ∧ vp_in x1 (zLen h r8) ∧ vp_in (4 : Int32) (zLen h r2) ∧ vp_in (5 : Int32) (zLen h r2) ∧ vp_in (6 : Int32) (zLen h r2) ∧ Q (zsL (zsL (zsL (zsL (zsL (zsL (zsL h r2 (0 : Int32).toNatClampNeg x2.toInt64) r2 (1 : Int32).toNatClampNeg x3.toInt64) r2 (2 : Int32).toNatClampNeg x4.toInt64) r2 (3 : Int32).toNatClampNeg x5.toInt64) r2 (4 : Int32).toNatClampNeg ((zI (zsL (zsL (zsL (zsL h r2 (0 : Int32).toNatClampNeg x2.toInt64) r2 (1 : Int32).toNatClampNeg x3.toInt64) r2 (2 : Int32).toNatClampNeg x4.toInt64) r2 (3 : Int32).toNatClampNeg x5.toInt64) r8 x1.toNatClampNeg).toInt64)) r2 (5 : Int32).toNatClampNeg x6.toInt64) r2 (6 : Int32).toNatClampNeg x7.toInt64)) : zg G mX10_calls d 0 [.ref a0, .int x1, .int x2, .int x3, .int x4, .int x5, .int x6, .int x7] [] h (zPV Q) := by
  refine z_aload_n 0 rfl rfl ?_
  obtain ⟨o1, B⟩ := B
  obtain ⟨r2, hr2, B⟩ := B
  refine z_getR 1 rfl lX10_62 rfl o1 hr2 ?_
  refine z_iconst (v := 0) 2 rfl (by decide) ?_
  refine z_iload_n 3 rfl rfl ?_
  refine z_i2l 4 rfl ?_
  obtain ⟨o3, B⟩ := B
  obtain ⟨o4, B⟩ := B
  refine z_last 5 rfl o3 o4 ?_
  refine z_aload_n 6 rfl rfl ?_
  refine z_getR 7 rfl lX10_62 rfl o1 hr2 ?_
  refine z_iconst (v := 1) 8 rfl (by decide) ?_
  refine z_iload_n 9 rfl rfl ?_
  refine z_i2l 10 rfl ?_
  obtain ⟨o5, B⟩ := B
  refine z_last 11 rfl o3 o5 ?_
  refine z_aload_n 12 rfl rfl ?_
  refine z_getR 13 rfl lX10_62 rfl o1 hr2 ?_
  refine z_iconst (v := 2) 14 rfl (by decide) ?_
  refine z_iload 15 rfl rfl ?_
  refine z_i2l 16 rfl ?_
  obtain ⟨o6, B⟩ := B
  refine z_last 17 rfl o3 o6 ?_
  refine z_aload_n 18 rfl rfl ?_
  refine z_getR 19 rfl lX10_62 rfl o1 hr2 ?_
  refine z_iconst (v := 3) 20 rfl (by decide) ?_
  refine z_iload 21 rfl rfl ?_
  refine z_i2l 22 rfl ?_
  obtain ⟨o7, B⟩ := B
  refine z_last 23 rfl o3 o7 ?_
  refine z_aload_n 24 rfl rfl ?_
  refine z_getR 25 rfl lX10_62 rfl o1 hr2 ?_
  refine z_iconst (v := 4) 26 rfl (by decide) ?_
  refine z_aload_n 27 rfl rfl ?_
  obtain ⟨r8, hr8, B⟩ := B
  refine z_getR 28 rfl lX10_69 rfl o1 hr8 ?_
  refine z_iload_n 29 rfl rfl ?_
  obtain ⟨o9, B⟩ := B
  obtain ⟨o10, B⟩ := B
  refine z_iald 30 rfl o9 o10 ?_
  refine z_i2l 31 rfl ?_
  obtain ⟨o11, B⟩ := B
  refine z_last 32 rfl o3 o11 ?_
  refine z_aload_n 33 rfl rfl ?_
  refine z_getR 34 rfl lX10_62 rfl o1 hr2 ?_
  refine z_iconst (v := 5) 35 rfl (by decide) ?_
  refine z_iload 36 rfl rfl ?_
  refine z_i2l 37 rfl ?_
  obtain ⟨o12, B⟩ := B
  refine z_last 38 rfl o3 o12 ?_
  refine z_aload_n 39 rfl rfl ?_
  refine z_getR 40 rfl lX10_62 rfl o1 hr2 ?_
  refine z_bipush (v := 6) 41 rfl (by decide) ?_
  refine z_iload 42 rfl rfl ?_
  refine z_i2l 43 rfl ?_
  obtain ⟨o13, B⟩ := B
  refine z_last 44 rfl o3 o13 ?_
  exact z_vret 45 rfl rfl ⟨rfl, rfl⟩ ⟨rfl, B⟩
theorem cn_X10_calls {G : zG} {d : Nat} {h : zMem} {Q : zMem → Prop} {a0 : Nat} {x1 : Int32} {x2 : Int32} {x3 : Int32} {x4 : Int32} {x5 : Int32} {x6 : Int32} {x7 : Int32} (B : zg G mX10_calls d 0 [.ref a0, .int x1, .int x2, .int x3, .int x4, .int x5, .int x6, .int x7] [] h (zPV Q)) : zConV G mX10_calls d [.ref a0, .int x1, .int x2, .int x3, .int x4, .int x5, .int x6, .int x7] h Q := zcon0 (by decide +kernel) eX10_calls (Nat.le_of_ble_eq_true rfl) rfl B
set_option maxRecDepth 100000 in
set_option maxHeartbeats 4000000 in
theorem sg_X10_within_0 {G : zG} {d : Nat} {h : zMem} {Q : Int32 → zMem → Prop} {a0 : Nat} {x1 : Int32} {x2 : Int32} {x3 : Int32} {x4 : Int32} (B : zO h a0 9 ∧ ∃ Q1 : Int32 → zMem → Prop, zConI G mX10_hasLaw d [.ref a0, .int x1] h Q1 ∧ (∀ v4 h2, Q1 v4 h2 → (v4 = 0 → Q x4 h2) ∧ (¬ v4 = 0 → zO h2 a0 9 ∧ ∃ Q6 : Int32 → zMem → Prop, zConI G mX10_comesOut d [.ref a0, .int x1] h2 Q6 ∧ (∀ v9 h7, Q6 v9 h7 → (¬ v9 = 0 → zO h7 a0 9 ∧ ∃ r12, zR h7 a0 32 = some r12 ∧ zO h7 r12 101 ∧ vp_in (0 : Int32) (zLen h7 r12) ∧ Q ((if (if (zL h7 r12 (0 : Int32).toNatClampNeg) < x3.toInt64 then (zL h7 r12 (0 : Int32).toNatClampNeg) else x3.toInt64) < x2.toInt64 then x2.toInt64 else (if (zL h7 r12 (0 : Int32).toNatClampNeg) < x3.toInt64 then (zL h7 r12 (0 : Int32).toNatClampNeg) else x3.toInt64)).toInt32) h7) ∧ (v9 = 0 → Q x4 h7))))) : zg G mX10_within (d + 1) 0 [.ref a0, .int x1, .int x2, .int x3, .int x4] [] h (zPI Q) := by
  refine z_aload_n 0 rfl rfl ?_
  refine z_iload_n 1 rfl rfl ?_
  obtain ⟨o16, B⟩ := B
  obtain ⟨Q1, K3, B⟩ := B
  refine z_cVI1 (ν := mX10_hasLaw) 2 rfl rfl fX10_hasLaw gX10_355 ⟨_, rfl, rfl⟩ (by decide) o16 (Nat.le_of_ble_eq_true rfl) K3 (fun v4 h2 q => ?_)
  have B := B v4 h2 q
  refine z_if_eq 3 16 rfl (by decide) ⟨fun c5 => ?_, fun c5 => ?_⟩
  · have B := B.1 c5
    refine z_iload 8 rfl rfl ?_
    exact z_iret 9 rfl rfl rfl ⟨rfl, rfl⟩ ⟨_, rfl, B⟩
  · have B := B.2 c5
    refine z_aload_n 4 rfl rfl ?_
    refine z_iload_n 5 rfl rfl ?_
    obtain ⟨o15, B⟩ := B
    obtain ⟨Q6, K8, B⟩ := B
    refine z_cVI1 (ν := mX10_comesOut) 6 rfl rfl fX10_comesOut gX10_358 ⟨_, rfl, rfl⟩ (by decide) o15 (Nat.le_of_ble_eq_true rfl) K8 (fun v9 h7 q => ?_)
    have B := B v9 h7 q
    refine z_if_ne 7 19 rfl (by decide) ⟨fun c10 => ?_, fun c10 => ?_⟩
    · have B := B.1 c10
      refine z_iload_n 10 rfl rfl ?_
      refine z_i2l 11 rfl ?_
      refine z_iload_n 12 rfl rfl ?_
      refine z_i2l 13 rfl ?_
      refine z_aload_n 14 rfl rfl ?_
      obtain ⟨o11, B⟩ := B
      obtain ⟨r12, hr12, B⟩ := B
      refine z_getR 15 rfl lX10_66 rfl o11 hr12 ?_
      refine z_iconst (v := 0) 16 rfl (by decide) ?_
      obtain ⟨o13, B⟩ := B
      obtain ⟨o14, B⟩ := B
      refine z_lald 17 rfl o13 o14 ?_
      refine z_lmin 18 rfl rfl gmX10_361 (Nat.le_of_ble_eq_true rfl) ?_
      refine z_lmax 19 rfl rfl gmX10_365 (Nat.le_of_ble_eq_true rfl) ?_
      refine z_l2i 20 rfl ?_
      exact z_iret 21 rfl rfl rfl ⟨rfl, rfl⟩ ⟨_, rfl, B⟩
    · have B := B.2 c10
      refine z_iload 8 rfl rfl ?_
      exact z_iret 9 rfl rfl rfl ⟨rfl, rfl⟩ ⟨_, rfl, B⟩
theorem cn_X10_within {G : zG} {d : Nat} {h : zMem} {Q : Int32 → zMem → Prop} {a0 : Nat} {x1 : Int32} {x2 : Int32} {x3 : Int32} {x4 : Int32} (B : zg G mX10_within (d + 1) 0 [.ref a0, .int x1, .int x2, .int x3, .int x4] [] h (zPI Q)) : zConI G mX10_within (d + 1) [.ref a0, .int x1, .int x2, .int x3, .int x4] h Q := zcon0 (by decide +kernel) eX10_within (Nat.le_of_ble_eq_true rfl) rfl B
set_option maxRecDepth 100000 in
set_option maxHeartbeats 4000000 in
theorem sg_X10_keenIn_0 {G : zG} {d : Nat} {h : zMem} {Q : Int32 → zMem → Prop} {a0 : Nat} {x1 : Int32} {x2 : Int32} {x3 : Int32} (B : zO h a0 9 ∧ ∃ Q1 : Int32 → zMem → Prop, zConI G mX10_partIn d [.ref a0, .int x3] h Q1 ∧ (∀ v4 h2, Q1 v4 h2 → zO h2 a0 9 ∧ ∃ r6, zR h2 a0 13 = some r6 ∧ zO h2 r6 100 ∧ vp_in x2 (zLen h2 r6) ∧ ∃ Q9 : zMem → Prop, zConV G mX10_calls d [.ref a0, .int x1, .int (0 : Int32), .int v4, .int (0 : Int32), .int (0 : Int32), .int x3, .int (zI h2 r6 x2.toNatClampNeg)] h2 Q9 ∧ (∀ h10, Q9 h10 → zO h10 a0 9 ∧ ∃ r13, zR h10 a0 13 = some r13 ∧ zO h10 r13 100 ∧ vp_in x2 (zLen h10 r13) ∧ ∃ Q16 : Int32 → zMem → Prop, zConI G mX10_within d [.ref a0, .int (1 : Int32), .int (1 : Int32), .int (99 : Int32), .int (zI h10 r13 x2.toNatClampNeg)] h10 Q16 ∧ (∀ v19 h17, Q16 v19 h17 → Q v19 h17)))) : zg G mX10_keenIn (d + 1) 0 [.ref a0, .int x1, .int x2, .int x3] [] h (zPI Q) := by
  refine z_aload_n 0 rfl rfl ?_
  refine z_iload_n 1 rfl rfl ?_
  refine z_iconst (v := 0) 2 rfl (by decide) ?_
  refine z_aload_n 3 rfl rfl ?_
  refine z_iload_n 4 rfl rfl ?_
  obtain ⟨o20, B⟩ := B
  obtain ⟨Q1, K3, B⟩ := B
  refine z_cVI1 (ν := mX10_partIn) 5 rfl rfl fX10_partIn gX10_368 ⟨_, rfl, rfl⟩ (by decide) o20 (Nat.le_of_ble_eq_true rfl) K3 (fun v4 h2 q => ?_)
  have B := B v4 h2 q
  refine z_iconst (v := 0) 6 rfl (by decide) ?_
  refine z_iconst (v := 0) 7 rfl (by decide) ?_
  refine z_iload_n 8 rfl rfl ?_
  refine z_aload_n 9 rfl rfl ?_
  obtain ⟨o5, B⟩ := B
  obtain ⟨r6, hr6, B⟩ := B
  refine z_getR 10 rfl lX10_43 rfl o5 hr6 ?_
  refine z_iload_n 11 rfl rfl ?_
  obtain ⟨o7, B⟩ := B
  obtain ⟨o8, B⟩ := B
  refine z_iald 12 rfl o7 o8 ?_
  obtain ⟨Q9, K11, B⟩ := B
  refine z_cVV7 (ν := mX10_calls) 13 rfl rfl fX10_calls gX10_371 ⟨_, rfl, rfl⟩ (by decide) o5 (Nat.le_of_ble_eq_true rfl) K11 (fun h10 q => ?_)
  have B := B h10 q
  refine z_aload_n 14 rfl rfl ?_
  refine z_iconst (v := 1) 15 rfl (by decide) ?_
  refine z_iconst (v := 1) 16 rfl (by decide) ?_
  refine z_bipush (v := 99) 17 rfl (by decide) ?_
  refine z_aload_n 18 rfl rfl ?_
  obtain ⟨o12, B⟩ := B
  obtain ⟨r13, hr13, B⟩ := B
  refine z_getR 19 rfl lX10_43 rfl o12 hr13 ?_
  refine z_iload_n 20 rfl rfl ?_
  obtain ⟨o14, B⟩ := B
  obtain ⟨o15, B⟩ := B
  refine z_iald 21 rfl o14 o15 ?_
  obtain ⟨Q16, K18, B⟩ := B
  refine z_cVI4 (ν := mX10_within) 22 rfl rfl fX10_within gX10_375 ⟨_, rfl, rfl⟩ (by decide) o12 (Nat.le_of_ble_eq_true rfl) K18 (fun v19 h17 q => ?_)
  have B := B v19 h17 q
  exact z_iret 23 rfl rfl rfl ⟨rfl, rfl⟩ ⟨_, rfl, B⟩
theorem cn_X10_keenIn {G : zG} {d : Nat} {h : zMem} {Q : Int32 → zMem → Prop} {a0 : Nat} {x1 : Int32} {x2 : Int32} {x3 : Int32} (B : zg G mX10_keenIn (d + 1) 0 [.ref a0, .int x1, .int x2, .int x3] [] h (zPI Q)) : zConI G mX10_keenIn (d + 1) [.ref a0, .int x1, .int x2, .int x3] h Q := zcon0 (by decide +kernel) eX10_keenIn (Nat.le_of_ble_eq_true rfl) rfl B
set_option maxRecDepth 100000 in
set_option maxHeartbeats 4000000 in
theorem sg_X10_keenOf_0 {G : zG} {d : Nat} {h : zMem} {Q : Int32 → zMem → Prop} {a0 : Nat} {x1 : Int32} {x2 : Int32} (B : zO h a0 9 ∧ ∃ r2, zR h a0 42 = some r2 ∧ zO h r2 100 ∧ vp_in (((5 : Int32) * x1) + x2) (zLen h r2) ∧ ∃ Q5 : Int32 → zMem → Prop, zConI G mX10_keenIn d [.ref a0, .int x1, .int x2, .int (zI h r2 (((5 : Int32) * x1) + x2).toNatClampNeg)] h Q5 ∧ (∀ v8 h6, Q5 v8 h6 → Q v8 h6)) : zg G mX10_keenOf (d + 1) 0 [.ref a0, .int x1, .int x2] [] h (zPI Q) := by
  refine z_aload_n 0 rfl rfl ?_
  refine z_iload_n 1 rfl rfl ?_
  refine z_iload_n 2 rfl rfl ?_
  refine z_aload_n 3 rfl rfl ?_
  obtain ⟨o1, B⟩ := B
  obtain ⟨r2, hr2, B⟩ := B
  refine z_getR 4 rfl lX10_93 rfl o1 hr2 ?_
  refine z_iconst (v := 5) 5 rfl (by decide) ?_
  refine z_iload_n 6 rfl rfl ?_
  refine z_imul 7 rfl ?_
  refine z_iload_n 8 rfl rfl ?_
  refine z_iadd 9 rfl ?_
  obtain ⟨o3, B⟩ := B
  obtain ⟨o4, B⟩ := B
  refine z_iald 10 rfl o3 o4 ?_
  obtain ⟨Q5, K7, B⟩ := B
  refine z_cVI3 (ν := mX10_keenIn) 11 rfl rfl fX10_keenIn gX10_379 ⟨_, rfl, rfl⟩ (by decide) o1 (Nat.le_of_ble_eq_true rfl) K7 (fun v8 h6 q => ?_)
  have B := B v8 h6 q
  exact z_iret 12 rfl rfl rfl ⟨rfl, rfl⟩ ⟨_, rfl, B⟩
theorem cn_X10_keenOf {G : zG} {d : Nat} {h : zMem} {Q : Int32 → zMem → Prop} {a0 : Nat} {x1 : Int32} {x2 : Int32} (B : zg G mX10_keenOf (d + 1) 0 [.ref a0, .int x1, .int x2] [] h (zPI Q)) : zConI G mX10_keenOf (d + 1) [.ref a0, .int x1, .int x2] h Q := zcon0 (by decide +kernel) eX10_keenOf (Nat.le_of_ble_eq_true rfl) rfl B
set_option maxRecDepth 100000 in
set_option maxHeartbeats 4000000 in
theorem sg_X10_coldsOf_0 {G : zG} {d : Nat} {h : zMem} {Q : Int32 → zMem → Prop} {a0 : Nat} {x1 : Int32} {x2 : Int32} (B : zO h a0 9 ∧ (¬ (zI h a0 48) = (2 : Int32) → ∃ r3, zR h a0 43 = some r3 ∧ zO h r3 100 ∧ vp_in (((5 : Int32) * x1) + x2) (zLen h r3) ∧ Q (zI h r3 (((5 : Int32) * x1) + x2).toNatClampNeg) h) ∧ ((zI h a0 48) = (2 : Int32) → Q (0 : Int32) h)) : zg G mX10_coldsOf d 0 [.ref a0, .int x1, .int x2] [] h (zPI Q) := by
  refine z_aload_n 0 rfl rfl ?_
  obtain ⟨o1, B⟩ := B
  refine z_getI 1 rfl lX10_349 rfl o1 ?_
  refine z_iconst (v := 2) 2 rfl (by decide) ?_
  refine z_icmp_ne 3 12 rfl (by decide) ⟨fun c2 => ?_, fun c2 => ?_⟩
  · have B := B.1 c2
    refine z_aload_n 6 rfl rfl ?_
    obtain ⟨r3, hr3, B⟩ := B
    refine z_getR 7 rfl lX10_96 rfl o1 hr3 ?_
    refine z_iconst (v := 5) 8 rfl (by decide) ?_
    refine z_iload_n 9 rfl rfl ?_
    refine z_imul 10 rfl ?_
    refine z_iload_n 11 rfl rfl ?_
    refine z_iadd 12 rfl ?_
    obtain ⟨o4, B⟩ := B
    obtain ⟨o5, B⟩ := B
    refine z_iald 13 rfl o4 o5 ?_
    exact z_iret 14 rfl rfl rfl ⟨rfl, rfl⟩ ⟨_, rfl, B⟩
  · have B := B.2 c2
    refine z_iconst (v := 0) 4 rfl (by decide) ?_
    refine z_goto 5 22 rfl (by decide) ?_
    exact z_iret 14 rfl rfl rfl ⟨rfl, rfl⟩ ⟨_, rfl, B⟩
theorem cn_X10_coldsOf {G : zG} {d : Nat} {h : zMem} {Q : Int32 → zMem → Prop} {a0 : Nat} {x1 : Int32} {x2 : Int32} (B : zg G mX10_coldsOf d 0 [.ref a0, .int x1, .int x2] [] h (zPI Q)) : zConI G mX10_coldsOf d [.ref a0, .int x1, .int x2] h Q := zcon0 (by decide +kernel) eX10_coldsOf (Nat.le_of_ble_eq_true rfl) rfl B
set_option maxRecDepth 100000 in
set_option maxHeartbeats 4000000 in
theorem sg_X10_worthOf_0 {G : zG} {d : Nat} {h : zMem} {Q : Int32 → zMem → Prop} {a0 : Nat} {x1 : Int32} {x2 : Int32} (B : zO h a0 9 ∧ ∃ r2, zR h a0 39 = some r2 ∧ zO h r2 100 ∧ vp_in (((6 : Int32) * x1) + x2) (zLen h r2) ∧ ∃ Q5 : zMem → Prop, zConV G mX10_calls d [.ref a0, .int x1, .int (zI h r2 (((6 : Int32) * x1) + x2).toNatClampNeg), .int (0 : Int32), .int (0 : Int32), .int (0 : Int32), .int (0 : Int32), .int (0 : Int32)] h Q5 ∧ (∀ h6, Q5 h6 → zO h6 a0 9 ∧ ∃ Q8 : Int32 → zMem → Prop, zConI G mX10_within d [.ref a0, .int (2 : Int32), .int (0 : Int32), .int (999 : Int32), .int (1 : Int32)] h6 Q8 ∧ (∀ v11 h9, Q8 v11 h9 → Q v11 h9))) : zg G mX10_worthOf (d + 1) 0 [.ref a0, .int x1, .int x2] [] h (zPI Q) := by
  refine z_aload_n 0 rfl rfl ?_
  refine z_iload_n 1 rfl rfl ?_
  refine z_aload_n 2 rfl rfl ?_
  obtain ⟨o1, B⟩ := B
  obtain ⟨r2, hr2, B⟩ := B
  refine z_getR 3 rfl lX10_84 rfl o1 hr2 ?_
  refine z_bipush (v := 6) 4 rfl (by decide) ?_
  refine z_iload_n 5 rfl rfl ?_
  refine z_imul 6 rfl ?_
  refine z_iload_n 7 rfl rfl ?_
  refine z_iadd 8 rfl ?_
  obtain ⟨o3, B⟩ := B
  obtain ⟨o4, B⟩ := B
  refine z_iald 9 rfl o3 o4 ?_
  refine z_iconst (v := 0) 10 rfl (by decide) ?_
  refine z_iconst (v := 0) 11 rfl (by decide) ?_
  refine z_iconst (v := 0) 12 rfl (by decide) ?_
  refine z_iconst (v := 0) 13 rfl (by decide) ?_
  refine z_iconst (v := 0) 14 rfl (by decide) ?_
  obtain ⟨Q5, K7, B⟩ := B
  refine z_cVV7 (ν := mX10_calls) 15 rfl rfl fX10_calls gX10_371 ⟨_, rfl, rfl⟩ (by decide) o1 (Nat.le_of_ble_eq_true rfl) K7 (fun h6 q => ?_)
  have B := B h6 q
  refine z_aload_n 16 rfl rfl ?_
  refine z_iconst (v := 2) 17 rfl (by decide) ?_
  refine z_iconst (v := 0) 18 rfl (by decide) ?_
  refine z_sipush (v := 999) 19 rfl (by decide) ?_
  refine z_iconst (v := 1) 20 rfl (by decide) ?_
  obtain ⟨o12, B⟩ := B
  obtain ⟨Q8, K10, B⟩ := B
  refine z_cVI4 (ν := mX10_within) 21 rfl rfl fX10_within gX10_375 ⟨_, rfl, rfl⟩ (by decide) o12 (Nat.le_of_ble_eq_true rfl) K10 (fun v11 h9 q => ?_)
  have B := B v11 h9 q
  exact z_iret 22 rfl rfl rfl ⟨rfl, rfl⟩ ⟨_, rfl, B⟩
theorem cn_X10_worthOf {G : zG} {d : Nat} {h : zMem} {Q : Int32 → zMem → Prop} {a0 : Nat} {x1 : Int32} {x2 : Int32} (B : zg G mX10_worthOf (d + 1) 0 [.ref a0, .int x1, .int x2] [] h (zPI Q)) : zConI G mX10_worthOf (d + 1) [.ref a0, .int x1, .int x2] h Q := zcon0 (by decide +kernel) eX10_worthOf (Nat.le_of_ble_eq_true rfl) rfl B
set_option maxRecDepth 100000 in
set_option maxHeartbeats 4000000 in
theorem sg_X10_markBy_0 {G : zG} {d : Nat} {h : zMem} {Q : Int32 → zMem → Prop} {a0 : Nat} {x1 : Int32} {x2 : Int32} {x3 : Int32} {x4 : Int32} (B : zg G mX10_markBy (d + 1) 6 [.ref a0, .int x1, .int x2, .int x3, .int x4, .int (0 : Int32), .int (0 : Int32), zU] [] h (zPI Q)) : zg G mX10_markBy (d + 1) 0 [.ref a0, .int x1, .int x2, .int x3, .int x4, zU, zU, zU] [] h (zPI Q) := by
  refine z_iconst (v := 0) 0 rfl (by decide) ?_
  refine z_istore 1 rfl (by decide) rfl ?_
  refine z_iconst (v := 0) 2 rfl (by decide) ?_
  refine z_istore 3 rfl (by decide) rfl ?_
  exact B
theorem cn_X10_markBy {G : zG} {d : Nat} {h : zMem} {Q : Int32 → zMem → Prop} {a0 : Nat} {x1 : Int32} {x2 : Int32} {x3 : Int32} {x4 : Int32} (B : zg G mX10_markBy (d + 1) 0 [.ref a0, .int x1, .int x2, .int x3, .int x4, zU, zU, zU] [] h (zPI Q)) : zConI G mX10_markBy (d + 1) [.ref a0, .int x1, .int x2, .int x3, .int x4] h Q := zcon0 (by decide +kernel) eX10_markBy (Nat.le_of_ble_eq_true rfl) rfl B
set_option maxRecDepth 100000 in
set_option maxHeartbeats 4000000 in
theorem sg_X10_markBy_6 {G : zG} {d : Nat} {h : zMem} {Q : Int32 → zMem → Prop} {a0 : Nat} {x1 : Int32} {x2 : Int32} {x3 : Int32} {x4 : Int32} {x5 : Int32} {x6 : Int32} (B : zO h a0 9 ∧ ∃ r2, zR h a0 3 = some r2 ∧ zO h r2 100 ∧ vp_in (0 : Int32) (zLen h r2) ∧ ((zI h r2 (0 : Int32).toNatClampNeg) ≤ x6 → Q (x5 &&& (x4 ^^^ (-1 : Int32))) h) ∧ (¬ (zI h r2 (0 : Int32).toNatClampNeg) ≤ x6 → ∃ Q6 : Int32 → zMem → Prop, zConI G mX10_mixOf d [.ref a0, .int x1, .int x6] h Q6 ∧ (∀ v9 h7, Q6 v9 h7 → (v9 ≤ 0 → zg G mX10_markBy (d + 1) 6 [.ref a0, .int x1, .int x2, .int x3, .int x4, .int (x5 ||| (0 : Int32)), .int (x6 + 1), zU] [] h7 (zPI Q)) ∧ (¬ v9 ≤ 0 → zO h7 a0 9 ∧ ∃ Q11 : Int32 → zMem → Prop, zConI G mX10_partIn d [.ref a0, .int x2] h7 Q11 ∧ (∀ v14 h12, Q11 v14 h12 → (((v9 * v14) / (100 : Int32)) < x3 → zg G mX10_markBy (d + 1) 6 [.ref a0, .int x1, .int x2, .int x3, .int x4, .int (x5 ||| (0 : Int32)), .int (x6 + 1), zU] [] h12 (zPI Q)) ∧ (¬ ((v9 * v14) / (100 : Int32)) < x3 → zg G mX10_markBy (d + 1) 6 [.ref a0, .int x1, .int x2, .int x3, .int x4, .int (x5 ||| ((1 : Int32) <<< (x6 &&& 31))), .int (x6 + 1), zU] [] h12 (zPI Q))))))) : zg G mX10_markBy (d + 1) 6 [.ref a0, .int x1, .int x2, .int x3, .int x4, .int x5, .int x6, zU] [] h (zPI Q) := by
  refine z_iload 4 rfl rfl ?_
  refine z_aload_n 5 rfl rfl ?_
  obtain ⟨o1, B⟩ := B
  obtain ⟨r2, hr2, B⟩ := B
  refine z_getR 6 rfl lX10_13 rfl o1 hr2 ?_
  refine z_iconst (v := 0) 7 rfl (by decide) ?_
  obtain ⟨o3, B⟩ := B
  obtain ⟨o4, B⟩ := B
  refine z_iald 8 rfl o3 o4 ?_
  refine z_icmp_ge 9 65 rfl (by decide) ⟨fun c5 => ?_, fun c5 => ?_⟩
  · have B := B.1 c5
    refine z_iload 36 rfl rfl ?_
    refine z_iload 37 rfl rfl ?_
    refine z_iconst (v := -1) 38 rfl (by decide) ?_
    refine z_ixor 39 rfl ?_
    refine z_iand 40 rfl ?_
    exact z_iret 41 rfl rfl rfl ⟨rfl, rfl⟩ ⟨_, rfl, B⟩
  · have B := B.2 c5
    refine z_aload_n 10 rfl rfl ?_
    refine z_iload_n 11 rfl rfl ?_
    refine z_iload 12 rfl rfl ?_
    obtain ⟨Q6, K8, B⟩ := B
    refine z_cVI2 (ν := mX10_mixOf) 13 rfl rfl fX10_mixOf gX10_383 ⟨_, rfl, rfl⟩ (by decide) o1 (Nat.le_of_ble_eq_true rfl) K8 (fun v9 h7 q => ?_)
    have B := B v9 h7 q
    refine z_istore 14 rfl (by decide) rfl ?_
    refine z_iload 15 rfl rfl ?_
    refine z_iload 16 rfl rfl ?_
    refine z_if_le 17 55 rfl (by decide) ⟨fun c10 => ?_, fun c10 => ?_⟩
    · have B := B.1 c10
      refine z_iconst (v := 0) 31 rfl (by decide) ?_
      refine z_ior 32 rfl ?_
      refine z_istore 33 rfl (by decide) rfl ?_
      refine z_iinc (v := 1) 34 rfl rfl (by decide) (by decide) rfl ?_
      refine z_goto 35 6 rfl (by decide) ?_
      refine z_drop 7 ?_
      exact B
    · have B := B.2 c10
      refine z_iload 18 rfl rfl ?_
      refine z_aload_n 19 rfl rfl ?_
      refine z_iload_n 20 rfl rfl ?_
      obtain ⟨o16, B⟩ := B
      obtain ⟨Q11, K13, B⟩ := B
      refine z_cVI1 (ν := mX10_partIn) 21 rfl rfl fX10_partIn gX10_368 ⟨_, rfl, rfl⟩ (by decide) o16 (Nat.le_of_ble_eq_true rfl) K13 (fun v14 h12 q => ?_)
      have B := B v14 h12 q
      refine z_imul 22 rfl ?_
      refine z_bipush (v := 100) 23 rfl (by decide) ?_
      refine z_idiv 24 rfl (by decide) ?_
      refine z_iload_n 25 rfl rfl ?_
      refine z_icmp_lt 26 55 rfl (by decide) ⟨fun c15 => ?_, fun c15 => ?_⟩
      · have B := B.1 c15
        refine z_iconst (v := 0) 31 rfl (by decide) ?_
        refine z_ior 32 rfl ?_
        refine z_istore 33 rfl (by decide) rfl ?_
        refine z_iinc (v := 1) 34 rfl rfl (by decide) (by decide) rfl ?_
        refine z_goto 35 6 rfl (by decide) ?_
        refine z_drop 7 ?_
        exact B
      · have B := B.2 c15
        refine z_iconst (v := 1) 27 rfl (by decide) ?_
        refine z_iload 28 rfl rfl ?_
        refine z_ishl 29 rfl ?_
        refine z_goto 30 56 rfl (by decide) ?_
        refine z_ior 32 rfl ?_
        refine z_istore 33 rfl (by decide) rfl ?_
        refine z_iinc (v := 1) 34 rfl rfl (by decide) (by decide) rfl ?_
        refine z_goto 35 6 rfl (by decide) ?_
        refine z_drop 7 ?_
        exact B
set_option maxRecDepth 100000 in
set_option maxHeartbeats 4000000 in
theorem sg_X10_markOf_0 {G : zG} {d : Nat} {h : zMem} {Q : Int32 → zMem → Prop} {a0 : Nat} {x1 : Int32} {x2 : Int32} {x3 : Int32} (B : zO h a0 9 ∧ ∃ r2, zR h a0 42 = some r2 ∧ zO h r2 100 ∧ vp_in (((5 : Int32) * x1) + x2) (zLen h r2) ∧ ∃ Q5 : Int32 → zMem → Prop, zConI G mX10_keenOf d [.ref a0, .int x1, .int x2] h Q5 ∧ (∀ v8 h6, Q5 v8 h6 → zO h6 a0 9 ∧ ∃ Q9 : Int32 → zMem → Prop, zConI G mX10_coldsOf d [.ref a0, .int x1, .int x2] h6 Q9 ∧ (∀ v12 h10, Q9 v12 h10 → zO h10 a0 9 ∧ ∃ Q13 : Int32 → zMem → Prop, zConI G mX10_markBy d [.ref a0, .int x3, .int (zI h r2 (((5 : Int32) * x1) + x2).toNatClampNeg), .int v8, .int v12] h10 Q13 ∧ (∀ v16 h14, Q13 v16 h14 → Q v16 h14)))) : zg G mX10_markOf (d + 1) 0 [.ref a0, .int x1, .int x2, .int x3] [] h (zPI Q) := by
  refine z_aload_n 0 rfl rfl ?_
  refine z_iload_n 1 rfl rfl ?_
  refine z_aload_n 2 rfl rfl ?_
  obtain ⟨o1, B⟩ := B
  obtain ⟨r2, hr2, B⟩ := B
  refine z_getR 3 rfl lX10_93 rfl o1 hr2 ?_
  refine z_iconst (v := 5) 4 rfl (by decide) ?_
  refine z_iload_n 5 rfl rfl ?_
  refine z_imul 6 rfl ?_
  refine z_iload_n 7 rfl rfl ?_
  refine z_iadd 8 rfl ?_
  obtain ⟨o3, B⟩ := B
  obtain ⟨o4, B⟩ := B
  refine z_iald 9 rfl o3 o4 ?_
  refine z_aload_n 10 rfl rfl ?_
  refine z_iload_n 11 rfl rfl ?_
  refine z_iload_n 12 rfl rfl ?_
  obtain ⟨Q5, K7, B⟩ := B
  refine z_cVI2 (ν := mX10_keenOf) 13 rfl rfl fX10_keenOf gX10_386 ⟨_, rfl, rfl⟩ (by decide) o1 (Nat.le_of_ble_eq_true rfl) K7 (fun v8 h6 q => ?_)
  have B := B v8 h6 q
  refine z_aload_n 14 rfl rfl ?_
  refine z_iload_n 15 rfl rfl ?_
  refine z_iload_n 16 rfl rfl ?_
  obtain ⟨o18, B⟩ := B
  obtain ⟨Q9, K11, B⟩ := B
  refine z_cVI2 (ν := mX10_coldsOf) 17 rfl rfl fX10_coldsOf gX10_389 ⟨_, rfl, rfl⟩ (by decide) o18 (Nat.le_of_ble_eq_true rfl) K11 (fun v12 h10 q => ?_)
  have B := B v12 h10 q
  obtain ⟨o17, B⟩ := B
  obtain ⟨Q13, K15, B⟩ := B
  refine z_cVI4 (ν := mX10_markBy) 18 rfl rfl fX10_markBy gX10_392 ⟨_, rfl, rfl⟩ (by decide) o17 (Nat.le_of_ble_eq_true rfl) K15 (fun v16 h14 q => ?_)
  have B := B v16 h14 q
  exact z_iret 19 rfl rfl rfl ⟨rfl, rfl⟩ ⟨_, rfl, B⟩
theorem cn_X10_markOf {G : zG} {d : Nat} {h : zMem} {Q : Int32 → zMem → Prop} {a0 : Nat} {x1 : Int32} {x2 : Int32} {x3 : Int32} (B : zg G mX10_markOf (d + 1) 0 [.ref a0, .int x1, .int x2, .int x3] [] h (zPI Q)) : zConI G mX10_markOf (d + 1) [.ref a0, .int x1, .int x2, .int x3] h Q := zcon0 (by decide +kernel) eX10_markOf (Nat.le_of_ble_eq_true rfl) rfl B
set_option maxRecDepth 100000 in
set_option maxHeartbeats 4000000 in
theorem sg_X10_mixes_0 {G : zG} {d : Nat} {h : zMem} {Q : zMem → Prop} {a0 : Nat} {x1 : Int32} (B : zg G mX10_mixes (d + 1) 2 [.ref a0, .int x1, .int (0 : Int32), zU] [] h (zPV Q)) : zg G mX10_mixes (d + 1) 0 [.ref a0, .int x1, zU, zU] [] h (zPV Q) := by
  refine z_iconst (v := 0) 0 rfl (by decide) ?_
  refine z_istore_n 1 rfl (by decide) rfl ?_
  exact B
theorem cn_X10_mixes {G : zG} {d : Nat} {h : zMem} {Q : zMem → Prop} {a0 : Nat} {x1 : Int32} (B : zg G mX10_mixes (d + 1) 0 [.ref a0, .int x1, zU, zU] [] h (zPV Q)) : zConV G mX10_mixes (d + 1) [.ref a0, .int x1] h Q := zcon0 (by decide +kernel) eX10_mixes (Nat.le_of_ble_eq_true rfl) rfl B
set_option maxRecDepth 100000 in
set_option maxHeartbeats 4000000 in
theorem sg_X10_mixes_2 {G : zG} {d : Nat} {h : zMem} {Q : zMem → Prop} {a0 : Nat} {x1 : Int32} {x2 : Int32} (B : zO h a0 9 ∧ ∃ r2, zR h a0 3 = some r2 ∧ zO h r2 100 ∧ vp_in (0 : Int32) (zLen h r2) ∧ ((zI h r2 (0 : Int32).toNatClampNeg) ≤ x2 → Q h) ∧ (¬ (zI h r2 (0 : Int32).toNatClampNeg) ≤ x2 → vp_in (1 : Int32) (zLen h r2) ∧ (¬ (zI h r2 (1 : Int32).toNatClampNeg) = 0 → ∃ r8, zR h a0 34 = some r8 ∧ zO h r8 100 ∧ vp_in x1 (zLen h r8) ∧ ¬ (zI h r2 (1 : Int32).toNatClampNeg) = 0 ∧ ∃ Q12 : Int32 → zMem → Prop, zConI G mX10_mixOf d [.ref a0, .int ((zI h r8 x1.toNatClampNeg) - (zI h r8 x1.toNatClampNeg) / (zI h r2 (1 : Int32).toNatClampNeg) * (zI h r2 (1 : Int32).toNatClampNeg)), .int x2] h Q12 ∧ (∀ v15 h13, Q12 v15 h13 → zO h13 a0 9 ∧ ((zI h13 a0 48) = (4 : Int32) → ∃ r18, zR h13 a0 56 = some r18 ∧ zO h13 r18 100 ∧ vp_in x2 (zLen h13 r18) ∧ zg G mX10_mixes (d + 1) 2 [.ref a0, .int x1, .int (x2 + 1), zU] [] (zsI h13 r18 x2.toNatClampNeg v15) (zPV Q)) ∧ (¬ (zI h13 a0 48) = (4 : Int32) → ∃ r21, zR h13 a0 39 = some r21 ∧ zO h13 r21 100 ∧ vp_in (((6 : Int32) * x1) + x2) (zLen h13 r21) ∧ ∃ r24, zR h13 a0 56 = some r24 ∧ zO h13 r24 100 ∧ vp_in x2 (zLen h13 r24) ∧ zg G mX10_mixes (d + 1) 2 [.ref a0, .int x1, .int (x2 + 1), zU] [] (zsI (zsI h13 r21 (((6 : Int32) * x1) + x2).toNatClampNeg ((zI h13 r21 (((6 : Int32) * x1) + x2).toNatClampNeg) - (if (zI h13 r21 (((6 : Int32) * x1) + x2).toNatClampNeg) < v15 then (zI h13 r21 (((6 : Int32) * x1) + x2).toNatClampNeg) else v15))) r24 x2.toNatClampNeg (if (zI h13 r21 (((6 : Int32) * x1) + x2).toNatClampNeg) < v15 then (zI h13 r21 (((6 : Int32) * x1) + x2).toNatClampNeg) else v15)) (zPV Q)))) ∧ ((zI h r2 (1 : Int32).toNatClampNeg) = 0 → ((zI h a0 48) = (4 : Int32) → ∃ r28, zR h a0 56 = some r28 ∧ zO h r28 100 ∧ vp_in x2 (zLen h r28) ∧ zg G mX10_mixes (d + 1) 2 [.ref a0, .int x1, .int (x2 + 1), zU] [] (zsI h r28 x2.toNatClampNeg (0 : Int32)) (zPV Q)) ∧ (¬ (zI h a0 48) = (4 : Int32) → ∃ r31, zR h a0 39 = some r31 ∧ zO h r31 100 ∧ vp_in (((6 : Int32) * x1) + x2) (zLen h r31) ∧ ∃ r34, zR h a0 56 = some r34 ∧ zO h r34 100 ∧ vp_in x2 (zLen h r34) ∧ zg G mX10_mixes (d + 1) 2 [.ref a0, .int x1, .int (x2 + 1), zU] [] (zsI (zsI h r31 (((6 : Int32) * x1) + x2).toNatClampNeg ((zI h r31 (((6 : Int32) * x1) + x2).toNatClampNeg) - (if (zI h r31 (((6 : Int32) * x1) + x2).toNatClampNeg) < (0 : Int32) then (zI h r31 (((6 : Int32) * x1) + x2).toNatClampNeg) else (0 : Int32)))) r34 x2.toNatClampNeg (if (zI h r31 (((6 : Int32) * x1) + x2).toNatClampNeg) < (0 : Int32) then (zI h r31 (((6 : Int32) * x1) + x2).toNatClampNeg) else (0 : Int32))) (zPV Q))))) : zg G mX10_mixes (d + 1) 2 [.ref a0, .int x1, .int x2, zU] [] h (zPV Q) := by
  refine z_iload_n 2 rfl rfl ?_
  refine z_aload_n 3 rfl rfl ?_
  obtain ⟨o1, B⟩ := B
  obtain ⟨r2, hr2, B⟩ := B
  refine z_getR 4 rfl lX10_13 rfl o1 hr2 ?_
  refine z_iconst (v := 0) 5 rfl (by decide) ?_
  obtain ⟨o3, B⟩ := B
  obtain ⟨o4, B⟩ := B
  refine z_iald 6 rfl o3 o4 ?_
  refine z_icmp_ge 7 96 rfl (by decide) ⟨fun c5 => ?_, fun c5 => ?_⟩
  · have B := B.1 c5
    exact z_vret 62 rfl rfl ⟨rfl, rfl⟩ ⟨rfl, B⟩
  · have B := B.2 c5
    refine z_aload_n 8 rfl rfl ?_
    refine z_getR 9 rfl lX10_13 rfl o1 hr2 ?_
    refine z_iconst (v := 1) 10 rfl (by decide) ?_
    obtain ⟨o6, B⟩ := B
    refine z_iald 11 rfl o3 o6 ?_
    refine z_if_ne 12 25 rfl (by decide) ⟨fun c7 => ?_, fun c7 => ?_⟩
    · have B := B.1 c7
      refine z_aload_n 15 rfl rfl ?_
      refine z_aload_n 16 rfl rfl ?_
      obtain ⟨r8, hr8, B⟩ := B
      refine z_getR 17 rfl lX10_69 rfl o1 hr8 ?_
      refine z_iload_n 18 rfl rfl ?_
      obtain ⟨o9, B⟩ := B
      obtain ⟨o10, B⟩ := B
      refine z_iald 19 rfl o9 o10 ?_
      refine z_aload_n 20 rfl rfl ?_
      refine z_getR 21 rfl lX10_13 rfl o1 hr2 ?_
      refine z_iconst (v := 1) 22 rfl (by decide) ?_
      refine z_iald 23 rfl o3 o6 ?_
      obtain ⟨o11, B⟩ := B
      refine z_irem 24 rfl o11 ?_
      refine z_iload_n 25 rfl rfl ?_
      obtain ⟨Q12, K14, B⟩ := B
      refine z_cVI2 (ν := mX10_mixOf) 26 rfl rfl fX10_mixOf gX10_383 ⟨_, rfl, rfl⟩ (by decide) o1 (Nat.le_of_ble_eq_true rfl) K14 (fun v15 h13 q => ?_)
      have B := B v15 h13 q
      refine z_istore_n 27 rfl (by decide) rfl ?_
      refine z_aload_n 28 rfl rfl ?_
      obtain ⟨o16, B⟩ := B
      refine z_getI 29 rfl lX10_349 rfl o16 ?_
      refine z_iconst (v := 4) 30 rfl (by decide) ?_
      refine z_icmp_eq 31 83 rfl (by decide) ⟨fun c17 => ?_, fun c17 => ?_⟩
      · have B := B.1 c17
        refine z_aload_n 55 rfl rfl ?_
        obtain ⟨r18, hr18, B⟩ := B
        refine z_getR 56 rfl lX10_123 rfl o16 hr18 ?_
        refine z_iload_n 57 rfl rfl ?_
        refine z_iload_n 58 rfl rfl ?_
        obtain ⟨o19, B⟩ := B
        obtain ⟨o20, B⟩ := B
        refine z_iast 59 rfl o19 o20 ?_
        refine z_iinc (v := 1) 60 rfl rfl (by decide) (by decide) rfl ?_
        refine z_goto 61 2 rfl (by decide) ?_
        refine z_drop 3 ?_
        exact B
      · have B := B.2 c17
        refine z_iload_n 32 rfl rfl ?_
        refine z_aload_n 33 rfl rfl ?_
        obtain ⟨r21, hr21, B⟩ := B
        refine z_getR 34 rfl lX10_84 rfl o16 hr21 ?_
        refine z_bipush (v := 6) 35 rfl (by decide) ?_
        refine z_iload_n 36 rfl rfl ?_
        refine z_imul 37 rfl ?_
        refine z_iload_n 38 rfl rfl ?_
        refine z_iadd 39 rfl ?_
        obtain ⟨o22, B⟩ := B
        obtain ⟨o23, B⟩ := B
        refine z_iald 40 rfl o22 o23 ?_
        refine z_mmin 41 rfl rfl gmX10_395 (Nat.le_of_ble_eq_true rfl) ?_
        refine z_istore_n 42 rfl (by decide) rfl ?_
        refine z_aload_n 43 rfl rfl ?_
        refine z_getR 44 rfl lX10_84 rfl o16 hr21 ?_
        refine z_bipush (v := 6) 45 rfl (by decide) ?_
        refine z_iload_n 46 rfl rfl ?_
        refine z_imul 47 rfl ?_
        refine z_iload_n 48 rfl rfl ?_
        refine z_iadd 49 rfl ?_
        refine z_dup2 50 rfl rfl rfl ?_
        refine z_iald 51 rfl o22 o23 ?_
        refine z_iload_n 52 rfl rfl ?_
        refine z_isub 53 rfl ?_
        refine z_iast 54 rfl o22 o23 ?_
        refine z_aload_n 55 rfl rfl ?_
        obtain ⟨r24, hr24, B⟩ := B
        refine z_getR 56 rfl lX10_123 rfl o16 hr24 ?_
        refine z_iload_n 57 rfl rfl ?_
        refine z_iload_n 58 rfl rfl ?_
        obtain ⟨o25, B⟩ := B
        obtain ⟨o26, B⟩ := B
        refine z_iast 59 rfl o25 o26 ?_
        refine z_iinc (v := 1) 60 rfl rfl (by decide) (by decide) rfl ?_
        refine z_goto 61 2 rfl (by decide) ?_
        refine z_drop 3 ?_
        exact B
    · have B := B.2 c7
      refine z_iconst (v := 0) 13 rfl (by decide) ?_
      refine z_goto 14 43 rfl (by decide) ?_
      refine z_istore_n 27 rfl (by decide) rfl ?_
      refine z_aload_n 28 rfl rfl ?_
      refine z_getI 29 rfl lX10_349 rfl o1 ?_
      refine z_iconst (v := 4) 30 rfl (by decide) ?_
      refine z_icmp_eq 31 83 rfl (by decide) ⟨fun c27 => ?_, fun c27 => ?_⟩
      · have B := B.1 c27
        refine z_aload_n 55 rfl rfl ?_
        obtain ⟨r28, hr28, B⟩ := B
        refine z_getR 56 rfl lX10_123 rfl o1 hr28 ?_
        refine z_iload_n 57 rfl rfl ?_
        refine z_iload_n 58 rfl rfl ?_
        obtain ⟨o29, B⟩ := B
        obtain ⟨o30, B⟩ := B
        refine z_iast 59 rfl o29 o30 ?_
        refine z_iinc (v := 1) 60 rfl rfl (by decide) (by decide) rfl ?_
        refine z_goto 61 2 rfl (by decide) ?_
        refine z_drop 3 ?_
        exact B
      · have B := B.2 c27
        refine z_iload_n 32 rfl rfl ?_
        refine z_aload_n 33 rfl rfl ?_
        obtain ⟨r31, hr31, B⟩ := B
        refine z_getR 34 rfl lX10_84 rfl o1 hr31 ?_
        refine z_bipush (v := 6) 35 rfl (by decide) ?_
        refine z_iload_n 36 rfl rfl ?_
        refine z_imul 37 rfl ?_
        refine z_iload_n 38 rfl rfl ?_
        refine z_iadd 39 rfl ?_
        obtain ⟨o32, B⟩ := B
        obtain ⟨o33, B⟩ := B
        refine z_iald 40 rfl o32 o33 ?_
        refine z_mmin 41 rfl rfl gmX10_395 (Nat.le_of_ble_eq_true rfl) ?_
        refine z_istore_n 42 rfl (by decide) rfl ?_
        refine z_aload_n 43 rfl rfl ?_
        refine z_getR 44 rfl lX10_84 rfl o1 hr31 ?_
        refine z_bipush (v := 6) 45 rfl (by decide) ?_
        refine z_iload_n 46 rfl rfl ?_
        refine z_imul 47 rfl ?_
        refine z_iload_n 48 rfl rfl ?_
        refine z_iadd 49 rfl ?_
        refine z_dup2 50 rfl rfl rfl ?_
        refine z_iald 51 rfl o32 o33 ?_
        refine z_iload_n 52 rfl rfl ?_
        refine z_isub 53 rfl ?_
        refine z_iast 54 rfl o32 o33 ?_
        refine z_aload_n 55 rfl rfl ?_
        obtain ⟨r34, hr34, B⟩ := B
        refine z_getR 56 rfl lX10_123 rfl o1 hr34 ?_
        refine z_iload_n 57 rfl rfl ?_
        refine z_iload_n 58 rfl rfl ?_
        obtain ⟨o35, B⟩ := B
        obtain ⟨o36, B⟩ := B
        refine z_iast 59 rfl o35 o36 ?_
        refine z_iinc (v := 1) 60 rfl rfl (by decide) (by decide) rfl ?_
        refine z_goto 61 2 rfl (by decide) ?_
        refine z_drop 3 ?_
        exact B
set_option maxRecDepth 100000 in
set_option maxHeartbeats 4000000 in
theorem sg_X10_drifts_0 {G : zG} {d : Nat} {h : zMem} {Q : zMem → Prop} {a0 : Nat} {x1 : Int32} (B : zg G mX10_drifts (d + 1) 2 [.ref a0, .int x1, .int (0 : Int32), zU, zU, zU, zU] [] h (zPV Q)) : zg G mX10_drifts (d + 1) 0 [.ref a0, .int x1, zU, zU, zU, zU, zU] [] h (zPV Q) := by
  refine z_iconst (v := 0) 0 rfl (by decide) ?_
  refine z_istore_n 1 rfl (by decide) rfl ?_
  exact B
theorem cn_X10_drifts {G : zG} {d : Nat} {h : zMem} {Q : zMem → Prop} {a0 : Nat} {x1 : Int32} (B : zg G mX10_drifts (d + 1) 0 [.ref a0, .int x1, zU, zU, zU, zU, zU] [] h (zPV Q)) : zConV G mX10_drifts (d + 1) [.ref a0, .int x1] h Q := zcon0 (by decide +kernel) eX10_drifts (Nat.le_of_ble_eq_true rfl) rfl B
set_option maxRecDepth 100000 in
set_option maxHeartbeats 4000000 in
theorem sg_X10_drifts_2 {G : zG} {d : Nat} {h : zMem} {Q : zMem → Prop} {a0 : Nat} {x1 : Int32} {x2 : Int32} (B : zO h a0 9 ∧ ∃ r2, zR h a0 3 = some r2 ∧ zO h r2 100 ∧ vp_in (3 : Int32) (zLen h r2) ∧ ((zI h r2 (3 : Int32).toNatClampNeg) ≤ x2 → zg G mX10_drifts (d + 1) 154 [.ref a0, .int x1, .int (0 : Int32), zU, zU, zU, zU] [] h (zPV Q)) ∧ (¬ (zI h r2 (3 : Int32).toNatClampNeg) ≤ x2 → zg G mX10_drifts (d + 1) 14 [.ref a0, .int x1, .int x2, .int (0 : Int32), zU, zU, zU] [] h (zPV Q))) : zg G mX10_drifts (d + 1) 2 [.ref a0, .int x1, .int x2, zU, zU, zU, zU] [] h (zPV Q) := by
  refine z_iload_n 2 rfl rfl ?_
  refine z_aload_n 3 rfl rfl ?_
  obtain ⟨o1, B⟩ := B
  obtain ⟨r2, hr2, B⟩ := B
  refine z_getR 4 rfl lX10_13 rfl o1 hr2 ?_
  refine z_iconst (v := 3) 5 rfl (by decide) ?_
  obtain ⟨o3, B⟩ := B
  obtain ⟨o4, B⟩ := B
  refine z_iald 6 rfl o3 o4 ?_
  refine z_icmp_ge 7 152 rfl (by decide) ⟨fun c5 => ?_, fun c5 => ?_⟩
  · have B := B.1 c5
    refine z_iconst (v := 0) 94 rfl (by decide) ?_
    refine z_istore_n 95 rfl (by decide) rfl ?_
    exact B
  · have B := B.2 c5
    refine z_iconst (v := 0) 8 rfl (by decide) ?_
    refine z_istore_n 9 rfl (by decide) rfl ?_
    exact B
set_option maxRecDepth 100000 in
set_option maxHeartbeats 4000000 in
theorem sg_X10_drifts_14 {G : zG} {d : Nat} {h : zMem} {Q : zMem → Prop} {a0 : Nat} {x1 : Int32} {x2 : Int32} {x3 : Int32} (B : zO h a0 9 ∧ ∃ r2, zR h a0 3 = some r2 ∧ zO h r2 100 ∧ vp_in (0 : Int32) (zLen h r2) ∧ ((zI h r2 (0 : Int32).toNatClampNeg) ≤ x3 → zg G mX10_drifts (d + 1) 2 [.ref a0, .int x1, .int (x2 + 1), zU, zU, zU, zU] [] h (zPV Q)) ∧ (¬ (zI h r2 (0 : Int32).toNatClampNeg) ≤ x3 → (¬ (zI h a0 48) = (1 : Int32) → ∃ r7, zR h a0 41 = some r7 ∧ zO h r7 100 ∧ vp_in ((((36 : Int32) * x1) + ((6 : Int32) * x2)) + x3) (zLen h r7) ∧ ∃ r10, zR h a0 40 = some r10 ∧ zO h r10 100 ∧ vp_in (((6 : Int32) * x1) + x3) (zLen h r10) ∧ ∃ r13, zR h a0 56 = some r13 ∧ zO h r13 100 ∧ vp_in x3 (zLen h r13) ∧ ∃ Q16 : Int32 → zMem → Prop, zConI G mX10_partIn d [.ref a0, .int x2] h Q16 ∧ (∀ v19 h17, Q16 v19 h17 → zO h17 a0 9 ∧ ∃ Q20 : zMem → Prop, zConV G mX10_calls d [.ref a0, .int x1, .int (zI h r13 x3.toNatClampNeg), .int v19, .int (zI h r7 ((((36 : Int32) * x1) + ((6 : Int32) * x2)) + x3).toNatClampNeg), .int (zI h r10 (((6 : Int32) * x1) + x3).toNatClampNeg), .int x2, .int (0 : Int32)] h17 Q20 ∧ (∀ h21, Q20 h21 → zO h21 a0 9 ∧ ∃ r24, zR h21 a0 41 = some r24 ∧ ∃ r25, zR h21 a0 56 = some r25 ∧ zO h21 r25 100 ∧ vp_in x3 (zLen h21 r25) ∧ ∃ Q28 : Int32 → zMem → Prop, zConI G mX10_partIn d [.ref a0, .int x2] h21 Q28 ∧ (∀ v31 h29, Q28 v31 h29 → zO h29 a0 9 ∧ ∃ r33, zR h29 a0 3 = some r33 ∧ zO h29 r33 100 ∧ vp_in (5 : Int32) (zLen h29 r33) ∧ ∃ Q36 : Int32 → zMem → Prop, zConI G mX10_within d [.ref a0, .int (0 : Int32), .int (0 : Int32), .int (9999 : Int32), .int (((((zI h21 r25 x3.toNatClampNeg) * v31) / (100 : Int32)) + (((zI h r7 ((((36 : Int32) * x1) + ((6 : Int32) * x2)) + x3).toNatClampNeg) * (zI h29 r33 (5 : Int32).toNatClampNeg)) / (100 : Int32))) + (zI h r10 (((6 : Int32) * x1) + x3).toNatClampNeg))] h29 Q36 ∧ (∀ v39 h37, Q36 v39 h37 → zO h37 r24 100 ∧ vp_in ((((36 : Int32) * x1) + ((6 : Int32) * x2)) + x3) (zLen h37 r24) ∧ zg G mX10_drifts (d + 1) 14 [.ref a0, .int x1, .int x2, .int (x3 + 1), zU, zU, zU] [] (zsI h37 r24 ((((36 : Int32) * x1) + ((6 : Int32) * x2)) + x3).toNatClampNeg v39) (zPV Q)))))) ∧ ((zI h a0 48) = (1 : Int32) → ∃ r43, zR h a0 40 = some r43 ∧ zO h r43 100 ∧ vp_in (((6 : Int32) * x1) + x3) (zLen h r43) ∧ ∃ r46, zR h a0 56 = some r46 ∧ zO h r46 100 ∧ vp_in x3 (zLen h r46) ∧ ∃ Q49 : Int32 → zMem → Prop, zConI G mX10_partIn d [.ref a0, .int x2] h Q49 ∧ (∀ v52 h50, Q49 v52 h50 → zO h50 a0 9 ∧ ∃ Q53 : zMem → Prop, zConV G mX10_calls d [.ref a0, .int x1, .int (zI h r46 x3.toNatClampNeg), .int v52, .int (0 : Int32), .int (zI h r43 (((6 : Int32) * x1) + x3).toNatClampNeg), .int x2, .int (0 : Int32)] h50 Q53 ∧ (∀ h54, Q53 h54 → zO h54 a0 9 ∧ ∃ r57, zR h54 a0 41 = some r57 ∧ ∃ r58, zR h54 a0 56 = some r58 ∧ zO h54 r58 100 ∧ vp_in x3 (zLen h54 r58) ∧ ∃ Q61 : Int32 → zMem → Prop, zConI G mX10_partIn d [.ref a0, .int x2] h54 Q61 ∧ (∀ v64 h62, Q61 v64 h62 → zO h62 a0 9 ∧ ∃ r66, zR h62 a0 3 = some r66 ∧ zO h62 r66 100 ∧ vp_in (5 : Int32) (zLen h62 r66) ∧ ∃ Q69 : Int32 → zMem → Prop, zConI G mX10_within d [.ref a0, .int (0 : Int32), .int (0 : Int32), .int (9999 : Int32), .int (((((zI h54 r58 x3.toNatClampNeg) * v64) / (100 : Int32)) + (((0 : Int32) * (zI h62 r66 (5 : Int32).toNatClampNeg)) / (100 : Int32))) + (zI h r43 (((6 : Int32) * x1) + x3).toNatClampNeg))] h62 Q69 ∧ (∀ v72 h70, Q69 v72 h70 → zO h70 r57 100 ∧ vp_in ((((36 : Int32) * x1) + ((6 : Int32) * x2)) + x3) (zLen h70 r57) ∧ zg G mX10_drifts (d + 1) 14 [.ref a0, .int x1, .int x2, .int (x3 + 1), zU, zU, zU] [] (zsI h70 r57 ((((36 : Int32) * x1) + ((6 : Int32) * x2)) + x3).toNatClampNeg v72) (zPV Q)))))))) : zg G mX10_drifts (d + 1) 14 [.ref a0, .int x1, .int x2, .int x3, zU, zU, zU] [] h (zPV Q) := by
  refine z_iload_n 10 rfl rfl ?_
  refine z_aload_n 11 rfl rfl ?_
  obtain ⟨o1, B⟩ := B
  obtain ⟨r2, hr2, B⟩ := B
  refine z_getR 12 rfl lX10_13 rfl o1 hr2 ?_
  refine z_iconst (v := 0) 13 rfl (by decide) ?_
  obtain ⟨o3, B⟩ := B
  obtain ⟨o4, B⟩ := B
  refine z_iald 14 rfl o3 o4 ?_
  refine z_icmp_ge 15 146 rfl (by decide) ⟨fun c5 => ?_, fun c5 => ?_⟩
  · have B := B.1 c5
    refine z_iinc (v := 1) 92 rfl rfl (by decide) (by decide) rfl ?_
    refine z_goto 93 2 rfl (by decide) ?_
    refine z_drop 3 ?_
    exact B
  · have B := B.2 c5
    refine z_bipush (v := 36) 16 rfl (by decide) ?_
    refine z_iload_n 17 rfl rfl ?_
    refine z_imul 18 rfl ?_
    refine z_bipush (v := 6) 19 rfl (by decide) ?_
    refine z_iload_n 20 rfl rfl ?_
    refine z_imul 21 rfl ?_
    refine z_iadd 22 rfl ?_
    refine z_iload_n 23 rfl rfl ?_
    refine z_iadd 24 rfl ?_
    refine z_istore 25 rfl (by decide) rfl ?_
    refine z_aload_n 26 rfl rfl ?_
    refine z_getI 27 rfl lX10_349 rfl o1 ?_
    refine z_iconst (v := 1) 28 rfl (by decide) ?_
    refine z_icmp_ne 29 49 rfl (by decide) ⟨fun c6 => ?_, fun c6 => ?_⟩
    · have B := B.1 c6
      refine z_aload_n 32 rfl rfl ?_
      obtain ⟨r7, hr7, B⟩ := B
      refine z_getR 33 rfl lX10_90 rfl o1 hr7 ?_
      refine z_iload 34 rfl rfl ?_
      obtain ⟨o8, B⟩ := B
      obtain ⟨o9, B⟩ := B
      refine z_iald 35 rfl o8 o9 ?_
      refine z_istore 36 rfl (by decide) rfl ?_
      refine z_aload_n 37 rfl rfl ?_
      obtain ⟨r10, hr10, B⟩ := B
      refine z_getR 38 rfl lX10_87 rfl o1 hr10 ?_
      refine z_bipush (v := 6) 39 rfl (by decide) ?_
      refine z_iload_n 40 rfl rfl ?_
      refine z_imul 41 rfl ?_
      refine z_iload_n 42 rfl rfl ?_
      refine z_iadd 43 rfl ?_
      obtain ⟨o11, B⟩ := B
      obtain ⟨o12, B⟩ := B
      refine z_iald 44 rfl o11 o12 ?_
      refine z_istore 45 rfl (by decide) rfl ?_
      refine z_aload_n 46 rfl rfl ?_
      refine z_iload_n 47 rfl rfl ?_
      refine z_aload_n 48 rfl rfl ?_
      obtain ⟨r13, hr13, B⟩ := B
      refine z_getR 49 rfl lX10_123 rfl o1 hr13 ?_
      refine z_iload_n 50 rfl rfl ?_
      obtain ⟨o14, B⟩ := B
      obtain ⟨o15, B⟩ := B
      refine z_iald 51 rfl o14 o15 ?_
      refine z_aload_n 52 rfl rfl ?_
      refine z_iload_n 53 rfl rfl ?_
      obtain ⟨Q16, K18, B⟩ := B
      refine z_cVI1 (ν := mX10_partIn) 54 rfl rfl fX10_partIn gX10_368 ⟨_, rfl, rfl⟩ (by decide) o1 (Nat.le_of_ble_eq_true rfl) K18 (fun v19 h17 q => ?_)
      have B := B v19 h17 q
      refine z_iload 55 rfl rfl ?_
      refine z_iload 56 rfl rfl ?_
      refine z_iload_n 57 rfl rfl ?_
      refine z_iconst (v := 0) 58 rfl (by decide) ?_
      obtain ⟨o42, B⟩ := B
      obtain ⟨Q20, K22, B⟩ := B
      refine z_cVV7 (ν := mX10_calls) 59 rfl rfl fX10_calls gX10_371 ⟨_, rfl, rfl⟩ (by decide) o42 (Nat.le_of_ble_eq_true rfl) K22 (fun h21 q => ?_)
      have B := B h21 q
      refine z_aload_n 60 rfl rfl ?_
      obtain ⟨o23, B⟩ := B
      obtain ⟨r24, hr24, B⟩ := B
      refine z_getR 61 rfl lX10_90 rfl o23 hr24 ?_
      refine z_iload 62 rfl rfl ?_
      refine z_aload_n 63 rfl rfl ?_
      refine z_iconst (v := 0) 64 rfl (by decide) ?_
      refine z_iconst (v := 0) 65 rfl (by decide) ?_
      refine z_sipush (v := 9999) 66 rfl (by decide) ?_
      refine z_aload_n 67 rfl rfl ?_
      obtain ⟨r25, hr25, B⟩ := B
      refine z_getR 68 rfl lX10_123 rfl o23 hr25 ?_
      refine z_iload_n 69 rfl rfl ?_
      obtain ⟨o26, B⟩ := B
      obtain ⟨o27, B⟩ := B
      refine z_iald 70 rfl o26 o27 ?_
      refine z_aload_n 71 rfl rfl ?_
      refine z_iload_n 72 rfl rfl ?_
      obtain ⟨Q28, K30, B⟩ := B
      refine z_cVI1 (ν := mX10_partIn) 73 rfl rfl fX10_partIn gX10_368 ⟨_, rfl, rfl⟩ (by decide) o23 (Nat.le_of_ble_eq_true rfl) K30 (fun v31 h29 q => ?_)
      have B := B v31 h29 q
      refine z_imul 74 rfl ?_
      refine z_bipush (v := 100) 75 rfl (by decide) ?_
      refine z_idiv 76 rfl (by decide) ?_
      refine z_iload 77 rfl rfl ?_
      refine z_aload_n 78 rfl rfl ?_
      obtain ⟨o32, B⟩ := B
      obtain ⟨r33, hr33, B⟩ := B
      refine z_getR 79 rfl lX10_13 rfl o32 hr33 ?_
      refine z_iconst (v := 5) 80 rfl (by decide) ?_
      obtain ⟨o34, B⟩ := B
      obtain ⟨o35, B⟩ := B
      refine z_iald 81 rfl o34 o35 ?_
      refine z_imul 82 rfl ?_
      refine z_bipush (v := 100) 83 rfl (by decide) ?_
      refine z_idiv 84 rfl (by decide) ?_
      refine z_iadd 85 rfl ?_
      refine z_iload 86 rfl rfl ?_
      refine z_iadd 87 rfl ?_
      obtain ⟨Q36, K38, B⟩ := B
      refine z_cVI4 (ν := mX10_within) 88 rfl rfl fX10_within gX10_375 ⟨_, rfl, rfl⟩ (by decide) o32 (Nat.le_of_ble_eq_true rfl) K38 (fun v39 h37 q => ?_)
      have B := B v39 h37 q
      obtain ⟨o40, B⟩ := B
      obtain ⟨o41, B⟩ := B
      refine z_iast 89 rfl o40 o41 ?_
      refine z_iinc (v := 1) 90 rfl rfl (by decide) (by decide) rfl ?_
      refine z_goto 91 14 rfl (by decide) ?_
      refine z_drop 4 ?_
      refine z_drop 5 ?_
      refine z_drop 6 ?_
      exact B
    · have B := B.2 c6
      refine z_iconst (v := 0) 30 rfl (by decide) ?_
      refine z_goto 31 56 rfl (by decide) ?_
      refine z_istore 36 rfl (by decide) rfl ?_
      refine z_aload_n 37 rfl rfl ?_
      obtain ⟨r43, hr43, B⟩ := B
      refine z_getR 38 rfl lX10_87 rfl o1 hr43 ?_
      refine z_bipush (v := 6) 39 rfl (by decide) ?_
      refine z_iload_n 40 rfl rfl ?_
      refine z_imul 41 rfl ?_
      refine z_iload_n 42 rfl rfl ?_
      refine z_iadd 43 rfl ?_
      obtain ⟨o44, B⟩ := B
      obtain ⟨o45, B⟩ := B
      refine z_iald 44 rfl o44 o45 ?_
      refine z_istore 45 rfl (by decide) rfl ?_
      refine z_aload_n 46 rfl rfl ?_
      refine z_iload_n 47 rfl rfl ?_
      refine z_aload_n 48 rfl rfl ?_
      obtain ⟨r46, hr46, B⟩ := B
      refine z_getR 49 rfl lX10_123 rfl o1 hr46 ?_
      refine z_iload_n 50 rfl rfl ?_
      obtain ⟨o47, B⟩ := B
      obtain ⟨o48, B⟩ := B
      refine z_iald 51 rfl o47 o48 ?_
      refine z_aload_n 52 rfl rfl ?_
      refine z_iload_n 53 rfl rfl ?_
      obtain ⟨Q49, K51, B⟩ := B
      refine z_cVI1 (ν := mX10_partIn) 54 rfl rfl fX10_partIn gX10_368 ⟨_, rfl, rfl⟩ (by decide) o1 (Nat.le_of_ble_eq_true rfl) K51 (fun v52 h50 q => ?_)
      have B := B v52 h50 q
      refine z_iload 55 rfl rfl ?_
      refine z_iload 56 rfl rfl ?_
      refine z_iload_n 57 rfl rfl ?_
      refine z_iconst (v := 0) 58 rfl (by decide) ?_
      obtain ⟨o75, B⟩ := B
      obtain ⟨Q53, K55, B⟩ := B
      refine z_cVV7 (ν := mX10_calls) 59 rfl rfl fX10_calls gX10_371 ⟨_, rfl, rfl⟩ (by decide) o75 (Nat.le_of_ble_eq_true rfl) K55 (fun h54 q => ?_)
      have B := B h54 q
      refine z_aload_n 60 rfl rfl ?_
      obtain ⟨o56, B⟩ := B
      obtain ⟨r57, hr57, B⟩ := B
      refine z_getR 61 rfl lX10_90 rfl o56 hr57 ?_
      refine z_iload 62 rfl rfl ?_
      refine z_aload_n 63 rfl rfl ?_
      refine z_iconst (v := 0) 64 rfl (by decide) ?_
      refine z_iconst (v := 0) 65 rfl (by decide) ?_
      refine z_sipush (v := 9999) 66 rfl (by decide) ?_
      refine z_aload_n 67 rfl rfl ?_
      obtain ⟨r58, hr58, B⟩ := B
      refine z_getR 68 rfl lX10_123 rfl o56 hr58 ?_
      refine z_iload_n 69 rfl rfl ?_
      obtain ⟨o59, B⟩ := B
      obtain ⟨o60, B⟩ := B
      refine z_iald 70 rfl o59 o60 ?_
      refine z_aload_n 71 rfl rfl ?_
      refine z_iload_n 72 rfl rfl ?_
      obtain ⟨Q61, K63, B⟩ := B
      refine z_cVI1 (ν := mX10_partIn) 73 rfl rfl fX10_partIn gX10_368 ⟨_, rfl, rfl⟩ (by decide) o56 (Nat.le_of_ble_eq_true rfl) K63 (fun v64 h62 q => ?_)
      have B := B v64 h62 q
      refine z_imul 74 rfl ?_
      refine z_bipush (v := 100) 75 rfl (by decide) ?_
      refine z_idiv 76 rfl (by decide) ?_
      refine z_iload 77 rfl rfl ?_
      refine z_aload_n 78 rfl rfl ?_
      obtain ⟨o65, B⟩ := B
      obtain ⟨r66, hr66, B⟩ := B
      refine z_getR 79 rfl lX10_13 rfl o65 hr66 ?_
      refine z_iconst (v := 5) 80 rfl (by decide) ?_
      obtain ⟨o67, B⟩ := B
      obtain ⟨o68, B⟩ := B
      refine z_iald 81 rfl o67 o68 ?_
      refine z_imul 82 rfl ?_
      refine z_bipush (v := 100) 83 rfl (by decide) ?_
      refine z_idiv 84 rfl (by decide) ?_
      refine z_iadd 85 rfl ?_
      refine z_iload 86 rfl rfl ?_
      refine z_iadd 87 rfl ?_
      obtain ⟨Q69, K71, B⟩ := B
      refine z_cVI4 (ν := mX10_within) 88 rfl rfl fX10_within gX10_375 ⟨_, rfl, rfl⟩ (by decide) o65 (Nat.le_of_ble_eq_true rfl) K71 (fun v72 h70 q => ?_)
      have B := B v72 h70 q
      obtain ⟨o73, B⟩ := B
      obtain ⟨o74, B⟩ := B
      refine z_iast 89 rfl o73 o74 ?_
      refine z_iinc (v := 1) 90 rfl rfl (by decide) (by decide) rfl ?_
      refine z_goto 91 14 rfl (by decide) ?_
      refine z_drop 4 ?_
      refine z_drop 5 ?_
      refine z_drop 6 ?_
      exact B
set_option maxRecDepth 100000 in
set_option maxHeartbeats 4000000 in
theorem sg_X10_drifts_154 {G : zG} {d : Nat} {h : zMem} {Q : zMem → Prop} {a0 : Nat} {x1 : Int32} {x2 : Int32} (B : ((6 : Int32) ≤ x2 → Q h) ∧ (¬ (6 : Int32) ≤ x2 → zO h a0 9 ∧ ∃ r3, zR h a0 40 = some r3 ∧ zO h r3 100 ∧ vp_in (((6 : Int32) * x1) + x2) (zLen h r3) ∧ zg G mX10_drifts (d + 1) 154 [.ref a0, .int x1, .int (x2 + 1), zU, zU, zU, zU] [] (zsI h r3 (((6 : Int32) * x1) + x2).toNatClampNeg (0 : Int32)) (zPV Q))) : zg G mX10_drifts (d + 1) 154 [.ref a0, .int x1, .int x2, zU, zU, zU, zU] [] h (zPV Q) := by
  refine z_iload_n 96 rfl rfl ?_
  refine z_bipush (v := 6) 97 rfl (by decide) ?_
  refine z_icmp_ge 98 178 rfl (by decide) ⟨fun c1 => ?_, fun c1 => ?_⟩
  · have B := B.1 c1
    exact z_vret 110 rfl rfl ⟨rfl, rfl⟩ ⟨rfl, B⟩
  · have B := B.2 c1
    refine z_aload_n 99 rfl rfl ?_
    obtain ⟨o2, B⟩ := B
    obtain ⟨r3, hr3, B⟩ := B
    refine z_getR 100 rfl lX10_87 rfl o2 hr3 ?_
    refine z_bipush (v := 6) 101 rfl (by decide) ?_
    refine z_iload_n 102 rfl rfl ?_
    refine z_imul 103 rfl ?_
    refine z_iload_n 104 rfl rfl ?_
    refine z_iadd 105 rfl ?_
    refine z_iconst (v := 0) 106 rfl (by decide) ?_
    obtain ⟨o4, B⟩ := B
    obtain ⟨o5, B⟩ := B
    refine z_iast 107 rfl o4 o5 ?_
    refine z_iinc (v := 1) 108 rfl rfl (by decide) (by decide) rfl ?_
    refine z_goto 109 154 rfl (by decide) ?_
    exact B
set_option maxRecDepth 100000 in
set_option maxHeartbeats 4000000 in
theorem sg_X10_smells_0 {G : zG} {d : Nat} {h : zMem} {Q : Int32 → zMem → Prop} {a0 : Nat} {x1 : Int32} {x2 : Int32} (B : zO h a0 9 ∧ ∃ Q1 : Int32 → zMem → Prop, zConI G mX10_keenOf d [.ref a0, .int x1, .int x2] h Q1 ∧ (∀ v4 h2, Q1 v4 h2 → zg G mX10_smells (d + 1) 13 [.ref a0, .int x1, .int x2, .int v4, .int (0 : Int32), .int (0 : Int32)] [] h2 (zPI Q))) : zg G mX10_smells (d + 1) 0 [.ref a0, .int x1, .int x2, zU, zU, zU] [] h (zPI Q) := by
  refine z_aload_n 0 rfl rfl ?_
  refine z_iload_n 1 rfl rfl ?_
  refine z_iload_n 2 rfl rfl ?_
  obtain ⟨o5, B⟩ := B
  obtain ⟨Q1, K3, B⟩ := B
  refine z_cVI2 (ν := mX10_keenOf) 3 rfl rfl fX10_keenOf gX10_386 ⟨_, rfl, rfl⟩ (by decide) o5 (Nat.le_of_ble_eq_true rfl) K3 (fun v4 h2 q => ?_)
  have B := B v4 h2 q
  refine z_istore_n 4 rfl (by decide) rfl ?_
  refine z_iconst (v := 0) 5 rfl (by decide) ?_
  refine z_istore 6 rfl (by decide) rfl ?_
  refine z_iconst (v := 0) 7 rfl (by decide) ?_
  refine z_istore 8 rfl (by decide) rfl ?_
  exact B
theorem cn_X10_smells {G : zG} {d : Nat} {h : zMem} {Q : Int32 → zMem → Prop} {a0 : Nat} {x1 : Int32} {x2 : Int32} (B : zg G mX10_smells (d + 1) 0 [.ref a0, .int x1, .int x2, zU, zU, zU] [] h (zPI Q)) : zConI G mX10_smells (d + 1) [.ref a0, .int x1, .int x2] h Q := zcon0 (by decide +kernel) eX10_smells (Nat.le_of_ble_eq_true rfl) rfl B
set_option maxRecDepth 100000 in
set_option maxHeartbeats 4000000 in
theorem sg_X10_smells_13 {G : zG} {d : Nat} {h : zMem} {Q : Int32 → zMem → Prop} {a0 : Nat} {x1 : Int32} {x2 : Int32} {x3 : Int32} {x4 : Int32} {x5 : Int32} (B : zO h a0 9 ∧ ∃ r2, zR h a0 3 = some r2 ∧ zO h r2 100 ∧ vp_in (0 : Int32) (zLen h r2) ∧ ((zI h r2 (0 : Int32).toNatClampNeg) ≤ x5 → ∃ Q6 : Int32 → zMem → Prop, zConI G mX10_coldsOf d [.ref a0, .int x1, .int x2] h Q6 ∧ (∀ v9 h7, Q6 v9 h7 → Q (x4 &&& (v9 ^^^ (-1 : Int32))) h7)) ∧ (¬ (zI h r2 (0 : Int32).toNatClampNeg) ≤ x5 → ∃ r10, zR h a0 41 = some r10 ∧ ∃ r11, zR h a0 42 = some r11 ∧ zO h r11 100 ∧ vp_in (((5 : Int32) * x1) + x2) (zLen h r11) ∧ zO h r10 100 ∧ vp_in ((((36 : Int32) * x1) + ((6 : Int32) * (zI h r11 (((5 : Int32) * x1) + x2).toNatClampNeg))) + x5) (zLen h r10) ∧ ((zI h r10 ((((36 : Int32) * x1) + ((6 : Int32) * (zI h r11 (((5 : Int32) * x1) + x2).toNatClampNeg))) + x5).toNatClampNeg) < x3 → zg G mX10_smells (d + 1) 13 [.ref a0, .int x1, .int x2, .int x3, .int (x4 ||| (0 : Int32)), .int (x5 + 1)] [] h (zPI Q)) ∧ (¬ (zI h r10 ((((36 : Int32) * x1) + ((6 : Int32) * (zI h r11 (((5 : Int32) * x1) + x2).toNatClampNeg))) + x5).toNatClampNeg) < x3 → zg G mX10_smells (d + 1) 13 [.ref a0, .int x1, .int x2, .int x3, .int (x4 ||| ((1 : Int32) <<< (x5 &&& 31))), .int (x5 + 1)] [] h (zPI Q)))) : zg G mX10_smells (d + 1) 13 [.ref a0, .int x1, .int x2, .int x3, .int x4, .int x5] [] h (zPI Q) := by
  refine z_iload 9 rfl rfl ?_
  refine z_aload_n 10 rfl rfl ?_
  obtain ⟨o1, B⟩ := B
  obtain ⟨r2, hr2, B⟩ := B
  refine z_getR 11 rfl lX10_13 rfl o1 hr2 ?_
  refine z_iconst (v := 0) 12 rfl (by decide) ?_
  obtain ⟨o3, B⟩ := B
  obtain ⟨o4, B⟩ := B
  refine z_iald 13 rfl o3 o4 ?_
  refine z_icmp_ge 14 73 rfl (by decide) ⟨fun c5 => ?_, fun c5 => ?_⟩
  · have B := B.1 c5
    refine z_iload 46 rfl rfl ?_
    refine z_aload_n 47 rfl rfl ?_
    refine z_iload_n 48 rfl rfl ?_
    refine z_iload_n 49 rfl rfl ?_
    obtain ⟨Q6, K8, B⟩ := B
    refine z_cVI2 (ν := mX10_coldsOf) 50 rfl rfl fX10_coldsOf gX10_389 ⟨_, rfl, rfl⟩ (by decide) o1 (Nat.le_of_ble_eq_true rfl) K8 (fun v9 h7 q => ?_)
    have B := B v9 h7 q
    refine z_iconst (v := -1) 51 rfl (by decide) ?_
    refine z_ixor 52 rfl ?_
    refine z_iand 53 rfl ?_
    exact z_iret 54 rfl rfl rfl ⟨rfl, rfl⟩ ⟨_, rfl, B⟩
  · have B := B.2 c5
    refine z_iload 15 rfl rfl ?_
    refine z_aload_n 16 rfl rfl ?_
    obtain ⟨r10, hr10, B⟩ := B
    refine z_getR 17 rfl lX10_90 rfl o1 hr10 ?_
    refine z_bipush (v := 36) 18 rfl (by decide) ?_
    refine z_iload_n 19 rfl rfl ?_
    refine z_imul 20 rfl ?_
    refine z_bipush (v := 6) 21 rfl (by decide) ?_
    refine z_aload_n 22 rfl rfl ?_
    obtain ⟨r11, hr11, B⟩ := B
    refine z_getR 23 rfl lX10_93 rfl o1 hr11 ?_
    refine z_iconst (v := 5) 24 rfl (by decide) ?_
    refine z_iload_n 25 rfl rfl ?_
    refine z_imul 26 rfl ?_
    refine z_iload_n 27 rfl rfl ?_
    refine z_iadd 28 rfl ?_
    obtain ⟨o12, B⟩ := B
    obtain ⟨o13, B⟩ := B
    refine z_iald 29 rfl o12 o13 ?_
    refine z_imul 30 rfl ?_
    refine z_iadd 31 rfl ?_
    refine z_iload 32 rfl rfl ?_
    refine z_iadd 33 rfl ?_
    obtain ⟨o14, B⟩ := B
    obtain ⟨o15, B⟩ := B
    refine z_iald 34 rfl o14 o15 ?_
    refine z_iload_n 35 rfl rfl ?_
    refine z_icmp_lt 36 63 rfl (by decide) ⟨fun c16 => ?_, fun c16 => ?_⟩
    · have B := B.1 c16
      refine z_iconst (v := 0) 41 rfl (by decide) ?_
      refine z_ior 42 rfl ?_
      refine z_istore 43 rfl (by decide) rfl ?_
      refine z_iinc (v := 1) 44 rfl rfl (by decide) (by decide) rfl ?_
      refine z_goto 45 13 rfl (by decide) ?_
      exact B
    · have B := B.2 c16
      refine z_iconst (v := 1) 37 rfl (by decide) ?_
      refine z_iload 38 rfl rfl ?_
      refine z_ishl 39 rfl ?_
      refine z_goto 40 64 rfl (by decide) ?_
      refine z_ior 42 rfl ?_
      refine z_istore 43 rfl (by decide) rfl ?_
      refine z_iinc (v := 1) 44 rfl rfl (by decide) (by decide) rfl ?_
      refine z_goto 45 13 rfl (by decide) ?_
      exact B
