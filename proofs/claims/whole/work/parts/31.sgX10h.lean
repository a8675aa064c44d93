set_option maxRecDepth 100000 in
set_option maxHeartbeats 4000000 in
theorem sg_X10_placeTo_0 {G : zG} {d : Nat} {h : zMem} {Q : Int32 → zMem → Prop} {a0 : Nat} {x1 : Int32} {x2 : Int32} (B : zO h a0 9 ∧ ∃ Q2 : Int32 → zMem → Prop, zConI G mX10_isMonk d [.ref a0, .int x1] (zsI h a0 0 (0 : Int32)) Q2 ∧ (∀ v5 h3, Q2 v5 h3 → (v5 = 0 → Q (-1 : Int32) h3) ∧ (¬ v5 = 0 → (x2 < 0 → Q (-1 : Int32) h3) ∧ (¬ x2 < 0 → (x2 ≤ (1 : Int32) → zg G mX10_placeTo (d + 1) 32 [.ref a0, .int x1, .int x2, .int (-1 : Int32), .int (0 : Int32), .int (0 : Int32), zU, zU, zU, zU, zU] [] h3 (zPI Q)) ∧ (¬ x2 ≤ (1 : Int32) → Q (-1 : Int32) h3))))) : zg G mX10_placeTo (d + 1) 0 [.ref a0, .int x1, .int x2, zU, zU, zU, zU, zU, zU, zU, zU] [] h (zPI Q) := by
  refine z_aload_n 0 rfl rfl ?_
  refine z_iconst (v := 0) 1 rfl (by decide) ?_
  obtain ⟨o1, B⟩ := B
  refine z_putI 2 rfl lX10_160 ⟨_, _, _, rfl, rfl⟩ rfl rfl rfl o1 ?_
  refine z_aload_n 3 rfl rfl ?_
  refine z_iload_n 4 rfl rfl ?_
  obtain ⟨Q2, K4, B⟩ := B
  refine z_cVI1 (ν := mX10_isMonk) 5 rfl rfl fX10_isMonk gX10_415 ⟨_, rfl, rfl⟩ (by decide) o1 (Nat.le_of_ble_eq_true rfl) K4 (fun v5 h3 q => ?_)
  have B := B v5 h3 q
  refine z_if_eq 6 22 rfl (by decide) ⟨fun c6 => ?_, fun c6 => ?_⟩
  · have B := B.1 c6
    refine z_iconst (v := -1) 12 rfl (by decide) ?_
    exact z_iret 13 rfl rfl rfl ⟨rfl, rfl⟩ ⟨_, rfl, B⟩
  · have B := B.2 c6
    refine z_iload_n 7 rfl rfl ?_
    refine z_if_lt 8 22 rfl (by decide) ⟨fun c7 => ?_, fun c7 => ?_⟩
    · have B := B.1 c7
      refine z_iconst (v := -1) 12 rfl (by decide) ?_
      exact z_iret 13 rfl rfl rfl ⟨rfl, rfl⟩ ⟨_, rfl, B⟩
    · have B := B.2 c7
      refine z_iload_n 9 rfl rfl ?_
      refine z_iconst (v := 1) 10 rfl (by decide) ?_
      refine z_icmp_le 11 24 rfl (by decide) ⟨fun c8 => ?_, fun c8 => ?_⟩
      · have B := B.1 c8
        refine z_iconst (v := -1) 14 rfl (by decide) ?_
        refine z_istore_n 15 rfl (by decide) rfl ?_
        refine z_iconst (v := 0) 16 rfl (by decide) ?_
        refine z_istore 17 rfl (by decide) rfl ?_
        refine z_iconst (v := 0) 18 rfl (by decide) ?_
        refine z_istore 19 rfl (by decide) rfl ?_
        exact B
      · have B := B.2 c8
        refine z_iconst (v := -1) 12 rfl (by decide) ?_
        exact z_iret 13 rfl rfl rfl ⟨rfl, rfl⟩ ⟨_, rfl, B⟩
theorem cn_X10_placeTo {G : zG} {d : Nat} {h : zMem} {Q : Int32 → zMem → Prop} {a0 : Nat} {x1 : Int32} {x2 : Int32} (B : zg G mX10_placeTo (d + 1) 0 [.ref a0, .int x1, .int x2, zU, zU, zU, zU, zU, zU, zU, zU] [] h (zPI Q)) : zConI G mX10_placeTo (d + 1) [.ref a0, .int x1, .int x2] h Q := zcon0 (by decide +kernel) eX10_placeTo (Nat.le_of_ble_eq_true rfl) rfl B
set_option maxRecDepth 100000 in
set_option maxHeartbeats 4000000 in
theorem sg_X10_placeTo_32 {G : zG} {d : Nat} {h : zMem} {Q : Int32 → zMem → Prop} {a0 : Nat} {x1 : Int32} {x2 : Int32} {x3 : Int32} {x4 : Int32} {x5 : Int32} (B : zO h a0 9 ∧ ∃ r2, zR h a0 3 = some r2 ∧ zO h r2 100 ∧ vp_in (3 : Int32) (zLen h r2) ∧ ((zI h r2 (3 : Int32).toNatClampNeg) ≤ x5 → (¬ x2 = 0 → Q x4 h) ∧ (x2 = 0 → Q x3 h)) ∧ (¬ (zI h r2 (3 : Int32).toNatClampNeg) ≤ x5 → ∃ Q7 : Int32 → zMem → Prop, zConI G mX10_keenIn d [.ref a0, .int (0 : Int32), .int x1, .int x5] h Q7 ∧ (∀ v10 h8, Q7 v10 h8 → zg G mX10_placeTo (d + 1) 59 [.ref a0, .int x1, .int x2, .int x3, .int x4, .int x5, .int v10, .int (0 : Int32), .int (0 : Int32), zU, zU] [] h8 (zPI Q)))) : zg G mX10_placeTo (d + 1) 32 [.ref a0, .int x1, .int x2, .int x3, .int x4, .int x5, zU, zU, zU, zU, zU] [] h (zPI Q) := by
  refine z_iload 20 rfl rfl ?_
  refine z_aload_n 21 rfl rfl ?_
  obtain ⟨o1, B⟩ := B
  obtain ⟨r2, hr2, B⟩ := B
  refine z_getR 22 rfl lX10_13 rfl o1 hr2 ?_
  refine z_iconst (v := 3) 23 rfl (by decide) ?_
  obtain ⟨o3, B⟩ := B
  obtain ⟨o4, B⟩ := B
  refine z_iald 24 rfl o3 o4 ?_
  refine z_icmp_ge 25 181 rfl (by decide) ⟨fun c5 => ?_, fun c5 => ?_⟩
  · have B := B.1 c5
    refine z_iload_n 98 rfl rfl ?_
    refine z_if_ne 99 189 rfl (by decide) ⟨fun c6 => ?_, fun c6 => ?_⟩
    · have B := B.1 c6
      refine z_iload 102 rfl rfl ?_
      exact z_iret 103 rfl rfl rfl ⟨rfl, rfl⟩ ⟨_, rfl, B⟩
    · have B := B.2 c6
      refine z_iload_n 100 rfl rfl ?_
      refine z_goto 101 191 rfl (by decide) ?_
      exact z_iret 103 rfl rfl rfl ⟨rfl, rfl⟩ ⟨_, rfl, B⟩
  · have B := B.2 c5
    refine z_aload_n 26 rfl rfl ?_
    refine z_iconst (v := 0) 27 rfl (by decide) ?_
    refine z_iload_n 28 rfl rfl ?_
    refine z_iload 29 rfl rfl ?_
    obtain ⟨Q7, K9, B⟩ := B
    refine z_cVI3 (ν := mX10_keenIn) 30 rfl rfl fX10_keenIn gX10_379 ⟨_, rfl, rfl⟩ (by decide) o1 (Nat.le_of_ble_eq_true rfl) K9 (fun v10 h8 q => ?_)
    have B := B v10 h8 q
    refine z_istore 31 rfl (by decide) rfl ?_
    refine z_iconst (v := 0) 32 rfl (by decide) ?_
    refine z_istore 33 rfl (by decide) rfl ?_
    refine z_iconst (v := 0) 34 rfl (by decide) ?_
    refine z_istore 35 rfl (by decide) rfl ?_
    exact B
set_option maxRecDepth 100000 in
set_option maxHeartbeats 4000000 in
theorem sg_X10_placeTo_59 {G : zG} {d : Nat} {h : zMem} {Q : Int32 → zMem → Prop} {a0 : Nat} {x1 : Int32} {x2 : Int32} {x3 : Int32} {x4 : Int32} {x5 : Int32} {x6 : Int32} {x7 : Int32} {x8 : Int32} (B : zO h a0 9 ∧ ∃ r2, zR h a0 3 = some r2 ∧ zO h r2 100 ∧ vp_in (1 : Int32) (zLen h r2) ∧ ((zI h r2 (1 : Int32).toNatClampNeg) ≤ x8 → (x3 = (-1 : Int32) → zg G mX10_placeTo (d + 1) 32 [.ref a0, .int x1, .int x2, .int x5, .int x7, .int (x5 + 1), zU, zU, zU, zU, zU] [] h (zPI Q)) ∧ (¬ x3 = (-1 : Int32) → (x4 < x7 → zg G mX10_placeTo (d + 1) 32 [.ref a0, .int x1, .int x2, .int x5, .int x7, .int (x5 + 1), zU, zU, zU, zU, zU] [] h (zPI Q)) ∧ (¬ x4 < x7 → zg G mX10_placeTo (d + 1) 32 [.ref a0, .int x1, .int x2, .int x3, .int x4, .int (x5 + 1), zU, zU, zU, zU, zU] [] h (zPI Q)))) ∧ (¬ (zI h r2 (1 : Int32).toNatClampNeg) ≤ x8 → ∃ r8, zR h a0 57 = some r8 ∧ ∃ r9, zR h a0 43 = some r9 ∧ zO h r9 100 ∧ vp_in x1 (zLen h r9) ∧ ∃ Q12 : Int32 → zMem → Prop, zConI G mX10_markBy d [.ref a0, .int x8, .int x5, .int x6, .int (zI h r9 x1.toNatClampNeg)] h Q12 ∧ (∀ v15 h13, Q12 v15 h13 → zO h13 r8 100 ∧ vp_in x8 (zLen h13 r8) ∧ zg G mX10_placeTo (d + 1) 99 [.ref a0, .int x1, .int x2, .int x3, .int x4, .int x5, .int x6, .int x7, .int x8, .int (1 : Int32), .int (0 : Int32)] [] (zsI h13 r8 x8.toNatClampNeg v15) (zPI Q)))) : zg G mX10_placeTo (d + 1) 59 [.ref a0, .int x1, .int x2, .int x3, .int x4, .int x5, .int x6, .int x7, .int x8, zU, zU] [] h (zPI Q) := by
  refine z_iload 36 rfl rfl ?_
  refine z_aload_n 37 rfl rfl ?_
  obtain ⟨o1, B⟩ := B
  obtain ⟨r2, hr2, B⟩ := B
  refine z_getR 38 rfl lX10_13 rfl o1 hr2 ?_
  refine z_iconst (v := 1) 39 rfl (by decide) ?_
  obtain ⟨o3, B⟩ := B
  obtain ⟨o4, B⟩ := B
  refine z_iald 40 rfl o3 o4 ?_
  refine z_icmp_ge 41 153 rfl (by decide) ⟨fun c5 => ?_, fun c5 => ?_⟩
  · have B := B.1 c5
    refine z_iload_n 85 rfl rfl ?_
    refine z_iconst (v := -1) 86 rfl (by decide) ?_
    refine z_icmp_eq 87 168 rfl (by decide) ⟨fun c6 => ?_, fun c6 => ?_⟩
    · have B := B.1 c6
      refine z_iload 92 rfl rfl ?_
      refine z_istore_n 93 rfl (by decide) rfl ?_
      refine z_iload 94 rfl rfl ?_
      refine z_istore 95 rfl (by decide) rfl ?_
      refine z_iinc (v := 1) 96 rfl rfl (by decide) (by decide) rfl ?_
      refine z_goto 97 32 rfl (by decide) ?_
      refine z_drop 6 ?_
      refine z_drop 7 ?_
      refine z_drop 8 ?_
      exact B
    · have B := B.2 c6
      refine z_iload 88 rfl rfl ?_
      refine z_iload 89 rfl rfl ?_
      refine z_icmp_gt 90 168 rfl (by decide) ⟨fun c7 => ?_, fun c7 => ?_⟩
      · have B := B.1 c7
        refine z_iload 92 rfl rfl ?_
        refine z_istore_n 93 rfl (by decide) rfl ?_
        refine z_iload 94 rfl rfl ?_
        refine z_istore 95 rfl (by decide) rfl ?_
        refine z_iinc (v := 1) 96 rfl rfl (by decide) (by decide) rfl ?_
        refine z_goto 97 32 rfl (by decide) ?_
        refine z_drop 6 ?_
        refine z_drop 7 ?_
        refine z_drop 8 ?_
        exact B
      · have B := B.2 c7
        refine z_goto 91 175 rfl (by decide) ?_
        refine z_iinc (v := 1) 96 rfl rfl (by decide) (by decide) rfl ?_
        refine z_goto 97 32 rfl (by decide) ?_
        refine z_drop 6 ?_
        refine z_drop 7 ?_
        refine z_drop 8 ?_
        exact B
  · have B := B.2 c5
    refine z_aload_n 42 rfl rfl ?_
    obtain ⟨r8, hr8, B⟩ := B
    refine z_getR 43 rfl lX10_126 rfl o1 hr8 ?_
    refine z_iload 44 rfl rfl ?_
    refine z_aload_n 45 rfl rfl ?_
    refine z_iload 46 rfl rfl ?_
    refine z_iload 47 rfl rfl ?_
    refine z_iload 48 rfl rfl ?_
    refine z_aload_n 49 rfl rfl ?_
    obtain ⟨r9, hr9, B⟩ := B
    refine z_getR 50 rfl lX10_96 rfl o1 hr9 ?_
    refine z_iload_n 51 rfl rfl ?_
    obtain ⟨o10, B⟩ := B
    obtain ⟨o11, B⟩ := B
    refine z_iald 52 rfl o10 o11 ?_
    obtain ⟨Q12, K14, B⟩ := B
    refine z_cVI4 (ν := mX10_markBy) 53 rfl rfl fX10_markBy gX10_392 ⟨_, rfl, rfl⟩ (by decide) o1 (Nat.le_of_ble_eq_true rfl) K14 (fun v15 h13 q => ?_)
    have B := B v15 h13 q
    obtain ⟨o16, B⟩ := B
    obtain ⟨o17, B⟩ := B
    refine z_iast 54 rfl o16 o17 ?_
    refine z_iconst (v := 1) 55 rfl (by decide) ?_
    refine z_istore 56 rfl (by decide) rfl ?_
    refine z_iconst (v := 0) 57 rfl (by decide) ?_
    refine z_istore 58 rfl (by decide) rfl ?_
    exact B
set_option maxRecDepth 100000 in
set_option maxHeartbeats 4000000 in
theorem sg_X10_placeTo_99 {G : zG} {d : Nat} {h : zMem} {Q : Int32 → zMem → Prop} {a0 : Nat} {x1 : Int32} {x2 : Int32} {x3 : Int32} {x4 : Int32} {x5 : Int32} {x6 : Int32} {x7 : Int32} {x8 : Int32} {x9 : Int32} {x10 : Int32} (B : (x8 ≤ x10 → (x9 = 0 → zg G mX10_placeTo (d + 1) 59 [.ref a0, .int x1, .int x2, .int x3, .int x4, .int x5, .int x6, .int (x7 + (0 : Int32)), .int (x8 + 1), zU, zU] [] h (zPI Q)) ∧ (¬ x9 = 0 → zg G mX10_placeTo (d + 1) 59 [.ref a0, .int x1, .int x2, .int x3, .int x4, .int x5, .int x6, .int (x7 + (1 : Int32)), .int (x8 + 1), zU, zU] [] h (zPI Q))) ∧ (¬ x8 ≤ x10 → zO h a0 9 ∧ ∃ r4, zR h a0 57 = some r4 ∧ zO h r4 100 ∧ vp_in x10 (zLen h r4) ∧ vp_in x8 (zLen h r4) ∧ (¬ (zI h r4 x10.toNatClampNeg) = (zI h r4 x8.toNatClampNeg) → zg G mX10_placeTo (d + 1) 99 [.ref a0, .int x1, .int x2, .int x3, .int x4, .int x5, .int x6, .int x7, .int x8, .int x9, .int (x10 + 1)] [] h (zPI Q)) ∧ ((zI h r4 x10.toNatClampNeg) = (zI h r4 x8.toNatClampNeg) → zg G mX10_placeTo (d + 1) 99 [.ref a0, .int x1, .int x2, .int x3, .int x4, .int x5, .int x6, .int x7, .int x8, .int (0 : Int32), .int (x10 + 1)] [] h (zPI Q)))) : zg G mX10_placeTo (d + 1) 99 [.ref a0, .int x1, .int x2, .int x3, .int x4, .int x5, .int x6, .int x7, .int x8, .int x9, .int x10] [] h (zPI Q) := by
  refine z_iload 59 rfl rfl ?_
  refine z_iload 60 rfl rfl ?_
  refine z_icmp_ge 61 132 rfl (by decide) ⟨fun c1 => ?_, fun c1 => ?_⟩
  · have B := B.1 c1
    refine z_iload 75 rfl rfl ?_
    refine z_iload 76 rfl rfl ?_
    refine z_if_eq 77 143 rfl (by decide) ⟨fun c2 => ?_, fun c2 => ?_⟩
    · have B := B.1 c2
      refine z_iconst (v := 0) 80 rfl (by decide) ?_
      refine z_iadd 81 rfl ?_
      refine z_istore 82 rfl (by decide) rfl ?_
      refine z_iinc (v := 1) 83 rfl rfl (by decide) (by decide) rfl ?_
      refine z_goto 84 59 rfl (by decide) ?_
      refine z_drop 9 ?_
      refine z_drop 10 ?_
      exact B
    · have B := B.2 c2
      refine z_iconst (v := 1) 78 rfl (by decide) ?_
      refine z_goto 79 144 rfl (by decide) ?_
      refine z_iadd 81 rfl ?_
      refine z_istore 82 rfl (by decide) rfl ?_
      refine z_iinc (v := 1) 83 rfl rfl (by decide) (by decide) rfl ?_
      refine z_goto 84 59 rfl (by decide) ?_
      refine z_drop 9 ?_
      refine z_drop 10 ?_
      exact B
  · have B := B.2 c1
    refine z_aload_n 62 rfl rfl ?_
    obtain ⟨o3, B⟩ := B
    obtain ⟨r4, hr4, B⟩ := B
    refine z_getR 63 rfl lX10_126 rfl o3 hr4 ?_
    refine z_iload 64 rfl rfl ?_
    obtain ⟨o5, B⟩ := B
    obtain ⟨o6, B⟩ := B
    refine z_iald 65 rfl o5 o6 ?_
    refine z_aload_n 66 rfl rfl ?_
    refine z_getR 67 rfl lX10_126 rfl o3 hr4 ?_
    refine z_iload 68 rfl rfl ?_
    obtain ⟨o7, B⟩ := B
    refine z_iald 69 rfl o5 o7 ?_
    refine z_icmp_ne 70 126 rfl (by decide) ⟨fun c8 => ?_, fun c8 => ?_⟩
    · have B := B.1 c8
      refine z_iinc (v := 1) 73 rfl rfl (by decide) (by decide) rfl ?_
      refine z_goto 74 99 rfl (by decide) ?_
      exact B
    · have B := B.2 c8
      refine z_iconst (v := 0) 71 rfl (by decide) ?_
      refine z_istore 72 rfl (by decide) rfl ?_
      refine z_iinc (v := 1) 73 rfl rfl (by decide) (by decide) rfl ?_
      refine z_goto 74 99 rfl (by decide) ?_
      exact B
set_option maxRecDepth 100000 in
set_option maxHeartbeats 4000000 in
theorem sg_X10_lasts_0 {G : zG} {d : Nat} {h : zMem} {Q : Int32 → zMem → Prop} {a0 : Nat} {x1 : Int32} (B : zO h a0 9 ∧ (x1 < 0 → Q (-1 : Int32) (zsI h a0 0 (0 : Int32))) ∧ (¬ x1 < 0 → (x1 ≤ (1 : Int32) → ∃ Q4 : zMem → Prop, zConV G mX10_copies d [.ref a0, .int (1 : Int32), .int (0 : Int32)] (zsI h a0 0 (0 : Int32)) Q4 ∧ (∀ h5, Q4 h5 → zg G mX10_lasts (d + 1) 24 [.ref a0, .int x1, .int (0 : Int32), zU] [] h5 (zPI Q))) ∧ (¬ x1 ≤ (1 : Int32) → Q (-1 : Int32) (zsI h a0 0 (0 : Int32))))) : zg G mX10_lasts (d + 1) 0 [.ref a0, .int x1, zU, zU] [] h (zPI Q) := by
  refine z_aload_n 0 rfl rfl ?_
  refine z_iconst (v := 0) 1 rfl (by decide) ?_
  obtain ⟨o1, B⟩ := B
  refine z_putI 2 rfl lX10_160 ⟨_, _, _, rfl, rfl⟩ rfl rfl rfl o1 ?_
  refine z_iload_n 3 rfl rfl ?_
  refine z_if_lt 4 14 rfl (by decide) ⟨fun c2 => ?_, fun c2 => ?_⟩
  · have B := B.1 c2
    refine z_iconst (v := -1) 8 rfl (by decide) ?_
    exact z_iret 9 rfl rfl rfl ⟨rfl, rfl⟩ ⟨_, rfl, B⟩
  · have B := B.2 c2
    refine z_iload_n 5 rfl rfl ?_
    refine z_iconst (v := 1) 6 rfl (by decide) ?_
    refine z_icmp_le 7 16 rfl (by decide) ⟨fun c3 => ?_, fun c3 => ?_⟩
    · have B := B.1 c3
      refine z_aload_n 10 rfl rfl ?_
      refine z_iconst (v := 1) 11 rfl (by decide) ?_
      refine z_iconst (v := 0) 12 rfl (by decide) ?_
      obtain ⟨Q4, K6, B⟩ := B
      refine z_cVV2 (ν := mX10_copies) 13 rfl rfl fX10_copies gX10_434 ⟨_, rfl, rfl⟩ (by decide) o1 (Nat.le_of_ble_eq_true rfl) K6 (fun h5 q => ?_)
      have B := B h5 q
      refine z_iconst (v := 0) 14 rfl (by decide) ?_
      refine z_istore_n 15 rfl (by decide) rfl ?_
      exact B
    · have B := B.2 c3
      refine z_iconst (v := -1) 8 rfl (by decide) ?_
      exact z_iret 9 rfl rfl rfl ⟨rfl, rfl⟩ ⟨_, rfl, B⟩
theorem cn_X10_lasts {G : zG} {d : Nat} {h : zMem} {Q : Int32 → zMem → Prop} {a0 : Nat} {x1 : Int32} (B : zg G mX10_lasts (d + 1) 0 [.ref a0, .int x1, zU, zU] [] h (zPI Q)) : zConI G mX10_lasts (d + 1) [.ref a0, .int x1] h Q := zcon0 (by decide +kernel) eX10_lasts (Nat.le_of_ble_eq_true rfl) rfl B
set_option maxRecDepth 100000 in
set_option maxHeartbeats 4000000 in
theorem sg_X10_lasts_24 {G : zG} {d : Nat} {h : zMem} {Q : Int32 → zMem → Prop} {a0 : Nat} {x1 : Int32} {x2 : Int32} (B : ((200 : Int32) ≤ x2 → (¬ x1 = 0 → Q (-2 : Int32) h) ∧ (x1 = 0 → Q (200 : Int32) h)) ∧ (¬ (200 : Int32) ≤ x2 → zg G mX10_lasts (d + 1) 33 [.ref a0, .int x1, .int x2, .int (0 : Int32)] [] h (zPI Q))) : zg G mX10_lasts (d + 1) 24 [.ref a0, .int x1, .int x2, zU] [] h (zPI Q) := by
  refine z_iload_n 16 rfl rfl ?_
  refine z_sipush (v := 200) 17 rfl (by decide) ?_
  refine z_icmp_ge 18 165 rfl (by decide) ⟨fun c1 => ?_, fun c1 => ?_⟩
  · have B := B.1 c1
    refine z_iload_n 101 rfl rfl ?_
    refine z_if_ne 102 175 rfl (by decide) ⟨fun c2 => ?_, fun c2 => ?_⟩
    · have B := B.1 c2
      refine z_bipush (v := -2) 105 rfl (by decide) ?_
      exact z_iret 106 rfl rfl rfl ⟨rfl, rfl⟩ ⟨_, rfl, B⟩
    · have B := B.2 c2
      refine z_sipush (v := 200) 103 rfl (by decide) ?_
      refine z_goto 104 177 rfl (by decide) ?_
      exact z_iret 106 rfl rfl rfl ⟨rfl, rfl⟩ ⟨_, rfl, B⟩
  · have B := B.2 c1
    refine z_iconst (v := 0) 19 rfl (by decide) ?_
    refine z_istore_n 20 rfl (by decide) rfl ?_
    exact B
set_option maxRecDepth 100000 in
set_option maxHeartbeats 4000000 in
theorem sg_X10_lasts_33 {G : zG} {d : Nat} {h : zMem} {Q : Int32 → zMem → Prop} {a0 : Nat} {x1 : Int32} {x2 : Int32} {x3 : Int32} (B : zO h a0 9 ∧ ∃ r2, zR h a0 3 = some r2 ∧ zO h r2 100 ∧ vp_in (0 : Int32) (zLen h r2) ∧ ((zI h r2 (0 : Int32).toNatClampNeg) ≤ x3 → zg G mX10_lasts (d + 1) 102 [.ref a0, .int x1, .int x2, .int (0 : Int32)] [] h (zPI Q)) ∧ (¬ (zI h r2 (0 : Int32).toNatClampNeg) ≤ x3 → vp_in (1 : Int32) (zLen h r2) ∧ ((zI h r2 (1 : Int32).toNatClampNeg) ≤ 0 → zg G mX10_lasts (d + 1) 102 [.ref a0, .int x1, .int x2, .int (0 : Int32)] [] h (zPI Q)) ∧ (¬ (zI h r2 (1 : Int32).toNatClampNeg) ≤ 0 → ∃ r8, zR h a0 34 = some r8 ∧ zO h r8 100 ∧ vp_in (1 : Int32) (zLen h r8) ∧ ¬ (zI h r2 (1 : Int32).toNatClampNeg) = 0 ∧ ∃ Q12 : Int32 → zMem → Prop, zConI G mX10_mixOf d [.ref a0, .int (((zI h r8 (1 : Int32).toNatClampNeg) + x2) - ((zI h r8 (1 : Int32).toNatClampNeg) + x2) / (zI h r2 (1 : Int32).toNatClampNeg) * (zI h r2 (1 : Int32).toNatClampNeg)), .int x3] h Q12 ∧ (∀ v15 h13, Q12 v15 h13 → zO h13 a0 9 ∧ ∃ r17, zR h13 a0 39 = some r17 ∧ zO h13 r17 100 ∧ vp_in ((6 : Int32) + x3) (zLen h13 r17) ∧ (v15 ≤ (zI h13 r17 ((6 : Int32) + x3).toNatClampNeg) → zg G mX10_lasts (d + 1) 33 [.ref a0, .int x1, .int x2, .int (x3 + 1)] [] h13 (zPI Q)) ∧ (¬ v15 ≤ (zI h13 r17 ((6 : Int32) + x3).toNatClampNeg) → (¬ x1 = 0 → Q x3 h13) ∧ (x1 = 0 → Q x2 h13)))))) : zg G mX10_lasts (d + 1) 33 [.ref a0, .int x1, .int x2, .int x3] [] h (zPI Q) := by
  refine z_iload_n 21 rfl rfl ?_
  refine z_aload_n 22 rfl rfl ?_
  obtain ⟨o1, B⟩ := B
  obtain ⟨r2, hr2, B⟩ := B
  refine z_getR 23 rfl lX10_13 rfl o1 hr2 ?_
  refine z_iconst (v := 0) 24 rfl (by decide) ?_
  obtain ⟨o3, B⟩ := B
  obtain ⟨o4, B⟩ := B
  refine z_iald 25 rfl o3 o4 ?_
  refine z_icmp_ge 26 100 rfl (by decide) ⟨fun c5 => ?_, fun c5 => ?_⟩
  · have B := B.1 c5
    refine z_iconst (v := 0) 61 rfl (by decide) ?_
    refine z_istore_n 62 rfl (by decide) rfl ?_
    exact B
  · have B := B.2 c5
    refine z_aload_n 27 rfl rfl ?_
    refine z_getR 28 rfl lX10_13 rfl o1 hr2 ?_
    refine z_iconst (v := 1) 29 rfl (by decide) ?_
    obtain ⟨o6, B⟩ := B
    refine z_iald 30 rfl o3 o6 ?_
    refine z_if_le 31 100 rfl (by decide) ⟨fun c7 => ?_, fun c7 => ?_⟩
    · have B := B.1 c7
      refine z_iconst (v := 0) 61 rfl (by decide) ?_
      refine z_istore_n 62 rfl (by decide) rfl ?_
      exact B
    · have B := B.2 c7
      refine z_aload_n 32 rfl rfl ?_
      refine z_aload_n 33 rfl rfl ?_
      obtain ⟨r8, hr8, B⟩ := B
      refine z_getR 34 rfl lX10_69 rfl o1 hr8 ?_
      refine z_iconst (v := 1) 35 rfl (by decide) ?_
      obtain ⟨o9, B⟩ := B
      obtain ⟨o10, B⟩ := B
      refine z_iald 36 rfl o9 o10 ?_
      refine z_iload_n 37 rfl rfl ?_
      refine z_iadd 38 rfl ?_
      refine z_aload_n 39 rfl rfl ?_
      refine z_getR 40 rfl lX10_13 rfl o1 hr2 ?_
      refine z_iconst (v := 1) 41 rfl (by decide) ?_
      refine z_iald 42 rfl o3 o6 ?_
      obtain ⟨o11, B⟩ := B
      refine z_irem 43 rfl o11 ?_
      refine z_iload_n 44 rfl rfl ?_
      obtain ⟨Q12, K14, B⟩ := B
      refine z_cVI2 (ν := mX10_mixOf) 45 rfl rfl fX10_mixOf gX10_383 ⟨_, rfl, rfl⟩ (by decide) o1 (Nat.le_of_ble_eq_true rfl) K14 (fun v15 h13 q => ?_)
      have B := B v15 h13 q
      refine z_aload_n 46 rfl rfl ?_
      obtain ⟨o16, B⟩ := B
      obtain ⟨r17, hr17, B⟩ := B
      refine z_getR 47 rfl lX10_84 rfl o16 hr17 ?_
      refine z_bipush (v := 6) 48 rfl (by decide) ?_
      refine z_iload_n 49 rfl rfl ?_
      refine z_iadd 50 rfl ?_
      obtain ⟨o18, B⟩ := B
      obtain ⟨o19, B⟩ := B
      refine z_iald 51 rfl o18 o19 ?_
      refine z_icmp_le 52 94 rfl (by decide) ⟨fun c20 => ?_, fun c20 => ?_⟩
      · have B := B.1 c20
        refine z_iinc (v := 1) 59 rfl rfl (by decide) (by decide) rfl ?_
        refine z_goto 60 33 rfl (by decide) ?_
        exact B
      · have B := B.2 c20
        refine z_iload_n 53 rfl rfl ?_
        refine z_if_ne 54 92 rfl (by decide) ⟨fun c21 => ?_, fun c21 => ?_⟩
        · have B := B.1 c21
          refine z_iload_n 57 rfl rfl ?_
          exact z_iret 58 rfl rfl rfl ⟨rfl, rfl⟩ ⟨_, rfl, B⟩
        · have B := B.2 c21
          refine z_iload_n 55 rfl rfl ?_
          refine z_goto 56 93 rfl (by decide) ?_
          exact z_iret 58 rfl rfl rfl ⟨rfl, rfl⟩ ⟨_, rfl, B⟩
set_option maxRecDepth 100000 in
set_option maxHeartbeats 4000000 in
theorem sg_X10_lasts_102 {G : zG} {d : Nat} {h : zMem} {Q : Int32 → zMem → Prop} {a0 : Nat} {x1 : Int32} {x2 : Int32} {x3 : Int32} (B : zO h a0 9 ∧ ∃ r2, zR h a0 3 = some r2 ∧ zO h r2 100 ∧ vp_in (0 : Int32) (zLen h r2) ∧ ((zI h r2 (0 : Int32).toNatClampNeg) ≤ x3 → zg G mX10_lasts (d + 1) 24 [.ref a0, .int x1, .int (x2 + 1), zU] [] h (zPI Q)) ∧ (¬ (zI h r2 (0 : Int32).toNatClampNeg) ≤ x3 → vp_in (1 : Int32) (zLen h r2) ∧ ((zI h r2 (1 : Int32).toNatClampNeg) ≤ 0 → zg G mX10_lasts (d + 1) 24 [.ref a0, .int x1, .int (x2 + 1), zU] [] h (zPI Q)) ∧ (¬ (zI h r2 (1 : Int32).toNatClampNeg) ≤ 0 → ∃ r8, zR h a0 39 = some r8 ∧ zO h r8 100 ∧ vp_in ((6 : Int32) + x3) (zLen h r8) ∧ ∃ r11, zR h a0 34 = some r11 ∧ zO h r11 100 ∧ vp_in (1 : Int32) (zLen h r11) ∧ ¬ (zI h r2 (1 : Int32).toNatClampNeg) = 0 ∧ ∃ Q15 : Int32 → zMem → Prop, zConI G mX10_mixOf d [.ref a0, .int (((zI h r11 (1 : Int32).toNatClampNeg) + x2) - ((zI h r11 (1 : Int32).toNatClampNeg) + x2) / (zI h r2 (1 : Int32).toNatClampNeg) * (zI h r2 (1 : Int32).toNatClampNeg)), .int x3] h Q15 ∧ (∀ v18 h16, Q15 v18 h16 → zO h16 r8 100 ∧ vp_in ((6 : Int32) + x3) (zLen h16 r8) ∧ zg G mX10_lasts (d + 1) 102 [.ref a0, .int x1, .int x2, .int (x3 + 1)] [] (zsI h16 r8 ((6 : Int32) + x3).toNatClampNeg ((zI h r8 ((6 : Int32) + x3).toNatClampNeg) - v18)) (zPI Q))))) : zg G mX10_lasts (d + 1) 102 [.ref a0, .int x1, .int x2, .int x3] [] h (zPI Q) := by
  refine z_iload_n 63 rfl rfl ?_
  refine z_aload_n 64 rfl rfl ?_
  obtain ⟨o1, B⟩ := B
  obtain ⟨r2, hr2, B⟩ := B
  refine z_getR 65 rfl lX10_13 rfl o1 hr2 ?_
  refine z_iconst (v := 0) 66 rfl (by decide) ?_
  obtain ⟨o3, B⟩ := B
  obtain ⟨o4, B⟩ := B
  refine z_iald 67 rfl o3 o4 ?_
  refine z_icmp_ge 68 159 rfl (by decide) ⟨fun c5 => ?_, fun c5 => ?_⟩
  · have B := B.1 c5
    refine z_iinc (v := 1) 99 rfl rfl (by decide) (by decide) rfl ?_
    refine z_goto 100 24 rfl (by decide) ?_
    refine z_drop 3 ?_
    exact B
  · have B := B.2 c5
    refine z_aload_n 69 rfl rfl ?_
    refine z_getR 70 rfl lX10_13 rfl o1 hr2 ?_
    refine z_iconst (v := 1) 71 rfl (by decide) ?_
    obtain ⟨o6, B⟩ := B
    refine z_iald 72 rfl o3 o6 ?_
    refine z_if_le 73 159 rfl (by decide) ⟨fun c7 => ?_, fun c7 => ?_⟩
    · have B := B.1 c7
      refine z_iinc (v := 1) 99 rfl rfl (by decide) (by decide) rfl ?_
      refine z_goto 100 24 rfl (by decide) ?_
      refine z_drop 3 ?_
      exact B
    · have B := B.2 c7
      refine z_aload_n 74 rfl rfl ?_
      obtain ⟨r8, hr8, B⟩ := B
      refine z_getR 75 rfl lX10_84 rfl o1 hr8 ?_
      refine z_bipush (v := 6) 76 rfl (by decide) ?_
      refine z_iload_n 77 rfl rfl ?_
      refine z_iadd 78 rfl ?_
      refine z_dup2 79 rfl rfl rfl ?_
      obtain ⟨o9, B⟩ := B
      obtain ⟨o10, B⟩ := B
      refine z_iald 80 rfl o9 o10 ?_
      refine z_aload_n 81 rfl rfl ?_
      refine z_aload_n 82 rfl rfl ?_
      obtain ⟨r11, hr11, B⟩ := B
      refine z_getR 83 rfl lX10_69 rfl o1 hr11 ?_
      refine z_iconst (v := 1) 84 rfl (by decide) ?_
      obtain ⟨o12, B⟩ := B
      obtain ⟨o13, B⟩ := B
      refine z_iald 85 rfl o12 o13 ?_
      refine z_iload_n 86 rfl rfl ?_
      refine z_iadd 87 rfl ?_
      refine z_aload_n 88 rfl rfl ?_
      refine z_getR 89 rfl lX10_13 rfl o1 hr2 ?_
      refine z_iconst (v := 1) 90 rfl (by decide) ?_
      refine z_iald 91 rfl o3 o6 ?_
      obtain ⟨o14, B⟩ := B
      refine z_irem 92 rfl o14 ?_
      refine z_iload_n 93 rfl rfl ?_
      obtain ⟨Q15, K17, B⟩ := B
      refine z_cVI2 (ν := mX10_mixOf) 94 rfl rfl fX10_mixOf gX10_383 ⟨_, rfl, rfl⟩ (by decide) o1 (Nat.le_of_ble_eq_true rfl) K17 (fun v18 h16 q => ?_)
      have B := B v18 h16 q
      refine z_isub 95 rfl ?_
      obtain ⟨o19, B⟩ := B
      obtain ⟨o20, B⟩ := B
      refine z_iast 96 rfl o19 o20 ?_
      refine z_iinc (v := 1) 97 rfl rfl (by decide) (by decide) rfl ?_
      refine z_goto 98 102 rfl (by decide) ?_
      exact B
set_option maxRecDepth 100000 in
set_option maxHeartbeats 4000000 in
theorem sg_X10_needs_0 {G : zG} {d : Nat} {h : zMem} {Q : Int32 → zMem → Prop} {a0 : Nat} {x1 : Int32} {x2 : Int32} (B : zO h a0 9 ∧ ∃ Q2 : Int32 → zMem → Prop, zConI G mX10_isStuff d [.ref a0, .int x1] (zsI h a0 0 (0 : Int32)) Q2 ∧ (∀ v5 h3, Q2 v5 h3 → (v5 = 0 → Q (-1 : Int32) h3) ∧ (¬ v5 = 0 → (x2 < 0 → Q (-1 : Int32) h3) ∧ (¬ x2 < 0 → (x2 ≤ (99 : Int32) → zg G mX10_needs (d + 1) 30 [.ref a0, .int x1, .int x2, .int (0 : Int32), .int (0 : Int32)] [] h3 (zPI Q)) ∧ (¬ x2 ≤ (99 : Int32) → Q (-1 : Int32) h3))))) : zg G mX10_needs (d + 1) 0 [.ref a0, .int x1, .int x2, zU, zU] [] h (zPI Q) := by
  refine z_aload_n 0 rfl rfl ?_
  refine z_iconst (v := 0) 1 rfl (by decide) ?_
  obtain ⟨o1, B⟩ := B
  refine z_putI 2 rfl lX10_160 ⟨_, _, _, rfl, rfl⟩ rfl rfl rfl o1 ?_
  refine z_aload_n 3 rfl rfl ?_
  refine z_iload_n 4 rfl rfl ?_
  obtain ⟨Q2, K4, B⟩ := B
  refine z_cVI1 (ν := mX10_isStuff) 5 rfl rfl fX10_isStuff gX10_418 ⟨_, rfl, rfl⟩ (by decide) o1 (Nat.le_of_ble_eq_true rfl) K4 (fun v5 h3 q => ?_)
  have B := B v5 h3 q
  refine z_if_eq 6 23 rfl (by decide) ⟨fun c6 => ?_, fun c6 => ?_⟩
  · have B := B.1 c6
    refine z_iconst (v := -1) 12 rfl (by decide) ?_
    exact z_iret 13 rfl rfl rfl ⟨rfl, rfl⟩ ⟨_, rfl, B⟩
  · have B := B.2 c6
    refine z_iload_n 7 rfl rfl ?_
    refine z_if_lt 8 23 rfl (by decide) ⟨fun c7 => ?_, fun c7 => ?_⟩
    · have B := B.1 c7
      refine z_iconst (v := -1) 12 rfl (by decide) ?_
      exact z_iret 13 rfl rfl rfl ⟨rfl, rfl⟩ ⟨_, rfl, B⟩
    · have B := B.2 c7
      refine z_iload_n 9 rfl rfl ?_
      refine z_bipush (v := 99) 10 rfl (by decide) ?_
      refine z_icmp_le 11 25 rfl (by decide) ⟨fun c8 => ?_, fun c8 => ?_⟩
      · have B := B.1 c8
        refine z_iconst (v := 0) 14 rfl (by decide) ?_
        refine z_istore_n 15 rfl (by decide) rfl ?_
        refine z_iconst (v := 0) 16 rfl (by decide) ?_
        refine z_istore 17 rfl (by decide) rfl ?_
        exact B
      · have B := B.2 c8
        refine z_iconst (v := -1) 12 rfl (by decide) ?_
        exact z_iret 13 rfl rfl rfl ⟨rfl, rfl⟩ ⟨_, rfl, B⟩
theorem cn_X10_needs {G : zG} {d : Nat} {h : zMem} {Q : Int32 → zMem → Prop} {a0 : Nat} {x1 : Int32} {x2 : Int32} (B : zg G mX10_needs (d + 1) 0 [.ref a0, .int x1, .int x2, zU, zU] [] h (zPI Q)) : zConI G mX10_needs (d + 1) [.ref a0, .int x1, .int x2] h Q := zcon0 (by decide +kernel) eX10_needs (Nat.le_of_ble_eq_true rfl) rfl B
set_option maxRecDepth 100000 in
set_option maxHeartbeats 4000000 in
theorem sg_X10_needs_30 {G : zG} {d : Nat} {h : zMem} {Q : Int32 → zMem → Prop} {a0 : Nat} {x1 : Int32} {x2 : Int32} {x3 : Int32} {x4 : Int32} (B : (x2 ≤ x4 → zO h a0 9 ∧ ∃ r3, zR h a0 39 = some r3 ∧ zO h r3 100 ∧ vp_in x1 (zLen h r3) ∧ Q (if (0 : Int32) < (x3 - (zI h r3 x1.toNatClampNeg)) then (x3 - (zI h r3 x1.toNatClampNeg)) else (0 : Int32)) h) ∧ (¬ x2 ≤ x4 → zO h a0 9 ∧ ∃ r7, zR h a0 3 = some r7 ∧ zO h r7 100 ∧ vp_in (1 : Int32) (zLen h r7) ∧ ((zI h r7 (1 : Int32).toNatClampNeg) ≤ 0 → ∃ r11, zR h a0 39 = some r11 ∧ zO h r11 100 ∧ vp_in x1 (zLen h r11) ∧ Q (if (0 : Int32) < (x3 - (zI h r11 x1.toNatClampNeg)) then (x3 - (zI h r11 x1.toNatClampNeg)) else (0 : Int32)) h) ∧ (¬ (zI h r7 (1 : Int32).toNatClampNeg) ≤ 0 → ∃ r14, zR h a0 34 = some r14 ∧ zO h r14 100 ∧ vp_in (0 : Int32) (zLen h r14) ∧ ¬ (zI h r7 (1 : Int32).toNatClampNeg) = 0 ∧ ∃ Q18 : Int32 → zMem → Prop, zConI G mX10_mixOf d [.ref a0, .int (((zI h r14 (0 : Int32).toNatClampNeg) + x4) - ((zI h r14 (0 : Int32).toNatClampNeg) + x4) / (zI h r7 (1 : Int32).toNatClampNeg) * (zI h r7 (1 : Int32).toNatClampNeg)), .int x1] h Q18 ∧ (∀ v21 h19, Q18 v21 h19 → zg G mX10_needs (d + 1) 30 [.ref a0, .int x1, .int x2, .int (x3 + v21), .int (x4 + 1)] [] h19 (zPI Q))))) : zg G mX10_needs (d + 1) 30 [.ref a0, .int x1, .int x2, .int x3, .int x4] [] h (zPI Q) := by
  refine z_iload 18 rfl rfl ?_
  refine z_iload_n 19 rfl rfl ?_
  refine z_icmp_ge 20 75 rfl (by decide) ⟨fun c1 => ?_, fun c1 => ?_⟩
  · have B := B.1 c1
    refine z_iconst (v := 0) 45 rfl (by decide) ?_
    refine z_iload_n 46 rfl rfl ?_
    refine z_aload_n 47 rfl rfl ?_
    obtain ⟨o2, B⟩ := B
    obtain ⟨r3, hr3, B⟩ := B
    refine z_getR 48 rfl lX10_84 rfl o2 hr3 ?_
    refine z_iload_n 49 rfl rfl ?_
    obtain ⟨o4, B⟩ := B
    obtain ⟨o5, B⟩ := B
    refine z_iald 50 rfl o4 o5 ?_
    refine z_isub 51 rfl ?_
    refine z_mmax 52 rfl rfl gmX10_449 (Nat.le_of_ble_eq_true rfl) ?_
    exact z_iret 53 rfl rfl rfl ⟨rfl, rfl⟩ ⟨_, rfl, B⟩
  · have B := B.2 c1
    refine z_aload_n 21 rfl rfl ?_
    obtain ⟨o6, B⟩ := B
    obtain ⟨r7, hr7, B⟩ := B
    refine z_getR 22 rfl lX10_13 rfl o6 hr7 ?_
    refine z_iconst (v := 1) 23 rfl (by decide) ?_
    obtain ⟨o8, B⟩ := B
    obtain ⟨o9, B⟩ := B
    refine z_iald 24 rfl o8 o9 ?_
    refine z_if_le 25 75 rfl (by decide) ⟨fun c10 => ?_, fun c10 => ?_⟩
    · have B := B.1 c10
      refine z_iconst (v := 0) 45 rfl (by decide) ?_
      refine z_iload_n 46 rfl rfl ?_
      refine z_aload_n 47 rfl rfl ?_
      obtain ⟨r11, hr11, B⟩ := B
      refine z_getR 48 rfl lX10_84 rfl o6 hr11 ?_
      refine z_iload_n 49 rfl rfl ?_
      obtain ⟨o12, B⟩ := B
      obtain ⟨o13, B⟩ := B
      refine z_iald 50 rfl o12 o13 ?_
      refine z_isub 51 rfl ?_
      refine z_mmax 52 rfl rfl gmX10_449 (Nat.le_of_ble_eq_true rfl) ?_
      exact z_iret 53 rfl rfl rfl ⟨rfl, rfl⟩ ⟨_, rfl, B⟩
    · have B := B.2 c10
      refine z_iload_n 26 rfl rfl ?_
      refine z_aload_n 27 rfl rfl ?_
      refine z_aload_n 28 rfl rfl ?_
      obtain ⟨r14, hr14, B⟩ := B
      refine z_getR 29 rfl lX10_69 rfl o6 hr14 ?_
      refine z_iconst (v := 0) 30 rfl (by decide) ?_
      obtain ⟨o15, B⟩ := B
      obtain ⟨o16, B⟩ := B
      refine z_iald 31 rfl o15 o16 ?_
      refine z_iload 32 rfl rfl ?_
      refine z_iadd 33 rfl ?_
      refine z_aload_n 34 rfl rfl ?_
      refine z_getR 35 rfl lX10_13 rfl o6 hr7 ?_
      refine z_iconst (v := 1) 36 rfl (by decide) ?_
      refine z_iald 37 rfl o8 o9 ?_
      obtain ⟨o17, B⟩ := B
      refine z_irem 38 rfl o17 ?_
      refine z_iload_n 39 rfl rfl ?_
      obtain ⟨Q18, K20, B⟩ := B
      refine z_cVI2 (ν := mX10_mixOf) 40 rfl rfl fX10_mixOf gX10_383 ⟨_, rfl, rfl⟩ (by decide) o6 (Nat.le_of_ble_eq_true rfl) K20 (fun v21 h19 q => ?_)
      have B := B v21 h19 q
      refine z_iadd 41 rfl ?_
      refine z_istore_n 42 rfl (by decide) rfl ?_
      refine z_iinc (v := 1) 43 rfl rfl (by decide) (by decide) rfl ?_
      refine z_goto 44 30 rfl (by decide) ?_
      exact B
set_option maxRecDepth 100000 in
set_option maxHeartbeats 4000000 in
theorem sg_X10_dearest_0 {G : zG} {d : Nat} {h : zMem} {Q : Int32 → zMem → Prop} {a0 : Nat} {x1 : Int32} (B : zO h a0 9 ∧ (x1 < 0 → Q (-1 : Int32) (zsI h a0 0 (0 : Int32))) ∧ (¬ x1 < 0 → ((1 : Int32) < x1 → Q (-1 : Int32) (zsI h a0 0 (0 : Int32))) ∧ (¬ (1 : Int32) < x1 → ∃ r4, zR h a0 3 = some r4 ∧ zO h r4 100 ∧ vp_in (1 : Int32) (zLen h r4) ∧ (¬ (zI (zsI h a0 0 (0 : Int32)) r4 (1 : Int32).toNatClampNeg) = 0 → zg G mX10_dearest (d + 1) 32 [.ref a0, .int x1, .int (-1 : Int32), .int (0 : Int32), .int (0 : Int32), zU, zU] [] (zsI h a0 0 (0 : Int32)) (zPI Q)) ∧ ((zI (zsI h a0 0 (0 : Int32)) r4 (1 : Int32).toNatClampNeg) = 0 → Q (-1 : Int32) (zsI h a0 0 (0 : Int32)))))) : zg G mX10_dearest (d + 1) 0 [.ref a0, .int x1, zU, zU, zU, zU, zU] [] h (zPI Q) := by
  refine z_aload_n 0 rfl rfl ?_
  refine z_iconst (v := 0) 1 rfl (by decide) ?_
  obtain ⟨o1, B⟩ := B
  refine z_putI 2 rfl lX10_160 ⟨_, _, _, rfl, rfl⟩ rfl rfl rfl o1 ?_
  refine z_iload_n 3 rfl rfl ?_
  refine z_if_lt 4 23 rfl (by decide) ⟨fun c2 => ?_, fun c2 => ?_⟩
  · have B := B.1 c2
    refine z_iconst (v := -1) 13 rfl (by decide) ?_
    exact z_iret 14 rfl rfl rfl ⟨rfl, rfl⟩ ⟨_, rfl, B⟩
  · have B := B.2 c2
    refine z_iload_n 5 rfl rfl ?_
    refine z_iconst (v := 1) 6 rfl (by decide) ?_
    refine z_icmp_gt 7 23 rfl (by decide) ⟨fun c3 => ?_, fun c3 => ?_⟩
    · have B := B.1 c3
      refine z_iconst (v := -1) 13 rfl (by decide) ?_
      exact z_iret 14 rfl rfl rfl ⟨rfl, rfl⟩ ⟨_, rfl, B⟩
    · have B := B.2 c3
      refine z_aload_n 8 rfl rfl ?_
      obtain ⟨r4, hr4, B⟩ := B
      refine z_getR 9 rfl lX10_13 rfl o1 hr4 ?_
      refine z_iconst (v := 1) 10 rfl (by decide) ?_
      obtain ⟨o5, B⟩ := B
      obtain ⟨o6, B⟩ := B
      refine z_iald 11 rfl o5 o6 ?_
      refine z_if_ne 12 25 rfl (by decide) ⟨fun c7 => ?_, fun c7 => ?_⟩
      · have B := B.1 c7
        refine z_iconst (v := -1) 15 rfl (by decide) ?_
        refine z_istore_n 16 rfl (by decide) rfl ?_
        refine z_iconst (v := 0) 17 rfl (by decide) ?_
        refine z_istore_n 18 rfl (by decide) rfl ?_
        refine z_iconst (v := 0) 19 rfl (by decide) ?_
        refine z_istore 20 rfl (by decide) rfl ?_
        exact B
      · have B := B.2 c7
        refine z_iconst (v := -1) 13 rfl (by decide) ?_
        exact z_iret 14 rfl rfl rfl ⟨rfl, rfl⟩ ⟨_, rfl, B⟩
theorem cn_X10_dearest {G : zG} {d : Nat} {h : zMem} {Q : Int32 → zMem → Prop} {a0 : Nat} {x1 : Int32} (B : zg G mX10_dearest (d + 1) 0 [.ref a0, .int x1, zU, zU, zU, zU, zU] [] h (zPI Q)) : zConI G mX10_dearest (d + 1) [.ref a0, .int x1] h Q := zcon0 (by decide +kernel) eX10_dearest (Nat.le_of_ble_eq_true rfl) rfl B
set_option maxRecDepth 100000 in
set_option maxHeartbeats 4000000 in
theorem sg_X10_dearest_32 {G : zG} {d : Nat} {h : zMem} {Q : Int32 → zMem → Prop} {a0 : Nat} {x1 : Int32} {x2 : Int32} {x3 : Int32} {x4 : Int32} (B : zO h a0 9 ∧ ∃ r2, zR h a0 3 = some r2 ∧ zO h r2 100 ∧ vp_in (1 : Int32) (zLen h r2) ∧ ((zI h r2 (1 : Int32).toNatClampNeg) ≤ x4 → (¬ x1 = 0 → Q x3 h) ∧ (x1 = 0 → Q x2 h)) ∧ (¬ (zI h r2 (1 : Int32).toNatClampNeg) ≤ x4 → zg G mX10_dearest (d + 1) 49 [.ref a0, .int x1, .int x2, .int x3, .int x4, .int (0 : Int32), .int (0 : Int32)] [] h (zPI Q))) : zg G mX10_dearest (d + 1) 32 [.ref a0, .int x1, .int x2, .int x3, .int x4, zU, zU] [] h (zPI Q) := by
  refine z_iload 21 rfl rfl ?_
  refine z_aload_n 22 rfl rfl ?_
  obtain ⟨o1, B⟩ := B
  obtain ⟨r2, hr2, B⟩ := B
  refine z_getR 23 rfl lX10_13 rfl o1 hr2 ?_
  refine z_iconst (v := 1) 24 rfl (by decide) ?_
  obtain ⟨o3, B⟩ := B
  obtain ⟨o4, B⟩ := B
  refine z_iald 25 rfl o3 o4 ?_
  refine z_icmp_ge 26 113 rfl (by decide) ⟨fun c5 => ?_, fun c5 => ?_⟩
  · have B := B.1 c5
    refine z_iload_n 64 rfl rfl ?_
    refine z_if_ne 65 121 rfl (by decide) ⟨fun c6 => ?_, fun c6 => ?_⟩
    · have B := B.1 c6
      refine z_iload_n 68 rfl rfl ?_
      exact z_iret 69 rfl rfl rfl ⟨rfl, rfl⟩ ⟨_, rfl, B⟩
    · have B := B.2 c6
      refine z_iload_n 66 rfl rfl ?_
      refine z_goto 67 122 rfl (by decide) ?_
      exact z_iret 69 rfl rfl rfl ⟨rfl, rfl⟩ ⟨_, rfl, B⟩
  · have B := B.2 c5
    refine z_iconst (v := 0) 27 rfl (by decide) ?_
    refine z_istore 28 rfl (by decide) rfl ?_
    refine z_iconst (v := 0) 29 rfl (by decide) ?_
    refine z_istore 30 rfl (by decide) rfl ?_
    exact B
set_option maxRecDepth 100000 in
set_option maxHeartbeats 4000000 in
theorem sg_X10_dearest_49 {G : zG} {d : Nat} {h : zMem} {Q : Int32 → zMem → Prop} {a0 : Nat} {x1 : Int32} {x2 : Int32} {x3 : Int32} {x4 : Int32} {x5 : Int32} {x6 : Int32} (B : zO h a0 9 ∧ ∃ r2, zR h a0 3 = some r2 ∧ zO h r2 100 ∧ vp_in (0 : Int32) (zLen h r2) ∧ ((zI h r2 (0 : Int32).toNatClampNeg) ≤ x6 → (x2 = (-1 : Int32) → zg G mX10_dearest (d + 1) 32 [.ref a0, .int x1, .int x4, .int x5, .int (x4 + 1), zU, zU] [] h (zPI Q)) ∧ (¬ x2 = (-1 : Int32) → (x3 < x5 → zg G mX10_dearest (d + 1) 32 [.ref a0, .int x1, .int x4, .int x5, .int (x4 + 1), zU, zU] [] h (zPI Q)) ∧ (¬ x3 < x5 → zg G mX10_dearest (d + 1) 32 [.ref a0, .int x1, .int x2, .int x3, .int (x4 + 1), zU, zU] [] h (zPI Q)))) ∧ (¬ (zI h r2 (0 : Int32).toNatClampNeg) ≤ x6 → ∃ Q8 : Int32 → zMem → Prop, zConI G mX10_mixOf d [.ref a0, .int x4, .int x6] h Q8 ∧ (∀ v11 h9, Q8 v11 h9 → zO h9 a0 9 ∧ ∃ Q12 : Int32 → zMem → Prop, zConI G mX10_worthOf d [.ref a0, .int (0 : Int32), .int x6] h9 Q12 ∧ (∀ v15 h13, Q12 v15 h13 → zg G mX10_dearest (d + 1) 49 [.ref a0, .int x1, .int x2, .int x3, .int x4, .int (x5 + (v11 * v15)), .int (x6 + 1)] [] h13 (zPI Q))))) : zg G mX10_dearest (d + 1) 49 [.ref a0, .int x1, .int x2, .int x3, .int x4, .int x5, .int x6] [] h (zPI Q) := by
  refine z_iload 31 rfl rfl ?_
  refine z_aload_n 32 rfl rfl ?_
  obtain ⟨o1, B⟩ := B
  obtain ⟨r2, hr2, B⟩ := B
  refine z_getR 33 rfl lX10_13 rfl o1 hr2 ?_
  refine z_iconst (v := 0) 34 rfl (by decide) ?_
  obtain ⟨o3, B⟩ := B
  obtain ⟨o4, B⟩ := B
  refine z_iald 35 rfl o3 o4 ?_
  refine z_icmp_ge 36 87 rfl (by decide) ⟨fun c5 => ?_, fun c5 => ?_⟩
  · have B := B.1 c5
    refine z_iload_n 51 rfl rfl ?_
    refine z_iconst (v := -1) 52 rfl (by decide) ?_
    refine z_icmp_eq 53 101 rfl (by decide) ⟨fun c6 => ?_, fun c6 => ?_⟩
    · have B := B.1 c6
      refine z_iload 58 rfl rfl ?_
      refine z_istore_n 59 rfl (by decide) rfl ?_
      refine z_iload 60 rfl rfl ?_
      refine z_istore_n 61 rfl (by decide) rfl ?_
      refine z_iinc (v := 1) 62 rfl rfl (by decide) (by decide) rfl ?_
      refine z_goto 63 32 rfl (by decide) ?_
      refine z_drop 5 ?_
      refine z_drop 6 ?_
      exact B
    · have B := B.2 c6
      refine z_iload 54 rfl rfl ?_
      refine z_iload_n 55 rfl rfl ?_
      refine z_icmp_gt 56 101 rfl (by decide) ⟨fun c7 => ?_, fun c7 => ?_⟩
      · have B := B.1 c7
        refine z_iload 58 rfl rfl ?_
        refine z_istore_n 59 rfl (by decide) rfl ?_
        refine z_iload 60 rfl rfl ?_
        refine z_istore_n 61 rfl (by decide) rfl ?_
        refine z_iinc (v := 1) 62 rfl rfl (by decide) (by decide) rfl ?_
        refine z_goto 63 32 rfl (by decide) ?_
        refine z_drop 5 ?_
        refine z_drop 6 ?_
        exact B
      · have B := B.2 c7
        refine z_goto 57 107 rfl (by decide) ?_
        refine z_iinc (v := 1) 62 rfl rfl (by decide) (by decide) rfl ?_
        refine z_goto 63 32 rfl (by decide) ?_
        refine z_drop 5 ?_
        refine z_drop 6 ?_
        exact B
  · have B := B.2 c5
    refine z_iload 37 rfl rfl ?_
    refine z_aload_n 38 rfl rfl ?_
    refine z_iload 39 rfl rfl ?_
    refine z_iload 40 rfl rfl ?_
    obtain ⟨Q8, K10, B⟩ := B
    refine z_cVI2 (ν := mX10_mixOf) 41 rfl rfl fX10_mixOf gX10_383 ⟨_, rfl, rfl⟩ (by decide) o1 (Nat.le_of_ble_eq_true rfl) K10 (fun v11 h9 q => ?_)
    have B := B v11 h9 q
    refine z_aload_n 42 rfl rfl ?_
    refine z_iconst (v := 0) 43 rfl (by decide) ?_
    refine z_iload 44 rfl rfl ?_
    obtain ⟨o16, B⟩ := B
    obtain ⟨Q12, K14, B⟩ := B
    refine z_cVI2 (ν := mX10_worthOf) 45 rfl rfl fX10_worthOf gX10_421 ⟨_, rfl, rfl⟩ (by decide) o16 (Nat.le_of_ble_eq_true rfl) K14 (fun v15 h13 q => ?_)
    have B := B v15 h13 q
    refine z_imul 46 rfl ?_
    refine z_iadd 47 rfl ?_
    refine z_istore 48 rfl (by decide) rfl ?_
    refine z_iinc (v := 1) 49 rfl rfl (by decide) (by decide) rfl ?_
    refine z_goto 50 49 rfl (by decide) ?_
    exact B
set_option maxRecDepth 100000 in
set_option maxHeartbeats 4000000 in
theorem sg_X10_inPlace_0 {G : zG} {d : Nat} {h : zMem} {Q : Int32 → zMem → Prop} {a0 : Nat} {x1 : Int32} {x2 : Int32} (B : zO h a0 9 ∧ ∃ Q2 : Int32 → zMem → Prop, zConI G mX10_isStuff d [.ref a0, .int x1] (zsI h a0 0 (0 : Int32)) Q2 ∧ (∀ v5 h3, Q2 v5 h3 → (v5 = 0 → Q (-1 : Int32) h3) ∧ (¬ v5 = 0 → zO h3 a0 9 ∧ ∃ Q7 : Int32 → zMem → Prop, zConI G mX10_isStuff d [.ref a0, .int x2] h3 Q7 ∧ (∀ v10 h8, Q7 v10 h8 → (v10 = 0 → Q (-1 : Int32) h8) ∧ (¬ v10 = 0 → (¬ x1 = x2 → zO h8 a0 9 ∧ zg G mX10_inPlace (d + 1) 43 [.ref a0, .int x1, .int x2, .int (0 : Int32), .int (0 : Int32)] [] (zsI (zsI h8 a0 50 x1) a0 51 x2) (zPI Q)) ∧ (x1 = x2 → Q (-1 : Int32) h8)))))) : zg G mX10_inPlace (d + 1) 0 [.ref a0, .int x1, .int x2, zU, zU] [] h (zPI Q) := by
  refine z_aload_n 0 rfl rfl ?_
  refine z_iconst (v := 0) 1 rfl (by decide) ?_
  obtain ⟨o1, B⟩ := B
  refine z_putI 2 rfl lX10_160 ⟨_, _, _, rfl, rfl⟩ rfl rfl rfl o1 ?_
  refine z_aload_n 3 rfl rfl ?_
  refine z_iload_n 4 rfl rfl ?_
  obtain ⟨Q2, K4, B⟩ := B
  refine z_cVI1 (ν := mX10_isStuff) 5 rfl rfl fX10_isStuff gX10_418 ⟨_, rfl, rfl⟩ (by decide) o1 (Nat.le_of_ble_eq_true rfl) K4 (fun v5 h3 q => ?_)
  have B := B v5 h3 q
  refine z_if_eq 6 26 rfl (by decide) ⟨fun c6 => ?_, fun c6 => ?_⟩
  · have B := B.1 c6
    refine z_iconst (v := -1) 14 rfl (by decide) ?_
    exact z_iret 15 rfl rfl rfl ⟨rfl, rfl⟩ ⟨_, rfl, B⟩
  · have B := B.2 c6
    refine z_aload_n 7 rfl rfl ?_
    refine z_iload_n 8 rfl rfl ?_
    obtain ⟨o14, B⟩ := B
    obtain ⟨Q7, K9, B⟩ := B
    refine z_cVI1 (ν := mX10_isStuff) 9 rfl rfl fX10_isStuff gX10_418 ⟨_, rfl, rfl⟩ (by decide) o14 (Nat.le_of_ble_eq_true rfl) K9 (fun v10 h8 q => ?_)
    have B := B v10 h8 q
    refine z_if_eq 10 26 rfl (by decide) ⟨fun c11 => ?_, fun c11 => ?_⟩
    · have B := B.1 c11
      refine z_iconst (v := -1) 14 rfl (by decide) ?_
      exact z_iret 15 rfl rfl rfl ⟨rfl, rfl⟩ ⟨_, rfl, B⟩
    · have B := B.2 c11
      refine z_iload_n 11 rfl rfl ?_
      refine z_iload_n 12 rfl rfl ?_
      refine z_icmp_ne 13 28 rfl (by decide) ⟨fun c12 => ?_, fun c12 => ?_⟩
      · have B := B.1 c12
        refine z_aload_n 16 rfl rfl ?_
        refine z_iload_n 17 rfl rfl ?_
        obtain ⟨o13, B⟩ := B
        refine z_putI 18 rfl lX10_108 ⟨_, _, _, rfl, rfl⟩ rfl rfl rfl o13 ?_
        refine z_aload_n 19 rfl rfl ?_
        refine z_iload_n 20 rfl rfl ?_
        refine z_putI 21 rfl lX10_111 ⟨_, _, _, rfl, rfl⟩ rfl rfl rfl o13 ?_
        refine z_iconst (v := 0) 22 rfl (by decide) ?_
        refine z_istore_n 23 rfl (by decide) rfl ?_
        refine z_iconst (v := 0) 24 rfl (by decide) ?_
        refine z_istore 25 rfl (by decide) rfl ?_
        exact B
      · have B := B.2 c12
        refine z_iconst (v := -1) 14 rfl (by decide) ?_
        exact z_iret 15 rfl rfl rfl ⟨rfl, rfl⟩ ⟨_, rfl, B⟩
theorem cn_X10_inPlace {G : zG} {d : Nat} {h : zMem} {Q : Int32 → zMem → Prop} {a0 : Nat} {x1 : Int32} {x2 : Int32} (B : zg G mX10_inPlace (d + 1) 0 [.ref a0, .int x1, .int x2, zU, zU] [] h (zPI Q)) : zConI G mX10_inPlace (d + 1) [.ref a0, .int x1, .int x2] h Q := zcon0 (by decide +kernel) eX10_inPlace (Nat.le_of_ble_eq_true rfl) rfl B
set_option maxRecDepth 100000 in
set_option maxHeartbeats 4000000 in
theorem sg_X10_inPlace_43 {G : zG} {d : Nat} {h : zMem} {Q : Int32 → zMem → Prop} {a0 : Nat} {x1 : Int32} {x2 : Int32} {x3 : Int32} {x4 : Int32} (B : zO h a0 9 ∧ ∃ r2, zR h a0 3 = some r2 ∧ zO h r2 100 ∧ vp_in (4 : Int32) (zLen h r2) ∧ ((zI h r2 (4 : Int32).toNatClampNeg) ≤ x4 → Q x3 (zsI (zsI h a0 50 (-1 : Int32)) a0 51 (-1 : Int32))) ∧ (¬ (zI h r2 (4 : Int32).toNatClampNeg) ≤ x4 → ∃ Q6 : Int32 → zMem → Prop, zConI G mX10_pairOf d [.ref a0, .int x4, .int (-1 : Int32)] h Q6 ∧ (∀ v9 h7, Q6 v9 h7 → (¬ v9 = 0 → zg G mX10_inPlace (d + 1) 43 [.ref a0, .int x1, .int x2, .int (x3 + (0 : Int32)), .int (x4 + 1)] [] h7 (zPI Q)) ∧ (v9 = 0 → zg G mX10_inPlace (d + 1) 43 [.ref a0, .int x1, .int x2, .int (x3 + (1 : Int32)), .int (x4 + 1)] [] h7 (zPI Q))))) : zg G mX10_inPlace (d + 1) 43 [.ref a0, .int x1, .int x2, .int x3, .int x4] [] h (zPI Q) := by
  refine z_iload 26 rfl rfl ?_
  refine z_aload_n 27 rfl rfl ?_
  obtain ⟨o1, B⟩ := B
  obtain ⟨r2, hr2, B⟩ := B
  refine z_getR 28 rfl lX10_13 rfl o1 hr2 ?_
  refine z_iconst (v := 4) 29 rfl (by decide) ?_
  obtain ⟨o3, B⟩ := B
  obtain ⟨o4, B⟩ := B
  refine z_iald 30 rfl o3 o4 ?_
  refine z_icmp_ge 31 78 rfl (by decide) ⟨fun c5 => ?_, fun c5 => ?_⟩
  · have B := B.1 c5
    refine z_aload_n 45 rfl rfl ?_
    refine z_iconst (v := -1) 46 rfl (by decide) ?_
    refine z_putI 47 rfl lX10_108 ⟨_, _, _, rfl, rfl⟩ rfl rfl rfl o1 ?_
    refine z_aload_n 48 rfl rfl ?_
    refine z_iconst (v := -1) 49 rfl (by decide) ?_
    refine z_putI 50 rfl lX10_111 ⟨_, _, _, rfl, rfl⟩ rfl rfl rfl o1 ?_
    refine z_iload_n 51 rfl rfl ?_
    exact z_iret 52 rfl rfl rfl ⟨rfl, rfl⟩ ⟨_, rfl, B⟩
  · have B := B.2 c5
    refine z_iload_n 32 rfl rfl ?_
    refine z_aload_n 33 rfl rfl ?_
    refine z_iload 34 rfl rfl ?_
    refine z_iconst (v := -1) 35 rfl (by decide) ?_
    obtain ⟨Q6, K8, B⟩ := B
    refine z_cVI2 (ν := mX10_pairOf) 36 rfl rfl fX10_pairOf gX10_446 ⟨_, rfl, rfl⟩ (by decide) o1 (Nat.le_of_ble_eq_true rfl) K8 (fun v9 h7 q => ?_)
    have B := B v9 h7 q
    refine z_if_ne 37 69 rfl (by decide) ⟨fun c10 => ?_, fun c10 => ?_⟩
    · have B := B.1 c10
      refine z_iconst (v := 0) 40 rfl (by decide) ?_
      refine z_iadd 41 rfl ?_
      refine z_istore_n 42 rfl (by decide) rfl ?_
      refine z_iinc (v := 1) 43 rfl rfl (by decide) (by decide) rfl ?_
      refine z_goto 44 43 rfl (by decide) ?_
      exact B
    · have B := B.2 c10
      refine z_iconst (v := 1) 38 rfl (by decide) ?_
      refine z_goto 39 70 rfl (by decide) ?_
      refine z_iadd 41 rfl ?_
      refine z_istore_n 42 rfl (by decide) rfl ?_
      refine z_iinc (v := 1) 43 rfl rfl (by decide) (by decide) rfl ?_
      refine z_goto 44 43 rfl (by decide) ?_
      exact B
set_option maxRecDepth 100000 in
set_option maxHeartbeats 4000000 in
theorem sg_X10_letter_0 {G : zG} {d : Nat} {h : zMem} {Q : Int32 → zMem → Prop} {a0 : Nat} {x1 : Int32} {x2 : Int32} {x3 : Int32} (B : zO h a0 9 ∧ ∃ Q2 : Int32 → zMem → Prop, zConI G mX10_isDay d [.ref a0, .int x1] (zsI h a0 0 (0 : Int32)) Q2 ∧ (∀ v5 h3, Q2 v5 h3 → (v5 = 0 → Q (-1 : Int32) h3) ∧ (¬ v5 = 0 → zO h3 a0 9 ∧ ∃ Q7 : Int32 → zMem → Prop, zConI G mX10_isMonk d [.ref a0, .int x2] h3 Q7 ∧ (∀ v10 h8, Q7 v10 h8 → (v10 = 0 → Q (-1 : Int32) h8) ∧ (¬ v10 = 0 → (x3 < 0 → Q (-1 : Int32) h8) ∧ (¬ x3 < 0 → (x3 ≤ (10 : Int32) → zO h8 a0 9 ∧ ∃ Q14 : Int32 → zMem → Prop, zConI G mX10_keenOf d [.ref a0, .int (0 : Int32), .int x2] h8 Q14 ∧ (∀ v17 h15, Q14 v17 h15 → zg G mX10_letter (d + 1) 47 [.ref a0, .int x1, .int x2, .int x3, .int v17, .int (0 : Int32), .int (0 : Int32), zU, zU] [] h15 (zPI Q))) ∧ (¬ x3 ≤ (10 : Int32) → Q (-1 : Int32) h8))))))) : zg G mX10_letter (d + 1) 0 [.ref a0, .int x1, .int x2, .int x3, zU, zU, zU, zU, zU] [] h (zPI Q) := by
  refine z_aload_n 0 rfl rfl ?_
  refine z_iconst (v := 0) 1 rfl (by decide) ?_
  obtain ⟨o1, B⟩ := B
  refine z_putI 2 rfl lX10_160 ⟨_, _, _, rfl, rfl⟩ rfl rfl rfl o1 ?_
  refine z_aload_n 3 rfl rfl ?_
  refine z_iload_n 4 rfl rfl ?_
  obtain ⟨Q2, K4, B⟩ := B
  refine z_cVI1 (ν := mX10_isDay) 5 rfl rfl fX10_isDay gX10_424 ⟨_, rfl, rfl⟩ (by decide) o1 (Nat.le_of_ble_eq_true rfl) K4 (fun v5 h3 q => ?_)
  have B := B v5 h3 q
  refine z_if_eq 6 31 rfl (by decide) ⟨fun c6 => ?_, fun c6 => ?_⟩
  · have B := B.1 c6
    refine z_iconst (v := -1) 16 rfl (by decide) ?_
    exact z_iret 17 rfl rfl rfl ⟨rfl, rfl⟩ ⟨_, rfl, B⟩
  · have B := B.2 c6
    refine z_aload_n 7 rfl rfl ?_
    refine z_iload_n 8 rfl rfl ?_
    obtain ⟨o19, B⟩ := B
    obtain ⟨Q7, K9, B⟩ := B
    refine z_cVI1 (ν := mX10_isMonk) 9 rfl rfl fX10_isMonk gX10_415 ⟨_, rfl, rfl⟩ (by decide) o19 (Nat.le_of_ble_eq_true rfl) K9 (fun v10 h8 q => ?_)
    have B := B v10 h8 q
    refine z_if_eq 10 31 rfl (by decide) ⟨fun c11 => ?_, fun c11 => ?_⟩
    · have B := B.1 c11
      refine z_iconst (v := -1) 16 rfl (by decide) ?_
      exact z_iret 17 rfl rfl rfl ⟨rfl, rfl⟩ ⟨_, rfl, B⟩
    · have B := B.2 c11
      refine z_iload_n 11 rfl rfl ?_
      refine z_if_lt 12 31 rfl (by decide) ⟨fun c12 => ?_, fun c12 => ?_⟩
      · have B := B.1 c12
        refine z_iconst (v := -1) 16 rfl (by decide) ?_
        exact z_iret 17 rfl rfl rfl ⟨rfl, rfl⟩ ⟨_, rfl, B⟩
      · have B := B.2 c12
        refine z_iload_n 13 rfl rfl ?_
        refine z_bipush (v := 10) 14 rfl (by decide) ?_
        refine z_icmp_le 15 33 rfl (by decide) ⟨fun c13 => ?_, fun c13 => ?_⟩
        · have B := B.1 c13
          refine z_aload_n 18 rfl rfl ?_
          refine z_iconst (v := 0) 19 rfl (by decide) ?_
          refine z_iload_n 20 rfl rfl ?_
          obtain ⟨o18, B⟩ := B
          obtain ⟨Q14, K16, B⟩ := B
          refine z_cVI2 (ν := mX10_keenOf) 21 rfl rfl fX10_keenOf gX10_386 ⟨_, rfl, rfl⟩ (by decide) o18 (Nat.le_of_ble_eq_true rfl) K16 (fun v17 h15 q => ?_)
          have B := B v17 h15 q
          refine z_istore 22 rfl (by decide) rfl ?_
          refine z_iconst (v := 0) 23 rfl (by decide) ?_
          refine z_istore 24 rfl (by decide) rfl ?_
          refine z_iconst (v := 0) 25 rfl (by decide) ?_
          refine z_istore 26 rfl (by decide) rfl ?_
          exact B
        · have B := B.2 c13
          refine z_iconst (v := -1) 16 rfl (by decide) ?_
          exact z_iret 17 rfl rfl rfl ⟨rfl, rfl⟩ ⟨_, rfl, B⟩
theorem cn_X10_letter {G : zG} {d : Nat} {h : zMem} {Q : Int32 → zMem → Prop} {a0 : Nat} {x1 : Int32} {x2 : Int32} {x3 : Int32} (B : zg G mX10_letter (d + 1) 0 [.ref a0, .int x1, .int x2, .int x3, zU, zU, zU, zU, zU] [] h (zPI Q)) : zConI G mX10_letter (d + 1) [.ref a0, .int x1, .int x2, .int x3] h Q := zcon0 (by decide +kernel) eX10_letter (Nat.le_of_ble_eq_true rfl) rfl B
set_option maxRecDepth 100000 in
set_option maxHeartbeats 4000000 in
theorem sg_X10_letter_47 {G : zG} {d : Nat} {h : zMem} {Q : Int32 → zMem → Prop} {a0 : Nat} {x1 : Int32} {x2 : Int32} {x3 : Int32} {x4 : Int32} {x5 : Int32} {x6 : Int32} (B : zO h a0 9 ∧ ∃ r2, zR h a0 3 = some r2 ∧ zO h r2 100 ∧ vp_in (0 : Int32) (zLen h r2) ∧ ((zI h r2 (0 : Int32).toNatClampNeg) ≤ x6 → zg G mX10_letter (d + 1) 103 [.ref a0, .int x1, .int x2, .int x3, .int x4, .int x5, .int (0 : Int32), zU, zU] [] h (zPI Q)) ∧ (¬ (zI h r2 (0 : Int32).toNatClampNeg) ≤ x6 → ∃ Q6 : Int32 → zMem → Prop, zConI G mX10_mixOf d [.ref a0, .int x1, .int x6] h Q6 ∧ (∀ v9 h7, Q6 v9 h7 → (((v9 * ((100 : Int32) - ((10 : Int32) * x3))) / (100 : Int32)) < x4 → zg G mX10_letter (d + 1) 47 [.ref a0, .int x1, .int x2, .int x3, .int x4, .int (x5 ||| (0 : Int32)), .int (x6 + 1), zU, zU] [] h7 (zPI Q)) ∧ (¬ ((v9 * ((100 : Int32) - ((10 : Int32) * x3))) / (100 : Int32)) < x4 → zg G mX10_letter (d + 1) 47 [.ref a0, .int x1, .int x2, .int x3, .int x4, .int (x5 ||| ((1 : Int32) <<< (x6 &&& 31))), .int (x6 + 1), zU, zU] [] h7 (zPI Q))))) : zg G mX10_letter (d + 1) 47 [.ref a0, .int x1, .int x2, .int x3, .int x4, .int x5, .int x6, zU, zU] [] h (zPI Q) := by
  refine z_iload 27 rfl rfl ?_
  refine z_aload_n 28 rfl rfl ?_
  obtain ⟨o1, B⟩ := B
  obtain ⟨r2, hr2, B⟩ := B
  refine z_getR 29 rfl lX10_13 rfl o1 hr2 ?_
  refine z_iconst (v := 0) 30 rfl (by decide) ?_
  obtain ⟨o3, B⟩ := B
  obtain ⟨o4, B⟩ := B
  refine z_iald 31 rfl o3 o4 ?_
  refine z_icmp_ge 32 100 rfl (by decide) ⟨fun c5 => ?_, fun c5 => ?_⟩
  · have B := B.1 c5
    refine z_iconst (v := 0) 57 rfl (by decide) ?_
    refine z_istore 58 rfl (by decide) rfl ?_
    exact B
  · have B := B.2 c5
    refine z_iload 33 rfl rfl ?_
    refine z_aload_n 34 rfl rfl ?_
    refine z_iload_n 35 rfl rfl ?_
    refine z_iload 36 rfl rfl ?_
    obtain ⟨Q6, K8, B⟩ := B
    refine z_cVI2 (ν := mX10_mixOf) 37 rfl rfl fX10_mixOf gX10_383 ⟨_, rfl, rfl⟩ (by decide) o1 (Nat.le_of_ble_eq_true rfl) K8 (fun v9 h7 q => ?_)
    have B := B v9 h7 q
    refine z_bipush (v := 100) 38 rfl (by decide) ?_
    refine z_bipush (v := 10) 39 rfl (by decide) ?_
    refine z_iload_n 40 rfl rfl ?_
    refine z_imul 41 rfl ?_
    refine z_isub 42 rfl ?_
    refine z_imul 43 rfl ?_
    refine z_bipush (v := 100) 44 rfl (by decide) ?_
    refine z_idiv 45 rfl (by decide) ?_
    refine z_iload 46 rfl rfl ?_
    refine z_icmp_lt 47 90 rfl (by decide) ⟨fun c10 => ?_, fun c10 => ?_⟩
    · have B := B.1 c10
      refine z_iconst (v := 0) 52 rfl (by decide) ?_
      refine z_ior 53 rfl ?_
      refine z_istore 54 rfl (by decide) rfl ?_
      refine z_iinc (v := 1) 55 rfl rfl (by decide) (by decide) rfl ?_
      refine z_goto 56 47 rfl (by decide) ?_
      exact B
    · have B := B.2 c10
      refine z_iconst (v := 1) 48 rfl (by decide) ?_
      refine z_iload 49 rfl rfl ?_
      refine z_ishl 50 rfl ?_
      refine z_goto 51 91 rfl (by decide) ?_
      refine z_ior 53 rfl ?_
      refine z_istore 54 rfl (by decide) rfl ?_
      refine z_iinc (v := 1) 55 rfl rfl (by decide) (by decide) rfl ?_
      refine z_goto 56 47 rfl (by decide) ?_
      exact B
set_option maxRecDepth 100000 in
set_option maxHeartbeats 4000000 in
theorem sg_X10_letter_103 {G : zG} {d : Nat} {h : zMem} {Q : Int32 → zMem → Prop} {a0 : Nat} {x1 : Int32} {x2 : Int32} {x3 : Int32} {x4 : Int32} {x5 : Int32} {x6 : Int32} (B : zO h a0 9 ∧ ∃ r2, zR h a0 3 = some r2 ∧ zO h r2 100 ∧ vp_in (1 : Int32) (zLen h r2) ∧ ((zI h r2 (1 : Int32).toNatClampNeg) ≤ x6 → Q (-2 : Int32) h) ∧ (¬ (zI h r2 (1 : Int32).toNatClampNeg) ≤ x6 → zg G mX10_letter (d + 1) 120 [.ref a0, .int x1, .int x2, .int x3, .int x4, .int x5, .int x6, .int (0 : Int32), .int (0 : Int32)] [] h (zPI Q))) : zg G mX10_letter (d + 1) 103 [.ref a0, .int x1, .int x2, .int x3, .int x4, .int x5, .int x6, zU, zU] [] h (zPI Q) := by
  refine z_iload 59 rfl rfl ?_
  refine z_aload_n 60 rfl rfl ?_
  obtain ⟨o1, B⟩ := B
  obtain ⟨r2, hr2, B⟩ := B
  refine z_getR 61 rfl lX10_13 rfl o1 hr2 ?_
  refine z_iconst (v := 1) 62 rfl (by decide) ?_
  obtain ⟨o3, B⟩ := B
  obtain ⟨o4, B⟩ := B
  refine z_iald 63 rfl o3 o4 ?_
  refine z_icmp_ge 64 179 rfl (by decide) ⟨fun c5 => ?_, fun c5 => ?_⟩
  · have B := B.1 c5
    refine z_bipush (v := -2) 98 rfl (by decide) ?_
    exact z_iret 99 rfl rfl rfl ⟨rfl, rfl⟩ ⟨_, rfl, B⟩
  · have B := B.2 c5
    refine z_iconst (v := 0) 65 rfl (by decide) ?_
    refine z_istore 66 rfl (by decide) rfl ?_
    refine z_iconst (v := 0) 67 rfl (by decide) ?_
    refine z_istore 68 rfl (by decide) rfl ?_
    exact B
set_option maxRecDepth 100000 in
set_option maxHeartbeats 4000000 in
theorem sg_X10_letter_120 {G : zG} {d : Nat} {h : zMem} {Q : Int32 → zMem → Prop} {a0 : Nat} {x1 : Int32} {x2 : Int32} {x3 : Int32} {x4 : Int32} {x5 : Int32} {x6 : Int32} {x7 : Int32} {x8 : Int32} (B : zO h a0 9 ∧ ∃ r2, zR h a0 3 = some r2 ∧ zO h r2 100 ∧ vp_in (0 : Int32) (zLen h r2) ∧ ((zI h r2 (0 : Int32).toNatClampNeg) ≤ x8 → (¬ x7 = x5 → zg G mX10_letter (d + 1) 103 [.ref a0, .int x1, .int x2, .int x3, .int x4, .int x5, .int (x6 + 1), zU, zU] [] h (zPI Q)) ∧ (x7 = x5 → Q x6 h)) ∧ (¬ (zI h r2 (0 : Int32).toNatClampNeg) ≤ x8 → ∃ Q7 : Int32 → zMem → Prop, zConI G mX10_mixOf d [.ref a0, .int x6, .int x8] h Q7 ∧ (∀ v10 h8, Q7 v10 h8 → (v10 < x4 → zg G mX10_letter (d + 1) 120 [.ref a0, .int x1, .int x2, .int x3, .int x4, .int x5, .int x6, .int (x7 ||| (0 : Int32)), .int (x8 + 1)] [] h8 (zPI Q)) ∧ (¬ v10 < x4 → zg G mX10_letter (d + 1) 120 [.ref a0, .int x1, .int x2, .int x3, .int x4, .int x5, .int x6, .int (x7 ||| ((1 : Int32) <<< (x8 &&& 31))), .int (x8 + 1)] [] h8 (zPI Q))))) : zg G mX10_letter (d + 1) 120 [.ref a0, .int x1, .int x2, .int x3, .int x4, .int x5, .int x6, .int x7, .int x8] [] h (zPI Q) := by
  refine z_iload 69 rfl rfl ?_
  refine z_aload_n 70 rfl rfl ?_
  obtain ⟨o1, B⟩ := B
  obtain ⟨r2, hr2, B⟩ := B
  refine z_getR 71 rfl lX10_13 rfl o1 hr2 ?_
  refine z_iconst (v := 0) 72 rfl (by decide) ?_
  obtain ⟨o3, B⟩ := B
  obtain ⟨o4, B⟩ := B
  refine z_iald 73 rfl o3 o4 ?_
  refine z_icmp_ge 74 163 rfl (by decide) ⟨fun c5 => ?_, fun c5 => ?_⟩
  · have B := B.1 c5
    refine z_iload 91 rfl rfl ?_
    refine z_iload 92 rfl rfl ?_
    refine z_icmp_ne 93 173 rfl (by decide) ⟨fun c6 => ?_, fun c6 => ?_⟩
    · have B := B.1 c6
      refine z_iinc (v := 1) 96 rfl rfl (by decide) (by decide) rfl ?_
      refine z_goto 97 103 rfl (by decide) ?_
      refine z_drop 7 ?_
      refine z_drop 8 ?_
      exact B
    · have B := B.2 c6
      refine z_iload 94 rfl rfl ?_
      exact z_iret 95 rfl rfl rfl ⟨rfl, rfl⟩ ⟨_, rfl, B⟩
  · have B := B.2 c5
    refine z_iload 75 rfl rfl ?_
    refine z_aload_n 76 rfl rfl ?_
    refine z_iload 77 rfl rfl ?_
    refine z_iload 78 rfl rfl ?_
    obtain ⟨Q7, K9, B⟩ := B
    refine z_cVI2 (ν := mX10_mixOf) 79 rfl rfl fX10_mixOf gX10_383 ⟨_, rfl, rfl⟩ (by decide) o1 (Nat.le_of_ble_eq_true rfl) K9 (fun v10 h8 q => ?_)
    have B := B v10 h8 q
    refine z_iload 80 rfl rfl ?_
    refine z_icmp_lt 81 153 rfl (by decide) ⟨fun c11 => ?_, fun c11 => ?_⟩
    · have B := B.1 c11
      refine z_iconst (v := 0) 86 rfl (by decide) ?_
      refine z_ior 87 rfl ?_
      refine z_istore 88 rfl (by decide) rfl ?_
      refine z_iinc (v := 1) 89 rfl rfl (by decide) (by decide) rfl ?_
      refine z_goto 90 120 rfl (by decide) ?_
      exact B
    · have B := B.2 c11
      refine z_iconst (v := 1) 82 rfl (by decide) ?_
      refine z_iload 83 rfl rfl ?_
      refine z_ishl 84 rfl ?_
      refine z_goto 85 154 rfl (by decide) ?_
      refine z_ior 87 rfl ?_
      refine z_istore 88 rfl (by decide) rfl ?_
      refine z_iinc (v := 1) 89 rfl rfl (by decide) (by decide) rfl ?_
      refine z_goto 90 120 rfl (by decide) ?_
      exact B
set_option maxRecDepth 100000 in
set_option maxHeartbeats 4000000 in
theorem sg_X10_firstWrong_0 {G : zG} {d : Nat} {h : zMem} {Q : Int32 → zMem → Prop} {a0 : Nat} {x1 : Int32} (B : zO h a0 9 ∧ (x1 < (1 : Int32) → Q (-1 : Int32) (zsI h a0 0 (0 : Int32))) ∧ (¬ x1 < (1 : Int32) → (x1 ≤ (99 : Int32) → ∃ Q4 : zMem → Prop, zConV G mX10_copies d [.ref a0, .int (1 : Int32), .int (0 : Int32)] (zsI h a0 0 (0 : Int32)) Q4 ∧ (∀ h5, Q4 h5 → zg G mX10_firstWrong (d + 1) 26 [.ref a0, .int x1, .int (1 : Int32)] [] h5 (zPI Q))) ∧ (¬ x1 ≤ (99 : Int32) → Q (-1 : Int32) (zsI h a0 0 (0 : Int32))))) : zg G mX10_firstWrong (d + 1) 0 [.ref a0, .int x1, zU] [] h (zPI Q) := by
  refine z_aload_n 0 rfl rfl ?_
  refine z_iconst (v := 0) 1 rfl (by decide) ?_
  obtain ⟨o1, B⟩ := B
  refine z_putI 2 rfl lX10_160 ⟨_, _, _, rfl, rfl⟩ rfl rfl rfl o1 ?_
  refine z_iload_n 3 rfl rfl ?_
  refine z_iconst (v := 1) 4 rfl (by decide) ?_
  refine z_icmp_lt 5 16 rfl (by decide) ⟨fun c2 => ?_, fun c2 => ?_⟩
  · have B := B.1 c2
    refine z_iconst (v := -1) 9 rfl (by decide) ?_
    exact z_iret 10 rfl rfl rfl ⟨rfl, rfl⟩ ⟨_, rfl, B⟩
  · have B := B.2 c2
    refine z_iload_n 6 rfl rfl ?_
    refine z_bipush (v := 99) 7 rfl (by decide) ?_
    refine z_icmp_le 8 18 rfl (by decide) ⟨fun c3 => ?_, fun c3 => ?_⟩
    · have B := B.1 c3
      refine z_aload_n 11 rfl rfl ?_
      refine z_iconst (v := 1) 12 rfl (by decide) ?_
      refine z_iconst (v := 0) 13 rfl (by decide) ?_
      obtain ⟨Q4, K6, B⟩ := B
      refine z_cVV2 (ν := mX10_copies) 14 rfl rfl fX10_copies gX10_434 ⟨_, rfl, rfl⟩ (by decide) o1 (Nat.le_of_ble_eq_true rfl) K6 (fun h5 q => ?_)
      have B := B h5 q
      refine z_iconst (v := 1) 15 rfl (by decide) ?_
      refine z_istore_n 16 rfl (by decide) rfl ?_
      exact B
    · have B := B.2 c3
      refine z_iconst (v := -1) 9 rfl (by decide) ?_
      exact z_iret 10 rfl rfl rfl ⟨rfl, rfl⟩ ⟨_, rfl, B⟩
theorem cn_X10_firstWrong {G : zG} {d : Nat} {h : zMem} {Q : Int32 → zMem → Prop} {a0 : Nat} {x1 : Int32} (B : zg G mX10_firstWrong (d + 1) 0 [.ref a0, .int x1, zU] [] h (zPI Q)) : zConI G mX10_firstWrong (d + 1) [.ref a0, .int x1] h Q := zcon0 (by decide +kernel) eX10_firstWrong (Nat.le_of_ble_eq_true rfl) rfl B
set_option maxRecDepth 100000 in
set_option maxHeartbeats 4000000 in
theorem sg_X10_firstWrong_26 {G : zG} {d : Nat} {h : zMem} {Q : Int32 → zMem → Prop} {a0 : Nat} {x1 : Int32} {x2 : Int32} (B : (x1 < x2 → Q (-2 : Int32) h) ∧ (¬ x1 < x2 → zO h a0 9 ∧ ∃ Q2 : zMem → Prop, zConV G mX10_passes d [.ref a0, .int (1 : Int32)] h Q2 ∧ (∀ h3, Q2 h3 → zO h3 a0 9 ∧ ∃ r6, zR h3 a0 37 = some r6 ∧ zO h3 r6 100 ∧ vp_in (1 : Int32) (zLen h3 r6) ∧ vp_in (0 : Int32) (zLen h3 r6) ∧ ((zI h3 r6 (1 : Int32).toNatClampNeg) ≤ (zI h3 r6 (0 : Int32).toNatClampNeg) → zg G mX10_firstWrong (d + 1) 26 [.ref a0, .int x1, .int (x2 + 1)] [] h3 (zPI Q)) ∧ (¬ (zI h3 r6 (1 : Int32).toNatClampNeg) ≤ (zI h3 r6 (0 : Int32).toNatClampNeg) → Q x2 h3)))) : zg G mX10_firstWrong (d + 1) 26 [.ref a0, .int x1, .int x2] [] h (zPI Q) := by
  refine z_iload_n 17 rfl rfl ?_
  refine z_iload_n 18 rfl rfl ?_
  refine z_icmp_gt 19 59 rfl (by decide) ⟨fun c1 => ?_, fun c1 => ?_⟩
  · have B := B.1 c1
    refine z_bipush (v := -2) 36 rfl (by decide) ?_
    exact z_iret 37 rfl rfl rfl ⟨rfl, rfl⟩ ⟨_, rfl, B⟩
  · have B := B.2 c1
    refine z_aload_n 20 rfl rfl ?_
    refine z_iconst (v := 1) 21 rfl (by decide) ?_
    obtain ⟨o11, B⟩ := B
    obtain ⟨Q2, K4, B⟩ := B
    refine z_cVV1 (ν := mX10_passes) 22 rfl rfl fX10_passes gX10_440 ⟨_, rfl, rfl⟩ (by decide) o11 (Nat.le_of_ble_eq_true rfl) K4 (fun h3 q => ?_)
    have B := B h3 q
    refine z_aload_n 23 rfl rfl ?_
    obtain ⟨o5, B⟩ := B
    obtain ⟨r6, hr6, B⟩ := B
    refine z_getR 24 rfl lX10_78 rfl o5 hr6 ?_
    refine z_iconst (v := 1) 25 rfl (by decide) ?_
    obtain ⟨o7, B⟩ := B
    obtain ⟨o8, B⟩ := B
    refine z_iald 26 rfl o7 o8 ?_
    refine z_aload_n 27 rfl rfl ?_
    refine z_getR 28 rfl lX10_78 rfl o5 hr6 ?_
    refine z_iconst (v := 0) 29 rfl (by decide) ?_
    obtain ⟨o9, B⟩ := B
    refine z_iald 30 rfl o7 o9 ?_
    refine z_icmp_le 31 53 rfl (by decide) ⟨fun c10 => ?_, fun c10 => ?_⟩
    · have B := B.1 c10
      refine z_iinc (v := 1) 34 rfl rfl (by decide) (by decide) rfl ?_
      refine z_goto 35 26 rfl (by decide) ?_
      exact B
    · have B := B.2 c10
      refine z_iload_n 32 rfl rfl ?_
      exact z_iret 33 rfl rfl rfl ⟨rfl, rfl⟩ ⟨_, rfl, B⟩
set_option maxRecDepth 100000 in
set_option maxHeartbeats 4000000 in
theorem sg_X10_laySextons_0 {G : zG} {d : Nat} {h : zMem} {Q : zMem → Prop} {a0 : Nat} {x1 : Int32} (B : zg G mX10_laySextons (d + 1) 2 [.ref a0, .int x1, .int (0 : Int32), zU, zU, zU] [] h (zPV Q)) : zg G mX10_laySextons (d + 1) 0 [.ref a0, .int x1, zU, zU, zU, zU] [] h (zPV Q) := by
  refine z_iconst (v := 0) 0 rfl (by decide) ?_
  refine z_istore_n 1 rfl (by decide) rfl ?_
  exact B
theorem cn_X10_laySextons {G : zG} {d : Nat} {h : zMem} {Q : zMem → Prop} {a0 : Nat} {x1 : Int32} (B : zg G mX10_laySextons (d + 1) 0 [.ref a0, .int x1, zU, zU, zU, zU] [] h (zPV Q)) : zConV G mX10_laySextons (d + 1) [.ref a0, .int x1] h Q := zcon0 (by decide +kernel) eX10_laySextons (Nat.le_of_ble_eq_true rfl) rfl B
set_option maxRecDepth 100000 in
set_option maxHeartbeats 4000000 in
theorem sg_X10_laySextons_2 {G : zG} {d : Nat} {h : zMem} {Q : zMem → Prop} {a0 : Nat} {x1 : Int32} {x2 : Int32} (B : zO h a0 9 ∧ ∃ r2, zR h a0 3 = some r2 ∧ zO h r2 100 ∧ vp_in (0 : Int32) (zLen h r2) ∧ ((zI h r2 (0 : Int32).toNatClampNeg) ≤ x2 → Q h) ∧ (¬ (zI h r2 (0 : Int32).toNatClampNeg) ≤ x2 → zg G mX10_laySextons (d + 1) 14 [.ref a0, .int x1, .int x2, .int (0 : Int32), zU, zU] [] h (zPV Q))) : zg G mX10_laySextons (d + 1) 2 [.ref a0, .int x1, .int x2, zU, zU, zU] [] h (zPV Q) := by
  refine z_iload_n 2 rfl rfl ?_
  refine z_aload_n 3 rfl rfl ?_
  obtain ⟨o1, B⟩ := B
  obtain ⟨r2, hr2, B⟩ := B
  refine z_getR 4 rfl lX10_13 rfl o1 hr2 ?_
  refine z_iconst (v := 0) 5 rfl (by decide) ?_
  obtain ⟨o3, B⟩ := B
  obtain ⟨o4, B⟩ := B
  refine z_iald 6 rfl o3 o4 ?_
  refine z_icmp_ge 7 148 rfl (by decide) ⟨fun c5 => ?_, fun c5 => ?_⟩
  · have B := B.1 c5
    exact z_vret 94 rfl rfl ⟨rfl, rfl⟩ ⟨rfl, B⟩
  · have B := B.2 c5
    refine z_iconst (v := 0) 8 rfl (by decide) ?_
    refine z_istore_n 9 rfl (by decide) rfl ?_
    exact B
set_option maxRecDepth 100000 in
set_option maxHeartbeats 4000000 in
theorem sg_X10_laySextons_14 {G : zG} {d : Nat} {h : zMem} {Q : zMem → Prop} {a0 : Nat} {x1 : Int32} {x2 : Int32} {x3 : Int32} (B : zO h a0 9 ∧ ∃ r2, zR h a0 3 = some r2 ∧ zO h r2 100 ∧ vp_in (0 : Int32) (zLen h r2) ∧ ((zI h r2 (0 : Int32).toNatClampNeg) ≤ x3 → zg G mX10_laySextons (d + 1) 2 [.ref a0, .int x1, .int (x2 + 1), zU, zU, zU] [] h (zPV Q)) ∧ (¬ (zI h r2 (0 : Int32).toNatClampNeg) ≤ x3 → ∃ Q6 : zMem → Prop, zConV G mX10_copies d [.ref a0, .int (1 : Int32), .int (0 : Int32)] h Q6 ∧ (∀ h7, Q6 h7 → zO h7 a0 9 ∧ ∃ r10, zR h7 a0 40 = some r10 ∧ zO h7 r10 100 ∧ vp_in ((6 : Int32) + x2) (zLen h7 r10) ∧ vp_in ((6 : Int32) + x3) (zLen h7 r10) ∧ ∃ Q14 : zMem → Prop, zConV G mX10_passes d [.ref a0, .int (1 : Int32)] (zsI (zsI h7 r10 ((6 : Int32) + x2).toNatClampNeg ((zI h7 r10 ((6 : Int32) + x2).toNatClampNeg) + x1)) r10 ((6 : Int32) + x3).toNatClampNeg ((zI (zsI h7 r10 ((6 : Int32) + x2).toNatClampNeg ((zI h7 r10 ((6 : Int32) + x2).toNatClampNeg) + x1)) r10 ((6 : Int32) + x3).toNatClampNeg) + x1)) Q14 ∧ (∀ h15, Q14 h15 → zg G mX10_laySextons (d + 1) 67 [.ref a0, .int x1, .int x2, .int x3, .int (0 : Int32), .int (0 : Int32)] [] h15 (zPV Q))))) : zg G mX10_laySextons (d + 1) 14 [.ref a0, .int x1, .int x2, .int x3, zU, zU] [] h (zPV Q) := by
  refine z_iload_n 10 rfl rfl ?_
  refine z_aload_n 11 rfl rfl ?_
  obtain ⟨o1, B⟩ := B
  obtain ⟨r2, hr2, B⟩ := B
  refine z_getR 12 rfl lX10_13 rfl o1 hr2 ?_
  refine z_iconst (v := 0) 13 rfl (by decide) ?_
  obtain ⟨o3, B⟩ := B
  obtain ⟨o4, B⟩ := B
  refine z_iald 14 rfl o3 o4 ?_
  refine z_icmp_ge 15 142 rfl (by decide) ⟨fun c5 => ?_, fun c5 => ?_⟩
  · have B := B.1 c5
    refine z_iinc (v := 1) 92 rfl rfl (by decide) (by decide) rfl ?_
    refine z_goto 93 2 rfl (by decide) ?_
    refine z_drop 3 ?_
    exact B
  · have B := B.2 c5
    refine z_aload_n 16 rfl rfl ?_
    refine z_iconst (v := 1) 17 rfl (by decide) ?_
    refine z_iconst (v := 0) 18 rfl (by decide) ?_
    obtain ⟨Q6, K8, B⟩ := B
    refine z_cVV2 (ν := mX10_copies) 19 rfl rfl fX10_copies gX10_434 ⟨_, rfl, rfl⟩ (by decide) o1 (Nat.le_of_ble_eq_true rfl) K8 (fun h7 q => ?_)
    have B := B h7 q
    refine z_aload_n 20 rfl rfl ?_
    obtain ⟨o9, B⟩ := B
    obtain ⟨r10, hr10, B⟩ := B
    refine z_getR 21 rfl lX10_87 rfl o9 hr10 ?_
    refine z_bipush (v := 6) 22 rfl (by decide) ?_
    refine z_iload_n 23 rfl rfl ?_
    refine z_iadd 24 rfl ?_
    refine z_dup2 25 rfl rfl rfl ?_
    obtain ⟨o11, B⟩ := B
    obtain ⟨o12, B⟩ := B
    refine z_iald 26 rfl o11 o12 ?_
    refine z_iload_n 27 rfl rfl ?_
    refine z_iadd 28 rfl ?_
    refine z_iast 29 rfl o11 o12 ?_
    refine z_aload_n 30 rfl rfl ?_
    refine z_getR 31 rfl lX10_87 rfl o9 hr10 ?_
    refine z_bipush (v := 6) 32 rfl (by decide) ?_
    refine z_iload_n 33 rfl rfl ?_
    refine z_iadd 34 rfl ?_
    refine z_dup2 35 rfl rfl rfl ?_
    obtain ⟨o13, B⟩ := B
    refine z_iald 36 rfl o11 o13 ?_
    refine z_iload_n 37 rfl rfl ?_
    refine z_iadd 38 rfl ?_
    refine z_iast 39 rfl o11 o13 ?_
    refine z_aload_n 40 rfl rfl ?_
    refine z_iconst (v := 1) 41 rfl (by decide) ?_
    obtain ⟨Q14, K16, B⟩ := B
    refine z_cVV1 (ν := mX10_passes) 42 rfl rfl fX10_passes gX10_440 ⟨_, rfl, rfl⟩ (by decide) o9 (Nat.le_of_ble_eq_true rfl) K16 (fun h15 q => ?_)
    have B := B h15 q
    refine z_iconst (v := 0) 43 rfl (by decide) ?_
    refine z_istore 44 rfl (by decide) rfl ?_
    refine z_iconst (v := 0) 45 rfl (by decide) ?_
    refine z_istore 46 rfl (by decide) rfl ?_
    exact B
set_option maxRecDepth 100000 in
set_option maxHeartbeats 4000000 in
theorem sg_X10_laySextons_67 {G : zG} {d : Nat} {h : zMem} {Q : zMem → Prop} {a0 : Nat} {x1 : Int32} {x2 : Int32} {x3 : Int32} {x4 : Int32} {x5 : Int32} (B : zO h a0 9 ∧ ∃ r2, zR h a0 3 = some r2 ∧ zO h r2 100 ∧ vp_in (4 : Int32) (zLen h r2) ∧ ((zI h r2 (4 : Int32).toNatClampNeg) ≤ x5 → ∃ r6, zR h a0 58 = some r6 ∧ zO h r6 100 ∧ vp_in (((6 : Int32) * x2) + x3) (zLen h r6) ∧ ∃ r9, zR h a0 59 = some r9 ∧ zO h r9 100 ∧ vp_in (((6 : Int32) * x2) + x3) (zLen h r9) ∧ zg G mX10_laySextons (d + 1) 14 [.ref a0, .int x1, .int x2, .int (x3 + 1), zU, zU] [] (zsI (zsI h r6 (((6 : Int32) * x2) + x3).toNatClampNeg x4) r9 (((6 : Int32) * x2) + x3).toNatClampNeg ((zI (zsI h r6 (((6 : Int32) * x2) + x3).toNatClampNeg x4) r2 (4 : Int32).toNatClampNeg) - x4)) (zPV Q)) ∧ (¬ (zI h r2 (4 : Int32).toNatClampNeg) ≤ x5 → ∃ r12, zR h a0 7 = some r12 ∧ ∃ r13, zR h a0 45 = some r13 ∧ zO h r13 100 ∧ vp_in ((5 : Int32) + x5) (zLen h r13) ∧ zO h r12 100 ∧ vp_in (zI h r13 ((5 : Int32) + x5).toNatClampNeg) (zLen h r12) ∧ zg G mX10_laySextons (d + 1) 67 [.ref a0, .int x1, .int x2, .int x3, .int (x4 + (zI h r12 (zI h r13 ((5 : Int32) + x5).toNatClampNeg).toNatClampNeg)), .int (x5 + 1)] [] h (zPV Q))) : zg G mX10_laySextons (d + 1) 67 [.ref a0, .int x1, .int x2, .int x3, .int x4, .int x5] [] h (zPV Q) := by
  refine z_iload 47 rfl rfl ?_
  refine z_aload_n 48 rfl rfl ?_
  obtain ⟨o1, B⟩ := B
  obtain ⟨r2, hr2, B⟩ := B
  refine z_getR 49 rfl lX10_13 rfl o1 hr2 ?_
  refine z_iconst (v := 4) 50 rfl (by decide) ?_
  obtain ⟨o3, B⟩ := B
  obtain ⟨o4, B⟩ := B
  refine z_iald 51 rfl o3 o4 ?_
  refine z_icmp_ge 52 103 rfl (by decide) ⟨fun c5 => ?_, fun c5 => ?_⟩
  · have B := B.1 c5
    refine z_aload_n 67 rfl rfl ?_
    obtain ⟨r6, hr6, B⟩ := B
    refine z_getR 68 rfl lX10_129 rfl o1 hr6 ?_
    refine z_bipush (v := 6) 69 rfl (by decide) ?_
    refine z_iload_n 70 rfl rfl ?_
    refine z_imul 71 rfl ?_
    refine z_iload_n 72 rfl rfl ?_
    refine z_iadd 73 rfl ?_
    refine z_iload 74 rfl rfl ?_
    obtain ⟨o7, B⟩ := B
    obtain ⟨o8, B⟩ := B
    refine z_iast 75 rfl o7 o8 ?_
    refine z_aload_n 76 rfl rfl ?_
    obtain ⟨r9, hr9, B⟩ := B
    refine z_getR 77 rfl lX10_132 rfl o1 hr9 ?_
    refine z_bipush (v := 6) 78 rfl (by decide) ?_
    refine z_iload_n 79 rfl rfl ?_
    refine z_imul 80 rfl ?_
    refine z_iload_n 81 rfl rfl ?_
    refine z_iadd 82 rfl ?_
    refine z_aload_n 83 rfl rfl ?_
    refine z_getR 84 rfl lX10_13 rfl o1 hr2 ?_
    refine z_iconst (v := 4) 85 rfl (by decide) ?_
    refine z_iald 86 rfl o3 o4 ?_
    refine z_iload 87 rfl rfl ?_
    refine z_isub 88 rfl ?_
    obtain ⟨o10, B⟩ := B
    obtain ⟨o11, B⟩ := B
    refine z_iast 89 rfl o10 o11 ?_
    refine z_iinc (v := 1) 90 rfl rfl (by decide) (by decide) rfl ?_
    refine z_goto 91 14 rfl (by decide) ?_
    refine z_drop 4 ?_
    refine z_drop 5 ?_
    exact B
  · have B := B.2 c5
    refine z_iload 53 rfl rfl ?_
    refine z_aload_n 54 rfl rfl ?_
    obtain ⟨r12, hr12, B⟩ := B
    refine z_getR 55 rfl lX10_25 rfl o1 hr12 ?_
    refine z_aload_n 56 rfl rfl ?_
    obtain ⟨r13, hr13, B⟩ := B
    refine z_getR 57 rfl lX10_102 rfl o1 hr13 ?_
    refine z_iconst (v := 5) 58 rfl (by decide) ?_
    refine z_iload 59 rfl rfl ?_
    refine z_iadd 60 rfl ?_
    obtain ⟨o14, B⟩ := B
    obtain ⟨o15, B⟩ := B
    refine z_iald 61 rfl o14 o15 ?_
    obtain ⟨o16, B⟩ := B
    obtain ⟨o17, B⟩ := B
    refine z_iald 62 rfl o16 o17 ?_
    refine z_iadd 63 rfl ?_
    refine z_istore 64 rfl (by decide) rfl ?_
    refine z_iinc (v := 1) 65 rfl rfl (by decide) (by decide) rfl ?_
    refine z_goto 66 67 rfl (by decide) ?_
    exact B
set_option maxRecDepth 100000 in
set_option maxHeartbeats 4000000 in
theorem sg_X10_isRest_0 {G : zG} {d : Nat} {h : zMem} {Q : Int32 → zMem → Prop} {a0 : Nat} {x1 : Int32} {x2 : Int32} (B : zg G mX10_isRest d 2 [.ref a0, .int x1, .int x2, .int (0 : Int32)] [] h (zPI Q)) : zg G mX10_isRest d 0 [.ref a0, .int x1, .int x2, zU] [] h (zPI Q) := by
  refine z_iconst (v := 0) 0 rfl (by decide) ?_
  refine z_istore_n 1 rfl (by decide) rfl ?_
  exact B
theorem cn_X10_isRest {G : zG} {d : Nat} {h : zMem} {Q : Int32 → zMem → Prop} {a0 : Nat} {x1 : Int32} {x2 : Int32} (B : zg G mX10_isRest d 0 [.ref a0, .int x1, .int x2, zU] [] h (zPI Q)) : zConI G mX10_isRest d [.ref a0, .int x1, .int x2] h Q := zcon0 (by decide +kernel) eX10_isRest (Nat.le_of_ble_eq_true rfl) rfl B
set_option maxRecDepth 100000 in
set_option maxHeartbeats 4000000 in
theorem sg_X10_isRest_2 {G : zG} {d : Nat} {h : zMem} {Q : Int32 → zMem → Prop} {a0 : Nat} {x1 : Int32} {x2 : Int32} {x3 : Int32} (B : zO h a0 9 ∧ ∃ r2, zR h a0 3 = some r2 ∧ zO h r2 100 ∧ vp_in (0 : Int32) (zLen h r2) ∧ ((zI h r2 (0 : Int32).toNatClampNeg) ≤ x3 → Q (1 : Int32) h) ∧ (¬ (zI h r2 (0 : Int32).toNatClampNeg) ≤ x3 → ∃ r6, zR h a0 58 = some r6 ∧ zO h r6 100 ∧ vp_in (((6 : Int32) * x3) + x2) (zLen h r6) ∧ vp_in (((6 : Int32) * x1) + x2) (zLen h r6) ∧ ((zI h r6 (((6 : Int32) * x1) + x2).toNatClampNeg) < (zI h r6 (((6 : Int32) * x3) + x2).toNatClampNeg) → Q (0 : Int32) h) ∧ (¬ (zI h r6 (((6 : Int32) * x1) + x2).toNatClampNeg) < (zI h r6 (((6 : Int32) * x3) + x2).toNatClampNeg) → ∃ r11, zR h a0 59 = some r11 ∧ zO h r11 100 ∧ vp_in (((6 : Int32) * x1) + x3) (zLen h r11) ∧ vp_in (((6 : Int32) * x1) + x2) (zLen h r11) ∧ ((zI h r11 (((6 : Int32) * x1) + x3).toNatClampNeg) ≤ (zI h r11 (((6 : Int32) * x1) + x2).toNatClampNeg) → zg G mX10_isRest d 2 [.ref a0, .int x1, .int x2, .int (x3 + 1)] [] h (zPI Q)) ∧ (¬ (zI h r11 (((6 : Int32) * x1) + x3).toNatClampNeg) ≤ (zI h r11 (((6 : Int32) * x1) + x2).toNatClampNeg) → Q (0 : Int32) h)))) : zg G mX10_isRest d 2 [.ref a0, .int x1, .int x2, .int x3] [] h (zPI Q) := by
  refine z_iload_n 2 rfl rfl ?_
  refine z_aload_n 3 rfl rfl ?_
  obtain ⟨o1, B⟩ := B
  obtain ⟨r2, hr2, B⟩ := B
  refine z_getR 4 rfl lX10_13 rfl o1 hr2 ?_
  refine z_iconst (v := 0) 5 rfl (by decide) ?_
  obtain ⟨o3, B⟩ := B
  obtain ⟨o4, B⟩ := B
  refine z_iald 6 rfl o3 o4 ?_
  refine z_icmp_ge 7 70 rfl (by decide) ⟨fun c5 => ?_, fun c5 => ?_⟩
  · have B := B.1 c5
    refine z_iconst (v := 1) 46 rfl (by decide) ?_
    exact z_iret 47 rfl rfl rfl ⟨rfl, rfl⟩ ⟨_, rfl, B⟩
  · have B := B.2 c5
    refine z_aload_n 8 rfl rfl ?_
    obtain ⟨r6, hr6, B⟩ := B
    refine z_getR 9 rfl lX10_129 rfl o1 hr6 ?_
    refine z_bipush (v := 6) 10 rfl (by decide) ?_
    refine z_iload_n 11 rfl rfl ?_
    refine z_imul 12 rfl ?_
    refine z_iload_n 13 rfl rfl ?_
    refine z_iadd 14 rfl ?_
    obtain ⟨o7, B⟩ := B
    obtain ⟨o8, B⟩ := B
    refine z_iald 15 rfl o7 o8 ?_
    refine z_aload_n 16 rfl rfl ?_
    refine z_getR 17 rfl lX10_129 rfl o1 hr6 ?_
    refine z_bipush (v := 6) 18 rfl (by decide) ?_
    refine z_iload_n 19 rfl rfl ?_
    refine z_imul 20 rfl ?_
    refine z_iload_n 21 rfl rfl ?_
    refine z_iadd 22 rfl ?_
    obtain ⟨o9, B⟩ := B
    refine z_iald 23 rfl o7 o9 ?_
    refine z_icmp_gt 24 62 rfl (by decide) ⟨fun c10 => ?_, fun c10 => ?_⟩
    · have B := B.1 c10
      refine z_iconst (v := 0) 42 rfl (by decide) ?_
      exact z_iret 43 rfl rfl rfl ⟨rfl, rfl⟩ ⟨_, rfl, B⟩
    · have B := B.2 c10
      refine z_aload_n 25 rfl rfl ?_
      obtain ⟨r11, hr11, B⟩ := B
      refine z_getR 26 rfl lX10_132 rfl o1 hr11 ?_
      refine z_bipush (v := 6) 27 rfl (by decide) ?_
      refine z_iload_n 28 rfl rfl ?_
      refine z_imul 29 rfl ?_
      refine z_iload_n 30 rfl rfl ?_
      refine z_iadd 31 rfl ?_
      obtain ⟨o12, B⟩ := B
      obtain ⟨o13, B⟩ := B
      refine z_iald 32 rfl o12 o13 ?_
      refine z_aload_n 33 rfl rfl ?_
      refine z_getR 34 rfl lX10_132 rfl o1 hr11 ?_
      refine z_bipush (v := 6) 35 rfl (by decide) ?_
      refine z_iload_n 36 rfl rfl ?_
      refine z_imul 37 rfl ?_
      refine z_iload_n 38 rfl rfl ?_
      refine z_iadd 39 rfl ?_
      obtain ⟨o14, B⟩ := B
      refine z_iald 40 rfl o12 o14 ?_
      refine z_icmp_le 41 64 rfl (by decide) ⟨fun c15 => ?_, fun c15 => ?_⟩
      · have B := B.1 c15
        refine z_iinc (v := 1) 44 rfl rfl (by decide) (by decide) rfl ?_
        refine z_goto 45 2 rfl (by decide) ?_
        exact B
      · have B := B.2 c15
        refine z_iconst (v := 0) 42 rfl (by decide) ?_
        exact z_iret 43 rfl rfl rfl ⟨rfl, rfl⟩ ⟨_, rfl, B⟩
set_option maxRecDepth 100000 in
set_option maxHeartbeats 4000000 in
theorem sg_X10_restOf_0 {G : zG} {d : Nat} {h : zMem} {Q : Int32 → zMem → Prop} {a0 : Nat} {x1 : Int32} {x2 : Int32} (B : zO h a0 9 ∧ ∃ Q1 : zMem → Prop, zConV G mX10_laySextons d [.ref a0, .int x1] h Q1 ∧ (∀ h2, Q1 h2 → zg G mX10_restOf (d + 1) 10 [.ref a0, .int x1, .int x2, .int (0 : Int32), .int (0 : Int32), zU] [] h2 (zPI Q))) : zg G mX10_restOf (d + 1) 0 [.ref a0, .int x1, .int x2, zU, zU, zU] [] h (zPI Q) := by
  refine z_aload_n 0 rfl rfl ?_
  refine z_iload_n 1 rfl rfl ?_
  obtain ⟨o4, B⟩ := B
  obtain ⟨Q1, K3, B⟩ := B
  refine z_cVV1 (ν := mX10_laySextons) 2 rfl rfl fX10_laySextons gX10_451 ⟨_, rfl, rfl⟩ (by decide) o4 (Nat.le_of_ble_eq_true rfl) K3 (fun h2 q => ?_)
  have B := B h2 q
  refine z_iconst (v := 0) 3 rfl (by decide) ?_
  refine z_istore_n 4 rfl (by decide) rfl ?_
  refine z_iconst (v := 0) 5 rfl (by decide) ?_
  refine z_istore 6 rfl (by decide) rfl ?_
  exact B
theorem cn_X10_restOf {G : zG} {d : Nat} {h : zMem} {Q : Int32 → zMem → Prop} {a0 : Nat} {x1 : Int32} {x2 : Int32} (B : zg G mX10_restOf (d + 1) 0 [.ref a0, .int x1, .int x2, zU, zU, zU] [] h (zPI Q)) : zConI G mX10_restOf (d + 1) [.ref a0, .int x1, .int x2] h Q := zcon0 (by decide +kernel) eX10_restOf (Nat.le_of_ble_eq_true rfl) rfl B
set_option maxRecDepth 100000 in
set_option maxHeartbeats 4000000 in
theorem sg_X10_restOf_10 {G : zG} {d : Nat} {h : zMem} {Q : Int32 → zMem → Prop} {a0 : Nat} {x1 : Int32} {x2 : Int32} {x3 : Int32} {x4 : Int32} (B : zO h a0 9 ∧ ∃ r2, zR h a0 3 = some r2 ∧ zO h r2 100 ∧ vp_in (0 : Int32) (zLen h r2) ∧ ((zI h r2 (0 : Int32).toNatClampNeg) ≤ x4 → (¬ x2 = (-1 : Int32) → Q (-2 : Int32) h) ∧ (x2 = (-1 : Int32) → Q x3 h)) ∧ (¬ (zI h r2 (0 : Int32).toNatClampNeg) ≤ x4 → zg G mX10_restOf (d + 1) 24 [.ref a0, .int x1, .int x2, .int x3, .int x4, .int (0 : Int32)] [] h (zPI Q))) : zg G mX10_restOf (d + 1) 10 [.ref a0, .int x1, .int x2, .int x3, .int x4, zU] [] h (zPI Q) := by
  refine z_iload 7 rfl rfl ?_
  refine z_aload_n 8 rfl rfl ?_
  obtain ⟨o1, B⟩ := B
  obtain ⟨r2, hr2, B⟩ := B
  refine z_getR 9 rfl lX10_13 rfl o1 hr2 ?_
  refine z_iconst (v := 0) 10 rfl (by decide) ?_
  obtain ⟨o3, B⟩ := B
  obtain ⟨o4, B⟩ := B
  refine z_iald 11 rfl o3 o4 ?_
  refine z_icmp_ge 12 78 rfl (by decide) ⟨fun c5 => ?_, fun c5 => ?_⟩
  · have B := B.1 c5
    refine z_iload_n 41 rfl rfl ?_
    refine z_iconst (v := -1) 42 rfl (by decide) ?_
    refine z_icmp_ne 43 87 rfl (by decide) ⟨fun c6 => ?_, fun c6 => ?_⟩
    · have B := B.1 c6
      refine z_bipush (v := -2) 46 rfl (by decide) ?_
      exact z_iret 47 rfl rfl rfl ⟨rfl, rfl⟩ ⟨_, rfl, B⟩
    · have B := B.2 c6
      refine z_iload_n 44 rfl rfl ?_
      refine z_goto 45 89 rfl (by decide) ?_
      exact z_iret 47 rfl rfl rfl ⟨rfl, rfl⟩ ⟨_, rfl, B⟩
  · have B := B.2 c5
    refine z_iconst (v := 0) 13 rfl (by decide) ?_
    refine z_istore 14 rfl (by decide) rfl ?_
    exact B
set_option maxRecDepth 100000 in
set_option maxHeartbeats 4000000 in
theorem sg_X10_restOf_24 {G : zG} {d : Nat} {h : zMem} {Q : Int32 → zMem → Prop} {a0 : Nat} {x1 : Int32} {x2 : Int32} {x3 : Int32} {x4 : Int32} {x5 : Int32} (B : zO h a0 9 ∧ ∃ r2, zR h a0 3 = some r2 ∧ zO h r2 100 ∧ vp_in (0 : Int32) (zLen h r2) ∧ ((zI h r2 (0 : Int32).toNatClampNeg) ≤ x5 → zg G mX10_restOf (d + 1) 10 [.ref a0, .int x1, .int x2, .int x3, .int (x4 + 1), zU] [] h (zPI Q)) ∧ (¬ (zI h r2 (0 : Int32).toNatClampNeg) ≤ x5 → ∃ Q6 : Int32 → zMem → Prop, zConI G mX10_isRest d [.ref a0, .int x4, .int x5] h Q6 ∧ (∀ v9 h7, Q6 v9 h7 → (¬ v9 = 0 → (¬ x3 = x2 → zg G mX10_restOf (d + 1) 24 [.ref a0, .int x1, .int x2, .int (x3 + 1), .int x4, .int (x5 + 1)] [] h7 (zPI Q)) ∧ (x3 = x2 → Q (((10 : Int32) * x4) + x5) h7)) ∧ (v9 = 0 → zg G mX10_restOf (d + 1) 24 [.ref a0, .int x1, .int x2, .int x3, .int x4, .int (x5 + 1)] [] h7 (zPI Q))))) : zg G mX10_restOf (d + 1) 24 [.ref a0, .int x1, .int x2, .int x3, .int x4, .int x5] [] h (zPI Q) := by
  refine z_iload 15 rfl rfl ?_
  refine z_aload_n 16 rfl rfl ?_
  obtain ⟨o1, B⟩ := B
  obtain ⟨r2, hr2, B⟩ := B
  refine z_getR 17 rfl lX10_13 rfl o1 hr2 ?_
  refine z_iconst (v := 0) 18 rfl (by decide) ?_
  obtain ⟨o3, B⟩ := B
  obtain ⟨o4, B⟩ := B
  refine z_iald 19 rfl o3 o4 ?_
  refine z_icmp_ge 20 72 rfl (by decide) ⟨fun c5 => ?_, fun c5 => ?_⟩
  · have B := B.1 c5
    refine z_iinc (v := 1) 39 rfl rfl (by decide) (by decide) rfl ?_
    refine z_goto 40 10 rfl (by decide) ?_
    refine z_drop 5 ?_
    exact B
  · have B := B.2 c5
    refine z_aload_n 21 rfl rfl ?_
    refine z_iload 22 rfl rfl ?_
    refine z_iload 23 rfl rfl ?_
    obtain ⟨Q6, K8, B⟩ := B
    refine z_cVI2 (ν := mX10_isRest) 24 rfl rfl fX10_isRest gX10_454 ⟨_, rfl, rfl⟩ (by decide) o1 (Nat.le_of_ble_eq_true rfl) K8 (fun v9 h7 q => ?_)
    have B := B v9 h7 q
    refine z_if_ne 25 49 rfl (by decide) ⟨fun c10 => ?_, fun c10 => ?_⟩
    · have B := B.1 c10
      refine z_iload_n 27 rfl rfl ?_
      refine z_iload_n 28 rfl rfl ?_
      refine z_icmp_ne 29 63 rfl (by decide) ⟨fun c11 => ?_, fun c11 => ?_⟩
      · have B := B.1 c11
        refine z_iinc (v := 1) 36 rfl rfl (by decide) (by decide) rfl ?_
        refine z_iinc (v := 1) 37 rfl rfl (by decide) (by decide) rfl ?_
        refine z_goto 38 24 rfl (by decide) ?_
        exact B
      · have B := B.2 c11
        refine z_bipush (v := 10) 30 rfl (by decide) ?_
        refine z_iload 31 rfl rfl ?_
        refine z_imul 32 rfl ?_
        refine z_iload 33 rfl rfl ?_
        refine z_iadd 34 rfl ?_
        exact z_iret 35 rfl rfl rfl ⟨rfl, rfl⟩ ⟨_, rfl, B⟩
    · have B := B.2 c10
      refine z_goto 26 66 rfl (by decide) ?_
      refine z_iinc (v := 1) 37 rfl rfl (by decide) (by decide) rfl ?_
      refine z_goto 38 24 rfl (by decide) ?_
      exact B
set_option maxRecDepth 100000 in
set_option maxHeartbeats 4000000 in
theorem sg_X10_areSextons_0 {G : zG} {d : Nat} {h : zMem} {Q : Int32 → zMem → Prop} {a0 : Nat} {x1 : Int32} (B : (x1 < (1 : Int32) → Q (0 : Int32) h) ∧ (¬ x1 < (1 : Int32) → ((99 : Int32) < x1 → Q (0 : Int32) h) ∧ (¬ (99 : Int32) < x1 → zO h a0 9 ∧ ∃ r4, zR h a0 3 = some r4 ∧ zO h r4 100 ∧ vp_in (0 : Int32) (zLen h r4) ∧ ((zI h r4 (0 : Int32).toNatClampNeg) ≤ 0 → Q (0 : Int32) h) ∧ (¬ (zI h r4 (0 : Int32).toNatClampNeg) ≤ 0 → vp_in (1 : Int32) (zLen h r4) ∧ ((zI h r4 (1 : Int32).toNatClampNeg) ≤ 0 → Q (0 : Int32) h) ∧ (¬ (zI h r4 (1 : Int32).toNatClampNeg) ≤ 0 → Q (1 : Int32) h))))) : zg G mX10_areSextons d 0 [.ref a0, .int x1] [] h (zPI Q) := by
  refine z_iload_n 0 rfl rfl ?_
  refine z_iconst (v := 1) 1 rfl (by decide) ?_
  refine z_icmp_lt 2 33 rfl (by decide) ⟨fun c1 => ?_, fun c1 => ?_⟩
  · have B := B.1 c1
    refine z_iconst (v := 0) 18 rfl (by decide) ?_
    exact z_iret 19 rfl rfl rfl ⟨rfl, rfl⟩ ⟨_, rfl, B⟩
  · have B := B.2 c1
    refine z_iload_n 3 rfl rfl ?_
    refine z_bipush (v := 99) 4 rfl (by decide) ?_
    refine z_icmp_gt 5 33 rfl (by decide) ⟨fun c2 => ?_, fun c2 => ?_⟩
    · have B := B.1 c2
      refine z_iconst (v := 0) 18 rfl (by decide) ?_
      exact z_iret 19 rfl rfl rfl ⟨rfl, rfl⟩ ⟨_, rfl, B⟩
    · have B := B.2 c2
      refine z_aload_n 6 rfl rfl ?_
      obtain ⟨o3, B⟩ := B
      obtain ⟨r4, hr4, B⟩ := B
      refine z_getR 7 rfl lX10_13 rfl o3 hr4 ?_
      refine z_iconst (v := 0) 8 rfl (by decide) ?_
      obtain ⟨o5, B⟩ := B
      obtain ⟨o6, B⟩ := B
      refine z_iald 9 rfl o5 o6 ?_
      refine z_if_le 10 33 rfl (by decide) ⟨fun c7 => ?_, fun c7 => ?_⟩
      · have B := B.1 c7
        refine z_iconst (v := 0) 18 rfl (by decide) ?_
        exact z_iret 19 rfl rfl rfl ⟨rfl, rfl⟩ ⟨_, rfl, B⟩
      · have B := B.2 c7
        refine z_aload_n 11 rfl rfl ?_
        refine z_getR 12 rfl lX10_13 rfl o3 hr4 ?_
        refine z_iconst (v := 1) 13 rfl (by decide) ?_
        obtain ⟨o8, B⟩ := B
        refine z_iald 14 rfl o5 o8 ?_
        refine z_if_le 15 33 rfl (by decide) ⟨fun c9 => ?_, fun c9 => ?_⟩
        · have B := B.1 c9
          refine z_iconst (v := 0) 18 rfl (by decide) ?_
          exact z_iret 19 rfl rfl rfl ⟨rfl, rfl⟩ ⟨_, rfl, B⟩
        · have B := B.2 c9
          refine z_iconst (v := 1) 16 rfl (by decide) ?_
          refine z_goto 17 34 rfl (by decide) ?_
          exact z_iret 19 rfl rfl rfl ⟨rfl, rfl⟩ ⟨_, rfl, B⟩
theorem cn_X10_areSextons {G : zG} {d : Nat} {h : zMem} {Q : Int32 → zMem → Prop} {a0 : Nat} {x1 : Int32} (B : zg G mX10_areSextons d 0 [.ref a0, .int x1] [] h (zPI Q)) : zConI G mX10_areSextons d [.ref a0, .int x1] h Q := zcon0 (by decide +kernel) eX10_areSextons (Nat.le_of_ble_eq_true rfl) rfl B
set_option maxRecDepth 100000 in
set_option maxHeartbeats 4000000 in
theorem sg_X10_rests_0 {G : zG} {d : Nat} {h : zMem} {Q : Int32 → zMem → Prop} {a0 : Nat} {x1 : Int32} (B : zO h a0 9 ∧ ∃ Q2 : Int32 → zMem → Prop, zConI G mX10_areSextons d [.ref a0, .int x1] (zsI h a0 0 (0 : Int32)) Q2 ∧ (∀ v5 h3, Q2 v5 h3 → (v5 = 0 → Q (-1 : Int32) h3) ∧ (¬ v5 = 0 → zO h3 a0 9 ∧ ∃ Q7 : Int32 → zMem → Prop, zConI G mX10_restOf d [.ref a0, .int x1, .int (-1 : Int32)] h3 Q7 ∧ (∀ v10 h8, Q7 v10 h8 → Q v10 h8)))) : zg G mX10_rests (d + 1) 0 [.ref a0, .int x1] [] h (zPI Q) := by
  refine z_aload_n 0 rfl rfl ?_
  refine z_iconst (v := 0) 1 rfl (by decide) ?_
  obtain ⟨o1, B⟩ := B
  refine z_putI 2 rfl lX10_160 ⟨_, _, _, rfl, rfl⟩ rfl rfl rfl o1 ?_
  refine z_aload_n 3 rfl rfl ?_
  refine z_iload_n 4 rfl rfl ?_
  obtain ⟨Q2, K4, B⟩ := B
  refine z_cVI1 (ν := mX10_areSextons) 5 rfl rfl fX10_areSextons gX10_458 ⟨_, rfl, rfl⟩ (by decide) o1 (Nat.le_of_ble_eq_true rfl) K4 (fun v5 h3 q => ?_)
  have B := B v5 h3 q
  refine z_if_eq 6 22 rfl (by decide) ⟨fun c6 => ?_, fun c6 => ?_⟩
  · have B := B.1 c6
    refine z_iconst (v := -1) 12 rfl (by decide) ?_
    exact z_iret 13 rfl rfl rfl ⟨rfl, rfl⟩ ⟨_, rfl, B⟩
  · have B := B.2 c6
    refine z_aload_n 7 rfl rfl ?_
    refine z_iload_n 8 rfl rfl ?_
    refine z_iconst (v := -1) 9 rfl (by decide) ?_
    obtain ⟨o11, B⟩ := B
    obtain ⟨Q7, K9, B⟩ := B
    refine z_cVI2 (ν := mX10_restOf) 10 rfl rfl fX10_restOf gX10_461 ⟨_, rfl, rfl⟩ (by decide) o11 (Nat.le_of_ble_eq_true rfl) K9 (fun v10 h8 q => ?_)
    have B := B v10 h8 q
    refine z_goto 11 23 rfl (by decide) ?_
    exact z_iret 13 rfl rfl rfl ⟨rfl, rfl⟩ ⟨_, rfl, B⟩
theorem cn_X10_rests {G : zG} {d : Nat} {h : zMem} {Q : Int32 → zMem → Prop} {a0 : Nat} {x1 : Int32} (B : zg G mX10_rests (d + 1) 0 [.ref a0, .int x1] [] h (zPI Q)) : zConI G mX10_rests (d + 1) [.ref a0, .int x1] h Q := zcon0 (by decide +kernel) eX10_rests (Nat.le_of_ble_eq_true rfl) rfl B
