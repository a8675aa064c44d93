set_option maxRecDepth 100000 in
set_option maxHeartbeats 4000000 in
theorem sg_X10_lasts_0 {G : zG} {d : Nat} {h : zMem} {Q : Int32 → zMem → Prop} {x1 : Int32} (hS : zSh2 h)  (B : (x1 < 0 → Q (-1 : Int32) (zsI h 132 0 (0 : Int32))) ∧ (¬ x1 < 0 → (x1 ≤ (1 : Int32) → ∃ Q3 : zMem → Prop, zConV G mX10_copies d [.ref 132, .int (1 : Int32), .int (0 : Int32)] (zsI h 132 0 (0 : Int32)) Q3 ∧ (∀ h4, Q3 h4 → zSh2 h4 ∧ zg G mX10_lasts (d + 1) 24 [.ref 132, .int x1, .int (0 : Int32), zU] [] h4 (zPI Q))) ∧ (¬ x1 ≤ (1 : Int32) → Q (-1 : Int32) (zsI h 132 0 (0 : Int32))))) : zg G mX10_lasts (d + 1) 0 [.ref 132, .int x1, zU, zU] [] h (zPI Q) := by
  refine z_aload_n 0 rfl rfl ?_
  refine z_iconst (v := 0) 1 rfl (by decide) ?_
  refine z_putI 2 rfl lX10_160 ⟨_, _, _, rfl, rfl⟩ rfl rfl rfl (zcl1.o hS 132 9 rfl rfl rfl) ?_
  refine z_iload_n 3 rfl rfl ?_
  refine z_if_lt 4 14 rfl (by decide) ⟨fun c1 => ?_, fun c1 => ?_⟩
  · have B := B.1 c1
    refine z_iconst (v := -1) 8 rfl (by decide) ?_
    exact z_iret 9 rfl rfl rfl ⟨rfl, rfl⟩ ⟨_, rfl, B⟩
  · have B := B.2 c1
    refine z_iload_n 5 rfl rfl ?_
    refine z_iconst (v := 1) 6 rfl (by decide) ?_
    refine z_icmp_le 7 16 rfl (by decide) ⟨fun c2 => ?_, fun c2 => ?_⟩
    · have B := B.1 c2
      refine z_aload_n 10 rfl rfl ?_
      refine z_iconst (v := 1) 11 rfl (by decide) ?_
      refine z_iconst (v := 0) 12 rfl (by decide) ?_
      obtain ⟨Q3, K5, B⟩ := B
      refine z_cVV2 (ν := mX10_copies) 13 rfl rfl fX10_copies gX10_434 ⟨_, rfl, rfl⟩ (by decide) (zcl1.o hS 132 9 rfl rfl rfl) (Nat.le_of_ble_eq_true rfl) K5 (fun h4 q => ?_)
      obtain ⟨hSh4, B⟩ := B h4 q
      refine z_iconst (v := 0) 14 rfl (by decide) ?_
      refine z_istore_n 15 rfl (by decide) rfl ?_
      exact B
    · have B := B.2 c2
      refine z_iconst (v := -1) 8 rfl (by decide) ?_
      exact z_iret 9 rfl rfl rfl ⟨rfl, rfl⟩ ⟨_, rfl, B⟩
theorem cn_X10_lasts {G : zG} {d : Nat} {h : zMem} {Q : Int32 → zMem → Prop} {x1 : Int32} (B : zg G mX10_lasts (d + 1) 0 [.ref 132, .int x1, zU, zU] [] h (zPI Q)) : zConI G mX10_lasts (d + 1) [.ref 132, .int x1] h Q := zcon0 (by decide +kernel) eX10_lasts (Nat.le_of_ble_eq_true rfl) rfl B
set_option maxRecDepth 100000 in
set_option maxHeartbeats 4000000 in
theorem sg_X10_lasts_24 {G : zG} {d : Nat} {h : zMem} {Q : Int32 → zMem → Prop} {x1 : Int32} {x2 : Int32} (hS : zSh2 h)  (B : ((200 : Int32) ≤ x2 → (¬ x1 = 0 → Q (-2 : Int32) h) ∧ (x1 = 0 → Q (200 : Int32) h)) ∧ (¬ (200 : Int32) ≤ x2 → zg G mX10_lasts (d + 1) 33 [.ref 132, .int x1, .int x2, .int (0 : Int32)] [] h (zPI Q))) : zg G mX10_lasts (d + 1) 24 [.ref 132, .int x1, .int x2, zU] [] h (zPI Q) := by
  refine z_iload_n 16 rfl rfl ?_
  refine z_sipush (v := 200) 17 rfl (by decide) ?_
  refine z_icmp_ge 18 165 rfl (by decide) ⟨fun c1 => ?_, fun c1 => ?_⟩
  · have B := B.1 c1
    refine z_iload_n 101 rfl rfl ?_
    refine z_if_ne 102 175 rfl (by decide) ⟨fun c2 => ?_, fun c2 => ?_⟩
    · have B := B.1 c2
      refine z_bipush (v := -2) 105 rfl (by decide) ?_
      exact z_iret 106 rfl rfl rfl ⟨rfl, rfl⟩ ⟨_, rfl, B⟩
    · have B := B.2 c2
      refine z_sipush (v := 200) 103 rfl (by decide) ?_
      refine z_goto 104 177 rfl (by decide) ?_
      exact z_iret 106 rfl rfl rfl ⟨rfl, rfl⟩ ⟨_, rfl, B⟩
  · have B := B.2 c1
    refine z_iconst (v := 0) 19 rfl (by decide) ?_
    refine z_istore_n 20 rfl (by decide) rfl ?_
    exact B
set_option maxRecDepth 100000 in
set_option maxHeartbeats 4000000 in
theorem sg_X10_lasts_33 {G : zG} {d : Nat} {h : zMem} {Q : Int32 → zMem → Prop} {x1 : Int32} {x2 : Int32} {x3 : Int32} (hS : zSh2 h)  (B : ((zI h 134 0) ≤ x3 → zg G mX10_lasts (d + 1) 102 [.ref 132, .int x1, .int x2, .int (0 : Int32)] [] h (zPI Q)) ∧ (¬ (zI h 134 0) ≤ x3 → ((zI h 134 1) ≤ 0 → zg G mX10_lasts (d + 1) 102 [.ref 132, .int x1, .int x2, .int (0 : Int32)] [] h (zPI Q)) ∧ (¬ (zI h 134 1) ≤ 0 → ¬ (zI h 134 1) = 0 ∧ ∃ Q4 : Int32 → zMem → Prop, zConI G mX10_mixOf d [.ref 132, .int (((zI h 151 1) + x2) - ((zI h 151 1) + x2) / (zI h 134 1) * (zI h 134 1)), .int x3] h Q4 ∧ (∀ v7 h5, Q4 v7 h5 → zSh2 h5 ∧ vp_in ((6 : Int32) + x3) 138 ∧ (v7 ≤ (zI h5 156 ((6 : Int32) + x3).toNatClampNeg) → zg G mX10_lasts (d + 1) 33 [.ref 132, .int x1, .int x2, .int (x3 + 1)] [] h5 (zPI Q)) ∧ (¬ v7 ≤ (zI h5 156 ((6 : Int32) + x3).toNatClampNeg) → (¬ x1 = 0 → Q x3 h5) ∧ (x1 = 0 → Q x2 h5)))))) : zg G mX10_lasts (d + 1) 33 [.ref 132, .int x1, .int x2, .int x3] [] h (zPI Q) := by
  refine z_iload_n 21 rfl rfl ?_
  refine z_aload_n 22 rfl rfl ?_
  refine z_getR 23 rfl lX10_13 rfl (zcl1.o hS 132 9 rfl rfl rfl) (zcl1.r hS 132 3 134 rfl rfl rfl) ?_
  refine z_iconst (v := 0) 24 rfl (by decide) ?_
  refine z_iald_c 25 0 rfl (by decide) (zcl1.o hS 134 100 rfl rfl rfl) (zin (zcl1.l hS 134 16 rfl rfl rfl) (zvp (by decide))) ?_
  refine z_icmp_ge 26 100 rfl (by decide) ⟨fun c1 => ?_, fun c1 => ?_⟩
  · have B := B.1 c1
    refine z_iconst (v := 0) 61 rfl (by decide) ?_
    refine z_istore_n 62 rfl (by decide) rfl ?_
    exact B
  · have B := B.2 c1
    refine z_aload_n 27 rfl rfl ?_
    refine z_getR 28 rfl lX10_13 rfl (zcl1.o hS 132 9 rfl rfl rfl) (zcl1.r hS 132 3 134 rfl rfl rfl) ?_
    refine z_iconst (v := 1) 29 rfl (by decide) ?_
    refine z_iald_c 30 1 rfl (by decide) (zcl1.o hS 134 100 rfl rfl rfl) (zin (zcl1.l hS 134 16 rfl rfl rfl) (zvp (by decide))) ?_
    refine z_if_le 31 100 rfl (by decide) ⟨fun c2 => ?_, fun c2 => ?_⟩
    · have B := B.1 c2
      refine z_iconst (v := 0) 61 rfl (by decide) ?_
      refine z_istore_n 62 rfl (by decide) rfl ?_
      exact B
    · have B := B.2 c2
      refine z_aload_n 32 rfl rfl ?_
      refine z_aload_n 33 rfl rfl ?_
      refine z_getR 34 rfl lX10_69 rfl (zcl1.o hS 132 9 rfl rfl rfl) (zcl1.r hS 132 34 151 rfl rfl rfl) ?_
      refine z_iconst (v := 1) 35 rfl (by decide) ?_
      refine z_iald_c 36 1 rfl (by decide) (zcl1.o hS 151 100 rfl rfl rfl) (zin (zcl1.l hS 151 23 rfl rfl rfl) (zvp (by decide))) ?_
      refine z_iload_n 37 rfl rfl ?_
      refine z_iadd 38 rfl ?_
      refine z_aload_n 39 rfl rfl ?_
      refine z_getR 40 rfl lX10_13 rfl (zcl1.o hS 132 9 rfl rfl rfl) (zcl1.r hS 132 3 134 rfl rfl rfl) ?_
      refine z_iconst (v := 1) 41 rfl (by decide) ?_
      refine z_iald_c 42 1 rfl (by decide) (zcl1.o hS 134 100 rfl rfl rfl) (zin (zcl1.l hS 134 16 rfl rfl rfl) (zvp (by decide))) ?_
      obtain ⟨o3, B⟩ := B
      refine z_irem 43 rfl o3 ?_
      refine z_iload_n 44 rfl rfl ?_
      obtain ⟨Q4, K6, B⟩ := B
      refine z_cVI2 (ν := mX10_mixOf) 45 rfl rfl fX10_mixOf gX10_383 ⟨_, rfl, rfl⟩ (by decide) (zcl1.o hS 132 9 rfl rfl rfl) (Nat.le_of_ble_eq_true rfl) K6 (fun v7 h5 q => ?_)
      obtain ⟨hSh5, B⟩ := B v7 h5 q
      refine z_aload_n 46 rfl rfl ?_
      refine z_getR 47 rfl lX10_84 rfl (zcl1.o hSh5 132 9 rfl rfl rfl) (zcl1.r hSh5 132 39 156 rfl rfl rfl) ?_
      refine z_bipush (v := 6) 48 rfl (by decide) ?_
      refine z_iload_n 49 rfl rfl ?_
      refine z_iadd 50 rfl ?_
      obtain ⟨o8, B⟩ := B
      refine z_iald 51 rfl (zcl1.o hSh5 156 100 rfl rfl rfl) (zin (zcl1.l hSh5 156 138 rfl rfl rfl) o8) ?_
      refine z_icmp_le 52 94 rfl (by decide) ⟨fun c9 => ?_, fun c9 => ?_⟩
      · have B := B.1 c9
        refine z_iinc (v := 1) 59 rfl rfl (by decide) (by decide) rfl ?_
        refine z_goto 60 33 rfl (by decide) ?_
        exact B
      · have B := B.2 c9
        refine z_iload_n 53 rfl rfl ?_
        refine z_if_ne 54 92 rfl (by decide) ⟨fun c10 => ?_, fun c10 => ?_⟩
        · have B := B.1 c10
          refine z_iload_n 57 rfl rfl ?_
          exact z_iret 58 rfl rfl rfl ⟨rfl, rfl⟩ ⟨_, rfl, B⟩
        · have B := B.2 c10
          refine z_iload_n 55 rfl rfl ?_
          refine z_goto 56 93 rfl (by decide) ?_
          exact z_iret 58 rfl rfl rfl ⟨rfl, rfl⟩ ⟨_, rfl, B⟩
set_option maxRecDepth 100000 in
set_option maxHeartbeats 4000000 in
theorem sg_X10_lasts_102 {G : zG} {d : Nat} {h : zMem} {Q : Int32 → zMem → Prop} {x1 : Int32} {x2 : Int32} {x3 : Int32} (hS : zSh2 h)  (B : ((zI h 134 0) ≤ x3 → zg G mX10_lasts (d + 1) 24 [.ref 132, .int x1, .int (x2 + 1), zU] [] h (zPI Q)) ∧ (¬ (zI h 134 0) ≤ x3 → ((zI h 134 1) ≤ 0 → zg G mX10_lasts (d + 1) 24 [.ref 132, .int x1, .int (x2 + 1), zU] [] h (zPI Q)) ∧ (¬ (zI h 134 1) ≤ 0 → vp_in ((6 : Int32) + x3) 138 ∧ ¬ (zI h 134 1) = 0 ∧ ∃ Q5 : Int32 → zMem → Prop, zConI G mX10_mixOf d [.ref 132, .int (((zI h 151 1) + x2) - ((zI h 151 1) + x2) / (zI h 134 1) * (zI h 134 1)), .int x3] h Q5 ∧ (∀ v8 h6, Q5 v8 h6 → zSh2 h6 ∧ zg G mX10_lasts (d + 1) 102 [.ref 132, .int x1, .int x2, .int (x3 + 1)] [] (zsI h6 156 ((6 : Int32) + x3).toNatClampNeg ((zI h 156 ((6 : Int32) + x3).toNatClampNeg) - v8)) (zPI Q))))) : zg G mX10_lasts (d + 1) 102 [.ref 132, .int x1, .int x2, .int x3] [] h (zPI Q) := by
  refine z_iload_n 63 rfl rfl ?_
  refine z_aload_n 64 rfl rfl ?_
  refine z_getR 65 rfl lX10_13 rfl (zcl1.o hS 132 9 rfl rfl rfl) (zcl1.r hS 132 3 134 rfl rfl rfl) ?_
  refine z_iconst (v := 0) 66 rfl (by decide) ?_
  refine z_iald_c 67 0 rfl (by decide) (zcl1.o hS 134 100 rfl rfl rfl) (zin (zcl1.l hS 134 16 rfl rfl rfl) (zvp (by decide))) ?_
  refine z_icmp_ge 68 159 rfl (by decide) ⟨fun c1 => ?_, fun c1 => ?_⟩
  · have B := B.1 c1
    refine z_iinc (v := 1) 99 rfl rfl (by decide) (by decide) rfl ?_
    refine z_goto 100 24 rfl (by decide) ?_
    refine z_drop 3 ?_
    exact B
  · have B := B.2 c1
    refine z_aload_n 69 rfl rfl ?_
    refine z_getR 70 rfl lX10_13 rfl (zcl1.o hS 132 9 rfl rfl rfl) (zcl1.r hS 132 3 134 rfl rfl rfl) ?_
    refine z_iconst (v := 1) 71 rfl (by decide) ?_
    refine z_iald_c 72 1 rfl (by decide) (zcl1.o hS 134 100 rfl rfl rfl) (zin (zcl1.l hS 134 16 rfl rfl rfl) (zvp (by decide))) ?_
    refine z_if_le 73 159 rfl (by decide) ⟨fun c2 => ?_, fun c2 => ?_⟩
    · have B := B.1 c2
      refine z_iinc (v := 1) 99 rfl rfl (by decide) (by decide) rfl ?_
      refine z_goto 100 24 rfl (by decide) ?_
      refine z_drop 3 ?_
      exact B
    · have B := B.2 c2
      refine z_aload_n 74 rfl rfl ?_
      refine z_getR 75 rfl lX10_84 rfl (zcl1.o hS 132 9 rfl rfl rfl) (zcl1.r hS 132 39 156 rfl rfl rfl) ?_
      refine z_bipush (v := 6) 76 rfl (by decide) ?_
      refine z_iload_n 77 rfl rfl ?_
      refine z_iadd 78 rfl ?_
      refine z_dup2 79 rfl rfl rfl ?_
      obtain ⟨o3, B⟩ := B
      refine z_iald 80 rfl (zcl1.o hS 156 100 rfl rfl rfl) (zin (zcl1.l hS 156 138 rfl rfl rfl) o3) ?_
      refine z_aload_n 81 rfl rfl ?_
      refine z_aload_n 82 rfl rfl ?_
      refine z_getR 83 rfl lX10_69 rfl (zcl1.o hS 132 9 rfl rfl rfl) (zcl1.r hS 132 34 151 rfl rfl rfl) ?_
      refine z_iconst (v := 1) 84 rfl (by decide) ?_
      refine z_iald_c 85 1 rfl (by decide) (zcl1.o hS 151 100 rfl rfl rfl) (zin (zcl1.l hS 151 23 rfl rfl rfl) (zvp (by decide))) ?_
      refine z_iload_n 86 rfl rfl ?_
      refine z_iadd 87 rfl ?_
      refine z_aload_n 88 rfl rfl ?_
      refine z_getR 89 rfl lX10_13 rfl (zcl1.o hS 132 9 rfl rfl rfl) (zcl1.r hS 132 3 134 rfl rfl rfl) ?_
      refine z_iconst (v := 1) 90 rfl (by decide) ?_
      refine z_iald_c 91 1 rfl (by decide) (zcl1.o hS 134 100 rfl rfl rfl) (zin (zcl1.l hS 134 16 rfl rfl rfl) (zvp (by decide))) ?_
      obtain ⟨o4, B⟩ := B
      refine z_irem 92 rfl o4 ?_
      refine z_iload_n 93 rfl rfl ?_
      obtain ⟨Q5, K7, B⟩ := B
      refine z_cVI2 (ν := mX10_mixOf) 94 rfl rfl fX10_mixOf gX10_383 ⟨_, rfl, rfl⟩ (by decide) (zcl1.o hS 132 9 rfl rfl rfl) (Nat.le_of_ble_eq_true rfl) K7 (fun v8 h6 q => ?_)
      obtain ⟨hSh6, B⟩ := B v8 h6 q
      refine z_isub 95 rfl ?_
      refine z_iast 96 rfl (zcl1.o hSh6 156 100 rfl rfl rfl) (zin (zcl1.l hSh6 156 138 rfl rfl rfl) o3) ?_
      refine z_iinc (v := 1) 97 rfl rfl (by decide) (by decide) rfl ?_
      refine z_goto 98 102 rfl (by decide) ?_
      exact B
set_option maxRecDepth 100000 in
set_option maxHeartbeats 4000000 in
theorem sg_X10_needs_0 {G : zG} {d : Nat} {h : zMem} {Q : Int32 → zMem → Prop} {x1 : Int32} {x2 : Int32} (hS : zSh2 h)  (B : ∃ Q1 : Int32 → zMem → Prop, zConI G mX10_isStuff d [.ref 132, .int x1] (zsI h 132 0 (0 : Int32)) Q1 ∧ (∀ v4 h2, Q1 v4 h2 → zSh2 h2 ∧ (v4 = 0 → Q (-1 : Int32) h2) ∧ (¬ v4 = 0 → (x2 < 0 → Q (-1 : Int32) h2) ∧ (¬ x2 < 0 → (x2 ≤ (99 : Int32) → zg G mX10_needs (d + 1) 30 [.ref 132, .int x1, .int x2, .int (0 : Int32), .int (0 : Int32)] [] h2 (zPI Q)) ∧ (¬ x2 ≤ (99 : Int32) → Q (-1 : Int32) h2))))) : zg G mX10_needs (d + 1) 0 [.ref 132, .int x1, .int x2, zU, zU] [] h (zPI Q) := by
  refine z_aload_n 0 rfl rfl ?_
  refine z_iconst (v := 0) 1 rfl (by decide) ?_
  refine z_putI 2 rfl lX10_160 ⟨_, _, _, rfl, rfl⟩ rfl rfl rfl (zcl1.o hS 132 9 rfl rfl rfl) ?_
  refine z_aload_n 3 rfl rfl ?_
  refine z_iload_n 4 rfl rfl ?_
  obtain ⟨Q1, K3, B⟩ := B
  refine z_cVI1 (ν := mX10_isStuff) 5 rfl rfl fX10_isStuff gX10_418 ⟨_, rfl, rfl⟩ (by decide) (zcl1.o hS 132 9 rfl rfl rfl) (Nat.le_of_ble_eq_true rfl) K3 (fun v4 h2 q => ?_)
  obtain ⟨hSh2, B⟩ := B v4 h2 q
  refine z_if_eq 6 23 rfl (by decide) ⟨fun c5 => ?_, fun c5 => ?_⟩
  · have B := B.1 c5
    refine z_iconst (v := -1) 12 rfl (by decide) ?_
    exact z_iret 13 rfl rfl rfl ⟨rfl, rfl⟩ ⟨_, rfl, B⟩
  · have B := B.2 c5
    refine z_iload_n 7 rfl rfl ?_
    refine z_if_lt 8 23 rfl (by decide) ⟨fun c6 => ?_, fun c6 => ?_⟩
    · have B := B.1 c6
      refine z_iconst (v := -1) 12 rfl (by decide) ?_
      exact z_iret 13 rfl rfl rfl ⟨rfl, rfl⟩ ⟨_, rfl, B⟩
    · have B := B.2 c6
      refine z_iload_n 9 rfl rfl ?_
      refine z_bipush (v := 99) 10 rfl (by decide) ?_
      refine z_icmp_le 11 25 rfl (by decide) ⟨fun c7 => ?_, fun c7 => ?_⟩
      · have B := B.1 c7
        refine z_iconst (v := 0) 14 rfl (by decide) ?_
        refine z_istore_n 15 rfl (by decide) rfl ?_
        refine z_iconst (v := 0) 16 rfl (by decide) ?_
        refine z_istore 17 rfl (by decide) rfl ?_
        exact B
      · have B := B.2 c7
        refine z_iconst (v := -1) 12 rfl (by decide) ?_
        exact z_iret 13 rfl rfl rfl ⟨rfl, rfl⟩ ⟨_, rfl, B⟩
theorem cn_X10_needs {G : zG} {d : Nat} {h : zMem} {Q : Int32 → zMem → Prop} {x1 : Int32} {x2 : Int32} (B : zg G mX10_needs (d + 1) 0 [.ref 132, .int x1, .int x2, zU, zU] [] h (zPI Q)) : zConI G mX10_needs (d + 1) [.ref 132, .int x1, .int x2] h Q := zcon0 (by decide +kernel) eX10_needs (Nat.le_of_ble_eq_true rfl) rfl B
set_option maxRecDepth 100000 in
set_option maxHeartbeats 4000000 in
theorem sg_X10_needs_30 {G : zG} {d : Nat} {h : zMem} {Q : Int32 → zMem → Prop} {x1 : Int32} {x2 : Int32} {x3 : Int32} {x4 : Int32} (hS : zSh2 h)  (B : (x2 ≤ x4 → vp_in x1 138 ∧ Q (if (0 : Int32) < (x3 - (zI h 156 x1.toNatClampNeg)) then (x3 - (zI h 156 x1.toNatClampNeg)) else (0 : Int32)) h) ∧ (¬ x2 ≤ x4 → ((zI h 134 1) ≤ 0 → vp_in x1 138 ∧ Q (if (0 : Int32) < (x3 - (zI h 156 x1.toNatClampNeg)) then (x3 - (zI h 156 x1.toNatClampNeg)) else (0 : Int32)) h) ∧ (¬ (zI h 134 1) ≤ 0 → ¬ (zI h 134 1) = 0 ∧ ∃ Q6 : Int32 → zMem → Prop, zConI G mX10_mixOf d [.ref 132, .int (((zI h 151 0) + x4) - ((zI h 151 0) + x4) / (zI h 134 1) * (zI h 134 1)), .int x1] h Q6 ∧ (∀ v9 h7, Q6 v9 h7 → zSh2 h7 ∧ zg G mX10_needs (d + 1) 30 [.ref 132, .int x1, .int x2, .int (x3 + v9), .int (x4 + 1)] [] h7 (zPI Q))))) : zg G mX10_needs (d + 1) 30 [.ref 132, .int x1, .int x2, .int x3, .int x4] [] h (zPI Q) := by
  refine z_iload 18 rfl rfl ?_
  refine z_iload_n 19 rfl rfl ?_
  refine z_icmp_ge 20 75 rfl (by decide) ⟨fun c1 => ?_, fun c1 => ?_⟩
  · have B := B.1 c1
    refine z_iconst (v := 0) 45 rfl (by decide) ?_
    refine z_iload_n 46 rfl rfl ?_
    refine z_aload_n 47 rfl rfl ?_
    refine z_getR 48 rfl lX10_84 rfl (zcl1.o hS 132 9 rfl rfl rfl) (zcl1.r hS 132 39 156 rfl rfl rfl) ?_
    refine z_iload_n 49 rfl rfl ?_
    obtain ⟨o2, B⟩ := B
    refine z_iald 50 rfl (zcl1.o hS 156 100 rfl rfl rfl) (zin (zcl1.l hS 156 138 rfl rfl rfl) o2) ?_
    refine z_isub 51 rfl ?_
    refine z_mmax 52 rfl rfl gmX10_449 (Nat.le_of_ble_eq_true rfl) ?_
    exact z_iret 53 rfl rfl rfl ⟨rfl, rfl⟩ ⟨_, rfl, B⟩
  · have B := B.2 c1
    refine z_aload_n 21 rfl rfl ?_
    refine z_getR 22 rfl lX10_13 rfl (zcl1.o hS 132 9 rfl rfl rfl) (zcl1.r hS 132 3 134 rfl rfl rfl) ?_
    refine z_iconst (v := 1) 23 rfl (by decide) ?_
    refine z_iald_c 24 1 rfl (by decide) (zcl1.o hS 134 100 rfl rfl rfl) (zin (zcl1.l hS 134 16 rfl rfl rfl) (zvp (by decide))) ?_
    refine z_if_le 25 75 rfl (by decide) ⟨fun c3 => ?_, fun c3 => ?_⟩
    · have B := B.1 c3
      refine z_iconst (v := 0) 45 rfl (by decide) ?_
      refine z_iload_n 46 rfl rfl ?_
      refine z_aload_n 47 rfl rfl ?_
      refine z_getR 48 rfl lX10_84 rfl (zcl1.o hS 132 9 rfl rfl rfl) (zcl1.r hS 132 39 156 rfl rfl rfl) ?_
      refine z_iload_n 49 rfl rfl ?_
      obtain ⟨o4, B⟩ := B
      refine z_iald 50 rfl (zcl1.o hS 156 100 rfl rfl rfl) (zin (zcl1.l hS 156 138 rfl rfl rfl) o4) ?_
      refine z_isub 51 rfl ?_
      refine z_mmax 52 rfl rfl gmX10_449 (Nat.le_of_ble_eq_true rfl) ?_
      exact z_iret 53 rfl rfl rfl ⟨rfl, rfl⟩ ⟨_, rfl, B⟩
    · have B := B.2 c3
      refine z_iload_n 26 rfl rfl ?_
      refine z_aload_n 27 rfl rfl ?_
      refine z_aload_n 28 rfl rfl ?_
      refine z_getR 29 rfl lX10_69 rfl (zcl1.o hS 132 9 rfl rfl rfl) (zcl1.r hS 132 34 151 rfl rfl rfl) ?_
      refine z_iconst (v := 0) 30 rfl (by decide) ?_
      refine z_iald_c 31 0 rfl (by decide) (zcl1.o hS 151 100 rfl rfl rfl) (zin (zcl1.l hS 151 23 rfl rfl rfl) (zvp (by decide))) ?_
      refine z_iload 32 rfl rfl ?_
      refine z_iadd 33 rfl ?_
      refine z_aload_n 34 rfl rfl ?_
      refine z_getR 35 rfl lX10_13 rfl (zcl1.o hS 132 9 rfl rfl rfl) (zcl1.r hS 132 3 134 rfl rfl rfl) ?_
      refine z_iconst (v := 1) 36 rfl (by decide) ?_
      refine z_iald_c 37 1 rfl (by decide) (zcl1.o hS 134 100 rfl rfl rfl) (zin (zcl1.l hS 134 16 rfl rfl rfl) (zvp (by decide))) ?_
      obtain ⟨o5, B⟩ := B
      refine z_irem 38 rfl o5 ?_
      refine z_iload_n 39 rfl rfl ?_
      obtain ⟨Q6, K8, B⟩ := B
      refine z_cVI2 (ν := mX10_mixOf) 40 rfl rfl fX10_mixOf gX10_383 ⟨_, rfl, rfl⟩ (by decide) (zcl1.o hS 132 9 rfl rfl rfl) (Nat.le_of_ble_eq_true rfl) K8 (fun v9 h7 q => ?_)
      obtain ⟨hSh7, B⟩ := B v9 h7 q
      refine z_iadd 41 rfl ?_
      refine z_istore_n 42 rfl (by decide) rfl ?_
      refine z_iinc (v := 1) 43 rfl rfl (by decide) (by decide) rfl ?_
      refine z_goto 44 30 rfl (by decide) ?_
      exact B
set_option maxRecDepth 100000 in
set_option maxHeartbeats 4000000 in
theorem sg_X10_dearest_0 {G : zG} {d : Nat} {h : zMem} {Q : Int32 → zMem → Prop} {x1 : Int32} (hS : zSh2 h)  (B : (x1 < 0 → Q (-1 : Int32) (zsI h 132 0 (0 : Int32))) ∧ (¬ x1 < 0 → ((1 : Int32) < x1 → Q (-1 : Int32) (zsI h 132 0 (0 : Int32))) ∧ (¬ (1 : Int32) < x1 → (¬ (zI (zsI h 132 0 (0 : Int32)) 134 1) = 0 → zg G mX10_dearest (d + 1) 32 [.ref 132, .int x1, .int (-1 : Int32), .int (0 : Int32), .int (0 : Int32), zU, zU] [] (zsI h 132 0 (0 : Int32)) (zPI Q)) ∧ ((zI (zsI h 132 0 (0 : Int32)) 134 1) = 0 → Q (-1 : Int32) (zsI h 132 0 (0 : Int32)))))) : zg G mX10_dearest (d + 1) 0 [.ref 132, .int x1, zU, zU, zU, zU, zU] [] h (zPI Q) := by
  refine z_aload_n 0 rfl rfl ?_
  refine z_iconst (v := 0) 1 rfl (by decide) ?_
  refine z_putI 2 rfl lX10_160 ⟨_, _, _, rfl, rfl⟩ rfl rfl rfl (zcl1.o hS 132 9 rfl rfl rfl) ?_
  refine z_iload_n 3 rfl rfl ?_
  refine z_if_lt 4 23 rfl (by decide) ⟨fun c1 => ?_, fun c1 => ?_⟩
  · have B := B.1 c1
    refine z_iconst (v := -1) 13 rfl (by decide) ?_
    exact z_iret 14 rfl rfl rfl ⟨rfl, rfl⟩ ⟨_, rfl, B⟩
  · have B := B.2 c1
    refine z_iload_n 5 rfl rfl ?_
    refine z_iconst (v := 1) 6 rfl (by decide) ?_
    refine z_icmp_gt 7 23 rfl (by decide) ⟨fun c2 => ?_, fun c2 => ?_⟩
    · have B := B.1 c2
      refine z_iconst (v := -1) 13 rfl (by decide) ?_
      exact z_iret 14 rfl rfl rfl ⟨rfl, rfl⟩ ⟨_, rfl, B⟩
    · have B := B.2 c2
      refine z_aload_n 8 rfl rfl ?_
      refine z_getR 9 rfl lX10_13 rfl (zcl1.o hS 132 9 rfl rfl rfl) (zcl1.r hS 132 3 134 rfl rfl rfl) ?_
      refine z_iconst (v := 1) 10 rfl (by decide) ?_
      refine z_iald_c 11 1 rfl (by decide) (zcl1.o hS 134 100 rfl rfl rfl) (zin (zcl1.l hS 134 16 rfl rfl rfl) (zvp (by decide))) ?_
      refine z_if_ne 12 25 rfl (by decide) ⟨fun c3 => ?_, fun c3 => ?_⟩
      · have B := B.1 c3
        refine z_iconst (v := -1) 15 rfl (by decide) ?_
        refine z_istore_n 16 rfl (by decide) rfl ?_
        refine z_iconst (v := 0) 17 rfl (by decide) ?_
        refine z_istore_n 18 rfl (by decide) rfl ?_
        refine z_iconst (v := 0) 19 rfl (by decide) ?_
        refine z_istore 20 rfl (by decide) rfl ?_
        exact B
      · have B := B.2 c3
        refine z_iconst (v := -1) 13 rfl (by decide) ?_
        exact z_iret 14 rfl rfl rfl ⟨rfl, rfl⟩ ⟨_, rfl, B⟩
theorem cn_X10_dearest {G : zG} {d : Nat} {h : zMem} {Q : Int32 → zMem → Prop} {x1 : Int32} (B : zg G mX10_dearest (d + 1) 0 [.ref 132, .int x1, zU, zU, zU, zU, zU] [] h (zPI Q)) : zConI G mX10_dearest (d + 1) [.ref 132, .int x1] h Q := zcon0 (by decide +kernel) eX10_dearest (Nat.le_of_ble_eq_true rfl) rfl B
set_option maxRecDepth 100000 in
set_option maxHeartbeats 4000000 in
theorem sg_X10_dearest_32 {G : zG} {d : Nat} {h : zMem} {Q : Int32 → zMem → Prop} {x1 : Int32} {x2 : Int32} {x3 : Int32} {x4 : Int32} (hS : zSh2 h)  (B : ((zI h 134 1) ≤ x4 → (¬ x1 = 0 → Q x3 h) ∧ (x1 = 0 → Q x2 h)) ∧ (¬ (zI h 134 1) ≤ x4 → zg G mX10_dearest (d + 1) 49 [.ref 132, .int x1, .int x2, .int x3, .int x4, .int (0 : Int32), .int (0 : Int32)] [] h (zPI Q))) : zg G mX10_dearest (d + 1) 32 [.ref 132, .int x1, .int x2, .int x3, .int x4, zU, zU] [] h (zPI Q) := by
  refine z_iload 21 rfl rfl ?_
  refine z_aload_n 22 rfl rfl ?_
  refine z_getR 23 rfl lX10_13 rfl (zcl1.o hS 132 9 rfl rfl rfl) (zcl1.r hS 132 3 134 rfl rfl rfl) ?_
  refine z_iconst (v := 1) 24 rfl (by decide) ?_
  refine z_iald_c 25 1 rfl (by decide) (zcl1.o hS 134 100 rfl rfl rfl) (zin (zcl1.l hS 134 16 rfl rfl rfl) (zvp (by decide))) ?_
  refine z_icmp_ge 26 113 rfl (by decide) ⟨fun c1 => ?_, fun c1 => ?_⟩
  · have B := B.1 c1
    refine z_iload_n 64 rfl rfl ?_
    refine z_if_ne 65 121 rfl (by decide) ⟨fun c2 => ?_, fun c2 => ?_⟩
    · have B := B.1 c2
      refine z_iload_n 68 rfl rfl ?_
      exact z_iret 69 rfl rfl rfl ⟨rfl, rfl⟩ ⟨_, rfl, B⟩
    · have B := B.2 c2
      refine z_iload_n 66 rfl rfl ?_
      refine z_goto 67 122 rfl (by decide) ?_
      exact z_iret 69 rfl rfl rfl ⟨rfl, rfl⟩ ⟨_, rfl, B⟩
  · have B := B.2 c1
    refine z_iconst (v := 0) 27 rfl (by decide) ?_
    refine z_istore 28 rfl (by decide) rfl ?_
    refine z_iconst (v := 0) 29 rfl (by decide) ?_
    refine z_istore 30 rfl (by decide) rfl ?_
    exact B
set_option maxRecDepth 100000 in
set_option maxHeartbeats 4000000 in
theorem sg_X10_dearest_49 {G : zG} {d : Nat} {h : zMem} {Q : Int32 → zMem → Prop} {x1 : Int32} {x2 : Int32} {x3 : Int32} {x4 : Int32} {x5 : Int32} {x6 : Int32} (hS : zSh2 h)  (B : ((zI h 134 0) ≤ x6 → (x2 = (-1 : Int32) → zg G mX10_dearest (d + 1) 32 [.ref 132, .int x1, .int x4, .int x5, .int (x4 + 1), zU, zU] [] h (zPI Q)) ∧ (¬ x2 = (-1 : Int32) → (x3 < x5 → zg G mX10_dearest (d + 1) 32 [.ref 132, .int x1, .int x4, .int x5, .int (x4 + 1), zU, zU] [] h (zPI Q)) ∧ (¬ x3 < x5 → zg G mX10_dearest (d + 1) 32 [.ref 132, .int x1, .int x2, .int x3, .int (x4 + 1), zU, zU] [] h (zPI Q)))) ∧ (¬ (zI h 134 0) ≤ x6 → ∃ Q4 : Int32 → zMem → Prop, zConI G mX10_mixOf d [.ref 132, .int x4, .int x6] h Q4 ∧ (∀ v7 h5, Q4 v7 h5 → zSh2 h5 ∧ ∃ Q8 : Int32 → zMem → Prop, zConI G mX10_worthOf d [.ref 132, .int (0 : Int32), .int x6] h5 Q8 ∧ (∀ v11 h9, Q8 v11 h9 → zSh2 h9 ∧ zg G mX10_dearest (d + 1) 49 [.ref 132, .int x1, .int x2, .int x3, .int x4, .int (x5 + (v7 * v11)), .int (x6 + 1)] [] h9 (zPI Q))))) : zg G mX10_dearest (d + 1) 49 [.ref 132, .int x1, .int x2, .int x3, .int x4, .int x5, .int x6] [] h (zPI Q) := by
  refine z_iload 31 rfl rfl ?_
  refine z_aload_n 32 rfl rfl ?_
  refine z_getR 33 rfl lX10_13 rfl (zcl1.o hS 132 9 rfl rfl rfl) (zcl1.r hS 132 3 134 rfl rfl rfl) ?_
  refine z_iconst (v := 0) 34 rfl (by decide) ?_
  refine z_iald_c 35 0 rfl (by decide) (zcl1.o hS 134 100 rfl rfl rfl) (zin (zcl1.l hS 134 16 rfl rfl rfl) (zvp (by decide))) ?_
  refine z_icmp_ge 36 87 rfl (by decide) ⟨fun c1 => ?_, fun c1 => ?_⟩
  · have B := B.1 c1
    refine z_iload_n 51 rfl rfl ?_
    refine z_iconst (v := -1) 52 rfl (by decide) ?_
    refine z_icmp_eq 53 101 rfl (by decide) ⟨fun c2 => ?_, fun c2 => ?_⟩
    · have B := B.1 c2
      refine z_iload 58 rfl rfl ?_
      refine z_istore_n 59 rfl (by decide) rfl ?_
      refine z_iload 60 rfl rfl ?_
      refine z_istore_n 61 rfl (by decide) rfl ?_
      refine z_iinc (v := 1) 62 rfl rfl (by decide) (by decide) rfl ?_
      refine z_goto 63 32 rfl (by decide) ?_
      refine z_drop 5 ?_
      refine z_drop 6 ?_
      exact B
    · have B := B.2 c2
      refine z_iload 54 rfl rfl ?_
      refine z_iload_n 55 rfl rfl ?_
      refine z_icmp_gt 56 101 rfl (by decide) ⟨fun c3 => ?_, fun c3 => ?_⟩
      · have B := B.1 c3
        refine z_iload 58 rfl rfl ?_
        refine z_istore_n 59 rfl (by decide) rfl ?_
        refine z_iload 60 rfl rfl ?_
        refine z_istore_n 61 rfl (by decide) rfl ?_
        refine z_iinc (v := 1) 62 rfl rfl (by decide) (by decide) rfl ?_
        refine z_goto 63 32 rfl (by decide) ?_
        refine z_drop 5 ?_
        refine z_drop 6 ?_
        exact B
      · have B := B.2 c3
        refine z_goto 57 107 rfl (by decide) ?_
        refine z_iinc (v := 1) 62 rfl rfl (by decide) (by decide) rfl ?_
        refine z_goto 63 32 rfl (by decide) ?_
        refine z_drop 5 ?_
        refine z_drop 6 ?_
        exact B
  · have B := B.2 c1
    refine z_iload 37 rfl rfl ?_
    refine z_aload_n 38 rfl rfl ?_
    refine z_iload 39 rfl rfl ?_
    refine z_iload 40 rfl rfl ?_
    obtain ⟨Q4, K6, B⟩ := B
    refine z_cVI2 (ν := mX10_mixOf) 41 rfl rfl fX10_mixOf gX10_383 ⟨_, rfl, rfl⟩ (by decide) (zcl1.o hS 132 9 rfl rfl rfl) (Nat.le_of_ble_eq_true rfl) K6 (fun v7 h5 q => ?_)
    obtain ⟨hSh5, B⟩ := B v7 h5 q
    refine z_aload_n 42 rfl rfl ?_
    refine z_iconst (v := 0) 43 rfl (by decide) ?_
    refine z_iload 44 rfl rfl ?_
    obtain ⟨Q8, K10, B⟩ := B
    refine z_cVI2 (ν := mX10_worthOf) 45 rfl rfl fX10_worthOf gX10_421 ⟨_, rfl, rfl⟩ (by decide) (zcl1.o hSh5 132 9 rfl rfl rfl) (Nat.le_of_ble_eq_true rfl) K10 (fun v11 h9 q => ?_)
    obtain ⟨hSh9, B⟩ := B v11 h9 q
    refine z_imul 46 rfl ?_
    refine z_iadd 47 rfl ?_
    refine z_istore 48 rfl (by decide) rfl ?_
    refine z_iinc (v := 1) 49 rfl rfl (by decide) (by decide) rfl ?_
    refine z_goto 50 49 rfl (by decide) ?_
    exact B
set_option maxRecDepth 100000 in
set_option maxHeartbeats 4000000 in
theorem sg_X10_inPlace_0 {G : zG} {d : Nat} {h : zMem} {Q : Int32 → zMem → Prop} {x1 : Int32} {x2 : Int32} (hS : zSh2 h)  (B : ∃ Q1 : Int32 → zMem → Prop, zConI G mX10_isStuff d [.ref 132, .int x1] (zsI h 132 0 (0 : Int32)) Q1 ∧ (∀ v4 h2, Q1 v4 h2 → zSh2 h2 ∧ (v4 = 0 → Q (-1 : Int32) h2) ∧ (¬ v4 = 0 → ∃ Q6 : Int32 → zMem → Prop, zConI G mX10_isStuff d [.ref 132, .int x2] h2 Q6 ∧ (∀ v9 h7, Q6 v9 h7 → zSh2 h7 ∧ (v9 = 0 → Q (-1 : Int32) h7) ∧ (¬ v9 = 0 → (¬ x1 = x2 → zg G mX10_inPlace (d + 1) 43 [.ref 132, .int x1, .int x2, .int (0 : Int32), .int (0 : Int32)] [] (zsI (zsI h7 132 50 x1) 132 51 x2) (zPI Q)) ∧ (x1 = x2 → Q (-1 : Int32) h7)))))) : zg G mX10_inPlace (d + 1) 0 [.ref 132, .int x1, .int x2, zU, zU] [] h (zPI Q) := by
  refine z_aload_n 0 rfl rfl ?_
  refine z_iconst (v := 0) 1 rfl (by decide) ?_
  refine z_putI 2 rfl lX10_160 ⟨_, _, _, rfl, rfl⟩ rfl rfl rfl (zcl1.o hS 132 9 rfl rfl rfl) ?_
  refine z_aload_n 3 rfl rfl ?_
  refine z_iload_n 4 rfl rfl ?_
  obtain ⟨Q1, K3, B⟩ := B
  refine z_cVI1 (ν := mX10_isStuff) 5 rfl rfl fX10_isStuff gX10_418 ⟨_, rfl, rfl⟩ (by decide) (zcl1.o hS 132 9 rfl rfl rfl) (Nat.le_of_ble_eq_true rfl) K3 (fun v4 h2 q => ?_)
  obtain ⟨hSh2, B⟩ := B v4 h2 q
  refine z_if_eq 6 26 rfl (by decide) ⟨fun c5 => ?_, fun c5 => ?_⟩
  · have B := B.1 c5
    refine z_iconst (v := -1) 14 rfl (by decide) ?_
    exact z_iret 15 rfl rfl rfl ⟨rfl, rfl⟩ ⟨_, rfl, B⟩
  · have B := B.2 c5
    refine z_aload_n 7 rfl rfl ?_
    refine z_iload_n 8 rfl rfl ?_
    obtain ⟨Q6, K8, B⟩ := B
    refine z_cVI1 (ν := mX10_isStuff) 9 rfl rfl fX10_isStuff gX10_418 ⟨_, rfl, rfl⟩ (by decide) (zcl1.o hSh2 132 9 rfl rfl rfl) (Nat.le_of_ble_eq_true rfl) K8 (fun v9 h7 q => ?_)
    obtain ⟨hSh7, B⟩ := B v9 h7 q
    refine z_if_eq 10 26 rfl (by decide) ⟨fun c10 => ?_, fun c10 => ?_⟩
    · have B := B.1 c10
      refine z_iconst (v := -1) 14 rfl (by decide) ?_
      exact z_iret 15 rfl rfl rfl ⟨rfl, rfl⟩ ⟨_, rfl, B⟩
    · have B := B.2 c10
      refine z_iload_n 11 rfl rfl ?_
      refine z_iload_n 12 rfl rfl ?_
      refine z_icmp_ne 13 28 rfl (by decide) ⟨fun c11 => ?_, fun c11 => ?_⟩
      · have B := B.1 c11
        refine z_aload_n 16 rfl rfl ?_
        refine z_iload_n 17 rfl rfl ?_
        refine z_putI 18 rfl lX10_108 ⟨_, _, _, rfl, rfl⟩ rfl rfl rfl (zcl1.o hSh7 132 9 rfl rfl rfl) ?_
        refine z_aload_n 19 rfl rfl ?_
        refine z_iload_n 20 rfl rfl ?_
        refine z_putI 21 rfl lX10_111 ⟨_, _, _, rfl, rfl⟩ rfl rfl rfl (zcl1.o hSh7 132 9 rfl rfl rfl) ?_
        refine z_iconst (v := 0) 22 rfl (by decide) ?_
        refine z_istore_n 23 rfl (by decide) rfl ?_
        refine z_iconst (v := 0) 24 rfl (by decide) ?_
        refine z_istore 25 rfl (by decide) rfl ?_
        exact B
      · have B := B.2 c11
        refine z_iconst (v := -1) 14 rfl (by decide) ?_
        exact z_iret 15 rfl rfl rfl ⟨rfl, rfl⟩ ⟨_, rfl, B⟩
theorem cn_X10_inPlace {G : zG} {d : Nat} {h : zMem} {Q : Int32 → zMem → Prop} {x1 : Int32} {x2 : Int32} (B : zg G mX10_inPlace (d + 1) 0 [.ref 132, .int x1, .int x2, zU, zU] [] h (zPI Q)) : zConI G mX10_inPlace (d + 1) [.ref 132, .int x1, .int x2] h Q := zcon0 (by decide +kernel) eX10_inPlace (Nat.le_of_ble_eq_true rfl) rfl B
set_option maxRecDepth 100000 in
set_option maxHeartbeats 4000000 in
theorem sg_X10_inPlace_43 {G : zG} {d : Nat} {h : zMem} {Q : Int32 → zMem → Prop} {x1 : Int32} {x2 : Int32} {x3 : Int32} {x4 : Int32} (hS : zSh2 h)  (B : ((zI h 134 4) ≤ x4 → Q x3 (zsI (zsI h 132 50 (-1 : Int32)) 132 51 (-1 : Int32))) ∧ (¬ (zI h 134 4) ≤ x4 → ∃ Q2 : Int32 → zMem → Prop, zConI G mX10_pairOf d [.ref 132, .int x4, .int (-1 : Int32)] h Q2 ∧ (∀ v5 h3, Q2 v5 h3 → zSh2 h3 ∧ (¬ v5 = 0 → zg G mX10_inPlace (d + 1) 43 [.ref 132, .int x1, .int x2, .int (x3 + (0 : Int32)), .int (x4 + 1)] [] h3 (zPI Q)) ∧ (v5 = 0 → zg G mX10_inPlace (d + 1) 43 [.ref 132, .int x1, .int x2, .int (x3 + (1 : Int32)), .int (x4 + 1)] [] h3 (zPI Q))))) : zg G mX10_inPlace (d + 1) 43 [.ref 132, .int x1, .int x2, .int x3, .int x4] [] h (zPI Q) := by
  refine z_iload 26 rfl rfl ?_
  refine z_aload_n 27 rfl rfl ?_
  refine z_getR 28 rfl lX10_13 rfl (zcl1.o hS 132 9 rfl rfl rfl) (zcl1.r hS 132 3 134 rfl rfl rfl) ?_
  refine z_iconst (v := 4) 29 rfl (by decide) ?_
  refine z_iald_c 30 4 rfl (by decide) (zcl1.o hS 134 100 rfl rfl rfl) (zin (zcl1.l hS 134 16 rfl rfl rfl) (zvp (by decide))) ?_
  refine z_icmp_ge 31 78 rfl (by decide) ⟨fun c1 => ?_, fun c1 => ?_⟩
  · have B := B.1 c1
    refine z_aload_n 45 rfl rfl ?_
    refine z_iconst (v := -1) 46 rfl (by decide) ?_
    refine z_putI 47 rfl lX10_108 ⟨_, _, _, rfl, rfl⟩ rfl rfl rfl (zcl1.o hS 132 9 rfl rfl rfl) ?_
    refine z_aload_n 48 rfl rfl ?_
    refine z_iconst (v := -1) 49 rfl (by decide) ?_
    refine z_putI 50 rfl lX10_111 ⟨_, _, _, rfl, rfl⟩ rfl rfl rfl (zcl1.o hS 132 9 rfl rfl rfl) ?_
    refine z_iload_n 51 rfl rfl ?_
    exact z_iret 52 rfl rfl rfl ⟨rfl, rfl⟩ ⟨_, rfl, B⟩
  · have B := B.2 c1
    refine z_iload_n 32 rfl rfl ?_
    refine z_aload_n 33 rfl rfl ?_
    refine z_iload 34 rfl rfl ?_
    refine z_iconst (v := -1) 35 rfl (by decide) ?_
    obtain ⟨Q2, K4, B⟩ := B
    refine z_cVI2 (ν := mX10_pairOf) 36 rfl rfl fX10_pairOf gX10_446 ⟨_, rfl, rfl⟩ (by decide) (zcl1.o hS 132 9 rfl rfl rfl) (Nat.le_of_ble_eq_true rfl) K4 (fun v5 h3 q => ?_)
    obtain ⟨hSh3, B⟩ := B v5 h3 q
    refine z_if_ne 37 69 rfl (by decide) ⟨fun c6 => ?_, fun c6 => ?_⟩
    · have B := B.1 c6
      refine z_iconst (v := 0) 40 rfl (by decide) ?_
      refine z_iadd 41 rfl ?_
      refine z_istore_n 42 rfl (by decide) rfl ?_
      refine z_iinc (v := 1) 43 rfl rfl (by decide) (by decide) rfl ?_
      refine z_goto 44 43 rfl (by decide) ?_
      exact B
    · have B := B.2 c6
      refine z_iconst (v := 1) 38 rfl (by decide) ?_
      refine z_goto 39 70 rfl (by decide) ?_
      refine z_iadd 41 rfl ?_
      refine z_istore_n 42 rfl (by decide) rfl ?_
      refine z_iinc (v := 1) 43 rfl rfl (by decide) (by decide) rfl ?_
      refine z_goto 44 43 rfl (by decide) ?_
      exact B
set_option maxRecDepth 100000 in
set_option maxHeartbeats 4000000 in
theorem sg_X10_letter_0 {G : zG} {d : Nat} {h : zMem} {Q : Int32 → zMem → Prop} {x1 : Int32} {x2 : Int32} {x3 : Int32} (hS : zSh2 h)  (B : ∃ Q1 : Int32 → zMem → Prop, zConI G mX10_isDay d [.ref 132, .int x1] (zsI h 132 0 (0 : Int32)) Q1 ∧ (∀ v4 h2, Q1 v4 h2 → zSh2 h2 ∧ (v4 = 0 → Q (-1 : Int32) h2) ∧ (¬ v4 = 0 → ∃ Q6 : Int32 → zMem → Prop, zConI G mX10_isMonk d [.ref 132, .int x2] h2 Q6 ∧ (∀ v9 h7, Q6 v9 h7 → zSh2 h7 ∧ (v9 = 0 → Q (-1 : Int32) h7) ∧ (¬ v9 = 0 → (x3 < 0 → Q (-1 : Int32) h7) ∧ (¬ x3 < 0 → (x3 ≤ (10 : Int32) → ∃ Q13 : Int32 → zMem → Prop, zConI G mX10_keenOf d [.ref 132, .int (0 : Int32), .int x2] h7 Q13 ∧ (∀ v16 h14, Q13 v16 h14 → zSh2 h14 ∧ zg G mX10_letter (d + 1) 47 [.ref 132, .int x1, .int x2, .int x3, .int v16, .int (0 : Int32), .int (0 : Int32), zU, zU] [] h14 (zPI Q))) ∧ (¬ x3 ≤ (10 : Int32) → Q (-1 : Int32) h7))))))) : zg G mX10_letter (d + 1) 0 [.ref 132, .int x1, .int x2, .int x3, zU, zU, zU, zU, zU] [] h (zPI Q) := by
  refine z_aload_n 0 rfl rfl ?_
  refine z_iconst (v := 0) 1 rfl (by decide) ?_
  refine z_putI 2 rfl lX10_160 ⟨_, _, _, rfl, rfl⟩ rfl rfl rfl (zcl1.o hS 132 9 rfl rfl rfl) ?_
  refine z_aload_n 3 rfl rfl ?_
  refine z_iload_n 4 rfl rfl ?_
  obtain ⟨Q1, K3, B⟩ := B
  refine z_cVI1 (ν := mX10_isDay) 5 rfl rfl fX10_isDay gX10_424 ⟨_, rfl, rfl⟩ (by decide) (zcl1.o hS 132 9 rfl rfl rfl) (Nat.le_of_ble_eq_true rfl) K3 (fun v4 h2 q => ?_)
  obtain ⟨hSh2, B⟩ := B v4 h2 q
  refine z_if_eq 6 31 rfl (by decide) ⟨fun c5 => ?_, fun c5 => ?_⟩
  · have B := B.1 c5
    refine z_iconst (v := -1) 16 rfl (by decide) ?_
    exact z_iret 17 rfl rfl rfl ⟨rfl, rfl⟩ ⟨_, rfl, B⟩
  · have B := B.2 c5
    refine z_aload_n 7 rfl rfl ?_
    refine z_iload_n 8 rfl rfl ?_
    obtain ⟨Q6, K8, B⟩ := B
    refine z_cVI1 (ν := mX10_isMonk) 9 rfl rfl fX10_isMonk gX10_415 ⟨_, rfl, rfl⟩ (by decide) (zcl1.o hSh2 132 9 rfl rfl rfl) (Nat.le_of_ble_eq_true rfl) K8 (fun v9 h7 q => ?_)
    obtain ⟨hSh7, B⟩ := B v9 h7 q
    refine z_if_eq 10 31 rfl (by decide) ⟨fun c10 => ?_, fun c10 => ?_⟩
    · have B := B.1 c10
      refine z_iconst (v := -1) 16 rfl (by decide) ?_
      exact z_iret 17 rfl rfl rfl ⟨rfl, rfl⟩ ⟨_, rfl, B⟩
    · have B := B.2 c10
      refine z_iload_n 11 rfl rfl ?_
      refine z_if_lt 12 31 rfl (by decide) ⟨fun c11 => ?_, fun c11 => ?_⟩
      · have B := B.1 c11
        refine z_iconst (v := -1) 16 rfl (by decide) ?_
        exact z_iret 17 rfl rfl rfl ⟨rfl, rfl⟩ ⟨_, rfl, B⟩
      · have B := B.2 c11
        refine z_iload_n 13 rfl rfl ?_
        refine z_bipush (v := 10) 14 rfl (by decide) ?_
        refine z_icmp_le 15 33 rfl (by decide) ⟨fun c12 => ?_, fun c12 => ?_⟩
        · have B := B.1 c12
          refine z_aload_n 18 rfl rfl ?_
          refine z_iconst (v := 0) 19 rfl (by decide) ?_
          refine z_iload_n 20 rfl rfl ?_
          obtain ⟨Q13, K15, B⟩ := B
          refine z_cVI2 (ν := mX10_keenOf) 21 rfl rfl fX10_keenOf gX10_386 ⟨_, rfl, rfl⟩ (by decide) (zcl1.o hSh7 132 9 rfl rfl rfl) (Nat.le_of_ble_eq_true rfl) K15 (fun v16 h14 q => ?_)
          obtain ⟨hSh14, B⟩ := B v16 h14 q
          refine z_istore 22 rfl (by decide) rfl ?_
          refine z_iconst (v := 0) 23 rfl (by decide) ?_
          refine z_istore 24 rfl (by decide) rfl ?_
          refine z_iconst (v := 0) 25 rfl (by decide) ?_
          refine z_istore 26 rfl (by decide) rfl ?_
          exact B
        · have B := B.2 c12
          refine z_iconst (v := -1) 16 rfl (by decide) ?_
          exact z_iret 17 rfl rfl rfl ⟨rfl, rfl⟩ ⟨_, rfl, B⟩
theorem cn_X10_letter {G : zG} {d : Nat} {h : zMem} {Q : Int32 → zMem → Prop} {x1 : Int32} {x2 : Int32} {x3 : Int32} (B : zg G mX10_letter (d + 1) 0 [.ref 132, .int x1, .int x2, .int x3, zU, zU, zU, zU, zU] [] h (zPI Q)) : zConI G mX10_letter (d + 1) [.ref 132, .int x1, .int x2, .int x3] h Q := zcon0 (by decide +kernel) eX10_letter (Nat.le_of_ble_eq_true rfl) rfl B
set_option maxRecDepth 100000 in
set_option maxHeartbeats 4000000 in
theorem sg_X10_letter_47 {G : zG} {d : Nat} {h : zMem} {Q : Int32 → zMem → Prop} {x1 : Int32} {x2 : Int32} {x3 : Int32} {x4 : Int32} {x5 : Int32} {x6 : Int32} (hS : zSh2 h)  (B : ((zI h 134 0) ≤ x6 → zg G mX10_letter (d + 1) 103 [.ref 132, .int x1, .int x2, .int x3, .int x4, .int x5, .int (0 : Int32), zU, zU] [] h (zPI Q)) ∧ (¬ (zI h 134 0) ≤ x6 → ∃ Q2 : Int32 → zMem → Prop, zConI G mX10_mixOf d [.ref 132, .int x1, .int x6] h Q2 ∧ (∀ v5 h3, Q2 v5 h3 → zSh2 h3 ∧ (((v5 * ((100 : Int32) - ((10 : Int32) * x3))) / (100 : Int32)) < x4 → zg G mX10_letter (d + 1) 47 [.ref 132, .int x1, .int x2, .int x3, .int x4, .int (x5 ||| (0 : Int32)), .int (x6 + 1), zU, zU] [] h3 (zPI Q)) ∧ (¬ ((v5 * ((100 : Int32) - ((10 : Int32) * x3))) / (100 : Int32)) < x4 → zg G mX10_letter (d + 1) 47 [.ref 132, .int x1, .int x2, .int x3, .int x4, .int (x5 ||| ((1 : Int32) <<< (x6 &&& 31))), .int (x6 + 1), zU, zU] [] h3 (zPI Q))))) : zg G mX10_letter (d + 1) 47 [.ref 132, .int x1, .int x2, .int x3, .int x4, .int x5, .int x6, zU, zU] [] h (zPI Q) := by
  refine z_iload 27 rfl rfl ?_
  refine z_aload_n 28 rfl rfl ?_
  refine z_getR 29 rfl lX10_13 rfl (zcl1.o hS 132 9 rfl rfl rfl) (zcl1.r hS 132 3 134 rfl rfl rfl) ?_
  refine z_iconst (v := 0) 30 rfl (by decide) ?_
  refine z_iald_c 31 0 rfl (by decide) (zcl1.o hS 134 100 rfl rfl rfl) (zin (zcl1.l hS 134 16 rfl rfl rfl) (zvp (by decide))) ?_
  refine z_icmp_ge 32 100 rfl (by decide) ⟨fun c1 => ?_, fun c1 => ?_⟩
  · have B := B.1 c1
    refine z_iconst (v := 0) 57 rfl (by decide) ?_
    refine z_istore 58 rfl (by decide) rfl ?_
    exact B
  · have B := B.2 c1
    refine z_iload 33 rfl rfl ?_
    refine z_aload_n 34 rfl rfl ?_
    refine z_iload_n 35 rfl rfl ?_
    refine z_iload 36 rfl rfl ?_
    obtain ⟨Q2, K4, B⟩ := B
    refine z_cVI2 (ν := mX10_mixOf) 37 rfl rfl fX10_mixOf gX10_383 ⟨_, rfl, rfl⟩ (by decide) (zcl1.o hS 132 9 rfl rfl rfl) (Nat.le_of_ble_eq_true rfl) K4 (fun v5 h3 q => ?_)
    obtain ⟨hSh3, B⟩ := B v5 h3 q
    refine z_bipush (v := 100) 38 rfl (by decide) ?_
    refine z_bipush (v := 10) 39 rfl (by decide) ?_
    refine z_iload_n 40 rfl rfl ?_
    refine z_imul 41 rfl ?_
    refine z_isub 42 rfl ?_
    refine z_imul 43 rfl ?_
    refine z_bipush (v := 100) 44 rfl (by decide) ?_
    refine z_idiv 45 rfl (by decide) ?_
    refine z_iload 46 rfl rfl ?_
    refine z_icmp_lt 47 90 rfl (by decide) ⟨fun c6 => ?_, fun c6 => ?_⟩
    · have B := B.1 c6
      refine z_iconst (v := 0) 52 rfl (by decide) ?_
      refine z_ior 53 rfl ?_
      refine z_istore 54 rfl (by decide) rfl ?_
      refine z_iinc (v := 1) 55 rfl rfl (by decide) (by decide) rfl ?_
      refine z_goto 56 47 rfl (by decide) ?_
      exact B
    · have B := B.2 c6
      refine z_iconst (v := 1) 48 rfl (by decide) ?_
      refine z_iload 49 rfl rfl ?_
      refine z_ishl 50 rfl ?_
      refine z_goto 51 91 rfl (by decide) ?_
      refine z_ior 53 rfl ?_
      refine z_istore 54 rfl (by decide) rfl ?_
      refine z_iinc (v := 1) 55 rfl rfl (by decide) (by decide) rfl ?_
      refine z_goto 56 47 rfl (by decide) ?_
      exact B
set_option maxRecDepth 100000 in
set_option maxHeartbeats 4000000 in
theorem sg_X10_letter_103 {G : zG} {d : Nat} {h : zMem} {Q : Int32 → zMem → Prop} {x1 : Int32} {x2 : Int32} {x3 : Int32} {x4 : Int32} {x5 : Int32} {x6 : Int32} (hS : zSh2 h)  (B : ((zI h 134 1) ≤ x6 → Q (-2 : Int32) h) ∧ (¬ (zI h 134 1) ≤ x6 → zg G mX10_letter (d + 1) 120 [.ref 132, .int x1, .int x2, .int x3, .int x4, .int x5, .int x6, .int (0 : Int32), .int (0 : Int32)] [] h (zPI Q))) : zg G mX10_letter (d + 1) 103 [.ref 132, .int x1, .int x2, .int x3, .int x4, .int x5, .int x6, zU, zU] [] h (zPI Q) := by
  refine z_iload 59 rfl rfl ?_
  refine z_aload_n 60 rfl rfl ?_
  refine z_getR 61 rfl lX10_13 rfl (zcl1.o hS 132 9 rfl rfl rfl) (zcl1.r hS 132 3 134 rfl rfl rfl) ?_
  refine z_iconst (v := 1) 62 rfl (by decide) ?_
  refine z_iald_c 63 1 rfl (by decide) (zcl1.o hS 134 100 rfl rfl rfl) (zin (zcl1.l hS 134 16 rfl rfl rfl) (zvp (by decide))) ?_
  refine z_icmp_ge 64 179 rfl (by decide) ⟨fun c1 => ?_, fun c1 => ?_⟩
  · have B := B.1 c1
    refine z_bipush (v := -2) 98 rfl (by decide) ?_
    exact z_iret 99 rfl rfl rfl ⟨rfl, rfl⟩ ⟨_, rfl, B⟩
  · have B := B.2 c1
    refine z_iconst (v := 0) 65 rfl (by decide) ?_
    refine z_istore 66 rfl (by decide) rfl ?_
    refine z_iconst (v := 0) 67 rfl (by decide) ?_
    refine z_istore 68 rfl (by decide) rfl ?_
    exact B
set_option maxRecDepth 100000 in
set_option maxHeartbeats 4000000 in
theorem sg_X10_letter_120 {G : zG} {d : Nat} {h : zMem} {Q : Int32 → zMem → Prop} {x1 : Int32} {x2 : Int32} {x3 : Int32} {x4 : Int32} {x5 : Int32} {x6 : Int32} {x7 : Int32} {x8 : Int32} (hS : zSh2 h)  (B : ((zI h 134 0) ≤ x8 → (¬ x7 = x5 → zg G mX10_letter (d + 1) 103 [.ref 132, .int x1, .int x2, .int x3, .int x4, .int x5, .int (x6 + 1), zU, zU] [] h (zPI Q)) ∧ (x7 = x5 → Q x6 h)) ∧ (¬ (zI h 134 0) ≤ x8 → ∃ Q3 : Int32 → zMem → Prop, zConI G mX10_mixOf d [.ref 132, .int x6, .int x8] h Q3 ∧ (∀ v6 h4, Q3 v6 h4 → zSh2 h4 ∧ (v6 < x4 → zg G mX10_letter (d + 1) 120 [.ref 132, .int x1, .int x2, .int x3, .int x4, .int x5, .int x6, .int (x7 ||| (0 : Int32)), .int (x8 + 1)] [] h4 (zPI Q)) ∧ (¬ v6 < x4 → zg G mX10_letter (d + 1) 120 [.ref 132, .int x1, .int x2, .int x3, .int x4, .int x5, .int x6, .int (x7 ||| ((1 : Int32) <<< (x8 &&& 31))), .int (x8 + 1)] [] h4 (zPI Q))))) : zg G mX10_letter (d + 1) 120 [.ref 132, .int x1, .int x2, .int x3, .int x4, .int x5, .int x6, .int x7, .int x8] [] h (zPI Q) := by
  refine z_iload 69 rfl rfl ?_
  refine z_aload_n 70 rfl rfl ?_
  refine z_getR 71 rfl lX10_13 rfl (zcl1.o hS 132 9 rfl rfl rfl) (zcl1.r hS 132 3 134 rfl rfl rfl) ?_
  refine z_iconst (v := 0) 72 rfl (by decide) ?_
  refine z_iald_c 73 0 rfl (by decide) (zcl1.o hS 134 100 rfl rfl rfl) (zin (zcl1.l hS 134 16 rfl rfl rfl) (zvp (by decide))) ?_
  refine z_icmp_ge 74 163 rfl (by decide) ⟨fun c1 => ?_, fun c1 => ?_⟩
  · have B := B.1 c1
    refine z_iload 91 rfl rfl ?_
    refine z_iload 92 rfl rfl ?_
    refine z_icmp_ne 93 173 rfl (by decide) ⟨fun c2 => ?_, fun c2 => ?_⟩
    · have B := B.1 c2
      refine z_iinc (v := 1) 96 rfl rfl (by decide) (by decide) rfl ?_
      refine z_goto 97 103 rfl (by decide) ?_
      refine z_drop 7 ?_
      refine z_drop 8 ?_
      exact B
    · have B := B.2 c2
      refine z_iload 94 rfl rfl ?_
      exact z_iret 95 rfl rfl rfl ⟨rfl, rfl⟩ ⟨_, rfl, B⟩
  · have B := B.2 c1
    refine z_iload 75 rfl rfl ?_
    refine z_aload_n 76 rfl rfl ?_
    refine z_iload 77 rfl rfl ?_
    refine z_iload 78 rfl rfl ?_
    obtain ⟨Q3, K5, B⟩ := B
    refine z_cVI2 (ν := mX10_mixOf) 79 rfl rfl fX10_mixOf gX10_383 ⟨_, rfl, rfl⟩ (by decide) (zcl1.o hS 132 9 rfl rfl rfl) (Nat.le_of_ble_eq_true rfl) K5 (fun v6 h4 q => ?_)
    obtain ⟨hSh4, B⟩ := B v6 h4 q
    refine z_iload 80 rfl rfl ?_
    refine z_icmp_lt 81 153 rfl (by decide) ⟨fun c7 => ?_, fun c7 => ?_⟩
    · have B := B.1 c7
      refine z_iconst (v := 0) 86 rfl (by decide) ?_
      refine z_ior 87 rfl ?_
      refine z_istore 88 rfl (by decide) rfl ?_
      refine z_iinc (v := 1) 89 rfl rfl (by decide) (by decide) rfl ?_
      refine z_goto 90 120 rfl (by decide) ?_
      exact B
    · have B := B.2 c7
      refine z_iconst (v := 1) 82 rfl (by decide) ?_
      refine z_iload 83 rfl rfl ?_
      refine z_ishl 84 rfl ?_
      refine z_goto 85 154 rfl (by decide) ?_
      refine z_ior 87 rfl ?_
      refine z_istore 88 rfl (by decide) rfl ?_
      refine z_iinc (v := 1) 89 rfl rfl (by decide) (by decide) rfl ?_
      refine z_goto 90 120 rfl (by decide) ?_
      exact B
set_option maxRecDepth 100000 in
set_option maxHeartbeats 4000000 in
theorem sg_X10_firstWrong_0 {G : zG} {d : Nat} {h : zMem} {Q : Int32 → zMem → Prop} {x1 : Int32} (hS : zSh2 h)  (B : (x1 < (1 : Int32) → Q (-1 : Int32) (zsI h 132 0 (0 : Int32))) ∧ (¬ x1 < (1 : Int32) → (x1 ≤ (99 : Int32) → ∃ Q3 : zMem → Prop, zConV G mX10_copies d [.ref 132, .int (1 : Int32), .int (0 : Int32)] (zsI h 132 0 (0 : Int32)) Q3 ∧ (∀ h4, Q3 h4 → zSh2 h4 ∧ zg G mX10_firstWrong (d + 1) 26 [.ref 132, .int x1, .int (1 : Int32)] [] h4 (zPI Q))) ∧ (¬ x1 ≤ (99 : Int32) → Q (-1 : Int32) (zsI h 132 0 (0 : Int32))))) : zg G mX10_firstWrong (d + 1) 0 [.ref 132, .int x1, zU] [] h (zPI Q) := by
  refine z_aload_n 0 rfl rfl ?_
  refine z_iconst (v := 0) 1 rfl (by decide) ?_
  refine z_putI 2 rfl lX10_160 ⟨_, _, _, rfl, rfl⟩ rfl rfl rfl (zcl1.o hS 132 9 rfl rfl rfl) ?_
  refine z_iload_n 3 rfl rfl ?_
  refine z_iconst (v := 1) 4 rfl (by decide) ?_
  refine z_icmp_lt 5 16 rfl (by decide) ⟨fun c1 => ?_, fun c1 => ?_⟩
  · have B := B.1 c1
    refine z_iconst (v := -1) 9 rfl (by decide) ?_
    exact z_iret 10 rfl rfl rfl ⟨rfl, rfl⟩ ⟨_, rfl, B⟩
  · have B := B.2 c1
    refine z_iload_n 6 rfl rfl ?_
    refine z_bipush (v := 99) 7 rfl (by decide) ?_
    refine z_icmp_le 8 18 rfl (by decide) ⟨fun c2 => ?_, fun c2 => ?_⟩
    · have B := B.1 c2
      refine z_aload_n 11 rfl rfl ?_
      refine z_iconst (v := 1) 12 rfl (by decide) ?_
      refine z_iconst (v := 0) 13 rfl (by decide) ?_
      obtain ⟨Q3, K5, B⟩ := B
      refine z_cVV2 (ν := mX10_copies) 14 rfl rfl fX10_copies gX10_434 ⟨_, rfl, rfl⟩ (by decide) (zcl1.o hS 132 9 rfl rfl rfl) (Nat.le_of_ble_eq_true rfl) K5 (fun h4 q => ?_)
      obtain ⟨hSh4, B⟩ := B h4 q
      refine z_iconst (v := 1) 15 rfl (by decide) ?_
      refine z_istore_n 16 rfl (by decide) rfl ?_
      exact B
    · have B := B.2 c2
      refine z_iconst (v := -1) 9 rfl (by decide) ?_
      exact z_iret 10 rfl rfl rfl ⟨rfl, rfl⟩ ⟨_, rfl, B⟩
theorem cn_X10_firstWrong {G : zG} {d : Nat} {h : zMem} {Q : Int32 → zMem → Prop} {x1 : Int32} (B : zg G mX10_firstWrong (d + 1) 0 [.ref 132, .int x1, zU] [] h (zPI Q)) : zConI G mX10_firstWrong (d + 1) [.ref 132, .int x1] h Q := zcon0 (by decide +kernel) eX10_firstWrong (Nat.le_of_ble_eq_true rfl) rfl B
set_option maxRecDepth 100000 in
set_option maxHeartbeats 4000000 in
theorem sg_X10_firstWrong_26 {G : zG} {d : Nat} {h : zMem} {Q : Int32 → zMem → Prop} {x1 : Int32} {x2 : Int32} (hS : zSh2 h)  (B : (x1 < x2 → Q (-2 : Int32) h) ∧ (¬ x1 < x2 → ∃ Q2 : zMem → Prop, zConV G mX10_passes d [.ref 132, .int (1 : Int32)] h Q2 ∧ (∀ h3, Q2 h3 → zSh2 h3 ∧ ((zI h3 154 1) ≤ (zI h3 154 0) → zg G mX10_firstWrong (d + 1) 26 [.ref 132, .int x1, .int (x2 + 1)] [] h3 (zPI Q)) ∧ (¬ (zI h3 154 1) ≤ (zI h3 154 0) → Q x2 h3)))) : zg G mX10_firstWrong (d + 1) 26 [.ref 132, .int x1, .int x2] [] h (zPI Q) := by
  refine z_iload_n 17 rfl rfl ?_
  refine z_iload_n 18 rfl rfl ?_
  refine z_icmp_gt 19 59 rfl (by decide) ⟨fun c1 => ?_, fun c1 => ?_⟩
  · have B := B.1 c1
    refine z_bipush (v := -2) 36 rfl (by decide) ?_
    exact z_iret 37 rfl rfl rfl ⟨rfl, rfl⟩ ⟨_, rfl, B⟩
  · have B := B.2 c1
    refine z_aload_n 20 rfl rfl ?_
    refine z_iconst (v := 1) 21 rfl (by decide) ?_
    obtain ⟨Q2, K4, B⟩ := B
    refine z_cVV1 (ν := mX10_passes) 22 rfl rfl fX10_passes gX10_440 ⟨_, rfl, rfl⟩ (by decide) (zcl1.o hS 132 9 rfl rfl rfl) (Nat.le_of_ble_eq_true rfl) K4 (fun h3 q => ?_)
    obtain ⟨hSh3, B⟩ := B h3 q
    refine z_aload_n 23 rfl rfl ?_
    refine z_getR 24 rfl lX10_78 rfl (zcl1.o hSh3 132 9 rfl rfl rfl) (zcl1.r hSh3 132 37 154 rfl rfl rfl) ?_
    refine z_iconst (v := 1) 25 rfl (by decide) ?_
    refine z_iald_c 26 1 rfl (by decide) (zcl1.o hSh3 154 100 rfl rfl rfl) (zin (zcl1.l hSh3 154 23 rfl rfl rfl) (zvp (by decide))) ?_
    refine z_aload_n 27 rfl rfl ?_
    refine z_getR 28 rfl lX10_78 rfl (zcl1.o hSh3 132 9 rfl rfl rfl) (zcl1.r hSh3 132 37 154 rfl rfl rfl) ?_
    refine z_iconst (v := 0) 29 rfl (by decide) ?_
    refine z_iald_c 30 0 rfl (by decide) (zcl1.o hSh3 154 100 rfl rfl rfl) (zin (zcl1.l hSh3 154 23 rfl rfl rfl) (zvp (by decide))) ?_
    refine z_icmp_le 31 53 rfl (by decide) ⟨fun c5 => ?_, fun c5 => ?_⟩
    · have B := B.1 c5
      refine z_iinc (v := 1) 34 rfl rfl (by decide) (by decide) rfl ?_
      refine z_goto 35 26 rfl (by decide) ?_
      exact B
    · have B := B.2 c5
      refine z_iload_n 32 rfl rfl ?_
      exact z_iret 33 rfl rfl rfl ⟨rfl, rfl⟩ ⟨_, rfl, B⟩
set_option maxRecDepth 100000 in
set_option maxHeartbeats 4000000 in
theorem sg_X10_laySextons_0 {G : zG} {d : Nat} {h : zMem} {Q : zMem → Prop} {x1 : Int32} (hS : zSh2 h)  (B : zg G mX10_laySextons (d + 1) 2 [.ref 132, .int x1, .int (0 : Int32), zU, zU, zU] [] h (zPV Q)) : zg G mX10_laySextons (d + 1) 0 [.ref 132, .int x1, zU, zU, zU, zU] [] h (zPV Q) := by
  refine z_iconst (v := 0) 0 rfl (by decide) ?_
  refine z_istore_n 1 rfl (by decide) rfl ?_
  exact B
theorem cn_X10_laySextons {G : zG} {d : Nat} {h : zMem} {Q : zMem → Prop} {x1 : Int32} (B : zg G mX10_laySextons (d + 1) 0 [.ref 132, .int x1, zU, zU, zU, zU] [] h (zPV Q)) : zConV G mX10_laySextons (d + 1) [.ref 132, .int x1] h Q := zcon0 (by decide +kernel) eX10_laySextons (Nat.le_of_ble_eq_true rfl) rfl B
set_option maxRecDepth 100000 in
set_option maxHeartbeats 4000000 in
theorem sg_X10_laySextons_2 {G : zG} {d : Nat} {h : zMem} {Q : zMem → Prop} {x1 : Int32} {x2 : Int32} (hS : zSh2 h)  (B : ((zI h 134 0) ≤ x2 → Q h) ∧ (¬ (zI h 134 0) ≤ x2 → zg G mX10_laySextons (d + 1) 14 [.ref 132, .int x1, .int x2, .int (0 : Int32), zU, zU] [] h (zPV Q))) : zg G mX10_laySextons (d + 1) 2 [.ref 132, .int x1, .int x2, zU, zU, zU] [] h (zPV Q) := by
  refine z_iload_n 2 rfl rfl ?_
  refine z_aload_n 3 rfl rfl ?_
  refine z_getR 4 rfl lX10_13 rfl (zcl1.o hS 132 9 rfl rfl rfl) (zcl1.r hS 132 3 134 rfl rfl rfl) ?_
  refine z_iconst (v := 0) 5 rfl (by decide) ?_
  refine z_iald_c 6 0 rfl (by decide) (zcl1.o hS 134 100 rfl rfl rfl) (zin (zcl1.l hS 134 16 rfl rfl rfl) (zvp (by decide))) ?_
  refine z_icmp_ge 7 148 rfl (by decide) ⟨fun c1 => ?_, fun c1 => ?_⟩
  · have B := B.1 c1
    exact z_vret 94 rfl rfl ⟨rfl, rfl⟩ ⟨rfl, B⟩
  · have B := B.2 c1
    refine z_iconst (v := 0) 8 rfl (by decide) ?_
    refine z_istore_n 9 rfl (by decide) rfl ?_
    exact B
set_option maxRecDepth 100000 in
set_option maxHeartbeats 4000000 in
theorem sg_X10_laySextons_14 {G : zG} {d : Nat} {h : zMem} {Q : zMem → Prop} {x1 : Int32} {x2 : Int32} {x3 : Int32} (hS : zSh2 h)  (B : ((zI h 134 0) ≤ x3 → zg G mX10_laySextons (d + 1) 2 [.ref 132, .int x1, .int (x2 + 1), zU, zU, zU] [] h (zPV Q)) ∧ (¬ (zI h 134 0) ≤ x3 → ∃ Q2 : zMem → Prop, zConV G mX10_copies d [.ref 132, .int (1 : Int32), .int (0 : Int32)] h Q2 ∧ (∀ h3, Q2 h3 → zSh2 h3 ∧ vp_in ((6 : Int32) + x2) 138 ∧ vp_in ((6 : Int32) + x3) 138 ∧ ∃ Q7 : zMem → Prop, zConV G mX10_passes d [.ref 132, .int (1 : Int32)] (zsI (zsI h3 157 ((6 : Int32) + x2).toNatClampNeg ((zI h3 157 ((6 : Int32) + x2).toNatClampNeg) + x1)) 157 ((6 : Int32) + x3).toNatClampNeg ((zI (zsI h3 157 ((6 : Int32) + x2).toNatClampNeg ((zI h3 157 ((6 : Int32) + x2).toNatClampNeg) + x1)) 157 ((6 : Int32) + x3).toNatClampNeg) + x1)) Q7 ∧ (∀ h8, Q7 h8 → zSh2 h8 ∧ zg G mX10_laySextons (d + 1) 67 [.ref 132, .int x1, .int x2, .int x3, .int (0 : Int32), .int (0 : Int32)] [] h8 (zPV Q))))) : zg G mX10_laySextons (d + 1) 14 [.ref 132, .int x1, .int x2, .int x3, zU, zU] [] h (zPV Q) := by
  refine z_iload_n 10 rfl rfl ?_
  refine z_aload_n 11 rfl rfl ?_
  refine z_getR 12 rfl lX10_13 rfl (zcl1.o hS 132 9 rfl rfl rfl) (zcl1.r hS 132 3 134 rfl rfl rfl) ?_
  refine z_iconst (v := 0) 13 rfl (by decide) ?_
  refine z_iald_c 14 0 rfl (by decide) (zcl1.o hS 134 100 rfl rfl rfl) (zin (zcl1.l hS 134 16 rfl rfl rfl) (zvp (by decide))) ?_
  refine z_icmp_ge 15 142 rfl (by decide) ⟨fun c1 => ?_, fun c1 => ?_⟩
  · have B := B.1 c1
    refine z_iinc (v := 1) 92 rfl rfl (by decide) (by decide) rfl ?_
    refine z_goto 93 2 rfl (by decide) ?_
    refine z_drop 3 ?_
    exact B
  · have B := B.2 c1
    refine z_aload_n 16 rfl rfl ?_
    refine z_iconst (v := 1) 17 rfl (by decide) ?_
    refine z_iconst (v := 0) 18 rfl (by decide) ?_
    obtain ⟨Q2, K4, B⟩ := B
    refine z_cVV2 (ν := mX10_copies) 19 rfl rfl fX10_copies gX10_434 ⟨_, rfl, rfl⟩ (by decide) (zcl1.o hS 132 9 rfl rfl rfl) (Nat.le_of_ble_eq_true rfl) K4 (fun h3 q => ?_)
    obtain ⟨hSh3, B⟩ := B h3 q
    refine z_aload_n 20 rfl rfl ?_
    refine z_getR 21 rfl lX10_87 rfl (zcl1.o hSh3 132 9 rfl rfl rfl) (zcl1.r hSh3 132 40 157 rfl rfl rfl) ?_
    refine z_bipush (v := 6) 22 rfl (by decide) ?_
    refine z_iload_n 23 rfl rfl ?_
    refine z_iadd 24 rfl ?_
    refine z_dup2 25 rfl rfl rfl ?_
    obtain ⟨o5, B⟩ := B
    refine z_iald 26 rfl (zcl1.o hSh3 157 100 rfl rfl rfl) (zin (zcl1.l hSh3 157 138 rfl rfl rfl) o5) ?_
    refine z_iload_n 27 rfl rfl ?_
    refine z_iadd 28 rfl ?_
    refine z_iast 29 rfl (zcl1.o hSh3 157 100 rfl rfl rfl) (zin (zcl1.l hSh3 157 138 rfl rfl rfl) o5) ?_
    refine z_aload_n 30 rfl rfl ?_
    refine z_getR 31 rfl lX10_87 rfl (zcl1.o hSh3 132 9 rfl rfl rfl) (zcl1.r hSh3 132 40 157 rfl rfl rfl) ?_
    refine z_bipush (v := 6) 32 rfl (by decide) ?_
    refine z_iload_n 33 rfl rfl ?_
    refine z_iadd 34 rfl ?_
    refine z_dup2 35 rfl rfl rfl ?_
    obtain ⟨o6, B⟩ := B
    refine z_iald 36 rfl (zcl1.o hSh3 157 100 rfl rfl rfl) (zin (zcl1.l hSh3 157 138 rfl rfl rfl) o6) ?_
    refine z_iload_n 37 rfl rfl ?_
    refine z_iadd 38 rfl ?_
    refine z_iast 39 rfl (zcl1.o hSh3 157 100 rfl rfl rfl) (zin (zcl1.l hSh3 157 138 rfl rfl rfl) o6) ?_
    refine z_aload_n 40 rfl rfl ?_
    refine z_iconst (v := 1) 41 rfl (by decide) ?_
    obtain ⟨Q7, K9, B⟩ := B
    refine z_cVV1 (ν := mX10_passes) 42 rfl rfl fX10_passes gX10_440 ⟨_, rfl, rfl⟩ (by decide) (zcl1.o hSh3 132 9 rfl rfl rfl) (Nat.le_of_ble_eq_true rfl) K9 (fun h8 q => ?_)
    obtain ⟨hSh8, B⟩ := B h8 q
    refine z_iconst (v := 0) 43 rfl (by decide) ?_
    refine z_istore 44 rfl (by decide) rfl ?_
    refine z_iconst (v := 0) 45 rfl (by decide) ?_
    refine z_istore 46 rfl (by decide) rfl ?_
    exact B
set_option maxRecDepth 100000 in
set_option maxHeartbeats 4000000 in
theorem sg_X10_laySextons_67 {G : zG} {d : Nat} {h : zMem} {Q : zMem → Prop} {x1 : Int32} {x2 : Int32} {x3 : Int32} {x4 : Int32} {x5 : Int32} (hS : zSh2 h)  (B : ((zI h 134 4) ≤ x5 → vp_in (((6 : Int32) * x2) + x3) 36 ∧ zg G mX10_laySextons (d + 1) 14 [.ref 132, .int x1, .int x2, .int (x3 + 1), zU, zU] [] (zsI (zsI h 166 (((6 : Int32) * x2) + x3).toNatClampNeg x4) 167 (((6 : Int32) * x2) + x3).toNatClampNeg ((zI (zsI h 166 (((6 : Int32) * x2) + x3).toNatClampNeg x4) 134 4) - x4)) (zPV Q)) ∧ (¬ (zI h 134 4) ≤ x5 → vp_in ((5 : Int32) + x5) 115 ∧ vp_in (zI h 162 ((5 : Int32) + x5).toNatClampNeg) 16 ∧ zg G mX10_laySextons (d + 1) 67 [.ref 132, .int x1, .int x2, .int x3, .int (x4 + (zI h 138 (zI h 162 ((5 : Int32) + x5).toNatClampNeg).toNatClampNeg)), .int (x5 + 1)] [] h (zPV Q))) : zg G mX10_laySextons (d + 1) 67 [.ref 132, .int x1, .int x2, .int x3, .int x4, .int x5] [] h (zPV Q) := by
  refine z_iload 47 rfl rfl ?_
  refine z_aload_n 48 rfl rfl ?_
  refine z_getR 49 rfl lX10_13 rfl (zcl1.o hS 132 9 rfl rfl rfl) (zcl1.r hS 132 3 134 rfl rfl rfl) ?_
  refine z_iconst (v := 4) 50 rfl (by decide) ?_
  refine z_iald_c 51 4 rfl (by decide) (zcl1.o hS 134 100 rfl rfl rfl) (zin (zcl1.l hS 134 16 rfl rfl rfl) (zvp (by decide))) ?_
  refine z_icmp_ge 52 103 rfl (by decide) ⟨fun c1 => ?_, fun c1 => ?_⟩
  · have B := B.1 c1
    refine z_aload_n 67 rfl rfl ?_
    refine z_getR 68 rfl lX10_129 rfl (zcl1.o hS 132 9 rfl rfl rfl) (zcl1.r hS 132 58 166 rfl rfl rfl) ?_
    refine z_bipush (v := 6) 69 rfl (by decide) ?_
    refine z_iload_n 70 rfl rfl ?_
    refine z_imul 71 rfl ?_
    refine z_iload_n 72 rfl rfl ?_
    refine z_iadd 73 rfl ?_
    refine z_iload 74 rfl rfl ?_
    obtain ⟨o2, B⟩ := B
    refine z_iast 75 rfl (zcl1.o hS 166 100 rfl rfl rfl) (zin (zcl1.l hS 166 36 rfl rfl rfl) o2) ?_
    refine z_aload_n 76 rfl rfl ?_
    refine z_getR 77 rfl lX10_132 rfl (zcl1.o hS 132 9 rfl rfl rfl) (zcl1.r hS 132 59 167 rfl rfl rfl) ?_
    refine z_bipush (v := 6) 78 rfl (by decide) ?_
    refine z_iload_n 79 rfl rfl ?_
    refine z_imul 80 rfl ?_
    refine z_iload_n 81 rfl rfl ?_
    refine z_iadd 82 rfl ?_
    refine z_aload_n 83 rfl rfl ?_
    refine z_getR 84 rfl lX10_13 rfl (zcl1.o hS 132 9 rfl rfl rfl) (zcl1.r hS 132 3 134 rfl rfl rfl) ?_
    refine z_iconst (v := 4) 85 rfl (by decide) ?_
    refine z_iald_c 86 4 rfl (by decide) (zcl1.o hS 134 100 rfl rfl rfl) (zin (zcl1.l hS 134 16 rfl rfl rfl) (zvp (by decide))) ?_
    refine z_iload 87 rfl rfl ?_
    refine z_isub 88 rfl ?_
    refine z_iast 89 rfl (zcl1.o hS 167 100 rfl rfl rfl) (zin (zcl1.l hS 167 36 rfl rfl rfl) o2) ?_
    refine z_iinc (v := 1) 90 rfl rfl (by decide) (by decide) rfl ?_
    refine z_goto 91 14 rfl (by decide) ?_
    refine z_drop 4 ?_
    refine z_drop 5 ?_
    exact B
  · have B := B.2 c1
    refine z_iload 53 rfl rfl ?_
    refine z_aload_n 54 rfl rfl ?_
    refine z_getR 55 rfl lX10_25 rfl (zcl1.o hS 132 9 rfl rfl rfl) (zcl1.r hS 132 7 138 rfl rfl rfl) ?_
    refine z_aload_n 56 rfl rfl ?_
    refine z_getR 57 rfl lX10_102 rfl (zcl1.o hS 132 9 rfl rfl rfl) (zcl1.r hS 132 45 162 rfl rfl rfl) ?_
    refine z_iconst (v := 5) 58 rfl (by decide) ?_
    refine z_iload 59 rfl rfl ?_
    refine z_iadd 60 rfl ?_
    obtain ⟨o3, B⟩ := B
    refine z_iald 61 rfl (zcl1.o hS 162 100 rfl rfl rfl) (zin (zcl1.l hS 162 115 rfl rfl rfl) o3) ?_
    obtain ⟨o4, B⟩ := B
    refine z_iald 62 rfl (zcl1.o hS 138 100 rfl rfl rfl) (zin (zcl1.l hS 138 16 rfl rfl rfl) o4) ?_
    refine z_iadd 63 rfl ?_
    refine z_istore 64 rfl (by decide) rfl ?_
    refine z_iinc (v := 1) 65 rfl rfl (by decide) (by decide) rfl ?_
    refine z_goto 66 67 rfl (by decide) ?_
    exact B
set_option maxRecDepth 100000 in
set_option maxHeartbeats 4000000 in
theorem sg_X10_isRest_0 {G : zG} {d : Nat} {h : zMem} {Q : Int32 → zMem → Prop} {x1 : Int32} {x2 : Int32} (hS : zSh2 h)  (B : zg G mX10_isRest d 2 [.ref 132, .int x1, .int x2, .int (0 : Int32)] [] h (zPI Q)) : zg G mX10_isRest d 0 [.ref 132, .int x1, .int x2, zU] [] h (zPI Q) := by
  refine z_iconst (v := 0) 0 rfl (by decide) ?_
  refine z_istore_n 1 rfl (by decide) rfl ?_
  exact B
theorem cn_X10_isRest {G : zG} {d : Nat} {h : zMem} {Q : Int32 → zMem → Prop} {x1 : Int32} {x2 : Int32} (B : zg G mX10_isRest d 0 [.ref 132, .int x1, .int x2, zU] [] h (zPI Q)) : zConI G mX10_isRest d [.ref 132, .int x1, .int x2] h Q := zcon0 (by decide +kernel) eX10_isRest (Nat.le_of_ble_eq_true rfl) rfl B
set_option maxRecDepth 100000 in
set_option maxHeartbeats 4000000 in
theorem sg_X10_isRest_2 {G : zG} {d : Nat} {h : zMem} {Q : Int32 → zMem → Prop} {x1 : Int32} {x2 : Int32} {x3 : Int32} (hS : zSh2 h)  (B : ((zI h 134 0) ≤ x3 → Q (1 : Int32) h) ∧ (¬ (zI h 134 0) ≤ x3 → vp_in (((6 : Int32) * x3) + x2) 36 ∧ vp_in (((6 : Int32) * x1) + x2) 36 ∧ ((zI h 166 (((6 : Int32) * x1) + x2).toNatClampNeg) < (zI h 166 (((6 : Int32) * x3) + x2).toNatClampNeg) → Q (0 : Int32) h) ∧ (¬ (zI h 166 (((6 : Int32) * x1) + x2).toNatClampNeg) < (zI h 166 (((6 : Int32) * x3) + x2).toNatClampNeg) → vp_in (((6 : Int32) * x1) + x3) 36 ∧ ((zI h 167 (((6 : Int32) * x1) + x3).toNatClampNeg) ≤ (zI h 167 (((6 : Int32) * x1) + x2).toNatClampNeg) → zg G mX10_isRest d 2 [.ref 132, .int x1, .int x2, .int (x3 + 1)] [] h (zPI Q)) ∧ (¬ (zI h 167 (((6 : Int32) * x1) + x3).toNatClampNeg) ≤ (zI h 167 (((6 : Int32) * x1) + x2).toNatClampNeg) → Q (0 : Int32) h)))) : zg G mX10_isRest d 2 [.ref 132, .int x1, .int x2, .int x3] [] h (zPI Q) := by
  refine z_iload_n 2 rfl rfl ?_
  refine z_aload_n 3 rfl rfl ?_
  refine z_getR 4 rfl lX10_13 rfl (zcl1.o hS 132 9 rfl rfl rfl) (zcl1.r hS 132 3 134 rfl rfl rfl) ?_
  refine z_iconst (v := 0) 5 rfl (by decide) ?_
  refine z_iald_c 6 0 rfl (by decide) (zcl1.o hS 134 100 rfl rfl rfl) (zin (zcl1.l hS 134 16 rfl rfl rfl) (zvp (by decide))) ?_
  refine z_icmp_ge 7 70 rfl (by decide) ⟨fun c1 => ?_, fun c1 => ?_⟩
  · have B := B.1 c1
    refine z_iconst (v := 1) 46 rfl (by decide) ?_
    exact z_iret 47 rfl rfl rfl ⟨rfl, rfl⟩ ⟨_, rfl, B⟩
  · have B := B.2 c1
    refine z_aload_n 8 rfl rfl ?_
    refine z_getR 9 rfl lX10_129 rfl (zcl1.o hS 132 9 rfl rfl rfl) (zcl1.r hS 132 58 166 rfl rfl rfl) ?_
    refine z_bipush (v := 6) 10 rfl (by decide) ?_
    refine z_iload_n 11 rfl rfl ?_
    refine z_imul 12 rfl ?_
    refine z_iload_n 13 rfl rfl ?_
    refine z_iadd 14 rfl ?_
    obtain ⟨o2, B⟩ := B
    refine z_iald 15 rfl (zcl1.o hS 166 100 rfl rfl rfl) (zin (zcl1.l hS 166 36 rfl rfl rfl) o2) ?_
    refine z_aload_n 16 rfl rfl ?_
    refine z_getR 17 rfl lX10_129 rfl (zcl1.o hS 132 9 rfl rfl rfl) (zcl1.r hS 132 58 166 rfl rfl rfl) ?_
    refine z_bipush (v := 6) 18 rfl (by decide) ?_
    refine z_iload_n 19 rfl rfl ?_
    refine z_imul 20 rfl ?_
    refine z_iload_n 21 rfl rfl ?_
    refine z_iadd 22 rfl ?_
    obtain ⟨o3, B⟩ := B
    refine z_iald 23 rfl (zcl1.o hS 166 100 rfl rfl rfl) (zin (zcl1.l hS 166 36 rfl rfl rfl) o3) ?_
    refine z_icmp_gt 24 62 rfl (by decide) ⟨fun c4 => ?_, fun c4 => ?_⟩
    · have B := B.1 c4
      refine z_iconst (v := 0) 42 rfl (by decide) ?_
      exact z_iret 43 rfl rfl rfl ⟨rfl, rfl⟩ ⟨_, rfl, B⟩
    · have B := B.2 c4
      refine z_aload_n 25 rfl rfl ?_
      refine z_getR 26 rfl lX10_132 rfl (zcl1.o hS 132 9 rfl rfl rfl) (zcl1.r hS 132 59 167 rfl rfl rfl) ?_
      refine z_bipush (v := 6) 27 rfl (by decide) ?_
      refine z_iload_n 28 rfl rfl ?_
      refine z_imul 29 rfl ?_
      refine z_iload_n 30 rfl rfl ?_
      refine z_iadd 31 rfl ?_
      obtain ⟨o5, B⟩ := B
      refine z_iald 32 rfl (zcl1.o hS 167 100 rfl rfl rfl) (zin (zcl1.l hS 167 36 rfl rfl rfl) o5) ?_
      refine z_aload_n 33 rfl rfl ?_
      refine z_getR 34 rfl lX10_132 rfl (zcl1.o hS 132 9 rfl rfl rfl) (zcl1.r hS 132 59 167 rfl rfl rfl) ?_
      refine z_bipush (v := 6) 35 rfl (by decide) ?_
      refine z_iload_n 36 rfl rfl ?_
      refine z_imul 37 rfl ?_
      refine z_iload_n 38 rfl rfl ?_
      refine z_iadd 39 rfl ?_
      refine z_iald 40 rfl (zcl1.o hS 167 100 rfl rfl rfl) (zin (zcl1.l hS 167 36 rfl rfl rfl) o3) ?_
      refine z_icmp_le 41 64 rfl (by decide) ⟨fun c6 => ?_, fun c6 => ?_⟩
      · have B := B.1 c6
        refine z_iinc (v := 1) 44 rfl rfl (by decide) (by decide) rfl ?_
        refine z_goto 45 2 rfl (by decide) ?_
        exact B
      · have B := B.2 c6
        refine z_iconst (v := 0) 42 rfl (by decide) ?_
        exact z_iret 43 rfl rfl rfl ⟨rfl, rfl⟩ ⟨_, rfl, B⟩
set_option maxRecDepth 100000 in
set_option maxHeartbeats 4000000 in
theorem sg_X10_restOf_0 {G : zG} {d : Nat} {h : zMem} {Q : Int32 → zMem → Prop} {x1 : Int32} {x2 : Int32} (hS : zSh2 h)  (B : ∃ Q1 : zMem → Prop, zConV G mX10_laySextons d [.ref 132, .int x1] h Q1 ∧ (∀ h2, Q1 h2 → zSh2 h2 ∧ zg G mX10_restOf (d + 1) 10 [.ref 132, .int x1, .int x2, .int (0 : Int32), .int (0 : Int32), zU] [] h2 (zPI Q))) : zg G mX10_restOf (d + 1) 0 [.ref 132, .int x1, .int x2, zU, zU, zU] [] h (zPI Q) := by
  refine z_aload_n 0 rfl rfl ?_
  refine z_iload_n 1 rfl rfl ?_
  obtain ⟨Q1, K3, B⟩ := B
  refine z_cVV1 (ν := mX10_laySextons) 2 rfl rfl fX10_laySextons gX10_451 ⟨_, rfl, rfl⟩ (by decide) (zcl1.o hS 132 9 rfl rfl rfl) (Nat.le_of_ble_eq_true rfl) K3 (fun h2 q => ?_)
  obtain ⟨hSh2, B⟩ := B h2 q
  refine z_iconst (v := 0) 3 rfl (by decide) ?_
  refine z_istore_n 4 rfl (by decide) rfl ?_
  refine z_iconst (v := 0) 5 rfl (by decide) ?_
  refine z_istore 6 rfl (by decide) rfl ?_
  exact B
theorem cn_X10_restOf {G : zG} {d : Nat} {h : zMem} {Q : Int32 → zMem → Prop} {x1 : Int32} {x2 : Int32} (B : zg G mX10_restOf (d + 1) 0 [.ref 132, .int x1, .int x2, zU, zU, zU] [] h (zPI Q)) : zConI G mX10_restOf (d + 1) [.ref 132, .int x1, .int x2] h Q := zcon0 (by decide +kernel) eX10_restOf (Nat.le_of_ble_eq_true rfl) rfl B
set_option maxRecDepth 100000 in
set_option maxHeartbeats 4000000 in
theorem sg_X10_restOf_10 {G : zG} {d : Nat} {h : zMem} {Q : Int32 → zMem → Prop} {x1 : Int32} {x2 : Int32} {x3 : Int32} {x4 : Int32} (hS : zSh2 h)  (B : ((zI h 134 0) ≤ x4 → (¬ x2 = (-1 : Int32) → Q (-2 : Int32) h) ∧ (x2 = (-1 : Int32) → Q x3 h)) ∧ (¬ (zI h 134 0) ≤ x4 → zg G mX10_restOf (d + 1) 24 [.ref 132, .int x1, .int x2, .int x3, .int x4, .int (0 : Int32)] [] h (zPI Q))) : zg G mX10_restOf (d + 1) 10 [.ref 132, .int x1, .int x2, .int x3, .int x4, zU] [] h (zPI Q) := by
  refine z_iload 7 rfl rfl ?_
  refine z_aload_n 8 rfl rfl ?_
  refine z_getR 9 rfl lX10_13 rfl (zcl1.o hS 132 9 rfl rfl rfl) (zcl1.r hS 132 3 134 rfl rfl rfl) ?_
  refine z_iconst (v := 0) 10 rfl (by decide) ?_
  refine z_iald_c 11 0 rfl (by decide) (zcl1.o hS 134 100 rfl rfl rfl) (zin (zcl1.l hS 134 16 rfl rfl rfl) (zvp (by decide))) ?_
  refine z_icmp_ge 12 78 rfl (by decide) ⟨fun c1 => ?_, fun c1 => ?_⟩
  · have B := B.1 c1
    refine z_iload_n 41 rfl rfl ?_
    refine z_iconst (v := -1) 42 rfl (by decide) ?_
    refine z_icmp_ne 43 87 rfl (by decide) ⟨fun c2 => ?_, fun c2 => ?_⟩
    · have B := B.1 c2
      refine z_bipush (v := -2) 46 rfl (by decide) ?_
      exact z_iret 47 rfl rfl rfl ⟨rfl, rfl⟩ ⟨_, rfl, B⟩
    · have B := B.2 c2
      refine z_iload_n 44 rfl rfl ?_
      refine z_goto 45 89 rfl (by decide) ?_
      exact z_iret 47 rfl rfl rfl ⟨rfl, rfl⟩ ⟨_, rfl, B⟩
  · have B := B.2 c1
    refine z_iconst (v := 0) 13 rfl (by decide) ?_
    refine z_istore 14 rfl (by decide) rfl ?_
    exact B
set_option maxRecDepth 100000 in
set_option maxHeartbeats 4000000 in
theorem sg_X10_restOf_24 {G : zG} {d : Nat} {h : zMem} {Q : Int32 → zMem → Prop} {x1 : Int32} {x2 : Int32} {x3 : Int32} {x4 : Int32} {x5 : Int32} (hS : zSh2 h)  (B : ((zI h 134 0) ≤ x5 → zg G mX10_restOf (d + 1) 10 [.ref 132, .int x1, .int x2, .int x3, .int (x4 + 1), zU] [] h (zPI Q)) ∧ (¬ (zI h 134 0) ≤ x5 → ∃ Q2 : Int32 → zMem → Prop, zConI G mX10_isRest d [.ref 132, .int x4, .int x5] h Q2 ∧ (∀ v5 h3, Q2 v5 h3 → zSh2 h3 ∧ (¬ v5 = 0 → (¬ x3 = x2 → zg G mX10_restOf (d + 1) 24 [.ref 132, .int x1, .int x2, .int (x3 + 1), .int x4, .int (x5 + 1)] [] h3 (zPI Q)) ∧ (x3 = x2 → Q (((10 : Int32) * x4) + x5) h3)) ∧ (v5 = 0 → zg G mX10_restOf (d + 1) 24 [.ref 132, .int x1, .int x2, .int x3, .int x4, .int (x5 + 1)] [] h3 (zPI Q))))) : zg G mX10_restOf (d + 1) 24 [.ref 132, .int x1, .int x2, .int x3, .int x4, .int x5] [] h (zPI Q) := by
  refine z_iload 15 rfl rfl ?_
  refine z_aload_n 16 rfl rfl ?_
  refine z_getR 17 rfl lX10_13 rfl (zcl1.o hS 132 9 rfl rfl rfl) (zcl1.r hS 132 3 134 rfl rfl rfl) ?_
  refine z_iconst (v := 0) 18 rfl (by decide) ?_
  refine z_iald_c 19 0 rfl (by decide) (zcl1.o hS 134 100 rfl rfl rfl) (zin (zcl1.l hS 134 16 rfl rfl rfl) (zvp (by decide))) ?_
  refine z_icmp_ge 20 72 rfl (by decide) ⟨fun c1 => ?_, fun c1 => ?_⟩
  · have B := B.1 c1
    refine z_iinc (v := 1) 39 rfl rfl (by decide) (by decide) rfl ?_
    refine z_goto 40 10 rfl (by decide) ?_
    refine z_drop 5 ?_
    exact B
  · have B := B.2 c1
    refine z_aload_n 21 rfl rfl ?_
    refine z_iload 22 rfl rfl ?_
    refine z_iload 23 rfl rfl ?_
    obtain ⟨Q2, K4, B⟩ := B
    refine z_cVI2 (ν := mX10_isRest) 24 rfl rfl fX10_isRest gX10_454 ⟨_, rfl, rfl⟩ (by decide) (zcl1.o hS 132 9 rfl rfl rfl) (Nat.le_of_ble_eq_true rfl) K4 (fun v5 h3 q => ?_)
    obtain ⟨hSh3, B⟩ := B v5 h3 q
    refine z_if_ne 25 49 rfl (by decide) ⟨fun c6 => ?_, fun c6 => ?_⟩
    · have B := B.1 c6
      refine z_iload_n 27 rfl rfl ?_
      refine z_iload_n 28 rfl rfl ?_
      refine z_icmp_ne 29 63 rfl (by decide) ⟨fun c7 => ?_, fun c7 => ?_⟩
      · have B := B.1 c7
        refine z_iinc (v := 1) 36 rfl rfl (by decide) (by decide) rfl ?_
        refine z_iinc (v := 1) 37 rfl rfl (by decide) (by decide) rfl ?_
        refine z_goto 38 24 rfl (by decide) ?_
        exact B
      · have B := B.2 c7
        refine z_bipush (v := 10) 30 rfl (by decide) ?_
        refine z_iload 31 rfl rfl ?_
        refine z_imul 32 rfl ?_
        refine z_iload 33 rfl rfl ?_
        refine z_iadd 34 rfl ?_
        exact z_iret 35 rfl rfl rfl ⟨rfl, rfl⟩ ⟨_, rfl, B⟩
    · have B := B.2 c6
      refine z_goto 26 66 rfl (by decide) ?_
      refine z_iinc (v := 1) 37 rfl rfl (by decide) (by decide) rfl ?_
      refine z_goto 38 24 rfl (by decide) ?_
      exact B
set_option maxRecDepth 100000 in
set_option maxHeartbeats 4000000 in
theorem sg_X10_areSextons_0 {G : zG} {d : Nat} {h : zMem} {Q : Int32 → zMem → Prop} {x1 : Int32} (hS : zSh2 h)  (B : (x1 < (1 : Int32) → Q (0 : Int32) h) ∧ (¬ x1 < (1 : Int32) → ((99 : Int32) < x1 → Q (0 : Int32) h) ∧ (¬ (99 : Int32) < x1 → ((zI h 134 0) ≤ 0 → Q (0 : Int32) h) ∧ (¬ (zI h 134 0) ≤ 0 → ((zI h 134 1) ≤ 0 → Q (0 : Int32) h) ∧ (¬ (zI h 134 1) ≤ 0 → Q (1 : Int32) h))))) : zg G mX10_areSextons d 0 [.ref 132, .int x1] [] h (zPI Q) := by
  refine z_iload_n 0 rfl rfl ?_
  refine z_iconst (v := 1) 1 rfl (by decide) ?_
  refine z_icmp_lt 2 33 rfl (by decide) ⟨fun c1 => ?_, fun c1 => ?_⟩
  · have B := B.1 c1
    refine z_iconst (v := 0) 18 rfl (by decide) ?_
    exact z_iret 19 rfl rfl rfl ⟨rfl, rfl⟩ ⟨_, rfl, B⟩
  · have B := B.2 c1
    refine z_iload_n 3 rfl rfl ?_
    refine z_bipush (v := 99) 4 rfl (by decide) ?_
    refine z_icmp_gt 5 33 rfl (by decide) ⟨fun c2 => ?_, fun c2 => ?_⟩
    · have B := B.1 c2
      refine z_iconst (v := 0) 18 rfl (by decide) ?_
      exact z_iret 19 rfl rfl rfl ⟨rfl, rfl⟩ ⟨_, rfl, B⟩
    · have B := B.2 c2
      refine z_aload_n 6 rfl rfl ?_
      refine z_getR 7 rfl lX10_13 rfl (zcl1.o hS 132 9 rfl rfl rfl) (zcl1.r hS 132 3 134 rfl rfl rfl) ?_
      refine z_iconst (v := 0) 8 rfl (by decide) ?_
      refine z_iald_c 9 0 rfl (by decide) (zcl1.o hS 134 100 rfl rfl rfl) (zin (zcl1.l hS 134 16 rfl rfl rfl) (zvp (by decide))) ?_
      refine z_if_le 10 33 rfl (by decide) ⟨fun c3 => ?_, fun c3 => ?_⟩
      · have B := B.1 c3
        refine z_iconst (v := 0) 18 rfl (by decide) ?_
        exact z_iret 19 rfl rfl rfl ⟨rfl, rfl⟩ ⟨_, rfl, B⟩
      · have B := B.2 c3
        refine z_aload_n 11 rfl rfl ?_
        refine z_getR 12 rfl lX10_13 rfl (zcl1.o hS 132 9 rfl rfl rfl) (zcl1.r hS 132 3 134 rfl rfl rfl) ?_
        refine z_iconst (v := 1) 13 rfl (by decide) ?_
        refine z_iald_c 14 1 rfl (by decide) (zcl1.o hS 134 100 rfl rfl rfl) (zin (zcl1.l hS 134 16 rfl rfl rfl) (zvp (by decide))) ?_
        refine z_if_le 15 33 rfl (by decide) ⟨fun c4 => ?_, fun c4 => ?_⟩
        · have B := B.1 c4
          refine z_iconst (v := 0) 18 rfl (by decide) ?_
          exact z_iret 19 rfl rfl rfl ⟨rfl, rfl⟩ ⟨_, rfl, B⟩
        · have B := B.2 c4
          refine z_iconst (v := 1) 16 rfl (by decide) ?_
          refine z_goto 17 34 rfl (by decide) ?_
          exact z_iret 19 rfl rfl rfl ⟨rfl, rfl⟩ ⟨_, rfl, B⟩
theorem cn_X10_areSextons {G : zG} {d : Nat} {h : zMem} {Q : Int32 → zMem → Prop} {x1 : Int32} (B : zg G mX10_areSextons d 0 [.ref 132, .int x1] [] h (zPI Q)) : zConI G mX10_areSextons d [.ref 132, .int x1] h Q := zcon0 (by decide +kernel) eX10_areSextons (Nat.le_of_ble_eq_true rfl) rfl B
set_option maxRecDepth 100000 in
set_option maxHeartbeats 4000000 in
theorem sg_X10_rests_0 {G : zG} {d : Nat} {h : zMem} {Q : Int32 → zMem → Prop} {x1 : Int32} (hS : zSh2 h)  (B : ∃ Q1 : Int32 → zMem → Prop, zConI G mX10_areSextons d [.ref 132, .int x1] (zsI h 132 0 (0 : Int32)) Q1 ∧ (∀ v4 h2, Q1 v4 h2 → zSh2 h2 ∧ (v4 = 0 → Q (-1 : Int32) h2) ∧ (¬ v4 = 0 → ∃ Q6 : Int32 → zMem → Prop, zConI G mX10_restOf d [.ref 132, .int x1, .int (-1 : Int32)] h2 Q6 ∧ (∀ v9 h7, Q6 v9 h7 → zSh2 h7 ∧ Q v9 h7)))) : zg G mX10_rests (d + 1) 0 [.ref 132, .int x1] [] h (zPI Q) := by
  refine z_aload_n 0 rfl rfl ?_
  refine z_iconst (v := 0) 1 rfl (by decide) ?_
  refine z_putI 2 rfl lX10_160 ⟨_, _, _, rfl, rfl⟩ rfl rfl rfl (zcl1.o hS 132 9 rfl rfl rfl) ?_
  refine z_aload_n 3 rfl rfl ?_
  refine z_iload_n 4 rfl rfl ?_
  obtain ⟨Q1, K3, B⟩ := B
  refine z_cVI1 (ν := mX10_areSextons) 5 rfl rfl fX10_areSextons gX10_458 ⟨_, rfl, rfl⟩ (by decide) (zcl1.o hS 132 9 rfl rfl rfl) (Nat.le_of_ble_eq_true rfl) K3 (fun v4 h2 q => ?_)
  obtain ⟨hSh2, B⟩ := B v4 h2 q
  refine z_if_eq 6 22 rfl (by decide) ⟨fun c5 => ?_, fun c5 => ?_⟩
  · have B := B.1 c5
    refine z_iconst (v := -1) 12 rfl (by decide) ?_
    exact z_iret 13 rfl rfl rfl ⟨rfl, rfl⟩ ⟨_, rfl, B⟩
  · have B := B.2 c5
    refine z_aload_n 7 rfl rfl ?_
    refine z_iload_n 8 rfl rfl ?_
    refine z_iconst (v := -1) 9 rfl (by decide) ?_
    obtain ⟨Q6, K8, B⟩ := B
    refine z_cVI2 (ν := mX10_restOf) 10 rfl rfl fX10_restOf gX10_461 ⟨_, rfl, rfl⟩ (by decide) (zcl1.o hSh2 132 9 rfl rfl rfl) (Nat.le_of_ble_eq_true rfl) K8 (fun v9 h7 q => ?_)
    obtain ⟨hSh7, B⟩ := B v9 h7 q
    refine z_goto 11 23 rfl (by decide) ?_
    exact z_iret 13 rfl rfl rfl ⟨rfl, rfl⟩ ⟨_, rfl, B⟩
theorem cn_X10_rests {G : zG} {d : Nat} {h : zMem} {Q : Int32 → zMem → Prop} {x1 : Int32} (B : zg G mX10_rests (d + 1) 0 [.ref 132, .int x1] [] h (zPI Q)) : zConI G mX10_rests (d + 1) [.ref 132, .int x1] h Q := zcon0 (by decide +kernel) eX10_rests (Nat.le_of_ble_eq_true rfl) rfl B
set_option maxRecDepth 100000 in
set_option maxHeartbeats 4000000 in
theorem sg_X10_rest_0 {G : zG} {d : Nat} {h : zMem} {Q : Int32 → zMem → Prop} {x1 : Int32} {x2 : Int32} (hS : zSh2 h)  (B : ∃ Q1 : Int32 → zMem → Prop, zConI G mX10_areSextons d [.ref 132, .int x1] (zsI h 132 0 (0 : Int32)) Q1 ∧ (∀ v4 h2, Q1 v4 h2 → zSh2 h2 ∧ (v4 = 0 → Q (-1 : Int32) h2) ∧ (¬ v4 = 0 → (x2 < 0 → Q (-1 : Int32) h2) ∧ (¬ x2 < 0 → ∃ Q7 : Int32 → zMem → Prop, zConI G mX10_restOf d [.ref 132, .int x1, .int x2] h2 Q7 ∧ (∀ v10 h8, Q7 v10 h8 → zSh2 h8 ∧ Q v10 h8))))) : zg G mX10_rest (d + 1) 0 [.ref 132, .int x1, .int x2] [] h (zPI Q) := by
  refine z_aload_n 0 rfl rfl ?_
  refine z_iconst (v := 0) 1 rfl (by decide) ?_
  refine z_putI 2 rfl lX10_160 ⟨_, _, _, rfl, rfl⟩ rfl rfl rfl (zcl1.o hS 132 9 rfl rfl rfl) ?_
  refine z_aload_n 3 rfl rfl ?_
  refine z_iload_n 4 rfl rfl ?_
  obtain ⟨Q1, K3, B⟩ := B
  refine z_cVI1 (ν := mX10_areSextons) 5 rfl rfl fX10_areSextons gX10_458 ⟨_, rfl, rfl⟩ (by decide) (zcl1.o hS 132 9 rfl rfl rfl) (Nat.le_of_ble_eq_true rfl) K3 (fun v4 h2 q => ?_)
  obtain ⟨hSh2, B⟩ := B v4 h2 q
  refine z_if_eq 6 26 rfl (by decide) ⟨fun c5 => ?_, fun c5 => ?_⟩
  · have B := B.1 c5
    refine z_iconst (v := -1) 14 rfl (by decide) ?_
    exact z_iret 15 rfl rfl rfl ⟨rfl, rfl⟩ ⟨_, rfl, B⟩
  · have B := B.2 c5
    refine z_iload_n 7 rfl rfl ?_
    refine z_if_lt 8 26 rfl (by decide) ⟨fun c6 => ?_, fun c6 => ?_⟩
    · have B := B.1 c6
      refine z_iconst (v := -1) 14 rfl (by decide) ?_
      exact z_iret 15 rfl rfl rfl ⟨rfl, rfl⟩ ⟨_, rfl, B⟩
    · have B := B.2 c6
      refine z_aload_n 9 rfl rfl ?_
      refine z_iload_n 10 rfl rfl ?_
      refine z_iload_n 11 rfl rfl ?_
      obtain ⟨Q7, K9, B⟩ := B
      refine z_cVI2 (ν := mX10_restOf) 12 rfl rfl fX10_restOf gX10_461 ⟨_, rfl, rfl⟩ (by decide) (zcl1.o hSh2 132 9 rfl rfl rfl) (Nat.le_of_ble_eq_true rfl) K9 (fun v10 h8 q => ?_)
      obtain ⟨hSh8, B⟩ := B v10 h8 q
      refine z_goto 13 27 rfl (by decide) ?_
      exact z_iret 15 rfl rfl rfl ⟨rfl, rfl⟩ ⟨_, rfl, B⟩
theorem cn_X10_rest {G : zG} {d : Nat} {h : zMem} {Q : Int32 → zMem → Prop} {x1 : Int32} {x2 : Int32} (B : zg G mX10_rest (d + 1) 0 [.ref 132, .int x1, .int x2] [] h (zPI Q)) : zConI G mX10_rest (d + 1) [.ref 132, .int x1, .int x2] h Q := zcon0 (by decide +kernel) eX10_rest (Nat.le_of_ble_eq_true rfl) rfl B
set_option maxRecDepth 100000 in
set_option maxHeartbeats 4000000 in
theorem sg_X10_note_0 {G : zG} {d : Nat} {h : zMem} {Q : Int32 → zMem → Prop} {x1 : Int32} {x2 : Int32} {x3 : Int32} {x4 : Int32} (hS : zSh2 h)  (B : (x1 < (1 : Int32) → Q (-1 : Int32) (zsI h 132 0 (0 : Int32))) ∧ (¬ x1 < (1 : Int32) → ((40 : Int32) < x1 → Q (-1 : Int32) (zsI h 132 0 (0 : Int32))) ∧ (¬ (40 : Int32) < x1 → ∃ Q3 : Int32 → zMem → Prop, zConI G mX10_isMonk d [.ref 132, .int x2] (zsI h 132 0 (0 : Int32)) Q3 ∧ (∀ v6 h4, Q3 v6 h4 → zSh2 h4 ∧ (v6 = 0 → Q (-1 : Int32) h4) ∧ (¬ v6 = 0 → ∃ Q8 : Int32 → zMem → Prop, zConI G mX10_isDay d [.ref 132, .int x3] h4 Q8 ∧ (∀ v11 h9, Q8 v11 h9 → zSh2 h9 ∧ (v11 = 0 → Q (-1 : Int32) h9) ∧ (¬ v11 = 0 → (¬ (zI h9 132 60) = (24 : Int32) → vp_in (zI h9 132 60) 24 ∧ vp_in (zI (zsI h9 168 (zI h9 132 60).toNatClampNeg x1) 132 60) 24 ∧ vp_in (zI (zsI (zsI h9 168 (zI h9 132 60).toNatClampNeg x1) 169 (zI (zsI h9 168 (zI h9 132 60).toNatClampNeg x1) 132 60).toNatClampNeg x2) 132 60) 24 ∧ vp_in (zI (zsI (zsI (zsI h9 168 (zI h9 132 60).toNatClampNeg x1) 169 (zI (zsI h9 168 (zI h9 132 60).toNatClampNeg x1) 132 60).toNatClampNeg x2) 170 (zI (zsI (zsI h9 168 (zI h9 132 60).toNatClampNeg x1) 169 (zI (zsI h9 168 (zI h9 132 60).toNatClampNeg x1) 132 60).toNatClampNeg x2) 132 60).toNatClampNeg x3) 132 60) 24 ∧ vp_in (zI (zsI (zsI (zsI (zsI h9 168 (zI h9 132 60).toNatClampNeg x1) 169 (zI (zsI h9 168 (zI h9 132 60).toNatClampNeg x1) 132 60).toNatClampNeg x2) 170 (zI (zsI (zsI h9 168 (zI h9 132 60).toNatClampNeg x1) 169 (zI (zsI h9 168 (zI h9 132 60).toNatClampNeg x1) 132 60).toNatClampNeg x2) 132 60).toNatClampNeg x3) 171 (zI (zsI (zsI (zsI h9 168 (zI h9 132 60).toNatClampNeg x1) 169 (zI (zsI h9 168 (zI h9 132 60).toNatClampNeg x1) 132 60).toNatClampNeg x2) 170 (zI (zsI (zsI h9 168 (zI h9 132 60).toNatClampNeg x1) 169 (zI (zsI h9 168 (zI h9 132 60).toNatClampNeg x1) 132 60).toNatClampNeg x2) 132 60).toNatClampNeg x3) 132 60).toNatClampNeg (vp_nar .boolean x4)) 132 60) 24 ∧ Q ((zI (zsI (zsI (zsI (zsI (zsI (zsI h9 168 (zI h9 132 60).toNatClampNeg x1) 169 (zI (zsI h9 168 (zI h9 132 60).toNatClampNeg x1) 132 60).toNatClampNeg x2) 170 (zI (zsI (zsI h9 168 (zI h9 132 60).toNatClampNeg x1) 169 (zI (zsI h9 168 (zI h9 132 60).toNatClampNeg x1) 132 60).toNatClampNeg x2) 132 60).toNatClampNeg x3) 171 (zI (zsI (zsI (zsI h9 168 (zI h9 132 60).toNatClampNeg x1) 169 (zI (zsI h9 168 (zI h9 132 60).toNatClampNeg x1) 132 60).toNatClampNeg x2) 170 (zI (zsI (zsI h9 168 (zI h9 132 60).toNatClampNeg x1) 169 (zI (zsI h9 168 (zI h9 132 60).toNatClampNeg x1) 132 60).toNatClampNeg x2) 132 60).toNatClampNeg x3) 132 60).toNatClampNeg (vp_nar .boolean x4)) 172 (zI (zsI (zsI (zsI (zsI h9 168 (zI h9 132 60).toNatClampNeg x1) 169 (zI (zsI h9 168 (zI h9 132 60).toNatClampNeg x1) 132 60).toNatClampNeg x2) 170 (zI (zsI (zsI h9 168 (zI h9 132 60).toNatClampNeg x1) 169 (zI (zsI h9 168 (zI h9 132 60).toNatClampNeg x1) 132 60).toNatClampNeg x2) 132 60).toNatClampNeg x3) 171 (zI (zsI (zsI (zsI h9 168 (zI h9 132 60).toNatClampNeg x1) 169 (zI (zsI h9 168 (zI h9 132 60).toNatClampNeg x1) 132 60).toNatClampNeg x2) 170 (zI (zsI (zsI h9 168 (zI h9 132 60).toNatClampNeg x1) 169 (zI (zsI h9 168 (zI h9 132 60).toNatClampNeg x1) 132 60).toNatClampNeg x2) 132 60).toNatClampNeg x3) 132 60).toNatClampNeg (vp_nar .boolean x4)) 132 60).toNatClampNeg (-1 : Int32)) 132 60 ((zI (zsI (zsI (zsI (zsI (zsI h9 168 (zI h9 132 60).toNatClampNeg x1) 169 (zI (zsI h9 168 (zI h9 132 60).toNatClampNeg x1) 132 60).toNatClampNeg x2) 170 (zI (zsI (zsI h9 168 (zI h9 132 60).toNatClampNeg x1) 169 (zI (zsI h9 168 (zI h9 132 60).toNatClampNeg x1) 132 60).toNatClampNeg x2) 132 60).toNatClampNeg x3) 171 (zI (zsI (zsI (zsI h9 168 (zI h9 132 60).toNatClampNeg x1) 169 (zI (zsI h9 168 (zI h9 132 60).toNatClampNeg x1) 132 60).toNatClampNeg x2) 170 (zI (zsI (zsI h9 168 (zI h9 132 60).toNatClampNeg x1) 169 (zI (zsI h9 168 (zI h9 132 60).toNatClampNeg x1) 132 60).toNatClampNeg x2) 132 60).toNatClampNeg x3) 132 60).toNatClampNeg (vp_nar .boolean x4)) 172 (zI (zsI (zsI (zsI (zsI h9 168 (zI h9 132 60).toNatClampNeg x1) 169 (zI (zsI h9 168 (zI h9 132 60).toNatClampNeg x1) 132 60).toNatClampNeg x2) 170 (zI (zsI (zsI h9 168 (zI h9 132 60).toNatClampNeg x1) 169 (zI (zsI h9 168 (zI h9 132 60).toNatClampNeg x1) 132 60).toNatClampNeg x2) 132 60).toNatClampNeg x3) 171 (zI (zsI (zsI (zsI h9 168 (zI h9 132 60).toNatClampNeg x1) 169 (zI (zsI h9 168 (zI h9 132 60).toNatClampNeg x1) 132 60).toNatClampNeg x2) 170 (zI (zsI (zsI h9 168 (zI h9 132 60).toNatClampNeg x1) 169 (zI (zsI h9 168 (zI h9 132 60).toNatClampNeg x1) 132 60).toNatClampNeg x2) 132 60).toNatClampNeg x3) 132 60).toNatClampNeg (vp_nar .boolean x4)) 132 60).toNatClampNeg (-1 : Int32)) 132 60) + (1 : Int32))) 132 60) - (1 : Int32)) (zsI (zsI (zsI (zsI (zsI (zsI h9 168 (zI h9 132 60).toNatClampNeg x1) 169 (zI (zsI h9 168 (zI h9 132 60).toNatClampNeg x1) 132 60).toNatClampNeg x2) 170 (zI (zsI (zsI h9 168 (zI h9 132 60).toNatClampNeg x1) 169 (zI (zsI h9 168 (zI h9 132 60).toNatClampNeg x1) 132 60).toNatClampNeg x2) 132 60).toNatClampNeg x3) 171 (zI (zsI (zsI (zsI h9 168 (zI h9 132 60).toNatClampNeg x1) 169 (zI (zsI h9 168 (zI h9 132 60).toNatClampNeg x1) 132 60).toNatClampNeg x2) 170 (zI (zsI (zsI h9 168 (zI h9 132 60).toNatClampNeg x1) 169 (zI (zsI h9 168 (zI h9 132 60).toNatClampNeg x1) 132 60).toNatClampNeg x2) 132 60).toNatClampNeg x3) 132 60).toNatClampNeg (vp_nar .boolean x4)) 172 (zI (zsI (zsI (zsI (zsI h9 168 (zI h9 132 60).toNatClampNeg x1) 169 (zI (zsI h9 168 (zI h9 132 60).toNatClampNeg x1) 132 60).toNatClampNeg x2) 170 (zI (zsI (zsI h9 168 (zI h9 132 60).toNatClampNeg x1) 169 (zI (zsI h9 168 (zI h9 132 60).toNatClampNeg x1) 132 60).toNatClampNeg x2) 132 60).toNatClampNeg x3) 171 (zI (zsI (zsI (zsI h9 168 (zI h9 132 60).toNatClampNeg x1) 169 (zI (zsI h9 168 (zI h9 132 60).toNatClampNeg x1) 132 60).toNatClampNeg x2) 170 (zI (zsI (zsI h9 168 (zI h9 132 60).toNatClampNeg x1) 169 (zI (zsI h9 168 (zI h9 132 60).toNatClampNeg x1) 132 60).toNatClampNeg x2) 132 60).toNatClampNeg x3) 132 60).toNatClampNeg (vp_nar .boolean x4)) 132 60).toNatClampNeg (-1 : Int32)) 132 60 ((zI (zsI (zsI (zsI (zsI (zsI h9 168 (zI h9 132 60).toNatClampNeg x1) 169 (zI (zsI h9 168 (zI h9 132 60).toNatClampNeg x1) 132 60).toNatClampNeg x2) 170 (zI (zsI (zsI h9 168 (zI h9 132 60).toNatClampNeg x1) 169 (zI (zsI h9 168 (zI h9 132 60).toNatClampNeg x1) 132 60).toNatClampNeg x2) 132 60).toNatClampNeg x3) 171 (zI (zsI (zsI (zsI h9 168 (zI h9 132 60).toNatClampNeg x1) 169 (zI (zsI h9 168 (zI h9 132 60).toNatClampNeg x1) 132 60).toNatClampNeg x2) 170 (zI (zsI (zsI h9 168 (zI h9 132 60).toNatClampNeg x1) 169 (zI (zsI h9 168 (zI h9 132 60).toNatClampNeg x1) 132 60).toNatClampNeg x2) 132 60).toNatClampNeg x3) 132 60).toNatClampNeg (vp_nar .boolean x4)) 172 (zI (zsI (zsI (zsI (zsI h9 168 (zI h9 132 60).toNatClampNeg x1) 169 (zI (zsI h9 168 (zI h9 132 60).toNatClampNeg x1) 132 60).toNatClampNeg x2) 170 (zI (zsI (zsI h9 168 (zI h9 132 60).toNatClampNeg x1) 169 (zI (zsI h9 168 (zI h9 132 60).toNatClampNeg x1) 132 60).toNatClampNeg x2) 132 60).toNatClampNeg x3) 171 (zI (zsI (zsI (zsI h9 168 (zI h9 132 60).toNatClampNeg x1) 169 (zI (zsI h9 168 (zI h9 132 60).toNatClampNeg x1) 132 60).toNatClampNeg x2) 170 (zI (zsI (zsI h9 168 (zI h9 132 60).toNatClampNeg x1) 169 (zI (zsI h9 168 (zI h9 132 60).toNatClampNeg x1) 132 60).toNatClampNeg x2) 132 60).toNatClampNeg x3) 132 60).toNatClampNeg (vp_nar .boolean x4)) 132 60).toNatClampNeg (-1 : Int32)) 132 60) + (1 : Int32)))) ∧ ((zI h9 132 60) = (24 : Int32) → Q (-1 : Int32) h9)))))))) : zg G mX10_note (d + 1) 0 [.ref 132, .int x1, .int x2, .int x3, .int x4] [] h (zPI Q) := by
  refine z_aload_n 0 rfl rfl ?_
  refine z_iconst (v := 0) 1 rfl (by decide) ?_
  refine z_putI 2 rfl lX10_160 ⟨_, _, _, rfl, rfl⟩ rfl rfl rfl (zcl1.o hS 132 9 rfl rfl rfl) ?_
  refine z_iload_n 3 rfl rfl ?_
  refine z_iconst (v := 1) 4 rfl (by decide) ?_
  refine z_icmp_lt 5 41 rfl (by decide) ⟨fun c1 => ?_, fun c1 => ?_⟩
  · have B := B.1 c1
    refine z_iconst (v := -1) 21 rfl (by decide) ?_
    exact z_iret 22 rfl rfl rfl ⟨rfl, rfl⟩ ⟨_, rfl, B⟩
  · have B := B.2 c1
    refine z_iload_n 6 rfl rfl ?_
    refine z_bipush (v := 40) 7 rfl (by decide) ?_
    refine z_icmp_gt 8 41 rfl (by decide) ⟨fun c2 => ?_, fun c2 => ?_⟩
    · have B := B.1 c2
      refine z_iconst (v := -1) 21 rfl (by decide) ?_
      exact z_iret 22 rfl rfl rfl ⟨rfl, rfl⟩ ⟨_, rfl, B⟩
    · have B := B.2 c2
      refine z_aload_n 9 rfl rfl ?_
      refine z_iload_n 10 rfl rfl ?_
      obtain ⟨Q3, K5, B⟩ := B
      refine z_cVI1 (ν := mX10_isMonk) 11 rfl rfl fX10_isMonk gX10_415 ⟨_, rfl, rfl⟩ (by decide) (zcl1.o hS 132 9 rfl rfl rfl) (Nat.le_of_ble_eq_true rfl) K5 (fun v6 h4 q => ?_)
      obtain ⟨hSh4, B⟩ := B v6 h4 q
      refine z_if_eq 12 41 rfl (by decide) ⟨fun c7 => ?_, fun c7 => ?_⟩
      · have B := B.1 c7
        refine z_iconst (v := -1) 21 rfl (by decide) ?_
        exact z_iret 22 rfl rfl rfl ⟨rfl, rfl⟩ ⟨_, rfl, B⟩
      · have B := B.2 c7
        refine z_aload_n 13 rfl rfl ?_
        refine z_iload_n 14 rfl rfl ?_
        obtain ⟨Q8, K10, B⟩ := B
        refine z_cVI1 (ν := mX10_isDay) 15 rfl rfl fX10_isDay gX10_424 ⟨_, rfl, rfl⟩ (by decide) (zcl1.o hSh4 132 9 rfl rfl rfl) (Nat.le_of_ble_eq_true rfl) K10 (fun v11 h9 q => ?_)
        obtain ⟨hSh9, B⟩ := B v11 h9 q
        refine z_if_eq 16 41 rfl (by decide) ⟨fun c12 => ?_, fun c12 => ?_⟩
        · have B := B.1 c12
          refine z_iconst (v := -1) 21 rfl (by decide) ?_
          exact z_iret 22 rfl rfl rfl ⟨rfl, rfl⟩ ⟨_, rfl, B⟩
        · have B := B.2 c12
          refine z_aload_n 17 rfl rfl ?_
          refine z_getI 18 rfl lX10_316 rfl (zcl1.o hSh9 132 9 rfl rfl rfl) ?_
          refine z_bipush (v := 24) 19 rfl (by decide) ?_
          refine z_icmp_ne 20 43 rfl (by decide) ⟨fun c13 => ?_, fun c13 => ?_⟩
          · have B := B.1 c13
            refine z_aload_n 23 rfl rfl ?_
            refine z_getR 24 rfl lX10_138 rfl (zcl1.o hSh9 132 9 rfl rfl rfl) (zcl1.r hSh9 132 62 168 rfl rfl rfl) ?_
            refine z_aload_n 25 rfl rfl ?_
            refine z_getI 26 rfl lX10_316 rfl (zcl1.o hSh9 132 9 rfl rfl rfl) ?_
            refine z_iload_n 27 rfl rfl ?_
            obtain ⟨o14, B⟩ := B
            refine z_iast 28 rfl (zcl1.o hSh9 168 100 rfl rfl rfl) (zin (zcl1.l hSh9 168 24 rfl rfl rfl) o14) ?_
            refine z_aload_n 29 rfl rfl ?_
            refine z_getR 30 rfl lX10_141 rfl (zcl1.o hSh9 132 9 rfl rfl rfl) (zcl1.r hSh9 132 63 169 rfl rfl rfl) ?_
            refine z_aload_n 31 rfl rfl ?_
            refine z_getI 32 rfl lX10_316 rfl (zcl1.o hSh9 132 9 rfl rfl rfl) ?_
            refine z_iload_n 33 rfl rfl ?_
            obtain ⟨o15, B⟩ := B
            refine z_iast 34 rfl (zcl1.o hSh9 169 100 rfl rfl rfl) (zin (zcl1.l hSh9 169 24 rfl rfl rfl) o15) ?_
            refine z_aload_n 35 rfl rfl ?_
            refine z_getR 36 rfl lX10_144 rfl (zcl1.o hSh9 132 9 rfl rfl rfl) (zcl1.r hSh9 132 64 170 rfl rfl rfl) ?_
            refine z_aload_n 37 rfl rfl ?_
            refine z_getI 38 rfl lX10_316 rfl (zcl1.o hSh9 132 9 rfl rfl rfl) ?_
            refine z_iload_n 39 rfl rfl ?_
            obtain ⟨o16, B⟩ := B
            refine z_iast 40 rfl (zcl1.o hSh9 170 100 rfl rfl rfl) (zin (zcl1.l hSh9 170 24 rfl rfl rfl) o16) ?_
            refine z_aload_n 41 rfl rfl ?_
            refine z_getR 42 rfl lX10_147 rfl (zcl1.o hSh9 132 9 rfl rfl rfl) (zcl1.r hSh9 132 65 171 rfl rfl rfl) ?_
            refine z_aload_n 43 rfl rfl ?_
            refine z_getI 44 rfl lX10_316 rfl (zcl1.o hSh9 132 9 rfl rfl rfl) ?_
            refine z_iload 45 rfl rfl ?_
            obtain ⟨o17, B⟩ := B
            refine z_zast 46 rfl (zcl1.o hSh9 171 103 rfl rfl rfl) (zin (zcl1.l hSh9 171 24 rfl rfl rfl) o17) ?_
            refine z_aload_n 47 rfl rfl ?_
            refine z_getR 48 rfl lX10_151 rfl (zcl1.o hSh9 132 9 rfl rfl rfl) (zcl1.r hSh9 132 66 172 rfl rfl rfl) ?_
            refine z_aload_n 49 rfl rfl ?_
            refine z_getI 50 rfl lX10_316 rfl (zcl1.o hSh9 132 9 rfl rfl rfl) ?_
            refine z_iconst (v := -1) 51 rfl (by decide) ?_
            obtain ⟨o18, B⟩ := B
            refine z_iast 52 rfl (zcl1.o hSh9 172 100 rfl rfl rfl) (zin (zcl1.l hSh9 172 24 rfl rfl rfl) o18) ?_
            refine z_aload_n 53 rfl rfl ?_
            refine z_dup 54 rfl rfl ?_
            refine z_getI 55 rfl lX10_316 rfl (zcl1.o hSh9 132 9 rfl rfl rfl) ?_
            refine z_iconst (v := 1) 56 rfl (by decide) ?_
            refine z_iadd 57 rfl ?_
            refine z_putI 58 rfl lX10_316 ⟨_, _, _, rfl, rfl⟩ rfl rfl rfl (zcl1.o hSh9 132 9 rfl rfl rfl) ?_
            refine z_aload_n 59 rfl rfl ?_
            refine z_getI 60 rfl lX10_316 rfl (zcl1.o hSh9 132 9 rfl rfl rfl) ?_
            refine z_iconst (v := 1) 61 rfl (by decide) ?_
            refine z_isub 62 rfl ?_
            exact z_iret 63 rfl rfl rfl ⟨rfl, rfl⟩ ⟨_, rfl, B⟩
          · have B := B.2 c13
            refine z_iconst (v := -1) 21 rfl (by decide) ?_
            exact z_iret 22 rfl rfl rfl ⟨rfl, rfl⟩ ⟨_, rfl, B⟩
theorem cn_X10_note {G : zG} {d : Nat} {h : zMem} {Q : Int32 → zMem → Prop} {x1 : Int32} {x2 : Int32} {x3 : Int32} {x4 : Int32} (B : zg G mX10_note (d + 1) 0 [.ref 132, .int x1, .int x2, .int x3, .int x4] [] h (zPI Q)) : zConI G mX10_note (d + 1) [.ref 132, .int x1, .int x2, .int x3, .int x4] h Q := zcon0 (by decide +kernel) eX10_note (Nat.le_of_ble_eq_true rfl) rfl B
set_option maxRecDepth 100000 in
set_option maxHeartbeats 4000000 in
theorem sg_X10_out_0 {G : zG} {d : Nat} {h : zMem} {Q : Int32 → zMem → Prop} {x1 : Int32} (hS : zSh2 h)  (B : (x1 < 0 → Q (-1 : Int32) (zsI h 132 0 (0 : Int32))) ∧ (¬ x1 < 0 → ((zI (zsI h 132 0 (0 : Int32)) 132 60) ≤ x1 → Q (-1 : Int32) (zsI h 132 0 (0 : Int32))) ∧ (¬ (zI (zsI h 132 0 (0 : Int32)) 132 60) ≤ x1 → (¬ (zI (zsI h 132 0 (0 : Int32)) 132 60) = (24 : Int32) → vp_in (zI (zsI h 132 0 (0 : Int32)) 132 60) 24 ∧ Q ((zI (zsI (zsI (zsI h 132 0 (0 : Int32)) 172 (zI (zsI h 132 0 (0 : Int32)) 132 60).toNatClampNeg x1) 132 60 ((zI (zsI (zsI h 132 0 (0 : Int32)) 172 (zI (zsI h 132 0 (0 : Int32)) 132 60).toNatClampNeg x1) 132 60) + (1 : Int32))) 132 60) - (1 : Int32)) (zsI (zsI (zsI h 132 0 (0 : Int32)) 172 (zI (zsI h 132 0 (0 : Int32)) 132 60).toNatClampNeg x1) 132 60 ((zI (zsI (zsI h 132 0 (0 : Int32)) 172 (zI (zsI h 132 0 (0 : Int32)) 132 60).toNatClampNeg x1) 132 60) + (1 : Int32)))) ∧ ((zI (zsI h 132 0 (0 : Int32)) 132 60) = (24 : Int32) → Q (-1 : Int32) (zsI h 132 0 (0 : Int32)))))) : zg G mX10_out d 0 [.ref 132, .int x1] [] h (zPI Q) := by
  refine z_aload_n 0 rfl rfl ?_
  refine z_iconst (v := 0) 1 rfl (by decide) ?_
  refine z_putI 2 rfl lX10_160 ⟨_, _, _, rfl, rfl⟩ rfl rfl rfl (zcl1.o hS 132 9 rfl rfl rfl) ?_
  refine z_iload_n 3 rfl rfl ?_
  refine z_if_lt 4 26 rfl (by decide) ⟨fun c1 => ?_, fun c1 => ?_⟩
  · have B := B.1 c1
    refine z_iconst (v := -1) 13 rfl (by decide) ?_
    exact z_iret 14 rfl rfl rfl ⟨rfl, rfl⟩ ⟨_, rfl, B⟩
  · have B := B.2 c1
    refine z_iload_n 5 rfl rfl ?_
    refine z_aload_n 6 rfl rfl ?_
    refine z_getI 7 rfl lX10_316 rfl (zcl1.o hS 132 9 rfl rfl rfl) ?_
    refine z_icmp_ge 8 26 rfl (by decide) ⟨fun c2 => ?_, fun c2 => ?_⟩
    · have B := B.1 c2
      refine z_iconst (v := -1) 13 rfl (by decide) ?_
      exact z_iret 14 rfl rfl rfl ⟨rfl, rfl⟩ ⟨_, rfl, B⟩
    · have B := B.2 c2
      refine z_aload_n 9 rfl rfl ?_
      refine z_getI 10 rfl lX10_316 rfl (zcl1.o hS 132 9 rfl rfl rfl) ?_
      refine z_bipush (v := 24) 11 rfl (by decide) ?_
      refine z_icmp_ne 12 28 rfl (by decide) ⟨fun c3 => ?_, fun c3 => ?_⟩
      · have B := B.1 c3
        refine z_aload_n 15 rfl rfl ?_
        refine z_getR 16 rfl lX10_151 rfl (zcl1.o hS 132 9 rfl rfl rfl) (zcl1.r hS 132 66 172 rfl rfl rfl) ?_
        refine z_aload_n 17 rfl rfl ?_
        refine z_getI 18 rfl lX10_316 rfl (zcl1.o hS 132 9 rfl rfl rfl) ?_
        refine z_iload_n 19 rfl rfl ?_
        obtain ⟨o4, B⟩ := B
        refine z_iast 20 rfl (zcl1.o hS 172 100 rfl rfl rfl) (zin (zcl1.l hS 172 24 rfl rfl rfl) o4) ?_
        refine z_aload_n 21 rfl rfl ?_
        refine z_dup 22 rfl rfl ?_
        refine z_getI 23 rfl lX10_316 rfl (zcl1.o hS 132 9 rfl rfl rfl) ?_
        refine z_iconst (v := 1) 24 rfl (by decide) ?_
        refine z_iadd 25 rfl ?_
        refine z_putI 26 rfl lX10_316 ⟨_, _, _, rfl, rfl⟩ rfl rfl rfl (zcl1.o hS 132 9 rfl rfl rfl) ?_
        refine z_aload_n 27 rfl rfl ?_
        refine z_getI 28 rfl lX10_316 rfl (zcl1.o hS 132 9 rfl rfl rfl) ?_
        refine z_iconst (v := 1) 29 rfl (by decide) ?_
        refine z_isub 30 rfl ?_
        exact z_iret 31 rfl rfl rfl ⟨rfl, rfl⟩ ⟨_, rfl, B⟩
      · have B := B.2 c3
        refine z_iconst (v := -1) 13 rfl (by decide) ?_
        exact z_iret 14 rfl rfl rfl ⟨rfl, rfl⟩ ⟨_, rfl, B⟩
theorem cn_X10_out {G : zG} {d : Nat} {h : zMem} {Q : Int32 → zMem → Prop} {x1 : Int32} (B : zg G mX10_out d 0 [.ref 132, .int x1] [] h (zPI Q)) : zConI G mX10_out d [.ref 132, .int x1] h Q := zcon0 (by decide +kernel) eX10_out (Nat.le_of_ble_eq_true rfl) rfl B
set_option maxRecDepth 100000 in
set_option maxHeartbeats 4000000 in
theorem sg_X10_known_0 {G : zG} {d : Nat} {h : zMem} {Q : Int32 → zMem → Prop} {x1 : Int32} (hS : zSh2 h)  (B : (x1 < (-1 : Int32) → Q (0 : Int32) (zsI h 132 0 (0 : Int32))) ∧ (¬ x1 < (-1 : Int32) → (x1 ≤ (zI (zsI h 132 0 (0 : Int32)) 132 60) → Q (1 : Int32) (zsI (zsI h 132 0 (0 : Int32)) 132 61 x1)) ∧ (¬ x1 ≤ (zI (zsI h 132 0 (0 : Int32)) 132 60) → Q (0 : Int32) (zsI h 132 0 (0 : Int32))))) : zg G mX10_known d 0 [.ref 132, .int x1] [] h (zPI Q) := by
  refine z_aload_n 0 rfl rfl ?_
  refine z_iconst (v := 0) 1 rfl (by decide) ?_
  refine z_putI 2 rfl lX10_160 ⟨_, _, _, rfl, rfl⟩ rfl rfl rfl (zcl1.o hS 132 9 rfl rfl rfl) ?_
  refine z_iload_n 3 rfl rfl ?_
  refine z_iconst (v := -1) 4 rfl (by decide) ?_
  refine z_icmp_lt 5 18 rfl (by decide) ⟨fun c1 => ?_, fun c1 => ?_⟩
  · have B := B.1 c1
    refine z_iconst (v := 0) 10 rfl (by decide) ?_
    exact z_iret 11 rfl rfl rfl ⟨rfl, rfl⟩ ⟨_, rfl, B⟩
  · have B := B.2 c1
    refine z_iload_n 6 rfl rfl ?_
    refine z_aload_n 7 rfl rfl ?_
    refine z_getI 8 rfl lX10_316 rfl (zcl1.o hS 132 9 rfl rfl rfl) ?_
    refine z_icmp_le 9 20 rfl (by decide) ⟨fun c2 => ?_, fun c2 => ?_⟩
    · have B := B.1 c2
      refine z_aload_n 12 rfl rfl ?_
      refine z_iload_n 13 rfl rfl ?_
      refine z_putI 14 rfl lX10_135 ⟨_, _, _, rfl, rfl⟩ rfl rfl rfl (zcl1.o hS 132 9 rfl rfl rfl) ?_
      refine z_iconst (v := 1) 15 rfl (by decide) ?_
      exact z_iret 16 rfl rfl rfl ⟨rfl, rfl⟩ ⟨_, rfl, B⟩
    · have B := B.2 c2
      refine z_iconst (v := 0) 10 rfl (by decide) ?_
      exact z_iret 11 rfl rfl rfl ⟨rfl, rfl⟩ ⟨_, rfl, B⟩
theorem cn_X10_known {G : zG} {d : Nat} {h : zMem} {Q : Int32 → zMem → Prop} {x1 : Int32} (B : zg G mX10_known d 0 [.ref 132, .int x1] [] h (zPI Q)) : zConI G mX10_known d [.ref 132, .int x1] h Q := zcon0 (by decide +kernel) eX10_known (Nat.le_of_ble_eq_true rfl) rfl B
set_option maxRecDepth 100000 in
set_option maxHeartbeats 4000000 in
theorem sg_X10_knownMany_0 {G : zG} {d : Nat} {h : zMem} {Q : Int32 → zMem → Prop}  (hS : zSh2 h)  (B : (¬ (zI h 132 61) = (-1 : Int32) → Q (zI h 132 61) h) ∧ ((zI h 132 61) = (-1 : Int32) → Q (zI h 132 60) h)) : zg G mX10_knownMany d 0 [.ref 132] [] h (zPI Q) := by
  refine z_aload_n 0 rfl rfl ?_
  refine z_getI 1 rfl lX10_135 rfl (zcl1.o hS 132 9 rfl rfl rfl) ?_
  refine z_iconst (v := -1) 2 rfl (by decide) ?_
  refine z_icmp_ne 3 15 rfl (by decide) ⟨fun c1 => ?_, fun c1 => ?_⟩
  · have B := B.1 c1
    refine z_aload_n 7 rfl rfl ?_
    refine z_getI 8 rfl lX10_135 rfl (zcl1.o hS 132 9 rfl rfl rfl) ?_
    exact z_iret 9 rfl rfl rfl ⟨rfl, rfl⟩ ⟨_, rfl, B⟩
  · have B := B.2 c1
    refine z_aload_n 4 rfl rfl ?_
    refine z_getI 5 rfl lX10_316 rfl (zcl1.o hS 132 9 rfl rfl rfl) ?_
    refine z_goto 6 19 rfl (by decide) ?_
    exact z_iret 9 rfl rfl rfl ⟨rfl, rfl⟩ ⟨_, rfl, B⟩
theorem cn_X10_knownMany {G : zG} {d : Nat} {h : zMem} {Q : Int32 → zMem → Prop}  (B : zg G mX10_knownMany d 0 [.ref 132] [] h (zPI Q)) : zConI G mX10_knownMany d [.ref 132] h Q := zcon0 (by decide +kernel) eX10_knownMany (Nat.le_of_ble_eq_true rfl) rfl B
set_option maxRecDepth 100000 in
set_option maxHeartbeats 4000000 in
theorem sg_X10_isSo_0 {G : zG} {d : Nat} {h : zMem} {Q : Int32 → zMem → Prop} {x1 : Int32} (hS : zSh2 h)  (B : zg G mX10_isSo (d + 1) 2 [.ref 132, .int x1, .int (0 : Int32)] [] h (zPI Q)) : zg G mX10_isSo (d + 1) 0 [.ref 132, .int x1, zU] [] h (zPI Q) := by
  refine z_iconst (v := 0) 0 rfl (by decide) ?_
  refine z_istore_n 1 rfl (by decide) rfl ?_
  exact B
theorem cn_X10_isSo {G : zG} {d : Nat} {h : zMem} {Q : Int32 → zMem → Prop} {x1 : Int32} (B : zg G mX10_isSo (d + 1) 0 [.ref 132, .int x1, zU] [] h (zPI Q)) : zConI G mX10_isSo (d + 1) [.ref 132, .int x1] h Q := zcon0 (by decide +kernel) eX10_isSo (Nat.le_of_ble_eq_true rfl) rfl B
set_option maxRecDepth 100000 in
set_option maxHeartbeats 4000000 in
theorem sg_X10_isSo_2 {G : zG} {d : Nat} {h : zMem} {Q : Int32 → zMem → Prop} {x1 : Int32} {x2 : Int32} (hS : zSh2 h)  (B : ∃ Q1 : Int32 → zMem → Prop, zConI G mX10_knownMany d [.ref 132] h Q1 ∧ (∀ v4 h2, Q1 v4 h2 → zSh2 h2 ∧ (v4 ≤ x2 → Q (1 : Int32) h2) ∧ (¬ v4 ≤ x2 → vp_in x2 24 ∧ (¬ (zI h2 173 x2.toNatClampNeg) = 0 → zg G mX10_isSo (d + 1) 2 [.ref 132, .int x1, .int (x2 + 1)] [] h2 (zPI Q)) ∧ ((zI h2 173 x2.toNatClampNeg) = 0 → (¬ (zI h2 172 x2.toNatClampNeg) = (-1 : Int32) → zg G mX10_isSo (d + 1) 2 [.ref 132, .int x1, .int (x2 + 1)] [] h2 (zPI Q)) ∧ ((zI h2 172 x2.toNatClampNeg) = (-1 : Int32) → ((zI h2 168 x2.toNatClampNeg) = x1 → vp_in ((5 : Int32) + (zI h2 169 x2.toNatClampNeg)) 115 ∧ (¬ (zI h2 162 ((5 : Int32) + (zI h2 169 x2.toNatClampNeg)).toNatClampNeg) = (zI h2 170 x2.toNatClampNeg) → ((0 : Int32) = (zI h2 171 x2.toNatClampNeg) → zg G mX10_isSo (d + 1) 2 [.ref 132, .int x1, .int (x2 + 1)] [] h2 (zPI Q)) ∧ (¬ (0 : Int32) = (zI h2 171 x2.toNatClampNeg) → Q (0 : Int32) h2)) ∧ ((zI h2 162 ((5 : Int32) + (zI h2 169 x2.toNatClampNeg)).toNatClampNeg) = (zI h2 170 x2.toNatClampNeg) → ((1 : Int32) = (zI h2 171 x2.toNatClampNeg) → zg G mX10_isSo (d + 1) 2 [.ref 132, .int x1, .int (x2 + 1)] [] h2 (zPI Q)) ∧ (¬ (1 : Int32) = (zI h2 171 x2.toNatClampNeg) → Q (0 : Int32) h2))) ∧ (¬ (zI h2 168 x2.toNatClampNeg) = x1 → zg G mX10_isSo (d + 1) 2 [.ref 132, .int x1, .int (x2 + 1)] [] h2 (zPI Q))))))) : zg G mX10_isSo (d + 1) 2 [.ref 132, .int x1, .int x2] [] h (zPI Q) := by
  refine z_iload_n 2 rfl rfl ?_
  refine z_aload_n 3 rfl rfl ?_
  obtain ⟨Q1, K3, B⟩ := B
  refine z_cVI0 (ν := mX10_knownMany) 4 rfl rfl fX10_knownMany gX10_464 ⟨_, rfl, rfl⟩ (by decide) (zcl1.o hS 132 9 rfl rfl rfl) (Nat.le_of_ble_eq_true rfl) K3 (fun v4 h2 q => ?_)
  obtain ⟨hSh2, B⟩ := B v4 h2 q
  refine z_icmp_ge 5 86 rfl (by decide) ⟨fun c5 => ?_, fun c5 => ?_⟩
  · have B := B.1 c5
    refine z_iconst (v := 1) 50 rfl (by decide) ?_
    exact z_iret 51 rfl rfl rfl ⟨rfl, rfl⟩ ⟨_, rfl, B⟩
  · have B := B.2 c5
    refine z_aload_n 6 rfl rfl ?_
    refine z_getR 7 rfl lX10_154 rfl (zcl1.o hSh2 132 9 rfl rfl rfl) (zcl1.r hSh2 132 67 173 rfl rfl rfl) ?_
    refine z_iload_n 8 rfl rfl ?_
    obtain ⟨o6, B⟩ := B
    refine z_zald 9 rfl (zcl1.o hSh2 173 103 rfl rfl rfl) (zin (zcl1.l hSh2 173 24 rfl rfl rfl) o6) ?_
    refine z_if_ne 10 80 rfl (by decide) ⟨fun c7 => ?_, fun c7 => ?_⟩
    · have B := B.1 c7
      refine z_iinc (v := 1) 48 rfl rfl (by decide) (by decide) rfl ?_
      refine z_goto 49 2 rfl (by decide) ?_
      exact B
    · have B := B.2 c7
      refine z_aload_n 11 rfl rfl ?_
      refine z_getR 12 rfl lX10_151 rfl (zcl1.o hSh2 132 9 rfl rfl rfl) (zcl1.r hSh2 132 66 172 rfl rfl rfl) ?_
      refine z_iload_n 13 rfl rfl ?_
      refine z_iald 14 rfl (zcl1.o hSh2 172 100 rfl rfl rfl) (zin (zcl1.l hSh2 172 24 rfl rfl rfl) o6) ?_
      refine z_iconst (v := -1) 15 rfl (by decide) ?_
      refine z_icmp_ne 16 80 rfl (by decide) ⟨fun c8 => ?_, fun c8 => ?_⟩
      · have B := B.1 c8
        refine z_iinc (v := 1) 48 rfl rfl (by decide) (by decide) rfl ?_
        refine z_goto 49 2 rfl (by decide) ?_
        exact B
      · have B := B.2 c8
        refine z_aload_n 17 rfl rfl ?_
        refine z_getR 18 rfl lX10_138 rfl (zcl1.o hSh2 132 9 rfl rfl rfl) (zcl1.r hSh2 132 62 168 rfl rfl rfl) ?_
        refine z_iload_n 19 rfl rfl ?_
        refine z_iald 20 rfl (zcl1.o hSh2 168 100 rfl rfl rfl) (zin (zcl1.l hSh2 168 24 rfl rfl rfl) o6) ?_
        refine z_iload_n 21 rfl rfl ?_
        refine z_icmp_eq 22 42 rfl (by decide) ⟨fun c9 => ?_, fun c9 => ?_⟩
        · have B := B.1 c9
          refine z_aload_n 24 rfl rfl ?_
          refine z_getR 25 rfl lX10_102 rfl (zcl1.o hSh2 132 9 rfl rfl rfl) (zcl1.r hSh2 132 45 162 rfl rfl rfl) ?_
          refine z_iconst (v := 5) 26 rfl (by decide) ?_
          refine z_aload_n 27 rfl rfl ?_
          refine z_getR 28 rfl lX10_141 rfl (zcl1.o hSh2 132 9 rfl rfl rfl) (zcl1.r hSh2 132 63 169 rfl rfl rfl) ?_
          refine z_iload_n 29 rfl rfl ?_
          refine z_iald 30 rfl (zcl1.o hSh2 169 100 rfl rfl rfl) (zin (zcl1.l hSh2 169 24 rfl rfl rfl) o6) ?_
          refine z_iadd 31 rfl ?_
          obtain ⟨o10, B⟩ := B
          refine z_iald 32 rfl (zcl1.o hSh2 162 100 rfl rfl rfl) (zin (zcl1.l hSh2 162 115 rfl rfl rfl) o10) ?_
          refine z_aload_n 33 rfl rfl ?_
          refine z_getR 34 rfl lX10_144 rfl (zcl1.o hSh2 132 9 rfl rfl rfl) (zcl1.r hSh2 132 64 170 rfl rfl rfl) ?_
          refine z_iload_n 35 rfl rfl ?_
          refine z_iald 36 rfl (zcl1.o hSh2 170 100 rfl rfl rfl) (zin (zcl1.l hSh2 170 24 rfl rfl rfl) o6) ?_
          refine z_icmp_ne 37 68 rfl (by decide) ⟨fun c11 => ?_, fun c11 => ?_⟩
          · have B := B.1 c11
            refine z_iconst (v := 0) 40 rfl (by decide) ?_
            refine z_aload_n 41 rfl rfl ?_
            refine z_getR 42 rfl lX10_147 rfl (zcl1.o hSh2 132 9 rfl rfl rfl) (zcl1.r hSh2 132 65 171 rfl rfl rfl) ?_
            refine z_iload_n 43 rfl rfl ?_
            refine z_zald 44 rfl (zcl1.o hSh2 171 103 rfl rfl rfl) (zin (zcl1.l hSh2 171 24 rfl rfl rfl) o6) ?_
            refine z_icmp_eq 45 80 rfl (by decide) ⟨fun c12 => ?_, fun c12 => ?_⟩
            · have B := B.1 c12
              refine z_iinc (v := 1) 48 rfl rfl (by decide) (by decide) rfl ?_
              refine z_goto 49 2 rfl (by decide) ?_
              exact B
            · have B := B.2 c12
              refine z_iconst (v := 0) 46 rfl (by decide) ?_
              exact z_iret 47 rfl rfl rfl ⟨rfl, rfl⟩ ⟨_, rfl, B⟩
          · have B := B.2 c11
            refine z_iconst (v := 1) 38 rfl (by decide) ?_
            refine z_goto 39 69 rfl (by decide) ?_
            refine z_aload_n 41 rfl rfl ?_
            refine z_getR 42 rfl lX10_147 rfl (zcl1.o hSh2 132 9 rfl rfl rfl) (zcl1.r hSh2 132 65 171 rfl rfl rfl) ?_
            refine z_iload_n 43 rfl rfl ?_
            refine z_zald 44 rfl (zcl1.o hSh2 171 103 rfl rfl rfl) (zin (zcl1.l hSh2 171 24 rfl rfl rfl) o6) ?_
            refine z_icmp_eq 45 80 rfl (by decide) ⟨fun c13 => ?_, fun c13 => ?_⟩
            · have B := B.1 c13
              refine z_iinc (v := 1) 48 rfl rfl (by decide) (by decide) rfl ?_
              refine z_goto 49 2 rfl (by decide) ?_
              exact B
            · have B := B.2 c13
              refine z_iconst (v := 0) 46 rfl (by decide) ?_
              exact z_iret 47 rfl rfl rfl ⟨rfl, rfl⟩ ⟨_, rfl, B⟩
        · have B := B.2 c9
          refine z_goto 23 80 rfl (by decide) ?_
          refine z_iinc (v := 1) 48 rfl rfl (by decide) (by decide) rfl ?_
          refine z_goto 49 2 rfl (by decide) ?_
          exact B
