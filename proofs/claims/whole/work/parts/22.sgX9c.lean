set_option maxRecDepth 100000 in
set_option maxHeartbeats 4000000 in
theorem sg_X9_countFeastThinkers_0 {G : zG} {d : Nat} {h : zMem} {Q : zMem → Prop} {a0 : Nat} {x1 : Int32} (B : zg G mX9_countFeastThinkers (d + 1) 2 [.ref a0, .int x1, .int (0 : Int32), zU] [] h (zPV Q)) : zg G mX9_countFeastThinkers (d + 1) 0 [.ref a0, .int x1, zU, zU] [] h (zPV Q) := by
  refine z_iconst (v := 0) 0 rfl (by decide) ?_
  refine z_istore_n 1 rfl (by decide) rfl ?_
  exact B
theorem cn_X9_countFeastThinkers {G : zG} {d : Nat} {h : zMem} {Q : zMem → Prop} {a0 : Nat} {x1 : Int32} (B : zg G mX9_countFeastThinkers (d + 1) 0 [.ref a0, .int x1, zU, zU] [] h (zPV Q)) : zConV G mX9_countFeastThinkers (d + 1) [.ref a0, .int x1] h Q := zcon0 (by decide +kernel) eX9_countFeastThinkers (Nat.le_of_ble_eq_true rfl) rfl B
set_option maxRecDepth 100000 in
set_option maxHeartbeats 4000000 in
theorem sg_X9_countFeastThinkers_2 {G : zG} {d : Nat} {h : zMem} {Q : zMem → Prop} {a0 : Nat} {x1 : Int32} {x2 : Int32} (B : zO h a0 8 ∧ ∃ r2, zR h a0 11 = some r2 ∧ zO h r2 6 ∧ ∃ r4, zR h r2 0 = some r4 ∧ zO h r4 100 ∧ vp_in (0 : Int32) (zLen h r4) ∧ ((zI h r4 (0 : Int32).toNatClampNeg) ≤ x2 → Q h) ∧ (¬ (zI h r4 (0 : Int32).toNatClampNeg) ≤ x2 → zg G mX9_countFeastThinkers (d + 1) 17 [.ref a0, .int x1, .int x2, .int (0 : Int32)] [] h (zPV Q))) : zg G mX9_countFeastThinkers (d + 1) 2 [.ref a0, .int x1, .int x2, zU] [] h (zPV Q) := by
  refine z_iload_n 2 rfl rfl ?_
  refine z_aload_n 3 rfl rfl ?_
  obtain ⟨o1, B⟩ := B
  obtain ⟨r2, hr2, B⟩ := B
  refine z_getR 4 rfl lX9_67 rfl o1 hr2 ?_
  obtain ⟨o3, B⟩ := B
  obtain ⟨r4, hr4, B⟩ := B
  refine z_getR 5 rfl lX9_208 rfl o3 hr4 ?_
  refine z_iconst (v := 0) 6 rfl (by decide) ?_
  obtain ⟨o5, B⟩ := B
  obtain ⟨o6, B⟩ := B
  refine z_iald 7 rfl o5 o6 ?_
  refine z_icmp_ge 8 112 rfl (by decide) ⟨fun c7 => ?_, fun c7 => ?_⟩
  · have B := B.1 c7
    exact z_vret 63 rfl rfl ⟨rfl, rfl⟩ ⟨rfl, B⟩
  · have B := B.2 c7
    refine z_iconst (v := 0) 9 rfl (by decide) ?_
    refine z_istore_n 10 rfl (by decide) rfl ?_
    exact B
set_option maxRecDepth 100000 in
set_option maxHeartbeats 4000000 in
theorem sg_X9_countFeastThinkers_17 {G : zG} {d : Nat} {h : zMem} {Q : zMem → Prop} {a0 : Nat} {x1 : Int32} {x2 : Int32} {x3 : Int32} (B : zO h a0 8 ∧ ∃ r2, zR h a0 11 = some r2 ∧ zO h r2 6 ∧ ∃ r4, zR h r2 0 = some r4 ∧ zO h r4 100 ∧ vp_in (0 : Int32) (zLen h r4) ∧ ((zI h r4 (0 : Int32).toNatClampNeg) ≤ x3 → zg G mX9_countFeastThinkers (d + 1) 2 [.ref a0, .int x1, .int (x2 + 1), zU] [] h (zPV Q)) ∧ (¬ (zI h r4 (0 : Int32).toNatClampNeg) ≤ x3 → ∃ r8, zR h a0 6 = some r8 ∧ ∃ r9, zR h a0 4 = some r9 ∧ zO h r8 5 ∧ ∃ Q10 : zMem → Prop, zConV G mX5_copy d [.ref r8, .ref r9] h Q10 ∧ (∀ h11, Q10 h11 → zO h11 a0 8 ∧ ∃ r14, zR h11 a0 6 = some r14 ∧ zO h11 r14 5 ∧ ∃ r16, zR h11 r14 1 = some r16 ∧ zO h11 r16 100 ∧ vp_in x2 (zLen h11 r16) ∧ vp_in x3 (zLen h11 r16) ∧ ∃ r20, zR h11 a0 11 = some r20 ∧ ∃ Q21 : zMem → Prop, zConV G mX5_goThroughMorning d [.ref r14, .ref r20] (zsI (zsI h11 r16 x2.toNatClampNeg ((zI h11 r16 x2.toNatClampNeg) + x1)) r16 x3.toNatClampNeg ((zI (zsI h11 r16 x2.toNatClampNeg ((zI h11 r16 x2.toNatClampNeg) + x1)) r16 x3.toNatClampNeg) + x1)) Q21 ∧ (∀ h22, Q21 h22 → zO h22 a0 8 ∧ ∃ r25, zR h22 a0 8 = some r25 ∧ ∃ r26, zR h22 a0 6 = some r26 ∧ ∃ r27, zR h22 a0 11 = some r27 ∧ zO h22 r26 5 ∧ ∃ Q28 : Int32 → zMem → Prop, zConI G mX5_feastThinkers d [.ref r26, .ref r27] h22 Q28 ∧ (∀ v31 h29, Q28 v31 h29 → zO h29 r25 100 ∧ vp_in ((x2 * (6 : Int32)) + x3) (zLen h29 r25) ∧ zg G mX9_countFeastThinkers (d + 1) 17 [.ref a0, .int x1, .int x2, .int (x3 + 1)] [] (zsI h29 r25 ((x2 * (6 : Int32)) + x3).toNatClampNeg v31) (zPV Q)))))) : zg G mX9_countFeastThinkers (d + 1) 17 [.ref a0, .int x1, .int x2, .int x3] [] h (zPV Q) := by
  refine z_iload_n 11 rfl rfl ?_
  refine z_aload_n 12 rfl rfl ?_
  obtain ⟨o1, B⟩ := B
  obtain ⟨r2, hr2, B⟩ := B
  refine z_getR 13 rfl lX9_67 rfl o1 hr2 ?_
  obtain ⟨o3, B⟩ := B
  obtain ⟨r4, hr4, B⟩ := B
  refine z_getR 14 rfl lX9_208 rfl o3 hr4 ?_
  refine z_iconst (v := 0) 15 rfl (by decide) ?_
  obtain ⟨o5, B⟩ := B
  obtain ⟨o6, B⟩ := B
  refine z_iald 16 rfl o5 o6 ?_
  refine z_icmp_ge 17 106 rfl (by decide) ⟨fun c7 => ?_, fun c7 => ?_⟩
  · have B := B.1 c7
    refine z_iinc (v := 1) 61 rfl rfl (by decide) (by decide) rfl ?_
    refine z_goto 62 2 rfl (by decide) ?_
    refine z_drop 3 ?_
    exact B
  · have B := B.2 c7
    refine z_aload_n 18 rfl rfl ?_
    obtain ⟨r8, hr8, B⟩ := B
    refine z_getR 19 rfl lX9_44 rfl o1 hr8 ?_
    refine z_aload_n 20 rfl rfl ?_
    obtain ⟨r9, hr9, B⟩ := B
    refine z_getR 21 rfl lX9_37 rfl o1 hr9 ?_
    obtain ⟨o35, B⟩ := B
    obtain ⟨Q10, K12, B⟩ := B
    refine z_cVV1 (ν := mX5_copy) 22 rfl rfl fX5_copy gX9_226 ⟨_, rfl, rfl⟩ (by decide) o35 (Nat.le_of_ble_eq_true rfl) K12 (fun h11 q => ?_)
    have B := B h11 q
    refine z_aload_n 23 rfl rfl ?_
    obtain ⟨o13, B⟩ := B
    obtain ⟨r14, hr14, B⟩ := B
    refine z_getR 24 rfl lX9_44 rfl o13 hr14 ?_
    obtain ⟨o15, B⟩ := B
    obtain ⟨r16, hr16, B⟩ := B
    refine z_getR 25 rfl lX9_155 rfl o15 hr16 ?_
    refine z_iload_n 26 rfl rfl ?_
    refine z_dup2 27 rfl rfl rfl ?_
    obtain ⟨o17, B⟩ := B
    obtain ⟨o18, B⟩ := B
    refine z_iald 28 rfl o17 o18 ?_
    refine z_iload_n 29 rfl rfl ?_
    refine z_iadd 30 rfl ?_
    refine z_iast 31 rfl o17 o18 ?_
    refine z_aload_n 32 rfl rfl ?_
    refine z_getR 33 rfl lX9_44 rfl o13 hr14 ?_
    refine z_getR 34 rfl lX9_155 rfl o15 hr16 ?_
    refine z_iload_n 35 rfl rfl ?_
    refine z_dup2 36 rfl rfl rfl ?_
    obtain ⟨o19, B⟩ := B
    refine z_iald 37 rfl o17 o19 ?_
    refine z_iload_n 38 rfl rfl ?_
    refine z_iadd 39 rfl ?_
    refine z_iast 40 rfl o17 o19 ?_
    refine z_aload_n 41 rfl rfl ?_
    refine z_getR 42 rfl lX9_44 rfl o13 hr14 ?_
    refine z_aload_n 43 rfl rfl ?_
    obtain ⟨r20, hr20, B⟩ := B
    refine z_getR 44 rfl lX9_67 rfl o13 hr20 ?_
    obtain ⟨Q21, K23, B⟩ := B
    refine z_cVV1 (ν := mX5_goThroughMorning) 45 rfl rfl fX5_goThroughMorning gX9_198 ⟨_, rfl, rfl⟩ (by decide) o15 (Nat.le_of_ble_eq_true rfl) K23 (fun h22 q => ?_)
    have B := B h22 q
    refine z_aload_n 46 rfl rfl ?_
    obtain ⟨o24, B⟩ := B
    obtain ⟨r25, hr25, B⟩ := B
    refine z_getR 47 rfl lX9_54 rfl o24 hr25 ?_
    refine z_iload_n 48 rfl rfl ?_
    refine z_bipush (v := 6) 49 rfl (by decide) ?_
    refine z_imul 50 rfl ?_
    refine z_iload_n 51 rfl rfl ?_
    refine z_iadd 52 rfl ?_
    refine z_aload_n 53 rfl rfl ?_
    obtain ⟨r26, hr26, B⟩ := B
    refine z_getR 54 rfl lX9_44 rfl o24 hr26 ?_
    refine z_aload_n 55 rfl rfl ?_
    obtain ⟨r27, hr27, B⟩ := B
    refine z_getR 56 rfl lX9_67 rfl o24 hr27 ?_
    obtain ⟨o34, B⟩ := B
    obtain ⟨Q28, K30, B⟩ := B
    refine z_cVI1 (ν := mX5_feastThinkers) 57 rfl rfl fX5_feastThinkers gX9_266 ⟨_, rfl, rfl⟩ (by decide) o34 (Nat.le_of_ble_eq_true rfl) K30 (fun v31 h29 q => ?_)
    have B := B v31 h29 q
    obtain ⟨o32, B⟩ := B
    obtain ⟨o33, B⟩ := B
    refine z_iast 58 rfl o32 o33 ?_
    refine z_iinc (v := 1) 59 rfl rfl (by decide) (by decide) rfl ?_
    refine z_goto 60 17 rfl (by decide) ?_
    exact B
set_option maxRecDepth 100000 in
set_option maxHeartbeats 4000000 in
theorem sg_X9_isRest_0 {G : zG} {d : Nat} {h : zMem} {Q : Int32 → zMem → Prop} {a0 : Nat} {x1 : Int32} {x2 : Int32} (B : zO h a0 8 ∧ ∃ r2, zR h a0 8 = some r2 ∧ zO h r2 100 ∧ vp_in ((x1 * (6 : Int32)) + x2) (zLen h r2) ∧ zg G mX9_isRest d 15 [.ref a0, .int x1, .int x2, .int (zI h r2 ((x1 * (6 : Int32)) + x2).toNatClampNeg), .int (0 : Int32), zU, zU] [] h (zPI Q)) : zg G mX9_isRest d 0 [.ref a0, .int x1, .int x2, zU, zU, zU, zU] [] h (zPI Q) := by
  refine z_aload_n 0 rfl rfl ?_
  obtain ⟨o1, B⟩ := B
  obtain ⟨r2, hr2, B⟩ := B
  refine z_getR 1 rfl lX9_54 rfl o1 hr2 ?_
  refine z_iload_n 2 rfl rfl ?_
  refine z_bipush (v := 6) 3 rfl (by decide) ?_
  refine z_imul 4 rfl ?_
  refine z_iload_n 5 rfl rfl ?_
  refine z_iadd 6 rfl ?_
  obtain ⟨o3, B⟩ := B
  obtain ⟨o4, B⟩ := B
  refine z_iald 7 rfl o3 o4 ?_
  refine z_istore_n 8 rfl (by decide) rfl ?_
  refine z_iconst (v := 0) 9 rfl (by decide) ?_
  refine z_istore 10 rfl (by decide) rfl ?_
  exact B
theorem cn_X9_isRest {G : zG} {d : Nat} {h : zMem} {Q : Int32 → zMem → Prop} {a0 : Nat} {x1 : Int32} {x2 : Int32} (B : zg G mX9_isRest d 0 [.ref a0, .int x1, .int x2, zU, zU, zU, zU] [] h (zPI Q)) : zConI G mX9_isRest d [.ref a0, .int x1, .int x2] h Q := zcon0 (by decide +kernel) eX9_isRest (Nat.le_of_ble_eq_true rfl) rfl B
set_option maxRecDepth 100000 in
set_option maxHeartbeats 4000000 in
theorem sg_X9_isRest_15 {G : zG} {d : Nat} {h : zMem} {Q : Int32 → zMem → Prop} {a0 : Nat} {x1 : Int32} {x2 : Int32} {x3 : Int32} {x4 : Int32} (B : zO h a0 8 ∧ ∃ r2, zR h a0 11 = some r2 ∧ zO h r2 6 ∧ ∃ r4, zR h r2 0 = some r4 ∧ zO h r4 100 ∧ vp_in (0 : Int32) (zLen h r4) ∧ ((zI h r4 (0 : Int32).toNatClampNeg) ≤ x4 → Q (1 : Int32) h) ∧ (¬ (zI h r4 (0 : Int32).toNatClampNeg) ≤ x4 → ∃ r8, zR h a0 8 = some r8 ∧ zO h r8 100 ∧ vp_in ((x4 * (6 : Int32)) + x2) (zLen h r8) ∧ ((zI h r8 ((x4 * (6 : Int32)) + x2).toNatClampNeg) ≤ x3 → vp_in ((x1 * (6 : Int32)) + x4) (zLen h r8) ∧ (x3 ≤ (zI h r8 ((x1 * (6 : Int32)) + x4).toNatClampNeg) → (¬ (0 : Int32) = 0 → Q (0 : Int32) h) ∧ ((0 : Int32) = 0 → ((0 : Int32) = 0 → zg G mX9_isRest d 15 [.ref a0, .int x1, .int x2, .int x3, .int (x4 + 1), zU, zU] [] h (zPI Q)) ∧ (¬ (0 : Int32) = 0 → Q (0 : Int32) h))) ∧ (¬ x3 ≤ (zI h r8 ((x1 * (6 : Int32)) + x4).toNatClampNeg) → (¬ (0 : Int32) = 0 → Q (0 : Int32) h) ∧ ((0 : Int32) = 0 → ((1 : Int32) = 0 → zg G mX9_isRest d 15 [.ref a0, .int x1, .int x2, .int x3, .int (x4 + 1), zU, zU] [] h (zPI Q)) ∧ (¬ (1 : Int32) = 0 → Q (0 : Int32) h)))) ∧ (¬ (zI h r8 ((x4 * (6 : Int32)) + x2).toNatClampNeg) ≤ x3 → vp_in ((x1 * (6 : Int32)) + x4) (zLen h r8) ∧ (x3 ≤ (zI h r8 ((x1 * (6 : Int32)) + x4).toNatClampNeg) → (¬ (1 : Int32) = 0 → Q (0 : Int32) h) ∧ ((1 : Int32) = 0 → ((0 : Int32) = 0 → zg G mX9_isRest d 15 [.ref a0, .int x1, .int x2, .int x3, .int (x4 + 1), zU, zU] [] h (zPI Q)) ∧ (¬ (0 : Int32) = 0 → Q (0 : Int32) h))) ∧ (¬ x3 ≤ (zI h r8 ((x1 * (6 : Int32)) + x4).toNatClampNeg) → (¬ (1 : Int32) = 0 → Q (0 : Int32) h) ∧ ((1 : Int32) = 0 → ((1 : Int32) = 0 → zg G mX9_isRest d 15 [.ref a0, .int x1, .int x2, .int x3, .int (x4 + 1), zU, zU] [] h (zPI Q)) ∧ (¬ (1 : Int32) = 0 → Q (0 : Int32) h)))))) : zg G mX9_isRest d 15 [.ref a0, .int x1, .int x2, .int x3, .int x4, zU, zU] [] h (zPI Q) := by
  refine z_iload 11 rfl rfl ?_
  refine z_aload_n 12 rfl rfl ?_
  obtain ⟨o1, B⟩ := B
  obtain ⟨r2, hr2, B⟩ := B
  refine z_getR 13 rfl lX9_67 rfl o1 hr2 ?_
  obtain ⟨o3, B⟩ := B
  obtain ⟨r4, hr4, B⟩ := B
  refine z_getR 14 rfl lX9_208 rfl o3 hr4 ?_
  refine z_iconst (v := 0) 15 rfl (by decide) ?_
  obtain ⟨o5, B⟩ := B
  obtain ⟨o6, B⟩ := B
  refine z_iald 16 rfl o5 o6 ?_
  refine z_icmp_ge 17 93 rfl (by decide) ⟨fun c7 => ?_, fun c7 => ?_⟩
  · have B := B.1 c7
    refine z_iconst (v := 1) 54 rfl (by decide) ?_
    exact z_iret 55 rfl rfl rfl ⟨rfl, rfl⟩ ⟨_, rfl, B⟩
  · have B := B.2 c7
    refine z_aload_n 18 rfl rfl ?_
    obtain ⟨r8, hr8, B⟩ := B
    refine z_getR 19 rfl lX9_54 rfl o1 hr8 ?_
    refine z_iload 20 rfl rfl ?_
    refine z_bipush (v := 6) 21 rfl (by decide) ?_
    refine z_imul 22 rfl ?_
    refine z_iload_n 23 rfl rfl ?_
    refine z_iadd 24 rfl ?_
    obtain ⟨o9, B⟩ := B
    obtain ⟨o10, B⟩ := B
    refine z_iald 25 rfl o9 o10 ?_
    refine z_iload_n 26 rfl rfl ?_
    refine z_icmp_le 27 49 rfl (by decide) ⟨fun c11 => ?_, fun c11 => ?_⟩
    · have B := B.1 c11
      refine z_iconst (v := 0) 30 rfl (by decide) ?_
      refine z_istore 31 rfl (by decide) rfl ?_
      refine z_aload_n 32 rfl rfl ?_
      refine z_getR 33 rfl lX9_54 rfl o1 hr8 ?_
      refine z_iload_n 34 rfl rfl ?_
      refine z_bipush (v := 6) 35 rfl (by decide) ?_
      refine z_imul 36 rfl ?_
      refine z_iload 37 rfl rfl ?_
      refine z_iadd 38 rfl ?_
      obtain ⟨o12, B⟩ := B
      refine z_iald 39 rfl o9 o12 ?_
      refine z_iload_n 40 rfl rfl ?_
      refine z_icmp_ge 41 72 rfl (by decide) ⟨fun c13 => ?_, fun c13 => ?_⟩
      · have B := B.1 c13
        refine z_iconst (v := 0) 44 rfl (by decide) ?_
        refine z_istore 45 rfl (by decide) rfl ?_
        refine z_iload 46 rfl rfl ?_
        refine z_if_ne 47 85 rfl (by decide) ⟨fun c14 => ?_, fun c14 => ?_⟩
        · have B := B.1 c14
          refine z_iconst (v := 0) 50 rfl (by decide) ?_
          exact z_iret 51 rfl rfl rfl ⟨rfl, rfl⟩ ⟨_, rfl, B⟩
        · have B := B.2 c14
          refine z_iload 48 rfl rfl ?_
          refine z_if_eq 49 87 rfl (by decide) ⟨fun c15 => ?_, fun c15 => ?_⟩
          · have B := B.1 c15
            refine z_iinc (v := 1) 52 rfl rfl (by decide) (by decide) rfl ?_
            refine z_goto 53 15 rfl (by decide) ?_
            refine z_drop 5 ?_
            refine z_drop 6 ?_
            exact B
          · have B := B.2 c15
            refine z_iconst (v := 0) 50 rfl (by decide) ?_
            exact z_iret 51 rfl rfl rfl ⟨rfl, rfl⟩ ⟨_, rfl, B⟩
      · have B := B.2 c13
        refine z_iconst (v := 1) 42 rfl (by decide) ?_
        refine z_goto 43 73 rfl (by decide) ?_
        refine z_istore 45 rfl (by decide) rfl ?_
        refine z_iload 46 rfl rfl ?_
        refine z_if_ne 47 85 rfl (by decide) ⟨fun c16 => ?_, fun c16 => ?_⟩
        · have B := B.1 c16
          refine z_iconst (v := 0) 50 rfl (by decide) ?_
          exact z_iret 51 rfl rfl rfl ⟨rfl, rfl⟩ ⟨_, rfl, B⟩
        · have B := B.2 c16
          refine z_iload 48 rfl rfl ?_
          refine z_if_eq 49 87 rfl (by decide) ⟨fun c17 => ?_, fun c17 => ?_⟩
          · have B := B.1 c17
            refine z_iinc (v := 1) 52 rfl rfl (by decide) (by decide) rfl ?_
            refine z_goto 53 15 rfl (by decide) ?_
            refine z_drop 5 ?_
            refine z_drop 6 ?_
            exact B
          · have B := B.2 c17
            refine z_iconst (v := 0) 50 rfl (by decide) ?_
            exact z_iret 51 rfl rfl rfl ⟨rfl, rfl⟩ ⟨_, rfl, B⟩
    · have B := B.2 c11
      refine z_iconst (v := 1) 28 rfl (by decide) ?_
      refine z_goto 29 50 rfl (by decide) ?_
      refine z_istore 31 rfl (by decide) rfl ?_
      refine z_aload_n 32 rfl rfl ?_
      refine z_getR 33 rfl lX9_54 rfl o1 hr8 ?_
      refine z_iload_n 34 rfl rfl ?_
      refine z_bipush (v := 6) 35 rfl (by decide) ?_
      refine z_imul 36 rfl ?_
      refine z_iload 37 rfl rfl ?_
      refine z_iadd 38 rfl ?_
      obtain ⟨o18, B⟩ := B
      refine z_iald 39 rfl o9 o18 ?_
      refine z_iload_n 40 rfl rfl ?_
      refine z_icmp_ge 41 72 rfl (by decide) ⟨fun c19 => ?_, fun c19 => ?_⟩
      · have B := B.1 c19
        refine z_iconst (v := 0) 44 rfl (by decide) ?_
        refine z_istore 45 rfl (by decide) rfl ?_
        refine z_iload 46 rfl rfl ?_
        refine z_if_ne 47 85 rfl (by decide) ⟨fun c20 => ?_, fun c20 => ?_⟩
        · have B := B.1 c20
          refine z_iconst (v := 0) 50 rfl (by decide) ?_
          exact z_iret 51 rfl rfl rfl ⟨rfl, rfl⟩ ⟨_, rfl, B⟩
        · have B := B.2 c20
          refine z_iload 48 rfl rfl ?_
          refine z_if_eq 49 87 rfl (by decide) ⟨fun c21 => ?_, fun c21 => ?_⟩
          · have B := B.1 c21
            refine z_iinc (v := 1) 52 rfl rfl (by decide) (by decide) rfl ?_
            refine z_goto 53 15 rfl (by decide) ?_
            refine z_drop 5 ?_
            refine z_drop 6 ?_
            exact B
          · have B := B.2 c21
            refine z_iconst (v := 0) 50 rfl (by decide) ?_
            exact z_iret 51 rfl rfl rfl ⟨rfl, rfl⟩ ⟨_, rfl, B⟩
      · have B := B.2 c19
        refine z_iconst (v := 1) 42 rfl (by decide) ?_
        refine z_goto 43 73 rfl (by decide) ?_
        refine z_istore 45 rfl (by decide) rfl ?_
        refine z_iload 46 rfl rfl ?_
        refine z_if_ne 47 85 rfl (by decide) ⟨fun c22 => ?_, fun c22 => ?_⟩
        · have B := B.1 c22
          refine z_iconst (v := 0) 50 rfl (by decide) ?_
          exact z_iret 51 rfl rfl rfl ⟨rfl, rfl⟩ ⟨_, rfl, B⟩
        · have B := B.2 c22
          refine z_iload 48 rfl rfl ?_
          refine z_if_eq 49 87 rfl (by decide) ⟨fun c23 => ?_, fun c23 => ?_⟩
          · have B := B.1 c23
            refine z_iinc (v := 1) 52 rfl rfl (by decide) (by decide) rfl ?_
            refine z_goto 53 15 rfl (by decide) ?_
            refine z_drop 5 ?_
            refine z_drop 6 ?_
            exact B
          · have B := B.2 c23
            refine z_iconst (v := 0) 50 rfl (by decide) ?_
            exact z_iret 51 rfl rfl rfl ⟨rfl, rfl⟩ ⟨_, rfl, B⟩
set_option maxRecDepth 100000 in
set_option maxHeartbeats 4000000 in
theorem sg_X9_note_0 {G : zG} {d : Nat} {h : zMem} {Q : Int32 → zMem → Prop} {a0 : Nat} {x1 : Int32} {x2 : Int32} {x3 : Int32} {x4 : Int32} (B : (x1 < (1 : Int32) → Q (-1 : Int32) h) ∧ (¬ x1 < (1 : Int32) → ((40 : Int32) < x1 → Q (-1 : Int32) h) ∧ (¬ (40 : Int32) < x1 → zO h a0 8 ∧ ∃ Q3 : Int32 → zMem → Prop, zConI G mX9_has d [.ref a0, .int (3 : Int32), .int x2] h Q3 ∧ (∀ v6 h4, Q3 v6 h4 → (v6 = 0 → Q (-1 : Int32) h4) ∧ (¬ v6 = 0 → zO h4 a0 8 ∧ ∃ Q8 : Int32 → zMem → Prop, zConI G mX9_has d [.ref a0, .int (1 : Int32), .int x3] h4 Q8 ∧ (∀ v11 h9, Q8 v11 h9 → (¬ v11 = 0 → zO h9 a0 8 ∧ ∃ r14, zR h9 a0 2 = some r14 ∧ zO h9 r14 1 ∧ ∃ Q15 : Int32 → zMem → Prop, zConI G mX1_add d [.ref r14, .int x1, .int x2, .int x3, .int x4] h9 Q15 ∧ (∀ v18 h16, Q15 v18 h16 → Q v18 h16)) ∧ (v11 = 0 → Q (-1 : Int32) h9))))))) : zg G mX9_note (d + 1) 0 [.ref a0, .int x1, .int x2, .int x3, .int x4] [] h (zPI Q) := by
  refine z_iload_n 0 rfl rfl ?_
  refine z_iconst (v := 1) 1 rfl (by decide) ?_
  refine z_icmp_lt 2 29 rfl (by decide) ⟨fun c1 => ?_, fun c1 => ?_⟩
  · have B := B.1 c1
    refine z_iconst (v := -1) 16 rfl (by decide) ?_
    exact z_iret 17 rfl rfl rfl ⟨rfl, rfl⟩ ⟨_, rfl, B⟩
  · have B := B.2 c1
    refine z_iload_n 3 rfl rfl ?_
    refine z_bipush (v := 40) 4 rfl (by decide) ?_
    refine z_icmp_gt 5 29 rfl (by decide) ⟨fun c2 => ?_, fun c2 => ?_⟩
    · have B := B.1 c2
      refine z_iconst (v := -1) 16 rfl (by decide) ?_
      exact z_iret 17 rfl rfl rfl ⟨rfl, rfl⟩ ⟨_, rfl, B⟩
    · have B := B.2 c2
      refine z_aload_n 6 rfl rfl ?_
      refine z_iconst (v := 3) 7 rfl (by decide) ?_
      refine z_iload_n 8 rfl rfl ?_
      obtain ⟨o21, B⟩ := B
      obtain ⟨Q3, K5, B⟩ := B
      refine z_cVI2 (ν := mX9_has) 9 rfl rfl fX9_has gX9_117 ⟨_, rfl, rfl⟩ (by decide) o21 (Nat.le_of_ble_eq_true rfl) K5 (fun v6 h4 q => ?_)
      have B := B v6 h4 q
      refine z_if_eq 10 29 rfl (by decide) ⟨fun c7 => ?_, fun c7 => ?_⟩
      · have B := B.1 c7
        refine z_iconst (v := -1) 16 rfl (by decide) ?_
        exact z_iret 17 rfl rfl rfl ⟨rfl, rfl⟩ ⟨_, rfl, B⟩
      · have B := B.2 c7
        refine z_aload_n 11 rfl rfl ?_
        refine z_iconst (v := 1) 12 rfl (by decide) ?_
        refine z_iload_n 13 rfl rfl ?_
        obtain ⟨o20, B⟩ := B
        obtain ⟨Q8, K10, B⟩ := B
        refine z_cVI2 (ν := mX9_has) 14 rfl rfl fX9_has gX9_117 ⟨_, rfl, rfl⟩ (by decide) o20 (Nat.le_of_ble_eq_true rfl) K10 (fun v11 h9 q => ?_)
        have B := B v11 h9 q
        refine z_if_ne 15 31 rfl (by decide) ⟨fun c12 => ?_, fun c12 => ?_⟩
        · have B := B.1 c12
          refine z_aload_n 18 rfl rfl ?_
          obtain ⟨o13, B⟩ := B
          obtain ⟨r14, hr14, B⟩ := B
          refine z_getR 19 rfl lX9_23 rfl o13 hr14 ?_
          refine z_iload_n 20 rfl rfl ?_
          refine z_iload_n 21 rfl rfl ?_
          refine z_iload_n 22 rfl rfl ?_
          refine z_iload 23 rfl rfl ?_
          obtain ⟨o19, B⟩ := B
          obtain ⟨Q15, K17, B⟩ := B
          refine z_cVI4 (ν := mX1_add) 24 rfl rfl fX1_add gX9_268 ⟨_, rfl, rfl⟩ (by decide) o19 (Nat.le_of_ble_eq_true rfl) K17 (fun v18 h16 q => ?_)
          have B := B v18 h16 q
          exact z_iret 25 rfl rfl rfl ⟨rfl, rfl⟩ ⟨_, rfl, B⟩
        · have B := B.2 c12
          refine z_iconst (v := -1) 16 rfl (by decide) ?_
          exact z_iret 17 rfl rfl rfl ⟨rfl, rfl⟩ ⟨_, rfl, B⟩
theorem cn_X9_note {G : zG} {d : Nat} {h : zMem} {Q : Int32 → zMem → Prop} {a0 : Nat} {x1 : Int32} {x2 : Int32} {x3 : Int32} {x4 : Int32} (B : zg G mX9_note (d + 1) 0 [.ref a0, .int x1, .int x2, .int x3, .int x4] [] h (zPI Q)) : zConI G mX9_note (d + 1) [.ref a0, .int x1, .int x2, .int x3, .int x4] h Q := zcon0 (by decide +kernel) eX9_note (Nat.le_of_ble_eq_true rfl) rfl B
set_option maxRecDepth 100000 in
set_option maxHeartbeats 4000000 in
theorem sg_X9_out_0 {G : zG} {d : Nat} {h : zMem} {Q : Int32 → zMem → Prop} {a0 : Nat} {x1 : Int32} (B : zO h a0 8 ∧ ∃ r2, zR h a0 2 = some r2 ∧ zO h r2 1 ∧ ∃ Q3 : Int32 → zMem → Prop, zConI G mX1_strike d [.ref r2, .int x1] h Q3 ∧ (∀ v6 h4, Q3 v6 h4 → Q v6 h4)) : zg G mX9_out (d + 1) 0 [.ref a0, .int x1] [] h (zPI Q) := by
  refine z_aload_n 0 rfl rfl ?_
  obtain ⟨o1, B⟩ := B
  obtain ⟨r2, hr2, B⟩ := B
  refine z_getR 1 rfl lX9_23 rfl o1 hr2 ?_
  refine z_iload_n 2 rfl rfl ?_
  obtain ⟨o7, B⟩ := B
  obtain ⟨Q3, K5, B⟩ := B
  refine z_cVI1 (ν := mX1_strike) 3 rfl rfl fX1_strike gX9_271 ⟨_, rfl, rfl⟩ (by decide) o7 (Nat.le_of_ble_eq_true rfl) K5 (fun v6 h4 q => ?_)
  have B := B v6 h4 q
  exact z_iret 4 rfl rfl rfl ⟨rfl, rfl⟩ ⟨_, rfl, B⟩
theorem cn_X9_out {G : zG} {d : Nat} {h : zMem} {Q : Int32 → zMem → Prop} {a0 : Nat} {x1 : Int32} (B : zg G mX9_out (d + 1) 0 [.ref a0, .int x1] [] h (zPI Q)) : zConI G mX9_out (d + 1) [.ref a0, .int x1] h Q := zcon0 (by decide +kernel) eX9_out (Nat.le_of_ble_eq_true rfl) rfl B
set_option maxRecDepth 100000 in
set_option maxHeartbeats 4000000 in
theorem sg_X9_known_0 {G : zG} {d : Nat} {h : zMem} {Q : Int32 → zMem → Prop} {a0 : Nat} {x1 : Int32} (B : (x1 < (-1 : Int32) → Q (0 : Int32) h) ∧ (¬ x1 < (-1 : Int32) → zO h a0 8 ∧ ∃ r3, zR h a0 2 = some r3 ∧ zO h r3 1 ∧ (x1 ≤ (zI h r3 6) → Q (1 : Int32) (zsI h r3 7 x1)) ∧ (¬ x1 ≤ (zI h r3 6) → Q (0 : Int32) h))) : zg G mX9_known d 0 [.ref a0, .int x1] [] h (zPI Q) := by
  refine z_iload_n 0 rfl rfl ?_
  refine z_iconst (v := -1) 1 rfl (by decide) ?_
  refine z_icmp_lt 2 16 rfl (by decide) ⟨fun c1 => ?_, fun c1 => ?_⟩
  · have B := B.1 c1
    refine z_iconst (v := 0) 8 rfl (by decide) ?_
    exact z_iret 9 rfl rfl rfl ⟨rfl, rfl⟩ ⟨_, rfl, B⟩
  · have B := B.2 c1
    refine z_iload_n 3 rfl rfl ?_
    refine z_aload_n 4 rfl rfl ?_
    obtain ⟨o2, B⟩ := B
    obtain ⟨r3, hr3, B⟩ := B
    refine z_getR 5 rfl lX9_23 rfl o2 hr3 ?_
    obtain ⟨o4, B⟩ := B
    refine z_getI 6 rfl lX9_274 rfl o4 ?_
    refine z_icmp_le 7 18 rfl (by decide) ⟨fun c5 => ?_, fun c5 => ?_⟩
    · have B := B.1 c5
      refine z_aload_n 10 rfl rfl ?_
      refine z_getR 11 rfl lX9_23 rfl o2 hr3 ?_
      refine z_iload_n 12 rfl rfl ?_
      refine z_putI 13 rfl lX9_277 ⟨_, _, _, rfl, rfl⟩ rfl rfl rfl o4 ?_
      refine z_iconst (v := 1) 14 rfl (by decide) ?_
      exact z_iret 15 rfl rfl rfl ⟨rfl, rfl⟩ ⟨_, rfl, B⟩
    · have B := B.2 c5
      refine z_iconst (v := 0) 8 rfl (by decide) ?_
      exact z_iret 9 rfl rfl rfl ⟨rfl, rfl⟩ ⟨_, rfl, B⟩
theorem cn_X9_known {G : zG} {d : Nat} {h : zMem} {Q : Int32 → zMem → Prop} {a0 : Nat} {x1 : Int32} (B : zg G mX9_known d 0 [.ref a0, .int x1] [] h (zPI Q)) : zConI G mX9_known d [.ref a0, .int x1] h Q := zcon0 (by decide +kernel) eX9_known (Nat.le_of_ble_eq_true rfl) rfl B
set_option maxRecDepth 100000 in
set_option maxHeartbeats 4000000 in
theorem sg_X9_colds_0 {G : zG} {d : Nat} {h : zMem} {Q : Int32 → zMem → Prop} {a0 : Nat} {x1 : Int32} (B : zO h a0 8 ∧ ∃ Q1 : Int32 → zMem → Prop, zConI G mX9_has d [.ref a0, .int (3 : Int32), .int x1] h Q1 ∧ (∀ v4 h2, Q1 v4 h2 → (¬ v4 = 0 → zO h2 a0 8 ∧ ∃ r7, zR h2 a0 2 = some r7 ∧ zO h2 r7 1 ∧ ∃ Q8 : zMem → Prop, zConV G mX1_weigh d [.ref r7] h2 Q8 ∧ (∀ h9, Q8 h9 → zg G mX9_colds (d + 1) 22 [.ref a0, .int x1, .int (0 : Int32), .int (0 : Int32)] [] h9 (zPI Q))) ∧ (v4 = 0 → Q (-1 : Int32) h2))) : zg G mX9_colds (d + 1) 0 [.ref a0, .int x1, zU, zU] [] h (zPI Q) := by
  refine z_aload_n 0 rfl rfl ?_
  refine z_iconst (v := 3) 1 rfl (by decide) ?_
  refine z_iload_n 2 rfl rfl ?_
  obtain ⟨o12, B⟩ := B
  obtain ⟨Q1, K3, B⟩ := B
  refine z_cVI2 (ν := mX9_has) 3 rfl rfl fX9_has gX9_117 ⟨_, rfl, rfl⟩ (by decide) o12 (Nat.le_of_ble_eq_true rfl) K3 (fun v4 h2 q => ?_)
  have B := B v4 h2 q
  refine z_if_ne 4 11 rfl (by decide) ⟨fun c5 => ?_, fun c5 => ?_⟩
  · have B := B.1 c5
    refine z_aload_n 7 rfl rfl ?_
    obtain ⟨o6, B⟩ := B
    obtain ⟨r7, hr7, B⟩ := B
    refine z_getR 8 rfl lX9_23 rfl o6 hr7 ?_
    obtain ⟨o11, B⟩ := B
    obtain ⟨Q8, K10, B⟩ := B
    refine z_cVV0 (ν := mX1_weigh) 9 rfl rfl fX1_weigh gX9_280 ⟨_, rfl, rfl⟩ (by decide) o11 (Nat.le_of_ble_eq_true rfl) K10 (fun h9 q => ?_)
    have B := B h9 q
    refine z_iconst (v := 0) 10 rfl (by decide) ?_
    refine z_istore_n 11 rfl (by decide) rfl ?_
    refine z_iconst (v := 0) 12 rfl (by decide) ?_
    refine z_istore_n 13 rfl (by decide) rfl ?_
    exact B
  · have B := B.2 c5
    refine z_iconst (v := -1) 5 rfl (by decide) ?_
    exact z_iret 6 rfl rfl rfl ⟨rfl, rfl⟩ ⟨_, rfl, B⟩
theorem cn_X9_colds {G : zG} {d : Nat} {h : zMem} {Q : Int32 → zMem → Prop} {a0 : Nat} {x1 : Int32} (B : zg G mX9_colds (d + 1) 0 [.ref a0, .int x1, zU, zU] [] h (zPI Q)) : zConI G mX9_colds (d + 1) [.ref a0, .int x1] h Q := zcon0 (by decide +kernel) eX9_colds (Nat.le_of_ble_eq_true rfl) rfl B
set_option maxRecDepth 100000 in
set_option maxHeartbeats 4000000 in
theorem sg_X9_colds_22 {G : zG} {d : Nat} {h : zMem} {Q : Int32 → zMem → Prop} {a0 : Nat} {x1 : Int32} {x2 : Int32} {x3 : Int32} (B : zO h a0 8 ∧ ∃ r2, zR h a0 11 = some r2 ∧ zO h r2 6 ∧ ∃ r4, zR h r2 0 = some r4 ∧ zO h r4 100 ∧ vp_in (0 : Int32) (zLen h r4) ∧ ((zI h r4 (0 : Int32).toNatClampNeg) < x3 → Q x2 h) ∧ (¬ (zI h r4 (0 : Int32).toNatClampNeg) < x3 → ∃ r8, zR h a0 6 = some r8 ∧ zO h r8 5 ∧ ∃ Q9 : zMem → Prop, zConV G mX5_begin d [.ref r8, .ref r2] h Q9 ∧ (∀ h10, Q9 h10 → zO h10 a0 8 ∧ ∃ r13, zR h10 a0 11 = some r13 ∧ zO h10 r13 6 ∧ ∃ r15, zR h10 r13 0 = some r15 ∧ zO h10 r15 100 ∧ vp_in (0 : Int32) (zLen h10 r15) ∧ ((zI h10 r15 (0 : Int32).toNatClampNeg) ≤ x3 → ∃ Q19 : Int32 → zMem → Prop, zConI G mX9_agreesWithNotes d [.ref a0] h10 Q19 ∧ (∀ v22 h20, Q19 v22 h20 → (v22 = 0 → zg G mX9_colds (d + 1) 22 [.ref a0, .int x1, .int x2, .int (x3 + 1)] [] h20 (zPI Q)) ∧ (¬ v22 = 0 → zg G mX9_colds (d + 1) 22 [.ref a0, .int x1, .int (x2 ||| ((1 : Int32) <<< (x3 &&& 31))), .int (x3 + 1)] [] h20 (zPI Q)))) ∧ (¬ (zI h10 r15 (0 : Int32).toNatClampNeg) ≤ x3 → ∃ r24, zR h10 a0 6 = some r24 ∧ zO h10 r24 5 ∧ ∃ r26, zR h10 r24 5 = some r26 ∧ zO h10 r26 100 ∧ vp_in x1 (zLen h10 r26) ∧ ∃ Q29 : Int32 → zMem → Prop, zConI G mX9_agreesWithNotes d [.ref a0] (zsI h10 r26 x1.toNatClampNeg ((1 : Int32) <<< (x3 &&& 31))) Q29 ∧ (∀ v32 h30, Q29 v32 h30 → (v32 = 0 → zg G mX9_colds (d + 1) 22 [.ref a0, .int x1, .int x2, .int (x3 + 1)] [] h30 (zPI Q)) ∧ (¬ v32 = 0 → zg G mX9_colds (d + 1) 22 [.ref a0, .int x1, .int (x2 ||| ((1 : Int32) <<< (x3 &&& 31))), .int (x3 + 1)] [] h30 (zPI Q))))))) : zg G mX9_colds (d + 1) 22 [.ref a0, .int x1, .int x2, .int x3] [] h (zPI Q) := by
  refine z_iload_n 14 rfl rfl ?_
  refine z_aload_n 15 rfl rfl ?_
  obtain ⟨o1, B⟩ := B
  obtain ⟨r2, hr2, B⟩ := B
  refine z_getR 16 rfl lX9_67 rfl o1 hr2 ?_
  obtain ⟨o3, B⟩ := B
  obtain ⟨r4, hr4, B⟩ := B
  refine z_getR 17 rfl lX9_208 rfl o3 hr4 ?_
  refine z_iconst (v := 0) 18 rfl (by decide) ?_
  obtain ⟨o5, B⟩ := B
  obtain ⟨o6, B⟩ := B
  refine z_iald 19 rfl o5 o6 ?_
  refine z_icmp_gt 20 90 rfl (by decide) ⟨fun c7 => ?_, fun c7 => ?_⟩
  · have B := B.1 c7
    refine z_iload_n 52 rfl rfl ?_
    exact z_iret 53 rfl rfl rfl ⟨rfl, rfl⟩ ⟨_, rfl, B⟩
  · have B := B.2 c7
    refine z_aload_n 21 rfl rfl ?_
    obtain ⟨r8, hr8, B⟩ := B
    refine z_getR 22 rfl lX9_44 rfl o1 hr8 ?_
    refine z_aload_n 23 rfl rfl ?_
    refine z_getR 24 rfl lX9_67 rfl o1 hr2 ?_
    obtain ⟨o34, B⟩ := B
    obtain ⟨Q9, K11, B⟩ := B
    refine z_cVV1 (ν := mX5_begin) 25 rfl rfl fX5_begin gX9_71 ⟨_, rfl, rfl⟩ (by decide) o34 (Nat.le_of_ble_eq_true rfl) K11 (fun h10 q => ?_)
    have B := B h10 q
    refine z_iload_n 26 rfl rfl ?_
    refine z_aload_n 27 rfl rfl ?_
    obtain ⟨o12, B⟩ := B
    obtain ⟨r13, hr13, B⟩ := B
    refine z_getR 28 rfl lX9_67 rfl o12 hr13 ?_
    obtain ⟨o14, B⟩ := B
    obtain ⟨r15, hr15, B⟩ := B
    refine z_getR 29 rfl lX9_208 rfl o14 hr15 ?_
    refine z_iconst (v := 0) 30 rfl (by decide) ?_
    obtain ⟨o16, B⟩ := B
    obtain ⟨o17, B⟩ := B
    refine z_iald 31 rfl o16 o17 ?_
    refine z_icmp_ge 32 71 rfl (by decide) ⟨fun c18 => ?_, fun c18 => ?_⟩
    · have B := B.1 c18
      refine z_aload_n 41 rfl rfl ?_
      obtain ⟨Q19, K21, B⟩ := B
      refine z_cVI0 (ν := mX9_agreesWithNotes) 42 rfl rfl fX9_agreesWithNotes gX9_283 ⟨_, rfl, rfl⟩ (by decide) o12 (Nat.le_of_ble_eq_true rfl) K21 (fun v22 h20 q => ?_)
      have B := B v22 h20 q
      refine z_if_eq 43 84 rfl (by decide) ⟨fun c23 => ?_, fun c23 => ?_⟩
      · have B := B.1 c23
        refine z_iinc (v := 1) 50 rfl rfl (by decide) (by decide) rfl ?_
        refine z_goto 51 22 rfl (by decide) ?_
        exact B
      · have B := B.2 c23
        refine z_iload_n 44 rfl rfl ?_
        refine z_iconst (v := 1) 45 rfl (by decide) ?_
        refine z_iload_n 46 rfl rfl ?_
        refine z_ishl 47 rfl ?_
        refine z_ior 48 rfl ?_
        refine z_istore_n 49 rfl (by decide) rfl ?_
        refine z_iinc (v := 1) 50 rfl rfl (by decide) (by decide) rfl ?_
        refine z_goto 51 22 rfl (by decide) ?_
        exact B
    · have B := B.2 c18
      refine z_aload_n 33 rfl rfl ?_
      obtain ⟨r24, hr24, B⟩ := B
      refine z_getR 34 rfl lX9_44 rfl o12 hr24 ?_
      obtain ⟨o25, B⟩ := B
      obtain ⟨r26, hr26, B⟩ := B
      refine z_getR 35 rfl lX9_134 rfl o25 hr26 ?_
      refine z_iload_n 36 rfl rfl ?_
      refine z_iconst (v := 1) 37 rfl (by decide) ?_
      refine z_iload_n 38 rfl rfl ?_
      refine z_ishl 39 rfl ?_
      obtain ⟨o27, B⟩ := B
      obtain ⟨o28, B⟩ := B
      refine z_iast 40 rfl o27 o28 ?_
      refine z_aload_n 41 rfl rfl ?_
      obtain ⟨Q29, K31, B⟩ := B
      refine z_cVI0 (ν := mX9_agreesWithNotes) 42 rfl rfl fX9_agreesWithNotes gX9_283 ⟨_, rfl, rfl⟩ (by decide) o12 (Nat.le_of_ble_eq_true rfl) K31 (fun v32 h30 q => ?_)
      have B := B v32 h30 q
      refine z_if_eq 43 84 rfl (by decide) ⟨fun c33 => ?_, fun c33 => ?_⟩
      · have B := B.1 c33
        refine z_iinc (v := 1) 50 rfl rfl (by decide) (by decide) rfl ?_
        refine z_goto 51 22 rfl (by decide) ?_
        exact B
      · have B := B.2 c33
        refine z_iload_n 44 rfl rfl ?_
        refine z_iconst (v := 1) 45 rfl (by decide) ?_
        refine z_iload_n 46 rfl rfl ?_
        refine z_ishl 47 rfl ?_
        refine z_ior 48 rfl ?_
        refine z_istore_n 49 rfl (by decide) rfl ?_
        refine z_iinc (v := 1) 50 rfl rfl (by decide) (by decide) rfl ?_
        refine z_goto 51 22 rfl (by decide) ?_
        exact B
set_option maxRecDepth 100000 in
set_option maxHeartbeats 4000000 in
theorem sg_X9_agreesWithNotes_0 {G : zG} {d : Nat} {h : zMem} {Q : Int32 → zMem → Prop} {a0 : Nat} (B : zO h a0 8 ∧ ∃ r2, zR h a0 2 = some r2 ∧ zO h r2 1 ∧ ∃ Q3 : Int32 → zMem → Prop, zConI G mX1_lastMorning d [.ref r2] h Q3 ∧ (∀ v6 h4, Q3 v6 h4 → zg G mX9_agreesWithNotes (d + 1) 10 [.ref a0, .int v6, .int (1 : Int32)] [] h4 (zPI Q))) : zg G mX9_agreesWithNotes (d + 1) 0 [.ref a0, zU, zU] [] h (zPI Q) := by
  refine z_aload_n 0 rfl rfl ?_
  obtain ⟨o1, B⟩ := B
  obtain ⟨r2, hr2, B⟩ := B
  refine z_getR 1 rfl lX9_23 rfl o1 hr2 ?_
  obtain ⟨o7, B⟩ := B
  obtain ⟨Q3, K5, B⟩ := B
  refine z_cVI0 (ν := mX1_lastMorning) 2 rfl rfl fX1_lastMorning gX9_286 ⟨_, rfl, rfl⟩ (by decide) o7 (Nat.le_of_ble_eq_true rfl) K5 (fun v6 h4 q => ?_)
  have B := B v6 h4 q
  refine z_istore_n 3 rfl (by decide) rfl ?_
  refine z_iconst (v := 1) 4 rfl (by decide) ?_
  refine z_istore_n 5 rfl (by decide) rfl ?_
  exact B
theorem cn_X9_agreesWithNotes {G : zG} {d : Nat} {h : zMem} {Q : Int32 → zMem → Prop} {a0 : Nat} (B : zg G mX9_agreesWithNotes (d + 1) 0 [.ref a0, zU, zU] [] h (zPI Q)) : zConI G mX9_agreesWithNotes (d + 1) [.ref a0] h Q := zcon0 (by decide +kernel) eX9_agreesWithNotes (Nat.le_of_ble_eq_true rfl) rfl B
set_option maxRecDepth 100000 in
set_option maxHeartbeats 4000000 in
theorem sg_X9_agreesWithNotes_10 {G : zG} {d : Nat} {h : zMem} {Q : Int32 → zMem → Prop} {a0 : Nat} {x1 : Int32} {x2 : Int32} (B : (x1 < x2 → Q (1 : Int32) h) ∧ (¬ x1 < x2 → zO h a0 8 ∧ ∃ r3, zR h a0 6 = some r3 ∧ ∃ r4, zR h a0 11 = some r4 ∧ zO h r3 5 ∧ ∃ Q5 : zMem → Prop, zConV G mX5_goThroughMorning d [.ref r3, .ref r4] h Q5 ∧ (∀ h6, Q5 h6 → zO h6 a0 8 ∧ ∃ r9, zR h6 a0 2 = some r9 ∧ ∃ r10, zR h6 a0 6 = some r10 ∧ zO h6 r10 5 ∧ ∃ r12, zR h6 r10 7 = some r12 ∧ zO h6 r9 1 ∧ ∃ Q13 : Int32 → zMem → Prop, zConI G mX1_allow d [.ref r9, .int x2, .ref r12] h6 Q13 ∧ (∀ v16 h14, Q13 v16 h14 → (¬ v16 = 0 → zg G mX9_agreesWithNotes (d + 1) 10 [.ref a0, .int x1, .int (x2 + 1)] [] h14 (zPI Q)) ∧ (v16 = 0 → Q (0 : Int32) h14))))) : zg G mX9_agreesWithNotes (d + 1) 10 [.ref a0, .int x1, .int x2] [] h (zPI Q) := by
  refine z_iload_n 6 rfl rfl ?_
  refine z_iload_n 7 rfl rfl ?_
  refine z_icmp_gt 8 52 rfl (by decide) ⟨fun c1 => ?_, fun c1 => ?_⟩
  · have B := B.1 c1
    refine z_iconst (v := 1) 26 rfl (by decide) ?_
    exact z_iret 27 rfl rfl rfl ⟨rfl, rfl⟩ ⟨_, rfl, B⟩
  · have B := B.2 c1
    refine z_aload_n 9 rfl rfl ?_
    obtain ⟨o2, B⟩ := B
    obtain ⟨r3, hr3, B⟩ := B
    refine z_getR 10 rfl lX9_44 rfl o2 hr3 ?_
    refine z_aload_n 11 rfl rfl ?_
    obtain ⟨r4, hr4, B⟩ := B
    refine z_getR 12 rfl lX9_67 rfl o2 hr4 ?_
    obtain ⟨o19, B⟩ := B
    obtain ⟨Q5, K7, B⟩ := B
    refine z_cVV1 (ν := mX5_goThroughMorning) 13 rfl rfl fX5_goThroughMorning gX9_198 ⟨_, rfl, rfl⟩ (by decide) o19 (Nat.le_of_ble_eq_true rfl) K7 (fun h6 q => ?_)
    have B := B h6 q
    refine z_aload_n 14 rfl rfl ?_
    obtain ⟨o8, B⟩ := B
    obtain ⟨r9, hr9, B⟩ := B
    refine z_getR 15 rfl lX9_23 rfl o8 hr9 ?_
    refine z_iload_n 16 rfl rfl ?_
    refine z_aload_n 17 rfl rfl ?_
    obtain ⟨r10, hr10, B⟩ := B
    refine z_getR 18 rfl lX9_44 rfl o8 hr10 ?_
    obtain ⟨o11, B⟩ := B
    obtain ⟨r12, hr12, B⟩ := B
    refine z_getR 19 rfl lX9_140 rfl o11 hr12 ?_
    obtain ⟨o18, B⟩ := B
    obtain ⟨Q13, K15, B⟩ := B
    refine z_cVI2 (ν := mX1_allow) 20 rfl rfl fX1_allow gX9_289 ⟨_, rfl, rfl⟩ (by decide) o18 (Nat.le_of_ble_eq_true rfl) K15 (fun v16 h14 q => ?_)
    have B := B v16 h14 q
    refine z_if_ne 21 46 rfl (by decide) ⟨fun c17 => ?_, fun c17 => ?_⟩
    · have B := B.1 c17
      refine z_iinc (v := 1) 24 rfl rfl (by decide) (by decide) rfl ?_
      refine z_goto 25 10 rfl (by decide) ?_
      exact B
    · have B := B.2 c17
      refine z_iconst (v := 0) 22 rfl (by decide) ?_
      exact z_iret 23 rfl rfl rfl ⟨rfl, rfl⟩ ⟨_, rfl, B⟩
set_option maxRecDepth 100000 in
set_option maxHeartbeats 4000000 in
theorem sg_X9_chance_0 {G : zG} {d : Nat} {h : zMem} {Q : Int32 → zMem → Prop} {a0 : Nat} {x1 : Int32} {x2 : Int32} {x3 : Int32} (B : (x1 < 0 → Q (-1 : Int32) h) ∧ (¬ x1 < 0 → (x2 < (1 : Int32) → Q (-1 : Int32) h) ∧ (¬ x2 < (1 : Int32) → ((40 : Int32) < x2 → Q (-1 : Int32) h) ∧ (¬ (40 : Int32) < x2 → (x3 < 0 → Q (-1 : Int32) h) ∧ (¬ x3 < 0 → ((40 : Int32) < x3 → Q (-1 : Int32) h) ∧ (¬ (40 : Int32) < x3 → zO h a0 8 ∧ ∃ r7, zR h a0 11 = some r7 ∧ zO h r7 6 ∧ ∃ r9, zR h r7 0 = some r9 ∧ zO h r9 100 ∧ vp_in (0 : Int32) (zLen h r9) ∧ (¬ (zI h r9 (0 : Int32).toNatClampNeg) = 0 → ∃ r13, zR h a0 7 = some r13 ∧ zO h r13 2 ∧ ∃ Q14 : zMem → Prop, zConV G mX2_begin d [.ref r13, .int x1] h Q14 ∧ (∀ h15, Q14 h15 → zg G mX9_chance (d + 1) 53 [.ref a0, .int x1, .int x2, .int x3, .int (0 : Int32), .int (0 : Int32), zU] [] h15 (zPI Q))) ∧ ((zI h r9 (0 : Int32).toNatClampNeg) = 0 → Q (-1 : Int32) h))))))) : zg G mX9_chance (d + 1) 0 [.ref a0, .int x1, .int x2, .int x3, zU, zU, zU] [] h (zPI Q) := by
  refine z_iload_n 0 rfl rfl ?_
  refine z_if_lt 1 37 rfl (by decide) ⟨fun c1 => ?_, fun c1 => ?_⟩
  · have B := B.1 c1
    refine z_iconst (v := -1) 19 rfl (by decide) ?_
    exact z_iret 20 rfl rfl rfl ⟨rfl, rfl⟩ ⟨_, rfl, B⟩
  · have B := B.2 c1
    refine z_iload_n 2 rfl rfl ?_
    refine z_iconst (v := 1) 3 rfl (by decide) ?_
    refine z_icmp_lt 4 37 rfl (by decide) ⟨fun c2 => ?_, fun c2 => ?_⟩
    · have B := B.1 c2
      refine z_iconst (v := -1) 19 rfl (by decide) ?_
      exact z_iret 20 rfl rfl rfl ⟨rfl, rfl⟩ ⟨_, rfl, B⟩
    · have B := B.2 c2
      refine z_iload_n 5 rfl rfl ?_
      refine z_bipush (v := 40) 6 rfl (by decide) ?_
      refine z_icmp_gt 7 37 rfl (by decide) ⟨fun c3 => ?_, fun c3 => ?_⟩
      · have B := B.1 c3
        refine z_iconst (v := -1) 19 rfl (by decide) ?_
        exact z_iret 20 rfl rfl rfl ⟨rfl, rfl⟩ ⟨_, rfl, B⟩
      · have B := B.2 c3
        refine z_iload_n 8 rfl rfl ?_
        refine z_if_lt 9 37 rfl (by decide) ⟨fun c4 => ?_, fun c4 => ?_⟩
        · have B := B.1 c4
          refine z_iconst (v := -1) 19 rfl (by decide) ?_
          exact z_iret 20 rfl rfl rfl ⟨rfl, rfl⟩ ⟨_, rfl, B⟩
        · have B := B.2 c4
          refine z_iload_n 10 rfl rfl ?_
          refine z_bipush (v := 40) 11 rfl (by decide) ?_
          refine z_icmp_gt 12 37 rfl (by decide) ⟨fun c5 => ?_, fun c5 => ?_⟩
          · have B := B.1 c5
            refine z_iconst (v := -1) 19 rfl (by decide) ?_
            exact z_iret 20 rfl rfl rfl ⟨rfl, rfl⟩ ⟨_, rfl, B⟩
          · have B := B.2 c5
            refine z_aload_n 13 rfl rfl ?_
            obtain ⟨o6, B⟩ := B
            obtain ⟨r7, hr7, B⟩ := B
            refine z_getR 14 rfl lX9_67 rfl o6 hr7 ?_
            obtain ⟨o8, B⟩ := B
            obtain ⟨r9, hr9, B⟩ := B
            refine z_getR 15 rfl lX9_208 rfl o8 hr9 ?_
            refine z_iconst (v := 0) 16 rfl (by decide) ?_
            obtain ⟨o10, B⟩ := B
            obtain ⟨o11, B⟩ := B
            refine z_iald 17 rfl o10 o11 ?_
            refine z_if_ne 18 39 rfl (by decide) ⟨fun c12 => ?_, fun c12 => ?_⟩
            · have B := B.1 c12
              refine z_aload_n 21 rfl rfl ?_
              obtain ⟨r13, hr13, B⟩ := B
              refine z_getR 22 rfl lX9_50 rfl o6 hr13 ?_
              refine z_iload_n 23 rfl rfl ?_
              obtain ⟨o17, B⟩ := B
              obtain ⟨Q14, K16, B⟩ := B
              refine z_cVV1 (ν := mX2_begin) 24 rfl rfl fX2_begin gX9_293 ⟨_, rfl, rfl⟩ (by decide) o17 (Nat.le_of_ble_eq_true rfl) K16 (fun h15 q => ?_)
              have B := B h15 q
              refine z_iconst (v := 0) 25 rfl (by decide) ?_
              refine z_istore 26 rfl (by decide) rfl ?_
              refine z_iconst (v := 0) 27 rfl (by decide) ?_
              refine z_istore 28 rfl (by decide) rfl ?_
              exact B
            · have B := B.2 c12
              refine z_iconst (v := -1) 19 rfl (by decide) ?_
              exact z_iret 20 rfl rfl rfl ⟨rfl, rfl⟩ ⟨_, rfl, B⟩
theorem cn_X9_chance {G : zG} {d : Nat} {h : zMem} {Q : Int32 → zMem → Prop} {a0 : Nat} {x1 : Int32} {x2 : Int32} {x3 : Int32} (B : zg G mX9_chance (d + 1) 0 [.ref a0, .int x1, .int x2, .int x3, zU, zU, zU] [] h (zPI Q)) : zConI G mX9_chance (d + 1) [.ref a0, .int x1, .int x2, .int x3] h Q := zcon0 (by decide +kernel) eX9_chance (Nat.le_of_ble_eq_true rfl) rfl B
set_option maxRecDepth 100000 in
set_option maxHeartbeats 4000000 in
theorem sg_X9_chance_53 {G : zG} {d : Nat} {h : zMem} {Q : Int32 → zMem → Prop} {a0 : Nat} {x1 : Int32} {x2 : Int32} {x3 : Int32} {x4 : Int32} {x5 : Int32} (B : ((10 : Int32) ≤ x5 → Q x4 h) ∧ (¬ (10 : Int32) ≤ x5 → zO h a0 8 ∧ ∃ r3, zR h a0 6 = some r3 ∧ ∃ r4, zR h a0 4 = some r4 ∧ zO h r3 5 ∧ ∃ Q5 : zMem → Prop, zConV G mX5_copy d [.ref r3, .ref r4] h Q5 ∧ (∀ h6, Q5 h6 → zg G mX9_chance (d + 1) 74 [.ref a0, .int x1, .int x2, .int x3, .int x4, .int x5, .int (0 : Int32)] [] h6 (zPI Q)))) : zg G mX9_chance (d + 1) 53 [.ref a0, .int x1, .int x2, .int x3, .int x4, .int x5, zU] [] h (zPI Q) := by
  refine z_iload 29 rfl rfl ?_
  refine z_bipush (v := 10) 30 rfl (by decide) ?_
  refine z_icmp_ge 31 129 rfl (by decide) ⟨fun c1 => ?_, fun c1 => ?_⟩
  · have B := B.1 c1
    refine z_iload 63 rfl rfl ?_
    exact z_iret 64 rfl rfl rfl ⟨rfl, rfl⟩ ⟨_, rfl, B⟩
  · have B := B.2 c1
    refine z_aload_n 32 rfl rfl ?_
    obtain ⟨o2, B⟩ := B
    obtain ⟨r3, hr3, B⟩ := B
    refine z_getR 33 rfl lX9_44 rfl o2 hr3 ?_
    refine z_aload_n 34 rfl rfl ?_
    obtain ⟨r4, hr4, B⟩ := B
    refine z_getR 35 rfl lX9_37 rfl o2 hr4 ?_
    obtain ⟨o8, B⟩ := B
    obtain ⟨Q5, K7, B⟩ := B
    refine z_cVV1 (ν := mX5_copy) 36 rfl rfl fX5_copy gX9_226 ⟨_, rfl, rfl⟩ (by decide) o8 (Nat.le_of_ble_eq_true rfl) K7 (fun h6 q => ?_)
    have B := B h6 q
    refine z_iconst (v := 0) 37 rfl (by decide) ?_
    refine z_istore 38 rfl (by decide) rfl ?_
    exact B
set_option maxRecDepth 100000 in
set_option maxHeartbeats 4000000 in
theorem sg_X9_chance_74 {G : zG} {d : Nat} {h : zMem} {Q : Int32 → zMem → Prop} {a0 : Nat} {x1 : Int32} {x2 : Int32} {x3 : Int32} {x4 : Int32} {x5 : Int32} {x6 : Int32} (B : (x2 ≤ x6 → zO h a0 8 ∧ ∃ r3, zR h a0 6 = some r3 ∧ zO h r3 5 ∧ ∃ r5, zR h a0 4 = some r5 ∧ zO h r5 5 ∧ (((zI h r3 12) - (zI h r5 12)) < x3 → zg G mX9_chance (d + 1) 53 [.ref a0, .int x1, .int x2, .int x3, .int x4, .int (x5 + 1), zU] [] h (zPI Q)) ∧ (¬ ((zI h r3 12) - (zI h r5 12)) < x3 → zg G mX9_chance (d + 1) 53 [.ref a0, .int x1, .int x2, .int x3, .int (x4 + 1), .int (x5 + 1), zU] [] h (zPI Q))) ∧ (¬ x2 ≤ x6 → zO h a0 8 ∧ ∃ Q8 : zMem → Prop, zConV G mX9_blowByChance d [.ref a0] h Q8 ∧ (∀ h9, Q8 h9 → zO h9 a0 8 ∧ ∃ r12, zR h9 a0 6 = some r12 ∧ ∃ r13, zR h9 a0 11 = some r13 ∧ zO h9 r12 5 ∧ ∃ Q14 : zMem → Prop, zConV G mX5_goThroughMorning d [.ref r12, .ref r13] h9 Q14 ∧ (∀ h15, Q14 h15 → zg G mX9_chance (d + 1) 74 [.ref a0, .int x1, .int x2, .int x3, .int x4, .int x5, .int (x6 + 1)] [] h15 (zPI Q))))) : zg G mX9_chance (d + 1) 74 [.ref a0, .int x1, .int x2, .int x3, .int x4, .int x5, .int x6] [] h (zPI Q) := by
  refine z_iload 39 rfl rfl ?_
  refine z_iload_n 40 rfl rfl ?_
  refine z_icmp_ge 41 101 rfl (by decide) ⟨fun c1 => ?_, fun c1 => ?_⟩
  · have B := B.1 c1
    refine z_aload_n 51 rfl rfl ?_
    obtain ⟨o2, B⟩ := B
    obtain ⟨r3, hr3, B⟩ := B
    refine z_getR 52 rfl lX9_44 rfl o2 hr3 ?_
    obtain ⟨o4, B⟩ := B
    refine z_getI 53 rfl lX9_298 rfl o4 ?_
    refine z_aload_n 54 rfl rfl ?_
    obtain ⟨r5, hr5, B⟩ := B
    refine z_getR 55 rfl lX9_37 rfl o2 hr5 ?_
    obtain ⟨o6, B⟩ := B
    refine z_getI 56 rfl lX9_298 rfl o6 ?_
    refine z_isub 57 rfl ?_
    refine z_iload_n 58 rfl rfl ?_
    refine z_icmp_lt 59 123 rfl (by decide) ⟨fun c7 => ?_, fun c7 => ?_⟩
    · have B := B.1 c7
      refine z_iinc (v := 1) 61 rfl rfl (by decide) (by decide) rfl ?_
      refine z_goto 62 53 rfl (by decide) ?_
      refine z_drop 6 ?_
      exact B
    · have B := B.2 c7
      refine z_iinc (v := 1) 60 rfl rfl (by decide) (by decide) rfl ?_
      refine z_iinc (v := 1) 61 rfl rfl (by decide) (by decide) rfl ?_
      refine z_goto 62 53 rfl (by decide) ?_
      refine z_drop 6 ?_
      exact B
  · have B := B.2 c1
    refine z_aload_n 42 rfl rfl ?_
    obtain ⟨o18, B⟩ := B
    obtain ⟨Q8, K10, B⟩ := B
    refine z_cVV0 (ν := mX9_blowByChance) 43 rfl rfl fX9_blowByChance gX9_295 ⟨_, rfl, rfl⟩ (by decide) o18 (Nat.le_of_ble_eq_true rfl) K10 (fun h9 q => ?_)
    have B := B h9 q
    refine z_aload_n 44 rfl rfl ?_
    obtain ⟨o11, B⟩ := B
    obtain ⟨r12, hr12, B⟩ := B
    refine z_getR 45 rfl lX9_44 rfl o11 hr12 ?_
    refine z_aload_n 46 rfl rfl ?_
    obtain ⟨r13, hr13, B⟩ := B
    refine z_getR 47 rfl lX9_67 rfl o11 hr13 ?_
    obtain ⟨o17, B⟩ := B
    obtain ⟨Q14, K16, B⟩ := B
    refine z_cVV1 (ν := mX5_goThroughMorning) 48 rfl rfl fX5_goThroughMorning gX9_198 ⟨_, rfl, rfl⟩ (by decide) o17 (Nat.le_of_ble_eq_true rfl) K16 (fun h15 q => ?_)
    have B := B h15 q
    refine z_iinc (v := 1) 49 rfl rfl (by decide) (by decide) rfl ?_
    refine z_goto 50 74 rfl (by decide) ?_
    exact B
set_option maxRecDepth 100000 in
set_option maxHeartbeats 4000000 in
theorem sg_X9_blowByChance_0 {G : zG} {d : Nat} {h : zMem} {Q : zMem → Prop} {a0 : Nat} (B : zO h a0 8 ∧ ∃ r2, zR h a0 11 = some r2 ∧ zO h r2 6 ∧ ∃ r4, zR h r2 0 = some r4 ∧ zO h r4 100 ∧ vp_in (0 : Int32) (zLen h r4) ∧ ∃ r7, zR h a0 7 = some r7 ∧ zO h r7 2 ∧ ∃ Q8 : Int32 → zMem → Prop, zConI G mX2_draw d [.ref r7] h Q8 ∧ (∀ v11 h9, Q8 v11 h9 → (¬ (v11 - v11 / (4 : Int32) * (4 : Int32)) = 0 → Q h9) ∧ ((v11 - v11 / (4 : Int32) * (4 : Int32)) = 0 → ((zI h r4 (0 : Int32).toNatClampNeg) ≤ 0 → Q h9) ∧ (¬ (zI h r4 (0 : Int32).toNatClampNeg) ≤ 0 → zO h9 a0 8 ∧ ∃ r15, zR h9 a0 6 = some r15 ∧ zO h9 r15 5 ∧ ∃ r17, zR h9 r15 1 = some r17 ∧ ∃ r18, zR h9 a0 7 = some r18 ∧ zO h9 r18 2 ∧ ∃ Q19 : Int32 → zMem → Prop, zConI G mX2_draw d [.ref r18] h9 Q19 ∧ (∀ v22 h20, Q19 v22 h20 → ¬ (zI h r4 (0 : Int32).toNatClampNeg) = 0 ∧ zO h20 r17 100 ∧ vp_in (v22 - v22 / (zI h r4 (0 : Int32).toNatClampNeg) * (zI h r4 (0 : Int32).toNatClampNeg)) (zLen h20 r17) ∧ Q (zsI h20 r17 (v22 - v22 / (zI h r4 (0 : Int32).toNatClampNeg) * (zI h r4 (0 : Int32).toNatClampNeg)).toNatClampNeg (9 : Int32))))))) : zg G mX9_blowByChance (d + 1) 0 [.ref a0, zU] [] h (zPV Q) := by
  refine z_aload_n 0 rfl rfl ?_
  obtain ⟨o1, B⟩ := B
  obtain ⟨r2, hr2, B⟩ := B
  refine z_getR 1 rfl lX9_67 rfl o1 hr2 ?_
  obtain ⟨o3, B⟩ := B
  obtain ⟨r4, hr4, B⟩ := B
  refine z_getR 2 rfl lX9_208 rfl o3 hr4 ?_
  refine z_iconst (v := 0) 3 rfl (by decide) ?_
  obtain ⟨o5, B⟩ := B
  obtain ⟨o6, B⟩ := B
  refine z_iald 4 rfl o5 o6 ?_
  refine z_istore_n 5 rfl (by decide) rfl ?_
  refine z_aload_n 6 rfl rfl ?_
  obtain ⟨r7, hr7, B⟩ := B
  refine z_getR 7 rfl lX9_50 rfl o1 hr7 ?_
  obtain ⟨o27, B⟩ := B
  obtain ⟨Q8, K10, B⟩ := B
  refine z_cVI0 (ν := mX2_draw) 8 rfl rfl fX2_draw gX9_301 ⟨_, rfl, rfl⟩ (by decide) o27 (Nat.le_of_ble_eq_true rfl) K10 (fun v11 h9 q => ?_)
  have B := B v11 h9 q
  refine z_iconst (v := 4) 9 rfl (by decide) ?_
  refine z_irem 10 rfl (by decide) ?_
  refine z_if_ne 11 45 rfl (by decide) ⟨fun c12 => ?_, fun c12 => ?_⟩
  · have B := B.1 c12
    exact z_vret 24 rfl rfl ⟨rfl, rfl⟩ ⟨rfl, B⟩
  · have B := B.2 c12
    refine z_iload_n 12 rfl rfl ?_
    refine z_if_le 13 45 rfl (by decide) ⟨fun c13 => ?_, fun c13 => ?_⟩
    · have B := B.1 c13
      exact z_vret 24 rfl rfl ⟨rfl, rfl⟩ ⟨rfl, B⟩
    · have B := B.2 c13
      refine z_aload_n 14 rfl rfl ?_
      obtain ⟨o14, B⟩ := B
      obtain ⟨r15, hr15, B⟩ := B
      refine z_getR 15 rfl lX9_44 rfl o14 hr15 ?_
      obtain ⟨o16, B⟩ := B
      obtain ⟨r17, hr17, B⟩ := B
      refine z_getR 16 rfl lX9_155 rfl o16 hr17 ?_
      refine z_aload_n 17 rfl rfl ?_
      obtain ⟨r18, hr18, B⟩ := B
      refine z_getR 18 rfl lX9_50 rfl o14 hr18 ?_
      obtain ⟨o26, B⟩ := B
      obtain ⟨Q19, K21, B⟩ := B
      refine z_cVI0 (ν := mX2_draw) 19 rfl rfl fX2_draw gX9_301 ⟨_, rfl, rfl⟩ (by decide) o26 (Nat.le_of_ble_eq_true rfl) K21 (fun v22 h20 q => ?_)
      have B := B v22 h20 q
      refine z_iload_n 20 rfl rfl ?_
      obtain ⟨o23, B⟩ := B
      refine z_irem 21 rfl o23 ?_
      refine z_bipush (v := 9) 22 rfl (by decide) ?_
      obtain ⟨o24, B⟩ := B
      obtain ⟨o25, B⟩ := B
      refine z_iast 23 rfl o24 o25 ?_
      exact z_vret 24 rfl rfl ⟨rfl, rfl⟩ ⟨rfl, B⟩
theorem cn_X9_blowByChance {G : zG} {d : Nat} {h : zMem} {Q : zMem → Prop} {a0 : Nat} (B : zg G mX9_blowByChance (d + 1) 0 [.ref a0, zU] [] h (zPV Q)) : zConV G mX9_blowByChance (d + 1) [.ref a0] h Q := zcon0 (by decide +kernel) eX9_blowByChance (Nat.le_of_ble_eq_true rfl) rfl B
set_option maxRecDepth 100000 in
set_option maxHeartbeats 4000000 in
theorem sg_X9_tried_0 {G : zG} {d : Nat} {h : zMem} {Q : Int32 → zMem → Prop} {a0 : Nat} {x1 : Int32} {x2 : Int32} {x3 : Int32} (B : (¬ x1 = (3 : Int32) → (¬ x2 = 0 → zg G mX9_tried (d + 1) 23 [.ref a0, .int x1, .int x2, .int x3, zU, zU] [.int (0 : Int32)] h (zPI Q)) ∧ (x2 = 0 → zg G mX9_tried (d + 1) 23 [.ref a0, .int x1, .int x2, .int x3, zU, zU] [.int (1 : Int32)] h (zPI Q))) ∧ (x1 = (3 : Int32) → zO h a0 8 ∧ ∃ Q3 : Int32 → zMem → Prop, zConI G mX9_has d [.ref a0, .int (3 : Int32), .int x2] h Q3 ∧ (∀ v6 h4, Q3 v6 h4 → zg G mX9_tried (d + 1) 23 [.ref a0, .int x1, .int x2, .int x3, zU, zU] [.int v6] h4 (zPI Q)))) : zg G mX9_tried (d + 1) 0 [.ref a0, .int x1, .int x2, .int x3, zU, zU] [] h (zPI Q) := by
  refine z_iload_n 0 rfl rfl ?_
  refine z_iconst (v := 3) 1 rfl (by decide) ?_
  refine z_icmp_ne 2 14 rfl (by decide) ⟨fun c1 => ?_, fun c1 => ?_⟩
  · have B := B.1 c1
    refine z_iload_n 8 rfl rfl ?_
    refine z_if_ne 9 22 rfl (by decide) ⟨fun c2 => ?_, fun c2 => ?_⟩
    · have B := B.1 c2
      refine z_iconst (v := 0) 12 rfl (by decide) ?_
      exact B
    · have B := B.2 c2
      refine z_iconst (v := 1) 10 rfl (by decide) ?_
      refine z_goto 11 23 rfl (by decide) ?_
      exact B
  · have B := B.2 c1
    refine z_aload_n 3 rfl rfl ?_
    refine z_iconst (v := 3) 4 rfl (by decide) ?_
    refine z_iload_n 5 rfl rfl ?_
    obtain ⟨o7, B⟩ := B
    obtain ⟨Q3, K5, B⟩ := B
    refine z_cVI2 (ν := mX9_has) 6 rfl rfl fX9_has gX9_117 ⟨_, rfl, rfl⟩ (by decide) o7 (Nat.le_of_ble_eq_true rfl) K5 (fun v6 h4 q => ?_)
    have B := B v6 h4 q
    refine z_goto 7 23 rfl (by decide) ?_
    exact B
theorem cn_X9_tried {G : zG} {d : Nat} {h : zMem} {Q : Int32 → zMem → Prop} {a0 : Nat} {x1 : Int32} {x2 : Int32} {x3 : Int32} (B : zg G mX9_tried (d + 1) 0 [.ref a0, .int x1, .int x2, .int x3, zU, zU] [] h (zPI Q)) : zConI G mX9_tried (d + 1) [.ref a0, .int x1, .int x2, .int x3] h Q := zcon0 (by decide +kernel) eX9_tried (Nat.le_of_ble_eq_true rfl) rfl B
set_option maxRecDepth 100000 in
set_option maxHeartbeats 4000000 in
theorem sg_X9_tried_23 {G : zG} {d : Nat} {h : zMem} {Q : Int32 → zMem → Prop} {a0 : Nat} {x1 : Int32} {x2 : Int32} {x3 : Int32} {xs0 : Int32} (B : (x1 < 0 → Q (-1 : Int32) h) ∧ (¬ x1 < 0 → ((5 : Int32) < x1 → Q (-1 : Int32) h) ∧ (¬ (5 : Int32) < x1 → (xs0 = 0 → Q (-1 : Int32) h) ∧ (¬ xs0 = 0 → (x3 < 0 → Q (-1 : Int32) h) ∧ (¬ x3 < 0 → (x3 ≤ (99 : Int32) → zO h a0 8 ∧ ∃ r7, zR h a0 6 = some r7 ∧ ∃ r8, zR h a0 4 = some r8 ∧ zO h r7 5 ∧ ∃ Q9 : zMem → Prop, zConV G mX5_copy d [.ref r7, .ref r8] h Q9 ∧ (∀ h10, Q9 h10 → zO h10 a0 8 ∧ ∃ Q12 : zMem → Prop, zConV G mX9_changeTrial d [.ref a0, .int x1, .int x2] h10 Q12 ∧ (∀ h13, Q12 h13 → zg G mX9_tried (d + 1) 71 [.ref a0, .int x1, .int x2, .int x3, .int xs0, .int (0 : Int32)] [] h13 (zPI Q)))) ∧ (¬ x3 ≤ (99 : Int32) → Q (-1 : Int32) h)))))) : zg G mX9_tried (d + 1) 23 [.ref a0, .int x1, .int x2, .int x3, zU, zU] [.int xs0] h (zPI Q) := by
  refine z_istore 13 rfl (by decide) rfl ?_
  refine z_iload_n 14 rfl rfl ?_
  refine z_if_lt 15 49 rfl (by decide) ⟨fun c1 => ?_, fun c1 => ?_⟩
  · have B := B.1 c1
    refine z_iconst (v := -1) 26 rfl (by decide) ?_
    exact z_iret 27 rfl rfl rfl ⟨rfl, rfl⟩ ⟨_, rfl, B⟩
  · have B := B.2 c1
    refine z_iload_n 16 rfl rfl ?_
    refine z_iconst (v := 5) 17 rfl (by decide) ?_
    refine z_icmp_gt 18 49 rfl (by decide) ⟨fun c2 => ?_, fun c2 => ?_⟩
    · have B := B.1 c2
      refine z_iconst (v := -1) 26 rfl (by decide) ?_
      exact z_iret 27 rfl rfl rfl ⟨rfl, rfl⟩ ⟨_, rfl, B⟩
    · have B := B.2 c2
      refine z_iload 19 rfl rfl ?_
      refine z_if_eq 20 49 rfl (by decide) ⟨fun c3 => ?_, fun c3 => ?_⟩
      · have B := B.1 c3
        refine z_iconst (v := -1) 26 rfl (by decide) ?_
        exact z_iret 27 rfl rfl rfl ⟨rfl, rfl⟩ ⟨_, rfl, B⟩
      · have B := B.2 c3
        refine z_iload_n 21 rfl rfl ?_
        refine z_if_lt 22 49 rfl (by decide) ⟨fun c4 => ?_, fun c4 => ?_⟩
        · have B := B.1 c4
          refine z_iconst (v := -1) 26 rfl (by decide) ?_
          exact z_iret 27 rfl rfl rfl ⟨rfl, rfl⟩ ⟨_, rfl, B⟩
        · have B := B.2 c4
          refine z_iload_n 23 rfl rfl ?_
          refine z_bipush (v := 99) 24 rfl (by decide) ?_
          refine z_icmp_le 25 51 rfl (by decide) ⟨fun c5 => ?_, fun c5 => ?_⟩
          · have B := B.1 c5
            refine z_aload_n 28 rfl rfl ?_
            obtain ⟨o6, B⟩ := B
            obtain ⟨r7, hr7, B⟩ := B
            refine z_getR 29 rfl lX9_44 rfl o6 hr7 ?_
            refine z_aload_n 30 rfl rfl ?_
            obtain ⟨r8, hr8, B⟩ := B
            refine z_getR 31 rfl lX9_37 rfl o6 hr8 ?_
            obtain ⟨o16, B⟩ := B
            obtain ⟨Q9, K11, B⟩ := B
            refine z_cVV1 (ν := mX5_copy) 32 rfl rfl fX5_copy gX9_226 ⟨_, rfl, rfl⟩ (by decide) o16 (Nat.le_of_ble_eq_true rfl) K11 (fun h10 q => ?_)
            have B := B h10 q
            refine z_aload_n 33 rfl rfl ?_
            refine z_iload_n 34 rfl rfl ?_
            refine z_iload_n 35 rfl rfl ?_
            obtain ⟨o15, B⟩ := B
            obtain ⟨Q12, K14, B⟩ := B
            refine z_cVV2 (ν := mX9_changeTrial) 36 rfl rfl fX9_changeTrial gX9_304 ⟨_, rfl, rfl⟩ (by decide) o15 (Nat.le_of_ble_eq_true rfl) K14 (fun h13 q => ?_)
            have B := B h13 q
            refine z_iconst (v := 0) 37 rfl (by decide) ?_
            refine z_istore 38 rfl (by decide) rfl ?_
            exact B
          · have B := B.2 c5
            refine z_iconst (v := -1) 26 rfl (by decide) ?_
            exact z_iret 27 rfl rfl rfl ⟨rfl, rfl⟩ ⟨_, rfl, B⟩
set_option maxRecDepth 100000 in
set_option maxHeartbeats 4000000 in
theorem sg_X9_tried_71 {G : zG} {d : Nat} {h : zMem} {Q : Int32 → zMem → Prop} {a0 : Nat} {x1 : Int32} {x2 : Int32} {x3 : Int32} {x4 : Int32} {x5 : Int32} (B : (x3 ≤ x5 → zO h a0 8 ∧ ∃ r3, zR h a0 6 = some r3 ∧ zO h r3 5 ∧ ∃ r5, zR h a0 4 = some r5 ∧ zO h r5 5 ∧ Q ((zI h r3 12) - (zI h r5 12)) h) ∧ (¬ x3 ≤ x5 → (¬ x1 = (1 : Int32) → zO h a0 8 ∧ ∃ r9, zR h a0 6 = some r9 ∧ ∃ r10, zR h a0 11 = some r10 ∧ zO h r9 5 ∧ ∃ Q11 : zMem → Prop, zConV G mX5_goThroughMorning d [.ref r9, .ref r10] h Q11 ∧ (∀ h12, Q11 h12 → zg G mX9_tried (d + 1) 71 [.ref a0, .int x1, .int x2, .int x3, .int x4, .int (x5 + 1)] [] h12 (zPI Q))) ∧ (x1 = (1 : Int32) → zO h a0 8 ∧ ∃ r16, zR h a0 6 = some r16 ∧ zO h r16 5 ∧ ∃ Q17 : zMem → Prop, zConV G mX5_clearAir d [.ref r16] h Q17 ∧ (∀ h18, Q17 h18 → zO h18 a0 8 ∧ ∃ r21, zR h18 a0 6 = some r21 ∧ ∃ r22, zR h18 a0 11 = some r22 ∧ zO h18 r21 5 ∧ ∃ Q23 : zMem → Prop, zConV G mX5_goThroughMorning d [.ref r21, .ref r22] h18 Q23 ∧ (∀ h24, Q23 h24 → zg G mX9_tried (d + 1) 71 [.ref a0, .int x1, .int x2, .int x3, .int x4, .int (x5 + 1)] [] h24 (zPI Q)))))) : zg G mX9_tried (d + 1) 71 [.ref a0, .int x1, .int x2, .int x3, .int x4, .int x5] [] h (zPI Q) := by
  refine z_iload 39 rfl rfl ?_
  refine z_iload_n 40 rfl rfl ?_
  refine z_icmp_ge 41 106 rfl (by decide) ⟨fun c1 => ?_, fun c1 => ?_⟩
  · have B := B.1 c1
    refine z_aload_n 55 rfl rfl ?_
    obtain ⟨o2, B⟩ := B
    obtain ⟨r3, hr3, B⟩ := B
    refine z_getR 56 rfl lX9_44 rfl o2 hr3 ?_
    obtain ⟨o4, B⟩ := B
    refine z_getI 57 rfl lX9_298 rfl o4 ?_
    refine z_aload_n 58 rfl rfl ?_
    obtain ⟨r5, hr5, B⟩ := B
    refine z_getR 59 rfl lX9_37 rfl o2 hr5 ?_
    obtain ⟨o6, B⟩ := B
    refine z_getI 60 rfl lX9_298 rfl o6 ?_
    refine z_isub 61 rfl ?_
    exact z_iret 62 rfl rfl rfl ⟨rfl, rfl⟩ ⟨_, rfl, B⟩
  · have B := B.2 c1
    refine z_iload_n 42 rfl rfl ?_
    refine z_iconst (v := 1) 43 rfl (by decide) ?_
    refine z_icmp_ne 44 89 rfl (by decide) ⟨fun c7 => ?_, fun c7 => ?_⟩
    · have B := B.1 c7
      refine z_aload_n 48 rfl rfl ?_
      obtain ⟨o8, B⟩ := B
      obtain ⟨r9, hr9, B⟩ := B
      refine z_getR 49 rfl lX9_44 rfl o8 hr9 ?_
      refine z_aload_n 50 rfl rfl ?_
      obtain ⟨r10, hr10, B⟩ := B
      refine z_getR 51 rfl lX9_67 rfl o8 hr10 ?_
      obtain ⟨o14, B⟩ := B
      obtain ⟨Q11, K13, B⟩ := B
      refine z_cVV1 (ν := mX5_goThroughMorning) 52 rfl rfl fX5_goThroughMorning gX9_198 ⟨_, rfl, rfl⟩ (by decide) o14 (Nat.le_of_ble_eq_true rfl) K13 (fun h12 q => ?_)
      have B := B h12 q
      refine z_iinc (v := 1) 53 rfl rfl (by decide) (by decide) rfl ?_
      refine z_goto 54 71 rfl (by decide) ?_
      exact B
    · have B := B.2 c7
      refine z_aload_n 45 rfl rfl ?_
      obtain ⟨o15, B⟩ := B
      obtain ⟨r16, hr16, B⟩ := B
      refine z_getR 46 rfl lX9_44 rfl o15 hr16 ?_
      obtain ⟨o27, B⟩ := B
      obtain ⟨Q17, K19, B⟩ := B
      refine z_cVV0 (ν := mX5_clearAir) 47 rfl rfl fX5_clearAir gX9_307 ⟨_, rfl, rfl⟩ (by decide) o27 (Nat.le_of_ble_eq_true rfl) K19 (fun h18 q => ?_)
      have B := B h18 q
      refine z_aload_n 48 rfl rfl ?_
      obtain ⟨o20, B⟩ := B
      obtain ⟨r21, hr21, B⟩ := B
      refine z_getR 49 rfl lX9_44 rfl o20 hr21 ?_
      refine z_aload_n 50 rfl rfl ?_
      obtain ⟨r22, hr22, B⟩ := B
      refine z_getR 51 rfl lX9_67 rfl o20 hr22 ?_
      obtain ⟨o26, B⟩ := B
      obtain ⟨Q23, K25, B⟩ := B
      refine z_cVV1 (ν := mX5_goThroughMorning) 52 rfl rfl fX5_goThroughMorning gX9_198 ⟨_, rfl, rfl⟩ (by decide) o26 (Nat.le_of_ble_eq_true rfl) K25 (fun h24 q => ?_)
      have B := B h24 q
      refine z_iinc (v := 1) 53 rfl rfl (by decide) (by decide) rfl ?_
      refine z_goto 54 71 rfl (by decide) ?_
      exact B
set_option maxRecDepth 100000 in
set_option maxHeartbeats 4000000 in
theorem sg_X9_changeTrial_0 {G : zG} {d : Nat} {h : zMem} {Q : zMem → Prop} {a0 : Nat} {x1 : Int32} {x2 : Int32} (B : zg G mX9_changeTrial d 2 [.ref a0, .int x1, .int x2, .int (0 : Int32)] [] h (zPV Q)) : zg G mX9_changeTrial d 0 [.ref a0, .int x1, .int x2, zU] [] h (zPV Q) := by
  refine z_iconst (v := 0) 0 rfl (by decide) ?_
  refine z_istore_n 1 rfl (by decide) rfl ?_
  exact B
theorem cn_X9_changeTrial {G : zG} {d : Nat} {h : zMem} {Q : zMem → Prop} {a0 : Nat} {x1 : Int32} {x2 : Int32} (B : zg G mX9_changeTrial d 0 [.ref a0, .int x1, .int x2, zU] [] h (zPV Q)) : zConV G mX9_changeTrial d [.ref a0, .int x1, .int x2] h Q := zcon0 (by decide +kernel) eX9_changeTrial (Nat.le_of_ble_eq_true rfl) rfl B
set_option maxRecDepth 100000 in
set_option maxHeartbeats 4000000 in
theorem sg_X9_changeTrial_2 {G : zG} {d : Nat} {h : zMem} {Q : zMem → Prop} {a0 : Nat} {x1 : Int32} {x2 : Int32} {x3 : Int32} (B : (¬ x1 = (2 : Int32) → (¬ x1 = (3 : Int32) → zg G mX9_changeTrial d 43 [.ref a0, .int x1, .int x2, .int (0 : Int32)] [] h (zPV Q)) ∧ (x1 = (3 : Int32) → zO h a0 8 ∧ ∃ r4, zR h a0 6 = some r4 ∧ zO h r4 5 ∧ zg G mX9_changeTrial d 43 [.ref a0, .int x1, .int x2, .int (0 : Int32)] [] (zsI h r4 14 x2) (zPV Q))) ∧ (x1 = (2 : Int32) → ((5 : Int32) ≤ x3 → (¬ x1 = (3 : Int32) → zg G mX9_changeTrial d 43 [.ref a0, .int x1, .int x2, .int (0 : Int32)] [] h (zPV Q)) ∧ (x1 = (3 : Int32) → zO h a0 8 ∧ ∃ r9, zR h a0 6 = some r9 ∧ zO h r9 5 ∧ zg G mX9_changeTrial d 43 [.ref a0, .int x1, .int x2, .int (0 : Int32)] [] (zsI h r9 14 x2) (zPV Q))) ∧ (¬ (5 : Int32) ≤ x3 → zO h a0 8 ∧ ∃ r12, zR h a0 6 = some r12 ∧ zO h r12 5 ∧ ∃ r14, zR h r12 5 = some r14 ∧ zO h r14 100 ∧ vp_in x3 (zLen h r14) ∧ zg G mX9_changeTrial d 2 [.ref a0, .int x1, .int x2, .int (x3 + 1)] [] (zsI h r14 x3.toNatClampNeg (0 : Int32)) (zPV Q)))) : zg G mX9_changeTrial d 2 [.ref a0, .int x1, .int x2, .int x3] [] h (zPV Q) := by
  refine z_iload_n 2 rfl rfl ?_
  refine z_iconst (v := 2) 3 rfl (by decide) ?_
  refine z_icmp_ne 4 28 rfl (by decide) ⟨fun c1 => ?_, fun c1 => ?_⟩
  · have B := B.1 c1
    refine z_iload_n 16 rfl rfl ?_
    refine z_iconst (v := 3) 17 rfl (by decide) ?_
    refine z_icmp_ne 18 41 rfl (by decide) ⟨fun c2 => ?_, fun c2 => ?_⟩
    · have B := B.1 c2
      refine z_iconst (v := 0) 23 rfl (by decide) ?_
      refine z_istore_n 24 rfl (by decide) rfl ?_
      exact B
    · have B := B.2 c2
      refine z_aload_n 19 rfl rfl ?_
      obtain ⟨o3, B⟩ := B
      obtain ⟨r4, hr4, B⟩ := B
      refine z_getR 20 rfl lX9_44 rfl o3 hr4 ?_
      refine z_iload_n 21 rfl rfl ?_
      obtain ⟨o5, B⟩ := B
      refine z_putI 22 rfl lX9_310 ⟨_, _, _, rfl, rfl⟩ rfl rfl rfl o5 ?_
      refine z_iconst (v := 0) 23 rfl (by decide) ?_
      refine z_istore_n 24 rfl (by decide) rfl ?_
      exact B
  · have B := B.2 c1
    refine z_iload_n 5 rfl rfl ?_
    refine z_iconst (v := 5) 6 rfl (by decide) ?_
    refine z_icmp_ge 7 28 rfl (by decide) ⟨fun c6 => ?_, fun c6 => ?_⟩
    · have B := B.1 c6
      refine z_iload_n 16 rfl rfl ?_
      refine z_iconst (v := 3) 17 rfl (by decide) ?_
      refine z_icmp_ne 18 41 rfl (by decide) ⟨fun c7 => ?_, fun c7 => ?_⟩
      · have B := B.1 c7
        refine z_iconst (v := 0) 23 rfl (by decide) ?_
        refine z_istore_n 24 rfl (by decide) rfl ?_
        exact B
      · have B := B.2 c7
        refine z_aload_n 19 rfl rfl ?_
        obtain ⟨o8, B⟩ := B
        obtain ⟨r9, hr9, B⟩ := B
        refine z_getR 20 rfl lX9_44 rfl o8 hr9 ?_
        refine z_iload_n 21 rfl rfl ?_
        obtain ⟨o10, B⟩ := B
        refine z_putI 22 rfl lX9_310 ⟨_, _, _, rfl, rfl⟩ rfl rfl rfl o10 ?_
        refine z_iconst (v := 0) 23 rfl (by decide) ?_
        refine z_istore_n 24 rfl (by decide) rfl ?_
        exact B
    · have B := B.2 c6
      refine z_aload_n 8 rfl rfl ?_
      obtain ⟨o11, B⟩ := B
      obtain ⟨r12, hr12, B⟩ := B
      refine z_getR 9 rfl lX9_44 rfl o11 hr12 ?_
      obtain ⟨o13, B⟩ := B
      obtain ⟨r14, hr14, B⟩ := B
      refine z_getR 10 rfl lX9_134 rfl o13 hr14 ?_
      refine z_iload_n 11 rfl rfl ?_
      refine z_iconst (v := 0) 12 rfl (by decide) ?_
      obtain ⟨o15, B⟩ := B
      obtain ⟨o16, B⟩ := B
      refine z_iast 13 rfl o15 o16 ?_
      refine z_iinc (v := 1) 14 rfl rfl (by decide) (by decide) rfl ?_
      refine z_goto 15 2 rfl (by decide) ?_
      exact B
set_option maxRecDepth 100000 in
set_option maxHeartbeats 4000000 in
theorem sg_X9_changeTrial_43 {G : zG} {d : Nat} {h : zMem} {Q : zMem → Prop} {a0 : Nat} {x1 : Int32} {x2 : Int32} {x3 : Int32} (B : (¬ x1 = (4 : Int32) → zg G mX9_changeTrial d 74 [.ref a0, .int x1, .int x2, .int (0 : Int32)] [] h (zPV Q)) ∧ (x1 = (4 : Int32) → ((6 : Int32) ≤ x3 → zg G mX9_changeTrial d 74 [.ref a0, .int x1, .int x2, .int (0 : Int32)] [] h (zPV Q)) ∧ (¬ (6 : Int32) ≤ x3 → zO h a0 8 ∧ ∃ r4, zR h a0 6 = some r4 ∧ zO h r4 5 ∧ ∃ r6, zR h r4 0 = some r6 ∧ zO h r6 100 ∧ vp_in x3 (zLen h r6) ∧ zg G mX9_changeTrial d 43 [.ref a0, .int x1, .int x2, .int (x3 + 1)] [] (zsI h r6 x3.toNatClampNeg (1000000 : Int32)) (zPV Q)))) : zg G mX9_changeTrial d 43 [.ref a0, .int x1, .int x2, .int x3] [] h (zPV Q) := by
  refine z_iload_n 25 rfl rfl ?_
  refine z_iconst (v := 4) 26 rfl (by decide) ?_
  refine z_icmp_ne 27 72 rfl (by decide) ⟨fun c1 => ?_, fun c1 => ?_⟩
  · have B := B.1 c1
    refine z_iconst (v := 0) 39 rfl (by decide) ?_
    refine z_istore_n 40 rfl (by decide) rfl ?_
    exact B
  · have B := B.2 c1
    refine z_iload_n 28 rfl rfl ?_
    refine z_bipush (v := 6) 29 rfl (by decide) ?_
    refine z_icmp_ge 30 72 rfl (by decide) ⟨fun c2 => ?_, fun c2 => ?_⟩
    · have B := B.1 c2
      refine z_iconst (v := 0) 39 rfl (by decide) ?_
      refine z_istore_n 40 rfl (by decide) rfl ?_
      exact B
    · have B := B.2 c2
      refine z_aload_n 31 rfl rfl ?_
      obtain ⟨o3, B⟩ := B
      obtain ⟨r4, hr4, B⟩ := B
      refine z_getR 32 rfl lX9_44 rfl o3 hr4 ?_
      obtain ⟨o5, B⟩ := B
      obtain ⟨r6, hr6, B⟩ := B
      refine z_getR 33 rfl lX9_148 rfl o5 hr6 ?_
      refine z_iload_n 34 rfl rfl ?_
      refine z_ldcw 35 rfl kX9_313 ?_
      obtain ⟨o7, B⟩ := B
      obtain ⟨o8, B⟩ := B
      refine z_iast 36 rfl o7 o8 ?_
      refine z_iinc (v := 1) 37 rfl rfl (by decide) (by decide) rfl ?_
      refine z_goto 38 43 rfl (by decide) ?_
      exact B
set_option maxRecDepth 100000 in
set_option maxHeartbeats 4000000 in
theorem sg_X9_changeTrial_74 {G : zG} {d : Nat} {h : zMem} {Q : zMem → Prop} {a0 : Nat} {x1 : Int32} {x2 : Int32} {x3 : Int32} (B : (¬ x1 = (5 : Int32) → Q h) ∧ (x1 = (5 : Int32) → ((6 : Int32) ≤ x3 → Q h) ∧ (¬ (6 : Int32) ≤ x3 → zO h a0 8 ∧ ∃ r4, zR h a0 6 = some r4 ∧ zO h r4 5 ∧ ∃ r6, zR h r4 2 = some r6 ∧ zO h r6 100 ∧ vp_in x3 (zLen h r6) ∧ zg G mX9_changeTrial d 74 [.ref a0, .int x1, .int x2, .int (x3 + 1)] [] (zsI h r6 x3.toNatClampNeg (100 : Int32)) (zPV Q)))) : zg G mX9_changeTrial d 74 [.ref a0, .int x1, .int x2, .int x3] [] h (zPV Q) := by
  refine z_iload_n 41 rfl rfl ?_
  refine z_iconst (v := 5) 42 rfl (by decide) ?_
  refine z_icmp_ne 43 102 rfl (by decide) ⟨fun c1 => ?_, fun c1 => ?_⟩
  · have B := B.1 c1
    exact z_vret 55 rfl rfl ⟨rfl, rfl⟩ ⟨rfl, B⟩
  · have B := B.2 c1
    refine z_iload_n 44 rfl rfl ?_
    refine z_bipush (v := 6) 45 rfl (by decide) ?_
    refine z_icmp_ge 46 102 rfl (by decide) ⟨fun c2 => ?_, fun c2 => ?_⟩
    · have B := B.1 c2
      exact z_vret 55 rfl rfl ⟨rfl, rfl⟩ ⟨rfl, B⟩
    · have B := B.2 c2
      refine z_aload_n 47 rfl rfl ?_
      obtain ⟨o3, B⟩ := B
      obtain ⟨r4, hr4, B⟩ := B
      refine z_getR 48 rfl lX9_44 rfl o3 hr4 ?_
      obtain ⟨o5, B⟩ := B
      obtain ⟨r6, hr6, B⟩ := B
      refine z_getR 49 rfl lX9_220 rfl o5 hr6 ?_
      refine z_iload_n 50 rfl rfl ?_
      refine z_bipush (v := 100) 51 rfl (by decide) ?_
      obtain ⟨o7, B⟩ := B
      obtain ⟨o8, B⟩ := B
      refine z_iast 52 rfl o7 o8 ?_
      refine z_iinc (v := 1) 53 rfl rfl (by decide) (by decide) rfl ?_
      refine z_goto 54 74 rfl (by decide) ?_
      exact B
set_option maxRecDepth 100000 in
set_option maxHeartbeats 4000000 in
theorem sg_X9_undo_0 {G : zG} {d : Nat} {h : zMem} {Q : Int32 → zMem → Prop} {a0 : Nat} (B : zO h a0 8 ∧ ∃ r2, zR h a0 3 = some r2 ∧ ∃ r3, zR h a0 4 = some r3 ∧ zO h r2 7 ∧ ∃ Q4 : Int32 → zMem → Prop, zConI G mX8_takeBack d [.ref r2, .ref r3] h Q4 ∧ (∀ v7 h5, Q4 v7 h5 → Q v7 h5)) : zg G mX9_undo (d + 1) 0 [.ref a0] [] h (zPI Q) := by
  refine z_aload_n 0 rfl rfl ?_
  obtain ⟨o1, B⟩ := B
  obtain ⟨r2, hr2, B⟩ := B
  refine z_getR 1 rfl lX9_30 rfl o1 hr2 ?_
  refine z_aload_n 2 rfl rfl ?_
  obtain ⟨r3, hr3, B⟩ := B
  refine z_getR 3 rfl lX9_37 rfl o1 hr3 ?_
  obtain ⟨o8, B⟩ := B
  obtain ⟨Q4, K6, B⟩ := B
  refine z_cVI1 (ν := mX8_takeBack) 4 rfl rfl fX8_takeBack gX9_314 ⟨_, rfl, rfl⟩ (by decide) o8 (Nat.le_of_ble_eq_true rfl) K6 (fun v7 h5 q => ?_)
  have B := B v7 h5 q
  exact z_iret 5 rfl rfl rfl ⟨rfl, rfl⟩ ⟨_, rfl, B⟩
theorem cn_X9_undo {G : zG} {d : Nat} {h : zMem} {Q : Int32 → zMem → Prop} {a0 : Nat} (B : zg G mX9_undo (d + 1) 0 [.ref a0] [] h (zPI Q)) : zConI G mX9_undo (d + 1) [.ref a0] h Q := zcon0 (by decide +kernel) eX9_undo (Nat.le_of_ble_eq_true rfl) rfl B
set_option maxRecDepth 100000 in
set_option maxHeartbeats 4000000 in
theorem sg_X9_keep_0 {G : zG} {d : Nat} {h : zMem} {Q : Int32 → zMem → Prop} {a0 : Nat} (B : zO h a0 8 ∧ ∃ r2, zR h a0 5 = some r2 ∧ ∃ r3, zR h a0 4 = some r3 ∧ zO h r2 5 ∧ ∃ Q4 : zMem → Prop, zConV G mX5_copy d [.ref r2, .ref r3] h Q4 ∧ (∀ h5, Q4 h5 → zO h5 a0 8 ∧ ∃ r8, zR h5 a0 4 = some r8 ∧ zO h5 r8 5 ∧ Q (zI (zsI h5 a0 13 (1 : Int32)) r8 10) (zsI h5 a0 13 (1 : Int32)))) : zg G mX9_keep (d + 1) 0 [.ref a0] [] h (zPI Q) := by
  refine z_aload_n 0 rfl rfl ?_
  obtain ⟨o1, B⟩ := B
  obtain ⟨r2, hr2, B⟩ := B
  refine z_getR 1 rfl lX9_41 rfl o1 hr2 ?_
  refine z_aload_n 2 rfl rfl ?_
  obtain ⟨r3, hr3, B⟩ := B
  refine z_getR 3 rfl lX9_37 rfl o1 hr3 ?_
  obtain ⟨o10, B⟩ := B
  obtain ⟨Q4, K6, B⟩ := B
  refine z_cVV1 (ν := mX5_copy) 4 rfl rfl fX5_copy gX9_226 ⟨_, rfl, rfl⟩ (by decide) o10 (Nat.le_of_ble_eq_true rfl) K6 (fun h5 q => ?_)
  have B := B h5 q
  refine z_aload_n 5 rfl rfl ?_
  refine z_iconst (v := 1) 6 rfl (by decide) ?_
  obtain ⟨o7, B⟩ := B
  refine z_putI 7 rfl lX9_103 ⟨_, _, _, rfl, rfl⟩ rfl rfl rfl o7 ?_
  refine z_aload_n 8 rfl rfl ?_
  obtain ⟨r8, hr8, B⟩ := B
  refine z_getR 9 rfl lX9_37 rfl o7 hr8 ?_
  obtain ⟨o9, B⟩ := B
  refine z_getI 10 rfl lX9_195 rfl o9 ?_
  exact z_iret 11 rfl rfl rfl ⟨rfl, rfl⟩ ⟨_, rfl, B⟩
theorem cn_X9_keep {G : zG} {d : Nat} {h : zMem} {Q : Int32 → zMem → Prop} {a0 : Nat} (B : zg G mX9_keep (d + 1) 0 [.ref a0] [] h (zPI Q)) : zConI G mX9_keep (d + 1) [.ref a0] h Q := zcon0 (by decide +kernel) eX9_keep (Nat.le_of_ble_eq_true rfl) rfl B
set_option maxRecDepth 100000 in
set_option maxHeartbeats 4000000 in
theorem sg_X9_back_0 {G : zG} {d : Nat} {h : zMem} {Q : Int32 → zMem → Prop} {a0 : Nat} (B : zO h a0 8 ∧ (¬ (zI h a0 13) = 0 → ∃ r3, zR h a0 4 = some r3 ∧ ∃ r4, zR h a0 5 = some r4 ∧ zO h r3 5 ∧ ∃ Q5 : zMem → Prop, zConV G mX5_copy d [.ref r3, .ref r4] h Q5 ∧ (∀ h6, Q5 h6 → zO h6 a0 8 ∧ ∃ r9, zR h6 a0 3 = some r9 ∧ zO h6 r9 7 ∧ ∃ Q10 : zMem → Prop, zConV G mX8_clear d [.ref r9] h6 Q10 ∧ (∀ h11, Q10 h11 → zO h11 a0 8 ∧ ∃ r14, zR h11 a0 4 = some r14 ∧ zO h11 r14 5 ∧ Q (zI h11 r14 10) h11))) ∧ ((zI h a0 13) = 0 → Q (-1 : Int32) h)) : zg G mX9_back (d + 1) 0 [.ref a0] [] h (zPI Q) := by
  refine z_aload_n 0 rfl rfl ?_
  obtain ⟨o1, B⟩ := B
  refine z_getI 1 rfl lX9_103 rfl o1 ?_
  refine z_if_ne 2 9 rfl (by decide) ⟨fun c2 => ?_, fun c2 => ?_⟩
  · have B := B.1 c2
    refine z_aload_n 5 rfl rfl ?_
    obtain ⟨r3, hr3, B⟩ := B
    refine z_getR 6 rfl lX9_37 rfl o1 hr3 ?_
    refine z_aload_n 7 rfl rfl ?_
    obtain ⟨r4, hr4, B⟩ := B
    refine z_getR 8 rfl lX9_41 rfl o1 hr4 ?_
    obtain ⟨o17, B⟩ := B
    obtain ⟨Q5, K7, B⟩ := B
    refine z_cVV1 (ν := mX5_copy) 9 rfl rfl fX5_copy gX9_226 ⟨_, rfl, rfl⟩ (by decide) o17 (Nat.le_of_ble_eq_true rfl) K7 (fun h6 q => ?_)
    have B := B h6 q
    refine z_aload_n 10 rfl rfl ?_
    obtain ⟨o8, B⟩ := B
    obtain ⟨r9, hr9, B⟩ := B
    refine z_getR 11 rfl lX9_30 rfl o8 hr9 ?_
    obtain ⟨o16, B⟩ := B
    obtain ⟨Q10, K12, B⟩ := B
    refine z_cVV0 (ν := mX8_clear) 12 rfl rfl fX8_clear gX9_102 ⟨_, rfl, rfl⟩ (by decide) o16 (Nat.le_of_ble_eq_true rfl) K12 (fun h11 q => ?_)
    have B := B h11 q
    refine z_aload_n 13 rfl rfl ?_
    obtain ⟨o13, B⟩ := B
    obtain ⟨r14, hr14, B⟩ := B
    refine z_getR 14 rfl lX9_37 rfl o13 hr14 ?_
    obtain ⟨o15, B⟩ := B
    refine z_getI 15 rfl lX9_195 rfl o15 ?_
    exact z_iret 16 rfl rfl rfl ⟨rfl, rfl⟩ ⟨_, rfl, B⟩
  · have B := B.2 c2
    refine z_iconst (v := -1) 3 rfl (by decide) ?_
    exact z_iret 4 rfl rfl rfl ⟨rfl, rfl⟩ ⟨_, rfl, B⟩
theorem cn_X9_back {G : zG} {d : Nat} {h : zMem} {Q : Int32 → zMem → Prop} {a0 : Nat} (B : zg G mX9_back (d + 1) 0 [.ref a0] [] h (zPI Q)) : zConI G mX9_back (d + 1) [.ref a0] h Q := zcon0 (by decide +kernel) eX9_back (Nat.le_of_ble_eq_true rfl) rfl B
theorem zsw_X9_count_20 {x : Int32} (z1 : ¬ x.toInt < 4) (z2 : ¬ 13 < x.toInt) (c4 : ¬ x = 4) (c5 : ¬ x = 5) (c6 : ¬ x = 6) (c7 : ¬ x = 7) (c8 : ¬ x = 8) (c9 : ¬ x = 9) (c10 : ¬ x = 10) (c11 : ¬ x = 11) (c12 : ¬ x = 12) (c13 : ¬ x = 13) : (#[56, 64, 75, 83, 91, 99, 107, 112, 120, 128] : Array Int)[(x.toInt - 4).toNat]? = some 136 := by
  obtain ⟨v, hv⟩ : ∃ v : Int, v = x.toInt := ⟨_, rfl⟩
  have c4 : v ≠ 4 := fun e => c4 (Int32.toInt_inj.mp (by rw [← hv, e]; decide))
  have c5 : v ≠ 5 := fun e => c5 (Int32.toInt_inj.mp (by rw [← hv, e]; decide))
  have c6 : v ≠ 6 := fun e => c6 (Int32.toInt_inj.mp (by rw [← hv, e]; decide))
  have c7 : v ≠ 7 := fun e => c7 (Int32.toInt_inj.mp (by rw [← hv, e]; decide))
  have c8 : v ≠ 8 := fun e => c8 (Int32.toInt_inj.mp (by rw [← hv, e]; decide))
  have c9 : v ≠ 9 := fun e => c9 (Int32.toInt_inj.mp (by rw [← hv, e]; decide))
  have c10 : v ≠ 10 := fun e => c10 (Int32.toInt_inj.mp (by rw [← hv, e]; decide))
  have c11 : v ≠ 11 := fun e => c11 (Int32.toInt_inj.mp (by rw [← hv, e]; decide))
  have c12 : v ≠ 12 := fun e => c12 (Int32.toInt_inj.mp (by rw [← hv, e]; decide))
  have c13 : v ≠ 13 := fun e => c13 (Int32.toInt_inj.mp (by rw [← hv, e]; decide))
  rw [← hv] at z1 z2 ⊢
  rcases (show v = 4 ∨ v = 5 ∨ v = 6 ∨ v = 7 ∨ v = 8 ∨ v = 9 ∨ v = 10 ∨ v = 11 ∨ v = 12 ∨ v = 13 by omega) with rfl | rfl | rfl | rfl | rfl | rfl | rfl | rfl | rfl | rfl
  all_goals first | exact absurd rfl (by assumption) | decide
set_option maxRecDepth 100000 in
set_option maxHeartbeats 4000000 in
theorem sg_X9_count_0 {G : zG} {d : Nat} {h : zMem} {Q : Int32 → zMem → Prop} {a0 : Nat} {x1 : Int32} (B : (x1 < 0 → zg G mX9_count (d + 1) 19 [.ref a0, .int x1] [] h (zPI Q)) ∧ (¬ x1 < 0 → ((3 : Int32) < x1 → zg G mX9_count (d + 1) 19 [.ref a0, .int x1] [] h (zPI Q)) ∧ (¬ (3 : Int32) < x1 → zO h a0 8 ∧ ∃ r4, zR h a0 11 = some r4 ∧ zO h r4 6 ∧ ∃ r6, zR h r4 0 = some r6 ∧ zO h r6 100 ∧ vp_in x1 (zLen h r6) ∧ Q (zI h r6 x1.toNatClampNeg) h))) : zg G mX9_count (d + 1) 0 [.ref a0, .int x1] [] h (zPI Q) := by
  refine z_iload_n 0 rfl rfl ?_
  refine z_if_lt 1 19 rfl (by decide) ⟨fun c1 => ?_, fun c1 => ?_⟩
  · have B := B.1 c1
    exact B
  · have B := B.2 c1
    refine z_iload_n 2 rfl rfl ?_
    refine z_iconst (v := 3) 3 rfl (by decide) ?_
    refine z_icmp_gt 4 19 rfl (by decide) ⟨fun c2 => ?_, fun c2 => ?_⟩
    · have B := B.1 c2
      exact B
    · have B := B.2 c2
      refine z_aload_n 5 rfl rfl ?_
      obtain ⟨o3, B⟩ := B
      obtain ⟨r4, hr4, B⟩ := B
      refine z_getR 6 rfl lX9_67 rfl o3 hr4 ?_
      obtain ⟨o5, B⟩ := B
      obtain ⟨r6, hr6, B⟩ := B
      refine z_getR 7 rfl lX9_208 rfl o5 hr6 ?_
      refine z_iload_n 8 rfl rfl ?_
      obtain ⟨o7, B⟩ := B
      obtain ⟨o8, B⟩ := B
      refine z_iald 9 rfl o7 o8 ?_
      exact z_iret 10 rfl rfl rfl ⟨rfl, rfl⟩ ⟨_, rfl, B⟩
theorem cn_X9_count {G : zG} {d : Nat} {h : zMem} {Q : Int32 → zMem → Prop} {a0 : Nat} {x1 : Int32} (B : zg G mX9_count (d + 1) 0 [.ref a0, .int x1] [] h (zPI Q)) : zConI G mX9_count (d + 1) [.ref a0, .int x1] h Q := zcon0 (by decide +kernel) eX9_count (Nat.le_of_ble_eq_true rfl) rfl B
set_option maxRecDepth 100000 in
set_option maxHeartbeats 4000000 in
theorem sg_X9_count_19 {G : zG} {d : Nat} {h : zMem} {Q : Int32 → zMem → Prop} {a0 : Nat} {x1 : Int32} (B : (x1 = 4 → zO h a0 8 ∧ ∃ r2, zR h a0 11 = some r2 ∧ zO h r2 6 ∧ Q (zI h r2 9) h) ∧ (x1 = 5 → zO h a0 8 ∧ ∃ r5, zR h a0 11 = some r5 ∧ zO h r5 6 ∧ ∃ r7, zR h r5 8 = some r7 ∧ zO h r7 0 ∧ Q (zI h r7 8) h) ∧ (x1 = 6 → zO h a0 8 ∧ ∃ r10, zR h a0 4 = some r10 ∧ zO h r10 5 ∧ Q (zI h r10 10) h) ∧ (x1 = 7 → zO h a0 8 ∧ ∃ r13, zR h a0 4 = some r13 ∧ zO h r13 5 ∧ Q (zI h r13 11) h) ∧ (x1 = 8 → zO h a0 8 ∧ ∃ r16, zR h a0 4 = some r16 ∧ zO h r16 5 ∧ Q (zI h r16 12) h) ∧ (x1 = 9 → zO h a0 8 ∧ ∃ r19, zR h a0 4 = some r19 ∧ zO h r19 5 ∧ Q (zI h r19 13) h) ∧ (x1 = 10 → zO h a0 8 ∧ ∃ Q21 : Int32 → zMem → Prop, zConI G mX9_allStores d [.ref a0] h Q21 ∧ (∀ v24 h22, Q21 v24 h22 → Q v24 h22)) ∧ (x1 = 11 → zO h a0 8 ∧ ∃ r27, zR h a0 2 = some r27 ∧ zO h r27 1 ∧ Q (zI h r27 6) h) ∧ (x1 = 12 → zO h a0 8 ∧ ∃ r30, zR h a0 2 = some r30 ∧ zO h r30 1 ∧ ∃ Q31 : Int32 → zMem → Prop, zConI G mX1_considered d [.ref r30] h Q31 ∧ (∀ v34 h32, Q31 v34 h32 → Q v34 h32)) ∧ (x1 = 13 → zO h a0 8 ∧ ∃ r37, zR h a0 3 = some r37 ∧ zO h r37 7 ∧ Q (zI h r37 3) h) ∧ (¬ x1 = 4 → ¬ x1 = 5 → ¬ x1 = 6 → ¬ x1 = 7 → ¬ x1 = 8 → ¬ x1 = 9 → ¬ x1 = 10 → ¬ x1 = 11 → ¬ x1 = 12 → ¬ x1 = 13 → Q (-1 : Int32) h)) : zg G mX9_count (d + 1) 19 [.ref a0, .int x1] [] h (zPI Q) := by
  refine z_iload_n 11 rfl rfl ?_
  by_cases c39_4 : x1 = 4
  · obtain ⟨B, -⟩ := B
    refine z_tableIn 12 76 rfl 4 (by rw [c39_4]; decide) (by decide) (by decide) rfl (by decide) ?_
    have B := B c39_4
    refine z_aload_n 13 rfl rfl ?_
    obtain ⟨o1, B⟩ := B
    obtain ⟨r2, hr2, B⟩ := B
    refine z_getR 14 rfl lX9_67 rfl o1 hr2 ?_
    obtain ⟨o3, B⟩ := B
    refine z_getI 15 rfl lX9_318 rfl o3 ?_
    exact z_iret 16 rfl rfl rfl ⟨rfl, rfl⟩ ⟨_, rfl, B⟩
  obtain ⟨-, B⟩ := B
  by_cases c39_5 : x1 = 5
  · obtain ⟨B, -⟩ := B
    refine z_tableIn 12 84 rfl 5 (by rw [c39_5]; decide) (by decide) (by decide) rfl (by decide) ?_
    have B := B c39_5
    refine z_aload_n 17 rfl rfl ?_
    obtain ⟨o4, B⟩ := B
    obtain ⟨r5, hr5, B⟩ := B
    refine z_getR 18 rfl lX9_67 rfl o4 hr5 ?_
    obtain ⟨o6, B⟩ := B
    obtain ⟨r7, hr7, B⟩ := B
    refine z_getR 19 rfl lX9_321 rfl o6 hr7 ?_
    obtain ⟨o8, B⟩ := B
    refine z_getI 20 rfl lX9_325 rfl o8 ?_
    exact z_iret 21 rfl rfl rfl ⟨rfl, rfl⟩ ⟨_, rfl, B⟩
  obtain ⟨-, B⟩ := B
  by_cases c39_6 : x1 = 6
  · obtain ⟨B, -⟩ := B
    refine z_tableIn 12 95 rfl 6 (by rw [c39_6]; decide) (by decide) (by decide) rfl (by decide) ?_
    have B := B c39_6
    refine z_aload_n 22 rfl rfl ?_
    obtain ⟨o9, B⟩ := B
    obtain ⟨r10, hr10, B⟩ := B
    refine z_getR 23 rfl lX9_37 rfl o9 hr10 ?_
    obtain ⟨o11, B⟩ := B
    refine z_getI 24 rfl lX9_195 rfl o11 ?_
    exact z_iret 25 rfl rfl rfl ⟨rfl, rfl⟩ ⟨_, rfl, B⟩
  obtain ⟨-, B⟩ := B
  by_cases c39_7 : x1 = 7
  · obtain ⟨B, -⟩ := B
    refine z_tableIn 12 103 rfl 7 (by rw [c39_7]; decide) (by decide) (by decide) rfl (by decide) ?_
    have B := B c39_7
    refine z_aload_n 26 rfl rfl ?_
    obtain ⟨o12, B⟩ := B
    obtain ⟨r13, hr13, B⟩ := B
    refine z_getR 27 rfl lX9_37 rfl o12 hr13 ?_
    obtain ⟨o14, B⟩ := B
    refine z_getI 28 rfl lX9_330 rfl o14 ?_
    exact z_iret 29 rfl rfl rfl ⟨rfl, rfl⟩ ⟨_, rfl, B⟩
  obtain ⟨-, B⟩ := B
  by_cases c39_8 : x1 = 8
  · obtain ⟨B, -⟩ := B
    refine z_tableIn 12 111 rfl 8 (by rw [c39_8]; decide) (by decide) (by decide) rfl (by decide) ?_
    have B := B c39_8
    refine z_aload_n 30 rfl rfl ?_
    obtain ⟨o15, B⟩ := B
    obtain ⟨r16, hr16, B⟩ := B
    refine z_getR 31 rfl lX9_37 rfl o15 hr16 ?_
    obtain ⟨o17, B⟩ := B
    refine z_getI 32 rfl lX9_298 rfl o17 ?_
    exact z_iret 33 rfl rfl rfl ⟨rfl, rfl⟩ ⟨_, rfl, B⟩
  obtain ⟨-, B⟩ := B
  by_cases c39_9 : x1 = 9
  · obtain ⟨B, -⟩ := B
    refine z_tableIn 12 119 rfl 9 (by rw [c39_9]; decide) (by decide) (by decide) rfl (by decide) ?_
    have B := B c39_9
    refine z_aload_n 34 rfl rfl ?_
    obtain ⟨o18, B⟩ := B
    obtain ⟨r19, hr19, B⟩ := B
    refine z_getR 35 rfl lX9_37 rfl o18 hr19 ?_
    obtain ⟨o20, B⟩ := B
    refine z_getI 36 rfl lX9_253 rfl o20 ?_
    exact z_iret 37 rfl rfl rfl ⟨rfl, rfl⟩ ⟨_, rfl, B⟩
  obtain ⟨-, B⟩ := B
  by_cases c39_10 : x1 = 10
  · obtain ⟨B, -⟩ := B
    refine z_tableIn 12 127 rfl 10 (by rw [c39_10]; decide) (by decide) (by decide) rfl (by decide) ?_
    have B := B c39_10
    refine z_aload_n 38 rfl rfl ?_
    obtain ⟨o25, B⟩ := B
    obtain ⟨Q21, K23, B⟩ := B
    refine z_cVI0 (ν := mX9_allStores) 39 rfl rfl fX9_allStores gX9_333 ⟨_, rfl, rfl⟩ (by decide) o25 (Nat.le_of_ble_eq_true rfl) K23 (fun v24 h22 q => ?_)
    have B := B v24 h22 q
    exact z_iret 40 rfl rfl rfl ⟨rfl, rfl⟩ ⟨_, rfl, B⟩
  obtain ⟨-, B⟩ := B
  by_cases c39_11 : x1 = 11
  · obtain ⟨B, -⟩ := B
    refine z_tableIn 12 132 rfl 11 (by rw [c39_11]; decide) (by decide) (by decide) rfl (by decide) ?_
    have B := B c39_11
    refine z_aload_n 41 rfl rfl ?_
    obtain ⟨o26, B⟩ := B
    obtain ⟨r27, hr27, B⟩ := B
    refine z_getR 42 rfl lX9_23 rfl o26 hr27 ?_
    obtain ⟨o28, B⟩ := B
    refine z_getI 43 rfl lX9_274 rfl o28 ?_
    exact z_iret 44 rfl rfl rfl ⟨rfl, rfl⟩ ⟨_, rfl, B⟩
  obtain ⟨-, B⟩ := B
  by_cases c39_12 : x1 = 12
  · obtain ⟨B, -⟩ := B
    refine z_tableIn 12 140 rfl 12 (by rw [c39_12]; decide) (by decide) (by decide) rfl (by decide) ?_
    have B := B c39_12
    refine z_aload_n 45 rfl rfl ?_
    obtain ⟨o29, B⟩ := B
    obtain ⟨r30, hr30, B⟩ := B
    refine z_getR 46 rfl lX9_23 rfl o29 hr30 ?_
    obtain ⟨o35, B⟩ := B
    obtain ⟨Q31, K33, B⟩ := B
    refine z_cVI0 (ν := mX1_considered) 47 rfl rfl fX1_considered gX9_336 ⟨_, rfl, rfl⟩ (by decide) o35 (Nat.le_of_ble_eq_true rfl) K33 (fun v34 h32 q => ?_)
    have B := B v34 h32 q
    exact z_iret 48 rfl rfl rfl ⟨rfl, rfl⟩ ⟨_, rfl, B⟩
  obtain ⟨-, B⟩ := B
  by_cases c39_13 : x1 = 13
  · obtain ⟨B, -⟩ := B
    refine z_tableIn 12 148 rfl 13 (by rw [c39_13]; decide) (by decide) (by decide) rfl (by decide) ?_
    have B := B c39_13
    refine z_aload_n 49 rfl rfl ?_
    obtain ⟨o36, B⟩ := B
    obtain ⟨r37, hr37, B⟩ := B
    refine z_getR 50 rfl lX9_30 rfl o36 hr37 ?_
    obtain ⟨o38, B⟩ := B
    refine z_getI 51 rfl lX9_339 rfl o38 ?_
    exact z_iret 52 rfl rfl rfl ⟨rfl, rfl⟩ ⟨_, rfl, B⟩
  obtain ⟨-, B⟩ := B
  have B := B c39_4 c39_5 c39_6 c39_7 c39_8 c39_9 c39_10 c39_11 c39_12 c39_13
  refine z_tableD 12 156 rfl (by decide) (by
    intro z1 z2
    refine zsw_X9_count_20 z1 z2 c39_4 c39_5 c39_6 c39_7 c39_8 c39_9 c39_10 c39_11 c39_12 c39_13) ?_
  refine z_iconst (v := -1) 53 rfl (by decide) ?_
  exact z_iret 54 rfl rfl rfl ⟨rfl, rfl⟩ ⟨_, rfl, B⟩
set_option maxRecDepth 100000 in
set_option maxHeartbeats 4000000 in
theorem sg_X9_allStores_0 {G : zG} {d : Nat} {h : zMem} {Q : Int32 → zMem → Prop} {a0 : Nat} (B : zg G mX9_allStores d 4 [.ref a0, .int (0 : Int32), .int (0 : Int32)] [] h (zPI Q)) : zg G mX9_allStores d 0 [.ref a0, zU, zU] [] h (zPI Q) := by
  refine z_iconst (v := 0) 0 rfl (by decide) ?_
  refine z_istore_n 1 rfl (by decide) rfl ?_
  refine z_iconst (v := 0) 2 rfl (by decide) ?_
  refine z_istore_n 3 rfl (by decide) rfl ?_
  exact B
theorem cn_X9_allStores {G : zG} {d : Nat} {h : zMem} {Q : Int32 → zMem → Prop} {a0 : Nat} (B : zg G mX9_allStores d 0 [.ref a0, zU, zU] [] h (zPI Q)) : zConI G mX9_allStores d [.ref a0] h Q := zcon0 (by decide +kernel) eX9_allStores (Nat.le_of_ble_eq_true rfl) rfl B
set_option maxRecDepth 100000 in
set_option maxHeartbeats 4000000 in
theorem sg_X9_allStores_4 {G : zG} {d : Nat} {h : zMem} {Q : Int32 → zMem → Prop} {a0 : Nat} {x1 : Int32} {x2 : Int32} (B : zO h a0 8 ∧ ∃ r2, zR h a0 11 = some r2 ∧ zO h r2 6 ∧ ∃ r4, zR h r2 0 = some r4 ∧ zO h r4 100 ∧ vp_in (0 : Int32) (zLen h r4) ∧ ((zI h r4 (0 : Int32).toNatClampNeg) ≤ x2 → Q x1 h) ∧ (¬ (zI h r4 (0 : Int32).toNatClampNeg) ≤ x2 → ∃ r8, zR h a0 4 = some r8 ∧ zO h r8 5 ∧ ∃ r10, zR h r8 0 = some r10 ∧ zO h r10 100 ∧ vp_in x2 (zLen h r10) ∧ zg G mX9_allStores d 4 [.ref a0, .int (x1 + (zI h r10 x2.toNatClampNeg)), .int (x2 + 1)] [] h (zPI Q))) : zg G mX9_allStores d 4 [.ref a0, .int x1, .int x2] [] h (zPI Q) := by
  refine z_iload_n 4 rfl rfl ?_
  refine z_aload_n 5 rfl rfl ?_
  obtain ⟨o1, B⟩ := B
  obtain ⟨r2, hr2, B⟩ := B
  refine z_getR 6 rfl lX9_67 rfl o1 hr2 ?_
  obtain ⟨o3, B⟩ := B
  obtain ⟨r4, hr4, B⟩ := B
  refine z_getR 7 rfl lX9_208 rfl o3 hr4 ?_
  refine z_iconst (v := 0) 8 rfl (by decide) ?_
  obtain ⟨o5, B⟩ := B
  obtain ⟨o6, B⟩ := B
  refine z_iald 9 rfl o5 o6 ?_
  refine z_icmp_ge 10 35 rfl (by decide) ⟨fun c7 => ?_, fun c7 => ?_⟩
  · have B := B.1 c7
    refine z_iload_n 21 rfl rfl ?_
    exact z_iret 22 rfl rfl rfl ⟨rfl, rfl⟩ ⟨_, rfl, B⟩
  · have B := B.2 c7
    refine z_iload_n 11 rfl rfl ?_
    refine z_aload_n 12 rfl rfl ?_
    obtain ⟨r8, hr8, B⟩ := B
    refine z_getR 13 rfl lX9_37 rfl o1 hr8 ?_
    obtain ⟨o9, B⟩ := B
    obtain ⟨r10, hr10, B⟩ := B
    refine z_getR 14 rfl lX9_148 rfl o9 hr10 ?_
    refine z_iload_n 15 rfl rfl ?_
    obtain ⟨o11, B⟩ := B
    obtain ⟨o12, B⟩ := B
    refine z_iald 16 rfl o11 o12 ?_
    refine z_iadd 17 rfl ?_
    refine z_istore_n 18 rfl (by decide) rfl ?_
    refine z_iinc (v := 1) 19 rfl rfl (by decide) (by decide) rfl ?_
    refine z_goto 20 4 rfl (by decide) ?_
    exact B
set_option maxRecDepth 100000 in
set_option maxHeartbeats 4000000 in
theorem sg_X9_has_0 {G : zG} {d : Nat} {h : zMem} {Q : Int32 → zMem → Prop} {a0 : Nat} {x1 : Int32} {x2 : Int32} (B : (x2 < 0 → Q (0 : Int32) h) ∧ (¬ x2 < 0 → zO h a0 8 ∧ ∃ r3, zR h a0 11 = some r3 ∧ zO h r3 6 ∧ ∃ r5, zR h r3 0 = some r5 ∧ zO h r5 100 ∧ vp_in x1 (zLen h r5) ∧ ((zI h r5 x1.toNatClampNeg) ≤ x2 → Q (0 : Int32) h) ∧ (¬ (zI h r5 x1.toNatClampNeg) ≤ x2 → Q (1 : Int32) h))) : zg G mX9_has d 0 [.ref a0, .int x1, .int x2] [] h (zPI Q) := by
  refine z_iload_n 0 rfl rfl ?_
  refine z_if_lt 1 21 rfl (by decide) ⟨fun c1 => ?_, fun c1 => ?_⟩
  · have B := B.1 c1
    refine z_iconst (v := 0) 11 rfl (by decide) ?_
    exact z_iret 12 rfl rfl rfl ⟨rfl, rfl⟩ ⟨_, rfl, B⟩
  · have B := B.2 c1
    refine z_iload_n 2 rfl rfl ?_
    refine z_aload_n 3 rfl rfl ?_
    obtain ⟨o2, B⟩ := B
    obtain ⟨r3, hr3, B⟩ := B
    refine z_getR 4 rfl lX9_67 rfl o2 hr3 ?_
    obtain ⟨o4, B⟩ := B
    obtain ⟨r5, hr5, B⟩ := B
    refine z_getR 5 rfl lX9_208 rfl o4 hr5 ?_
    refine z_iload_n 6 rfl rfl ?_
    obtain ⟨o6, B⟩ := B
    obtain ⟨o7, B⟩ := B
    refine z_iald 7 rfl o6 o7 ?_
    refine z_icmp_ge 8 21 rfl (by decide) ⟨fun c8 => ?_, fun c8 => ?_⟩
    · have B := B.1 c8
      refine z_iconst (v := 0) 11 rfl (by decide) ?_
      exact z_iret 12 rfl rfl rfl ⟨rfl, rfl⟩ ⟨_, rfl, B⟩
    · have B := B.2 c8
      refine z_iconst (v := 1) 9 rfl (by decide) ?_
      refine z_goto 10 22 rfl (by decide) ?_
      exact z_iret 12 rfl rfl rfl ⟨rfl, rfl⟩ ⟨_, rfl, B⟩
theorem cn_X9_has {G : zG} {d : Nat} {h : zMem} {Q : Int32 → zMem → Prop} {a0 : Nat} {x1 : Int32} {x2 : Int32} (B : zg G mX9_has d 0 [.ref a0, .int x1, .int x2] [] h (zPI Q)) : zConI G mX9_has d [.ref a0, .int x1, .int x2] h Q := zcon0 (by decide +kernel) eX9_has (Nat.le_of_ble_eq_true rfl) rfl B
set_option maxRecDepth 100000 in
set_option maxHeartbeats 4000000 in
theorem sg_X9_keenNow_0 {G : zG} {d : Nat} {h : zMem} {Q : Int32 → zMem → Prop} {a0 : Nat} {x1 : Int32} (B : zO h a0 8 ∧ ∃ r2, zR h a0 4 = some r2 ∧ ∃ r3, zR h a0 11 = some r3 ∧ zO h r2 5 ∧ ∃ r5, zR h r2 4 = some r5 ∧ zO h r5 100 ∧ vp_in x1 (zLen h r5) ∧ ∃ Q8 : Int32 → zMem → Prop, zConI G mX5_keenOf d [.ref r2, .ref r3, .int x1, .int (zI h r5 x1.toNatClampNeg)] h Q8 ∧ (∀ v11 h9, Q8 v11 h9 → Q v11 h9)) : zg G mX9_keenNow (d + 1) 0 [.ref a0, .int x1] [] h (zPI Q) := by
  refine z_aload_n 0 rfl rfl ?_
  obtain ⟨o1, B⟩ := B
  obtain ⟨r2, hr2, B⟩ := B
  refine z_getR 1 rfl lX9_37 rfl o1 hr2 ?_
  refine z_aload_n 2 rfl rfl ?_
  obtain ⟨r3, hr3, B⟩ := B
  refine z_getR 3 rfl lX9_67 rfl o1 hr3 ?_
  refine z_iload_n 4 rfl rfl ?_
  refine z_aload_n 5 rfl rfl ?_
  refine z_getR 6 rfl lX9_37 rfl o1 hr2 ?_
  obtain ⟨o4, B⟩ := B
  obtain ⟨r5, hr5, B⟩ := B
  refine z_getR 7 rfl lX9_128 rfl o4 hr5 ?_
  refine z_iload_n 8 rfl rfl ?_
  obtain ⟨o6, B⟩ := B
  obtain ⟨o7, B⟩ := B
  refine z_iald 9 rfl o6 o7 ?_
  obtain ⟨Q8, K10, B⟩ := B
  refine z_cVI3 (ν := mX5_keenOf) 10 rfl rfl fX5_keenOf gX9_340 ⟨_, rfl, rfl⟩ (by decide) o4 (Nat.le_of_ble_eq_true rfl) K10 (fun v11 h9 q => ?_)
  have B := B v11 h9 q
  exact z_iret 11 rfl rfl rfl ⟨rfl, rfl⟩ ⟨_, rfl, B⟩
theorem cn_X9_keenNow {G : zG} {d : Nat} {h : zMem} {Q : Int32 → zMem → Prop} {a0 : Nat} {x1 : Int32} (B : zg G mX9_keenNow (d + 1) 0 [.ref a0, .int x1] [] h (zPI Q)) : zConI G mX9_keenNow (d + 1) [.ref a0, .int x1] h Q := zcon0 (by decide +kernel) eX9_keenNow (Nat.le_of_ble_eq_true rfl) rfl B
