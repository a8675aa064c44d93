set_option maxRecDepth 100000 in
set_option maxHeartbeats 4000000 in
theorem sg_X9_feed_0 {G : zG} {d : Nat} {h : zMem} {Q : Int32 → zMem → Prop} {a0 : Nat} {x1 : Int32} {x2 : Int32} {x3 : Int32} {x4 : Int32} {x5 : Int32} (B : zO h a0 8 ∧ (((zI h a0 12) + (20 : Int32)) ≤ (700 : Int32) → ∃ Q3 : zMem → Prop, zConV G mX9_tapeNumber d [.ref a0, .int x1] h Q3 ∧ (∀ h4, Q3 h4 → zO h4 a0 8 ∧ ∃ Q6 : zMem → Prop, zConV G mX9_tapeNumber d [.ref a0, .int x2] h4 Q6 ∧ (∀ h7, Q6 h7 → zO h7 a0 8 ∧ ∃ Q9 : zMem → Prop, zConV G mX9_tapeNumber d [.ref a0, .int x3] h7 Q9 ∧ (∀ h10, Q9 h10 → zO h10 a0 8 ∧ ∃ Q12 : zMem → Prop, zConV G mX9_tapeNumber d [.ref a0, .int x4] h10 Q12 ∧ (∀ h13, Q12 h13 → zO h13 a0 8 ∧ ∃ Q15 : zMem → Prop, zConV G mX9_tapeNumber d [.ref a0, .int x5] h13 Q15 ∧ (∀ h16, Q15 h16 → zO h16 a0 8 ∧ Q (zI h16 a0 12) h16)))))) ∧ (¬ ((zI h a0 12) + (20 : Int32)) ≤ (700 : Int32) → Q (-1 : Int32) h)) : zg G mX9_feed (d + 1) 0 [.ref a0, .int x1, .int x2, .int x3, .int x4, .int x5] [] h (zPI Q) := by
  refine z_aload_n 0 rfl rfl ?_
  obtain ⟨o1, B⟩ := B
  refine z_getI 1 rfl lX9_75 rfl o1 ?_
  refine z_bipush (v := 20) 2 rfl (by decide) ?_
  refine z_iadd 3 rfl ?_
  refine z_sipush (v := 700) 4 rfl (by decide) ?_
  refine z_icmp_le 5 15 rfl (by decide) ⟨fun c2 => ?_, fun c2 => ?_⟩
  · have B := B.1 c2
    refine z_aload_n 8 rfl rfl ?_
    refine z_iload_n 9 rfl rfl ?_
    obtain ⟨Q3, K5, B⟩ := B
    refine z_cVV1 (ν := mX9_tapeNumber) 10 rfl rfl fX9_tapeNumber gX9_79 ⟨_, rfl, rfl⟩ (by decide) o1 (Nat.le_of_ble_eq_true rfl) K5 (fun h4 q => ?_)
    have B := B h4 q
    refine z_aload_n 11 rfl rfl ?_
    refine z_iload_n 12 rfl rfl ?_
    obtain ⟨o22, B⟩ := B
    obtain ⟨Q6, K8, B⟩ := B
    refine z_cVV1 (ν := mX9_tapeNumber) 13 rfl rfl fX9_tapeNumber gX9_79 ⟨_, rfl, rfl⟩ (by decide) o22 (Nat.le_of_ble_eq_true rfl) K8 (fun h7 q => ?_)
    have B := B h7 q
    refine z_aload_n 14 rfl rfl ?_
    refine z_iload_n 15 rfl rfl ?_
    obtain ⟨o21, B⟩ := B
    obtain ⟨Q9, K11, B⟩ := B
    refine z_cVV1 (ν := mX9_tapeNumber) 16 rfl rfl fX9_tapeNumber gX9_79 ⟨_, rfl, rfl⟩ (by decide) o21 (Nat.le_of_ble_eq_true rfl) K11 (fun h10 q => ?_)
    have B := B h10 q
    refine z_aload_n 17 rfl rfl ?_
    refine z_iload 18 rfl rfl ?_
    obtain ⟨o20, B⟩ := B
    obtain ⟨Q12, K14, B⟩ := B
    refine z_cVV1 (ν := mX9_tapeNumber) 19 rfl rfl fX9_tapeNumber gX9_79 ⟨_, rfl, rfl⟩ (by decide) o20 (Nat.le_of_ble_eq_true rfl) K14 (fun h13 q => ?_)
    have B := B h13 q
    refine z_aload_n 20 rfl rfl ?_
    refine z_iload 21 rfl rfl ?_
    obtain ⟨o19, B⟩ := B
    obtain ⟨Q15, K17, B⟩ := B
    refine z_cVV1 (ν := mX9_tapeNumber) 22 rfl rfl fX9_tapeNumber gX9_79 ⟨_, rfl, rfl⟩ (by decide) o19 (Nat.le_of_ble_eq_true rfl) K17 (fun h16 q => ?_)
    have B := B h16 q
    refine z_aload_n 23 rfl rfl ?_
    obtain ⟨o18, B⟩ := B
    refine z_getI 24 rfl lX9_75 rfl o18 ?_
    exact z_iret 25 rfl rfl rfl ⟨rfl, rfl⟩ ⟨_, rfl, B⟩
  · have B := B.2 c2
    refine z_iconst (v := -1) 6 rfl (by decide) ?_
    exact z_iret 7 rfl rfl rfl ⟨rfl, rfl⟩ ⟨_, rfl, B⟩
theorem cn_X9_feed {G : zG} {d : Nat} {h : zMem} {Q : Int32 → zMem → Prop} {a0 : Nat} {x1 : Int32} {x2 : Int32} {x3 : Int32} {x4 : Int32} {x5 : Int32} (B : zg G mX9_feed (d + 1) 0 [.ref a0, .int x1, .int x2, .int x3, .int x4, .int x5] [] h (zPI Q)) : zConI G mX9_feed (d + 1) [.ref a0, .int x1, .int x2, .int x3, .int x4, .int x5] h Q := zcon0 (by decide +kernel) eX9_feed (Nat.le_of_ble_eq_true rfl) rfl B
set_option maxRecDepth 100000 in
set_option maxHeartbeats 4000000 in
theorem sg_X9_tapeNumber_0 {G : zG} {d : Nat} {h : zMem} {Q : zMem → Prop} {a0 : Nat} {x1 : Int32} (B : zg G mX9_tapeNumber d 3 [.ref a0, .int x1, .int (24 : Int32)] [] h (zPV Q)) : zg G mX9_tapeNumber d 0 [.ref a0, .int x1, zU] [] h (zPV Q) := by
  refine z_bipush (v := 24) 0 rfl (by decide) ?_
  refine z_istore_n 1 rfl (by decide) rfl ?_
  exact B
theorem cn_X9_tapeNumber {G : zG} {d : Nat} {h : zMem} {Q : zMem → Prop} {a0 : Nat} {x1 : Int32} (B : zg G mX9_tapeNumber d 0 [.ref a0, .int x1, zU] [] h (zPV Q)) : zConV G mX9_tapeNumber d [.ref a0, .int x1] h Q := zcon0 (by decide +kernel) eX9_tapeNumber (Nat.le_of_ble_eq_true rfl) rfl B
set_option maxRecDepth 100000 in
set_option maxHeartbeats 4000000 in
theorem sg_X9_tapeNumber_3 {G : zG} {d : Nat} {h : zMem} {Q : zMem → Prop} {a0 : Nat} {x1 : Int32} {x2 : Int32} (B : (x2 < 0 → Q h) ∧ (¬ x2 < 0 → zO h a0 8 ∧ ∃ r3, zR h a0 0 = some r3 ∧ zO h r3 102 ∧ vp_in (zI h a0 12) (zLen h r3) ∧ zg G mX9_tapeNumber d 3 [.ref a0, .int x1, .int (x2 + (-8))] [] (zsI (zsI h r3 (zI h a0 12).toNatClampNeg (vp_nar .byte ((x1 >>> (x2 &&& 31)).toInt8.toInt32))) a0 12 ((zI (zsI h r3 (zI h a0 12).toNatClampNeg (vp_nar .byte ((x1 >>> (x2 &&& 31)).toInt8.toInt32))) a0 12) + (1 : Int32))) (zPV Q))) : zg G mX9_tapeNumber d 3 [.ref a0, .int x1, .int x2] [] h (zPV Q) := by
  refine z_iload_n 2 rfl rfl ?_
  refine z_if_lt 3 36 rfl (by decide) ⟨fun c1 => ?_, fun c1 => ?_⟩
  · have B := B.1 c1
    exact z_vret 21 rfl rfl ⟨rfl, rfl⟩ ⟨rfl, B⟩
  · have B := B.2 c1
    refine z_aload_n 4 rfl rfl ?_
    obtain ⟨o2, B⟩ := B
    obtain ⟨r3, hr3, B⟩ := B
    refine z_getR 5 rfl lX9_9 rfl o2 hr3 ?_
    refine z_aload_n 6 rfl rfl ?_
    refine z_getI 7 rfl lX9_75 rfl o2 ?_
    refine z_iload_n 8 rfl rfl ?_
    refine z_iload_n 9 rfl rfl ?_
    refine z_ishr 10 rfl ?_
    refine z_i2b 11 rfl ?_
    obtain ⟨o4, B⟩ := B
    obtain ⟨o5, B⟩ := B
    refine z_bast 12 rfl o4 o5 ?_
    refine z_aload_n 13 rfl rfl ?_
    refine z_dup 14 rfl rfl ?_
    refine z_getI 15 rfl lX9_75 rfl o2 ?_
    refine z_iconst (v := 1) 16 rfl (by decide) ?_
    refine z_iadd 17 rfl ?_
    refine z_putI 18 rfl lX9_75 ⟨_, _, _, rfl, rfl⟩ rfl rfl rfl o2 ?_
    refine z_iinc (v := -8) 19 rfl rfl (by decide) (by decide) rfl ?_
    refine z_goto 20 3 rfl (by decide) ?_
    exact B
set_option maxRecDepth 100000 in
set_option maxHeartbeats 4000000 in
theorem sg_X9_text_0 {G : zG} {d : Nat} {h : zMem} {Q : Int32 → zMem → Prop} {a0 : Nat} {x1 : Int32} (B : (x1 < 0 → Q (-2 : Int32) h) ∧ (¬ x1 < 0 → zO h a0 8 ∧ (x1 ≤ (zI h a0 12) → ∃ r4, zR h a0 1 = some r4 ∧ ∃ r5, zR h a0 0 = some r5 ∧ zO h r4 3 ∧ ∃ Q6 : zMem → Prop, zConV G mX3_open d [.ref r4, .ref r5, .int x1] (zsI h a0 12 (0 : Int32)) Q6 ∧ (∀ h7, Q6 h7 → zg G mX9_text (d + 1) 34 [.ref a0, .int x1, .int (0 : Int32)] [] h7 (zPI Q))) ∧ (¬ x1 ≤ (zI h a0 12) → Q (-2 : Int32) h))) : zg G mX9_text (d + 1) 0 [.ref a0, .int x1, zU] [] h (zPI Q) := by
  refine z_iload_n 0 rfl rfl ?_
  refine z_if_lt 1 12 rfl (by decide) ⟨fun c1 => ?_, fun c1 => ?_⟩
  · have B := B.1 c1
    refine z_bipush (v := -2) 6 rfl (by decide) ?_
    exact z_iret 7 rfl rfl rfl ⟨rfl, rfl⟩ ⟨_, rfl, B⟩
  · have B := B.2 c1
    refine z_iload_n 2 rfl rfl ?_
    refine z_aload_n 3 rfl rfl ?_
    obtain ⟨o2, B⟩ := B
    refine z_getI 4 rfl lX9_75 rfl o2 ?_
    refine z_icmp_le 5 15 rfl (by decide) ⟨fun c3 => ?_, fun c3 => ?_⟩
    · have B := B.1 c3
      refine z_aload_n 8 rfl rfl ?_
      refine z_iconst (v := 0) 9 rfl (by decide) ?_
      refine z_putI 10 rfl lX9_75 ⟨_, _, _, rfl, rfl⟩ rfl rfl rfl o2 ?_
      refine z_iconst (v := 0) 11 rfl (by decide) ?_
      refine z_istore_n 12 rfl (by decide) rfl ?_
      refine z_aload_n 13 rfl rfl ?_
      obtain ⟨r4, hr4, B⟩ := B
      refine z_getR 14 rfl lX9_16 rfl o2 hr4 ?_
      refine z_aload_n 15 rfl rfl ?_
      obtain ⟨r5, hr5, B⟩ := B
      refine z_getR 16 rfl lX9_9 rfl o2 hr5 ?_
      refine z_iload_n 17 rfl rfl ?_
      obtain ⟨o9, B⟩ := B
      obtain ⟨Q6, K8, B⟩ := B
      refine z_cVV2 (ν := mX3_open) 18 rfl rfl fX3_open gX9_83 ⟨_, rfl, rfl⟩ (by decide) o9 (Nat.le_of_ble_eq_true rfl) K8 (fun h7 q => ?_)
      have B := B h7 q
      exact B
    · have B := B.2 c3
      refine z_bipush (v := -2) 6 rfl (by decide) ?_
      exact z_iret 7 rfl rfl rfl ⟨rfl, rfl⟩ ⟨_, rfl, B⟩
theorem cn_X9_text {G : zG} {d : Nat} {h : zMem} {Q : Int32 → zMem → Prop} {a0 : Nat} {x1 : Int32} (B : zg G mX9_text (d + 1) 0 [.ref a0, .int x1, zU] [] h (zPI Q)) : zConI G mX9_text (d + 1) [.ref a0, .int x1] h Q := zcon0 (by decide +kernel) eX9_text (Nat.le_of_ble_eq_true rfl) rfl B
set_option maxRecDepth 100000 in
set_option maxHeartbeats 4000000 in
theorem sg_X9_text_34 {G : zG} {d : Nat} {h : zMem} {Q : Int32 → zMem → Prop} {a0 : Nat} {x1 : Int32} {x2 : Int32} (B : (x1 ≤ x2 → zO h a0 8 ∧ ∃ r3, zR h a0 1 = some r3 ∧ ∃ r4, zR h a0 11 = some r4 ∧ zO h r3 3 ∧ ∃ Q5 : Nat → zMem → Prop, zConR G mX3_exchange d [.ref r3, .ref r4] h Q5 ∧ (∀ v8 h6, Q5 v8 h6 → zO h6 a0 8 ∧ ∃ r10, zR (zsR h6 a0 11 (some v8)) a0 4 = some r10 ∧ ∃ r11, zR (zsR h6 a0 11 (some v8)) a0 11 = some r11 ∧ zO h6 r10 5 ∧ ∃ Q12 : zMem → Prop, zConV G mX5_begin d [.ref r10, .ref r11] (zsR h6 a0 11 (some v8)) Q12 ∧ (∀ h13, Q12 h13 → zO h13 a0 8 ∧ ∃ r16, zR h13 a0 2 = some r16 ∧ zO h13 r16 1 ∧ ∃ Q17 : zMem → Prop, zConV G mX1_clear d [.ref r16] h13 Q17 ∧ (∀ h18, Q17 h18 → zO h18 a0 8 ∧ ∃ r21, zR h18 a0 3 = some r21 ∧ zO h18 r21 7 ∧ ∃ Q22 : zMem → Prop, zConV G mX8_clear d [.ref r21] h18 Q22 ∧ (∀ h23, Q22 h23 → zO h23 a0 8 ∧ Q x2 (zsI h23 a0 13 (0 : Int32))))))) ∧ (¬ x1 ≤ x2 → zO h a0 8 ∧ ∃ r31, zR h a0 1 = some r31 ∧ zO h r31 3 ∧ ∃ Q32 : Int32 → zMem → Prop, zConI G mX3_hasMore d [.ref r31] h Q32 ∧ (∀ v35 h33, Q32 v35 h33 → (v35 = 0 → zO h33 a0 8 ∧ ∃ r38, zR h33 a0 1 = some r38 ∧ ∃ r39, zR h33 a0 11 = some r39 ∧ zO h33 r38 3 ∧ ∃ Q40 : Nat → zMem → Prop, zConR G mX3_exchange d [.ref r38, .ref r39] h33 Q40 ∧ (∀ v43 h41, Q40 v43 h41 → zO h41 a0 8 ∧ ∃ r45, zR (zsR h41 a0 11 (some v43)) a0 4 = some r45 ∧ ∃ r46, zR (zsR h41 a0 11 (some v43)) a0 11 = some r46 ∧ zO h41 r45 5 ∧ ∃ Q47 : zMem → Prop, zConV G mX5_begin d [.ref r45, .ref r46] (zsR h41 a0 11 (some v43)) Q47 ∧ (∀ h48, Q47 h48 → zO h48 a0 8 ∧ ∃ r51, zR h48 a0 2 = some r51 ∧ zO h48 r51 1 ∧ ∃ Q52 : zMem → Prop, zConV G mX1_clear d [.ref r51] h48 Q52 ∧ (∀ h53, Q52 h53 → zO h53 a0 8 ∧ ∃ r56, zR h53 a0 3 = some r56 ∧ zO h53 r56 7 ∧ ∃ Q57 : zMem → Prop, zConV G mX8_clear d [.ref r56] h53 Q57 ∧ (∀ h58, Q57 h58 → zO h58 a0 8 ∧ Q x2 (zsI h58 a0 13 (0 : Int32))))))) ∧ (¬ v35 = 0 → zO h33 a0 8 ∧ ∃ r66, zR h33 a0 1 = some r66 ∧ zO h33 r66 3 ∧ ∃ Q67 : Int32 → zMem → Prop, zConI G mX3_readLine d [.ref r66] h33 Q67 ∧ (∀ v70 h68, Q67 v70 h68 → (¬ v70 = (-1 : Int32) → zg G mX9_text (d + 1) 34 [.ref a0, .int x1, .int (x2 + 1)] [] h68 (zPI Q)) ∧ (v70 = (-1 : Int32) → Q (-1 : Int32) h68)))))) : zg G mX9_text (d + 1) 34 [.ref a0, .int x1, .int x2] [] h (zPI Q) := by
  refine z_iload_n 19 rfl rfl ?_
  refine z_iload_n 20 rfl rfl ?_
  refine z_icmp_ge 21 68 rfl (by decide) ⟨fun c1 => ?_, fun c1 => ?_⟩
  · have B := B.1 c1
    refine z_aload_n 35 rfl rfl ?_
    refine z_aload_n 36 rfl rfl ?_
    obtain ⟨o2, B⟩ := B
    obtain ⟨r3, hr3, B⟩ := B
    refine z_getR 37 rfl lX9_16 rfl o2 hr3 ?_
    refine z_aload_n 38 rfl rfl ?_
    obtain ⟨r4, hr4, B⟩ := B
    refine z_getR 39 rfl lX9_67 rfl o2 hr4 ?_
    obtain ⟨o29, B⟩ := B
    obtain ⟨Q5, K7, B⟩ := B
    refine z_cVR1 (ν := mX3_exchange) 40 rfl rfl fX3_exchange gX9_95 ⟨_, rfl, rfl⟩ (by decide) o29 (Nat.le_of_ble_eq_true rfl) K7 (fun v8 h6 q => ?_)
    have B := B v8 h6 q
    obtain ⟨o9, B⟩ := B
    refine z_putR 41 rfl lX9_67 ⟨_, _, _, rfl, rfl⟩ rfl o9 ?_
    refine z_aload_n 42 rfl rfl ?_
    obtain ⟨r10, hr10, B⟩ := B
    refine z_getR 43 rfl lX9_37 rfl o9 hr10 ?_
    refine z_aload_n 44 rfl rfl ?_
    obtain ⟨r11, hr11, B⟩ := B
    refine z_getR 45 rfl lX9_67 rfl o9 hr11 ?_
    obtain ⟨o28, B⟩ := B
    obtain ⟨Q12, K14, B⟩ := B
    refine z_cVV1 (ν := mX5_begin) 46 rfl rfl fX5_begin gX9_71 ⟨_, rfl, rfl⟩ (by decide) o28 (Nat.le_of_ble_eq_true rfl) K14 (fun h13 q => ?_)
    have B := B h13 q
    refine z_aload_n 47 rfl rfl ?_
    obtain ⟨o15, B⟩ := B
    obtain ⟨r16, hr16, B⟩ := B
    refine z_getR 48 rfl lX9_23 rfl o15 hr16 ?_
    obtain ⟨o27, B⟩ := B
    obtain ⟨Q17, K19, B⟩ := B
    refine z_cVV0 (ν := mX1_clear) 49 rfl rfl fX1_clear gX9_99 ⟨_, rfl, rfl⟩ (by decide) o27 (Nat.le_of_ble_eq_true rfl) K19 (fun h18 q => ?_)
    have B := B h18 q
    refine z_aload_n 50 rfl rfl ?_
    obtain ⟨o20, B⟩ := B
    obtain ⟨r21, hr21, B⟩ := B
    refine z_getR 51 rfl lX9_30 rfl o20 hr21 ?_
    obtain ⟨o26, B⟩ := B
    obtain ⟨Q22, K24, B⟩ := B
    refine z_cVV0 (ν := mX8_clear) 52 rfl rfl fX8_clear gX9_102 ⟨_, rfl, rfl⟩ (by decide) o26 (Nat.le_of_ble_eq_true rfl) K24 (fun h23 q => ?_)
    have B := B h23 q
    refine z_aload_n 53 rfl rfl ?_
    refine z_iconst (v := 0) 54 rfl (by decide) ?_
    obtain ⟨o25, B⟩ := B
    refine z_putI 55 rfl lX9_103 ⟨_, _, _, rfl, rfl⟩ rfl rfl rfl o25 ?_
    refine z_iload_n 56 rfl rfl ?_
    exact z_iret 57 rfl rfl rfl ⟨rfl, rfl⟩ ⟨_, rfl, B⟩
  · have B := B.2 c1
    refine z_aload_n 22 rfl rfl ?_
    obtain ⟨o30, B⟩ := B
    obtain ⟨r31, hr31, B⟩ := B
    refine z_getR 23 rfl lX9_16 rfl o30 hr31 ?_
    obtain ⟨o73, B⟩ := B
    obtain ⟨Q32, K34, B⟩ := B
    refine z_cVI0 (ν := mX3_hasMore) 24 rfl rfl fX3_hasMore gX9_87 ⟨_, rfl, rfl⟩ (by decide) o73 (Nat.le_of_ble_eq_true rfl) K34 (fun v35 h33 q => ?_)
    have B := B v35 h33 q
    refine z_if_eq 25 68 rfl (by decide) ⟨fun c36 => ?_, fun c36 => ?_⟩
    · have B := B.1 c36
      refine z_aload_n 35 rfl rfl ?_
      refine z_aload_n 36 rfl rfl ?_
      obtain ⟨o37, B⟩ := B
      obtain ⟨r38, hr38, B⟩ := B
      refine z_getR 37 rfl lX9_16 rfl o37 hr38 ?_
      refine z_aload_n 38 rfl rfl ?_
      obtain ⟨r39, hr39, B⟩ := B
      refine z_getR 39 rfl lX9_67 rfl o37 hr39 ?_
      obtain ⟨o64, B⟩ := B
      obtain ⟨Q40, K42, B⟩ := B
      refine z_cVR1 (ν := mX3_exchange) 40 rfl rfl fX3_exchange gX9_95 ⟨_, rfl, rfl⟩ (by decide) o64 (Nat.le_of_ble_eq_true rfl) K42 (fun v43 h41 q => ?_)
      have B := B v43 h41 q
      obtain ⟨o44, B⟩ := B
      refine z_putR 41 rfl lX9_67 ⟨_, _, _, rfl, rfl⟩ rfl o44 ?_
      refine z_aload_n 42 rfl rfl ?_
      obtain ⟨r45, hr45, B⟩ := B
      refine z_getR 43 rfl lX9_37 rfl o44 hr45 ?_
      refine z_aload_n 44 rfl rfl ?_
      obtain ⟨r46, hr46, B⟩ := B
      refine z_getR 45 rfl lX9_67 rfl o44 hr46 ?_
      obtain ⟨o63, B⟩ := B
      obtain ⟨Q47, K49, B⟩ := B
      refine z_cVV1 (ν := mX5_begin) 46 rfl rfl fX5_begin gX9_71 ⟨_, rfl, rfl⟩ (by decide) o63 (Nat.le_of_ble_eq_true rfl) K49 (fun h48 q => ?_)
      have B := B h48 q
      refine z_aload_n 47 rfl rfl ?_
      obtain ⟨o50, B⟩ := B
      obtain ⟨r51, hr51, B⟩ := B
      refine z_getR 48 rfl lX9_23 rfl o50 hr51 ?_
      obtain ⟨o62, B⟩ := B
      obtain ⟨Q52, K54, B⟩ := B
      refine z_cVV0 (ν := mX1_clear) 49 rfl rfl fX1_clear gX9_99 ⟨_, rfl, rfl⟩ (by decide) o62 (Nat.le_of_ble_eq_true rfl) K54 (fun h53 q => ?_)
      have B := B h53 q
      refine z_aload_n 50 rfl rfl ?_
      obtain ⟨o55, B⟩ := B
      obtain ⟨r56, hr56, B⟩ := B
      refine z_getR 51 rfl lX9_30 rfl o55 hr56 ?_
      obtain ⟨o61, B⟩ := B
      obtain ⟨Q57, K59, B⟩ := B
      refine z_cVV0 (ν := mX8_clear) 52 rfl rfl fX8_clear gX9_102 ⟨_, rfl, rfl⟩ (by decide) o61 (Nat.le_of_ble_eq_true rfl) K59 (fun h58 q => ?_)
      have B := B h58 q
      refine z_aload_n 53 rfl rfl ?_
      refine z_iconst (v := 0) 54 rfl (by decide) ?_
      obtain ⟨o60, B⟩ := B
      refine z_putI 55 rfl lX9_103 ⟨_, _, _, rfl, rfl⟩ rfl rfl rfl o60 ?_
      refine z_iload_n 56 rfl rfl ?_
      exact z_iret 57 rfl rfl rfl ⟨rfl, rfl⟩ ⟨_, rfl, B⟩
    · have B := B.2 c36
      refine z_aload_n 26 rfl rfl ?_
      obtain ⟨o65, B⟩ := B
      obtain ⟨r66, hr66, B⟩ := B
      refine z_getR 27 rfl lX9_16 rfl o65 hr66 ?_
      obtain ⟨o72, B⟩ := B
      obtain ⟨Q67, K69, B⟩ := B
      refine z_cVI0 (ν := mX3_readLine) 28 rfl rfl fX3_readLine gX9_91 ⟨_, rfl, rfl⟩ (by decide) o72 (Nat.le_of_ble_eq_true rfl) K69 (fun v70 h68 q => ?_)
      have B := B v70 h68 q
      refine z_iconst (v := -1) 29 rfl (by decide) ?_
      refine z_icmp_ne 30 62 rfl (by decide) ⟨fun c71 => ?_, fun c71 => ?_⟩
      · have B := B.1 c71
        refine z_iinc (v := 1) 33 rfl rfl (by decide) (by decide) rfl ?_
        refine z_goto 34 34 rfl (by decide) ?_
        exact B
      · have B := B.2 c71
        refine z_iconst (v := -1) 31 rfl (by decide) ?_
        exact z_iret 32 rfl rfl rfl ⟨rfl, rfl⟩ ⟨_, rfl, B⟩
theorem zlk_X9_fault_1 {x : Int32} (c0 : ¬ x = 0) (c1 : ¬ x = 1) : Op.lookupswitch.offset (#[(0, 27), (1, 35)] : Array (Int × Int)).toList 43 x.toInt = 43 := by
  have c0 : ¬ (0 : Int) = x.toInt := fun e => c0 (Int32.toInt_inj.mp (by rw [← e]; decide))
  have c1 : ¬ (1 : Int) = x.toInt := fun e => c1 (Int32.toInt_inj.mp (by rw [← e]; decide))
  simp [Op.lookupswitch.offset, c0, Ne.symm c0, c1, Ne.symm c1]
set_option maxRecDepth 100000 in
set_option maxHeartbeats 4000000 in
theorem sg_X9_fault_0 {G : zG} {d : Nat} {h : zMem} {Q : Int32 → zMem → Prop} {a0 : Nat} {x1 : Int32} (B : (x1 = 0 → zO h a0 8 ∧ ∃ r2, zR h a0 1 = some r2 ∧ zO h r2 3 ∧ Q (zI h r2 7) h) ∧ (x1 = 1 → zO h a0 8 ∧ ∃ r5, zR h a0 1 = some r5 ∧ zO h r5 3 ∧ Q (zI h r5 8) h) ∧ (¬ x1 = 0 → ¬ x1 = 1 → Q (-1 : Int32) h)) : zg G mX9_fault d 0 [.ref a0, .int x1] [] h (zPI Q) := by
  refine z_iload_n 0 rfl rfl ?_
  by_cases c7_0 : x1 = 0
  · obtain ⟨B, -⟩ := B
    refine z_lookup 1 28 rfl (by decide) (by rw [c7_0]; try rfl) (by decide) ?_
    have B := B c7_0
    refine z_aload_n 2 rfl rfl ?_
    obtain ⟨o1, B⟩ := B
    obtain ⟨r2, hr2, B⟩ := B
    refine z_getR 3 rfl lX9_16 rfl o1 hr2 ?_
    obtain ⟨o3, B⟩ := B
    refine z_getI 4 rfl lX9_107 rfl o3 ?_
    exact z_iret 5 rfl rfl rfl ⟨rfl, rfl⟩ ⟨_, rfl, B⟩
  obtain ⟨-, B⟩ := B
  by_cases c7_1 : x1 = 1
  · obtain ⟨B, -⟩ := B
    refine z_lookup 1 36 rfl (by decide) (by rw [c7_1]; try rfl) (by decide) ?_
    have B := B c7_1
    refine z_aload_n 6 rfl rfl ?_
    obtain ⟨o4, B⟩ := B
    obtain ⟨r5, hr5, B⟩ := B
    refine z_getR 7 rfl lX9_16 rfl o4 hr5 ?_
    obtain ⟨o6, B⟩ := B
    refine z_getI 8 rfl lX9_110 rfl o6 ?_
    exact z_iret 9 rfl rfl rfl ⟨rfl, rfl⟩ ⟨_, rfl, B⟩
  obtain ⟨-, B⟩ := B
  have B := B c7_0 c7_1
  refine z_lookup 1 44 rfl (by decide) (zlk_X9_fault_1 c7_0 c7_1) (by decide) ?_
  refine z_iconst (v := -1) 10 rfl (by decide) ?_
  exact z_iret 11 rfl rfl rfl ⟨rfl, rfl⟩ ⟨_, rfl, B⟩
theorem cn_X9_fault {G : zG} {d : Nat} {h : zMem} {Q : Int32 → zMem → Prop} {a0 : Nat} {x1 : Int32} (B : zg G mX9_fault d 0 [.ref a0, .int x1] [] h (zPI Q)) : zConI G mX9_fault d [.ref a0, .int x1] h Q := zcon0 (by decide +kernel) eX9_fault (Nat.le_of_ble_eq_true rfl) rfl B
set_option maxRecDepth 100000 in
set_option maxHeartbeats 4000000 in
theorem sg_X9_named_0 {G : zG} {d : Nat} {h : zMem} {Q : Int32 → zMem → Prop} {a0 : Nat} {x1 : Int32} {x2 : Int32} (B : (x1 < 0 → Q (-1 : Int32) h) ∧ (¬ x1 < 0 → (x1 ≤ (3 : Int32) → zO h a0 8 ∧ ∃ r4, zR h a0 11 = some r4 ∧ zO h r4 6 ∧ ∃ Q5 : Int32 → zMem → Prop, zConI G mX7_numberOf d [.ref r4, .int x1, .int x2] h Q5 ∧ (∀ v8 h6, Q5 v8 h6 → Q v8 h6)) ∧ (¬ x1 ≤ (3 : Int32) → Q (-1 : Int32) h))) : zg G mX9_named (d + 1) 0 [.ref a0, .int x1, .int x2] [] h (zPI Q) := by
  refine z_iload_n 0 rfl rfl ?_
  refine z_if_lt 1 9 rfl (by decide) ⟨fun c1 => ?_, fun c1 => ?_⟩
  · have B := B.1 c1
    refine z_iconst (v := -1) 5 rfl (by decide) ?_
    refine z_goto 6 22 rfl (by decide) ?_
    exact z_iret 12 rfl rfl rfl ⟨rfl, rfl⟩ ⟨_, rfl, B⟩
  · have B := B.2 c1
    refine z_iload_n 2 rfl rfl ?_
    refine z_iconst (v := 3) 3 rfl (by decide) ?_
    refine z_icmp_le 4 13 rfl (by decide) ⟨fun c2 => ?_, fun c2 => ?_⟩
    · have B := B.1 c2
      refine z_aload_n 7 rfl rfl ?_
      obtain ⟨o3, B⟩ := B
      obtain ⟨r4, hr4, B⟩ := B
      refine z_getR 8 rfl lX9_67 rfl o3 hr4 ?_
      refine z_iload_n 9 rfl rfl ?_
      refine z_iload_n 10 rfl rfl ?_
      obtain ⟨o9, B⟩ := B
      obtain ⟨Q5, K7, B⟩ := B
      refine z_cVI2 (ν := mX7_numberOf) 11 rfl rfl fX7_numberOf gX9_113 ⟨_, rfl, rfl⟩ (by decide) o9 (Nat.le_of_ble_eq_true rfl) K7 (fun v8 h6 q => ?_)
      have B := B v8 h6 q
      exact z_iret 12 rfl rfl rfl ⟨rfl, rfl⟩ ⟨_, rfl, B⟩
    · have B := B.2 c2
      refine z_iconst (v := -1) 5 rfl (by decide) ?_
      refine z_goto 6 22 rfl (by decide) ?_
      exact z_iret 12 rfl rfl rfl ⟨rfl, rfl⟩ ⟨_, rfl, B⟩
theorem cn_X9_named {G : zG} {d : Nat} {h : zMem} {Q : Int32 → zMem → Prop} {a0 : Nat} {x1 : Int32} {x2 : Int32} (B : zg G mX9_named (d + 1) 0 [.ref a0, .int x1, .int x2] [] h (zPI Q)) : zConI G mX9_named (d + 1) [.ref a0, .int x1, .int x2] h Q := zcon0 (by decide +kernel) eX9_named (Nat.le_of_ble_eq_true rfl) rfl B
theorem zsw_X9_stuff_12 {x : Int32} (z1 : ¬ x.toInt < 0) (z2 : ¬ 2 < x.toInt) (c0 : ¬ x = 0) (c1 : ¬ x = 1) (c2 : ¬ x = 2) : (#[28, 38, 51] : Array Int)[(x.toInt - 0).toNat]? = some 61 := by
  obtain ⟨v, hv⟩ : ∃ v : Int, v = x.toInt := ⟨_, rfl⟩
  have c0 : v ≠ 0 := fun e => c0 (Int32.toInt_inj.mp (by rw [← hv, e]; decide))
  have c1 : v ≠ 1 := fun e => c1 (Int32.toInt_inj.mp (by rw [← hv, e]; decide))
  have c2 : v ≠ 2 := fun e => c2 (Int32.toInt_inj.mp (by rw [← hv, e]; decide))
  rw [← hv] at z1 z2 ⊢
  rcases (show v = 0 ∨ v = 1 ∨ v = 2 by omega) with rfl | rfl | rfl
  all_goals first | exact absurd rfl (by assumption) | decide
set_option maxRecDepth 100000 in
set_option maxHeartbeats 4000000 in
theorem sg_X9_stuff_0 {G : zG} {d : Nat} {h : zMem} {Q : Int32 → zMem → Prop} {a0 : Nat} {x1 : Int32} {x2 : Int32} (B : zO h a0 8 ∧ ∃ Q1 : Int32 → zMem → Prop, zConI G mX9_has d [.ref a0, .int (0 : Int32), .int x1] h Q1 ∧ (∀ v4 h2, Q1 v4 h2 → (¬ v4 = 0 → (x2 = 0 → zO h2 a0 8 ∧ ∃ r7, zR h2 a0 4 = some r7 ∧ zO h2 r7 5 ∧ ∃ r9, zR h2 r7 0 = some r9 ∧ zO h2 r9 100 ∧ vp_in x1 (zLen h2 r9) ∧ Q (zI h2 r9 x1.toNatClampNeg) h2) ∧ (x2 = 1 → zO h2 a0 8 ∧ ∃ r13, zR h2 a0 4 = some r13 ∧ ∃ r14, zR h2 a0 11 = some r14 ∧ zO h2 r13 5 ∧ ∃ Q15 : Int32 → zMem → Prop, zConI G mX5_worthOf d [.ref r13, .ref r14, .int x1] h2 Q15 ∧ (∀ v18 h16, Q15 v18 h16 → Q v18 h16)) ∧ (x2 = 2 → zO h2 a0 8 ∧ ∃ r21, zR h2 a0 4 = some r21 ∧ zO h2 r21 5 ∧ ∃ r23, zR h2 r21 1 = some r23 ∧ zO h2 r23 100 ∧ vp_in x1 (zLen h2 r23) ∧ Q (zI h2 r23 x1.toNatClampNeg) h2) ∧ (¬ x2 = 0 → ¬ x2 = 1 → ¬ x2 = 2 → Q (-1 : Int32) h2)) ∧ (v4 = 0 → Q (-1 : Int32) h2))) : zg G mX9_stuff (d + 1) 0 [.ref a0, .int x1, .int x2] [] h (zPI Q) := by
  refine z_aload_n 0 rfl rfl ?_
  refine z_iconst (v := 0) 1 rfl (by decide) ?_
  refine z_iload_n 2 rfl rfl ?_
  obtain ⟨o27, B⟩ := B
  obtain ⟨Q1, K3, B⟩ := B
  refine z_cVI2 (ν := mX9_has) 3 rfl rfl fX9_has gX9_117 ⟨_, rfl, rfl⟩ (by decide) o27 (Nat.le_of_ble_eq_true rfl) K3 (fun v4 h2 q => ?_)
  have B := B v4 h2 q
  refine z_if_ne 4 11 rfl (by decide) ⟨fun c5 => ?_, fun c5 => ?_⟩
  · have B := B.1 c5
    refine z_iload_n 7 rfl rfl ?_
    by_cases c26_0 : x2 = 0
    · obtain ⟨B, -⟩ := B
      refine z_tableIn 8 40 rfl 0 (by rw [c26_0]; decide) (by decide) (by decide) rfl (by decide) ?_
      have B := B c26_0
      refine z_aload_n 9 rfl rfl ?_
      obtain ⟨o6, B⟩ := B
      obtain ⟨r7, hr7, B⟩ := B
      refine z_getR 10 rfl lX9_37 rfl o6 hr7 ?_
      obtain ⟨o8, B⟩ := B
      obtain ⟨r9, hr9, B⟩ := B
      refine z_getR 11 rfl lX9_148 rfl o8 hr9 ?_
      refine z_iload_n 12 rfl rfl ?_
      obtain ⟨o10, B⟩ := B
      obtain ⟨o11, B⟩ := B
      refine z_iald 13 rfl o10 o11 ?_
      exact z_iret 14 rfl rfl rfl ⟨rfl, rfl⟩ ⟨_, rfl, B⟩
    obtain ⟨-, B⟩ := B
    by_cases c26_1 : x2 = 1
    · obtain ⟨B, -⟩ := B
      refine z_tableIn 8 50 rfl 1 (by rw [c26_1]; decide) (by decide) (by decide) rfl (by decide) ?_
      have B := B c26_1
      refine z_aload_n 15 rfl rfl ?_
      obtain ⟨o12, B⟩ := B
      obtain ⟨r13, hr13, B⟩ := B
      refine z_getR 16 rfl lX9_37 rfl o12 hr13 ?_
      refine z_aload_n 17 rfl rfl ?_
      obtain ⟨r14, hr14, B⟩ := B
      refine z_getR 18 rfl lX9_67 rfl o12 hr14 ?_
      refine z_iload_n 19 rfl rfl ?_
      obtain ⟨o19, B⟩ := B
      obtain ⟨Q15, K17, B⟩ := B
      refine z_cVI2 (ν := mX5_worthOf) 20 rfl rfl fX5_worthOf gX9_151 ⟨_, rfl, rfl⟩ (by decide) o19 (Nat.le_of_ble_eq_true rfl) K17 (fun v18 h16 q => ?_)
      have B := B v18 h16 q
      exact z_iret 21 rfl rfl rfl ⟨rfl, rfl⟩ ⟨_, rfl, B⟩
    obtain ⟨-, B⟩ := B
    by_cases c26_2 : x2 = 2
    · obtain ⟨B, -⟩ := B
      refine z_tableIn 8 63 rfl 2 (by rw [c26_2]; decide) (by decide) (by decide) rfl (by decide) ?_
      have B := B c26_2
      refine z_aload_n 22 rfl rfl ?_
      obtain ⟨o20, B⟩ := B
      obtain ⟨r21, hr21, B⟩ := B
      refine z_getR 23 rfl lX9_37 rfl o20 hr21 ?_
      obtain ⟨o22, B⟩ := B
      obtain ⟨r23, hr23, B⟩ := B
      refine z_getR 24 rfl lX9_155 rfl o22 hr23 ?_
      refine z_iload_n 25 rfl rfl ?_
      obtain ⟨o24, B⟩ := B
      obtain ⟨o25, B⟩ := B
      refine z_iald 26 rfl o24 o25 ?_
      exact z_iret 27 rfl rfl rfl ⟨rfl, rfl⟩ ⟨_, rfl, B⟩
    obtain ⟨-, B⟩ := B
    have B := B c26_0 c26_1 c26_2
    refine z_tableD 8 73 rfl (by decide) (by
      intro z1 z2
      refine zsw_X9_stuff_12 z1 z2 c26_0 c26_1 c26_2) ?_
    refine z_iconst (v := -1) 28 rfl (by decide) ?_
    exact z_iret 29 rfl rfl rfl ⟨rfl, rfl⟩ ⟨_, rfl, B⟩
  · have B := B.2 c5
    refine z_iconst (v := -1) 5 rfl (by decide) ?_
    exact z_iret 6 rfl rfl rfl ⟨rfl, rfl⟩ ⟨_, rfl, B⟩
theorem cn_X9_stuff {G : zG} {d : Nat} {h : zMem} {Q : Int32 → zMem → Prop} {a0 : Nat} {x1 : Int32} {x2 : Int32} (B : zg G mX9_stuff (d + 1) 0 [.ref a0, .int x1, .int x2] [] h (zPI Q)) : zConI G mX9_stuff (d + 1) [.ref a0, .int x1, .int x2] h Q := zcon0 (by decide +kernel) eX9_stuff (Nat.le_of_ble_eq_true rfl) rfl B
set_option maxRecDepth 100000 in
set_option maxHeartbeats 4000000 in
theorem sg_X9_mix_0 {G : zG} {d : Nat} {h : zMem} {Q : Int32 → zMem → Prop} {a0 : Nat} {x1 : Int32} {x2 : Int32} (B : zO h a0 8 ∧ ∃ Q1 : Int32 → zMem → Prop, zConI G mX9_has d [.ref a0, .int (1 : Int32), .int x1] h Q1 ∧ (∀ v4 h2, Q1 v4 h2 → (v4 = 0 → Q (-1 : Int32) h2) ∧ (¬ v4 = 0 → zO h2 a0 8 ∧ ∃ Q6 : Int32 → zMem → Prop, zConI G mX9_has d [.ref a0, .int (0 : Int32), .int x2] h2 Q6 ∧ (∀ v9 h7, Q6 v9 h7 → (v9 = 0 → Q (-1 : Int32) h7) ∧ (¬ v9 = 0 → zO h7 a0 8 ∧ ∃ r12, zR h7 a0 11 = some r12 ∧ zO h7 r12 6 ∧ ∃ r14, zR h7 r12 4 = some r14 ∧ zO h7 r14 104 ∧ vp_in x1 (zLen h7 r14) ∧ ∃ r17, zR h7 r14 x1.toNatClampNeg = some r17 ∧ zO h7 r17 100 ∧ vp_in x2 (zLen h7 r17) ∧ Q (zI h7 r17 x2.toNatClampNeg) h7))))) : zg G mX9_mix (d + 1) 0 [.ref a0, .int x1, .int x2] [] h (zPI Q) := by
  refine z_aload_n 0 rfl rfl ?_
  refine z_iconst (v := 1) 1 rfl (by decide) ?_
  refine z_iload_n 2 rfl rfl ?_
  obtain ⟨o21, B⟩ := B
  obtain ⟨Q1, K3, B⟩ := B
  refine z_cVI2 (ν := mX9_has) 3 rfl rfl fX9_has gX9_117 ⟨_, rfl, rfl⟩ (by decide) o21 (Nat.le_of_ble_eq_true rfl) K3 (fun v4 h2 q => ?_)
  have B := B v4 h2 q
  refine z_if_eq 4 32 rfl (by decide) ⟨fun c5 => ?_, fun c5 => ?_⟩
  · have B := B.1 c5
    refine z_iconst (v := -1) 18 rfl (by decide) ?_
    exact z_iret 19 rfl rfl rfl ⟨rfl, rfl⟩ ⟨_, rfl, B⟩
  · have B := B.2 c5
    refine z_aload_n 5 rfl rfl ?_
    refine z_iconst (v := 0) 6 rfl (by decide) ?_
    refine z_iload_n 7 rfl rfl ?_
    obtain ⟨o20, B⟩ := B
    obtain ⟨Q6, K8, B⟩ := B
    refine z_cVI2 (ν := mX9_has) 8 rfl rfl fX9_has gX9_117 ⟨_, rfl, rfl⟩ (by decide) o20 (Nat.le_of_ble_eq_true rfl) K8 (fun v9 h7 q => ?_)
    have B := B v9 h7 q
    refine z_if_eq 9 32 rfl (by decide) ⟨fun c10 => ?_, fun c10 => ?_⟩
    · have B := B.1 c10
      refine z_iconst (v := -1) 18 rfl (by decide) ?_
      exact z_iret 19 rfl rfl rfl ⟨rfl, rfl⟩ ⟨_, rfl, B⟩
    · have B := B.2 c10
      refine z_aload_n 10 rfl rfl ?_
      obtain ⟨o11, B⟩ := B
      obtain ⟨r12, hr12, B⟩ := B
      refine z_getR 11 rfl lX9_67 rfl o11 hr12 ?_
      obtain ⟨o13, B⟩ := B
      obtain ⟨r14, hr14, B⟩ := B
      refine z_getR 12 rfl lX9_158 rfl o13 hr14 ?_
      refine z_iload_n 13 rfl rfl ?_
      obtain ⟨o15, B⟩ := B
      obtain ⟨o16, B⟩ := B
      obtain ⟨r17, hr17, B⟩ := B
      refine z_aald 14 rfl o15 o16 hr17 ?_
      refine z_iload_n 15 rfl rfl ?_
      obtain ⟨o18, B⟩ := B
      obtain ⟨o19, B⟩ := B
      refine z_iald 16 rfl o18 o19 ?_
      refine z_goto 17 33 rfl (by decide) ?_
      exact z_iret 19 rfl rfl rfl ⟨rfl, rfl⟩ ⟨_, rfl, B⟩
theorem cn_X9_mix {G : zG} {d : Nat} {h : zMem} {Q : Int32 → zMem → Prop} {a0 : Nat} {x1 : Int32} {x2 : Int32} (B : zg G mX9_mix (d + 1) 0 [.ref a0, .int x1, .int x2] [] h (zPI Q)) : zConI G mX9_mix (d + 1) [.ref a0, .int x1, .int x2] h Q := zcon0 (by decide +kernel) eX9_mix (Nat.le_of_ble_eq_true rfl) rfl B
set_option maxRecDepth 100000 in
set_option maxHeartbeats 4000000 in
theorem sg_X9_feast_0 {G : zG} {d : Nat} {h : zMem} {Q : Int32 → zMem → Prop} {a0 : Nat} {x1 : Int32} (B : zO h a0 8 ∧ ∃ Q1 : Int32 → zMem → Prop, zConI G mX9_has d [.ref a0, .int (1 : Int32), .int x1] h Q1 ∧ (∀ v4 h2, Q1 v4 h2 → (¬ v4 = 0 → zO h2 a0 8 ∧ ∃ r7, zR h2 a0 11 = some r7 ∧ zO h2 r7 6 ∧ ∃ r9, zR h2 r7 3 = some r9 ∧ zO h2 r9 103 ∧ vp_in x1 (zLen h2 r9) ∧ ((zI h2 r9 x1.toNatClampNeg) = 0 → Q (0 : Int32) h2) ∧ (¬ (zI h2 r9 x1.toNatClampNeg) = 0 → Q (1 : Int32) h2)) ∧ (v4 = 0 → Q (-1 : Int32) h2))) : zg G mX9_feast (d + 1) 0 [.ref a0, .int x1] [] h (zPI Q) := by
  refine z_aload_n 0 rfl rfl ?_
  refine z_iconst (v := 1) 1 rfl (by decide) ?_
  refine z_iload_n 2 rfl rfl ?_
  obtain ⟨o13, B⟩ := B
  obtain ⟨Q1, K3, B⟩ := B
  refine z_cVI2 (ν := mX9_has) 3 rfl rfl fX9_has gX9_117 ⟨_, rfl, rfl⟩ (by decide) o13 (Nat.le_of_ble_eq_true rfl) K3 (fun v4 h2 q => ?_)
  have B := B v4 h2 q
  refine z_if_ne 4 11 rfl (by decide) ⟨fun c5 => ?_, fun c5 => ?_⟩
  · have B := B.1 c5
    refine z_aload_n 7 rfl rfl ?_
    obtain ⟨o6, B⟩ := B
    obtain ⟨r7, hr7, B⟩ := B
    refine z_getR 8 rfl lX9_67 rfl o6 hr7 ?_
    obtain ⟨o8, B⟩ := B
    obtain ⟨r9, hr9, B⟩ := B
    refine z_getR 9 rfl lX9_162 rfl o8 hr9 ?_
    refine z_iload_n 10 rfl rfl ?_
    obtain ⟨o10, B⟩ := B
    obtain ⟨o11, B⟩ := B
    refine z_zald 11 rfl o10 o11 ?_
    refine z_if_eq 12 27 rfl (by decide) ⟨fun c12 => ?_, fun c12 => ?_⟩
    · have B := B.1 c12
      refine z_iconst (v := 0) 15 rfl (by decide) ?_
      exact z_iret 16 rfl rfl rfl ⟨rfl, rfl⟩ ⟨_, rfl, B⟩
    · have B := B.2 c12
      refine z_iconst (v := 1) 13 rfl (by decide) ?_
      refine z_goto 14 28 rfl (by decide) ?_
      exact z_iret 16 rfl rfl rfl ⟨rfl, rfl⟩ ⟨_, rfl, B⟩
  · have B := B.2 c5
    refine z_iconst (v := -1) 5 rfl (by decide) ?_
    exact z_iret 6 rfl rfl rfl ⟨rfl, rfl⟩ ⟨_, rfl, B⟩
theorem cn_X9_feast {G : zG} {d : Nat} {h : zMem} {Q : Int32 → zMem → Prop} {a0 : Nat} {x1 : Int32} (B : zg G mX9_feast (d + 1) 0 [.ref a0, .int x1] [] h (zPI Q)) : zConI G mX9_feast (d + 1) [.ref a0, .int x1] h Q := zcon0 (by decide +kernel) eX9_feast (Nat.le_of_ble_eq_true rfl) rfl B
set_option maxRecDepth 100000 in
set_option maxHeartbeats 4000000 in
theorem sg_X9_air_0 {G : zG} {d : Nat} {h : zMem} {Q : Int32 → zMem → Prop} {a0 : Nat} {x1 : Int32} {x2 : Int32} (B : zO h a0 8 ∧ ∃ Q1 : Int32 → zMem → Prop, zConI G mX9_has d [.ref a0, .int (2 : Int32), .int x1] h Q1 ∧ (∀ v4 h2, Q1 v4 h2 → (v4 = 0 → Q (-1 : Int32) h2) ∧ (¬ v4 = 0 → zO h2 a0 8 ∧ ∃ Q6 : Int32 → zMem → Prop, zConI G mX9_has d [.ref a0, .int (0 : Int32), .int x2] h2 Q6 ∧ (∀ v9 h7, Q6 v9 h7 → (v9 = 0 → Q (-1 : Int32) h7) ∧ (¬ v9 = 0 → zO h7 a0 8 ∧ ∃ r12, zR h7 a0 4 = some r12 ∧ zO h7 r12 5 ∧ ∃ r14, zR h7 r12 3 = some r14 ∧ zO h7 r14 104 ∧ vp_in x1 (zLen h7 r14) ∧ ∃ r17, zR h7 r14 x1.toNatClampNeg = some r17 ∧ zO h7 r17 100 ∧ vp_in x2 (zLen h7 r17) ∧ Q (zI h7 r17 x2.toNatClampNeg) h7))))) : zg G mX9_air (d + 1) 0 [.ref a0, .int x1, .int x2] [] h (zPI Q) := by
  refine z_aload_n 0 rfl rfl ?_
  refine z_iconst (v := 2) 1 rfl (by decide) ?_
  refine z_iload_n 2 rfl rfl ?_
  obtain ⟨o21, B⟩ := B
  obtain ⟨Q1, K3, B⟩ := B
  refine z_cVI2 (ν := mX9_has) 3 rfl rfl fX9_has gX9_117 ⟨_, rfl, rfl⟩ (by decide) o21 (Nat.le_of_ble_eq_true rfl) K3 (fun v4 h2 q => ?_)
  have B := B v4 h2 q
  refine z_if_eq 4 32 rfl (by decide) ⟨fun c5 => ?_, fun c5 => ?_⟩
  · have B := B.1 c5
    refine z_iconst (v := -1) 18 rfl (by decide) ?_
    exact z_iret 19 rfl rfl rfl ⟨rfl, rfl⟩ ⟨_, rfl, B⟩
  · have B := B.2 c5
    refine z_aload_n 5 rfl rfl ?_
    refine z_iconst (v := 0) 6 rfl (by decide) ?_
    refine z_iload_n 7 rfl rfl ?_
    obtain ⟨o20, B⟩ := B
    obtain ⟨Q6, K8, B⟩ := B
    refine z_cVI2 (ν := mX9_has) 8 rfl rfl fX9_has gX9_117 ⟨_, rfl, rfl⟩ (by decide) o20 (Nat.le_of_ble_eq_true rfl) K8 (fun v9 h7 q => ?_)
    have B := B v9 h7 q
    refine z_if_eq 9 32 rfl (by decide) ⟨fun c10 => ?_, fun c10 => ?_⟩
    · have B := B.1 c10
      refine z_iconst (v := -1) 18 rfl (by decide) ?_
      exact z_iret 19 rfl rfl rfl ⟨rfl, rfl⟩ ⟨_, rfl, B⟩
    · have B := B.2 c10
      refine z_aload_n 10 rfl rfl ?_
      obtain ⟨o11, B⟩ := B
      obtain ⟨r12, hr12, B⟩ := B
      refine z_getR 11 rfl lX9_37 rfl o11 hr12 ?_
      obtain ⟨o13, B⟩ := B
      obtain ⟨r14, hr14, B⟩ := B
      refine z_getR 12 rfl lX9_166 rfl o13 hr14 ?_
      refine z_iload_n 13 rfl rfl ?_
      obtain ⟨o15, B⟩ := B
      obtain ⟨o16, B⟩ := B
      obtain ⟨r17, hr17, B⟩ := B
      refine z_aald 14 rfl o15 o16 hr17 ?_
      refine z_iload_n 15 rfl rfl ?_
      obtain ⟨o18, B⟩ := B
      obtain ⟨o19, B⟩ := B
      refine z_iald 16 rfl o18 o19 ?_
      refine z_goto 17 33 rfl (by decide) ?_
      exact z_iret 19 rfl rfl rfl ⟨rfl, rfl⟩ ⟨_, rfl, B⟩
theorem cn_X9_air {G : zG} {d : Nat} {h : zMem} {Q : Int32 → zMem → Prop} {a0 : Nat} {x1 : Int32} {x2 : Int32} (B : zg G mX9_air (d + 1) 0 [.ref a0, .int x1, .int x2] [] h (zPI Q)) : zConI G mX9_air (d + 1) [.ref a0, .int x1, .int x2] h Q := zcon0 (by decide +kernel) eX9_air (Nat.le_of_ble_eq_true rfl) rfl B
set_option maxRecDepth 100000 in
set_option maxHeartbeats 4000000 in
theorem sg_X9_mark_0 {G : zG} {d : Nat} {h : zMem} {Q : Int32 → zMem → Prop} {a0 : Nat} {x1 : Int32} {x2 : Int32} (B : zO h a0 8 ∧ ∃ Q1 : Int32 → zMem → Prop, zConI G mX9_has d [.ref a0, .int (3 : Int32), .int x1] h Q1 ∧ (∀ v4 h2, Q1 v4 h2 → (v4 = 0 → Q (-1 : Int32) h2) ∧ (¬ v4 = 0 → zO h2 a0 8 ∧ ∃ Q6 : Int32 → zMem → Prop, zConI G mX9_has d [.ref a0, .int (1 : Int32), .int x2] h2 Q6 ∧ (∀ v9 h7, Q6 v9 h7 → (¬ v9 = 0 → zO h7 a0 8 ∧ ∃ r12, zR h7 a0 4 = some r12 ∧ ∃ r13, zR h7 a0 11 = some r13 ∧ ∃ Q14 : Int32 → zMem → Prop, zConI G mX9_keenNow d [.ref a0, .int x1] h7 Q14 ∧ (∀ v17 h15, Q14 v17 h15 → zO h15 r12 5 ∧ ∃ Q18 : Int32 → zMem → Prop, zConI G mX5_markOf d [.ref r12, .ref r13, .int x1, .int x2, .int v17] h15 Q18 ∧ (∀ v21 h19, Q18 v21 h19 → Q v21 h19))) ∧ (v9 = 0 → Q (-1 : Int32) h7))))) : zg G mX9_mark (d + 1) 0 [.ref a0, .int x1, .int x2] [] h (zPI Q) := by
  refine z_aload_n 0 rfl rfl ?_
  refine z_iconst (v := 3) 1 rfl (by decide) ?_
  refine z_iload_n 2 rfl rfl ?_
  obtain ⟨o24, B⟩ := B
  obtain ⟨Q1, K3, B⟩ := B
  refine z_cVI2 (ν := mX9_has) 3 rfl rfl fX9_has gX9_117 ⟨_, rfl, rfl⟩ (by decide) o24 (Nat.le_of_ble_eq_true rfl) K3 (fun v4 h2 q => ?_)
  have B := B v4 h2 q
  refine z_if_eq 4 18 rfl (by decide) ⟨fun c5 => ?_, fun c5 => ?_⟩
  · have B := B.1 c5
    refine z_iconst (v := -1) 10 rfl (by decide) ?_
    exact z_iret 11 rfl rfl rfl ⟨rfl, rfl⟩ ⟨_, rfl, B⟩
  · have B := B.2 c5
    refine z_aload_n 5 rfl rfl ?_
    refine z_iconst (v := 1) 6 rfl (by decide) ?_
    refine z_iload_n 7 rfl rfl ?_
    obtain ⟨o23, B⟩ := B
    obtain ⟨Q6, K8, B⟩ := B
    refine z_cVI2 (ν := mX9_has) 8 rfl rfl fX9_has gX9_117 ⟨_, rfl, rfl⟩ (by decide) o23 (Nat.le_of_ble_eq_true rfl) K8 (fun v9 h7 q => ?_)
    have B := B v9 h7 q
    refine z_if_ne 9 20 rfl (by decide) ⟨fun c10 => ?_, fun c10 => ?_⟩
    · have B := B.1 c10
      refine z_aload_n 12 rfl rfl ?_
      obtain ⟨o11, B⟩ := B
      obtain ⟨r12, hr12, B⟩ := B
      refine z_getR 13 rfl lX9_37 rfl o11 hr12 ?_
      refine z_aload_n 14 rfl rfl ?_
      obtain ⟨r13, hr13, B⟩ := B
      refine z_getR 15 rfl lX9_67 rfl o11 hr13 ?_
      refine z_iload_n 16 rfl rfl ?_
      refine z_iload_n 17 rfl rfl ?_
      refine z_aload_n 18 rfl rfl ?_
      refine z_iload_n 19 rfl rfl ?_
      obtain ⟨Q14, K16, B⟩ := B
      refine z_cVI1 (ν := mX9_keenNow) 20 rfl rfl fX9_keenNow gX9_169 ⟨_, rfl, rfl⟩ (by decide) o11 (Nat.le_of_ble_eq_true rfl) K16 (fun v17 h15 q => ?_)
      have B := B v17 h15 q
      obtain ⟨o22, B⟩ := B
      obtain ⟨Q18, K20, B⟩ := B
      refine z_cVI4 (ν := mX5_markOf) 21 rfl rfl fX5_markOf gX9_173 ⟨_, rfl, rfl⟩ (by decide) o22 (Nat.le_of_ble_eq_true rfl) K20 (fun v21 h19 q => ?_)
      have B := B v21 h19 q
      exact z_iret 22 rfl rfl rfl ⟨rfl, rfl⟩ ⟨_, rfl, B⟩
    · have B := B.2 c10
      refine z_iconst (v := -1) 10 rfl (by decide) ?_
      exact z_iret 11 rfl rfl rfl ⟨rfl, rfl⟩ ⟨_, rfl, B⟩
theorem cn_X9_mark {G : zG} {d : Nat} {h : zMem} {Q : Int32 → zMem → Prop} {a0 : Nat} {x1 : Int32} {x2 : Int32} (B : zg G mX9_mark (d + 1) 0 [.ref a0, .int x1, .int x2] [] h (zPI Q)) : zConI G mX9_mark (d + 1) [.ref a0, .int x1, .int x2] h Q := zcon0 (by decide +kernel) eX9_mark (Nat.le_of_ble_eq_true rfl) rfl B
theorem zsw_X9_law_1 {x : Int32} (z1 : ¬ x.toInt < 0) (z2 : ¬ 2 < x.toInt) (c0 : ¬ x = 0) (c1 : ¬ x = 1) (c2 : ¬ x = 2) : (#[27, 66, 103] : Array Int)[(x.toInt - 0).toNat]? = some 131 := by
  obtain ⟨v, hv⟩ : ∃ v : Int, v = x.toInt := ⟨_, rfl⟩
  have c0 : v ≠ 0 := fun e => c0 (Int32.toInt_inj.mp (by rw [← hv, e]; decide))
  have c1 : v ≠ 1 := fun e => c1 (Int32.toInt_inj.mp (by rw [← hv, e]; decide))
  have c2 : v ≠ 2 := fun e => c2 (Int32.toInt_inj.mp (by rw [← hv, e]; decide))
  rw [← hv] at z1 z2 ⊢
  rcases (show v = 0 ∨ v = 1 ∨ v = 2 by omega) with rfl | rfl | rfl
  all_goals first | exact absurd rfl (by assumption) | decide
set_option maxRecDepth 100000 in
set_option maxHeartbeats 4000000 in
theorem sg_X9_law_0 {G : zG} {d : Nat} {h : zMem} {Q : Int64 → zMem → Prop} {a0 : Nat} {x1 : Int32} {x2 : Int32} {x3 : Int32} (B : (x1 = 0 → zO h a0 8 ∧ ∃ Q1 : Int32 → zMem → Prop, zConI G mX9_has d [.ref a0, .int (2 : Int32), .int x2] h Q1 ∧ (∀ v4 h2, Q1 v4 h2 → (v4 = 0 → Q (-9223372036854775808 : Int64) h2) ∧ (¬ v4 = 0 → zO h2 a0 8 ∧ ∃ Q6 : Int32 → zMem → Prop, zConI G mX9_has d [.ref a0, .int (0 : Int32), .int x3] h2 Q6 ∧ (∀ v9 h7, Q6 v9 h7 → (v9 = 0 → Q (-9223372036854775808 : Int64) h7) ∧ (¬ v9 = 0 → zO h7 a0 8 ∧ ∃ r12, zR h7 a0 4 = some r12 ∧ ∃ r13, zR h7 a0 11 = some r13 ∧ zO h7 r12 5 ∧ ∃ Q14 : Int64 → zMem → Prop, zConL G mX5_airLaw d [.ref r12, .ref r13, .int x2, .int x3, .int (0 : Int32)] h7 Q14 ∧ (∀ v17 h15, Q14 v17 h15 → Q v17 h15)))))) ∧ (x1 = 1 → zO h a0 8 ∧ ∃ Q21 : Int32 → zMem → Prop, zConI G mX9_has d [.ref a0, .int (3 : Int32), .int x2] h Q21 ∧ (∀ v24 h22, Q21 v24 h22 → (v24 = 0 → Q (-9223372036854775808 : Int64) h22) ∧ (¬ v24 = 0 → zO h22 a0 8 ∧ ∃ r27, zR h22 a0 4 = some r27 ∧ ∃ r28, zR h22 a0 11 = some r28 ∧ zO h22 r27 5 ∧ ∃ r30, zR h22 r27 4 = some r30 ∧ zO h22 r30 100 ∧ vp_in x2 (zLen h22 r30) ∧ ∃ Q33 : Int64 → zMem → Prop, zConL G mX5_keenLaw d [.ref r27, .ref r28, .int x2, .int (zI h22 r30 x2.toNatClampNeg)] h22 Q33 ∧ (∀ v36 h34, Q33 v36 h34 → Q v36 h34)))) ∧ (x1 = 2 → zO h a0 8 ∧ ∃ Q38 : Int32 → zMem → Prop, zConI G mX9_has d [.ref a0, .int (0 : Int32), .int x3] h Q38 ∧ (∀ v41 h39, Q38 v41 h39 → (v41 = 0 → Q (-9223372036854775808 : Int64) h39) ∧ (¬ v41 = 0 → zO h39 a0 8 ∧ ∃ r44, zR h39 a0 4 = some r44 ∧ ∃ r45, zR h39 a0 11 = some r45 ∧ zO h39 r44 5 ∧ ∃ Q46 : Int64 → zMem → Prop, zConL G mX5_worthLaw d [.ref r44, .ref r45, .int x3] h39 Q46 ∧ (∀ v49 h47, Q46 v49 h47 → Q v49 h47)))) ∧ (¬ x1 = 0 → ¬ x1 = 1 → ¬ x1 = 2 → Q (-9223372036854775808 : Int64) h)) : zg G mX9_law (d + 1) 0 [.ref a0, .int x1, .int x2, .int x3] [] h (zPL Q) := by
  refine z_iload_n 0 rfl rfl ?_
  by_cases c52_0 : x1 = 0
  · obtain ⟨B, -⟩ := B
    refine z_tableIn 1 28 rfl 0 (by rw [c52_0]; decide) (by decide) (by decide) rfl (by decide) ?_
    have B := B c52_0
    refine z_aload_n 2 rfl rfl ?_
    refine z_iconst (v := 2) 3 rfl (by decide) ?_
    refine z_iload_n 4 rfl rfl ?_
    obtain ⟨o20, B⟩ := B
    obtain ⟨Q1, K3, B⟩ := B
    refine z_cVI2 (ν := mX9_has) 5 rfl rfl fX9_has gX9_117 ⟨_, rfl, rfl⟩ (by decide) o20 (Nat.le_of_ble_eq_true rfl) K3 (fun v4 h2 q => ?_)
    have B := B v4 h2 q
    refine z_if_eq 6 63 rfl (by decide) ⟨fun c5 => ?_, fun c5 => ?_⟩
    · have B := B.1 c5
      refine z_ldc2 21 rfl kX9_181 ?_
      exact z_lret 22 rfl rfl ⟨rfl, rfl⟩ ⟨_, rfl, B⟩
    · have B := B.2 c5
      refine z_aload_n 7 rfl rfl ?_
      refine z_iconst (v := 0) 8 rfl (by decide) ?_
      refine z_iload_n 9 rfl rfl ?_
      obtain ⟨o19, B⟩ := B
      obtain ⟨Q6, K8, B⟩ := B
      refine z_cVI2 (ν := mX9_has) 10 rfl rfl fX9_has gX9_117 ⟨_, rfl, rfl⟩ (by decide) o19 (Nat.le_of_ble_eq_true rfl) K8 (fun v9 h7 q => ?_)
      have B := B v9 h7 q
      refine z_if_eq 11 63 rfl (by decide) ⟨fun c10 => ?_, fun c10 => ?_⟩
      · have B := B.1 c10
        refine z_ldc2 21 rfl kX9_181 ?_
        exact z_lret 22 rfl rfl ⟨rfl, rfl⟩ ⟨_, rfl, B⟩
      · have B := B.2 c10
        refine z_aload_n 12 rfl rfl ?_
        obtain ⟨o11, B⟩ := B
        obtain ⟨r12, hr12, B⟩ := B
        refine z_getR 13 rfl lX9_37 rfl o11 hr12 ?_
        refine z_aload_n 14 rfl rfl ?_
        obtain ⟨r13, hr13, B⟩ := B
        refine z_getR 15 rfl lX9_67 rfl o11 hr13 ?_
        refine z_iload_n 16 rfl rfl ?_
        refine z_iload_n 17 rfl rfl ?_
        refine z_iconst (v := 0) 18 rfl (by decide) ?_
        obtain ⟨o18, B⟩ := B
        obtain ⟨Q14, K16, B⟩ := B
        refine z_cVL4 (ν := mX5_airLaw) 19 rfl rfl fX5_airLaw gX9_177 ⟨_, rfl, rfl⟩ (by decide) o18 (Nat.le_of_ble_eq_true rfl) K16 (fun v17 h15 q => ?_)
        have B := B v17 h15 q
        refine z_goto 20 66 rfl (by decide) ?_
        exact z_lret 22 rfl rfl ⟨rfl, rfl⟩ ⟨_, rfl, B⟩
  obtain ⟨-, B⟩ := B
  by_cases c52_1 : x1 = 1
  · obtain ⟨B, -⟩ := B
    refine z_tableIn 1 67 rfl 1 (by rw [c52_1]; decide) (by decide) (by decide) rfl (by decide) ?_
    have B := B c52_1
    refine z_aload_n 23 rfl rfl ?_
    refine z_iconst (v := 3) 24 rfl (by decide) ?_
    refine z_iload_n 25 rfl rfl ?_
    obtain ⟨o37, B⟩ := B
    obtain ⟨Q21, K23, B⟩ := B
    refine z_cVI2 (ν := mX9_has) 26 rfl rfl fX9_has gX9_117 ⟨_, rfl, rfl⟩ (by decide) o37 (Nat.le_of_ble_eq_true rfl) K23 (fun v24 h22 q => ?_)
    have B := B v24 h22 q
    refine z_if_eq 27 100 rfl (by decide) ⟨fun c25 => ?_, fun c25 => ?_⟩
    · have B := B.1 c25
      refine z_ldc2 40 rfl kX9_181 ?_
      exact z_lret 41 rfl rfl ⟨rfl, rfl⟩ ⟨_, rfl, B⟩
    · have B := B.2 c25
      refine z_aload_n 28 rfl rfl ?_
      obtain ⟨o26, B⟩ := B
      obtain ⟨r27, hr27, B⟩ := B
      refine z_getR 29 rfl lX9_37 rfl o26 hr27 ?_
      refine z_aload_n 30 rfl rfl ?_
      obtain ⟨r28, hr28, B⟩ := B
      refine z_getR 31 rfl lX9_67 rfl o26 hr28 ?_
      refine z_iload_n 32 rfl rfl ?_
      refine z_aload_n 33 rfl rfl ?_
      refine z_getR 34 rfl lX9_37 rfl o26 hr27 ?_
      obtain ⟨o29, B⟩ := B
      obtain ⟨r30, hr30, B⟩ := B
      refine z_getR 35 rfl lX9_128 rfl o29 hr30 ?_
      refine z_iload_n 36 rfl rfl ?_
      obtain ⟨o31, B⟩ := B
      obtain ⟨o32, B⟩ := B
      refine z_iald 37 rfl o31 o32 ?_
      obtain ⟨Q33, K35, B⟩ := B
      refine z_cVL3 (ν := mX5_keenLaw) 38 rfl rfl fX5_keenLaw gX9_183 ⟨_, rfl, rfl⟩ (by decide) o29 (Nat.le_of_ble_eq_true rfl) K35 (fun v36 h34 q => ?_)
      have B := B v36 h34 q
      refine z_goto 39 103 rfl (by decide) ?_
      exact z_lret 41 rfl rfl ⟨rfl, rfl⟩ ⟨_, rfl, B⟩
  obtain ⟨-, B⟩ := B
  by_cases c52_2 : x1 = 2
  · obtain ⟨B, -⟩ := B
    refine z_tableIn 1 104 rfl 2 (by rw [c52_2]; decide) (by decide) (by decide) rfl (by decide) ?_
    have B := B c52_2
    refine z_aload_n 42 rfl rfl ?_
    refine z_iconst (v := 0) 43 rfl (by decide) ?_
    refine z_iload_n 44 rfl rfl ?_
    obtain ⟨o51, B⟩ := B
    obtain ⟨Q38, K40, B⟩ := B
    refine z_cVI2 (ν := mX9_has) 45 rfl rfl fX9_has gX9_117 ⟨_, rfl, rfl⟩ (by decide) o51 (Nat.le_of_ble_eq_true rfl) K40 (fun v41 h39 q => ?_)
    have B := B v41 h39 q
    refine z_if_eq 46 128 rfl (by decide) ⟨fun c42 => ?_, fun c42 => ?_⟩
    · have B := B.1 c42
      refine z_ldc2 54 rfl kX9_181 ?_
      exact z_lret 55 rfl rfl ⟨rfl, rfl⟩ ⟨_, rfl, B⟩
    · have B := B.2 c42
      refine z_aload_n 47 rfl rfl ?_
      obtain ⟨o43, B⟩ := B
      obtain ⟨r44, hr44, B⟩ := B
      refine z_getR 48 rfl lX9_37 rfl o43 hr44 ?_
      refine z_aload_n 49 rfl rfl ?_
      obtain ⟨r45, hr45, B⟩ := B
      refine z_getR 50 rfl lX9_67 rfl o43 hr45 ?_
      refine z_iload_n 51 rfl rfl ?_
      obtain ⟨o50, B⟩ := B
      obtain ⟨Q46, K48, B⟩ := B
      refine z_cVL2 (ν := mX5_worthLaw) 52 rfl rfl fX5_worthLaw gX9_187 ⟨_, rfl, rfl⟩ (by decide) o50 (Nat.le_of_ble_eq_true rfl) K48 (fun v49 h47 q => ?_)
      have B := B v49 h47 q
      refine z_goto 53 131 rfl (by decide) ?_
      exact z_lret 55 rfl rfl ⟨rfl, rfl⟩ ⟨_, rfl, B⟩
  obtain ⟨-, B⟩ := B
  have B := B c52_0 c52_1 c52_2
  refine z_tableD 1 132 rfl (by decide) (by
    intro z1 z2
    refine zsw_X9_law_1 z1 z2 c52_0 c52_1 c52_2) ?_
  refine z_ldc2 56 rfl kX9_181 ?_
  exact z_lret 57 rfl rfl ⟨rfl, rfl⟩ ⟨_, rfl, B⟩
theorem cn_X9_law {G : zG} {d : Nat} {h : zMem} {Q : Int64 → zMem → Prop} {a0 : Nat} {x1 : Int32} {x2 : Int32} {x3 : Int32} (B : zg G mX9_law (d + 1) 0 [.ref a0, .int x1, .int x2, .int x3] [] h (zPL Q)) : zConL G mX9_law (d + 1) [.ref a0, .int x1, .int x2, .int x3] h Q := zcon0 (by decide +kernel) eX9_law (Nat.le_of_ble_eq_true rfl) rfl B
set_option maxRecDepth 100000 in
set_option maxHeartbeats 4000000 in
theorem sg_X9_cold_0 {G : zG} {d : Nat} {h : zMem} {Q : Int32 → zMem → Prop} {a0 : Nat} {x1 : Int32} {x2 : Int32} {x3 : Int32} (B : zO h a0 8 ∧ ∃ Q1 : Int32 → zMem → Prop, zConI G mX9_has d [.ref a0, .int (3 : Int32), .int x1] h Q1 ∧ (∀ v4 h2, Q1 v4 h2 → (v4 = 0 → Q (0 : Int32) h2) ∧ (¬ v4 = 0 → zO h2 a0 8 ∧ ∃ Q6 : Int32 → zMem → Prop, zConI G mX9_has d [.ref a0, .int (0 : Int32), .int x2] h2 Q6 ∧ (∀ v9 h7, Q6 v9 h7 → (¬ v9 = 0 → zO h7 a0 8 ∧ ∃ r12, zR h7 a0 4 = some r12 ∧ zO h7 r12 5 ∧ ∃ r14, zR h7 r12 5 = some r14 ∧ zO h7 r14 100 ∧ vp_in x1 (zLen h7 r14) ∧ (x3 = 0 → (¬ ((zI h7 r14 x1.toNatClampNeg) &&& (((1 : Int32) <<< (x2 &&& 31)) ^^^ (-1 : Int32))) = (zI h7 r14 x1.toNatClampNeg) → ∃ r19, zR h7 a0 3 = some r19 ∧ zO h7 r19 7 ∧ ∃ Q20 : zMem → Prop, zConV G mX8_add d [.ref r19, .int (0 : Int32), .int x1, .int (zI h7 r14 x1.toNatClampNeg)] h7 Q20 ∧ (∀ h21, Q20 h21 → zO h21 a0 8 ∧ ∃ r24, zR h21 a0 4 = some r24 ∧ zO h21 r24 5 ∧ ∃ r26, zR h21 r24 5 = some r26 ∧ zO h21 r26 100 ∧ vp_in x1 (zLen h21 r26) ∧ Q (1 : Int32) (zsI h21 r26 x1.toNatClampNeg ((zI h7 r14 x1.toNatClampNeg) &&& (((1 : Int32) <<< (x2 &&& 31)) ^^^ (-1 : Int32)))))) ∧ (((zI h7 r14 x1.toNatClampNeg) &&& (((1 : Int32) <<< (x2 &&& 31)) ^^^ (-1 : Int32))) = (zI h7 r14 x1.toNatClampNeg) → Q (0 : Int32) h7)) ∧ (¬ x3 = 0 → (¬ ((zI h7 r14 x1.toNatClampNeg) ||| ((1 : Int32) <<< (x2 &&& 31))) = (zI h7 r14 x1.toNatClampNeg) → ∃ r31, zR h7 a0 3 = some r31 ∧ zO h7 r31 7 ∧ ∃ Q32 : zMem → Prop, zConV G mX8_add d [.ref r31, .int (0 : Int32), .int x1, .int (zI h7 r14 x1.toNatClampNeg)] h7 Q32 ∧ (∀ h33, Q32 h33 → zO h33 a0 8 ∧ ∃ r36, zR h33 a0 4 = some r36 ∧ zO h33 r36 5 ∧ ∃ r38, zR h33 r36 5 = some r38 ∧ zO h33 r38 100 ∧ vp_in x1 (zLen h33 r38) ∧ Q (1 : Int32) (zsI h33 r38 x1.toNatClampNeg ((zI h7 r14 x1.toNatClampNeg) ||| ((1 : Int32) <<< (x2 &&& 31)))))) ∧ (((zI h7 r14 x1.toNatClampNeg) ||| ((1 : Int32) <<< (x2 &&& 31))) = (zI h7 r14 x1.toNatClampNeg) → Q (0 : Int32) h7))) ∧ (v9 = 0 → Q (0 : Int32) h7))))) : zg G mX9_cold (d + 1) 0 [.ref a0, .int x1, .int x2, .int x3, zU, zU] [] h (zPI Q) := by
  refine z_aload_n 0 rfl rfl ?_
  refine z_iconst (v := 3) 1 rfl (by decide) ?_
  refine z_iload_n 2 rfl rfl ?_
  obtain ⟨o43, B⟩ := B
  obtain ⟨Q1, K3, B⟩ := B
  refine z_cVI2 (ν := mX9_has) 3 rfl rfl fX9_has gX9_117 ⟨_, rfl, rfl⟩ (by decide) o43 (Nat.le_of_ble_eq_true rfl) K3 (fun v4 h2 q => ?_)
  have B := B v4 h2 q
  refine z_if_eq 4 18 rfl (by decide) ⟨fun c5 => ?_, fun c5 => ?_⟩
  · have B := B.1 c5
    refine z_iconst (v := 0) 10 rfl (by decide) ?_
    exact z_iret 11 rfl rfl rfl ⟨rfl, rfl⟩ ⟨_, rfl, B⟩
  · have B := B.2 c5
    refine z_aload_n 5 rfl rfl ?_
    refine z_iconst (v := 0) 6 rfl (by decide) ?_
    refine z_iload_n 7 rfl rfl ?_
    obtain ⟨o42, B⟩ := B
    obtain ⟨Q6, K8, B⟩ := B
    refine z_cVI2 (ν := mX9_has) 8 rfl rfl fX9_has gX9_117 ⟨_, rfl, rfl⟩ (by decide) o42 (Nat.le_of_ble_eq_true rfl) K8 (fun v9 h7 q => ?_)
    have B := B v9 h7 q
    refine z_if_ne 9 20 rfl (by decide) ⟨fun c10 => ?_, fun c10 => ?_⟩
    · have B := B.1 c10
      refine z_aload_n 12 rfl rfl ?_
      obtain ⟨o11, B⟩ := B
      obtain ⟨r12, hr12, B⟩ := B
      refine z_getR 13 rfl lX9_37 rfl o11 hr12 ?_
      obtain ⟨o13, B⟩ := B
      obtain ⟨r14, hr14, B⟩ := B
      refine z_getR 14 rfl lX9_134 rfl o13 hr14 ?_
      refine z_iload_n 15 rfl rfl ?_
      obtain ⟨o15, B⟩ := B
      obtain ⟨o16, B⟩ := B
      refine z_iald 16 rfl o15 o16 ?_
      refine z_istore 17 rfl (by decide) rfl ?_
      refine z_iload_n 18 rfl rfl ?_
      refine z_if_eq 19 44 rfl (by decide) ⟨fun c17 => ?_, fun c17 => ?_⟩
      · have B := B.1 c17
        refine z_iload 26 rfl rfl ?_
        refine z_iconst (v := 1) 27 rfl (by decide) ?_
        refine z_iload_n 28 rfl rfl ?_
        refine z_ishl 29 rfl ?_
        refine z_iconst (v := -1) 30 rfl (by decide) ?_
        refine z_ixor 31 rfl ?_
        refine z_iand 32 rfl ?_
        refine z_istore 33 rfl (by decide) rfl ?_
        refine z_iload 34 rfl rfl ?_
        refine z_iload 35 rfl rfl ?_
        refine z_icmp_ne 36 63 rfl (by decide) ⟨fun c18 => ?_, fun c18 => ?_⟩
        · have B := B.1 c18
          refine z_aload_n 39 rfl rfl ?_
          obtain ⟨r19, hr19, B⟩ := B
          refine z_getR 40 rfl lX9_30 rfl o11 hr19 ?_
          refine z_iconst (v := 0) 41 rfl (by decide) ?_
          refine z_iload_n 42 rfl rfl ?_
          refine z_iload 43 rfl rfl ?_
          obtain ⟨o29, B⟩ := B
          obtain ⟨Q20, K22, B⟩ := B
          refine z_cVV3 (ν := mX8_add) 44 rfl rfl fX8_add gX9_191 ⟨_, rfl, rfl⟩ (by decide) o29 (Nat.le_of_ble_eq_true rfl) K22 (fun h21 q => ?_)
          have B := B h21 q
          refine z_aload_n 45 rfl rfl ?_
          obtain ⟨o23, B⟩ := B
          obtain ⟨r24, hr24, B⟩ := B
          refine z_getR 46 rfl lX9_37 rfl o23 hr24 ?_
          obtain ⟨o25, B⟩ := B
          obtain ⟨r26, hr26, B⟩ := B
          refine z_getR 47 rfl lX9_134 rfl o25 hr26 ?_
          refine z_iload_n 48 rfl rfl ?_
          refine z_iload 49 rfl rfl ?_
          obtain ⟨o27, B⟩ := B
          obtain ⟨o28, B⟩ := B
          refine z_iast 50 rfl o27 o28 ?_
          refine z_iconst (v := 1) 51 rfl (by decide) ?_
          exact z_iret 52 rfl rfl rfl ⟨rfl, rfl⟩ ⟨_, rfl, B⟩
        · have B := B.2 c18
          refine z_iconst (v := 0) 37 rfl (by decide) ?_
          exact z_iret 38 rfl rfl rfl ⟨rfl, rfl⟩ ⟨_, rfl, B⟩
      · have B := B.2 c17
        refine z_iload 20 rfl rfl ?_
        refine z_iconst (v := 1) 21 rfl (by decide) ?_
        refine z_iload_n 22 rfl rfl ?_
        refine z_ishl 23 rfl ?_
        refine z_ior 24 rfl ?_
        refine z_goto 25 52 rfl (by decide) ?_
        refine z_istore 33 rfl (by decide) rfl ?_
        refine z_iload 34 rfl rfl ?_
        refine z_iload 35 rfl rfl ?_
        refine z_icmp_ne 36 63 rfl (by decide) ⟨fun c30 => ?_, fun c30 => ?_⟩
        · have B := B.1 c30
          refine z_aload_n 39 rfl rfl ?_
          obtain ⟨r31, hr31, B⟩ := B
          refine z_getR 40 rfl lX9_30 rfl o11 hr31 ?_
          refine z_iconst (v := 0) 41 rfl (by decide) ?_
          refine z_iload_n 42 rfl rfl ?_
          refine z_iload 43 rfl rfl ?_
          obtain ⟨o41, B⟩ := B
          obtain ⟨Q32, K34, B⟩ := B
          refine z_cVV3 (ν := mX8_add) 44 rfl rfl fX8_add gX9_191 ⟨_, rfl, rfl⟩ (by decide) o41 (Nat.le_of_ble_eq_true rfl) K34 (fun h33 q => ?_)
          have B := B h33 q
          refine z_aload_n 45 rfl rfl ?_
          obtain ⟨o35, B⟩ := B
          obtain ⟨r36, hr36, B⟩ := B
          refine z_getR 46 rfl lX9_37 rfl o35 hr36 ?_
          obtain ⟨o37, B⟩ := B
          obtain ⟨r38, hr38, B⟩ := B
          refine z_getR 47 rfl lX9_134 rfl o37 hr38 ?_
          refine z_iload_n 48 rfl rfl ?_
          refine z_iload 49 rfl rfl ?_
          obtain ⟨o39, B⟩ := B
          obtain ⟨o40, B⟩ := B
          refine z_iast 50 rfl o39 o40 ?_
          refine z_iconst (v := 1) 51 rfl (by decide) ?_
          exact z_iret 52 rfl rfl rfl ⟨rfl, rfl⟩ ⟨_, rfl, B⟩
        · have B := B.2 c30
          refine z_iconst (v := 0) 37 rfl (by decide) ?_
          exact z_iret 38 rfl rfl rfl ⟨rfl, rfl⟩ ⟨_, rfl, B⟩
    · have B := B.2 c10
      refine z_iconst (v := 0) 10 rfl (by decide) ?_
      exact z_iret 11 rfl rfl rfl ⟨rfl, rfl⟩ ⟨_, rfl, B⟩
theorem cn_X9_cold {G : zG} {d : Nat} {h : zMem} {Q : Int32 → zMem → Prop} {a0 : Nat} {x1 : Int32} {x2 : Int32} {x3 : Int32} (B : zg G mX9_cold (d + 1) 0 [.ref a0, .int x1, .int x2, .int x3, zU, zU] [] h (zPI Q)) : zConI G mX9_cold (d + 1) [.ref a0, .int x1, .int x2, .int x3] h Q := zcon0 (by decide +kernel) eX9_cold (Nat.le_of_ble_eq_true rfl) rfl B
set_option maxRecDepth 100000 in
set_option maxHeartbeats 4000000 in
theorem sg_X9_wind_0 {G : zG} {d : Nat} {h : zMem} {Q : Int32 → zMem → Prop} {a0 : Nat} {x1 : Int32} {x2 : Int32} (B : zO h a0 8 ∧ ∃ Q1 : Int32 → zMem → Prop, zConI G mX9_has d [.ref a0, .int (0 : Int32), .int x1] h Q1 ∧ (∀ v4 h2, Q1 v4 h2 → (v4 = 0 → Q (0 : Int32) h2) ∧ (¬ v4 = 0 → (x2 < 0 → Q (0 : Int32) h2) ∧ (¬ x2 < 0 → ((99 : Int32) < x2 → Q (0 : Int32) h2) ∧ (¬ (99 : Int32) < x2 → zO h2 a0 8 ∧ ∃ r9, zR h2 a0 4 = some r9 ∧ zO h2 r9 5 ∧ ∃ r11, zR h2 r9 1 = some r11 ∧ zO h2 r11 100 ∧ vp_in x1 (zLen h2 r11) ∧ (¬ (zI h2 r11 x1.toNatClampNeg) = x2 → ∃ r15, zR h2 a0 3 = some r15 ∧ zO h2 r15 7 ∧ ∃ Q16 : zMem → Prop, zConV G mX8_add d [.ref r15, .int (1 : Int32), .int x1, .int (zI h2 r11 x1.toNatClampNeg)] h2 Q16 ∧ (∀ h17, Q16 h17 → zO h17 a0 8 ∧ ∃ r20, zR h17 a0 4 = some r20 ∧ zO h17 r20 5 ∧ ∃ r22, zR h17 r20 1 = some r22 ∧ zO h17 r22 100 ∧ vp_in x1 (zLen h17 r22) ∧ Q (1 : Int32) (zsI h17 r22 x1.toNatClampNeg x2))) ∧ ((zI h2 r11 x1.toNatClampNeg) = x2 → Q (0 : Int32) h2)))))) : zg G mX9_wind (d + 1) 0 [.ref a0, .int x1, .int x2] [] h (zPI Q) := by
  refine z_aload_n 0 rfl rfl ?_
  refine z_iconst (v := 0) 1 rfl (by decide) ?_
  refine z_iload_n 2 rfl rfl ?_
  obtain ⟨o26, B⟩ := B
  obtain ⟨Q1, K3, B⟩ := B
  refine z_cVI2 (ν := mX9_has) 3 rfl rfl fX9_has gX9_117 ⟨_, rfl, rfl⟩ (by decide) o26 (Nat.le_of_ble_eq_true rfl) K3 (fun v4 h2 q => ?_)
  have B := B v4 h2 q
  refine z_if_eq 4 32 rfl (by decide) ⟨fun c5 => ?_, fun c5 => ?_⟩
  · have B := B.1 c5
    refine z_iconst (v := 0) 17 rfl (by decide) ?_
    exact z_iret 18 rfl rfl rfl ⟨rfl, rfl⟩ ⟨_, rfl, B⟩
  · have B := B.2 c5
    refine z_iload_n 5 rfl rfl ?_
    refine z_if_lt 6 32 rfl (by decide) ⟨fun c6 => ?_, fun c6 => ?_⟩
    · have B := B.1 c6
      refine z_iconst (v := 0) 17 rfl (by decide) ?_
      exact z_iret 18 rfl rfl rfl ⟨rfl, rfl⟩ ⟨_, rfl, B⟩
    · have B := B.2 c6
      refine z_iload_n 7 rfl rfl ?_
      refine z_bipush (v := 99) 8 rfl (by decide) ?_
      refine z_icmp_gt 9 32 rfl (by decide) ⟨fun c7 => ?_, fun c7 => ?_⟩
      · have B := B.1 c7
        refine z_iconst (v := 0) 17 rfl (by decide) ?_
        exact z_iret 18 rfl rfl rfl ⟨rfl, rfl⟩ ⟨_, rfl, B⟩
      · have B := B.2 c7
        refine z_aload_n 10 rfl rfl ?_
        obtain ⟨o8, B⟩ := B
        obtain ⟨r9, hr9, B⟩ := B
        refine z_getR 11 rfl lX9_37 rfl o8 hr9 ?_
        obtain ⟨o10, B⟩ := B
        obtain ⟨r11, hr11, B⟩ := B
        refine z_getR 12 rfl lX9_155 rfl o10 hr11 ?_
        refine z_iload_n 13 rfl rfl ?_
        obtain ⟨o12, B⟩ := B
        obtain ⟨o13, B⟩ := B
        refine z_iald 14 rfl o12 o13 ?_
        refine z_iload_n 15 rfl rfl ?_
        refine z_icmp_ne 16 34 rfl (by decide) ⟨fun c14 => ?_, fun c14 => ?_⟩
        · have B := B.1 c14
          refine z_aload_n 19 rfl rfl ?_
          obtain ⟨r15, hr15, B⟩ := B
          refine z_getR 20 rfl lX9_30 rfl o8 hr15 ?_
          refine z_iconst (v := 1) 21 rfl (by decide) ?_
          refine z_iload_n 22 rfl rfl ?_
          refine z_aload_n 23 rfl rfl ?_
          refine z_getR 24 rfl lX9_37 rfl o8 hr9 ?_
          refine z_getR 25 rfl lX9_155 rfl o10 hr11 ?_
          refine z_iload_n 26 rfl rfl ?_
          refine z_iald 27 rfl o12 o13 ?_
          obtain ⟨o25, B⟩ := B
          obtain ⟨Q16, K18, B⟩ := B
          refine z_cVV3 (ν := mX8_add) 28 rfl rfl fX8_add gX9_191 ⟨_, rfl, rfl⟩ (by decide) o25 (Nat.le_of_ble_eq_true rfl) K18 (fun h17 q => ?_)
          have B := B h17 q
          refine z_aload_n 29 rfl rfl ?_
          obtain ⟨o19, B⟩ := B
          obtain ⟨r20, hr20, B⟩ := B
          refine z_getR 30 rfl lX9_37 rfl o19 hr20 ?_
          obtain ⟨o21, B⟩ := B
          obtain ⟨r22, hr22, B⟩ := B
          refine z_getR 31 rfl lX9_155 rfl o21 hr22 ?_
          refine z_iload_n 32 rfl rfl ?_
          refine z_iload_n 33 rfl rfl ?_
          obtain ⟨o23, B⟩ := B
          obtain ⟨o24, B⟩ := B
          refine z_iast 34 rfl o23 o24 ?_
          refine z_iconst (v := 1) 35 rfl (by decide) ?_
          exact z_iret 36 rfl rfl rfl ⟨rfl, rfl⟩ ⟨_, rfl, B⟩
        · have B := B.2 c14
          refine z_iconst (v := 0) 17 rfl (by decide) ?_
          exact z_iret 18 rfl rfl rfl ⟨rfl, rfl⟩ ⟨_, rfl, B⟩
theorem cn_X9_wind {G : zG} {d : Nat} {h : zMem} {Q : Int32 → zMem → Prop} {a0 : Nat} {x1 : Int32} {x2 : Int32} (B : zg G mX9_wind (d + 1) 0 [.ref a0, .int x1, .int x2] [] h (zPI Q)) : zConI G mX9_wind (d + 1) [.ref a0, .int x1, .int x2] h Q := zcon0 (by decide +kernel) eX9_wind (Nat.le_of_ble_eq_true rfl) rfl B
set_option maxRecDepth 100000 in
set_option maxHeartbeats 4000000 in
theorem sg_X9_buy_0 {G : zG} {d : Nat} {h : zMem} {Q : Int32 → zMem → Prop} {a0 : Nat} {x1 : Int32} {x2 : Int32} (B : zO h a0 8 ∧ ∃ Q1 : Int32 → zMem → Prop, zConI G mX9_has d [.ref a0, .int (0 : Int32), .int x1] h Q1 ∧ (∀ v4 h2, Q1 v4 h2 → (v4 = 0 → Q (-1 : Int32) h2) ∧ (¬ v4 = 0 → (x2 < (1 : Int32) → Q (-1 : Int32) h2) ∧ (¬ x2 < (1 : Int32) → ((999 : Int32) < x2 → Q (-1 : Int32) h2) ∧ (¬ (999 : Int32) < x2 → zO h2 a0 8 ∧ ∃ r9, zR h2 a0 4 = some r9 ∧ zO h2 r9 5 ∧ ∃ r11, zR h2 r9 0 = some r11 ∧ zO h2 r11 100 ∧ vp_in x1 (zLen h2 r11) ∧ (((zI h2 r11 x1.toNatClampNeg) + x2) ≤ (9999 : Int32) → ∃ r15, zR h2 a0 3 = some r15 ∧ zO h2 r15 7 ∧ ∃ Q16 : zMem → Prop, zConV G mX8_add d [.ref r15, .int (2 : Int32), .int x1, .int (zI h2 r11 x1.toNatClampNeg)] h2 Q16 ∧ (∀ h17, Q16 h17 → zO h17 a0 8 ∧ ∃ r20, zR h17 a0 4 = some r20 ∧ zO h17 r20 5 ∧ ∃ r22, zR h17 r20 0 = some r22 ∧ zO h17 r22 100 ∧ vp_in x1 (zLen h17 r22) ∧ Q (zI (zsI h17 r22 x1.toNatClampNeg ((zI h17 r22 x1.toNatClampNeg) + x2)) r22 x1.toNatClampNeg) (zsI h17 r22 x1.toNatClampNeg ((zI h17 r22 x1.toNatClampNeg) + x2)))) ∧ (¬ ((zI h2 r11 x1.toNatClampNeg) + x2) ≤ (9999 : Int32) → Q (-1 : Int32) h2)))))) : zg G mX9_buy (d + 1) 0 [.ref a0, .int x1, .int x2] [] h (zPI Q) := by
  refine z_aload_n 0 rfl rfl ?_
  refine z_iconst (v := 0) 1 rfl (by decide) ?_
  refine z_iload_n 2 rfl rfl ?_
  obtain ⟨o26, B⟩ := B
  obtain ⟨Q1, K3, B⟩ := B
  refine z_cVI2 (ν := mX9_has) 3 rfl rfl fX9_has gX9_117 ⟨_, rfl, rfl⟩ (by decide) o26 (Nat.le_of_ble_eq_true rfl) K3 (fun v4 h2 q => ?_)
  have B := B v4 h2 q
  refine z_if_eq 4 38 rfl (by decide) ⟨fun c5 => ?_, fun c5 => ?_⟩
  · have B := B.1 c5
    refine z_iconst (v := -1) 20 rfl (by decide) ?_
    exact z_iret 21 rfl rfl rfl ⟨rfl, rfl⟩ ⟨_, rfl, B⟩
  · have B := B.2 c5
    refine z_iload_n 5 rfl rfl ?_
    refine z_iconst (v := 1) 6 rfl (by decide) ?_
    refine z_icmp_lt 7 38 rfl (by decide) ⟨fun c6 => ?_, fun c6 => ?_⟩
    · have B := B.1 c6
      refine z_iconst (v := -1) 20 rfl (by decide) ?_
      exact z_iret 21 rfl rfl rfl ⟨rfl, rfl⟩ ⟨_, rfl, B⟩
    · have B := B.2 c6
      refine z_iload_n 8 rfl rfl ?_
      refine z_sipush (v := 999) 9 rfl (by decide) ?_
      refine z_icmp_gt 10 38 rfl (by decide) ⟨fun c7 => ?_, fun c7 => ?_⟩
      · have B := B.1 c7
        refine z_iconst (v := -1) 20 rfl (by decide) ?_
        exact z_iret 21 rfl rfl rfl ⟨rfl, rfl⟩ ⟨_, rfl, B⟩
      · have B := B.2 c7
        refine z_aload_n 11 rfl rfl ?_
        obtain ⟨o8, B⟩ := B
        obtain ⟨r9, hr9, B⟩ := B
        refine z_getR 12 rfl lX9_37 rfl o8 hr9 ?_
        obtain ⟨o10, B⟩ := B
        obtain ⟨r11, hr11, B⟩ := B
        refine z_getR 13 rfl lX9_148 rfl o10 hr11 ?_
        refine z_iload_n 14 rfl rfl ?_
        obtain ⟨o12, B⟩ := B
        obtain ⟨o13, B⟩ := B
        refine z_iald 15 rfl o12 o13 ?_
        refine z_iload_n 16 rfl rfl ?_
        refine z_iadd 17 rfl ?_
        refine z_sipush (v := 9999) 18 rfl (by decide) ?_
        refine z_icmp_le 19 40 rfl (by decide) ⟨fun c14 => ?_, fun c14 => ?_⟩
        · have B := B.1 c14
          refine z_aload_n 22 rfl rfl ?_
          obtain ⟨r15, hr15, B⟩ := B
          refine z_getR 23 rfl lX9_30 rfl o8 hr15 ?_
          refine z_iconst (v := 2) 24 rfl (by decide) ?_
          refine z_iload_n 25 rfl rfl ?_
          refine z_aload_n 26 rfl rfl ?_
          refine z_getR 27 rfl lX9_37 rfl o8 hr9 ?_
          refine z_getR 28 rfl lX9_148 rfl o10 hr11 ?_
          refine z_iload_n 29 rfl rfl ?_
          refine z_iald 30 rfl o12 o13 ?_
          obtain ⟨o25, B⟩ := B
          obtain ⟨Q16, K18, B⟩ := B
          refine z_cVV3 (ν := mX8_add) 31 rfl rfl fX8_add gX9_191 ⟨_, rfl, rfl⟩ (by decide) o25 (Nat.le_of_ble_eq_true rfl) K18 (fun h17 q => ?_)
          have B := B h17 q
          refine z_aload_n 32 rfl rfl ?_
          obtain ⟨o19, B⟩ := B
          obtain ⟨r20, hr20, B⟩ := B
          refine z_getR 33 rfl lX9_37 rfl o19 hr20 ?_
          obtain ⟨o21, B⟩ := B
          obtain ⟨r22, hr22, B⟩ := B
          refine z_getR 34 rfl lX9_148 rfl o21 hr22 ?_
          refine z_iload_n 35 rfl rfl ?_
          refine z_dup2 36 rfl rfl rfl ?_
          obtain ⟨o23, B⟩ := B
          obtain ⟨o24, B⟩ := B
          refine z_iald 37 rfl o23 o24 ?_
          refine z_iload_n 38 rfl rfl ?_
          refine z_iadd 39 rfl ?_
          refine z_iast 40 rfl o23 o24 ?_
          refine z_aload_n 41 rfl rfl ?_
          refine z_getR 42 rfl lX9_37 rfl o19 hr20 ?_
          refine z_getR 43 rfl lX9_148 rfl o21 hr22 ?_
          refine z_iload_n 44 rfl rfl ?_
          refine z_iald 45 rfl o23 o24 ?_
          exact z_iret 46 rfl rfl rfl ⟨rfl, rfl⟩ ⟨_, rfl, B⟩
        · have B := B.2 c14
          refine z_iconst (v := -1) 20 rfl (by decide) ?_
          exact z_iret 21 rfl rfl rfl ⟨rfl, rfl⟩ ⟨_, rfl, B⟩
theorem cn_X9_buy {G : zG} {d : Nat} {h : zMem} {Q : Int32 → zMem → Prop} {a0 : Nat} {x1 : Int32} {x2 : Int32} (B : zg G mX9_buy (d + 1) 0 [.ref a0, .int x1, .int x2] [] h (zPI Q)) : zConI G mX9_buy (d + 1) [.ref a0, .int x1, .int x2] h Q := zcon0 (by decide +kernel) eX9_buy (Nat.le_of_ble_eq_true rfl) rfl B
set_option maxRecDepth 100000 in
set_option maxHeartbeats 4000000 in
theorem sg_X9_goes_0 {G : zG} {d : Nat} {h : zMem} {Q : Int32 → zMem → Prop} {a0 : Nat} {x1 : Int32} {x2 : Int32} (B : zO h a0 8 ∧ ∃ Q1 : Int32 → zMem → Prop, zConI G mX9_has d [.ref a0, .int (3 : Int32), .int x1] h Q1 ∧ (∀ v4 h2, Q1 v4 h2 → (v4 = 0 → Q (0 : Int32) h2) ∧ (¬ v4 = 0 → zO h2 a0 8 ∧ ∃ Q6 : Int32 → zMem → Prop, zConI G mX9_has d [.ref a0, .int (2 : Int32), .int x2] h2 Q6 ∧ (∀ v9 h7, Q6 v9 h7 → (v9 = 0 → Q (0 : Int32) h7) ∧ (¬ v9 = 0 → zO h7 a0 8 ∧ ∃ r12, zR h7 a0 4 = some r12 ∧ zO h7 r12 5 ∧ ∃ r14, zR h7 r12 4 = some r14 ∧ zO h7 r14 100 ∧ vp_in x1 (zLen h7 r14) ∧ (¬ (zI h7 r14 x1.toNatClampNeg) = x2 → ∃ r18, zR h7 a0 3 = some r18 ∧ zO h7 r18 7 ∧ ∃ Q19 : zMem → Prop, zConV G mX8_add d [.ref r18, .int (3 : Int32), .int x1, .int (zI h7 r14 x1.toNatClampNeg)] h7 Q19 ∧ (∀ h20, Q19 h20 → zO h20 a0 8 ∧ ∃ r23, zR h20 a0 4 = some r23 ∧ zO h20 r23 5 ∧ ∃ r25, zR h20 r23 4 = some r25 ∧ zO h20 r25 100 ∧ vp_in x1 (zLen h20 r25) ∧ Q (1 : Int32) (zsI h20 r25 x1.toNatClampNeg x2))) ∧ ((zI h7 r14 x1.toNatClampNeg) = x2 → Q (0 : Int32) h7)))))) : zg G mX9_goes (d + 1) 0 [.ref a0, .int x1, .int x2] [] h (zPI Q) := by
  refine z_aload_n 0 rfl rfl ?_
  refine z_iconst (v := 3) 1 rfl (by decide) ?_
  refine z_iload_n 2 rfl rfl ?_
  obtain ⟨o30, B⟩ := B
  obtain ⟨Q1, K3, B⟩ := B
  refine z_cVI2 (ν := mX9_has) 3 rfl rfl fX9_has gX9_117 ⟨_, rfl, rfl⟩ (by decide) o30 (Nat.le_of_ble_eq_true rfl) K3 (fun v4 h2 q => ?_)
  have B := B v4 h2 q
  refine z_if_eq 4 31 rfl (by decide) ⟨fun c5 => ?_, fun c5 => ?_⟩
  · have B := B.1 c5
    refine z_iconst (v := 0) 17 rfl (by decide) ?_
    exact z_iret 18 rfl rfl rfl ⟨rfl, rfl⟩ ⟨_, rfl, B⟩
  · have B := B.2 c5
    refine z_aload_n 5 rfl rfl ?_
    refine z_iconst (v := 2) 6 rfl (by decide) ?_
    refine z_iload_n 7 rfl rfl ?_
    obtain ⟨o29, B⟩ := B
    obtain ⟨Q6, K8, B⟩ := B
    refine z_cVI2 (ν := mX9_has) 8 rfl rfl fX9_has gX9_117 ⟨_, rfl, rfl⟩ (by decide) o29 (Nat.le_of_ble_eq_true rfl) K8 (fun v9 h7 q => ?_)
    have B := B v9 h7 q
    refine z_if_eq 9 31 rfl (by decide) ⟨fun c10 => ?_, fun c10 => ?_⟩
    · have B := B.1 c10
      refine z_iconst (v := 0) 17 rfl (by decide) ?_
      exact z_iret 18 rfl rfl rfl ⟨rfl, rfl⟩ ⟨_, rfl, B⟩
    · have B := B.2 c10
      refine z_aload_n 10 rfl rfl ?_
      obtain ⟨o11, B⟩ := B
      obtain ⟨r12, hr12, B⟩ := B
      refine z_getR 11 rfl lX9_37 rfl o11 hr12 ?_
      obtain ⟨o13, B⟩ := B
      obtain ⟨r14, hr14, B⟩ := B
      refine z_getR 12 rfl lX9_128 rfl o13 hr14 ?_
      refine z_iload_n 13 rfl rfl ?_
      obtain ⟨o15, B⟩ := B
      obtain ⟨o16, B⟩ := B
      refine z_iald 14 rfl o15 o16 ?_
      refine z_iload_n 15 rfl rfl ?_
      refine z_icmp_ne 16 33 rfl (by decide) ⟨fun c17 => ?_, fun c17 => ?_⟩
      · have B := B.1 c17
        refine z_aload_n 19 rfl rfl ?_
        obtain ⟨r18, hr18, B⟩ := B
        refine z_getR 20 rfl lX9_30 rfl o11 hr18 ?_
        refine z_iconst (v := 3) 21 rfl (by decide) ?_
        refine z_iload_n 22 rfl rfl ?_
        refine z_aload_n 23 rfl rfl ?_
        refine z_getR 24 rfl lX9_37 rfl o11 hr12 ?_
        refine z_getR 25 rfl lX9_128 rfl o13 hr14 ?_
        refine z_iload_n 26 rfl rfl ?_
        refine z_iald 27 rfl o15 o16 ?_
        obtain ⟨o28, B⟩ := B
        obtain ⟨Q19, K21, B⟩ := B
        refine z_cVV3 (ν := mX8_add) 28 rfl rfl fX8_add gX9_191 ⟨_, rfl, rfl⟩ (by decide) o28 (Nat.le_of_ble_eq_true rfl) K21 (fun h20 q => ?_)
        have B := B h20 q
        refine z_aload_n 29 rfl rfl ?_
        obtain ⟨o22, B⟩ := B
        obtain ⟨r23, hr23, B⟩ := B
        refine z_getR 30 rfl lX9_37 rfl o22 hr23 ?_
        obtain ⟨o24, B⟩ := B
        obtain ⟨r25, hr25, B⟩ := B
        refine z_getR 31 rfl lX9_128 rfl o24 hr25 ?_
        refine z_iload_n 32 rfl rfl ?_
        refine z_iload_n 33 rfl rfl ?_
        obtain ⟨o26, B⟩ := B
        obtain ⟨o27, B⟩ := B
        refine z_iast 34 rfl o26 o27 ?_
        refine z_iconst (v := 1) 35 rfl (by decide) ?_
        exact z_iret 36 rfl rfl rfl ⟨rfl, rfl⟩ ⟨_, rfl, B⟩
      · have B := B.2 c17
        refine z_iconst (v := 0) 17 rfl (by decide) ?_
        exact z_iret 18 rfl rfl rfl ⟨rfl, rfl⟩ ⟨_, rfl, B⟩
theorem cn_X9_goes {G : zG} {d : Nat} {h : zMem} {Q : Int32 → zMem → Prop} {a0 : Nat} {x1 : Int32} {x2 : Int32} (B : zg G mX9_goes (d + 1) 0 [.ref a0, .int x1, .int x2] [] h (zPI Q)) : zConI G mX9_goes (d + 1) [.ref a0, .int x1, .int x2] h Q := zcon0 (by decide +kernel) eX9_goes (Nat.le_of_ble_eq_true rfl) rfl B
set_option maxRecDepth 100000 in
set_option maxHeartbeats 4000000 in
theorem sg_X9_go_0 {G : zG} {d : Nat} {h : zMem} {Q : Int32 → zMem → Prop} {a0 : Nat} {x1 : Int32} (B : (x1 < 0 → Q (-1 : Int32) h) ∧ (¬ x1 < 0 → ((99 : Int32) < x1 → Q (-1 : Int32) h) ∧ (¬ (99 : Int32) < x1 → zO h a0 8 ∧ ∃ r4, zR h a0 4 = some r4 ∧ zO h r4 5 ∧ (((zI h r4 10) + x1) ≤ (9999 : Int32) → zg G mX9_go (d + 1) 29 [.ref a0, .int x1, .int (0 : Int32)] [] h (zPI Q)) ∧ (¬ ((zI h r4 10) + x1) ≤ (9999 : Int32) → Q (-1 : Int32) h)))) : zg G mX9_go (d + 1) 0 [.ref a0, .int x1, zU] [] h (zPI Q) := by
  refine z_iload_n 0 rfl rfl ?_
  refine z_if_lt 1 25 rfl (by decide) ⟨fun c1 => ?_, fun c1 => ?_⟩
  · have B := B.1 c1
    refine z_iconst (v := -1) 12 rfl (by decide) ?_
    exact z_iret 13 rfl rfl rfl ⟨rfl, rfl⟩ ⟨_, rfl, B⟩
  · have B := B.2 c1
    refine z_iload_n 2 rfl rfl ?_
    refine z_bipush (v := 99) 3 rfl (by decide) ?_
    refine z_icmp_gt 4 25 rfl (by decide) ⟨fun c2 => ?_, fun c2 => ?_⟩
    · have B := B.1 c2
      refine z_iconst (v := -1) 12 rfl (by decide) ?_
      exact z_iret 13 rfl rfl rfl ⟨rfl, rfl⟩ ⟨_, rfl, B⟩
    · have B := B.2 c2
      refine z_aload_n 5 rfl rfl ?_
      obtain ⟨o3, B⟩ := B
      obtain ⟨r4, hr4, B⟩ := B
      refine z_getR 6 rfl lX9_37 rfl o3 hr4 ?_
      obtain ⟨o5, B⟩ := B
      refine z_getI 7 rfl lX9_195 rfl o5 ?_
      refine z_iload_n 8 rfl rfl ?_
      refine z_iadd 9 rfl ?_
      refine z_sipush (v := 9999) 10 rfl (by decide) ?_
      refine z_icmp_le 11 27 rfl (by decide) ⟨fun c6 => ?_, fun c6 => ?_⟩
      · have B := B.1 c6
        refine z_iconst (v := 0) 14 rfl (by decide) ?_
        refine z_istore_n 15 rfl (by decide) rfl ?_
        exact B
      · have B := B.2 c6
        refine z_iconst (v := -1) 12 rfl (by decide) ?_
        exact z_iret 13 rfl rfl rfl ⟨rfl, rfl⟩ ⟨_, rfl, B⟩
theorem cn_X9_go {G : zG} {d : Nat} {h : zMem} {Q : Int32 → zMem → Prop} {a0 : Nat} {x1 : Int32} (B : zg G mX9_go (d + 1) 0 [.ref a0, .int x1, zU] [] h (zPI Q)) : zConI G mX9_go (d + 1) [.ref a0, .int x1] h Q := zcon0 (by decide +kernel) eX9_go (Nat.le_of_ble_eq_true rfl) rfl B
set_option maxRecDepth 100000 in
set_option maxHeartbeats 4000000 in
theorem sg_X9_go_29 {G : zG} {d : Nat} {h : zMem} {Q : Int32 → zMem → Prop} {a0 : Nat} {x1 : Int32} {x2 : Int32} (B : (x1 ≤ x2 → (x1 ≤ 0 → zO h a0 8 ∧ ∃ r4, zR h a0 4 = some r4 ∧ zO h r4 5 ∧ Q (zI h r4 10) h) ∧ (¬ x1 ≤ 0 → zO h a0 8 ∧ ∃ r7, zR h a0 3 = some r7 ∧ zO h r7 7 ∧ ∃ Q8 : zMem → Prop, zConV G mX8_clear d [.ref r7] h Q8 ∧ (∀ h9, Q8 h9 → zO h9 a0 8 ∧ ∃ r12, zR h9 a0 4 = some r12 ∧ zO h9 r12 5 ∧ Q (zI h9 r12 10) h9))) ∧ (¬ x1 ≤ x2 → zO h a0 8 ∧ ∃ r16, zR h a0 4 = some r16 ∧ ∃ r17, zR h a0 11 = some r17 ∧ zO h r16 5 ∧ ∃ Q18 : zMem → Prop, zConV G mX5_goThroughMorning d [.ref r16, .ref r17] h Q18 ∧ (∀ h19, Q18 h19 → zg G mX9_go (d + 1) 29 [.ref a0, .int x1, .int (x2 + 1)] [] h19 (zPI Q)))) : zg G mX9_go (d + 1) 29 [.ref a0, .int x1, .int x2] [] h (zPI Q) := by
  refine z_iload_n 16 rfl rfl ?_
  refine z_iload_n 17 rfl rfl ?_
  refine z_icmp_ge 18 51 rfl (by decide) ⟨fun c1 => ?_, fun c1 => ?_⟩
  · have B := B.1 c1
    refine z_iload_n 26 rfl rfl ?_
    refine z_if_le 27 62 rfl (by decide) ⟨fun c2 => ?_, fun c2 => ?_⟩
    · have B := B.1 c2
      refine z_aload_n 31 rfl rfl ?_
      obtain ⟨o3, B⟩ := B
      obtain ⟨r4, hr4, B⟩ := B
      refine z_getR 32 rfl lX9_37 rfl o3 hr4 ?_
      obtain ⟨o5, B⟩ := B
      refine z_getI 33 rfl lX9_195 rfl o5 ?_
      exact z_iret 34 rfl rfl rfl ⟨rfl, rfl⟩ ⟨_, rfl, B⟩
    · have B := B.2 c2
      refine z_aload_n 28 rfl rfl ?_
      obtain ⟨o6, B⟩ := B
      obtain ⟨r7, hr7, B⟩ := B
      refine z_getR 29 rfl lX9_30 rfl o6 hr7 ?_
      obtain ⟨o14, B⟩ := B
      obtain ⟨Q8, K10, B⟩ := B
      refine z_cVV0 (ν := mX8_clear) 30 rfl rfl fX8_clear gX9_102 ⟨_, rfl, rfl⟩ (by decide) o14 (Nat.le_of_ble_eq_true rfl) K10 (fun h9 q => ?_)
      have B := B h9 q
      refine z_aload_n 31 rfl rfl ?_
      obtain ⟨o11, B⟩ := B
      obtain ⟨r12, hr12, B⟩ := B
      refine z_getR 32 rfl lX9_37 rfl o11 hr12 ?_
      obtain ⟨o13, B⟩ := B
      refine z_getI 33 rfl lX9_195 rfl o13 ?_
      exact z_iret 34 rfl rfl rfl ⟨rfl, rfl⟩ ⟨_, rfl, B⟩
  · have B := B.2 c1
    refine z_aload_n 19 rfl rfl ?_
    obtain ⟨o15, B⟩ := B
    obtain ⟨r16, hr16, B⟩ := B
    refine z_getR 20 rfl lX9_37 rfl o15 hr16 ?_
    refine z_aload_n 21 rfl rfl ?_
    obtain ⟨r17, hr17, B⟩ := B
    refine z_getR 22 rfl lX9_67 rfl o15 hr17 ?_
    obtain ⟨o21, B⟩ := B
    obtain ⟨Q18, K20, B⟩ := B
    refine z_cVV1 (ν := mX5_goThroughMorning) 23 rfl rfl fX5_goThroughMorning gX9_198 ⟨_, rfl, rfl⟩ (by decide) o21 (Nat.le_of_ble_eq_true rfl) K20 (fun h19 q => ?_)
    have B := B h19 q
    refine z_iinc (v := 1) 24 rfl rfl (by decide) (by decide) rfl ?_
    refine z_goto 25 29 rfl (by decide) ?_
    exact B
set_option maxRecDepth 100000 in
set_option maxHeartbeats 4000000 in
theorem sg_X9_mixedUp_0 {G : zG} {d : Nat} {h : zMem} {Q : Int32 → zMem → Prop} {a0 : Nat} {x1 : Int32} (B : zO h a0 8 ∧ ∃ Q1 : Int32 → zMem → Prop, zConI G mX9_has d [.ref a0, .int (3 : Int32), .int x1] h Q1 ∧ (∀ v4 h2, Q1 v4 h2 → (¬ v4 = 0 → zO h2 a0 8 ∧ ∃ r7, zR h2 a0 4 = some r7 ∧ zO h2 r7 5 ∧ ∃ r9, zR h2 r7 4 = some r9 ∧ zO h2 r9 100 ∧ vp_in x1 (zLen h2 r9) ∧ ∃ Q12 : zMem → Prop, zConV G mX9_markDays d [.ref a0, .int x1, .int (zI h2 r9 x1.toNatClampNeg)] h2 Q12 ∧ (∀ h13, Q12 h13 → zO h13 a0 8 ∧ ∃ Q15 : Int32 → zMem → Prop, zConI G mX9_alikePairs d [.ref a0] h13 Q15 ∧ (∀ v18 h16, Q15 v18 h16 → Q v18 h16))) ∧ (v4 = 0 → Q (-1 : Int32) h2))) : zg G mX9_mixedUp (d + 1) 0 [.ref a0, .int x1] [] h (zPI Q) := by
  refine z_aload_n 0 rfl rfl ?_
  refine z_iconst (v := 3) 1 rfl (by decide) ?_
  refine z_iload_n 2 rfl rfl ?_
  obtain ⟨o20, B⟩ := B
  obtain ⟨Q1, K3, B⟩ := B
  refine z_cVI2 (ν := mX9_has) 3 rfl rfl fX9_has gX9_117 ⟨_, rfl, rfl⟩ (by decide) o20 (Nat.le_of_ble_eq_true rfl) K3 (fun v4 h2 q => ?_)
  have B := B v4 h2 q
  refine z_if_ne 4 11 rfl (by decide) ⟨fun c5 => ?_, fun c5 => ?_⟩
  · have B := B.1 c5
    refine z_aload_n 7 rfl rfl ?_
    refine z_iload_n 8 rfl rfl ?_
    refine z_aload_n 9 rfl rfl ?_
    obtain ⟨o6, B⟩ := B
    obtain ⟨r7, hr7, B⟩ := B
    refine z_getR 10 rfl lX9_37 rfl o6 hr7 ?_
    obtain ⟨o8, B⟩ := B
    obtain ⟨r9, hr9, B⟩ := B
    refine z_getR 11 rfl lX9_128 rfl o8 hr9 ?_
    refine z_iload_n 12 rfl rfl ?_
    obtain ⟨o10, B⟩ := B
    obtain ⟨o11, B⟩ := B
    refine z_iald 13 rfl o10 o11 ?_
    obtain ⟨Q12, K14, B⟩ := B
    refine z_cVV2 (ν := mX9_markDays) 14 rfl rfl fX9_markDays gX9_201 ⟨_, rfl, rfl⟩ (by decide) o6 (Nat.le_of_ble_eq_true rfl) K14 (fun h13 q => ?_)
    have B := B h13 q
    refine z_aload_n 15 rfl rfl ?_
    obtain ⟨o19, B⟩ := B
    obtain ⟨Q15, K17, B⟩ := B
    refine z_cVI0 (ν := mX9_alikePairs) 16 rfl rfl fX9_alikePairs gX9_205 ⟨_, rfl, rfl⟩ (by decide) o19 (Nat.le_of_ble_eq_true rfl) K17 (fun v18 h16 q => ?_)
    have B := B v18 h16 q
    exact z_iret 17 rfl rfl rfl ⟨rfl, rfl⟩ ⟨_, rfl, B⟩
  · have B := B.2 c5
    refine z_iconst (v := -1) 5 rfl (by decide) ?_
    exact z_iret 6 rfl rfl rfl ⟨rfl, rfl⟩ ⟨_, rfl, B⟩
theorem cn_X9_mixedUp {G : zG} {d : Nat} {h : zMem} {Q : Int32 → zMem → Prop} {a0 : Nat} {x1 : Int32} (B : zg G mX9_mixedUp (d + 1) 0 [.ref a0, .int x1] [] h (zPI Q)) : zConI G mX9_mixedUp (d + 1) [.ref a0, .int x1] h Q := zcon0 (by decide +kernel) eX9_mixedUp (Nat.le_of_ble_eq_true rfl) rfl B
set_option maxRecDepth 100000 in
set_option maxHeartbeats 4000000 in
theorem sg_X9_pair_0 {G : zG} {d : Nat} {h : zMem} {Q : Int32 → zMem → Prop} {a0 : Nat} {x1 : Int32} {x2 : Int32} (B : zO h a0 8 ∧ ∃ Q1 : Int32 → zMem → Prop, zConI G mX9_has d [.ref a0, .int (3 : Int32), .int x1] h Q1 ∧ (∀ v4 h2, Q1 v4 h2 → (v4 = 0 → Q (-1 : Int32) h2) ∧ (¬ v4 = 0 → (0 ≤ x2 → zO h2 a0 8 ∧ ∃ r8, zR h2 a0 4 = some r8 ∧ zO h2 r8 5 ∧ ∃ r10, zR h2 r8 4 = some r10 ∧ zO h2 r10 100 ∧ vp_in x1 (zLen h2 r10) ∧ ∃ Q13 : zMem → Prop, zConV G mX9_markDays d [.ref a0, .int x1, .int (zI h2 r10 x1.toNatClampNeg)] h2 Q13 ∧ (∀ h14, Q13 h14 → zg G mX9_pair (d + 1) 34 [.ref a0, .int x1, .int x2, .int x2, .int (0 : Int32), zU] [] h14 (zPI Q))) ∧ (¬ 0 ≤ x2 → Q (-1 : Int32) h2)))) : zg G mX9_pair (d + 1) 0 [.ref a0, .int x1, .int x2, zU, zU, zU] [] h (zPI Q) := by
  refine z_aload_n 0 rfl rfl ?_
  refine z_iconst (v := 3) 1 rfl (by decide) ?_
  refine z_iload_n 2 rfl rfl ?_
  obtain ⟨o16, B⟩ := B
  obtain ⟨Q1, K3, B⟩ := B
  refine z_cVI2 (ν := mX9_has) 3 rfl rfl fX9_has gX9_117 ⟨_, rfl, rfl⟩ (by decide) o16 (Nat.le_of_ble_eq_true rfl) K3 (fun v4 h2 q => ?_)
  have B := B v4 h2 q
  refine z_if_eq 4 13 rfl (by decide) ⟨fun c5 => ?_, fun c5 => ?_⟩
  · have B := B.1 c5
    refine z_iconst (v := -1) 7 rfl (by decide) ?_
    exact z_iret 8 rfl rfl rfl ⟨rfl, rfl⟩ ⟨_, rfl, B⟩
  · have B := B.2 c5
    refine z_iload_n 5 rfl rfl ?_
    refine z_if_ge 6 15 rfl (by decide) ⟨fun c6 => ?_, fun c6 => ?_⟩
    · have B := B.1 c6
      refine z_aload_n 9 rfl rfl ?_
      refine z_iload_n 10 rfl rfl ?_
      refine z_aload_n 11 rfl rfl ?_
      obtain ⟨o7, B⟩ := B
      obtain ⟨r8, hr8, B⟩ := B
      refine z_getR 12 rfl lX9_37 rfl o7 hr8 ?_
      obtain ⟨o9, B⟩ := B
      obtain ⟨r10, hr10, B⟩ := B
      refine z_getR 13 rfl lX9_128 rfl o9 hr10 ?_
      refine z_iload_n 14 rfl rfl ?_
      obtain ⟨o11, B⟩ := B
      obtain ⟨o12, B⟩ := B
      refine z_iald 15 rfl o11 o12 ?_
      obtain ⟨Q13, K15, B⟩ := B
      refine z_cVV2 (ν := mX9_markDays) 16 rfl rfl fX9_markDays gX9_201 ⟨_, rfl, rfl⟩ (by decide) o7 (Nat.le_of_ble_eq_true rfl) K15 (fun h14 q => ?_)
      have B := B h14 q
      refine z_iload_n 17 rfl rfl ?_
      refine z_istore_n 18 rfl (by decide) rfl ?_
      refine z_iconst (v := 0) 19 rfl (by decide) ?_
      refine z_istore 20 rfl (by decide) rfl ?_
      exact B
    · have B := B.2 c6
      refine z_iconst (v := -1) 7 rfl (by decide) ?_
      exact z_iret 8 rfl rfl rfl ⟨rfl, rfl⟩ ⟨_, rfl, B⟩
theorem cn_X9_pair {G : zG} {d : Nat} {h : zMem} {Q : Int32 → zMem → Prop} {a0 : Nat} {x1 : Int32} {x2 : Int32} (B : zg G mX9_pair (d + 1) 0 [.ref a0, .int x1, .int x2, zU, zU, zU] [] h (zPI Q)) : zConI G mX9_pair (d + 1) [.ref a0, .int x1, .int x2] h Q := zcon0 (by decide +kernel) eX9_pair (Nat.le_of_ble_eq_true rfl) rfl B
set_option maxRecDepth 100000 in
set_option maxHeartbeats 4000000 in
theorem sg_X9_pair_34 {G : zG} {d : Nat} {h : zMem} {Q : Int32 → zMem → Prop} {a0 : Nat} {x1 : Int32} {x2 : Int32} {x3 : Int32} {x4 : Int32} (B : zO h a0 8 ∧ ∃ r2, zR h a0 11 = some r2 ∧ zO h r2 6 ∧ ∃ r4, zR h r2 0 = some r4 ∧ zO h r4 100 ∧ vp_in (1 : Int32) (zLen h r4) ∧ ((zI h r4 (1 : Int32).toNatClampNeg) ≤ x4 → Q (-2 : Int32) h) ∧ (¬ (zI h r4 (1 : Int32).toNatClampNeg) ≤ x4 → zg G mX9_pair (d + 1) 54 [.ref a0, .int x1, .int x2, .int x3, .int x4, .int (x4 + (1 : Int32))] [] h (zPI Q))) : zg G mX9_pair (d + 1) 34 [.ref a0, .int x1, .int x2, .int x3, .int x4, zU] [] h (zPI Q) := by
  refine z_iload 21 rfl rfl ?_
  refine z_aload_n 22 rfl rfl ?_
  obtain ⟨o1, B⟩ := B
  obtain ⟨r2, hr2, B⟩ := B
  refine z_getR 23 rfl lX9_67 rfl o1 hr2 ?_
  obtain ⟨o3, B⟩ := B
  obtain ⟨r4, hr4, B⟩ := B
  refine z_getR 24 rfl lX9_208 rfl o3 hr4 ?_
  refine z_iconst (v := 1) 25 rfl (by decide) ?_
  obtain ⟨o5, B⟩ := B
  obtain ⟨o6, B⟩ := B
  refine z_iald 26 rfl o5 o6 ?_
  refine z_icmp_ge 27 113 rfl (by decide) ⟨fun c7 => ?_, fun c7 => ?_⟩
  · have B := B.1 c7
    refine z_bipush (v := -2) 61 rfl (by decide) ?_
    exact z_iret 62 rfl rfl rfl ⟨rfl, rfl⟩ ⟨_, rfl, B⟩
  · have B := B.2 c7
    refine z_iload 28 rfl rfl ?_
    refine z_iconst (v := 1) 29 rfl (by decide) ?_
    refine z_iadd 30 rfl ?_
    refine z_istore 31 rfl (by decide) rfl ?_
    exact B
set_option maxRecDepth 100000 in
set_option maxHeartbeats 4000000 in
theorem sg_X9_pair_54 {G : zG} {d : Nat} {h : zMem} {Q : Int32 → zMem → Prop} {a0 : Nat} {x1 : Int32} {x2 : Int32} {x3 : Int32} {x4 : Int32} {x5 : Int32} (B : zO h a0 8 ∧ ∃ r2, zR h a0 11 = some r2 ∧ zO h r2 6 ∧ ∃ r4, zR h r2 0 = some r4 ∧ zO h r4 100 ∧ vp_in (1 : Int32) (zLen h r4) ∧ ((zI h r4 (1 : Int32).toNatClampNeg) ≤ x5 → zg G mX9_pair (d + 1) 34 [.ref a0, .int x1, .int x2, .int x3, .int (x4 + 1), zU] [] h (zPI Q)) ∧ (¬ (zI h r4 (1 : Int32).toNatClampNeg) ≤ x5 → ∃ r8, zR h a0 10 = some r8 ∧ zO h r8 100 ∧ vp_in x4 (zLen h r8) ∧ vp_in x5 (zLen h r8) ∧ (¬ (zI h r8 x4.toNatClampNeg) = (zI h r8 x5.toNatClampNeg) → zg G mX9_pair (d + 1) 54 [.ref a0, .int x1, .int x2, .int x3, .int x4, .int (x5 + 1)] [] h (zPI Q)) ∧ ((zI h r8 x4.toNatClampNeg) = (zI h r8 x5.toNatClampNeg) → (¬ x3 = 0 → zg G mX9_pair (d + 1) 54 [.ref a0, .int x1, .int x2, .int (x3 + (-1)), .int x4, .int (x5 + 1)] [] h (zPI Q)) ∧ (x3 = 0 → Q (((10 : Int32) * x4) + x5) h)))) : zg G mX9_pair (d + 1) 54 [.ref a0, .int x1, .int x2, .int x3, .int x4, .int x5] [] h (zPI Q) := by
  refine z_iload 32 rfl rfl ?_
  refine z_aload_n 33 rfl rfl ?_
  obtain ⟨o1, B⟩ := B
  obtain ⟨r2, hr2, B⟩ := B
  refine z_getR 34 rfl lX9_67 rfl o1 hr2 ?_
  obtain ⟨o3, B⟩ := B
  obtain ⟨r4, hr4, B⟩ := B
  refine z_getR 35 rfl lX9_208 rfl o3 hr4 ?_
  refine z_iconst (v := 1) 36 rfl (by decide) ?_
  obtain ⟨o5, B⟩ := B
  obtain ⟨o6, B⟩ := B
  refine z_iald 37 rfl o5 o6 ?_
  refine z_icmp_ge 38 107 rfl (by decide) ⟨fun c7 => ?_, fun c7 => ?_⟩
  · have B := B.1 c7
    refine z_iinc (v := 1) 59 rfl rfl (by decide) (by decide) rfl ?_
    refine z_goto 60 34 rfl (by decide) ?_
    refine z_drop 5 ?_
    exact B
  · have B := B.2 c7
    refine z_aload_n 39 rfl rfl ?_
    obtain ⟨r8, hr8, B⟩ := B
    refine z_getR 40 rfl lX9_61 rfl o1 hr8 ?_
    refine z_iload 41 rfl rfl ?_
    obtain ⟨o9, B⟩ := B
    obtain ⟨o10, B⟩ := B
    refine z_iald 42 rfl o9 o10 ?_
    refine z_aload_n 43 rfl rfl ?_
    refine z_getR 44 rfl lX9_61 rfl o1 hr8 ?_
    refine z_iload 45 rfl rfl ?_
    obtain ⟨o11, B⟩ := B
    refine z_iald 46 rfl o9 o11 ?_
    refine z_icmp_ne 47 101 rfl (by decide) ⟨fun c12 => ?_, fun c12 => ?_⟩
    · have B := B.1 c12
      refine z_iinc (v := 1) 57 rfl rfl (by decide) (by decide) rfl ?_
      refine z_goto 58 54 rfl (by decide) ?_
      exact B
    · have B := B.2 c12
      refine z_iload_n 48 rfl rfl ?_
      refine z_if_ne 49 98 rfl (by decide) ⟨fun c13 => ?_, fun c13 => ?_⟩
      · have B := B.1 c13
        refine z_iinc (v := -1) 56 rfl rfl (by decide) (by decide) rfl ?_
        refine z_iinc (v := 1) 57 rfl rfl (by decide) (by decide) rfl ?_
        refine z_goto 58 54 rfl (by decide) ?_
        exact B
      · have B := B.2 c13
        refine z_bipush (v := 10) 50 rfl (by decide) ?_
        refine z_iload 51 rfl rfl ?_
        refine z_imul 52 rfl ?_
        refine z_iload 53 rfl rfl ?_
        refine z_iadd 54 rfl ?_
        exact z_iret 55 rfl rfl rfl ⟨rfl, rfl⟩ ⟨_, rfl, B⟩
