set_option maxRecDepth 100000 in
set_option maxHeartbeats 4000000 in
theorem sg_X9_feed_0 {G : zG} {d : Nat} {h : zMem} {Q : Int32 → zMem → Prop} {t : Nat} {x1 : Int32} {x2 : Int32} {x3 : Int32} {x4 : Int32} {x5 : Int32} (hS : zSh1 h t)  (B : (((zI h 0 12) + (20 : Int32)) ≤ (700 : Int32) → ∃ Q2 : zMem → Prop, zConV G mX9_tapeNumber d [.ref 0, .int x1] h Q2 ∧ (∀ h3, Q2 h3 → zSh1 h3 t ∧ ∃ Q5 : zMem → Prop, zConV G mX9_tapeNumber d [.ref 0, .int x2] h3 Q5 ∧ (∀ h6, Q5 h6 → zSh1 h6 t ∧ ∃ Q8 : zMem → Prop, zConV G mX9_tapeNumber d [.ref 0, .int x3] h6 Q8 ∧ (∀ h9, Q8 h9 → zSh1 h9 t ∧ ∃ Q11 : zMem → Prop, zConV G mX9_tapeNumber d [.ref 0, .int x4] h9 Q11 ∧ (∀ h12, Q11 h12 → zSh1 h12 t ∧ ∃ Q14 : zMem → Prop, zConV G mX9_tapeNumber d [.ref 0, .int x5] h12 Q14 ∧ (∀ h15, Q14 h15 → zSh1 h15 t ∧ Q (zI h15 0 12) h15)))))) ∧ (¬ ((zI h 0 12) + (20 : Int32)) ≤ (700 : Int32) → Q (-1 : Int32) h)) : zg G mX9_feed (d + 1) 0 [.ref 0, .int x1, .int x2, .int x3, .int x4, .int x5] [] h (zPI Q) := by
  refine z_aload_n 0 rfl rfl ?_
  refine z_getI 1 rfl lX9_75 rfl (hS.1.o 0 8 rfl rfl rfl) ?_
  refine z_bipush (v := 20) 2 rfl (by decide) ?_
  refine z_iadd 3 rfl ?_
  refine z_sipush (v := 700) 4 rfl (by decide) ?_
  refine z_icmp_le 5 15 rfl (by decide) ⟨fun c1 => ?_, fun c1 => ?_⟩
  · have B := B.1 c1
    refine z_aload_n 8 rfl rfl ?_
    refine z_iload_n 9 rfl rfl ?_
    obtain ⟨Q2, K4, B⟩ := B
    refine z_cVV1 (ν := mX9_tapeNumber) 10 rfl rfl fX9_tapeNumber gX9_79 ⟨_, rfl, rfl⟩ (by decide) (hS.1.o 0 8 rfl rfl rfl) (Nat.le_of_ble_eq_true rfl) K4 (fun h3 q => ?_)
    obtain ⟨hSh3, B⟩ := B h3 q
    refine z_aload_n 11 rfl rfl ?_
    refine z_iload_n 12 rfl rfl ?_
    obtain ⟨Q5, K7, B⟩ := B
    refine z_cVV1 (ν := mX9_tapeNumber) 13 rfl rfl fX9_tapeNumber gX9_79 ⟨_, rfl, rfl⟩ (by decide) (hSh3.1.o 0 8 rfl rfl rfl) (Nat.le_of_ble_eq_true rfl) K7 (fun h6 q => ?_)
    obtain ⟨hSh6, B⟩ := B h6 q
    refine z_aload_n 14 rfl rfl ?_
    refine z_iload_n 15 rfl rfl ?_
    obtain ⟨Q8, K10, B⟩ := B
    refine z_cVV1 (ν := mX9_tapeNumber) 16 rfl rfl fX9_tapeNumber gX9_79 ⟨_, rfl, rfl⟩ (by decide) (hSh6.1.o 0 8 rfl rfl rfl) (Nat.le_of_ble_eq_true rfl) K10 (fun h9 q => ?_)
    obtain ⟨hSh9, B⟩ := B h9 q
    refine z_aload_n 17 rfl rfl ?_
    refine z_iload 18 rfl rfl ?_
    obtain ⟨Q11, K13, B⟩ := B
    refine z_cVV1 (ν := mX9_tapeNumber) 19 rfl rfl fX9_tapeNumber gX9_79 ⟨_, rfl, rfl⟩ (by decide) (hSh9.1.o 0 8 rfl rfl rfl) (Nat.le_of_ble_eq_true rfl) K13 (fun h12 q => ?_)
    obtain ⟨hSh12, B⟩ := B h12 q
    refine z_aload_n 20 rfl rfl ?_
    refine z_iload 21 rfl rfl ?_
    obtain ⟨Q14, K16, B⟩ := B
    refine z_cVV1 (ν := mX9_tapeNumber) 22 rfl rfl fX9_tapeNumber gX9_79 ⟨_, rfl, rfl⟩ (by decide) (hSh12.1.o 0 8 rfl rfl rfl) (Nat.le_of_ble_eq_true rfl) K16 (fun h15 q => ?_)
    obtain ⟨hSh15, B⟩ := B h15 q
    refine z_aload_n 23 rfl rfl ?_
    refine z_getI 24 rfl lX9_75 rfl (hSh15.1.o 0 8 rfl rfl rfl) ?_
    exact z_iret 25 rfl rfl rfl ⟨rfl, rfl⟩ ⟨_, rfl, B⟩
  · have B := B.2 c1
    refine z_iconst (v := -1) 6 rfl (by decide) ?_
    exact z_iret 7 rfl rfl rfl ⟨rfl, rfl⟩ ⟨_, rfl, B⟩
theorem cn_X9_feed {G : zG} {d : Nat} {h : zMem} {Q : Int32 → zMem → Prop} {x1 : Int32} {x2 : Int32} {x3 : Int32} {x4 : Int32} {x5 : Int32} (B : zg G mX9_feed (d + 1) 0 [.ref 0, .int x1, .int x2, .int x3, .int x4, .int x5] [] h (zPI Q)) : zConI G mX9_feed (d + 1) [.ref 0, .int x1, .int x2, .int x3, .int x4, .int x5] h Q := zcon0 (by decide +kernel) eX9_feed (Nat.le_of_ble_eq_true rfl) rfl B
set_option maxRecDepth 100000 in
set_option maxHeartbeats 4000000 in
theorem sg_X9_tapeNumber_0 {G : zG} {d : Nat} {h : zMem} {Q : zMem → Prop} {t : Nat} {x1 : Int32} (hS : zSh1 h t)  (B : zg G mX9_tapeNumber d 3 [.ref 0, .int x1, .int (24 : Int32)] [] h (zPV Q)) : zg G mX9_tapeNumber d 0 [.ref 0, .int x1, zU] [] h (zPV Q) := by
  refine z_bipush (v := 24) 0 rfl (by decide) ?_
  refine z_istore_n 1 rfl (by decide) rfl ?_
  exact B
theorem cn_X9_tapeNumber {G : zG} {d : Nat} {h : zMem} {Q : zMem → Prop} {x1 : Int32} (B : zg G mX9_tapeNumber d 0 [.ref 0, .int x1, zU] [] h (zPV Q)) : zConV G mX9_tapeNumber d [.ref 0, .int x1] h Q := zcon0 (by decide +kernel) eX9_tapeNumber (Nat.le_of_ble_eq_true rfl) rfl B
set_option maxRecDepth 100000 in
set_option maxHeartbeats 4000000 in
theorem sg_X9_tapeNumber_3 {G : zG} {d : Nat} {h : zMem} {Q : zMem → Prop} {t : Nat} {x1 : Int32} {x2 : Int32} (hS : zSh1 h t)  (B : (x2 < 0 → Q h) ∧ (¬ x2 < 0 → vp_in (zI h 0 12) 700 ∧ zg G mX9_tapeNumber d 3 [.ref 0, .int x1, .int (x2 + (-8))] [] (zsI (zsI h 1 (zI h 0 12).toNatClampNeg (vp_nar .byte ((x1 >>> (x2 &&& 31)).toInt8.toInt32))) 0 12 ((zI (zsI h 1 (zI h 0 12).toNatClampNeg (vp_nar .byte ((x1 >>> (x2 &&& 31)).toInt8.toInt32))) 0 12) + (1 : Int32))) (zPV Q))) : zg G mX9_tapeNumber d 3 [.ref 0, .int x1, .int x2] [] h (zPV Q) := by
  refine z_iload_n 2 rfl rfl ?_
  refine z_if_lt 3 36 rfl (by decide) ⟨fun c1 => ?_, fun c1 => ?_⟩
  · have B := B.1 c1
    exact z_vret 21 rfl rfl ⟨rfl, rfl⟩ ⟨rfl, B⟩
  · have B := B.2 c1
    refine z_aload_n 4 rfl rfl ?_
    refine z_getR 5 rfl lX9_9 rfl (hS.1.o 0 8 rfl rfl rfl) (hS.1.r 0 0 1 rfl rfl rfl) ?_
    refine z_aload_n 6 rfl rfl ?_
    refine z_getI 7 rfl lX9_75 rfl (hS.1.o 0 8 rfl rfl rfl) ?_
    refine z_iload_n 8 rfl rfl ?_
    refine z_iload_n 9 rfl rfl ?_
    refine z_ishr 10 rfl ?_
    refine z_i2b 11 rfl ?_
    obtain ⟨o2, B⟩ := B
    refine z_bast 12 rfl (hS.1.o 1 102 rfl rfl rfl) (zin (hS.1.l 1 700 rfl rfl rfl) o2) ?_
    refine z_aload_n 13 rfl rfl ?_
    refine z_dup 14 rfl rfl ?_
    refine z_getI 15 rfl lX9_75 rfl (hS.1.o 0 8 rfl rfl rfl) ?_
    refine z_iconst (v := 1) 16 rfl (by decide) ?_
    refine z_iadd 17 rfl ?_
    refine z_putI 18 rfl lX9_75 ⟨_, _, _, rfl, rfl⟩ rfl rfl rfl (hS.1.o 0 8 rfl rfl rfl) ?_
    refine z_iinc (v := -8) 19 rfl rfl (by decide) (by decide) rfl ?_
    refine z_goto 20 3 rfl (by decide) ?_
    exact B
set_option maxRecDepth 100000 in
set_option maxHeartbeats 4000000 in
theorem sg_X9_text_0 {G : zG} {d : Nat} {h : zMem} {Q : Int32 → zMem → Prop} {x1 : Int32} (hS : zcl1 h 0 132)  (B : (x1 < 0 → Q (-2 : Int32) h) ∧ (¬ x1 < 0 → (x1 ≤ (zI h 0 12) → ∃ Q3 : zMem → Prop, zConV G mX3_open d [.ref 2, .ref 1, .int x1] (zsI h 0 12 (0 : Int32)) Q3 ∧ (∀ h4, Q3 h4 → zcl1 h4 0 132 ∧ zg G mX9_text (d + 1) 34 [.ref 0, .int x1, .int (0 : Int32)] [] h4 (zPI Q))) ∧ (¬ x1 ≤ (zI h 0 12) → Q (-2 : Int32) h))) : zg G mX9_text (d + 1) 0 [.ref 0, .int x1, zU] [] h (zPI Q) := by
  refine z_iload_n 0 rfl rfl ?_
  refine z_if_lt 1 12 rfl (by decide) ⟨fun c1 => ?_, fun c1 => ?_⟩
  · have B := B.1 c1
    refine z_bipush (v := -2) 6 rfl (by decide) ?_
    exact z_iret 7 rfl rfl rfl ⟨rfl, rfl⟩ ⟨_, rfl, B⟩
  · have B := B.2 c1
    refine z_iload_n 2 rfl rfl ?_
    refine z_aload_n 3 rfl rfl ?_
    refine z_getI 4 rfl lX9_75 rfl (zcl1.o hS 0 8 rfl rfl rfl) ?_
    refine z_icmp_le 5 15 rfl (by decide) ⟨fun c2 => ?_, fun c2 => ?_⟩
    · have B := B.1 c2
      refine z_aload_n 8 rfl rfl ?_
      refine z_iconst (v := 0) 9 rfl (by decide) ?_
      refine z_putI 10 rfl lX9_75 ⟨_, _, _, rfl, rfl⟩ rfl rfl rfl (zcl1.o hS 0 8 rfl rfl rfl) ?_
      refine z_iconst (v := 0) 11 rfl (by decide) ?_
      refine z_istore_n 12 rfl (by decide) rfl ?_
      refine z_aload_n 13 rfl rfl ?_
      refine z_getR 14 rfl lX9_16 rfl (zcl1.o hS 0 8 rfl rfl rfl) (zcl1.r hS 0 1 2 rfl rfl rfl) ?_
      refine z_aload_n 15 rfl rfl ?_
      refine z_getR 16 rfl lX9_9 rfl (zcl1.o hS 0 8 rfl rfl rfl) (zcl1.r hS 0 0 1 rfl rfl rfl) ?_
      refine z_iload_n 17 rfl rfl ?_
      obtain ⟨Q3, K5, B⟩ := B
      refine z_cVV2 (ν := mX3_open) 18 rfl rfl fX3_open gX9_83 ⟨_, rfl, rfl⟩ (by decide) (zcl1.o hS 2 3 rfl rfl rfl) (Nat.le_of_ble_eq_true rfl) K5 (fun h4 q => ?_)
      obtain ⟨hSh4, B⟩ := B h4 q
      exact B
    · have B := B.2 c2
      refine z_bipush (v := -2) 6 rfl (by decide) ?_
      exact z_iret 7 rfl rfl rfl ⟨rfl, rfl⟩ ⟨_, rfl, B⟩
theorem cn_X9_text {G : zG} {d : Nat} {h : zMem} {Q : Int32 → zMem → Prop} {x1 : Int32} (B : zg G mX9_text (d + 1) 0 [.ref 0, .int x1, zU] [] h (zPI Q)) : zConI G mX9_text (d + 1) [.ref 0, .int x1] h Q := zcon0 (by decide +kernel) eX9_text (Nat.le_of_ble_eq_true rfl) rfl B
set_option maxRecDepth 100000 in
set_option maxHeartbeats 4000000 in
theorem sg_X9_text_34 {G : zG} {d : Nat} {h : zMem} {Q : Int32 → zMem → Prop} {x1 : Int32} {x2 : Int32} (hS : zcl1 h 0 132)  (B : (x1 ≤ x2 → ∃ r2, zR h 0 11 = some r2 ∧ ∃ Q3 : Nat → zMem → Prop, zConR G mX3_exchange d [.ref 2, .ref r2] h Q3 ∧ (∀ v6 h4, Q3 v6 h4 → zcl1 h4 0 132 ∧ ∃ r7, zR (zsR h4 0 11 (some v6)) 0 11 = some r7 ∧ ∃ Q8 : zMem → Prop, zConV G mX5_begin d [.ref 48, .ref r7] (zsR h4 0 11 (some v6)) Q8 ∧ (∀ h9, Q8 h9 → zcl1 h9 0 132 ∧ ∃ Q11 : zMem → Prop, zConV G mX1_clear d [.ref 37] h9 Q11 ∧ (∀ h12, Q11 h12 → zcl1 h12 0 132 ∧ ∃ Q14 : zMem → Prop, zConV G mX8_clear d [.ref 44] h12 Q14 ∧ (∀ h15, Q14 h15 → zcl1 h15 0 132 ∧ Q x2 (zsI h15 0 13 (0 : Int32))))))) ∧ (¬ x1 ≤ x2 → ∃ Q17 : Int32 → zMem → Prop, zConI G mX3_hasMore d [.ref 2] h Q17 ∧ (∀ v20 h18, Q17 v20 h18 → zcl1 h18 0 132 ∧ (v20 = 0 → ∃ r22, zR h18 0 11 = some r22 ∧ ∃ Q23 : Nat → zMem → Prop, zConR G mX3_exchange d [.ref 2, .ref r22] h18 Q23 ∧ (∀ v26 h24, Q23 v26 h24 → zcl1 h24 0 132 ∧ ∃ r27, zR (zsR h24 0 11 (some v26)) 0 11 = some r27 ∧ ∃ Q28 : zMem → Prop, zConV G mX5_begin d [.ref 48, .ref r27] (zsR h24 0 11 (some v26)) Q28 ∧ (∀ h29, Q28 h29 → zcl1 h29 0 132 ∧ ∃ Q31 : zMem → Prop, zConV G mX1_clear d [.ref 37] h29 Q31 ∧ (∀ h32, Q31 h32 → zcl1 h32 0 132 ∧ ∃ Q34 : zMem → Prop, zConV G mX8_clear d [.ref 44] h32 Q34 ∧ (∀ h35, Q34 h35 → zcl1 h35 0 132 ∧ Q x2 (zsI h35 0 13 (0 : Int32))))))) ∧ (¬ v20 = 0 → ∃ Q37 : Int32 → zMem → Prop, zConI G mX3_readLine d [.ref 2] h18 Q37 ∧ (∀ v40 h38, Q37 v40 h38 → zcl1 h38 0 132 ∧ (¬ v40 = (-1 : Int32) → zg G mX9_text (d + 1) 34 [.ref 0, .int x1, .int (x2 + 1)] [] h38 (zPI Q)) ∧ (v40 = (-1 : Int32) → Q (-1 : Int32) h38)))))) : zg G mX9_text (d + 1) 34 [.ref 0, .int x1, .int x2] [] h (zPI Q) := by
  refine z_iload_n 19 rfl rfl ?_
  refine z_iload_n 20 rfl rfl ?_
  refine z_icmp_ge 21 68 rfl (by decide) ⟨fun c1 => ?_, fun c1 => ?_⟩
  · have B := B.1 c1
    refine z_aload_n 35 rfl rfl ?_
    refine z_aload_n 36 rfl rfl ?_
    refine z_getR 37 rfl lX9_16 rfl (zcl1.o hS 0 8 rfl rfl rfl) (zcl1.r hS 0 1 2 rfl rfl rfl) ?_
    refine z_aload_n 38 rfl rfl ?_
    obtain ⟨r2, hr2, B⟩ := B
    refine z_getR 39 rfl lX9_67 rfl (zcl1.o hS 0 8 rfl rfl rfl) hr2 ?_
    obtain ⟨Q3, K5, B⟩ := B
    refine z_cVR1 (ν := mX3_exchange) 40 rfl rfl fX3_exchange gX9_95 ⟨_, rfl, rfl⟩ (by decide) (zcl1.o hS 2 3 rfl rfl rfl) (Nat.le_of_ble_eq_true rfl) K5 (fun v6 h4 q => ?_)
    obtain ⟨hSh4, B⟩ := B v6 h4 q
    refine z_putR 41 rfl lX9_67 ⟨_, _, _, rfl, rfl⟩ rfl (zcl1.o hSh4 0 8 rfl rfl rfl) ?_
    refine z_aload_n 42 rfl rfl ?_
    refine z_getR 43 rfl lX9_37 rfl (zcl1.o hSh4 0 8 rfl rfl rfl) (zcl1.r hSh4 0 4 48 rfl rfl rfl) ?_
    refine z_aload_n 44 rfl rfl ?_
    obtain ⟨r7, hr7, B⟩ := B
    refine z_getR 45 rfl lX9_67 rfl (zcl1.o hSh4 0 8 rfl rfl rfl) hr7 ?_
    obtain ⟨Q8, K10, B⟩ := B
    refine z_cVV1 (ν := mX5_begin) 46 rfl rfl fX5_begin gX9_71 ⟨_, rfl, rfl⟩ (by decide) (zcl1.o hSh4 48 5 rfl rfl rfl) (Nat.le_of_ble_eq_true rfl) K10 (fun h9 q => ?_)
    obtain ⟨hSh9, B⟩ := B h9 q
    refine z_aload_n 47 rfl rfl ?_
    refine z_getR 48 rfl lX9_23 rfl (zcl1.o hSh9 0 8 rfl rfl rfl) (zcl1.r hSh9 0 2 37 rfl rfl rfl) ?_
    obtain ⟨Q11, K13, B⟩ := B
    refine z_cVV0 (ν := mX1_clear) 49 rfl rfl fX1_clear gX9_99 ⟨_, rfl, rfl⟩ (by decide) (zcl1.o hSh9 37 1 rfl rfl rfl) (Nat.le_of_ble_eq_true rfl) K13 (fun h12 q => ?_)
    obtain ⟨hSh12, B⟩ := B h12 q
    refine z_aload_n 50 rfl rfl ?_
    refine z_getR 51 rfl lX9_30 rfl (zcl1.o hSh12 0 8 rfl rfl rfl) (zcl1.r hSh12 0 3 44 rfl rfl rfl) ?_
    obtain ⟨Q14, K16, B⟩ := B
    refine z_cVV0 (ν := mX8_clear) 52 rfl rfl fX8_clear gX9_102 ⟨_, rfl, rfl⟩ (by decide) (zcl1.o hSh12 44 7 rfl rfl rfl) (Nat.le_of_ble_eq_true rfl) K16 (fun h15 q => ?_)
    obtain ⟨hSh15, B⟩ := B h15 q
    refine z_aload_n 53 rfl rfl ?_
    refine z_iconst (v := 0) 54 rfl (by decide) ?_
    refine z_putI 55 rfl lX9_103 ⟨_, _, _, rfl, rfl⟩ rfl rfl rfl (zcl1.o hSh15 0 8 rfl rfl rfl) ?_
    refine z_iload_n 56 rfl rfl ?_
    exact z_iret 57 rfl rfl rfl ⟨rfl, rfl⟩ ⟨_, rfl, B⟩
  · have B := B.2 c1
    refine z_aload_n 22 rfl rfl ?_
    refine z_getR 23 rfl lX9_16 rfl (zcl1.o hS 0 8 rfl rfl rfl) (zcl1.r hS 0 1 2 rfl rfl rfl) ?_
    obtain ⟨Q17, K19, B⟩ := B
    refine z_cVI0 (ν := mX3_hasMore) 24 rfl rfl fX3_hasMore gX9_87 ⟨_, rfl, rfl⟩ (by decide) (zcl1.o hS 2 3 rfl rfl rfl) (Nat.le_of_ble_eq_true rfl) K19 (fun v20 h18 q => ?_)
    obtain ⟨hSh18, B⟩ := B v20 h18 q
    refine z_if_eq 25 68 rfl (by decide) ⟨fun c21 => ?_, fun c21 => ?_⟩
    · have B := B.1 c21
      refine z_aload_n 35 rfl rfl ?_
      refine z_aload_n 36 rfl rfl ?_
      refine z_getR 37 rfl lX9_16 rfl (zcl1.o hSh18 0 8 rfl rfl rfl) (zcl1.r hSh18 0 1 2 rfl rfl rfl) ?_
      refine z_aload_n 38 rfl rfl ?_
      obtain ⟨r22, hr22, B⟩ := B
      refine z_getR 39 rfl lX9_67 rfl (zcl1.o hSh18 0 8 rfl rfl rfl) hr22 ?_
      obtain ⟨Q23, K25, B⟩ := B
      refine z_cVR1 (ν := mX3_exchange) 40 rfl rfl fX3_exchange gX9_95 ⟨_, rfl, rfl⟩ (by decide) (zcl1.o hSh18 2 3 rfl rfl rfl) (Nat.le_of_ble_eq_true rfl) K25 (fun v26 h24 q => ?_)
      obtain ⟨hSh24, B⟩ := B v26 h24 q
      refine z_putR 41 rfl lX9_67 ⟨_, _, _, rfl, rfl⟩ rfl (zcl1.o hSh24 0 8 rfl rfl rfl) ?_
      refine z_aload_n 42 rfl rfl ?_
      refine z_getR 43 rfl lX9_37 rfl (zcl1.o hSh24 0 8 rfl rfl rfl) (zcl1.r hSh24 0 4 48 rfl rfl rfl) ?_
      refine z_aload_n 44 rfl rfl ?_
      obtain ⟨r27, hr27, B⟩ := B
      refine z_getR 45 rfl lX9_67 rfl (zcl1.o hSh24 0 8 rfl rfl rfl) hr27 ?_
      obtain ⟨Q28, K30, B⟩ := B
      refine z_cVV1 (ν := mX5_begin) 46 rfl rfl fX5_begin gX9_71 ⟨_, rfl, rfl⟩ (by decide) (zcl1.o hSh24 48 5 rfl rfl rfl) (Nat.le_of_ble_eq_true rfl) K30 (fun h29 q => ?_)
      obtain ⟨hSh29, B⟩ := B h29 q
      refine z_aload_n 47 rfl rfl ?_
      refine z_getR 48 rfl lX9_23 rfl (zcl1.o hSh29 0 8 rfl rfl rfl) (zcl1.r hSh29 0 2 37 rfl rfl rfl) ?_
      obtain ⟨Q31, K33, B⟩ := B
      refine z_cVV0 (ν := mX1_clear) 49 rfl rfl fX1_clear gX9_99 ⟨_, rfl, rfl⟩ (by decide) (zcl1.o hSh29 37 1 rfl rfl rfl) (Nat.le_of_ble_eq_true rfl) K33 (fun h32 q => ?_)
      obtain ⟨hSh32, B⟩ := B h32 q
      refine z_aload_n 50 rfl rfl ?_
      refine z_getR 51 rfl lX9_30 rfl (zcl1.o hSh32 0 8 rfl rfl rfl) (zcl1.r hSh32 0 3 44 rfl rfl rfl) ?_
      obtain ⟨Q34, K36, B⟩ := B
      refine z_cVV0 (ν := mX8_clear) 52 rfl rfl fX8_clear gX9_102 ⟨_, rfl, rfl⟩ (by decide) (zcl1.o hSh32 44 7 rfl rfl rfl) (Nat.le_of_ble_eq_true rfl) K36 (fun h35 q => ?_)
      obtain ⟨hSh35, B⟩ := B h35 q
      refine z_aload_n 53 rfl rfl ?_
      refine z_iconst (v := 0) 54 rfl (by decide) ?_
      refine z_putI 55 rfl lX9_103 ⟨_, _, _, rfl, rfl⟩ rfl rfl rfl (zcl1.o hSh35 0 8 rfl rfl rfl) ?_
      refine z_iload_n 56 rfl rfl ?_
      exact z_iret 57 rfl rfl rfl ⟨rfl, rfl⟩ ⟨_, rfl, B⟩
    · have B := B.2 c21
      refine z_aload_n 26 rfl rfl ?_
      refine z_getR 27 rfl lX9_16 rfl (zcl1.o hSh18 0 8 rfl rfl rfl) (zcl1.r hSh18 0 1 2 rfl rfl rfl) ?_
      obtain ⟨Q37, K39, B⟩ := B
      refine z_cVI0 (ν := mX3_readLine) 28 rfl rfl fX3_readLine gX9_91 ⟨_, rfl, rfl⟩ (by decide) (zcl1.o hSh18 2 3 rfl rfl rfl) (Nat.le_of_ble_eq_true rfl) K39 (fun v40 h38 q => ?_)
      obtain ⟨hSh38, B⟩ := B v40 h38 q
      refine z_iconst (v := -1) 29 rfl (by decide) ?_
      refine z_icmp_ne 30 62 rfl (by decide) ⟨fun c41 => ?_, fun c41 => ?_⟩
      · have B := B.1 c41
        refine z_iinc (v := 1) 33 rfl rfl (by decide) (by decide) rfl ?_
        refine z_goto 34 34 rfl (by decide) ?_
        exact B
      · have B := B.2 c41
        refine z_iconst (v := -1) 31 rfl (by decide) ?_
        exact z_iret 32 rfl rfl rfl ⟨rfl, rfl⟩ ⟨_, rfl, B⟩
theorem zlk_X9_fault_1 {x : Int32} (c0 : ¬ x = 0) (c1 : ¬ x = 1) : Op.lookupswitch.offset (#[(0, 27), (1, 35)] : Array (Int × Int)).toList 43 x.toInt = 43 := by
  have c0 : ¬ (0 : Int) = x.toInt := fun e => c0 (Int32.toInt_inj.mp (by rw [← e]; decide))
  have c1 : ¬ (1 : Int) = x.toInt := fun e => c1 (Int32.toInt_inj.mp (by rw [← e]; decide))
  simp [Op.lookupswitch.offset, c0, Ne.symm c0, c1, Ne.symm c1]
set_option maxRecDepth 100000 in
set_option maxHeartbeats 4000000 in
theorem sg_X9_fault_0 {G : zG} {d : Nat} {h : zMem} {Q : Int32 → zMem → Prop} {t : Nat} {x1 : Int32} (hS : zSh1 h t)  (B : (x1 = 0 → Q (zI h 2 7) h) ∧ (x1 = 1 → Q (zI h 2 8) h) ∧ (¬ x1 = 0 → ¬ x1 = 1 → Q (-1 : Int32) h)) : zg G mX9_fault d 0 [.ref 0, .int x1] [] h (zPI Q) := by
  refine z_iload_n 0 rfl rfl ?_
  by_cases c1_0 : x1 = 0
  · obtain ⟨B, -⟩ := B
    refine z_lookup 1 28 rfl (by decide) (by rw [c1_0]; try rfl) (by decide) ?_
    have B := B c1_0
    refine z_aload_n 2 rfl rfl ?_
    refine z_getR 3 rfl lX9_16 rfl (hS.1.o 0 8 rfl rfl rfl) (hS.1.r 0 1 2 rfl rfl rfl) ?_
    refine z_getI 4 rfl lX9_107 rfl (hS.1.o 2 3 rfl rfl rfl) ?_
    exact z_iret 5 rfl rfl rfl ⟨rfl, rfl⟩ ⟨_, rfl, B⟩
  obtain ⟨-, B⟩ := B
  by_cases c1_1 : x1 = 1
  · obtain ⟨B, -⟩ := B
    refine z_lookup 1 36 rfl (by decide) (by rw [c1_1]; try rfl) (by decide) ?_
    have B := B c1_1
    refine z_aload_n 6 rfl rfl ?_
    refine z_getR 7 rfl lX9_16 rfl (hS.1.o 0 8 rfl rfl rfl) (hS.1.r 0 1 2 rfl rfl rfl) ?_
    refine z_getI 8 rfl lX9_110 rfl (hS.1.o 2 3 rfl rfl rfl) ?_
    exact z_iret 9 rfl rfl rfl ⟨rfl, rfl⟩ ⟨_, rfl, B⟩
  obtain ⟨-, B⟩ := B
  have B := B c1_0 c1_1
  refine z_lookup 1 44 rfl (by decide) (zlk_X9_fault_1 c1_0 c1_1) (by decide) ?_
  refine z_iconst (v := -1) 10 rfl (by decide) ?_
  exact z_iret 11 rfl rfl rfl ⟨rfl, rfl⟩ ⟨_, rfl, B⟩
theorem cn_X9_fault {G : zG} {d : Nat} {h : zMem} {Q : Int32 → zMem → Prop} {x1 : Int32} (B : zg G mX9_fault d 0 [.ref 0, .int x1] [] h (zPI Q)) : zConI G mX9_fault d [.ref 0, .int x1] h Q := zcon0 (by decide +kernel) eX9_fault (Nat.le_of_ble_eq_true rfl) rfl B
set_option maxRecDepth 100000 in
set_option maxHeartbeats 4000000 in
theorem sg_X9_named_0 {G : zG} {d : Nat} {h : zMem} {Q : Int32 → zMem → Prop} {t : Nat} {x1 : Int32} {x2 : Int32} (hS : zSh1 h t)  (B : (x1 < 0 → Q (-1 : Int32) h) ∧ (¬ x1 < 0 → (x1 ≤ (3 : Int32) → ∃ Q3 : Int32 → zMem → Prop, zConI G mX7_numberOf d [.ref t, .int x1, .int x2] h Q3 ∧ (∀ v6 h4, Q3 v6 h4 → zSh1 h4 t ∧ Q v6 h4)) ∧ (¬ x1 ≤ (3 : Int32) → Q (-1 : Int32) h))) : zg G mX9_named (d + 1) 0 [.ref 0, .int x1, .int x2] [] h (zPI Q) := by
  refine z_iload_n 0 rfl rfl ?_
  refine z_if_lt 1 9 rfl (by decide) ⟨fun c1 => ?_, fun c1 => ?_⟩
  · have B := B.1 c1
    refine z_iconst (v := -1) 5 rfl (by decide) ?_
    refine z_goto 6 22 rfl (by decide) ?_
    exact z_iret 12 rfl rfl rfl ⟨rfl, rfl⟩ ⟨_, rfl, B⟩
  · have B := B.2 c1
    refine z_iload_n 2 rfl rfl ?_
    refine z_iconst (v := 3) 3 rfl (by decide) ?_
    refine z_icmp_le 4 13 rfl (by decide) ⟨fun c2 => ?_, fun c2 => ?_⟩
    · have B := B.1 c2
      refine z_aload_n 7 rfl rfl ?_
      refine z_getR 8 rfl lX9_67 rfl (hS.1.o 0 8 rfl rfl rfl) hS.2.2.1 ?_
      refine z_iload_n 9 rfl rfl ?_
      refine z_iload_n 10 rfl rfl ?_
      obtain ⟨Q3, K5, B⟩ := B
      refine z_cVI2 (ν := mX7_numberOf) 11 rfl rfl fX7_numberOf gX9_113 ⟨_, rfl, rfl⟩ (by decide) (zS_to hS hS.2.1 0 6 rfl rfl) (Nat.le_of_ble_eq_true rfl) K5 (fun v6 h4 q => ?_)
      obtain ⟨hSh4, B⟩ := B v6 h4 q
      exact z_iret 12 rfl rfl rfl ⟨rfl, rfl⟩ ⟨_, rfl, B⟩
    · have B := B.2 c2
      refine z_iconst (v := -1) 5 rfl (by decide) ?_
      refine z_goto 6 22 rfl (by decide) ?_
      exact z_iret 12 rfl rfl rfl ⟨rfl, rfl⟩ ⟨_, rfl, B⟩
theorem cn_X9_named {G : zG} {d : Nat} {h : zMem} {Q : Int32 → zMem → Prop} {x1 : Int32} {x2 : Int32} (B : zg G mX9_named (d + 1) 0 [.ref 0, .int x1, .int x2] [] h (zPI Q)) : zConI G mX9_named (d + 1) [.ref 0, .int x1, .int x2] h Q := zcon0 (by decide +kernel) eX9_named (Nat.le_of_ble_eq_true rfl) rfl B
theorem zsw_X9_stuff_12 {x : Int32} (z1 : ¬ x.toInt < 0) (z2 : ¬ 2 < x.toInt) (c0 : ¬ x = 0) (c1 : ¬ x = 1) (c2 : ¬ x = 2) : (#[28, 38, 51] : Array Int)[(x.toInt - 0).toNat]? = some 61 := by
  obtain ⟨v, hv⟩ : ∃ v : Int, v = x.toInt := ⟨_, rfl⟩
  have c0 : v ≠ 0 := fun e => c0 (Int32.toInt_inj.mp (by rw [← hv, e]; decide))
  have c1 : v ≠ 1 := fun e => c1 (Int32.toInt_inj.mp (by rw [← hv, e]; decide))
  have c2 : v ≠ 2 := fun e => c2 (Int32.toInt_inj.mp (by rw [← hv, e]; decide))
  rw [← hv] at z1 z2 ⊢
  rcases (show v = 0 ∨ v = 1 ∨ v = 2 by omega) with rfl | rfl | rfl
  all_goals first | exact absurd rfl (by assumption) | decide
set_option maxRecDepth 100000 in
set_option maxHeartbeats 4000000 in
theorem sg_X9_stuff_0 {G : zG} {d : Nat} {h : zMem} {Q : Int32 → zMem → Prop} {t : Nat} {x1 : Int32} {x2 : Int32} (hS : zSh1 h t)  (B : ∃ Q1 : Int32 → zMem → Prop, zConI G mX9_has d [.ref 0, .int (0 : Int32), .int x1] h Q1 ∧ (∀ v4 h2, Q1 v4 h2 → zSh1 h2 t ∧ (¬ v4 = 0 → (x2 = 0 → vp_in x1 6 ∧ Q (zI h2 49 x1.toNatClampNeg) h2) ∧ (x2 = 1 → ∃ Q7 : Int32 → zMem → Prop, zConI G mX5_worthOf d [.ref 48, .ref t, .int x1] h2 Q7 ∧ (∀ v10 h8, Q7 v10 h8 → zSh1 h8 t ∧ Q v10 h8)) ∧ (x2 = 2 → vp_in x1 6 ∧ Q (zI h2 50 x1.toNatClampNeg) h2) ∧ (¬ x2 = 0 → ¬ x2 = 1 → ¬ x2 = 2 → Q (-1 : Int32) h2)) ∧ (v4 = 0 → Q (-1 : Int32) h2))) : zg G mX9_stuff (d + 1) 0 [.ref 0, .int x1, .int x2] [] h (zPI Q) := by
  refine z_aload_n 0 rfl rfl ?_
  refine z_iconst (v := 0) 1 rfl (by decide) ?_
  refine z_iload_n 2 rfl rfl ?_
  obtain ⟨Q1, K3, B⟩ := B
  refine z_cVI2 (ν := mX9_has) 3 rfl rfl fX9_has gX9_117 ⟨_, rfl, rfl⟩ (by decide) (hS.1.o 0 8 rfl rfl rfl) (Nat.le_of_ble_eq_true rfl) K3 (fun v4 h2 q => ?_)
  obtain ⟨hSh2, B⟩ := B v4 h2 q
  refine z_if_ne 4 11 rfl (by decide) ⟨fun c5 => ?_, fun c5 => ?_⟩
  · have B := B.1 c5
    refine z_iload_n 7 rfl rfl ?_
    by_cases c12_0 : x2 = 0
    · obtain ⟨B, -⟩ := B
      refine z_tableIn 8 40 rfl 0 (by rw [c12_0]; decide) (by decide) (by decide) rfl (by decide) ?_
      have B := B c12_0
      refine z_aload_n 9 rfl rfl ?_
      refine z_getR 10 rfl lX9_37 rfl (hSh2.1.o 0 8 rfl rfl rfl) (hSh2.1.r 0 4 48 rfl rfl rfl) ?_
      refine z_getR 11 rfl lX9_148 rfl (hSh2.1.o 48 5 rfl rfl rfl) (hSh2.1.r 48 0 49 rfl rfl rfl) ?_
      refine z_iload_n 12 rfl rfl ?_
      obtain ⟨o6, B⟩ := B
      refine z_iald 13 rfl (hSh2.1.o 49 100 rfl rfl rfl) (zin (hSh2.1.l 49 6 rfl rfl rfl) o6) ?_
      exact z_iret 14 rfl rfl rfl ⟨rfl, rfl⟩ ⟨_, rfl, B⟩
    obtain ⟨-, B⟩ := B
    by_cases c12_1 : x2 = 1
    · obtain ⟨B, -⟩ := B
      refine z_tableIn 8 50 rfl 1 (by rw [c12_1]; decide) (by decide) (by decide) rfl (by decide) ?_
      have B := B c12_1
      refine z_aload_n 15 rfl rfl ?_
      refine z_getR 16 rfl lX9_37 rfl (hSh2.1.o 0 8 rfl rfl rfl) (hSh2.1.r 0 4 48 rfl rfl rfl) ?_
      refine z_aload_n 17 rfl rfl ?_
      refine z_getR 18 rfl lX9_67 rfl (hSh2.1.o 0 8 rfl rfl rfl) hSh2.2.2.1 ?_
      refine z_iload_n 19 rfl rfl ?_
      obtain ⟨Q7, K9, B⟩ := B
      refine z_cVI2 (ν := mX5_worthOf) 20 rfl rfl fX5_worthOf gX9_151 ⟨_, rfl, rfl⟩ (by decide) (hSh2.1.o 48 5 rfl rfl rfl) (Nat.le_of_ble_eq_true rfl) K9 (fun v10 h8 q => ?_)
      obtain ⟨hSh8, B⟩ := B v10 h8 q
      exact z_iret 21 rfl rfl rfl ⟨rfl, rfl⟩ ⟨_, rfl, B⟩
    obtain ⟨-, B⟩ := B
    by_cases c12_2 : x2 = 2
    · obtain ⟨B, -⟩ := B
      refine z_tableIn 8 63 rfl 2 (by rw [c12_2]; decide) (by decide) (by decide) rfl (by decide) ?_
      have B := B c12_2
      refine z_aload_n 22 rfl rfl ?_
      refine z_getR 23 rfl lX9_37 rfl (hSh2.1.o 0 8 rfl rfl rfl) (hSh2.1.r 0 4 48 rfl rfl rfl) ?_
      refine z_getR 24 rfl lX9_155 rfl (hSh2.1.o 48 5 rfl rfl rfl) (hSh2.1.r 48 1 50 rfl rfl rfl) ?_
      refine z_iload_n 25 rfl rfl ?_
      obtain ⟨o11, B⟩ := B
      refine z_iald 26 rfl (hSh2.1.o 50 100 rfl rfl rfl) (zin (hSh2.1.l 50 6 rfl rfl rfl) o11) ?_
      exact z_iret 27 rfl rfl rfl ⟨rfl, rfl⟩ ⟨_, rfl, B⟩
    obtain ⟨-, B⟩ := B
    have B := B c12_0 c12_1 c12_2
    refine z_tableD 8 73 rfl (by decide) (by
      intro z1 z2
      refine zsw_X9_stuff_12 z1 z2 c12_0 c12_1 c12_2) ?_
    refine z_iconst (v := -1) 28 rfl (by decide) ?_
    exact z_iret 29 rfl rfl rfl ⟨rfl, rfl⟩ ⟨_, rfl, B⟩
  · have B := B.2 c5
    refine z_iconst (v := -1) 5 rfl (by decide) ?_
    exact z_iret 6 rfl rfl rfl ⟨rfl, rfl⟩ ⟨_, rfl, B⟩
theorem cn_X9_stuff {G : zG} {d : Nat} {h : zMem} {Q : Int32 → zMem → Prop} {x1 : Int32} {x2 : Int32} (B : zg G mX9_stuff (d + 1) 0 [.ref 0, .int x1, .int x2] [] h (zPI Q)) : zConI G mX9_stuff (d + 1) [.ref 0, .int x1, .int x2] h Q := zcon0 (by decide +kernel) eX9_stuff (Nat.le_of_ble_eq_true rfl) rfl B
set_option maxRecDepth 100000 in
set_option maxHeartbeats 4000000 in
theorem sg_X9_mix_0 {G : zG} {d : Nat} {h : zMem} {Q : Int32 → zMem → Prop} {t : Nat} {x1 : Int32} {x2 : Int32} (hS : zSh1 h t)  (B : ∃ Q1 : Int32 → zMem → Prop, zConI G mX9_has d [.ref 0, .int (1 : Int32), .int x1] h Q1 ∧ (∀ v4 h2, Q1 v4 h2 → zSh1 h2 t ∧ (v4 = 0 → Q (-1 : Int32) h2) ∧ (¬ v4 = 0 → ∃ Q6 : Int32 → zMem → Prop, zConI G mX9_has d [.ref 0, .int (0 : Int32), .int x2] h2 Q6 ∧ (∀ v9 h7, Q6 v9 h7 → zSh1 h7 t ∧ (v9 = 0 → Q (-1 : Int32) h7) ∧ (¬ v9 = 0 → vp_in x1 8 ∧ vp_in x2 6 ∧ Q (zI h7 (t + 9 + 1 + x1.toNatClampNeg) x2.toNatClampNeg) h7))))) : zg G mX9_mix (d + 1) 0 [.ref 0, .int x1, .int x2] [] h (zPI Q) := by
  refine z_aload_n 0 rfl rfl ?_
  refine z_iconst (v := 1) 1 rfl (by decide) ?_
  refine z_iload_n 2 rfl rfl ?_
  obtain ⟨Q1, K3, B⟩ := B
  refine z_cVI2 (ν := mX9_has) 3 rfl rfl fX9_has gX9_117 ⟨_, rfl, rfl⟩ (by decide) (hS.1.o 0 8 rfl rfl rfl) (Nat.le_of_ble_eq_true rfl) K3 (fun v4 h2 q => ?_)
  obtain ⟨hSh2, B⟩ := B v4 h2 q
  refine z_if_eq 4 32 rfl (by decide) ⟨fun c5 => ?_, fun c5 => ?_⟩
  · have B := B.1 c5
    refine z_iconst (v := -1) 18 rfl (by decide) ?_
    exact z_iret 19 rfl rfl rfl ⟨rfl, rfl⟩ ⟨_, rfl, B⟩
  · have B := B.2 c5
    refine z_aload_n 5 rfl rfl ?_
    refine z_iconst (v := 0) 6 rfl (by decide) ?_
    refine z_iload_n 7 rfl rfl ?_
    obtain ⟨Q6, K8, B⟩ := B
    refine z_cVI2 (ν := mX9_has) 8 rfl rfl fX9_has gX9_117 ⟨_, rfl, rfl⟩ (by decide) (hSh2.1.o 0 8 rfl rfl rfl) (Nat.le_of_ble_eq_true rfl) K8 (fun v9 h7 q => ?_)
    obtain ⟨hSh7, B⟩ := B v9 h7 q
    refine z_if_eq 9 32 rfl (by decide) ⟨fun c10 => ?_, fun c10 => ?_⟩
    · have B := B.1 c10
      refine z_iconst (v := -1) 18 rfl (by decide) ?_
      exact z_iret 19 rfl rfl rfl ⟨rfl, rfl⟩ ⟨_, rfl, B⟩
    · have B := B.2 c10
      refine z_aload_n 10 rfl rfl ?_
      refine z_getR 11 rfl lX9_67 rfl (hSh7.1.o 0 8 rfl rfl rfl) hSh7.2.2.1 ?_
      refine z_getR 12 rfl lX9_158 rfl (zS_to hSh7 hSh7.2.1 0 6 rfl rfl) (zS_tr hSh7 hSh7.2.1 0 4 9 rfl rfl rfl) ?_
      refine z_iload_n 13 rfl rfl ?_
      obtain ⟨o11, B⟩ := B
      refine z_aald 14 rfl (zS_to hSh7 hSh7.2.1 9 104 rfl rfl) (zin (zS_tl hSh7 hSh7.2.1 9 8 rfl rfl) o11) (zS_trow hSh7 hSh7.2.1 9 8 6 rfl rfl rfl o11).1 ?_
      refine z_iload_n 15 rfl rfl ?_
      obtain ⟨o12, B⟩ := B
      refine z_iald 16 rfl (zS_trow hSh7 hSh7.2.1 9 8 6 rfl rfl rfl o11).2.1 (zin (zS_trow hSh7 hSh7.2.1 9 8 6 rfl rfl rfl o11).2.2 o12) ?_
      refine z_goto 17 33 rfl (by decide) ?_
      exact z_iret 19 rfl rfl rfl ⟨rfl, rfl⟩ ⟨_, rfl, B⟩
theorem cn_X9_mix {G : zG} {d : Nat} {h : zMem} {Q : Int32 → zMem → Prop} {x1 : Int32} {x2 : Int32} (B : zg G mX9_mix (d + 1) 0 [.ref 0, .int x1, .int x2] [] h (zPI Q)) : zConI G mX9_mix (d + 1) [.ref 0, .int x1, .int x2] h Q := zcon0 (by decide +kernel) eX9_mix (Nat.le_of_ble_eq_true rfl) rfl B
set_option maxRecDepth 100000 in
set_option maxHeartbeats 4000000 in
theorem sg_X9_feast_0 {G : zG} {d : Nat} {h : zMem} {Q : Int32 → zMem → Prop} {t : Nat} {x1 : Int32} (hS : zSh1 h t)  (B : ∃ Q1 : Int32 → zMem → Prop, zConI G mX9_has d [.ref 0, .int (1 : Int32), .int x1] h Q1 ∧ (∀ v4 h2, Q1 v4 h2 → zSh1 h2 t ∧ (¬ v4 = 0 → vp_in x1 8 ∧ ((zI h2 (t + 8) x1.toNatClampNeg) = 0 → Q (0 : Int32) h2) ∧ (¬ (zI h2 (t + 8) x1.toNatClampNeg) = 0 → Q (1 : Int32) h2)) ∧ (v4 = 0 → Q (-1 : Int32) h2))) : zg G mX9_feast (d + 1) 0 [.ref 0, .int x1] [] h (zPI Q) := by
  refine z_aload_n 0 rfl rfl ?_
  refine z_iconst (v := 1) 1 rfl (by decide) ?_
  refine z_iload_n 2 rfl rfl ?_
  obtain ⟨Q1, K3, B⟩ := B
  refine z_cVI2 (ν := mX9_has) 3 rfl rfl fX9_has gX9_117 ⟨_, rfl, rfl⟩ (by decide) (hS.1.o 0 8 rfl rfl rfl) (Nat.le_of_ble_eq_true rfl) K3 (fun v4 h2 q => ?_)
  obtain ⟨hSh2, B⟩ := B v4 h2 q
  refine z_if_ne 4 11 rfl (by decide) ⟨fun c5 => ?_, fun c5 => ?_⟩
  · have B := B.1 c5
    refine z_aload_n 7 rfl rfl ?_
    refine z_getR 8 rfl lX9_67 rfl (hSh2.1.o 0 8 rfl rfl rfl) hSh2.2.2.1 ?_
    refine z_getR 9 rfl lX9_162 rfl (zS_to hSh2 hSh2.2.1 0 6 rfl rfl) (zS_tr hSh2 hSh2.2.1 0 3 8 rfl rfl rfl) ?_
    refine z_iload_n 10 rfl rfl ?_
    obtain ⟨o6, B⟩ := B
    refine z_zald 11 rfl (zS_to hSh2 hSh2.2.1 8 103 rfl rfl) (zin (zS_tl hSh2 hSh2.2.1 8 8 rfl rfl) o6) ?_
    refine z_if_eq 12 27 rfl (by decide) ⟨fun c7 => ?_, fun c7 => ?_⟩
    · have B := B.1 c7
      refine z_iconst (v := 0) 15 rfl (by decide) ?_
      exact z_iret 16 rfl rfl rfl ⟨rfl, rfl⟩ ⟨_, rfl, B⟩
    · have B := B.2 c7
      refine z_iconst (v := 1) 13 rfl (by decide) ?_
      refine z_goto 14 28 rfl (by decide) ?_
      exact z_iret 16 rfl rfl rfl ⟨rfl, rfl⟩ ⟨_, rfl, B⟩
  · have B := B.2 c5
    refine z_iconst (v := -1) 5 rfl (by decide) ?_
    exact z_iret 6 rfl rfl rfl ⟨rfl, rfl⟩ ⟨_, rfl, B⟩
theorem cn_X9_feast {G : zG} {d : Nat} {h : zMem} {Q : Int32 → zMem → Prop} {x1 : Int32} (B : zg G mX9_feast (d + 1) 0 [.ref 0, .int x1] [] h (zPI Q)) : zConI G mX9_feast (d + 1) [.ref 0, .int x1] h Q := zcon0 (by decide +kernel) eX9_feast (Nat.le_of_ble_eq_true rfl) rfl B
set_option maxRecDepth 100000 in
set_option maxHeartbeats 4000000 in
theorem sg_X9_air_0 {G : zG} {d : Nat} {h : zMem} {Q : Int32 → zMem → Prop} {t : Nat} {x1 : Int32} {x2 : Int32} (hS : zSh1 h t)  (B : ∃ Q1 : Int32 → zMem → Prop, zConI G mX9_has d [.ref 0, .int (2 : Int32), .int x1] h Q1 ∧ (∀ v4 h2, Q1 v4 h2 → zSh1 h2 t ∧ (v4 = 0 → Q (-1 : Int32) h2) ∧ (¬ v4 = 0 → ∃ Q6 : Int32 → zMem → Prop, zConI G mX9_has d [.ref 0, .int (0 : Int32), .int x2] h2 Q6 ∧ (∀ v9 h7, Q6 v9 h7 → zSh1 h7 t ∧ (v9 = 0 → Q (-1 : Int32) h7) ∧ (¬ v9 = 0 → vp_in x1 (zLen h7 52) ∧ ∃ r12, zR h7 52 x1.toNatClampNeg = some r12 ∧ zO h7 r12 100 ∧ vp_in x2 (zLen h7 r12) ∧ Q (zI h7 r12 x2.toNatClampNeg) h7))))) : zg G mX9_air (d + 1) 0 [.ref 0, .int x1, .int x2] [] h (zPI Q) := by
  refine z_aload_n 0 rfl rfl ?_
  refine z_iconst (v := 2) 1 rfl (by decide) ?_
  refine z_iload_n 2 rfl rfl ?_
  obtain ⟨Q1, K3, B⟩ := B
  refine z_cVI2 (ν := mX9_has) 3 rfl rfl fX9_has gX9_117 ⟨_, rfl, rfl⟩ (by decide) (hS.1.o 0 8 rfl rfl rfl) (Nat.le_of_ble_eq_true rfl) K3 (fun v4 h2 q => ?_)
  obtain ⟨hSh2, B⟩ := B v4 h2 q
  refine z_if_eq 4 32 rfl (by decide) ⟨fun c5 => ?_, fun c5 => ?_⟩
  · have B := B.1 c5
    refine z_iconst (v := -1) 18 rfl (by decide) ?_
    exact z_iret 19 rfl rfl rfl ⟨rfl, rfl⟩ ⟨_, rfl, B⟩
  · have B := B.2 c5
    refine z_aload_n 5 rfl rfl ?_
    refine z_iconst (v := 0) 6 rfl (by decide) ?_
    refine z_iload_n 7 rfl rfl ?_
    obtain ⟨Q6, K8, B⟩ := B
    refine z_cVI2 (ν := mX9_has) 8 rfl rfl fX9_has gX9_117 ⟨_, rfl, rfl⟩ (by decide) (hSh2.1.o 0 8 rfl rfl rfl) (Nat.le_of_ble_eq_true rfl) K8 (fun v9 h7 q => ?_)
    obtain ⟨hSh7, B⟩ := B v9 h7 q
    refine z_if_eq 9 32 rfl (by decide) ⟨fun c10 => ?_, fun c10 => ?_⟩
    · have B := B.1 c10
      refine z_iconst (v := -1) 18 rfl (by decide) ?_
      exact z_iret 19 rfl rfl rfl ⟨rfl, rfl⟩ ⟨_, rfl, B⟩
    · have B := B.2 c10
      refine z_aload_n 10 rfl rfl ?_
      refine z_getR 11 rfl lX9_37 rfl (hSh7.1.o 0 8 rfl rfl rfl) (hSh7.1.r 0 4 48 rfl rfl rfl) ?_
      refine z_getR 12 rfl lX9_166 rfl (hSh7.1.o 48 5 rfl rfl rfl) (hSh7.1.r 48 3 52 rfl rfl rfl) ?_
      refine z_iload_n 13 rfl rfl ?_
      obtain ⟨o11, B⟩ := B
      obtain ⟨r12, hr12, B⟩ := B
      refine z_aald 14 rfl (hSh7.1.o 52 104 rfl rfl rfl) o11 hr12 ?_
      refine z_iload_n 15 rfl rfl ?_
      obtain ⟨o13, B⟩ := B
      obtain ⟨o14, B⟩ := B
      refine z_iald 16 rfl o13 o14 ?_
      refine z_goto 17 33 rfl (by decide) ?_
      exact z_iret 19 rfl rfl rfl ⟨rfl, rfl⟩ ⟨_, rfl, B⟩
theorem cn_X9_air {G : zG} {d : Nat} {h : zMem} {Q : Int32 → zMem → Prop} {x1 : Int32} {x2 : Int32} (B : zg G mX9_air (d + 1) 0 [.ref 0, .int x1, .int x2] [] h (zPI Q)) : zConI G mX9_air (d + 1) [.ref 0, .int x1, .int x2] h Q := zcon0 (by decide +kernel) eX9_air (Nat.le_of_ble_eq_true rfl) rfl B
set_option maxRecDepth 100000 in
set_option maxHeartbeats 4000000 in
theorem sg_X9_mark_0 {G : zG} {d : Nat} {h : zMem} {Q : Int32 → zMem → Prop} {t : Nat} {x1 : Int32} {x2 : Int32} (hS : zSh1 h t)  (B : ∃ Q1 : Int32 → zMem → Prop, zConI G mX9_has d [.ref 0, .int (3 : Int32), .int x1] h Q1 ∧ (∀ v4 h2, Q1 v4 h2 → zSh1 h2 t ∧ (v4 = 0 → Q (-1 : Int32) h2) ∧ (¬ v4 = 0 → ∃ Q6 : Int32 → zMem → Prop, zConI G mX9_has d [.ref 0, .int (1 : Int32), .int x2] h2 Q6 ∧ (∀ v9 h7, Q6 v9 h7 → zSh1 h7 t ∧ (¬ v9 = 0 → ∃ Q11 : Int32 → zMem → Prop, zConI G mX9_keenNow d [.ref 0, .int x1] h7 Q11 ∧ (∀ v14 h12, Q11 v14 h12 → zSh1 h12 t ∧ ∃ Q15 : Int32 → zMem → Prop, zConI G mX5_markOf d [.ref 48, .ref t, .int x1, .int x2, .int v14] h12 Q15 ∧ (∀ v18 h16, Q15 v18 h16 → zSh1 h16 t ∧ Q v18 h16))) ∧ (v9 = 0 → Q (-1 : Int32) h7))))) : zg G mX9_mark (d + 1) 0 [.ref 0, .int x1, .int x2] [] h (zPI Q) := by
  refine z_aload_n 0 rfl rfl ?_
  refine z_iconst (v := 3) 1 rfl (by decide) ?_
  refine z_iload_n 2 rfl rfl ?_
  obtain ⟨Q1, K3, B⟩ := B
  refine z_cVI2 (ν := mX9_has) 3 rfl rfl fX9_has gX9_117 ⟨_, rfl, rfl⟩ (by decide) (hS.1.o 0 8 rfl rfl rfl) (Nat.le_of_ble_eq_true rfl) K3 (fun v4 h2 q => ?_)
  obtain ⟨hSh2, B⟩ := B v4 h2 q
  refine z_if_eq 4 18 rfl (by decide) ⟨fun c5 => ?_, fun c5 => ?_⟩
  · have B := B.1 c5
    refine z_iconst (v := -1) 10 rfl (by decide) ?_
    exact z_iret 11 rfl rfl rfl ⟨rfl, rfl⟩ ⟨_, rfl, B⟩
  · have B := B.2 c5
    refine z_aload_n 5 rfl rfl ?_
    refine z_iconst (v := 1) 6 rfl (by decide) ?_
    refine z_iload_n 7 rfl rfl ?_
    obtain ⟨Q6, K8, B⟩ := B
    refine z_cVI2 (ν := mX9_has) 8 rfl rfl fX9_has gX9_117 ⟨_, rfl, rfl⟩ (by decide) (hSh2.1.o 0 8 rfl rfl rfl) (Nat.le_of_ble_eq_true rfl) K8 (fun v9 h7 q => ?_)
    obtain ⟨hSh7, B⟩ := B v9 h7 q
    refine z_if_ne 9 20 rfl (by decide) ⟨fun c10 => ?_, fun c10 => ?_⟩
    · have B := B.1 c10
      refine z_aload_n 12 rfl rfl ?_
      refine z_getR 13 rfl lX9_37 rfl (hSh7.1.o 0 8 rfl rfl rfl) (hSh7.1.r 0 4 48 rfl rfl rfl) ?_
      refine z_aload_n 14 rfl rfl ?_
      refine z_getR 15 rfl lX9_67 rfl (hSh7.1.o 0 8 rfl rfl rfl) hSh7.2.2.1 ?_
      refine z_iload_n 16 rfl rfl ?_
      refine z_iload_n 17 rfl rfl ?_
      refine z_aload_n 18 rfl rfl ?_
      refine z_iload_n 19 rfl rfl ?_
      obtain ⟨Q11, K13, B⟩ := B
      refine z_cVI1 (ν := mX9_keenNow) 20 rfl rfl fX9_keenNow gX9_169 ⟨_, rfl, rfl⟩ (by decide) (hSh7.1.o 0 8 rfl rfl rfl) (Nat.le_of_ble_eq_true rfl) K13 (fun v14 h12 q => ?_)
      obtain ⟨hSh12, B⟩ := B v14 h12 q
      obtain ⟨Q15, K17, B⟩ := B
      refine z_cVI4 (ν := mX5_markOf) 21 rfl rfl fX5_markOf gX9_173 ⟨_, rfl, rfl⟩ (by decide) (hSh12.1.o 48 5 rfl rfl rfl) (Nat.le_of_ble_eq_true rfl) K17 (fun v18 h16 q => ?_)
      obtain ⟨hSh16, B⟩ := B v18 h16 q
      exact z_iret 22 rfl rfl rfl ⟨rfl, rfl⟩ ⟨_, rfl, B⟩
    · have B := B.2 c10
      refine z_iconst (v := -1) 10 rfl (by decide) ?_
      exact z_iret 11 rfl rfl rfl ⟨rfl, rfl⟩ ⟨_, rfl, B⟩
theorem cn_X9_mark {G : zG} {d : Nat} {h : zMem} {Q : Int32 → zMem → Prop} {x1 : Int32} {x2 : Int32} (B : zg G mX9_mark (d + 1) 0 [.ref 0, .int x1, .int x2] [] h (zPI Q)) : zConI G mX9_mark (d + 1) [.ref 0, .int x1, .int x2] h Q := zcon0 (by decide +kernel) eX9_mark (Nat.le_of_ble_eq_true rfl) rfl B
theorem zsw_X9_law_1 {x : Int32} (z1 : ¬ x.toInt < 0) (z2 : ¬ 2 < x.toInt) (c0 : ¬ x = 0) (c1 : ¬ x = 1) (c2 : ¬ x = 2) : (#[27, 66, 103] : Array Int)[(x.toInt - 0).toNat]? = some 131 := by
  obtain ⟨v, hv⟩ : ∃ v : Int, v = x.toInt := ⟨_, rfl⟩
  have c0 : v ≠ 0 := fun e => c0 (Int32.toInt_inj.mp (by rw [← hv, e]; decide))
  have c1 : v ≠ 1 := fun e => c1 (Int32.toInt_inj.mp (by rw [← hv, e]; decide))
  have c2 : v ≠ 2 := fun e => c2 (Int32.toInt_inj.mp (by rw [← hv, e]; decide))
  rw [← hv] at z1 z2 ⊢
  rcases (show v = 0 ∨ v = 1 ∨ v = 2 by omega) with rfl | rfl | rfl
  all_goals first | exact absurd rfl (by assumption) | decide
set_option maxRecDepth 100000 in
set_option maxHeartbeats 4000000 in
theorem sg_X9_law_0 {G : zG} {d : Nat} {h : zMem} {Q : Int64 → zMem → Prop} {t : Nat} {x1 : Int32} {x2 : Int32} {x3 : Int32} (hS : zSh1 h t)  (B : (x1 = 0 → ∃ Q1 : Int32 → zMem → Prop, zConI G mX9_has d [.ref 0, .int (2 : Int32), .int x2] h Q1 ∧ (∀ v4 h2, Q1 v4 h2 → zSh1 h2 t ∧ (v4 = 0 → Q (-9223372036854775808 : Int64) h2) ∧ (¬ v4 = 0 → ∃ Q6 : Int32 → zMem → Prop, zConI G mX9_has d [.ref 0, .int (0 : Int32), .int x3] h2 Q6 ∧ (∀ v9 h7, Q6 v9 h7 → zSh1 h7 t ∧ (v9 = 0 → Q (-9223372036854775808 : Int64) h7) ∧ (¬ v9 = 0 → ∃ Q11 : Int64 → zMem → Prop, zConL G mX5_airLaw d [.ref 48, .ref t, .int x2, .int x3, .int (0 : Int32)] h7 Q11 ∧ (∀ v14 h12, Q11 v14 h12 → zSh1 h12 t ∧ Q v14 h12)))))) ∧ (x1 = 1 → ∃ Q15 : Int32 → zMem → Prop, zConI G mX9_has d [.ref 0, .int (3 : Int32), .int x2] h Q15 ∧ (∀ v18 h16, Q15 v18 h16 → zSh1 h16 t ∧ (v18 = 0 → Q (-9223372036854775808 : Int64) h16) ∧ (¬ v18 = 0 → vp_in x2 5 ∧ ∃ Q21 : Int64 → zMem → Prop, zConL G mX5_keenLaw d [.ref 48, .ref t, .int x2, .int (zI h16 59 x2.toNatClampNeg)] h16 Q21 ∧ (∀ v24 h22, Q21 v24 h22 → zSh1 h22 t ∧ Q v24 h22)))) ∧ (x1 = 2 → ∃ Q25 : Int32 → zMem → Prop, zConI G mX9_has d [.ref 0, .int (0 : Int32), .int x3] h Q25 ∧ (∀ v28 h26, Q25 v28 h26 → zSh1 h26 t ∧ (v28 = 0 → Q (-9223372036854775808 : Int64) h26) ∧ (¬ v28 = 0 → ∃ Q30 : Int64 → zMem → Prop, zConL G mX5_worthLaw d [.ref 48, .ref t, .int x3] h26 Q30 ∧ (∀ v33 h31, Q30 v33 h31 → zSh1 h31 t ∧ Q v33 h31)))) ∧ (¬ x1 = 0 → ¬ x1 = 1 → ¬ x1 = 2 → Q (-9223372036854775808 : Int64) h)) : zg G mX9_law (d + 1) 0 [.ref 0, .int x1, .int x2, .int x3] [] h (zPL Q) := by
  refine z_iload_n 0 rfl rfl ?_
  by_cases c34_0 : x1 = 0
  · obtain ⟨B, -⟩ := B
    refine z_tableIn 1 28 rfl 0 (by rw [c34_0]; decide) (by decide) (by decide) rfl (by decide) ?_
    have B := B c34_0
    refine z_aload_n 2 rfl rfl ?_
    refine z_iconst (v := 2) 3 rfl (by decide) ?_
    refine z_iload_n 4 rfl rfl ?_
    obtain ⟨Q1, K3, B⟩ := B
    refine z_cVI2 (ν := mX9_has) 5 rfl rfl fX9_has gX9_117 ⟨_, rfl, rfl⟩ (by decide) (hS.1.o 0 8 rfl rfl rfl) (Nat.le_of_ble_eq_true rfl) K3 (fun v4 h2 q => ?_)
    obtain ⟨hSh2, B⟩ := B v4 h2 q
    refine z_if_eq 6 63 rfl (by decide) ⟨fun c5 => ?_, fun c5 => ?_⟩
    · have B := B.1 c5
      refine z_ldc2 21 rfl kX9_181 ?_
      exact z_lret 22 rfl rfl ⟨rfl, rfl⟩ ⟨_, rfl, B⟩
    · have B := B.2 c5
      refine z_aload_n 7 rfl rfl ?_
      refine z_iconst (v := 0) 8 rfl (by decide) ?_
      refine z_iload_n 9 rfl rfl ?_
      obtain ⟨Q6, K8, B⟩ := B
      refine z_cVI2 (ν := mX9_has) 10 rfl rfl fX9_has gX9_117 ⟨_, rfl, rfl⟩ (by decide) (hSh2.1.o 0 8 rfl rfl rfl) (Nat.le_of_ble_eq_true rfl) K8 (fun v9 h7 q => ?_)
      obtain ⟨hSh7, B⟩ := B v9 h7 q
      refine z_if_eq 11 63 rfl (by decide) ⟨fun c10 => ?_, fun c10 => ?_⟩
      · have B := B.1 c10
        refine z_ldc2 21 rfl kX9_181 ?_
        exact z_lret 22 rfl rfl ⟨rfl, rfl⟩ ⟨_, rfl, B⟩
      · have B := B.2 c10
        refine z_aload_n 12 rfl rfl ?_
        refine z_getR 13 rfl lX9_37 rfl (hSh7.1.o 0 8 rfl rfl rfl) (hSh7.1.r 0 4 48 rfl rfl rfl) ?_
        refine z_aload_n 14 rfl rfl ?_
        refine z_getR 15 rfl lX9_67 rfl (hSh7.1.o 0 8 rfl rfl rfl) hSh7.2.2.1 ?_
        refine z_iload_n 16 rfl rfl ?_
        refine z_iload_n 17 rfl rfl ?_
        refine z_iconst (v := 0) 18 rfl (by decide) ?_
        obtain ⟨Q11, K13, B⟩ := B
        refine z_cVL4 (ν := mX5_airLaw) 19 rfl rfl fX5_airLaw gX9_177 ⟨_, rfl, rfl⟩ (by decide) (hSh7.1.o 48 5 rfl rfl rfl) (Nat.le_of_ble_eq_true rfl) K13 (fun v14 h12 q => ?_)
        obtain ⟨hSh12, B⟩ := B v14 h12 q
        refine z_goto 20 66 rfl (by decide) ?_
        exact z_lret 22 rfl rfl ⟨rfl, rfl⟩ ⟨_, rfl, B⟩
  obtain ⟨-, B⟩ := B
  by_cases c34_1 : x1 = 1
  · obtain ⟨B, -⟩ := B
    refine z_tableIn 1 67 rfl 1 (by rw [c34_1]; decide) (by decide) (by decide) rfl (by decide) ?_
    have B := B c34_1
    refine z_aload_n 23 rfl rfl ?_
    refine z_iconst (v := 3) 24 rfl (by decide) ?_
    refine z_iload_n 25 rfl rfl ?_
    obtain ⟨Q15, K17, B⟩ := B
    refine z_cVI2 (ν := mX9_has) 26 rfl rfl fX9_has gX9_117 ⟨_, rfl, rfl⟩ (by decide) (hS.1.o 0 8 rfl rfl rfl) (Nat.le_of_ble_eq_true rfl) K17 (fun v18 h16 q => ?_)
    obtain ⟨hSh16, B⟩ := B v18 h16 q
    refine z_if_eq 27 100 rfl (by decide) ⟨fun c19 => ?_, fun c19 => ?_⟩
    · have B := B.1 c19
      refine z_ldc2 40 rfl kX9_181 ?_
      exact z_lret 41 rfl rfl ⟨rfl, rfl⟩ ⟨_, rfl, B⟩
    · have B := B.2 c19
      refine z_aload_n 28 rfl rfl ?_
      refine z_getR 29 rfl lX9_37 rfl (hSh16.1.o 0 8 rfl rfl rfl) (hSh16.1.r 0 4 48 rfl rfl rfl) ?_
      refine z_aload_n 30 rfl rfl ?_
      refine z_getR 31 rfl lX9_67 rfl (hSh16.1.o 0 8 rfl rfl rfl) hSh16.2.2.1 ?_
      refine z_iload_n 32 rfl rfl ?_
      refine z_aload_n 33 rfl rfl ?_
      refine z_getR 34 rfl lX9_37 rfl (hSh16.1.o 0 8 rfl rfl rfl) (hSh16.1.r 0 4 48 rfl rfl rfl) ?_
      refine z_getR 35 rfl lX9_128 rfl (hSh16.1.o 48 5 rfl rfl rfl) (hSh16.1.r 48 4 59 rfl rfl rfl) ?_
      refine z_iload_n 36 rfl rfl ?_
      obtain ⟨o20, B⟩ := B
      refine z_iald 37 rfl (hSh16.1.o 59 100 rfl rfl rfl) (zin (hSh16.1.l 59 5 rfl rfl rfl) o20) ?_
      obtain ⟨Q21, K23, B⟩ := B
      refine z_cVL3 (ν := mX5_keenLaw) 38 rfl rfl fX5_keenLaw gX9_183 ⟨_, rfl, rfl⟩ (by decide) (hSh16.1.o 48 5 rfl rfl rfl) (Nat.le_of_ble_eq_true rfl) K23 (fun v24 h22 q => ?_)
      obtain ⟨hSh22, B⟩ := B v24 h22 q
      refine z_goto 39 103 rfl (by decide) ?_
      exact z_lret 41 rfl rfl ⟨rfl, rfl⟩ ⟨_, rfl, B⟩
  obtain ⟨-, B⟩ := B
  by_cases c34_2 : x1 = 2
  · obtain ⟨B, -⟩ := B
    refine z_tableIn 1 104 rfl 2 (by rw [c34_2]; decide) (by decide) (by decide) rfl (by decide) ?_
    have B := B c34_2
    refine z_aload_n 42 rfl rfl ?_
    refine z_iconst (v := 0) 43 rfl (by decide) ?_
    refine z_iload_n 44 rfl rfl ?_
    obtain ⟨Q25, K27, B⟩ := B
    refine z_cVI2 (ν := mX9_has) 45 rfl rfl fX9_has gX9_117 ⟨_, rfl, rfl⟩ (by decide) (hS.1.o 0 8 rfl rfl rfl) (Nat.le_of_ble_eq_true rfl) K27 (fun v28 h26 q => ?_)
    obtain ⟨hSh26, B⟩ := B v28 h26 q
    refine z_if_eq 46 128 rfl (by decide) ⟨fun c29 => ?_, fun c29 => ?_⟩
    · have B := B.1 c29
      refine z_ldc2 54 rfl kX9_181 ?_
      exact z_lret 55 rfl rfl ⟨rfl, rfl⟩ ⟨_, rfl, B⟩
    · have B := B.2 c29
      refine z_aload_n 47 rfl rfl ?_
      refine z_getR 48 rfl lX9_37 rfl (hSh26.1.o 0 8 rfl rfl rfl) (hSh26.1.r 0 4 48 rfl rfl rfl) ?_
      refine z_aload_n 49 rfl rfl ?_
      refine z_getR 50 rfl lX9_67 rfl (hSh26.1.o 0 8 rfl rfl rfl) hSh26.2.2.1 ?_
      refine z_iload_n 51 rfl rfl ?_
      obtain ⟨Q30, K32, B⟩ := B
      refine z_cVL2 (ν := mX5_worthLaw) 52 rfl rfl fX5_worthLaw gX9_187 ⟨_, rfl, rfl⟩ (by decide) (hSh26.1.o 48 5 rfl rfl rfl) (Nat.le_of_ble_eq_true rfl) K32 (fun v33 h31 q => ?_)
      obtain ⟨hSh31, B⟩ := B v33 h31 q
      refine z_goto 53 131 rfl (by decide) ?_
      exact z_lret 55 rfl rfl ⟨rfl, rfl⟩ ⟨_, rfl, B⟩
  obtain ⟨-, B⟩ := B
  have B := B c34_0 c34_1 c34_2
  refine z_tableD 1 132 rfl (by decide) (by
    intro z1 z2
    refine zsw_X9_law_1 z1 z2 c34_0 c34_1 c34_2) ?_
  refine z_ldc2 56 rfl kX9_181 ?_
  exact z_lret 57 rfl rfl ⟨rfl, rfl⟩ ⟨_, rfl, B⟩
theorem cn_X9_law {G : zG} {d : Nat} {h : zMem} {Q : Int64 → zMem → Prop} {x1 : Int32} {x2 : Int32} {x3 : Int32} (B : zg G mX9_law (d + 1) 0 [.ref 0, .int x1, .int x2, .int x3] [] h (zPL Q)) : zConL G mX9_law (d + 1) [.ref 0, .int x1, .int x2, .int x3] h Q := zcon0 (by decide +kernel) eX9_law (Nat.le_of_ble_eq_true rfl) rfl B
set_option maxRecDepth 100000 in
set_option maxHeartbeats 4000000 in
theorem sg_X9_cold_0 {G : zG} {d : Nat} {h : zMem} {Q : Int32 → zMem → Prop} {t : Nat} {x1 : Int32} {x2 : Int32} {x3 : Int32} (hS : zSh1 h t)  (B : ∃ Q1 : Int32 → zMem → Prop, zConI G mX9_has d [.ref 0, .int (3 : Int32), .int x1] h Q1 ∧ (∀ v4 h2, Q1 v4 h2 → zSh1 h2 t ∧ (v4 = 0 → Q (0 : Int32) h2) ∧ (¬ v4 = 0 → ∃ Q6 : Int32 → zMem → Prop, zConI G mX9_has d [.ref 0, .int (0 : Int32), .int x2] h2 Q6 ∧ (∀ v9 h7, Q6 v9 h7 → zSh1 h7 t ∧ (¬ v9 = 0 → vp_in x1 5 ∧ (x3 = 0 → (¬ ((zI h7 60 x1.toNatClampNeg) &&& (((1 : Int32) <<< (x2 &&& 31)) ^^^ (-1 : Int32))) = (zI h7 60 x1.toNatClampNeg) → ∃ Q14 : zMem → Prop, zConV G mX8_add d [.ref 44, .int (0 : Int32), .int x1, .int (zI h7 60 x1.toNatClampNeg)] h7 Q14 ∧ (∀ h15, Q14 h15 → zSh1 h15 t ∧ Q (1 : Int32) (zsI h15 60 x1.toNatClampNeg ((zI h7 60 x1.toNatClampNeg) &&& (((1 : Int32) <<< (x2 &&& 31)) ^^^ (-1 : Int32)))))) ∧ (((zI h7 60 x1.toNatClampNeg) &&& (((1 : Int32) <<< (x2 &&& 31)) ^^^ (-1 : Int32))) = (zI h7 60 x1.toNatClampNeg) → Q (0 : Int32) h7)) ∧ (¬ x3 = 0 → (¬ ((zI h7 60 x1.toNatClampNeg) ||| ((1 : Int32) <<< (x2 &&& 31))) = (zI h7 60 x1.toNatClampNeg) → ∃ Q18 : zMem → Prop, zConV G mX8_add d [.ref 44, .int (0 : Int32), .int x1, .int (zI h7 60 x1.toNatClampNeg)] h7 Q18 ∧ (∀ h19, Q18 h19 → zSh1 h19 t ∧ Q (1 : Int32) (zsI h19 60 x1.toNatClampNeg ((zI h7 60 x1.toNatClampNeg) ||| ((1 : Int32) <<< (x2 &&& 31)))))) ∧ (((zI h7 60 x1.toNatClampNeg) ||| ((1 : Int32) <<< (x2 &&& 31))) = (zI h7 60 x1.toNatClampNeg) → Q (0 : Int32) h7))) ∧ (v9 = 0 → Q (0 : Int32) h7))))) : zg G mX9_cold (d + 1) 0 [.ref 0, .int x1, .int x2, .int x3, zU, zU] [] h (zPI Q) := by
  refine z_aload_n 0 rfl rfl ?_
  refine z_iconst (v := 3) 1 rfl (by decide) ?_
  refine z_iload_n 2 rfl rfl ?_
  obtain ⟨Q1, K3, B⟩ := B
  refine z_cVI2 (ν := mX9_has) 3 rfl rfl fX9_has gX9_117 ⟨_, rfl, rfl⟩ (by decide) (hS.1.o 0 8 rfl rfl rfl) (Nat.le_of_ble_eq_true rfl) K3 (fun v4 h2 q => ?_)
  obtain ⟨hSh2, B⟩ := B v4 h2 q
  refine z_if_eq 4 18 rfl (by decide) ⟨fun c5 => ?_, fun c5 => ?_⟩
  · have B := B.1 c5
    refine z_iconst (v := 0) 10 rfl (by decide) ?_
    exact z_iret 11 rfl rfl rfl ⟨rfl, rfl⟩ ⟨_, rfl, B⟩
  · have B := B.2 c5
    refine z_aload_n 5 rfl rfl ?_
    refine z_iconst (v := 0) 6 rfl (by decide) ?_
    refine z_iload_n 7 rfl rfl ?_
    obtain ⟨Q6, K8, B⟩ := B
    refine z_cVI2 (ν := mX9_has) 8 rfl rfl fX9_has gX9_117 ⟨_, rfl, rfl⟩ (by decide) (hSh2.1.o 0 8 rfl rfl rfl) (Nat.le_of_ble_eq_true rfl) K8 (fun v9 h7 q => ?_)
    obtain ⟨hSh7, B⟩ := B v9 h7 q
    refine z_if_ne 9 20 rfl (by decide) ⟨fun c10 => ?_, fun c10 => ?_⟩
    · have B := B.1 c10
      refine z_aload_n 12 rfl rfl ?_
      refine z_getR 13 rfl lX9_37 rfl (hSh7.1.o 0 8 rfl rfl rfl) (hSh7.1.r 0 4 48 rfl rfl rfl) ?_
      refine z_getR 14 rfl lX9_134 rfl (hSh7.1.o 48 5 rfl rfl rfl) (hSh7.1.r 48 5 60 rfl rfl rfl) ?_
      refine z_iload_n 15 rfl rfl ?_
      obtain ⟨o11, B⟩ := B
      refine z_iald 16 rfl (hSh7.1.o 60 100 rfl rfl rfl) (zin (hSh7.1.l 60 5 rfl rfl rfl) o11) ?_
      refine z_istore 17 rfl (by decide) rfl ?_
      refine z_iload_n 18 rfl rfl ?_
      refine z_if_eq 19 44 rfl (by decide) ⟨fun c12 => ?_, fun c12 => ?_⟩
      · have B := B.1 c12
        refine z_iload 26 rfl rfl ?_
        refine z_iconst (v := 1) 27 rfl (by decide) ?_
        refine z_iload_n 28 rfl rfl ?_
        refine z_ishl 29 rfl ?_
        refine z_iconst (v := -1) 30 rfl (by decide) ?_
        refine z_ixor 31 rfl ?_
        refine z_iand 32 rfl ?_
        refine z_istore 33 rfl (by decide) rfl ?_
        refine z_iload 34 rfl rfl ?_
        refine z_iload 35 rfl rfl ?_
        refine z_icmp_ne 36 63 rfl (by decide) ⟨fun c13 => ?_, fun c13 => ?_⟩
        · have B := B.1 c13
          refine z_aload_n 39 rfl rfl ?_
          refine z_getR 40 rfl lX9_30 rfl (hSh7.1.o 0 8 rfl rfl rfl) (hSh7.1.r 0 3 44 rfl rfl rfl) ?_
          refine z_iconst (v := 0) 41 rfl (by decide) ?_
          refine z_iload_n 42 rfl rfl ?_
          refine z_iload 43 rfl rfl ?_
          obtain ⟨Q14, K16, B⟩ := B
          refine z_cVV3 (ν := mX8_add) 44 rfl rfl fX8_add gX9_191 ⟨_, rfl, rfl⟩ (by decide) (hSh7.1.o 44 7 rfl rfl rfl) (Nat.le_of_ble_eq_true rfl) K16 (fun h15 q => ?_)
          obtain ⟨hSh15, B⟩ := B h15 q
          refine z_aload_n 45 rfl rfl ?_
          refine z_getR 46 rfl lX9_37 rfl (hSh15.1.o 0 8 rfl rfl rfl) (hSh15.1.r 0 4 48 rfl rfl rfl) ?_
          refine z_getR 47 rfl lX9_134 rfl (hSh15.1.o 48 5 rfl rfl rfl) (hSh15.1.r 48 5 60 rfl rfl rfl) ?_
          refine z_iload_n 48 rfl rfl ?_
          refine z_iload 49 rfl rfl ?_
          refine z_iast 50 rfl (hSh15.1.o 60 100 rfl rfl rfl) (zin (hSh15.1.l 60 5 rfl rfl rfl) o11) ?_
          refine z_iconst (v := 1) 51 rfl (by decide) ?_
          exact z_iret 52 rfl rfl rfl ⟨rfl, rfl⟩ ⟨_, rfl, B⟩
        · have B := B.2 c13
          refine z_iconst (v := 0) 37 rfl (by decide) ?_
          exact z_iret 38 rfl rfl rfl ⟨rfl, rfl⟩ ⟨_, rfl, B⟩
      · have B := B.2 c12
        refine z_iload 20 rfl rfl ?_
        refine z_iconst (v := 1) 21 rfl (by decide) ?_
        refine z_iload_n 22 rfl rfl ?_
        refine z_ishl 23 rfl ?_
        refine z_ior 24 rfl ?_
        refine z_goto 25 52 rfl (by decide) ?_
        refine z_istore 33 rfl (by decide) rfl ?_
        refine z_iload 34 rfl rfl ?_
        refine z_iload 35 rfl rfl ?_
        refine z_icmp_ne 36 63 rfl (by decide) ⟨fun c17 => ?_, fun c17 => ?_⟩
        · have B := B.1 c17
          refine z_aload_n 39 rfl rfl ?_
          refine z_getR 40 rfl lX9_30 rfl (hSh7.1.o 0 8 rfl rfl rfl) (hSh7.1.r 0 3 44 rfl rfl rfl) ?_
          refine z_iconst (v := 0) 41 rfl (by decide) ?_
          refine z_iload_n 42 rfl rfl ?_
          refine z_iload 43 rfl rfl ?_
          obtain ⟨Q18, K20, B⟩ := B
          refine z_cVV3 (ν := mX8_add) 44 rfl rfl fX8_add gX9_191 ⟨_, rfl, rfl⟩ (by decide) (hSh7.1.o 44 7 rfl rfl rfl) (Nat.le_of_ble_eq_true rfl) K20 (fun h19 q => ?_)
          obtain ⟨hSh19, B⟩ := B h19 q
          refine z_aload_n 45 rfl rfl ?_
          refine z_getR 46 rfl lX9_37 rfl (hSh19.1.o 0 8 rfl rfl rfl) (hSh19.1.r 0 4 48 rfl rfl rfl) ?_
          refine z_getR 47 rfl lX9_134 rfl (hSh19.1.o 48 5 rfl rfl rfl) (hSh19.1.r 48 5 60 rfl rfl rfl) ?_
          refine z_iload_n 48 rfl rfl ?_
          refine z_iload 49 rfl rfl ?_
          refine z_iast 50 rfl (hSh19.1.o 60 100 rfl rfl rfl) (zin (hSh19.1.l 60 5 rfl rfl rfl) o11) ?_
          refine z_iconst (v := 1) 51 rfl (by decide) ?_
          exact z_iret 52 rfl rfl rfl ⟨rfl, rfl⟩ ⟨_, rfl, B⟩
        · have B := B.2 c17
          refine z_iconst (v := 0) 37 rfl (by decide) ?_
          exact z_iret 38 rfl rfl rfl ⟨rfl, rfl⟩ ⟨_, rfl, B⟩
    · have B := B.2 c10
      refine z_iconst (v := 0) 10 rfl (by decide) ?_
      exact z_iret 11 rfl rfl rfl ⟨rfl, rfl⟩ ⟨_, rfl, B⟩
theorem cn_X9_cold {G : zG} {d : Nat} {h : zMem} {Q : Int32 → zMem → Prop} {x1 : Int32} {x2 : Int32} {x3 : Int32} (B : zg G mX9_cold (d + 1) 0 [.ref 0, .int x1, .int x2, .int x3, zU, zU] [] h (zPI Q)) : zConI G mX9_cold (d + 1) [.ref 0, .int x1, .int x2, .int x3] h Q := zcon0 (by decide +kernel) eX9_cold (Nat.le_of_ble_eq_true rfl) rfl B
set_option maxRecDepth 100000 in
set_option maxHeartbeats 4000000 in
theorem sg_X9_wind_0 {G : zG} {d : Nat} {h : zMem} {Q : Int32 → zMem → Prop} {t : Nat} {x1 : Int32} {x2 : Int32} (hS : zSh1 h t)  (B : ∃ Q1 : Int32 → zMem → Prop, zConI G mX9_has d [.ref 0, .int (0 : Int32), .int x1] h Q1 ∧ (∀ v4 h2, Q1 v4 h2 → zSh1 h2 t ∧ (v4 = 0 → Q (0 : Int32) h2) ∧ (¬ v4 = 0 → (x2 < 0 → Q (0 : Int32) h2) ∧ (¬ x2 < 0 → ((99 : Int32) < x2 → Q (0 : Int32) h2) ∧ (¬ (99 : Int32) < x2 → vp_in x1 6 ∧ (¬ (zI h2 50 x1.toNatClampNeg) = x2 → ∃ Q10 : zMem → Prop, zConV G mX8_add d [.ref 44, .int (1 : Int32), .int x1, .int (zI h2 50 x1.toNatClampNeg)] h2 Q10 ∧ (∀ h11, Q10 h11 → zSh1 h11 t ∧ Q (1 : Int32) (zsI h11 50 x1.toNatClampNeg x2))) ∧ ((zI h2 50 x1.toNatClampNeg) = x2 → Q (0 : Int32) h2)))))) : zg G mX9_wind (d + 1) 0 [.ref 0, .int x1, .int x2] [] h (zPI Q) := by
  refine z_aload_n 0 rfl rfl ?_
  refine z_iconst (v := 0) 1 rfl (by decide) ?_
  refine z_iload_n 2 rfl rfl ?_
  obtain ⟨Q1, K3, B⟩ := B
  refine z_cVI2 (ν := mX9_has) 3 rfl rfl fX9_has gX9_117 ⟨_, rfl, rfl⟩ (by decide) (hS.1.o 0 8 rfl rfl rfl) (Nat.le_of_ble_eq_true rfl) K3 (fun v4 h2 q => ?_)
  obtain ⟨hSh2, B⟩ := B v4 h2 q
  refine z_if_eq 4 32 rfl (by decide) ⟨fun c5 => ?_, fun c5 => ?_⟩
  · have B := B.1 c5
    refine z_iconst (v := 0) 17 rfl (by decide) ?_
    exact z_iret 18 rfl rfl rfl ⟨rfl, rfl⟩ ⟨_, rfl, B⟩
  · have B := B.2 c5
    refine z_iload_n 5 rfl rfl ?_
    refine z_if_lt 6 32 rfl (by decide) ⟨fun c6 => ?_, fun c6 => ?_⟩
    · have B := B.1 c6
      refine z_iconst (v := 0) 17 rfl (by decide) ?_
      exact z_iret 18 rfl rfl rfl ⟨rfl, rfl⟩ ⟨_, rfl, B⟩
    · have B := B.2 c6
      refine z_iload_n 7 rfl rfl ?_
      refine z_bipush (v := 99) 8 rfl (by decide) ?_
      refine z_icmp_gt 9 32 rfl (by decide) ⟨fun c7 => ?_, fun c7 => ?_⟩
      · have B := B.1 c7
        refine z_iconst (v := 0) 17 rfl (by decide) ?_
        exact z_iret 18 rfl rfl rfl ⟨rfl, rfl⟩ ⟨_, rfl, B⟩
      · have B := B.2 c7
        refine z_aload_n 10 rfl rfl ?_
        refine z_getR 11 rfl lX9_37 rfl (hSh2.1.o 0 8 rfl rfl rfl) (hSh2.1.r 0 4 48 rfl rfl rfl) ?_
        refine z_getR 12 rfl lX9_155 rfl (hSh2.1.o 48 5 rfl rfl rfl) (hSh2.1.r 48 1 50 rfl rfl rfl) ?_
        refine z_iload_n 13 rfl rfl ?_
        obtain ⟨o8, B⟩ := B
        refine z_iald 14 rfl (hSh2.1.o 50 100 rfl rfl rfl) (zin (hSh2.1.l 50 6 rfl rfl rfl) o8) ?_
        refine z_iload_n 15 rfl rfl ?_
        refine z_icmp_ne 16 34 rfl (by decide) ⟨fun c9 => ?_, fun c9 => ?_⟩
        · have B := B.1 c9
          refine z_aload_n 19 rfl rfl ?_
          refine z_getR 20 rfl lX9_30 rfl (hSh2.1.o 0 8 rfl rfl rfl) (hSh2.1.r 0 3 44 rfl rfl rfl) ?_
          refine z_iconst (v := 1) 21 rfl (by decide) ?_
          refine z_iload_n 22 rfl rfl ?_
          refine z_aload_n 23 rfl rfl ?_
          refine z_getR 24 rfl lX9_37 rfl (hSh2.1.o 0 8 rfl rfl rfl) (hSh2.1.r 0 4 48 rfl rfl rfl) ?_
          refine z_getR 25 rfl lX9_155 rfl (hSh2.1.o 48 5 rfl rfl rfl) (hSh2.1.r 48 1 50 rfl rfl rfl) ?_
          refine z_iload_n 26 rfl rfl ?_
          refine z_iald 27 rfl (hSh2.1.o 50 100 rfl rfl rfl) (zin (hSh2.1.l 50 6 rfl rfl rfl) o8) ?_
          obtain ⟨Q10, K12, B⟩ := B
          refine z_cVV3 (ν := mX8_add) 28 rfl rfl fX8_add gX9_191 ⟨_, rfl, rfl⟩ (by decide) (hSh2.1.o 44 7 rfl rfl rfl) (Nat.le_of_ble_eq_true rfl) K12 (fun h11 q => ?_)
          obtain ⟨hSh11, B⟩ := B h11 q
          refine z_aload_n 29 rfl rfl ?_
          refine z_getR 30 rfl lX9_37 rfl (hSh11.1.o 0 8 rfl rfl rfl) (hSh11.1.r 0 4 48 rfl rfl rfl) ?_
          refine z_getR 31 rfl lX9_155 rfl (hSh11.1.o 48 5 rfl rfl rfl) (hSh11.1.r 48 1 50 rfl rfl rfl) ?_
          refine z_iload_n 32 rfl rfl ?_
          refine z_iload_n 33 rfl rfl ?_
          refine z_iast 34 rfl (hSh11.1.o 50 100 rfl rfl rfl) (zin (hSh11.1.l 50 6 rfl rfl rfl) o8) ?_
          refine z_iconst (v := 1) 35 rfl (by decide) ?_
          exact z_iret 36 rfl rfl rfl ⟨rfl, rfl⟩ ⟨_, rfl, B⟩
        · have B := B.2 c9
          refine z_iconst (v := 0) 17 rfl (by decide) ?_
          exact z_iret 18 rfl rfl rfl ⟨rfl, rfl⟩ ⟨_, rfl, B⟩
theorem cn_X9_wind {G : zG} {d : Nat} {h : zMem} {Q : Int32 → zMem → Prop} {x1 : Int32} {x2 : Int32} (B : zg G mX9_wind (d + 1) 0 [.ref 0, .int x1, .int x2] [] h (zPI Q)) : zConI G mX9_wind (d + 1) [.ref 0, .int x1, .int x2] h Q := zcon0 (by decide +kernel) eX9_wind (Nat.le_of_ble_eq_true rfl) rfl B
set_option maxRecDepth 100000 in
set_option maxHeartbeats 4000000 in
theorem sg_X9_buy_0 {G : zG} {d : Nat} {h : zMem} {Q : Int32 → zMem → Prop} {t : Nat} {x1 : Int32} {x2 : Int32} (hS : zSh1 h t)  (B : ∃ Q1 : Int32 → zMem → Prop, zConI G mX9_has d [.ref 0, .int (0 : Int32), .int x1] h Q1 ∧ (∀ v4 h2, Q1 v4 h2 → zSh1 h2 t ∧ (v4 = 0 → Q (-1 : Int32) h2) ∧ (¬ v4 = 0 → (x2 < (1 : Int32) → Q (-1 : Int32) h2) ∧ (¬ x2 < (1 : Int32) → ((999 : Int32) < x2 → Q (-1 : Int32) h2) ∧ (¬ (999 : Int32) < x2 → vp_in x1 6 ∧ (((zI h2 49 x1.toNatClampNeg) + x2) ≤ (9999 : Int32) → ∃ Q10 : zMem → Prop, zConV G mX8_add d [.ref 44, .int (2 : Int32), .int x1, .int (zI h2 49 x1.toNatClampNeg)] h2 Q10 ∧ (∀ h11, Q10 h11 → zSh1 h11 t ∧ Q (zI (zsI h11 49 x1.toNatClampNeg ((zI h11 49 x1.toNatClampNeg) + x2)) 49 x1.toNatClampNeg) (zsI h11 49 x1.toNatClampNeg ((zI h11 49 x1.toNatClampNeg) + x2)))) ∧ (¬ ((zI h2 49 x1.toNatClampNeg) + x2) ≤ (9999 : Int32) → Q (-1 : Int32) h2)))))) : zg G mX9_buy (d + 1) 0 [.ref 0, .int x1, .int x2] [] h (zPI Q) := by
  refine z_aload_n 0 rfl rfl ?_
  refine z_iconst (v := 0) 1 rfl (by decide) ?_
  refine z_iload_n 2 rfl rfl ?_
  obtain ⟨Q1, K3, B⟩ := B
  refine z_cVI2 (ν := mX9_has) 3 rfl rfl fX9_has gX9_117 ⟨_, rfl, rfl⟩ (by decide) (hS.1.o 0 8 rfl rfl rfl) (Nat.le_of_ble_eq_true rfl) K3 (fun v4 h2 q => ?_)
  obtain ⟨hSh2, B⟩ := B v4 h2 q
  refine z_if_eq 4 38 rfl (by decide) ⟨fun c5 => ?_, fun c5 => ?_⟩
  · have B := B.1 c5
    refine z_iconst (v := -1) 20 rfl (by decide) ?_
    exact z_iret 21 rfl rfl rfl ⟨rfl, rfl⟩ ⟨_, rfl, B⟩
  · have B := B.2 c5
    refine z_iload_n 5 rfl rfl ?_
    refine z_iconst (v := 1) 6 rfl (by decide) ?_
    refine z_icmp_lt 7 38 rfl (by decide) ⟨fun c6 => ?_, fun c6 => ?_⟩
    · have B := B.1 c6
      refine z_iconst (v := -1) 20 rfl (by decide) ?_
      exact z_iret 21 rfl rfl rfl ⟨rfl, rfl⟩ ⟨_, rfl, B⟩
    · have B := B.2 c6
      refine z_iload_n 8 rfl rfl ?_
      refine z_sipush (v := 999) 9 rfl (by decide) ?_
      refine z_icmp_gt 10 38 rfl (by decide) ⟨fun c7 => ?_, fun c7 => ?_⟩
      · have B := B.1 c7
        refine z_iconst (v := -1) 20 rfl (by decide) ?_
        exact z_iret 21 rfl rfl rfl ⟨rfl, rfl⟩ ⟨_, rfl, B⟩
      · have B := B.2 c7
        refine z_aload_n 11 rfl rfl ?_
        refine z_getR 12 rfl lX9_37 rfl (hSh2.1.o 0 8 rfl rfl rfl) (hSh2.1.r 0 4 48 rfl rfl rfl) ?_
        refine z_getR 13 rfl lX9_148 rfl (hSh2.1.o 48 5 rfl rfl rfl) (hSh2.1.r 48 0 49 rfl rfl rfl) ?_
        refine z_iload_n 14 rfl rfl ?_
        obtain ⟨o8, B⟩ := B
        refine z_iald 15 rfl (hSh2.1.o 49 100 rfl rfl rfl) (zin (hSh2.1.l 49 6 rfl rfl rfl) o8) ?_
        refine z_iload_n 16 rfl rfl ?_
        refine z_iadd 17 rfl ?_
        refine z_sipush (v := 9999) 18 rfl (by decide) ?_
        refine z_icmp_le 19 40 rfl (by decide) ⟨fun c9 => ?_, fun c9 => ?_⟩
        · have B := B.1 c9
          refine z_aload_n 22 rfl rfl ?_
          refine z_getR 23 rfl lX9_30 rfl (hSh2.1.o 0 8 rfl rfl rfl) (hSh2.1.r 0 3 44 rfl rfl rfl) ?_
          refine z_iconst (v := 2) 24 rfl (by decide) ?_
          refine z_iload_n 25 rfl rfl ?_
          refine z_aload_n 26 rfl rfl ?_
          refine z_getR 27 rfl lX9_37 rfl (hSh2.1.o 0 8 rfl rfl rfl) (hSh2.1.r 0 4 48 rfl rfl rfl) ?_
          refine z_getR 28 rfl lX9_148 rfl (hSh2.1.o 48 5 rfl rfl rfl) (hSh2.1.r 48 0 49 rfl rfl rfl) ?_
          refine z_iload_n 29 rfl rfl ?_
          refine z_iald 30 rfl (hSh2.1.o 49 100 rfl rfl rfl) (zin (hSh2.1.l 49 6 rfl rfl rfl) o8) ?_
          obtain ⟨Q10, K12, B⟩ := B
          refine z_cVV3 (ν := mX8_add) 31 rfl rfl fX8_add gX9_191 ⟨_, rfl, rfl⟩ (by decide) (hSh2.1.o 44 7 rfl rfl rfl) (Nat.le_of_ble_eq_true rfl) K12 (fun h11 q => ?_)
          obtain ⟨hSh11, B⟩ := B h11 q
          refine z_aload_n 32 rfl rfl ?_
          refine z_getR 33 rfl lX9_37 rfl (hSh11.1.o 0 8 rfl rfl rfl) (hSh11.1.r 0 4 48 rfl rfl rfl) ?_
          refine z_getR 34 rfl lX9_148 rfl (hSh11.1.o 48 5 rfl rfl rfl) (hSh11.1.r 48 0 49 rfl rfl rfl) ?_
          refine z_iload_n 35 rfl rfl ?_
          refine z_dup2 36 rfl rfl rfl ?_
          refine z_iald 37 rfl (hSh11.1.o 49 100 rfl rfl rfl) (zin (hSh11.1.l 49 6 rfl rfl rfl) o8) ?_
          refine z_iload_n 38 rfl rfl ?_
          refine z_iadd 39 rfl ?_
          refine z_iast 40 rfl (hSh11.1.o 49 100 rfl rfl rfl) (zin (hSh11.1.l 49 6 rfl rfl rfl) o8) ?_
          refine z_aload_n 41 rfl rfl ?_
          refine z_getR 42 rfl lX9_37 rfl (hSh11.1.o 0 8 rfl rfl rfl) (hSh11.1.r 0 4 48 rfl rfl rfl) ?_
          refine z_getR 43 rfl lX9_148 rfl (hSh11.1.o 48 5 rfl rfl rfl) (hSh11.1.r 48 0 49 rfl rfl rfl) ?_
          refine z_iload_n 44 rfl rfl ?_
          refine z_iald 45 rfl (hSh11.1.o 49 100 rfl rfl rfl) (zin (hSh11.1.l 49 6 rfl rfl rfl) o8) ?_
          exact z_iret 46 rfl rfl rfl ⟨rfl, rfl⟩ ⟨_, rfl, B⟩
        · have B := B.2 c9
          refine z_iconst (v := -1) 20 rfl (by decide) ?_
          exact z_iret 21 rfl rfl rfl ⟨rfl, rfl⟩ ⟨_, rfl, B⟩
theorem cn_X9_buy {G : zG} {d : Nat} {h : zMem} {Q : Int32 → zMem → Prop} {x1 : Int32} {x2 : Int32} (B : zg G mX9_buy (d + 1) 0 [.ref 0, .int x1, .int x2] [] h (zPI Q)) : zConI G mX9_buy (d + 1) [.ref 0, .int x1, .int x2] h Q := zcon0 (by decide +kernel) eX9_buy (Nat.le_of_ble_eq_true rfl) rfl B
set_option maxRecDepth 100000 in
set_option maxHeartbeats 4000000 in
theorem sg_X9_goes_0 {G : zG} {d : Nat} {h : zMem} {Q : Int32 → zMem → Prop} {t : Nat} {x1 : Int32} {x2 : Int32} (hS : zSh1 h t)  (B : ∃ Q1 : Int32 → zMem → Prop, zConI G mX9_has d [.ref 0, .int (3 : Int32), .int x1] h Q1 ∧ (∀ v4 h2, Q1 v4 h2 → zSh1 h2 t ∧ (v4 = 0 → Q (0 : Int32) h2) ∧ (¬ v4 = 0 → ∃ Q6 : Int32 → zMem → Prop, zConI G mX9_has d [.ref 0, .int (2 : Int32), .int x2] h2 Q6 ∧ (∀ v9 h7, Q6 v9 h7 → zSh1 h7 t ∧ (v9 = 0 → Q (0 : Int32) h7) ∧ (¬ v9 = 0 → vp_in x1 5 ∧ (¬ (zI h7 59 x1.toNatClampNeg) = x2 → ∃ Q13 : zMem → Prop, zConV G mX8_add d [.ref 44, .int (3 : Int32), .int x1, .int (zI h7 59 x1.toNatClampNeg)] h7 Q13 ∧ (∀ h14, Q13 h14 → zSh1 h14 t ∧ Q (1 : Int32) (zsI h14 59 x1.toNatClampNeg x2))) ∧ ((zI h7 59 x1.toNatClampNeg) = x2 → Q (0 : Int32) h7)))))) : zg G mX9_goes (d + 1) 0 [.ref 0, .int x1, .int x2] [] h (zPI Q) := by
  refine z_aload_n 0 rfl rfl ?_
  refine z_iconst (v := 3) 1 rfl (by decide) ?_
  refine z_iload_n 2 rfl rfl ?_
  obtain ⟨Q1, K3, B⟩ := B
  refine z_cVI2 (ν := mX9_has) 3 rfl rfl fX9_has gX9_117 ⟨_, rfl, rfl⟩ (by decide) (hS.1.o 0 8 rfl rfl rfl) (Nat.le_of_ble_eq_true rfl) K3 (fun v4 h2 q => ?_)
  obtain ⟨hSh2, B⟩ := B v4 h2 q
  refine z_if_eq 4 31 rfl (by decide) ⟨fun c5 => ?_, fun c5 => ?_⟩
  · have B := B.1 c5
    refine z_iconst (v := 0) 17 rfl (by decide) ?_
    exact z_iret 18 rfl rfl rfl ⟨rfl, rfl⟩ ⟨_, rfl, B⟩
  · have B := B.2 c5
    refine z_aload_n 5 rfl rfl ?_
    refine z_iconst (v := 2) 6 rfl (by decide) ?_
    refine z_iload_n 7 rfl rfl ?_
    obtain ⟨Q6, K8, B⟩ := B
    refine z_cVI2 (ν := mX9_has) 8 rfl rfl fX9_has gX9_117 ⟨_, rfl, rfl⟩ (by decide) (hSh2.1.o 0 8 rfl rfl rfl) (Nat.le_of_ble_eq_true rfl) K8 (fun v9 h7 q => ?_)
    obtain ⟨hSh7, B⟩ := B v9 h7 q
    refine z_if_eq 9 31 rfl (by decide) ⟨fun c10 => ?_, fun c10 => ?_⟩
    · have B := B.1 c10
      refine z_iconst (v := 0) 17 rfl (by decide) ?_
      exact z_iret 18 rfl rfl rfl ⟨rfl, rfl⟩ ⟨_, rfl, B⟩
    · have B := B.2 c10
      refine z_aload_n 10 rfl rfl ?_
      refine z_getR 11 rfl lX9_37 rfl (hSh7.1.o 0 8 rfl rfl rfl) (hSh7.1.r 0 4 48 rfl rfl rfl) ?_
      refine z_getR 12 rfl lX9_128 rfl (hSh7.1.o 48 5 rfl rfl rfl) (hSh7.1.r 48 4 59 rfl rfl rfl) ?_
      refine z_iload_n 13 rfl rfl ?_
      obtain ⟨o11, B⟩ := B
      refine z_iald 14 rfl (hSh7.1.o 59 100 rfl rfl rfl) (zin (hSh7.1.l 59 5 rfl rfl rfl) o11) ?_
      refine z_iload_n 15 rfl rfl ?_
      refine z_icmp_ne 16 33 rfl (by decide) ⟨fun c12 => ?_, fun c12 => ?_⟩
      · have B := B.1 c12
        refine z_aload_n 19 rfl rfl ?_
        refine z_getR 20 rfl lX9_30 rfl (hSh7.1.o 0 8 rfl rfl rfl) (hSh7.1.r 0 3 44 rfl rfl rfl) ?_
        refine z_iconst (v := 3) 21 rfl (by decide) ?_
        refine z_iload_n 22 rfl rfl ?_
        refine z_aload_n 23 rfl rfl ?_
        refine z_getR 24 rfl lX9_37 rfl (hSh7.1.o 0 8 rfl rfl rfl) (hSh7.1.r 0 4 48 rfl rfl rfl) ?_
        refine z_getR 25 rfl lX9_128 rfl (hSh7.1.o 48 5 rfl rfl rfl) (hSh7.1.r 48 4 59 rfl rfl rfl) ?_
        refine z_iload_n 26 rfl rfl ?_
        refine z_iald 27 rfl (hSh7.1.o 59 100 rfl rfl rfl) (zin (hSh7.1.l 59 5 rfl rfl rfl) o11) ?_
        obtain ⟨Q13, K15, B⟩ := B
        refine z_cVV3 (ν := mX8_add) 28 rfl rfl fX8_add gX9_191 ⟨_, rfl, rfl⟩ (by decide) (hSh7.1.o 44 7 rfl rfl rfl) (Nat.le_of_ble_eq_true rfl) K15 (fun h14 q => ?_)
        obtain ⟨hSh14, B⟩ := B h14 q
        refine z_aload_n 29 rfl rfl ?_
        refine z_getR 30 rfl lX9_37 rfl (hSh14.1.o 0 8 rfl rfl rfl) (hSh14.1.r 0 4 48 rfl rfl rfl) ?_
        refine z_getR 31 rfl lX9_128 rfl (hSh14.1.o 48 5 rfl rfl rfl) (hSh14.1.r 48 4 59 rfl rfl rfl) ?_
        refine z_iload_n 32 rfl rfl ?_
        refine z_iload_n 33 rfl rfl ?_
        refine z_iast 34 rfl (hSh14.1.o 59 100 rfl rfl rfl) (zin (hSh14.1.l 59 5 rfl rfl rfl) o11) ?_
        refine z_iconst (v := 1) 35 rfl (by decide) ?_
        exact z_iret 36 rfl rfl rfl ⟨rfl, rfl⟩ ⟨_, rfl, B⟩
      · have B := B.2 c12
        refine z_iconst (v := 0) 17 rfl (by decide) ?_
        exact z_iret 18 rfl rfl rfl ⟨rfl, rfl⟩ ⟨_, rfl, B⟩
theorem cn_X9_goes {G : zG} {d : Nat} {h : zMem} {Q : Int32 → zMem → Prop} {x1 : Int32} {x2 : Int32} (B : zg G mX9_goes (d + 1) 0 [.ref 0, .int x1, .int x2] [] h (zPI Q)) : zConI G mX9_goes (d + 1) [.ref 0, .int x1, .int x2] h Q := zcon0 (by decide +kernel) eX9_goes (Nat.le_of_ble_eq_true rfl) rfl B
set_option maxRecDepth 100000 in
set_option maxHeartbeats 4000000 in
theorem sg_X9_go_0 {G : zG} {d : Nat} {h : zMem} {Q : Int32 → zMem → Prop} {t : Nat} {x1 : Int32} (hS : zSh1 h t)  (B : (x1 < 0 → Q (-1 : Int32) h) ∧ (¬ x1 < 0 → ((99 : Int32) < x1 → Q (-1 : Int32) h) ∧ (¬ (99 : Int32) < x1 → (((zI h 48 10) + x1) ≤ (9999 : Int32) → zg G mX9_go (d + 1) 29 [.ref 0, .int x1, .int (0 : Int32)] [] h (zPI Q)) ∧ (¬ ((zI h 48 10) + x1) ≤ (9999 : Int32) → Q (-1 : Int32) h)))) : zg G mX9_go (d + 1) 0 [.ref 0, .int x1, zU] [] h (zPI Q) := by
  refine z_iload_n 0 rfl rfl ?_
  refine z_if_lt 1 25 rfl (by decide) ⟨fun c1 => ?_, fun c1 => ?_⟩
  · have B := B.1 c1
    refine z_iconst (v := -1) 12 rfl (by decide) ?_
    exact z_iret 13 rfl rfl rfl ⟨rfl, rfl⟩ ⟨_, rfl, B⟩
  · have B := B.2 c1
    refine z_iload_n 2 rfl rfl ?_
    refine z_bipush (v := 99) 3 rfl (by decide) ?_
    refine z_icmp_gt 4 25 rfl (by decide) ⟨fun c2 => ?_, fun c2 => ?_⟩
    · have B := B.1 c2
      refine z_iconst (v := -1) 12 rfl (by decide) ?_
      exact z_iret 13 rfl rfl rfl ⟨rfl, rfl⟩ ⟨_, rfl, B⟩
    · have B := B.2 c2
      refine z_aload_n 5 rfl rfl ?_
      refine z_getR 6 rfl lX9_37 rfl (hS.1.o 0 8 rfl rfl rfl) (hS.1.r 0 4 48 rfl rfl rfl) ?_
      refine z_getI 7 rfl lX9_195 rfl (hS.1.o 48 5 rfl rfl rfl) ?_
      refine z_iload_n 8 rfl rfl ?_
      refine z_iadd 9 rfl ?_
      refine z_sipush (v := 9999) 10 rfl (by decide) ?_
      refine z_icmp_le 11 27 rfl (by decide) ⟨fun c3 => ?_, fun c3 => ?_⟩
      · have B := B.1 c3
        refine z_iconst (v := 0) 14 rfl (by decide) ?_
        refine z_istore_n 15 rfl (by decide) rfl ?_
        exact B
      · have B := B.2 c3
        refine z_iconst (v := -1) 12 rfl (by decide) ?_
        exact z_iret 13 rfl rfl rfl ⟨rfl, rfl⟩ ⟨_, rfl, B⟩
theorem cn_X9_go {G : zG} {d : Nat} {h : zMem} {Q : Int32 → zMem → Prop} {x1 : Int32} (B : zg G mX9_go (d + 1) 0 [.ref 0, .int x1, zU] [] h (zPI Q)) : zConI G mX9_go (d + 1) [.ref 0, .int x1] h Q := zcon0 (by decide +kernel) eX9_go (Nat.le_of_ble_eq_true rfl) rfl B
set_option maxRecDepth 100000 in
set_option maxHeartbeats 4000000 in
theorem sg_X9_go_29 {G : zG} {d : Nat} {h : zMem} {Q : Int32 → zMem → Prop} {t : Nat} {x1 : Int32} {x2 : Int32} (hS : zSh1 h t)  (B : (x1 ≤ x2 → (x1 ≤ 0 → Q (zI h 48 10) h) ∧ (¬ x1 ≤ 0 → ∃ Q3 : zMem → Prop, zConV G mX8_clear d [.ref 44] h Q3 ∧ (∀ h4, Q3 h4 → zSh1 h4 t ∧ Q (zI h4 48 10) h4))) ∧ (¬ x1 ≤ x2 → ∃ Q6 : zMem → Prop, zConV G mX5_goThroughMorning d [.ref 48, .ref t] h Q6 ∧ (∀ h7, Q6 h7 → zSh1 h7 t ∧ zg G mX9_go (d + 1) 29 [.ref 0, .int x1, .int (x2 + 1)] [] h7 (zPI Q)))) : zg G mX9_go (d + 1) 29 [.ref 0, .int x1, .int x2] [] h (zPI Q) := by
  refine z_iload_n 16 rfl rfl ?_
  refine z_iload_n 17 rfl rfl ?_
  refine z_icmp_ge 18 51 rfl (by decide) ⟨fun c1 => ?_, fun c1 => ?_⟩
  · have B := B.1 c1
    refine z_iload_n 26 rfl rfl ?_
    refine z_if_le 27 62 rfl (by decide) ⟨fun c2 => ?_, fun c2 => ?_⟩
    · have B := B.1 c2
      refine z_aload_n 31 rfl rfl ?_
      refine z_getR 32 rfl lX9_37 rfl (hS.1.o 0 8 rfl rfl rfl) (hS.1.r 0 4 48 rfl rfl rfl) ?_
      refine z_getI 33 rfl lX9_195 rfl (hS.1.o 48 5 rfl rfl rfl) ?_
      exact z_iret 34 rfl rfl rfl ⟨rfl, rfl⟩ ⟨_, rfl, B⟩
    · have B := B.2 c2
      refine z_aload_n 28 rfl rfl ?_
      refine z_getR 29 rfl lX9_30 rfl (hS.1.o 0 8 rfl rfl rfl) (hS.1.r 0 3 44 rfl rfl rfl) ?_
      obtain ⟨Q3, K5, B⟩ := B
      refine z_cVV0 (ν := mX8_clear) 30 rfl rfl fX8_clear gX9_102 ⟨_, rfl, rfl⟩ (by decide) (hS.1.o 44 7 rfl rfl rfl) (Nat.le_of_ble_eq_true rfl) K5 (fun h4 q => ?_)
      obtain ⟨hSh4, B⟩ := B h4 q
      refine z_aload_n 31 rfl rfl ?_
      refine z_getR 32 rfl lX9_37 rfl (hSh4.1.o 0 8 rfl rfl rfl) (hSh4.1.r 0 4 48 rfl rfl rfl) ?_
      refine z_getI 33 rfl lX9_195 rfl (hSh4.1.o 48 5 rfl rfl rfl) ?_
      exact z_iret 34 rfl rfl rfl ⟨rfl, rfl⟩ ⟨_, rfl, B⟩
  · have B := B.2 c1
    refine z_aload_n 19 rfl rfl ?_
    refine z_getR 20 rfl lX9_37 rfl (hS.1.o 0 8 rfl rfl rfl) (hS.1.r 0 4 48 rfl rfl rfl) ?_
    refine z_aload_n 21 rfl rfl ?_
    refine z_getR 22 rfl lX9_67 rfl (hS.1.o 0 8 rfl rfl rfl) hS.2.2.1 ?_
    obtain ⟨Q6, K8, B⟩ := B
    refine z_cVV1 (ν := mX5_goThroughMorning) 23 rfl rfl fX5_goThroughMorning gX9_198 ⟨_, rfl, rfl⟩ (by decide) (hS.1.o 48 5 rfl rfl rfl) (Nat.le_of_ble_eq_true rfl) K8 (fun h7 q => ?_)
    obtain ⟨hSh7, B⟩ := B h7 q
    refine z_iinc (v := 1) 24 rfl rfl (by decide) (by decide) rfl ?_
    refine z_goto 25 29 rfl (by decide) ?_
    exact B
set_option maxRecDepth 100000 in
set_option maxHeartbeats 4000000 in
theorem sg_X9_mixedUp_0 {G : zG} {d : Nat} {h : zMem} {Q : Int32 → zMem → Prop} {t : Nat} {x1 : Int32} (hS : zSh1 h t)  (B : ∃ Q1 : Int32 → zMem → Prop, zConI G mX9_has d [.ref 0, .int (3 : Int32), .int x1] h Q1 ∧ (∀ v4 h2, Q1 v4 h2 → zSh1 h2 t ∧ (¬ v4 = 0 → vp_in x1 5 ∧ ∃ Q7 : zMem → Prop, zConV G mX9_markDays d [.ref 0, .int x1, .int (zI h2 59 x1.toNatClampNeg)] h2 Q7 ∧ (∀ h8, Q7 h8 → zSh1 h8 t ∧ ∃ Q10 : Int32 → zMem → Prop, zConI G mX9_alikePairs d [.ref 0] h8 Q10 ∧ (∀ v13 h11, Q10 v13 h11 → zSh1 h11 t ∧ Q v13 h11))) ∧ (v4 = 0 → Q (-1 : Int32) h2))) : zg G mX9_mixedUp (d + 1) 0 [.ref 0, .int x1] [] h (zPI Q) := by
  refine z_aload_n 0 rfl rfl ?_
  refine z_iconst (v := 3) 1 rfl (by decide) ?_
  refine z_iload_n 2 rfl rfl ?_
  obtain ⟨Q1, K3, B⟩ := B
  refine z_cVI2 (ν := mX9_has) 3 rfl rfl fX9_has gX9_117 ⟨_, rfl, rfl⟩ (by decide) (hS.1.o 0 8 rfl rfl rfl) (Nat.le_of_ble_eq_true rfl) K3 (fun v4 h2 q => ?_)
  obtain ⟨hSh2, B⟩ := B v4 h2 q
  refine z_if_ne 4 11 rfl (by decide) ⟨fun c5 => ?_, fun c5 => ?_⟩
  · have B := B.1 c5
    refine z_aload_n 7 rfl rfl ?_
    refine z_iload_n 8 rfl rfl ?_
    refine z_aload_n 9 rfl rfl ?_
    refine z_getR 10 rfl lX9_37 rfl (hSh2.1.o 0 8 rfl rfl rfl) (hSh2.1.r 0 4 48 rfl rfl rfl) ?_
    refine z_getR 11 rfl lX9_128 rfl (hSh2.1.o 48 5 rfl rfl rfl) (hSh2.1.r 48 4 59 rfl rfl rfl) ?_
    refine z_iload_n 12 rfl rfl ?_
    obtain ⟨o6, B⟩ := B
    refine z_iald 13 rfl (hSh2.1.o 59 100 rfl rfl rfl) (zin (hSh2.1.l 59 5 rfl rfl rfl) o6) ?_
    obtain ⟨Q7, K9, B⟩ := B
    refine z_cVV2 (ν := mX9_markDays) 14 rfl rfl fX9_markDays gX9_201 ⟨_, rfl, rfl⟩ (by decide) (hSh2.1.o 0 8 rfl rfl rfl) (Nat.le_of_ble_eq_true rfl) K9 (fun h8 q => ?_)
    obtain ⟨hSh8, B⟩ := B h8 q
    refine z_aload_n 15 rfl rfl ?_
    obtain ⟨Q10, K12, B⟩ := B
    refine z_cVI0 (ν := mX9_alikePairs) 16 rfl rfl fX9_alikePairs gX9_205 ⟨_, rfl, rfl⟩ (by decide) (hSh8.1.o 0 8 rfl rfl rfl) (Nat.le_of_ble_eq_true rfl) K12 (fun v13 h11 q => ?_)
    obtain ⟨hSh11, B⟩ := B v13 h11 q
    exact z_iret 17 rfl rfl rfl ⟨rfl, rfl⟩ ⟨_, rfl, B⟩
  · have B := B.2 c5
    refine z_iconst (v := -1) 5 rfl (by decide) ?_
    exact z_iret 6 rfl rfl rfl ⟨rfl, rfl⟩ ⟨_, rfl, B⟩
theorem cn_X9_mixedUp {G : zG} {d : Nat} {h : zMem} {Q : Int32 → zMem → Prop} {x1 : Int32} (B : zg G mX9_mixedUp (d + 1) 0 [.ref 0, .int x1] [] h (zPI Q)) : zConI G mX9_mixedUp (d + 1) [.ref 0, .int x1] h Q := zcon0 (by decide +kernel) eX9_mixedUp (Nat.le_of_ble_eq_true rfl) rfl B
set_option maxRecDepth 100000 in
set_option maxHeartbeats 4000000 in
theorem sg_X9_pair_0 {G : zG} {d : Nat} {h : zMem} {Q : Int32 → zMem → Prop} {t : Nat} {x1 : Int32} {x2 : Int32} (hS : zSh1 h t)  (B : ∃ Q1 : Int32 → zMem → Prop, zConI G mX9_has d [.ref 0, .int (3 : Int32), .int x1] h Q1 ∧ (∀ v4 h2, Q1 v4 h2 → zSh1 h2 t ∧ (v4 = 0 → Q (-1 : Int32) h2) ∧ (¬ v4 = 0 → (0 ≤ x2 → vp_in x1 5 ∧ ∃ Q8 : zMem → Prop, zConV G mX9_markDays d [.ref 0, .int x1, .int (zI h2 59 x1.toNatClampNeg)] h2 Q8 ∧ (∀ h9, Q8 h9 → zSh1 h9 t ∧ zg G mX9_pair (d + 1) 34 [.ref 0, .int x1, .int x2, .int x2, .int (0 : Int32), zU] [] h9 (zPI Q))) ∧ (¬ 0 ≤ x2 → Q (-1 : Int32) h2)))) : zg G mX9_pair (d + 1) 0 [.ref 0, .int x1, .int x2, zU, zU, zU] [] h (zPI Q) := by
  refine z_aload_n 0 rfl rfl ?_
  refine z_iconst (v := 3) 1 rfl (by decide) ?_
  refine z_iload_n 2 rfl rfl ?_
  obtain ⟨Q1, K3, B⟩ := B
  refine z_cVI2 (ν := mX9_has) 3 rfl rfl fX9_has gX9_117 ⟨_, rfl, rfl⟩ (by decide) (hS.1.o 0 8 rfl rfl rfl) (Nat.le_of_ble_eq_true rfl) K3 (fun v4 h2 q => ?_)
  obtain ⟨hSh2, B⟩ := B v4 h2 q
  refine z_if_eq 4 13 rfl (by decide) ⟨fun c5 => ?_, fun c5 => ?_⟩
  · have B := B.1 c5
    refine z_iconst (v := -1) 7 rfl (by decide) ?_
    exact z_iret 8 rfl rfl rfl ⟨rfl, rfl⟩ ⟨_, rfl, B⟩
  · have B := B.2 c5
    refine z_iload_n 5 rfl rfl ?_
    refine z_if_ge 6 15 rfl (by decide) ⟨fun c6 => ?_, fun c6 => ?_⟩
    · have B := B.1 c6
      refine z_aload_n 9 rfl rfl ?_
      refine z_iload_n 10 rfl rfl ?_
      refine z_aload_n 11 rfl rfl ?_
      refine z_getR 12 rfl lX9_37 rfl (hSh2.1.o 0 8 rfl rfl rfl) (hSh2.1.r 0 4 48 rfl rfl rfl) ?_
      refine z_getR 13 rfl lX9_128 rfl (hSh2.1.o 48 5 rfl rfl rfl) (hSh2.1.r 48 4 59 rfl rfl rfl) ?_
      refine z_iload_n 14 rfl rfl ?_
      obtain ⟨o7, B⟩ := B
      refine z_iald 15 rfl (hSh2.1.o 59 100 rfl rfl rfl) (zin (hSh2.1.l 59 5 rfl rfl rfl) o7) ?_
      obtain ⟨Q8, K10, B⟩ := B
      refine z_cVV2 (ν := mX9_markDays) 16 rfl rfl fX9_markDays gX9_201 ⟨_, rfl, rfl⟩ (by decide) (hSh2.1.o 0 8 rfl rfl rfl) (Nat.le_of_ble_eq_true rfl) K10 (fun h9 q => ?_)
      obtain ⟨hSh9, B⟩ := B h9 q
      refine z_iload_n 17 rfl rfl ?_
      refine z_istore_n 18 rfl (by decide) rfl ?_
      refine z_iconst (v := 0) 19 rfl (by decide) ?_
      refine z_istore 20 rfl (by decide) rfl ?_
      exact B
    · have B := B.2 c6
      refine z_iconst (v := -1) 7 rfl (by decide) ?_
      exact z_iret 8 rfl rfl rfl ⟨rfl, rfl⟩ ⟨_, rfl, B⟩
theorem cn_X9_pair {G : zG} {d : Nat} {h : zMem} {Q : Int32 → zMem → Prop} {x1 : Int32} {x2 : Int32} (B : zg G mX9_pair (d + 1) 0 [.ref 0, .int x1, .int x2, zU, zU, zU] [] h (zPI Q)) : zConI G mX9_pair (d + 1) [.ref 0, .int x1, .int x2] h Q := zcon0 (by decide +kernel) eX9_pair (Nat.le_of_ble_eq_true rfl) rfl B
set_option maxRecDepth 100000 in
set_option maxHeartbeats 4000000 in
theorem sg_X9_pair_34 {G : zG} {d : Nat} {h : zMem} {Q : Int32 → zMem → Prop} {t : Nat} {x1 : Int32} {x2 : Int32} {x3 : Int32} {x4 : Int32} (hS : zSh1 h t)  (B : ((zI h (t + 1) 1) ≤ x4 → Q (-2 : Int32) h) ∧ (¬ (zI h (t + 1) 1) ≤ x4 → zg G mX9_pair (d + 1) 54 [.ref 0, .int x1, .int x2, .int x3, .int x4, .int (x4 + (1 : Int32))] [] h (zPI Q))) : zg G mX9_pair (d + 1) 34 [.ref 0, .int x1, .int x2, .int x3, .int x4, zU] [] h (zPI Q) := by
  refine z_iload 21 rfl rfl ?_
  refine z_aload_n 22 rfl rfl ?_
  refine z_getR 23 rfl lX9_67 rfl (hS.1.o 0 8 rfl rfl rfl) hS.2.2.1 ?_
  refine z_getR 24 rfl lX9_208 rfl (zS_to hS hS.2.1 0 6 rfl rfl) (zS_tr hS hS.2.1 0 0 1 rfl rfl rfl) ?_
  refine z_iconst (v := 1) 25 rfl (by decide) ?_
  refine z_iald_c 26 1 rfl (by decide) (zS_to hS hS.2.1 1 100 rfl rfl) (zin (zS_tl hS hS.2.1 1 4 rfl rfl) (zvp (by decide))) ?_
  refine z_icmp_ge 27 113 rfl (by decide) ⟨fun c1 => ?_, fun c1 => ?_⟩
  · have B := B.1 c1
    refine z_bipush (v := -2) 61 rfl (by decide) ?_
    exact z_iret 62 rfl rfl rfl ⟨rfl, rfl⟩ ⟨_, rfl, B⟩
  · have B := B.2 c1
    refine z_iload 28 rfl rfl ?_
    refine z_iconst (v := 1) 29 rfl (by decide) ?_
    refine z_iadd 30 rfl ?_
    refine z_istore 31 rfl (by decide) rfl ?_
    exact B
set_option maxRecDepth 100000 in
set_option maxHeartbeats 4000000 in
theorem sg_X9_pair_54 {G : zG} {d : Nat} {h : zMem} {Q : Int32 → zMem → Prop} {t : Nat} {x1 : Int32} {x2 : Int32} {x3 : Int32} {x4 : Int32} {x5 : Int32} (hS : zSh1 h t)  (B : ((zI h (t + 1) 1) ≤ x5 → zg G mX9_pair (d + 1) 34 [.ref 0, .int x1, .int x2, .int x3, .int (x4 + 1), zU] [] h (zPI Q)) ∧ (¬ (zI h (t + 1) 1) ≤ x5 → vp_in x4 8 ∧ vp_in x5 8 ∧ (¬ (zI h 102 x4.toNatClampNeg) = (zI h 102 x5.toNatClampNeg) → zg G mX9_pair (d + 1) 54 [.ref 0, .int x1, .int x2, .int x3, .int x4, .int (x5 + 1)] [] h (zPI Q)) ∧ ((zI h 102 x4.toNatClampNeg) = (zI h 102 x5.toNatClampNeg) → (¬ x3 = 0 → zg G mX9_pair (d + 1) 54 [.ref 0, .int x1, .int x2, .int (x3 + (-1)), .int x4, .int (x5 + 1)] [] h (zPI Q)) ∧ (x3 = 0 → Q (((10 : Int32) * x4) + x5) h)))) : zg G mX9_pair (d + 1) 54 [.ref 0, .int x1, .int x2, .int x3, .int x4, .int x5] [] h (zPI Q) := by
  refine z_iload 32 rfl rfl ?_
  refine z_aload_n 33 rfl rfl ?_
  refine z_getR 34 rfl lX9_67 rfl (hS.1.o 0 8 rfl rfl rfl) hS.2.2.1 ?_
  refine z_getR 35 rfl lX9_208 rfl (zS_to hS hS.2.1 0 6 rfl rfl) (zS_tr hS hS.2.1 0 0 1 rfl rfl rfl) ?_
  refine z_iconst (v := 1) 36 rfl (by decide) ?_
  refine z_iald_c 37 1 rfl (by decide) (zS_to hS hS.2.1 1 100 rfl rfl) (zin (zS_tl hS hS.2.1 1 4 rfl rfl) (zvp (by decide))) ?_
  refine z_icmp_ge 38 107 rfl (by decide) ⟨fun c1 => ?_, fun c1 => ?_⟩
  · have B := B.1 c1
    refine z_iinc (v := 1) 59 rfl rfl (by decide) (by decide) rfl ?_
    refine z_goto 60 34 rfl (by decide) ?_
    refine z_drop 5 ?_
    exact B
  · have B := B.2 c1
    refine z_aload_n 39 rfl rfl ?_
    refine z_getR 40 rfl lX9_61 rfl (hS.1.o 0 8 rfl rfl rfl) (hS.1.r 0 10 102 rfl rfl rfl) ?_
    refine z_iload 41 rfl rfl ?_
    obtain ⟨o2, B⟩ := B
    refine z_iald 42 rfl (hS.1.o 102 100 rfl rfl rfl) (zin (hS.1.l 102 8 rfl rfl rfl) o2) ?_
    refine z_aload_n 43 rfl rfl ?_
    refine z_getR 44 rfl lX9_61 rfl (hS.1.o 0 8 rfl rfl rfl) (hS.1.r 0 10 102 rfl rfl rfl) ?_
    refine z_iload 45 rfl rfl ?_
    obtain ⟨o3, B⟩ := B
    refine z_iald 46 rfl (hS.1.o 102 100 rfl rfl rfl) (zin (hS.1.l 102 8 rfl rfl rfl) o3) ?_
    refine z_icmp_ne 47 101 rfl (by decide) ⟨fun c4 => ?_, fun c4 => ?_⟩
    · have B := B.1 c4
      refine z_iinc (v := 1) 57 rfl rfl (by decide) (by decide) rfl ?_
      refine z_goto 58 54 rfl (by decide) ?_
      exact B
    · have B := B.2 c4
      refine z_iload_n 48 rfl rfl ?_
      refine z_if_ne 49 98 rfl (by decide) ⟨fun c5 => ?_, fun c5 => ?_⟩
      · have B := B.1 c5
        refine z_iinc (v := -1) 56 rfl rfl (by decide) (by decide) rfl ?_
        refine z_iinc (v := 1) 57 rfl rfl (by decide) (by decide) rfl ?_
        refine z_goto 58 54 rfl (by decide) ?_
        exact B
      · have B := B.2 c5
        refine z_bipush (v := 10) 50 rfl (by decide) ?_
        refine z_iload 51 rfl rfl ?_
        refine z_imul 52 rfl ?_
        refine z_iload 53 rfl rfl ?_
        refine z_iadd 54 rfl ?_
        exact z_iret 55 rfl rfl rfl ⟨rfl, rfl⟩ ⟨_, rfl, B⟩
set_option maxRecDepth 100000 in
set_option maxHeartbeats 4000000 in
theorem sg_X9_mending_0 {G : zG} {d : Nat} {h : zMem} {Q : Int32 → zMem → Prop} {t : Nat} {x1 : Int32} {x2 : Int32} {x3 : Int32} {x4 : Int32} (hS : zSh1 h t)  (B : ∃ Q1 : Int32 → zMem → Prop, zConI G mX9_has d [.ref 0, .int (3 : Int32), .int x1] h Q1 ∧ (∀ v4 h2, Q1 v4 h2 → zSh1 h2 t ∧ (v4 = 0 → Q (-1 : Int32) h2) ∧ (¬ v4 = 0 → ∃ Q6 : Int32 → zMem → Prop, zConI G mX9_has d [.ref 0, .int (1 : Int32), .int x2] h2 Q6 ∧ (∀ v9 h7, Q6 v9 h7 → zSh1 h7 t ∧ (v9 = 0 → Q (-1 : Int32) h7) ∧ (¬ v9 = 0 → ∃ Q11 : Int32 → zMem → Prop, zConI G mX9_has d [.ref 0, .int (1 : Int32), .int x3] h7 Q11 ∧ (∀ v14 h12, Q11 v14 h12 → zSh1 h12 t ∧ (v14 = 0 → Q (-1 : Int32) h12) ∧ (¬ v14 = 0 → (x2 = x3 → Q (-1 : Int32) h12) ∧ (¬ x2 = x3 → (x4 < 0 → Q (-1 : Int32) h12) ∧ (¬ x4 < 0 → (x4 ≤ (1 : Int32) → ∃ Q19 : Int32 → zMem → Prop, zConI G mX9_keenNow d [.ref 0, .int x1] h12 Q19 ∧ (∀ v22 h20, Q19 v22 h20 → zSh1 h20 t ∧ ∃ Q23 : Int32 → zMem → Prop, zConI G mX5_markOf d [.ref 48, .ref t, .int x1, .int x2, .int v22] h20 Q23 ∧ (∀ v26 h24, Q23 v26 h24 → zSh1 h24 t ∧ ∃ Q27 : Int32 → zMem → Prop, zConI G mX5_markOf d [.ref 48, .ref t, .int x1, .int x3, .int v22] h24 Q27 ∧ (∀ v30 h28, Q27 v30 h28 → zSh1 h28 t ∧ (v26 = v30 → zg G mX9_mending (d + 1) 106 [.ref 0, .int x1, .int x2, .int x3, .int x4, .int v22, .int (if x2 < x3 then x3 else x2), .int (-2 : Int32), .int (100 : Int32), .int (0 : Int32), zU] [] h28 (zPI Q)) ∧ (¬ v26 = v30 → Q (-3 : Int32) h28))))) ∧ (¬ x4 ≤ (1 : Int32) → Q (-1 : Int32) h12)))))))))) : zg G mX9_mending (d + 1) 0 [.ref 0, .int x1, .int x2, .int x3, .int x4, zU, zU, zU, zU, zU, zU] [] h (zPI Q) := by
  refine z_aload_n 0 rfl rfl ?_
  refine z_iconst (v := 3) 1 rfl (by decide) ?_
  refine z_iload_n 2 rfl rfl ?_
  obtain ⟨Q1, K3, B⟩ := B
  refine z_cVI2 (ν := mX9_has) 3 rfl rfl fX9_has gX9_117 ⟨_, rfl, rfl⟩ (by decide) (hS.1.o 0 8 rfl rfl rfl) (Nat.le_of_ble_eq_true rfl) K3 (fun v4 h2 q => ?_)
  obtain ⟨hSh2, B⟩ := B v4 h2 q
  refine z_if_eq 4 43 rfl (by decide) ⟨fun c5 => ?_, fun c5 => ?_⟩
  · have B := B.1 c5
    refine z_iconst (v := -1) 23 rfl (by decide) ?_
    exact z_iret 24 rfl rfl rfl ⟨rfl, rfl⟩ ⟨_, rfl, B⟩
  · have B := B.2 c5
    refine z_aload_n 5 rfl rfl ?_
    refine z_iconst (v := 1) 6 rfl (by decide) ?_
    refine z_iload_n 7 rfl rfl ?_
    obtain ⟨Q6, K8, B⟩ := B
    refine z_cVI2 (ν := mX9_has) 8 rfl rfl fX9_has gX9_117 ⟨_, rfl, rfl⟩ (by decide) (hSh2.1.o 0 8 rfl rfl rfl) (Nat.le_of_ble_eq_true rfl) K8 (fun v9 h7 q => ?_)
    obtain ⟨hSh7, B⟩ := B v9 h7 q
    refine z_if_eq 9 43 rfl (by decide) ⟨fun c10 => ?_, fun c10 => ?_⟩
    · have B := B.1 c10
      refine z_iconst (v := -1) 23 rfl (by decide) ?_
      exact z_iret 24 rfl rfl rfl ⟨rfl, rfl⟩ ⟨_, rfl, B⟩
    · have B := B.2 c10
      refine z_aload_n 10 rfl rfl ?_
      refine z_iconst (v := 1) 11 rfl (by decide) ?_
      refine z_iload_n 12 rfl rfl ?_
      obtain ⟨Q11, K13, B⟩ := B
      refine z_cVI2 (ν := mX9_has) 13 rfl rfl fX9_has gX9_117 ⟨_, rfl, rfl⟩ (by decide) (hSh7.1.o 0 8 rfl rfl rfl) (Nat.le_of_ble_eq_true rfl) K13 (fun v14 h12 q => ?_)
      obtain ⟨hSh12, B⟩ := B v14 h12 q
      refine z_if_eq 14 43 rfl (by decide) ⟨fun c15 => ?_, fun c15 => ?_⟩
      · have B := B.1 c15
        refine z_iconst (v := -1) 23 rfl (by decide) ?_
        exact z_iret 24 rfl rfl rfl ⟨rfl, rfl⟩ ⟨_, rfl, B⟩
      · have B := B.2 c15
        refine z_iload_n 15 rfl rfl ?_
        refine z_iload_n 16 rfl rfl ?_
        refine z_icmp_eq 17 43 rfl (by decide) ⟨fun c16 => ?_, fun c16 => ?_⟩
        · have B := B.1 c16
          refine z_iconst (v := -1) 23 rfl (by decide) ?_
          exact z_iret 24 rfl rfl rfl ⟨rfl, rfl⟩ ⟨_, rfl, B⟩
        · have B := B.2 c16
          refine z_iload 18 rfl rfl ?_
          refine z_if_lt 19 43 rfl (by decide) ⟨fun c17 => ?_, fun c17 => ?_⟩
          · have B := B.1 c17
            refine z_iconst (v := -1) 23 rfl (by decide) ?_
            exact z_iret 24 rfl rfl rfl ⟨rfl, rfl⟩ ⟨_, rfl, B⟩
          · have B := B.2 c17
            refine z_iload 20 rfl rfl ?_
            refine z_iconst (v := 1) 21 rfl (by decide) ?_
            refine z_icmp_le 22 45 rfl (by decide) ⟨fun c18 => ?_, fun c18 => ?_⟩
            · have B := B.1 c18
              refine z_aload_n 25 rfl rfl ?_
              refine z_iload_n 26 rfl rfl ?_
              obtain ⟨Q19, K21, B⟩ := B
              refine z_cVI1 (ν := mX9_keenNow) 27 rfl rfl fX9_keenNow gX9_169 ⟨_, rfl, rfl⟩ (by decide) (hSh12.1.o 0 8 rfl rfl rfl) (Nat.le_of_ble_eq_true rfl) K21 (fun v22 h20 q => ?_)
              obtain ⟨hSh20, B⟩ := B v22 h20 q
              refine z_istore 28 rfl (by decide) rfl ?_
              refine z_aload_n 29 rfl rfl ?_
              refine z_getR 30 rfl lX9_37 rfl (hSh20.1.o 0 8 rfl rfl rfl) (hSh20.1.r 0 4 48 rfl rfl rfl) ?_
              refine z_aload_n 31 rfl rfl ?_
              refine z_getR 32 rfl lX9_67 rfl (hSh20.1.o 0 8 rfl rfl rfl) hSh20.2.2.1 ?_
              refine z_iload_n 33 rfl rfl ?_
              refine z_iload_n 34 rfl rfl ?_
              refine z_iload 35 rfl rfl ?_
              obtain ⟨Q23, K25, B⟩ := B
              refine z_cVI4 (ν := mX5_markOf) 36 rfl rfl fX5_markOf gX9_173 ⟨_, rfl, rfl⟩ (by decide) (hSh20.1.o 48 5 rfl rfl rfl) (Nat.le_of_ble_eq_true rfl) K25 (fun v26 h24 q => ?_)
              obtain ⟨hSh24, B⟩ := B v26 h24 q
              refine z_aload_n 37 rfl rfl ?_
              refine z_getR 38 rfl lX9_37 rfl (hSh24.1.o 0 8 rfl rfl rfl) (hSh24.1.r 0 4 48 rfl rfl rfl) ?_
              refine z_aload_n 39 rfl rfl ?_
              refine z_getR 40 rfl lX9_67 rfl (hSh24.1.o 0 8 rfl rfl rfl) hSh24.2.2.1 ?_
              refine z_iload_n 41 rfl rfl ?_
              refine z_iload_n 42 rfl rfl ?_
              refine z_iload 43 rfl rfl ?_
              obtain ⟨Q27, K29, B⟩ := B
              refine z_cVI4 (ν := mX5_markOf) 44 rfl rfl fX5_markOf gX9_173 ⟨_, rfl, rfl⟩ (by decide) (hSh24.1.o 48 5 rfl rfl rfl) (Nat.le_of_ble_eq_true rfl) K29 (fun v30 h28 q => ?_)
              obtain ⟨hSh28, B⟩ := B v30 h28 q
              refine z_icmp_eq 45 88 rfl (by decide) ⟨fun c31 => ?_, fun c31 => ?_⟩
              · have B := B.1 c31
                refine z_iload_n 48 rfl rfl ?_
                refine z_iload_n 49 rfl rfl ?_
                refine z_mmax 50 rfl rfl gmX9_211 (Nat.le_of_ble_eq_true rfl) ?_
                refine z_istore 51 rfl (by decide) rfl ?_
                refine z_bipush (v := -2) 52 rfl (by decide) ?_
                refine z_istore 53 rfl (by decide) rfl ?_
                refine z_bipush (v := 100) 54 rfl (by decide) ?_
                refine z_istore 55 rfl (by decide) rfl ?_
                refine z_iconst (v := 0) 56 rfl (by decide) ?_
                refine z_istore 57 rfl (by decide) rfl ?_
                exact B
              · have B := B.2 c31
                refine z_bipush (v := -3) 46 rfl (by decide) ?_
                exact z_iret 47 rfl rfl rfl ⟨rfl, rfl⟩ ⟨_, rfl, B⟩
            · have B := B.2 c18
              refine z_iconst (v := -1) 23 rfl (by decide) ?_
              exact z_iret 24 rfl rfl rfl ⟨rfl, rfl⟩ ⟨_, rfl, B⟩
theorem cn_X9_mending {G : zG} {d : Nat} {h : zMem} {Q : Int32 → zMem → Prop} {x1 : Int32} {x2 : Int32} {x3 : Int32} {x4 : Int32} (B : zg G mX9_mending (d + 1) 0 [.ref 0, .int x1, .int x2, .int x3, .int x4, zU, zU, zU, zU, zU, zU] [] h (zPI Q)) : zConI G mX9_mending (d + 1) [.ref 0, .int x1, .int x2, .int x3, .int x4] h Q := zcon0 (by decide +kernel) eX9_mending (Nat.le_of_ble_eq_true rfl) rfl B
set_option maxRecDepth 100000 in
set_option maxHeartbeats 4000000 in
theorem sg_X9_mending_106 {G : zG} {d : Nat} {h : zMem} {Q : Int32 → zMem → Prop} {t : Nat} {x1 : Int32} {x2 : Int32} {x3 : Int32} {x4 : Int32} {x5 : Int32} {x6 : Int32} {x7 : Int32} {x8 : Int32} {x9 : Int32} (hS : zSh1 h t)  (B : ((zI h (t + 1) 0) ≤ x9 → (x4 = 0 → Q x7 h) ∧ (¬ x4 = 0 → (¬ x7 = (-2 : Int32) → Q x8 h) ∧ (x7 = (-2 : Int32) → Q x7 h))) ∧ (¬ (zI h (t + 1) 0) ≤ x9 → ∃ Q4 : Int32 → zMem → Prop, zConI G mX9_moreThatIsSmelled d [.ref 0, .int x1, .int x6, .int x9, .int x5] h Q4 ∧ (∀ v7 h5, Q4 v7 h5 → zSh1 h5 t ∧ (x8 ≤ v7 → zg G mX9_mending (d + 1) 106 [.ref 0, .int x1, .int x2, .int x3, .int x4, .int x5, .int x6, .int x7, .int x8, .int (x9 + 1), zU] [] h5 (zPI Q)) ∧ (¬ x8 ≤ v7 → zg G mX9_mending (d + 1) 106 [.ref 0, .int x1, .int x2, .int x3, .int x4, .int x5, .int x6, .int x9, .int v7, .int (x9 + 1), zU] [] h5 (zPI Q))))) : zg G mX9_mending (d + 1) 106 [.ref 0, .int x1, .int x2, .int x3, .int x4, .int x5, .int x6, .int x7, .int x8, .int x9, zU] [] h (zPI Q) := by
  refine z_iload 58 rfl rfl ?_
  refine z_aload_n 59 rfl rfl ?_
  refine z_getR 60 rfl lX9_67 rfl (hS.1.o 0 8 rfl rfl rfl) hS.2.2.1 ?_
  refine z_getR 61 rfl lX9_208 rfl (zS_to hS hS.2.1 0 6 rfl rfl) (zS_tr hS hS.2.1 0 0 1 rfl rfl rfl) ?_
  refine z_iconst (v := 0) 62 rfl (by decide) ?_
  refine z_iald_c 63 0 rfl (by decide) (zS_to hS hS.2.1 1 100 rfl rfl) (zin (zS_tl hS hS.2.1 1 4 rfl rfl) (zvp (by decide))) ?_
  refine z_icmp_ge 64 154 rfl (by decide) ⟨fun c1 => ?_, fun c1 => ?_⟩
  · have B := B.1 c1
    refine z_iload 81 rfl rfl ?_
    refine z_if_eq 82 166 rfl (by decide) ⟨fun c2 => ?_, fun c2 => ?_⟩
    · have B := B.1 c2
      refine z_iload 86 rfl rfl ?_
      refine z_goto 87 173 rfl (by decide) ?_
      exact z_iret 89 rfl rfl rfl ⟨rfl, rfl⟩ ⟨_, rfl, B⟩
    · have B := B.2 c2
      refine z_iload 83 rfl rfl ?_
      refine z_bipush (v := -2) 84 rfl (by decide) ?_
      refine z_icmp_ne 85 171 rfl (by decide) ⟨fun c3 => ?_, fun c3 => ?_⟩
      · have B := B.1 c3
        refine z_iload 88 rfl rfl ?_
        exact z_iret 89 rfl rfl rfl ⟨rfl, rfl⟩ ⟨_, rfl, B⟩
      · have B := B.2 c3
        refine z_iload 86 rfl rfl ?_
        refine z_goto 87 173 rfl (by decide) ?_
        exact z_iret 89 rfl rfl rfl ⟨rfl, rfl⟩ ⟨_, rfl, B⟩
  · have B := B.2 c1
    refine z_aload_n 65 rfl rfl ?_
    refine z_iload_n 66 rfl rfl ?_
    refine z_iload 67 rfl rfl ?_
    refine z_iload 68 rfl rfl ?_
    refine z_iload 69 rfl rfl ?_
    obtain ⟨Q4, K6, B⟩ := B
    refine z_cVI4 (ν := mX9_moreThatIsSmelled) 70 rfl rfl fX9_moreThatIsSmelled gX9_216 ⟨_, rfl, rfl⟩ (by decide) (hS.1.o 0 8 rfl rfl rfl) (Nat.le_of_ble_eq_true rfl) K6 (fun v7 h5 q => ?_)
    obtain ⟨hSh5, B⟩ := B v7 h5 q
    refine z_istore 71 rfl (by decide) rfl ?_
    refine z_iload 72 rfl rfl ?_
    refine z_iload 73 rfl rfl ?_
    refine z_icmp_ge 74 148 rfl (by decide) ⟨fun c8 => ?_, fun c8 => ?_⟩
    · have B := B.1 c8
      refine z_iinc (v := 1) 79 rfl rfl (by decide) (by decide) rfl ?_
      refine z_goto 80 106 rfl (by decide) ?_
      refine z_drop 10 ?_
      exact B
    · have B := B.2 c8
      refine z_iload 75 rfl rfl ?_
      refine z_istore 76 rfl (by decide) rfl ?_
      refine z_iload 77 rfl rfl ?_
      refine z_istore 78 rfl (by decide) rfl ?_
      refine z_iinc (v := 1) 79 rfl rfl (by decide) (by decide) rfl ?_
      refine z_goto 80 106 rfl (by decide) ?_
      refine z_drop 10 ?_
      exact B
set_option maxRecDepth 100000 in
set_option maxHeartbeats 4000000 in
theorem sg_X9_moreThatIsSmelled_0 {G : zG} {d : Nat} {h : zMem} {Q : Int32 → zMem → Prop} {t : Nat} {x1 : Int32} {x2 : Int32} {x3 : Int32} {x4 : Int32} (hS : zSh1 h t)  (B : vp_in x1 5 ∧ vp_in (zI h 59 x1.toNatClampNeg) 6 ∧ vp_in x2 8 ∧ vp_in x3 6 ∧ (¬ (((zI h 60 x1.toNatClampNeg) >>> (x3 &&& 31)) &&& (1 : Int32)) = (1 : Int32) → (¬ (0 : Int32) = 0 → Q (100 : Int32) h) ∧ ((0 : Int32) = 0 → ((((zI h (t + 9 + 1 + x2.toNatClampNeg) x3.toNatClampNeg) * (zI h 51 (zI h 59 x1.toNatClampNeg).toNatClampNeg)) / (100 : Int32)) < x4 → zg G mX9_moreThatIsSmelled d 80 [.ref 0, .int x1, .int x2, .int x3, .int x4, .int (zI h 51 (zI h 59 x1.toNatClampNeg).toNatClampNeg), .int (zI h (t + 9 + 1 + x2.toNatClampNeg) x3.toNatClampNeg), .int (0 : Int32), .int (1 : Int32)] [] h (zPI Q)) ∧ (¬ (((zI h (t + 9 + 1 + x2.toNatClampNeg) x3.toNatClampNeg) * (zI h 51 (zI h 59 x1.toNatClampNeg).toNatClampNeg)) / (100 : Int32)) < x4 → Q (100 : Int32) h))) ∧ ((((zI h 60 x1.toNatClampNeg) >>> (x3 &&& 31)) &&& (1 : Int32)) = (1 : Int32) → (¬ (1 : Int32) = 0 → Q (100 : Int32) h) ∧ ((1 : Int32) = 0 → ((((zI h (t + 9 + 1 + x2.toNatClampNeg) x3.toNatClampNeg) * (zI h 51 (zI h 59 x1.toNatClampNeg).toNatClampNeg)) / (100 : Int32)) < x4 → zg G mX9_moreThatIsSmelled d 80 [.ref 0, .int x1, .int x2, .int x3, .int x4, .int (zI h 51 (zI h 59 x1.toNatClampNeg).toNatClampNeg), .int (zI h (t + 9 + 1 + x2.toNatClampNeg) x3.toNatClampNeg), .int (1 : Int32), .int (1 : Int32)] [] h (zPI Q)) ∧ (¬ (((zI h (t + 9 + 1 + x2.toNatClampNeg) x3.toNatClampNeg) * (zI h 51 (zI h 59 x1.toNatClampNeg).toNatClampNeg)) / (100 : Int32)) < x4 → Q (100 : Int32) h)))) : zg G mX9_moreThatIsSmelled d 0 [.ref 0, .int x1, .int x2, .int x3, .int x4, zU, zU, zU, zU] [] h (zPI Q) := by
  refine z_aload_n 0 rfl rfl ?_
  refine z_getR 1 rfl lX9_37 rfl (hS.1.o 0 8 rfl rfl rfl) (hS.1.r 0 4 48 rfl rfl rfl) ?_
  refine z_getR 2 rfl lX9_220 rfl (hS.1.o 48 5 rfl rfl rfl) (hS.1.r 48 2 51 rfl rfl rfl) ?_
  refine z_aload_n 3 rfl rfl ?_
  refine z_getR 4 rfl lX9_37 rfl (hS.1.o 0 8 rfl rfl rfl) (hS.1.r 0 4 48 rfl rfl rfl) ?_
  refine z_getR 5 rfl lX9_128 rfl (hS.1.o 48 5 rfl rfl rfl) (hS.1.r 48 4 59 rfl rfl rfl) ?_
  refine z_iload_n 6 rfl rfl ?_
  obtain ⟨o1, B⟩ := B
  refine z_iald 7 rfl (hS.1.o 59 100 rfl rfl rfl) (zin (hS.1.l 59 5 rfl rfl rfl) o1) ?_
  obtain ⟨o2, B⟩ := B
  refine z_iald 8 rfl (hS.1.o 51 100 rfl rfl rfl) (zin (hS.1.l 51 6 rfl rfl rfl) o2) ?_
  refine z_istore 9 rfl (by decide) rfl ?_
  refine z_aload_n 10 rfl rfl ?_
  refine z_getR 11 rfl lX9_67 rfl (hS.1.o 0 8 rfl rfl rfl) hS.2.2.1 ?_
  refine z_getR 12 rfl lX9_158 rfl (zS_to hS hS.2.1 0 6 rfl rfl) (zS_tr hS hS.2.1 0 4 9 rfl rfl rfl) ?_
  refine z_iload_n 13 rfl rfl ?_
  obtain ⟨o3, B⟩ := B
  refine z_aald 14 rfl (zS_to hS hS.2.1 9 104 rfl rfl) (zin (zS_tl hS hS.2.1 9 8 rfl rfl) o3) (zS_trow hS hS.2.1 9 8 6 rfl rfl rfl o3).1 ?_
  refine z_iload_n 15 rfl rfl ?_
  obtain ⟨o4, B⟩ := B
  refine z_iald 16 rfl (zS_trow hS hS.2.1 9 8 6 rfl rfl rfl o3).2.1 (zin (zS_trow hS hS.2.1 9 8 6 rfl rfl rfl o3).2.2 o4) ?_
  refine z_istore 17 rfl (by decide) rfl ?_
  refine z_aload_n 18 rfl rfl ?_
  refine z_getR 19 rfl lX9_37 rfl (hS.1.o 0 8 rfl rfl rfl) (hS.1.r 0 4 48 rfl rfl rfl) ?_
  refine z_getR 20 rfl lX9_134 rfl (hS.1.o 48 5 rfl rfl rfl) (hS.1.r 48 5 60 rfl rfl rfl) ?_
  refine z_iload_n 21 rfl rfl ?_
  refine z_iald 22 rfl (hS.1.o 60 100 rfl rfl rfl) (zin (hS.1.l 60 5 rfl rfl rfl) o1) ?_
  refine z_iload_n 23 rfl rfl ?_
  refine z_ishr 24 rfl ?_
  refine z_iconst (v := 1) 25 rfl (by decide) ?_
  refine z_iand 26 rfl ?_
  refine z_iconst (v := 1) 27 rfl (by decide) ?_
  refine z_icmp_ne 28 53 rfl (by decide) ⟨fun c5 => ?_, fun c5 => ?_⟩
  · have B := B.1 c5
    refine z_iconst (v := 0) 31 rfl (by decide) ?_
    refine z_istore 32 rfl (by decide) rfl ?_
    refine z_iload 33 rfl rfl ?_
    refine z_if_ne 34 74 rfl (by decide) ⟨fun c6 => ?_, fun c6 => ?_⟩
    · have B := B.1 c6
      refine z_bipush (v := 100) 42 rfl (by decide) ?_
      exact z_iret 43 rfl rfl rfl ⟨rfl, rfl⟩ ⟨_, rfl, B⟩
    · have B := B.2 c6
      refine z_iload 35 rfl rfl ?_
      refine z_iload 36 rfl rfl ?_
      refine z_imul 37 rfl ?_
      refine z_bipush (v := 100) 38 rfl (by decide) ?_
      refine z_idiv 39 rfl (by decide) ?_
      refine z_iload 40 rfl rfl ?_
      refine z_icmp_lt 41 77 rfl (by decide) ⟨fun c7 => ?_, fun c7 => ?_⟩
      · have B := B.1 c7
        refine z_iconst (v := 1) 44 rfl (by decide) ?_
        refine z_istore 45 rfl (by decide) rfl ?_
        exact B
      · have B := B.2 c7
        refine z_bipush (v := 100) 42 rfl (by decide) ?_
        exact z_iret 43 rfl rfl rfl ⟨rfl, rfl⟩ ⟨_, rfl, B⟩
  · have B := B.2 c5
    refine z_iconst (v := 1) 29 rfl (by decide) ?_
    refine z_goto 30 54 rfl (by decide) ?_
    refine z_istore 32 rfl (by decide) rfl ?_
    refine z_iload 33 rfl rfl ?_
    refine z_if_ne 34 74 rfl (by decide) ⟨fun c8 => ?_, fun c8 => ?_⟩
    · have B := B.1 c8
      refine z_bipush (v := 100) 42 rfl (by decide) ?_
      exact z_iret 43 rfl rfl rfl ⟨rfl, rfl⟩ ⟨_, rfl, B⟩
    · have B := B.2 c8
      refine z_iload 35 rfl rfl ?_
      refine z_iload 36 rfl rfl ?_
      refine z_imul 37 rfl ?_
      refine z_bipush (v := 100) 38 rfl (by decide) ?_
      refine z_idiv 39 rfl (by decide) ?_
      refine z_iload 40 rfl rfl ?_
      refine z_icmp_lt 41 77 rfl (by decide) ⟨fun c9 => ?_, fun c9 => ?_⟩
      · have B := B.1 c9
        refine z_iconst (v := 1) 44 rfl (by decide) ?_
        refine z_istore 45 rfl (by decide) rfl ?_
        exact B
      · have B := B.2 c9
        refine z_bipush (v := 100) 42 rfl (by decide) ?_
        exact z_iret 43 rfl rfl rfl ⟨rfl, rfl⟩ ⟨_, rfl, B⟩
theorem cn_X9_moreThatIsSmelled {G : zG} {d : Nat} {h : zMem} {Q : Int32 → zMem → Prop} {x1 : Int32} {x2 : Int32} {x3 : Int32} {x4 : Int32} (B : zg G mX9_moreThatIsSmelled d 0 [.ref 0, .int x1, .int x2, .int x3, .int x4, zU, zU, zU, zU] [] h (zPI Q)) : zConI G mX9_moreThatIsSmelled d [.ref 0, .int x1, .int x2, .int x3, .int x4] h Q := zcon0 (by decide +kernel) eX9_moreThatIsSmelled (Nat.le_of_ble_eq_true rfl) rfl B
set_option maxRecDepth 100000 in
set_option maxHeartbeats 4000000 in
theorem sg_X9_moreThatIsSmelled_80 {G : zG} {d : Nat} {h : zMem} {Q : Int32 → zMem → Prop} {t : Nat} {x1 : Int32} {x2 : Int32} {x3 : Int32} {x4 : Int32} {x5 : Int32} {x6 : Int32} {x7 : Int32} {x8 : Int32} (hS : zSh1 h t)  (B : ((99 : Int32) < x8 → Q (100 : Int32) h) ∧ (¬ (99 : Int32) < x8 → ((((x6 + x8) * x5) / (100 : Int32)) < x4 → zg G mX9_moreThatIsSmelled d 80 [.ref 0, .int x1, .int x2, .int x3, .int x4, .int x5, .int x6, .int x7, .int (x8 + 1)] [] h (zPI Q)) ∧ (¬ (((x6 + x8) * x5) / (100 : Int32)) < x4 → Q x8 h))) : zg G mX9_moreThatIsSmelled d 80 [.ref 0, .int x1, .int x2, .int x3, .int x4, .int x5, .int x6, .int x7, .int x8] [] h (zPI Q) := by
  refine z_iload 46 rfl rfl ?_
  refine z_bipush (v := 99) 47 rfl (by decide) ?_
  refine z_icmp_gt 48 112 rfl (by decide) ⟨fun c1 => ?_, fun c1 => ?_⟩
  · have B := B.1 c1
    refine z_bipush (v := 100) 62 rfl (by decide) ?_
    exact z_iret 63 rfl rfl rfl ⟨rfl, rfl⟩ ⟨_, rfl, B⟩
  · have B := B.2 c1
    refine z_iload 49 rfl rfl ?_
    refine z_iload 50 rfl rfl ?_
    refine z_iadd 51 rfl ?_
    refine z_iload 52 rfl rfl ?_
    refine z_imul 53 rfl ?_
    refine z_bipush (v := 100) 54 rfl (by decide) ?_
    refine z_idiv 55 rfl (by decide) ?_
    refine z_iload 56 rfl rfl ?_
    refine z_icmp_lt 57 106 rfl (by decide) ⟨fun c2 => ?_, fun c2 => ?_⟩
    · have B := B.1 c2
      refine z_iinc (v := 1) 60 rfl rfl (by decide) (by decide) rfl ?_
      refine z_goto 61 80 rfl (by decide) ?_
      exact B
    · have B := B.2 c2
      refine z_iload 58 rfl rfl ?_
      exact z_iret 59 rfl rfl rfl ⟨rfl, rfl⟩ ⟨_, rfl, B⟩
