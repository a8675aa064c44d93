set_option maxRecDepth 100000 in
set_option maxHeartbeats 4000000 in
theorem sg_X10_sum_0 {G : zG} {d : Nat} {h : zMem} {Q : zMem → Prop}  (hS : zSh2 h)  (B : ∃ Q1 : zMem → Prop, zConV G mX10_product d [.ref 132] h Q1 ∧ (∀ h2, Q1 h2 → zSh2 h2 ∧ zg G mX10_sum (d + 1) 4 [.ref 132, zU] [] h2 (zPV Q))) : zg G mX10_sum (d + 1) 0 [.ref 132, zU] [] h (zPV Q) := by
  refine z_aload_n 0 rfl rfl ?_
  obtain ⟨Q1, K3, B⟩ := B
  refine z_cVV0 (ν := mX10_product) 1 rfl rfl fX10_product gX10_297 ⟨_, rfl, rfl⟩ (by decide) (zcl1.o hS 132 9 rfl rfl rfl) (Nat.le_of_ble_eq_true rfl) K3 (fun h2 q => ?_)
  obtain ⟨hSh2, B⟩ := B h2 q
  exact B
theorem cn_X10_sum {G : zG} {d : Nat} {h : zMem} {Q : zMem → Prop}  (B : zg G mX10_sum (d + 1) 0 [.ref 132, zU] [] h (zPV Q)) : zConV G mX10_sum (d + 1) [.ref 132] h Q := zcon0 (by decide +kernel) eX10_sum (Nat.le_of_ble_eq_true rfl) rfl B
set_option maxRecDepth 100000 in
set_option maxHeartbeats 4000000 in
theorem sg_X10_sum_4 {G : zG} {d : Nat} {h : zMem} {Q : zMem → Prop}  (hS : zSh2 h)  (B : ∃ Q1 : Int32 → zMem → Prop, zConI G mX10_isSign d [.ref 132, .int (43 : Int32)] h Q1 ∧ (∀ v4 h2, Q1 v4 h2 → zSh2 h2 ∧ (¬ v4 = 0 → ∃ Q6 : zMem → Prop, zConV G mX10_knot d [.ref 132] h2 Q6 ∧ (∀ h7, Q6 h7 → zSh2 h7 ∧ ∃ Q9 : zMem → Prop, zConV G mX10_goOn d [.ref 132] h7 Q9 ∧ (∀ h10, Q9 h10 → zSh2 h10 ∧ ∃ Q12 : zMem → Prop, zConV G mX10_product d [.ref 132] h10 Q12 ∧ (∀ h13, Q12 h13 → zSh2 h13 ∧ ∃ Q15 : zMem → Prop, zConV G mX10_puts d [.ref 132, .int (2 : Int32), .int (zI h2 132 24)] h13 Q15 ∧ (∀ h16, Q15 h16 → zSh2 h16 ∧ zg G mX10_sum (d + 1) 4 [.ref 132, zU] [] h16 (zPV Q)))))) ∧ (v4 = 0 → ∃ Q18 : Int32 → zMem → Prop, zConI G mX10_isSign d [.ref 132, .int (45 : Int32)] h2 Q18 ∧ (∀ v21 h19, Q18 v21 h19 → zSh2 h19 ∧ (v21 = 0 → Q h19) ∧ (¬ v21 = 0 → ∃ Q23 : zMem → Prop, zConV G mX10_knot d [.ref 132] h19 Q23 ∧ (∀ h24, Q23 h24 → zSh2 h24 ∧ ∃ Q26 : zMem → Prop, zConV G mX10_goOn d [.ref 132] h24 Q26 ∧ (∀ h27, Q26 h27 → zSh2 h27 ∧ ∃ Q29 : zMem → Prop, zConV G mX10_product d [.ref 132] h27 Q29 ∧ (∀ h30, Q29 h30 → zSh2 h30 ∧ ∃ Q32 : zMem → Prop, zConV G mX10_puts d [.ref 132, .int (2 : Int32), .int (zI h19 132 24)] h30 Q32 ∧ (∀ h33, Q32 h33 → zSh2 h33 ∧ zg G mX10_sum (d + 1) 4 [.ref 132, zU] [] h33 (zPV Q)))))))))) : zg G mX10_sum (d + 1) 4 [.ref 132, zU] [] h (zPV Q) := by
  refine z_aload_n 2 rfl rfl ?_
  refine z_bipush (v := 43) 3 rfl (by decide) ?_
  obtain ⟨Q1, K3, B⟩ := B
  refine z_cVI1 (ν := mX10_isSign) 4 rfl rfl fX10_isSign gX10_267 ⟨_, rfl, rfl⟩ (by decide) (zcl1.o hS 132 9 rfl rfl rfl) (Nat.le_of_ble_eq_true rfl) K3 (fun v4 h2 q => ?_)
  obtain ⟨hSh2, B⟩ := B v4 h2 q
  refine z_if_ne 5 22 rfl (by decide) ⟨fun c5 => ?_, fun c5 => ?_⟩
  · have B := B.1 c5
    refine z_aload_n 10 rfl rfl ?_
    refine z_getI 11 rfl lX10_189 rfl (zcl1.o hSh2 132 9 rfl rfl rfl) ?_
    refine z_istore_n 12 rfl (by decide) rfl ?_
    refine z_aload_n 13 rfl rfl ?_
    obtain ⟨Q6, K8, B⟩ := B
    refine z_cVV0 (ν := mX10_knot) 14 rfl rfl fX10_knot gX10_285 ⟨_, rfl, rfl⟩ (by decide) (zcl1.o hSh2 132 9 rfl rfl rfl) (Nat.le_of_ble_eq_true rfl) K8 (fun h7 q => ?_)
    obtain ⟨hSh7, B⟩ := B h7 q
    refine z_aload_n 15 rfl rfl ?_
    obtain ⟨Q9, K11, B⟩ := B
    refine z_cVV0 (ν := mX10_goOn) 16 rfl rfl fX10_goOn gX10_261 ⟨_, rfl, rfl⟩ (by decide) (zcl1.o hSh7 132 9 rfl rfl rfl) (Nat.le_of_ble_eq_true rfl) K11 (fun h10 q => ?_)
    obtain ⟨hSh10, B⟩ := B h10 q
    refine z_aload_n 17 rfl rfl ?_
    obtain ⟨Q12, K14, B⟩ := B
    refine z_cVV0 (ν := mX10_product) 18 rfl rfl fX10_product gX10_297 ⟨_, rfl, rfl⟩ (by decide) (zcl1.o hSh10 132 9 rfl rfl rfl) (Nat.le_of_ble_eq_true rfl) K14 (fun h13 q => ?_)
    obtain ⟨hSh13, B⟩ := B h13 q
    refine z_aload_n 19 rfl rfl ?_
    refine z_iconst (v := 2) 20 rfl (by decide) ?_
    refine z_iload_n 21 rfl rfl ?_
    obtain ⟨Q15, K17, B⟩ := B
    refine z_cVV2 (ν := mX10_puts) 22 rfl rfl fX10_puts gX10_288 ⟨_, rfl, rfl⟩ (by decide) (zcl1.o hSh13 132 9 rfl rfl rfl) (Nat.le_of_ble_eq_true rfl) K17 (fun h16 q => ?_)
    obtain ⟨hSh16, B⟩ := B h16 q
    refine z_goto 23 4 rfl (by decide) ?_
    refine z_drop 1 ?_
    exact B
  · have B := B.2 c5
    refine z_aload_n 6 rfl rfl ?_
    refine z_bipush (v := 45) 7 rfl (by decide) ?_
    obtain ⟨Q18, K20, B⟩ := B
    refine z_cVI1 (ν := mX10_isSign) 8 rfl rfl fX10_isSign gX10_267 ⟨_, rfl, rfl⟩ (by decide) (zcl1.o hSh2 132 9 rfl rfl rfl) (Nat.le_of_ble_eq_true rfl) K20 (fun v21 h19 q => ?_)
    obtain ⟨hSh19, B⟩ := B v21 h19 q
    refine z_if_eq 9 48 rfl (by decide) ⟨fun c22 => ?_, fun c22 => ?_⟩
    · have B := B.1 c22
      exact z_vret 24 rfl rfl ⟨rfl, rfl⟩ ⟨rfl, B⟩
    · have B := B.2 c22
      refine z_aload_n 10 rfl rfl ?_
      refine z_getI 11 rfl lX10_189 rfl (zcl1.o hSh19 132 9 rfl rfl rfl) ?_
      refine z_istore_n 12 rfl (by decide) rfl ?_
      refine z_aload_n 13 rfl rfl ?_
      obtain ⟨Q23, K25, B⟩ := B
      refine z_cVV0 (ν := mX10_knot) 14 rfl rfl fX10_knot gX10_285 ⟨_, rfl, rfl⟩ (by decide) (zcl1.o hSh19 132 9 rfl rfl rfl) (Nat.le_of_ble_eq_true rfl) K25 (fun h24 q => ?_)
      obtain ⟨hSh24, B⟩ := B h24 q
      refine z_aload_n 15 rfl rfl ?_
      obtain ⟨Q26, K28, B⟩ := B
      refine z_cVV0 (ν := mX10_goOn) 16 rfl rfl fX10_goOn gX10_261 ⟨_, rfl, rfl⟩ (by decide) (zcl1.o hSh24 132 9 rfl rfl rfl) (Nat.le_of_ble_eq_true rfl) K28 (fun h27 q => ?_)
      obtain ⟨hSh27, B⟩ := B h27 q
      refine z_aload_n 17 rfl rfl ?_
      obtain ⟨Q29, K31, B⟩ := B
      refine z_cVV0 (ν := mX10_product) 18 rfl rfl fX10_product gX10_297 ⟨_, rfl, rfl⟩ (by decide) (zcl1.o hSh27 132 9 rfl rfl rfl) (Nat.le_of_ble_eq_true rfl) K31 (fun h30 q => ?_)
      obtain ⟨hSh30, B⟩ := B h30 q
      refine z_aload_n 19 rfl rfl ?_
      refine z_iconst (v := 2) 20 rfl (by decide) ?_
      refine z_iload_n 21 rfl rfl ?_
      obtain ⟨Q32, K34, B⟩ := B
      refine z_cVV2 (ν := mX10_puts) 22 rfl rfl fX10_puts gX10_288 ⟨_, rfl, rfl⟩ (by decide) (zcl1.o hSh30 132 9 rfl rfl rfl) (Nat.le_of_ble_eq_true rfl) K34 (fun h33 q => ?_)
      obtain ⟨hSh33, B⟩ := B h33 q
      refine z_goto 23 4 rfl (by decide) ?_
      refine z_drop 1 ?_
      exact B
set_option maxRecDepth 100000 in
set_option maxHeartbeats 4000000 in
theorem sg_X10_product_0 {G : zG} {d : Nat} {h : zMem} {Q : zMem → Prop}  (hS : zSh2 h)  (B : ∃ Q1 : zMem → Prop, zConV G mX10_primary d [.ref 132] h Q1 ∧ (∀ h2, Q1 h2 → zSh2 h2 ∧ zg G mX10_product (d + 1) 4 [.ref 132, zU] [] h2 (zPV Q))) : zg G mX10_product (d + 1) 0 [.ref 132, zU] [] h (zPV Q) := by
  refine z_aload_n 0 rfl rfl ?_
  obtain ⟨Q1, K3, B⟩ := B
  refine z_cVV0 (ν := mX10_primary) 1 rfl rfl fX10_primary gX10_300 ⟨_, rfl, rfl⟩ (by decide) (zcl1.o hS 132 9 rfl rfl rfl) (Nat.le_of_ble_eq_true rfl) K3 (fun h2 q => ?_)
  obtain ⟨hSh2, B⟩ := B h2 q
  exact B
theorem cn_X10_product {G : zG} {d : Nat} {h : zMem} {Q : zMem → Prop}  (B : zg G mX10_product (d + 1) 0 [.ref 132, zU] [] h (zPV Q)) : zConV G mX10_product (d + 1) [.ref 132] h Q := zcon0 (by decide +kernel) eX10_product (Nat.le_of_ble_eq_true rfl) rfl B
set_option maxRecDepth 100000 in
set_option maxHeartbeats 4000000 in
theorem sg_X10_product_4 {G : zG} {d : Nat} {h : zMem} {Q : zMem → Prop}  (hS : zSh2 h)  (B : ∃ Q1 : Int32 → zMem → Prop, zConI G mX10_isSign d [.ref 132, .int (42 : Int32)] h Q1 ∧ (∀ v4 h2, Q1 v4 h2 → zSh2 h2 ∧ (¬ v4 = 0 → ∃ Q6 : zMem → Prop, zConV G mX10_knot d [.ref 132] h2 Q6 ∧ (∀ h7, Q6 h7 → zSh2 h7 ∧ ∃ Q9 : zMem → Prop, zConV G mX10_goOn d [.ref 132] h7 Q9 ∧ (∀ h10, Q9 h10 → zSh2 h10 ∧ ∃ Q12 : zMem → Prop, zConV G mX10_primary d [.ref 132] h10 Q12 ∧ (∀ h13, Q12 h13 → zSh2 h13 ∧ ∃ Q15 : zMem → Prop, zConV G mX10_puts d [.ref 132, .int (2 : Int32), .int (zI h2 132 24)] h13 Q15 ∧ (∀ h16, Q15 h16 → zSh2 h16 ∧ zg G mX10_product (d + 1) 4 [.ref 132, zU] [] h16 (zPV Q)))))) ∧ (v4 = 0 → ∃ Q18 : Int32 → zMem → Prop, zConI G mX10_isSign d [.ref 132, .int (47 : Int32)] h2 Q18 ∧ (∀ v21 h19, Q18 v21 h19 → zSh2 h19 ∧ (v21 = 0 → Q h19) ∧ (¬ v21 = 0 → ∃ Q23 : zMem → Prop, zConV G mX10_knot d [.ref 132] h19 Q23 ∧ (∀ h24, Q23 h24 → zSh2 h24 ∧ ∃ Q26 : zMem → Prop, zConV G mX10_goOn d [.ref 132] h24 Q26 ∧ (∀ h27, Q26 h27 → zSh2 h27 ∧ ∃ Q29 : zMem → Prop, zConV G mX10_primary d [.ref 132] h27 Q29 ∧ (∀ h30, Q29 h30 → zSh2 h30 ∧ ∃ Q32 : zMem → Prop, zConV G mX10_puts d [.ref 132, .int (2 : Int32), .int (zI h19 132 24)] h30 Q32 ∧ (∀ h33, Q32 h33 → zSh2 h33 ∧ zg G mX10_product (d + 1) 4 [.ref 132, zU] [] h33 (zPV Q)))))))))) : zg G mX10_product (d + 1) 4 [.ref 132, zU] [] h (zPV Q) := by
  refine z_aload_n 2 rfl rfl ?_
  refine z_bipush (v := 42) 3 rfl (by decide) ?_
  obtain ⟨Q1, K3, B⟩ := B
  refine z_cVI1 (ν := mX10_isSign) 4 rfl rfl fX10_isSign gX10_267 ⟨_, rfl, rfl⟩ (by decide) (zcl1.o hS 132 9 rfl rfl rfl) (Nat.le_of_ble_eq_true rfl) K3 (fun v4 h2 q => ?_)
  obtain ⟨hSh2, B⟩ := B v4 h2 q
  refine z_if_ne 5 22 rfl (by decide) ⟨fun c5 => ?_, fun c5 => ?_⟩
  · have B := B.1 c5
    refine z_aload_n 10 rfl rfl ?_
    refine z_getI 11 rfl lX10_189 rfl (zcl1.o hSh2 132 9 rfl rfl rfl) ?_
    refine z_istore_n 12 rfl (by decide) rfl ?_
    refine z_aload_n 13 rfl rfl ?_
    obtain ⟨Q6, K8, B⟩ := B
    refine z_cVV0 (ν := mX10_knot) 14 rfl rfl fX10_knot gX10_285 ⟨_, rfl, rfl⟩ (by decide) (zcl1.o hSh2 132 9 rfl rfl rfl) (Nat.le_of_ble_eq_true rfl) K8 (fun h7 q => ?_)
    obtain ⟨hSh7, B⟩ := B h7 q
    refine z_aload_n 15 rfl rfl ?_
    obtain ⟨Q9, K11, B⟩ := B
    refine z_cVV0 (ν := mX10_goOn) 16 rfl rfl fX10_goOn gX10_261 ⟨_, rfl, rfl⟩ (by decide) (zcl1.o hSh7 132 9 rfl rfl rfl) (Nat.le_of_ble_eq_true rfl) K11 (fun h10 q => ?_)
    obtain ⟨hSh10, B⟩ := B h10 q
    refine z_aload_n 17 rfl rfl ?_
    obtain ⟨Q12, K14, B⟩ := B
    refine z_cVV0 (ν := mX10_primary) 18 rfl rfl fX10_primary gX10_300 ⟨_, rfl, rfl⟩ (by decide) (zcl1.o hSh10 132 9 rfl rfl rfl) (Nat.le_of_ble_eq_true rfl) K14 (fun h13 q => ?_)
    obtain ⟨hSh13, B⟩ := B h13 q
    refine z_aload_n 19 rfl rfl ?_
    refine z_iconst (v := 2) 20 rfl (by decide) ?_
    refine z_iload_n 21 rfl rfl ?_
    obtain ⟨Q15, K17, B⟩ := B
    refine z_cVV2 (ν := mX10_puts) 22 rfl rfl fX10_puts gX10_288 ⟨_, rfl, rfl⟩ (by decide) (zcl1.o hSh13 132 9 rfl rfl rfl) (Nat.le_of_ble_eq_true rfl) K17 (fun h16 q => ?_)
    obtain ⟨hSh16, B⟩ := B h16 q
    refine z_goto 23 4 rfl (by decide) ?_
    refine z_drop 1 ?_
    exact B
  · have B := B.2 c5
    refine z_aload_n 6 rfl rfl ?_
    refine z_bipush (v := 47) 7 rfl (by decide) ?_
    obtain ⟨Q18, K20, B⟩ := B
    refine z_cVI1 (ν := mX10_isSign) 8 rfl rfl fX10_isSign gX10_267 ⟨_, rfl, rfl⟩ (by decide) (zcl1.o hSh2 132 9 rfl rfl rfl) (Nat.le_of_ble_eq_true rfl) K20 (fun v21 h19 q => ?_)
    obtain ⟨hSh19, B⟩ := B v21 h19 q
    refine z_if_eq 9 48 rfl (by decide) ⟨fun c22 => ?_, fun c22 => ?_⟩
    · have B := B.1 c22
      exact z_vret 24 rfl rfl ⟨rfl, rfl⟩ ⟨rfl, B⟩
    · have B := B.2 c22
      refine z_aload_n 10 rfl rfl ?_
      refine z_getI 11 rfl lX10_189 rfl (zcl1.o hSh19 132 9 rfl rfl rfl) ?_
      refine z_istore_n 12 rfl (by decide) rfl ?_
      refine z_aload_n 13 rfl rfl ?_
      obtain ⟨Q23, K25, B⟩ := B
      refine z_cVV0 (ν := mX10_knot) 14 rfl rfl fX10_knot gX10_285 ⟨_, rfl, rfl⟩ (by decide) (zcl1.o hSh19 132 9 rfl rfl rfl) (Nat.le_of_ble_eq_true rfl) K25 (fun h24 q => ?_)
      obtain ⟨hSh24, B⟩ := B h24 q
      refine z_aload_n 15 rfl rfl ?_
      obtain ⟨Q26, K28, B⟩ := B
      refine z_cVV0 (ν := mX10_goOn) 16 rfl rfl fX10_goOn gX10_261 ⟨_, rfl, rfl⟩ (by decide) (zcl1.o hSh24 132 9 rfl rfl rfl) (Nat.le_of_ble_eq_true rfl) K28 (fun h27 q => ?_)
      obtain ⟨hSh27, B⟩ := B h27 q
      refine z_aload_n 17 rfl rfl ?_
      obtain ⟨Q29, K31, B⟩ := B
      refine z_cVV0 (ν := mX10_primary) 18 rfl rfl fX10_primary gX10_300 ⟨_, rfl, rfl⟩ (by decide) (zcl1.o hSh27 132 9 rfl rfl rfl) (Nat.le_of_ble_eq_true rfl) K31 (fun h30 q => ?_)
      obtain ⟨hSh30, B⟩ := B h30 q
      refine z_aload_n 19 rfl rfl ?_
      refine z_iconst (v := 2) 20 rfl (by decide) ?_
      refine z_iload_n 21 rfl rfl ?_
      obtain ⟨Q32, K34, B⟩ := B
      refine z_cVV2 (ν := mX10_puts) 22 rfl rfl fX10_puts gX10_288 ⟨_, rfl, rfl⟩ (by decide) (zcl1.o hSh30 132 9 rfl rfl rfl) (Nat.le_of_ble_eq_true rfl) K34 (fun h33 q => ?_)
      obtain ⟨hSh33, B⟩ := B h33 q
      refine z_goto 23 4 rfl (by decide) ?_
      refine z_drop 1 ?_
      exact B
set_option maxRecDepth 100000 in
set_option maxHeartbeats 4000000 in
theorem sg_X10_primary_0 {G : zG} {d : Nat} {h : zMem} {Q : zMem → Prop}  (hS : zSh2 h)  (B : ((zI h 132 25) = 0 → ∃ Q2 : Int32 → zMem → Prop, zConI G mX10_isSign d [.ref 132, .int (40 : Int32)] h Q2 ∧ (∀ v5 h3, Q2 v5 h3 → zSh2 h3 ∧ (v5 = 0 → (¬ (zI h3 132 23) = (2 : Int32) → ((0 : Int32) = 0 → (¬ (0 : Int32) = 0 → zg G mX10_primary (d + 1) 162 [.ref 132, .int (0 : Int32)] [] h3 (zPV Q)) ∧ ((0 : Int32) = 0 → (¬ (zI h3 132 23) = 0 → ∃ Q11 : zMem → Prop, zConV G mX10_wrong d [.ref 132, .int (1 : Int32)] h3 Q11 ∧ (∀ h12, Q11 h12 → zSh2 h12 ∧ zg G mX10_primary (d + 1) 162 [.ref 132, .int (0 : Int32)] [] h12 (zPV Q))) ∧ ((zI h3 132 23) = 0 → ((15 : Int32) ≤ (zI h3 132 24) → zg G mX10_primary (d + 1) 162 [.ref 132, .int (0 : Int32)] [] h3 (zPV Q)) ∧ (¬ (15 : Int32) ≤ (zI h3 132 24) → ∃ Q15 : zMem → Prop, zConV G mX10_wrong d [.ref 132, .int (1 : Int32)] h3 Q15 ∧ (∀ h16, Q15 h16 → zSh2 h16 ∧ zg G mX10_primary (d + 1) 162 [.ref 132, .int (0 : Int32)] [] h16 (zPV Q)))))) ∧ (¬ (0 : Int32) = 0 → ((zI h3 132 24) ≤ (9999 : Int32) → (¬ (0 : Int32) = 0 → zg G mX10_primary (d + 1) 162 [.ref 132, .int (0 : Int32)] [] h3 (zPV Q)) ∧ ((0 : Int32) = 0 → (¬ (zI h3 132 23) = 0 → ∃ Q21 : zMem → Prop, zConV G mX10_wrong d [.ref 132, .int (1 : Int32)] h3 Q21 ∧ (∀ h22, Q21 h22 → zSh2 h22 ∧ zg G mX10_primary (d + 1) 162 [.ref 132, .int (0 : Int32)] [] h22 (zPV Q))) ∧ ((zI h3 132 23) = 0 → ((15 : Int32) ≤ (zI h3 132 24) → zg G mX10_primary (d + 1) 162 [.ref 132, .int (0 : Int32)] [] h3 (zPV Q)) ∧ (¬ (15 : Int32) ≤ (zI h3 132 24) → ∃ Q25 : zMem → Prop, zConV G mX10_wrong d [.ref 132, .int (1 : Int32)] h3 Q25 ∧ (∀ h26, Q25 h26 → zSh2 h26 ∧ zg G mX10_primary (d + 1) 162 [.ref 132, .int (0 : Int32)] [] h26 (zPV Q)))))) ∧ (¬ (zI h3 132 24) ≤ (9999 : Int32) → ∃ Q28 : zMem → Prop, zConV G mX10_wrong d [.ref 132, .int (2 : Int32)] h3 Q28 ∧ (∀ h29, Q28 h29 → zSh2 h29 ∧ zg G mX10_primary (d + 1) 162 [.ref 132, .int (0 : Int32)] [] h29 (zPV Q))))) ∧ ((zI h3 132 23) = (2 : Int32) → ((1 : Int32) = 0 → (¬ (1 : Int32) = 0 → zg G mX10_primary (d + 1) 162 [.ref 132, .int (1 : Int32)] [] h3 (zPV Q)) ∧ ((1 : Int32) = 0 → (¬ (zI h3 132 23) = 0 → ∃ Q34 : zMem → Prop, zConV G mX10_wrong d [.ref 132, .int (1 : Int32)] h3 Q34 ∧ (∀ h35, Q34 h35 → zSh2 h35 ∧ zg G mX10_primary (d + 1) 162 [.ref 132, .int (1 : Int32)] [] h35 (zPV Q))) ∧ ((zI h3 132 23) = 0 → ((15 : Int32) ≤ (zI h3 132 24) → zg G mX10_primary (d + 1) 162 [.ref 132, .int (1 : Int32)] [] h3 (zPV Q)) ∧ (¬ (15 : Int32) ≤ (zI h3 132 24) → ∃ Q38 : zMem → Prop, zConV G mX10_wrong d [.ref 132, .int (1 : Int32)] h3 Q38 ∧ (∀ h39, Q38 h39 → zSh2 h39 ∧ zg G mX10_primary (d + 1) 162 [.ref 132, .int (1 : Int32)] [] h39 (zPV Q)))))) ∧ (¬ (1 : Int32) = 0 → ((zI h3 132 24) ≤ (9999 : Int32) → (¬ (1 : Int32) = 0 → zg G mX10_primary (d + 1) 162 [.ref 132, .int (1 : Int32)] [] h3 (zPV Q)) ∧ ((1 : Int32) = 0 → (¬ (zI h3 132 23) = 0 → ∃ Q44 : zMem → Prop, zConV G mX10_wrong d [.ref 132, .int (1 : Int32)] h3 Q44 ∧ (∀ h45, Q44 h45 → zSh2 h45 ∧ zg G mX10_primary (d + 1) 162 [.ref 132, .int (1 : Int32)] [] h45 (zPV Q))) ∧ ((zI h3 132 23) = 0 → ((15 : Int32) ≤ (zI h3 132 24) → zg G mX10_primary (d + 1) 162 [.ref 132, .int (1 : Int32)] [] h3 (zPV Q)) ∧ (¬ (15 : Int32) ≤ (zI h3 132 24) → ∃ Q48 : zMem → Prop, zConV G mX10_wrong d [.ref 132, .int (1 : Int32)] h3 Q48 ∧ (∀ h49, Q48 h49 → zSh2 h49 ∧ zg G mX10_primary (d + 1) 162 [.ref 132, .int (1 : Int32)] [] h49 (zPV Q)))))) ∧ (¬ (zI h3 132 24) ≤ (9999 : Int32) → ∃ Q51 : zMem → Prop, zConV G mX10_wrong d [.ref 132, .int (2 : Int32)] h3 Q51 ∧ (∀ h52, Q51 h52 → zSh2 h52 ∧ zg G mX10_primary (d + 1) 162 [.ref 132, .int (1 : Int32)] [] h52 (zPV Q)))))) ∧ (¬ v5 = 0 → (¬ (zI h3 132 29) = (8 : Int32) → ((zI h3 132 25) = 0 → ∃ Q56 : zMem → Prop, zConV G mX10_token d [.ref 132] (zsI h3 132 29 ((zI h3 132 29) + (1 : Int32))) Q56 ∧ (∀ h57, Q56 h57 → zSh2 h57 ∧ ∃ Q59 : zMem → Prop, zConV G mX10_expression d [.ref 132] h57 Q59 ∧ (∀ h60, Q59 h60 → zSh2 h60 ∧ (¬ (zI h60 132 25) = 0 → zg G mX10_primary (d + 1) 78 [.ref 132, zU] [] h60 (zPV Q)) ∧ ((zI h60 132 25) = 0 → ∃ Q63 : Int32 → zMem → Prop, zConI G mX10_isSign d [.ref 132, .int (41 : Int32)] h60 Q63 ∧ (∀ v66 h64, Q63 v66 h64 → zSh2 h64 ∧ (¬ v66 = 0 → zg G mX10_primary (d + 1) 78 [.ref 132, zU] [] h64 (zPV Q)) ∧ (v66 = 0 → ∃ Q68 : zMem → Prop, zConV G mX10_wrong d [.ref 132, .int (1 : Int32)] h64 Q68 ∧ (∀ h69, Q68 h69 → zSh2 h69 ∧ zg G mX10_primary (d + 1) 78 [.ref 132, zU] [] h69 (zPV Q)))))))) ∧ (¬ (zI h3 132 25) = 0 → Q h3)) ∧ ((zI h3 132 29) = (8 : Int32) → ∃ Q71 : zMem → Prop, zConV G mX10_wrong d [.ref 132, .int (2 : Int32)] h3 Q71 ∧ (∀ h72, Q71 h72 → zSh2 h72 ∧ ((zI h72 132 25) = 0 → ∃ Q75 : zMem → Prop, zConV G mX10_token d [.ref 132] (zsI h72 132 29 ((zI h72 132 29) + (1 : Int32))) Q75 ∧ (∀ h76, Q75 h76 → zSh2 h76 ∧ ∃ Q78 : zMem → Prop, zConV G mX10_expression d [.ref 132] h76 Q78 ∧ (∀ h79, Q78 h79 → zSh2 h79 ∧ (¬ (zI h79 132 25) = 0 → zg G mX10_primary (d + 1) 78 [.ref 132, zU] [] h79 (zPV Q)) ∧ ((zI h79 132 25) = 0 → ∃ Q82 : Int32 → zMem → Prop, zConI G mX10_isSign d [.ref 132, .int (41 : Int32)] h79 Q82 ∧ (∀ v85 h83, Q82 v85 h83 → zSh2 h83 ∧ (¬ v85 = 0 → zg G mX10_primary (d + 1) 78 [.ref 132, zU] [] h83 (zPV Q)) ∧ (v85 = 0 → ∃ Q87 : zMem → Prop, zConV G mX10_wrong d [.ref 132, .int (1 : Int32)] h83 Q87 ∧ (∀ h88, Q87 h88 → zSh2 h88 ∧ zg G mX10_primary (d + 1) 78 [.ref 132, zU] [] h88 (zPV Q)))))))) ∧ (¬ (zI h72 132 25) = 0 → Q h72)))))) ∧ (¬ (zI h 132 25) = 0 → Q h)) : zg G mX10_primary (d + 1) 0 [.ref 132, zU] [] h (zPV Q) := by
  refine z_aload_n 0 rfl rfl ?_
  refine z_getI 1 rfl lX10_214 rfl (zcl1.o hS 132 9 rfl rfl rfl) ?_
  refine z_if_eq 2 8 rfl (by decide) ⟨fun c1 => ?_, fun c1 => ?_⟩
  · have B := B.1 c1
    refine z_aload_n 4 rfl rfl ?_
    refine z_bipush (v := 40) 5 rfl (by decide) ?_
    obtain ⟨Q2, K4, B⟩ := B
    refine z_cVI1 (ν := mX10_isSign) 6 rfl rfl fX10_isSign gX10_267 ⟨_, rfl, rfl⟩ (by decide) (zcl1.o hS 132 9 rfl rfl rfl) (Nat.le_of_ble_eq_true rfl) K4 (fun v5 h3 q => ?_)
    obtain ⟨hSh3, B⟩ := B v5 h3 q
    refine z_if_eq 7 101 rfl (by decide) ⟨fun c6 => ?_, fun c6 => ?_⟩
    · have B := B.1 c6
      refine z_aload_n 52 rfl rfl ?_
      refine z_getI 53 rfl lX10_179 rfl (zcl1.o hSh3 132 9 rfl rfl rfl) ?_
      refine z_iconst (v := 2) 54 rfl (by decide) ?_
      refine z_icmp_ne 55 113 rfl (by decide) ⟨fun c7 => ?_, fun c7 => ?_⟩
      · have B := B.1 c7
        refine z_iconst (v := 0) 58 rfl (by decide) ?_
        refine z_istore_n 59 rfl (by decide) rfl ?_
        refine z_iload_n 60 rfl rfl ?_
        refine z_if_eq 61 137 rfl (by decide) ⟨fun c8 => ?_, fun c8 => ?_⟩
        · have B := B.1 c8
          refine z_iload_n 70 rfl rfl ?_
          refine z_if_ne 71 162 rfl (by decide) ⟨fun c9 => ?_, fun c9 => ?_⟩
          · have B := B.1 c9
            exact B
          · have B := B.2 c9
            refine z_aload_n 72 rfl rfl ?_
            refine z_getI 73 rfl lX10_179 rfl (zcl1.o hSh3 132 9 rfl rfl rfl) ?_
            refine z_if_ne 74 157 rfl (by decide) ⟨fun c10 => ?_, fun c10 => ?_⟩
            · have B := B.1 c10
              refine z_aload_n 79 rfl rfl ?_
              refine z_iconst (v := 1) 80 rfl (by decide) ?_
              obtain ⟨Q11, K13, B⟩ := B
              refine z_cVV1 (ν := mX10_wrong) 81 rfl rfl fX10_wrong gX10_223 ⟨_, rfl, rfl⟩ (by decide) (zcl1.o hSh3 132 9 rfl rfl rfl) (Nat.le_of_ble_eq_true rfl) K13 (fun h12 q => ?_)
              obtain ⟨hSh12, B⟩ := B h12 q
              exact B
            · have B := B.2 c10
              refine z_aload_n 75 rfl rfl ?_
              refine z_getI 76 rfl lX10_189 rfl (zcl1.o hSh3 132 9 rfl rfl rfl) ?_
              refine z_bipush (v := 15) 77 rfl (by decide) ?_
              refine z_icmp_ge 78 162 rfl (by decide) ⟨fun c14 => ?_, fun c14 => ?_⟩
              · have B := B.1 c14
                exact B
              · have B := B.2 c14
                refine z_aload_n 79 rfl rfl ?_
                refine z_iconst (v := 1) 80 rfl (by decide) ?_
                obtain ⟨Q15, K17, B⟩ := B
                refine z_cVV1 (ν := mX10_wrong) 81 rfl rfl fX10_wrong gX10_223 ⟨_, rfl, rfl⟩ (by decide) (zcl1.o hSh3 132 9 rfl rfl rfl) (Nat.le_of_ble_eq_true rfl) K17 (fun h16 q => ?_)
                obtain ⟨hSh16, B⟩ := B h16 q
                exact B
        · have B := B.2 c8
          refine z_aload_n 62 rfl rfl ?_
          refine z_getI 63 rfl lX10_189 rfl (zcl1.o hSh3 132 9 rfl rfl rfl) ?_
          refine z_sipush (v := 9999) 64 rfl (by decide) ?_
          refine z_icmp_le 65 137 rfl (by decide) ⟨fun c18 => ?_, fun c18 => ?_⟩
          · have B := B.1 c18
            refine z_iload_n 70 rfl rfl ?_
            refine z_if_ne 71 162 rfl (by decide) ⟨fun c19 => ?_, fun c19 => ?_⟩
            · have B := B.1 c19
              exact B
            · have B := B.2 c19
              refine z_aload_n 72 rfl rfl ?_
              refine z_getI 73 rfl lX10_179 rfl (zcl1.o hSh3 132 9 rfl rfl rfl) ?_
              refine z_if_ne 74 157 rfl (by decide) ⟨fun c20 => ?_, fun c20 => ?_⟩
              · have B := B.1 c20
                refine z_aload_n 79 rfl rfl ?_
                refine z_iconst (v := 1) 80 rfl (by decide) ?_
                obtain ⟨Q21, K23, B⟩ := B
                refine z_cVV1 (ν := mX10_wrong) 81 rfl rfl fX10_wrong gX10_223 ⟨_, rfl, rfl⟩ (by decide) (zcl1.o hSh3 132 9 rfl rfl rfl) (Nat.le_of_ble_eq_true rfl) K23 (fun h22 q => ?_)
                obtain ⟨hSh22, B⟩ := B h22 q
                exact B
              · have B := B.2 c20
                refine z_aload_n 75 rfl rfl ?_
                refine z_getI 76 rfl lX10_189 rfl (zcl1.o hSh3 132 9 rfl rfl rfl) ?_
                refine z_bipush (v := 15) 77 rfl (by decide) ?_
                refine z_icmp_ge 78 162 rfl (by decide) ⟨fun c24 => ?_, fun c24 => ?_⟩
                · have B := B.1 c24
                  exact B
                · have B := B.2 c24
                  refine z_aload_n 79 rfl rfl ?_
                  refine z_iconst (v := 1) 80 rfl (by decide) ?_
                  obtain ⟨Q25, K27, B⟩ := B
                  refine z_cVV1 (ν := mX10_wrong) 81 rfl rfl fX10_wrong gX10_223 ⟨_, rfl, rfl⟩ (by decide) (zcl1.o hSh3 132 9 rfl rfl rfl) (Nat.le_of_ble_eq_true rfl) K27 (fun h26 q => ?_)
                  obtain ⟨hSh26, B⟩ := B h26 q
                  exact B
          · have B := B.2 c18
            refine z_aload_n 66 rfl rfl ?_
            refine z_iconst (v := 2) 67 rfl (by decide) ?_
            obtain ⟨Q28, K30, B⟩ := B
            refine z_cVV1 (ν := mX10_wrong) 68 rfl rfl fX10_wrong gX10_223 ⟨_, rfl, rfl⟩ (by decide) (zcl1.o hSh3 132 9 rfl rfl rfl) (Nat.le_of_ble_eq_true rfl) K30 (fun h29 q => ?_)
            obtain ⟨hSh29, B⟩ := B h29 q
            refine z_goto 69 162 rfl (by decide) ?_
            exact B
      · have B := B.2 c7
        refine z_iconst (v := 1) 56 rfl (by decide) ?_
        refine z_goto 57 114 rfl (by decide) ?_
        refine z_istore_n 59 rfl (by decide) rfl ?_
        refine z_iload_n 60 rfl rfl ?_
        refine z_if_eq 61 137 rfl (by decide) ⟨fun c31 => ?_, fun c31 => ?_⟩
        · have B := B.1 c31
          refine z_iload_n 70 rfl rfl ?_
          refine z_if_ne 71 162 rfl (by decide) ⟨fun c32 => ?_, fun c32 => ?_⟩
          · have B := B.1 c32
            exact B
          · have B := B.2 c32
            refine z_aload_n 72 rfl rfl ?_
            refine z_getI 73 rfl lX10_179 rfl (zcl1.o hSh3 132 9 rfl rfl rfl) ?_
            refine z_if_ne 74 157 rfl (by decide) ⟨fun c33 => ?_, fun c33 => ?_⟩
            · have B := B.1 c33
              refine z_aload_n 79 rfl rfl ?_
              refine z_iconst (v := 1) 80 rfl (by decide) ?_
              obtain ⟨Q34, K36, B⟩ := B
              refine z_cVV1 (ν := mX10_wrong) 81 rfl rfl fX10_wrong gX10_223 ⟨_, rfl, rfl⟩ (by decide) (zcl1.o hSh3 132 9 rfl rfl rfl) (Nat.le_of_ble_eq_true rfl) K36 (fun h35 q => ?_)
              obtain ⟨hSh35, B⟩ := B h35 q
              exact B
            · have B := B.2 c33
              refine z_aload_n 75 rfl rfl ?_
              refine z_getI 76 rfl lX10_189 rfl (zcl1.o hSh3 132 9 rfl rfl rfl) ?_
              refine z_bipush (v := 15) 77 rfl (by decide) ?_
              refine z_icmp_ge 78 162 rfl (by decide) ⟨fun c37 => ?_, fun c37 => ?_⟩
              · have B := B.1 c37
                exact B
              · have B := B.2 c37
                refine z_aload_n 79 rfl rfl ?_
                refine z_iconst (v := 1) 80 rfl (by decide) ?_
                obtain ⟨Q38, K40, B⟩ := B
                refine z_cVV1 (ν := mX10_wrong) 81 rfl rfl fX10_wrong gX10_223 ⟨_, rfl, rfl⟩ (by decide) (zcl1.o hSh3 132 9 rfl rfl rfl) (Nat.le_of_ble_eq_true rfl) K40 (fun h39 q => ?_)
                obtain ⟨hSh39, B⟩ := B h39 q
                exact B
        · have B := B.2 c31
          refine z_aload_n 62 rfl rfl ?_
          refine z_getI 63 rfl lX10_189 rfl (zcl1.o hSh3 132 9 rfl rfl rfl) ?_
          refine z_sipush (v := 9999) 64 rfl (by decide) ?_
          refine z_icmp_le 65 137 rfl (by decide) ⟨fun c41 => ?_, fun c41 => ?_⟩
          · have B := B.1 c41
            refine z_iload_n 70 rfl rfl ?_
            refine z_if_ne 71 162 rfl (by decide) ⟨fun c42 => ?_, fun c42 => ?_⟩
            · have B := B.1 c42
              exact B
            · have B := B.2 c42
              refine z_aload_n 72 rfl rfl ?_
              refine z_getI 73 rfl lX10_179 rfl (zcl1.o hSh3 132 9 rfl rfl rfl) ?_
              refine z_if_ne 74 157 rfl (by decide) ⟨fun c43 => ?_, fun c43 => ?_⟩
              · have B := B.1 c43
                refine z_aload_n 79 rfl rfl ?_
                refine z_iconst (v := 1) 80 rfl (by decide) ?_
                obtain ⟨Q44, K46, B⟩ := B
                refine z_cVV1 (ν := mX10_wrong) 81 rfl rfl fX10_wrong gX10_223 ⟨_, rfl, rfl⟩ (by decide) (zcl1.o hSh3 132 9 rfl rfl rfl) (Nat.le_of_ble_eq_true rfl) K46 (fun h45 q => ?_)
                obtain ⟨hSh45, B⟩ := B h45 q
                exact B
              · have B := B.2 c43
                refine z_aload_n 75 rfl rfl ?_
                refine z_getI 76 rfl lX10_189 rfl (zcl1.o hSh3 132 9 rfl rfl rfl) ?_
                refine z_bipush (v := 15) 77 rfl (by decide) ?_
                refine z_icmp_ge 78 162 rfl (by decide) ⟨fun c47 => ?_, fun c47 => ?_⟩
                · have B := B.1 c47
                  exact B
                · have B := B.2 c47
                  refine z_aload_n 79 rfl rfl ?_
                  refine z_iconst (v := 1) 80 rfl (by decide) ?_
                  obtain ⟨Q48, K50, B⟩ := B
                  refine z_cVV1 (ν := mX10_wrong) 81 rfl rfl fX10_wrong gX10_223 ⟨_, rfl, rfl⟩ (by decide) (zcl1.o hSh3 132 9 rfl rfl rfl) (Nat.le_of_ble_eq_true rfl) K50 (fun h49 q => ?_)
                  obtain ⟨hSh49, B⟩ := B h49 q
                  exact B
          · have B := B.2 c41
            refine z_aload_n 66 rfl rfl ?_
            refine z_iconst (v := 2) 67 rfl (by decide) ?_
            obtain ⟨Q51, K53, B⟩ := B
            refine z_cVV1 (ν := mX10_wrong) 68 rfl rfl fX10_wrong gX10_223 ⟨_, rfl, rfl⟩ (by decide) (zcl1.o hSh3 132 9 rfl rfl rfl) (Nat.le_of_ble_eq_true rfl) K53 (fun h52 q => ?_)
            obtain ⟨hSh52, B⟩ := B h52 q
            refine z_goto 69 162 rfl (by decide) ?_
            exact B
    · have B := B.2 c6
      refine z_aload_n 8 rfl rfl ?_
      refine z_getI 9 rfl lX10_303 rfl (zcl1.o hSh3 132 9 rfl rfl rfl) ?_
      refine z_bipush (v := 8) 10 rfl (by decide) ?_
      refine z_icmp_ne 11 31 rfl (by decide) ⟨fun c54 => ?_, fun c54 => ?_⟩
      · have B := B.1 c54
        refine z_aload_n 15 rfl rfl ?_
        refine z_getI 16 rfl lX10_214 rfl (zcl1.o hSh3 132 9 rfl rfl rfl) ?_
        refine z_if_eq 17 39 rfl (by decide) ⟨fun c55 => ?_, fun c55 => ?_⟩
        · have B := B.1 c55
          refine z_aload_n 19 rfl rfl ?_
          refine z_dup 20 rfl rfl ?_
          refine z_getI 21 rfl lX10_303 rfl (zcl1.o hSh3 132 9 rfl rfl rfl) ?_
          refine z_iconst (v := 1) 22 rfl (by decide) ?_
          refine z_iadd 23 rfl ?_
          refine z_putI 24 rfl lX10_303 ⟨_, _, _, rfl, rfl⟩ rfl rfl rfl (zcl1.o hSh3 132 9 rfl rfl rfl) ?_
          refine z_aload_n 25 rfl rfl ?_
          obtain ⟨Q56, K58, B⟩ := B
          refine z_cVV0 (ν := mX10_token) 26 rfl rfl fX10_token gX10_220 ⟨_, rfl, rfl⟩ (by decide) (zcl1.o hSh3 132 9 rfl rfl rfl) (Nat.le_of_ble_eq_true rfl) K58 (fun h57 q => ?_)
          obtain ⟨hSh57, B⟩ := B h57 q
          refine z_aload_n 27 rfl rfl ?_
          obtain ⟨Q59, K61, B⟩ := B
          refine z_cVV0 (ν := mX10_expression) 28 rfl rfl fX10_expression gX10_276 ⟨_, rfl, rfl⟩ (by decide) (zcl1.o hSh57 132 9 rfl rfl rfl) (Nat.le_of_ble_eq_true rfl) K61 (fun h60 q => ?_)
          obtain ⟨hSh60, B⟩ := B h60 q
          refine z_aload_n 29 rfl rfl ?_
          refine z_getI 30 rfl lX10_214 rfl (zcl1.o hSh60 132 9 rfl rfl rfl) ?_
          refine z_if_ne 31 78 rfl (by decide) ⟨fun c62 => ?_, fun c62 => ?_⟩
          · have B := B.1 c62
            exact B
          · have B := B.2 c62
            refine z_aload_n 32 rfl rfl ?_
            refine z_bipush (v := 41) 33 rfl (by decide) ?_
            obtain ⟨Q63, K65, B⟩ := B
            refine z_cVI1 (ν := mX10_isSign) 34 rfl rfl fX10_isSign gX10_267 ⟨_, rfl, rfl⟩ (by decide) (zcl1.o hSh60 132 9 rfl rfl rfl) (Nat.le_of_ble_eq_true rfl) K65 (fun v66 h64 q => ?_)
            obtain ⟨hSh64, B⟩ := B v66 h64 q
            refine z_if_ne 35 78 rfl (by decide) ⟨fun c67 => ?_, fun c67 => ?_⟩
            · have B := B.1 c67
              exact B
            · have B := B.2 c67
              refine z_aload_n 36 rfl rfl ?_
              refine z_iconst (v := 1) 37 rfl (by decide) ?_
              obtain ⟨Q68, K70, B⟩ := B
              refine z_cVV1 (ν := mX10_wrong) 38 rfl rfl fX10_wrong gX10_223 ⟨_, rfl, rfl⟩ (by decide) (zcl1.o hSh64 132 9 rfl rfl rfl) (Nat.le_of_ble_eq_true rfl) K70 (fun h69 q => ?_)
              obtain ⟨hSh69, B⟩ := B h69 q
              exact B
        · have B := B.2 c55
          exact z_vret 18 rfl rfl ⟨rfl, rfl⟩ ⟨rfl, B⟩
      · have B := B.2 c54
        refine z_aload_n 12 rfl rfl ?_
        refine z_iconst (v := 2) 13 rfl (by decide) ?_
        obtain ⟨Q71, K73, B⟩ := B
        refine z_cVV1 (ν := mX10_wrong) 14 rfl rfl fX10_wrong gX10_223 ⟨_, rfl, rfl⟩ (by decide) (zcl1.o hSh3 132 9 rfl rfl rfl) (Nat.le_of_ble_eq_true rfl) K73 (fun h72 q => ?_)
        obtain ⟨hSh72, B⟩ := B h72 q
        refine z_aload_n 15 rfl rfl ?_
        refine z_getI 16 rfl lX10_214 rfl (zcl1.o hSh72 132 9 rfl rfl rfl) ?_
        refine z_if_eq 17 39 rfl (by decide) ⟨fun c74 => ?_, fun c74 => ?_⟩
        · have B := B.1 c74
          refine z_aload_n 19 rfl rfl ?_
          refine z_dup 20 rfl rfl ?_
          refine z_getI 21 rfl lX10_303 rfl (zcl1.o hSh72 132 9 rfl rfl rfl) ?_
          refine z_iconst (v := 1) 22 rfl (by decide) ?_
          refine z_iadd 23 rfl ?_
          refine z_putI 24 rfl lX10_303 ⟨_, _, _, rfl, rfl⟩ rfl rfl rfl (zcl1.o hSh72 132 9 rfl rfl rfl) ?_
          refine z_aload_n 25 rfl rfl ?_
          obtain ⟨Q75, K77, B⟩ := B
          refine z_cVV0 (ν := mX10_token) 26 rfl rfl fX10_token gX10_220 ⟨_, rfl, rfl⟩ (by decide) (zcl1.o hSh72 132 9 rfl rfl rfl) (Nat.le_of_ble_eq_true rfl) K77 (fun h76 q => ?_)
          obtain ⟨hSh76, B⟩ := B h76 q
          refine z_aload_n 27 rfl rfl ?_
          obtain ⟨Q78, K80, B⟩ := B
          refine z_cVV0 (ν := mX10_expression) 28 rfl rfl fX10_expression gX10_276 ⟨_, rfl, rfl⟩ (by decide) (zcl1.o hSh76 132 9 rfl rfl rfl) (Nat.le_of_ble_eq_true rfl) K80 (fun h79 q => ?_)
          obtain ⟨hSh79, B⟩ := B h79 q
          refine z_aload_n 29 rfl rfl ?_
          refine z_getI 30 rfl lX10_214 rfl (zcl1.o hSh79 132 9 rfl rfl rfl) ?_
          refine z_if_ne 31 78 rfl (by decide) ⟨fun c81 => ?_, fun c81 => ?_⟩
          · have B := B.1 c81
            exact B
          · have B := B.2 c81
            refine z_aload_n 32 rfl rfl ?_
            refine z_bipush (v := 41) 33 rfl (by decide) ?_
            obtain ⟨Q82, K84, B⟩ := B
            refine z_cVI1 (ν := mX10_isSign) 34 rfl rfl fX10_isSign gX10_267 ⟨_, rfl, rfl⟩ (by decide) (zcl1.o hSh79 132 9 rfl rfl rfl) (Nat.le_of_ble_eq_true rfl) K84 (fun v85 h83 q => ?_)
            obtain ⟨hSh83, B⟩ := B v85 h83 q
            refine z_if_ne 35 78 rfl (by decide) ⟨fun c86 => ?_, fun c86 => ?_⟩
            · have B := B.1 c86
              exact B
            · have B := B.2 c86
              refine z_aload_n 36 rfl rfl ?_
              refine z_iconst (v := 1) 37 rfl (by decide) ?_
              obtain ⟨Q87, K89, B⟩ := B
              refine z_cVV1 (ν := mX10_wrong) 38 rfl rfl fX10_wrong gX10_223 ⟨_, rfl, rfl⟩ (by decide) (zcl1.o hSh83 132 9 rfl rfl rfl) (Nat.le_of_ble_eq_true rfl) K89 (fun h88 q => ?_)
              obtain ⟨hSh88, B⟩ := B h88 q
              exact B
        · have B := B.2 c74
          exact z_vret 18 rfl rfl ⟨rfl, rfl⟩ ⟨rfl, B⟩
  · have B := B.2 c1
    exact z_vret 3 rfl rfl ⟨rfl, rfl⟩ ⟨rfl, B⟩
theorem cn_X10_primary {G : zG} {d : Nat} {h : zMem} {Q : zMem → Prop}  (B : zg G mX10_primary (d + 1) 0 [.ref 132, zU] [] h (zPV Q)) : zConV G mX10_primary (d + 1) [.ref 132] h Q := zcon0 (by decide +kernel) eX10_primary (Nat.le_of_ble_eq_true rfl) rfl B
set_option maxRecDepth 100000 in
set_option maxHeartbeats 4000000 in
theorem sg_X10_primary_78 {G : zG} {d : Nat} {h : zMem} {Q : zMem → Prop}  (hS : zSh2 h)  (B : ((zI h 132 25) = 0 → ∃ Q2 : zMem → Prop, zConV G mX10_token d [.ref 132] (zsI h 132 29 ((zI h 132 29) - (1 : Int32))) Q2 ∧ (∀ h3, Q2 h3 → zSh2 h3 ∧ Q h3)) ∧ (¬ (zI h 132 25) = 0 → Q h)) : zg G mX10_primary (d + 1) 78 [.ref 132, zU] [] h (zPV Q) := by
  refine z_aload_n 39 rfl rfl ?_
  refine z_getI 40 rfl lX10_214 rfl (zcl1.o hS 132 9 rfl rfl rfl) ?_
  refine z_if_eq 41 86 rfl (by decide) ⟨fun c1 => ?_, fun c1 => ?_⟩
  · have B := B.1 c1
    refine z_aload_n 43 rfl rfl ?_
    refine z_dup 44 rfl rfl ?_
    refine z_getI 45 rfl lX10_303 rfl (zcl1.o hS 132 9 rfl rfl rfl) ?_
    refine z_iconst (v := 1) 46 rfl (by decide) ?_
    refine z_isub 47 rfl ?_
    refine z_putI 48 rfl lX10_303 ⟨_, _, _, rfl, rfl⟩ rfl rfl rfl (zcl1.o hS 132 9 rfl rfl rfl) ?_
    refine z_aload_n 49 rfl rfl ?_
    obtain ⟨Q2, K4, B⟩ := B
    refine z_cVV0 (ν := mX10_token) 50 rfl rfl fX10_token gX10_220 ⟨_, rfl, rfl⟩ (by decide) (zcl1.o hS 132 9 rfl rfl rfl) (Nat.le_of_ble_eq_true rfl) K4 (fun h3 q => ?_)
    obtain ⟨hSh3, B⟩ := B h3 q
    exact z_vret 51 rfl rfl ⟨rfl, rfl⟩ ⟨rfl, B⟩
  · have B := B.2 c1
    exact z_vret 42 rfl rfl ⟨rfl, rfl⟩ ⟨rfl, B⟩
set_option maxRecDepth 100000 in
set_option maxHeartbeats 4000000 in
theorem sg_X10_primary_162 {G : zG} {d : Nat} {h : zMem} {Q : zMem → Prop} {x1 : Int32} (hS : zSh2 h)  (B : ∃ Q1 : zMem → Prop, zConV G mX10_knot d [.ref 132] h Q1 ∧ (∀ h2, Q1 h2 → zSh2 h2 ∧ (x1 = 0 → zg G mX10_primary (d + 1) 176 [.ref 132, .int x1] [.int (1 : Int32), .ref 132] h2 (zPV Q)) ∧ (¬ x1 = 0 → zg G mX10_primary (d + 1) 176 [.ref 132, .int x1] [.int (0 : Int32), .ref 132] h2 (zPV Q)))) : zg G mX10_primary (d + 1) 162 [.ref 132, .int x1] [] h (zPV Q) := by
  refine z_aload_n 82 rfl rfl ?_
  obtain ⟨Q1, K3, B⟩ := B
  refine z_cVV0 (ν := mX10_knot) 83 rfl rfl fX10_knot gX10_285 ⟨_, rfl, rfl⟩ (by decide) (zcl1.o hS 132 9 rfl rfl rfl) (Nat.le_of_ble_eq_true rfl) K3 (fun h2 q => ?_)
  obtain ⟨hSh2, B⟩ := B h2 q
  refine z_aload_n 84 rfl rfl ?_
  refine z_iload_n 85 rfl rfl ?_
  refine z_if_eq 86 175 rfl (by decide) ⟨fun c4 => ?_, fun c4 => ?_⟩
  · have B := B.1 c4
    refine z_iconst (v := 1) 89 rfl (by decide) ?_
    exact B
  · have B := B.2 c4
    refine z_iconst (v := 0) 87 rfl (by decide) ?_
    refine z_goto 88 176 rfl (by decide) ?_
    exact B
set_option maxRecDepth 100000 in
set_option maxHeartbeats 4000000 in
theorem sg_X10_primary_176 {G : zG} {d : Nat} {h : zMem} {Q : zMem → Prop} {x1 : Int32} {xs0 : Int32} {as1 : Nat} (hS : zSh2 h)  (B : (x1 = 0 → zO h as1 9 ∧ ∃ Q2 : zMem → Prop, zConV G mX10_puts d [.ref as1, .int xs0, .int ((zI h 132 24) - (15 : Int32))] h Q2 ∧ (∀ h3, Q2 h3 → zSh2 h3 ∧ ∃ Q5 : zMem → Prop, zConV G mX10_goOn d [.ref 132] h3 Q5 ∧ (∀ h6, Q5 h6 → zSh2 h6 ∧ Q h6))) ∧ (¬ x1 = 0 → zO h as1 9 ∧ ∃ Q9 : zMem → Prop, zConV G mX10_puts d [.ref as1, .int xs0, .int (zI h 132 24)] h Q9 ∧ (∀ h10, Q9 h10 → zSh2 h10 ∧ ∃ Q12 : zMem → Prop, zConV G mX10_goOn d [.ref 132] h10 Q12 ∧ (∀ h13, Q12 h13 → zSh2 h13 ∧ Q h13)))) : zg G mX10_primary (d + 1) 176 [.ref 132, .int x1] [.int xs0, .ref as1] h (zPV Q) := by
  refine z_iload_n 90 rfl rfl ?_
  refine z_if_eq 91 187 rfl (by decide) ⟨fun c1 => ?_, fun c1 => ?_⟩
  · have B := B.1 c1
    refine z_aload_n 95 rfl rfl ?_
    refine z_getI 96 rfl lX10_189 rfl (zcl1.o hS 132 9 rfl rfl rfl) ?_
    refine z_bipush (v := 15) 97 rfl (by decide) ?_
    refine z_isub 98 rfl ?_
    obtain ⟨o8, B⟩ := B
    obtain ⟨Q2, K4, B⟩ := B
    refine z_cVV2 (ν := mX10_puts) 99 rfl rfl fX10_puts gX10_288 ⟨_, rfl, rfl⟩ (by decide) o8 (Nat.le_of_ble_eq_true rfl) K4 (fun h3 q => ?_)
    obtain ⟨hSh3, B⟩ := B h3 q
    refine z_aload_n 100 rfl rfl ?_
    obtain ⟨Q5, K7, B⟩ := B
    refine z_cVV0 (ν := mX10_goOn) 101 rfl rfl fX10_goOn gX10_261 ⟨_, rfl, rfl⟩ (by decide) (zcl1.o hSh3 132 9 rfl rfl rfl) (Nat.le_of_ble_eq_true rfl) K7 (fun h6 q => ?_)
    obtain ⟨hSh6, B⟩ := B h6 q
    exact z_vret 102 rfl rfl ⟨rfl, rfl⟩ ⟨rfl, B⟩
  · have B := B.2 c1
    refine z_aload_n 92 rfl rfl ?_
    refine z_getI 93 rfl lX10_189 rfl (zcl1.o hS 132 9 rfl rfl rfl) ?_
    refine z_goto 94 194 rfl (by decide) ?_
    obtain ⟨o15, B⟩ := B
    obtain ⟨Q9, K11, B⟩ := B
    refine z_cVV2 (ν := mX10_puts) 99 rfl rfl fX10_puts gX10_288 ⟨_, rfl, rfl⟩ (by decide) o15 (Nat.le_of_ble_eq_true rfl) K11 (fun h10 q => ?_)
    obtain ⟨hSh10, B⟩ := B h10 q
    refine z_aload_n 100 rfl rfl ?_
    obtain ⟨Q12, K14, B⟩ := B
    refine z_cVV0 (ν := mX10_goOn) 101 rfl rfl fX10_goOn gX10_261 ⟨_, rfl, rfl⟩ (by decide) (zcl1.o hSh10 132 9 rfl rfl rfl) (Nat.le_of_ble_eq_true rfl) K14 (fun h13 q => ?_)
    obtain ⟨hSh13, B⟩ := B h13 q
    exact z_vret 102 rfl rfl ⟨rfl, rfl⟩ ⟨rfl, B⟩
set_option maxRecDepth 100000 in
set_option maxHeartbeats 4000000 in
theorem sg_X10_half_0 {G : zG} {d : Nat} {h : zMem} {Q : zMem → Prop} {a0 : Nat} (hS : zSh2 h)  (B : zO h a0 100 ∧ zg G mX10_half d 7 [.ref a0, .int ((nI (zLen h a0)) / (2 : Int32)), .int (0 : Int32)] [] h (zPV Q)) : zg G mX10_half d 0 [.ref a0, zU, zU] [] h (zPV Q) := by
  refine z_aload_n 0 rfl rfl ?_
  obtain ⟨o1, B⟩ := B
  refine z_alen 1 rfl o1 (Or.inl rfl) ?_
  refine z_iconst (v := 2) 2 rfl (by decide) ?_
  refine z_idiv 3 rfl (by decide) ?_
  refine z_istore_n 4 rfl (by decide) rfl ?_
  refine z_iconst (v := 0) 5 rfl (by decide) ?_
  refine z_istore_n 6 rfl (by decide) rfl ?_
  exact B
theorem cn_X10_half {G : zG} {d : Nat} {h : zMem} {Q : zMem → Prop} {a0 : Nat} (B : zg G mX10_half d 0 [.ref a0, zU, zU] [] h (zPV Q)) : zConV G mX10_half d [.ref a0] h Q := zcon0 (by decide +kernel) eX10_half (Nat.le_of_ble_eq_true rfl) rfl B
set_option maxRecDepth 100000 in
set_option maxHeartbeats 4000000 in
theorem sg_X10_half_7 {G : zG} {d : Nat} {h : zMem} {Q : zMem → Prop} {a0 : Nat} {x1 : Int32} {x2 : Int32} (hS : zSh2 h)  (B : (x1 ≤ x2 → Q h) ∧ (¬ x1 ≤ x2 → zO h a0 100 ∧ vp_in (x1 + x2) (zLen h a0) ∧ vp_in x2 (zLen h a0) ∧ zg G mX10_half d 7 [.ref a0, .int x1, .int (x2 + 1)] [] (zsI h a0 x2.toNatClampNeg (zI h a0 (x1 + x2).toNatClampNeg)) (zPV Q))) : zg G mX10_half d 7 [.ref a0, .int x1, .int x2] [] h (zPV Q) := by
  refine z_iload_n 7 rfl rfl ?_
  refine z_iload_n 8 rfl rfl ?_
  refine z_icmp_ge 9 26 rfl (by decide) ⟨fun c1 => ?_, fun c1 => ?_⟩
  · have B := B.1 c1
    exact z_vret 20 rfl rfl ⟨rfl, rfl⟩ ⟨rfl, B⟩
  · have B := B.2 c1
    refine z_aload_n 10 rfl rfl ?_
    refine z_iload_n 11 rfl rfl ?_
    refine z_aload_n 12 rfl rfl ?_
    refine z_iload_n 13 rfl rfl ?_
    refine z_iload_n 14 rfl rfl ?_
    refine z_iadd 15 rfl ?_
    obtain ⟨o2, B⟩ := B
    obtain ⟨o3, B⟩ := B
    refine z_iald 16 rfl o2 o3 ?_
    obtain ⟨o4, B⟩ := B
    refine z_iast 17 rfl o2 o4 ?_
    refine z_iinc (v := 1) 18 rfl rfl (by decide) (by decide) rfl ?_
    refine z_goto 19 7 rfl (by decide) ?_
    exact B
set_option maxRecDepth 100000 in
set_option maxHeartbeats 4000000 in
theorem sg_X10_text_0 {G : zG} {d : Nat} {h : zMem} {Q : Int32 → zMem → Prop} {x1 : Int32} (hS : zSh2 h)  (B : (x1 < 0 → Q (-2 : Int32) (zsI h 132 0 (0 : Int32))) ∧ (¬ x1 < 0 → (x1 ≤ (zI (zsI h 132 0 (0 : Int32)) 132 2) → zg G mX10_text (d + 1) 47 [.ref 132, .int x1, .int (0 : Int32)] [] (zsI (zsI (zsI (zsI (zsI (zsI h 132 0 (0 : Int32)) 132 20 x1) 132 2 (0 : Int32)) 132 21 (0 : Int32)) 132 25 (0 : Int32)) 132 26 (-1 : Int32)) (zPI Q)) ∧ (¬ x1 ≤ (zI (zsI h 132 0 (0 : Int32)) 132 2) → Q (-2 : Int32) (zsI h 132 0 (0 : Int32))))) : zg G mX10_text (d + 1) 0 [.ref 132, .int x1, zU] [] h (zPI Q) := by
  refine z_aload_n 0 rfl rfl ?_
  refine z_iconst (v := 0) 1 rfl (by decide) ?_
  refine z_putI 2 rfl lX10_160 ⟨_, _, _, rfl, rfl⟩ rfl rfl rfl (zcl1.o hS 132 9 rfl rfl rfl) ?_
  refine z_iload_n 3 rfl rfl ?_
  refine z_if_lt 4 17 rfl (by decide) ⟨fun c1 => ?_, fun c1 => ?_⟩
  · have B := B.1 c1
    refine z_bipush (v := -2) 9 rfl (by decide) ?_
    exact z_iret 10 rfl rfl rfl ⟨rfl, rfl⟩ ⟨_, rfl, B⟩
  · have B := B.2 c1
    refine z_iload_n 5 rfl rfl ?_
    refine z_aload_n 6 rfl rfl ?_
    refine z_getI 7 rfl lX10_163 rfl (zcl1.o hS 132 9 rfl rfl rfl) ?_
    refine z_icmp_le 8 20 rfl (by decide) ⟨fun c2 => ?_, fun c2 => ?_⟩
    · have B := B.1 c2
      refine z_aload_n 11 rfl rfl ?_
      refine z_iload_n 12 rfl rfl ?_
      refine z_putI 13 rfl lX10_169 ⟨_, _, _, rfl, rfl⟩ rfl rfl rfl (zcl1.o hS 132 9 rfl rfl rfl) ?_
      refine z_aload_n 14 rfl rfl ?_
      refine z_iconst (v := 0) 15 rfl (by decide) ?_
      refine z_putI 16 rfl lX10_163 ⟨_, _, _, rfl, rfl⟩ rfl rfl rfl (zcl1.o hS 132 9 rfl rfl rfl) ?_
      refine z_aload_n 17 rfl rfl ?_
      refine z_iconst (v := 0) 18 rfl (by decide) ?_
      refine z_putI 19 rfl lX10_166 ⟨_, _, _, rfl, rfl⟩ rfl rfl rfl (zcl1.o hS 132 9 rfl rfl rfl) ?_
      refine z_aload_n 20 rfl rfl ?_
      refine z_iconst (v := 0) 21 rfl (by decide) ?_
      refine z_putI 22 rfl lX10_214 ⟨_, _, _, rfl, rfl⟩ rfl rfl rfl (zcl1.o hS 132 9 rfl rfl rfl) ?_
      refine z_aload_n 23 rfl rfl ?_
      refine z_iconst (v := -1) 24 rfl (by decide) ?_
      refine z_putI 25 rfl lX10_217 ⟨_, _, _, rfl, rfl⟩ rfl rfl rfl (zcl1.o hS 132 9 rfl rfl rfl) ?_
      refine z_iconst (v := 0) 26 rfl (by decide) ?_
      refine z_istore_n 27 rfl (by decide) rfl ?_
      exact B
    · have B := B.2 c2
      refine z_bipush (v := -2) 9 rfl (by decide) ?_
      exact z_iret 10 rfl rfl rfl ⟨rfl, rfl⟩ ⟨_, rfl, B⟩
theorem cn_X10_text {G : zG} {d : Nat} {h : zMem} {Q : Int32 → zMem → Prop} {x1 : Int32} (B : zg G mX10_text (d + 1) 0 [.ref 132, .int x1, zU] [] h (zPI Q)) : zConI G mX10_text (d + 1) [.ref 132, .int x1] h Q := zcon0 (by decide +kernel) eX10_text (Nat.le_of_ble_eq_true rfl) rfl B
set_option maxRecDepth 100000 in
set_option maxHeartbeats 4000000 in
theorem sg_X10_text_47 {G : zG} {d : Nat} {h : zMem} {Q : Int32 → zMem → Prop} {x1 : Int32} {x2 : Int32} (hS : zSh2 h)  (B : ((8 : Int32) ≤ x2 → zg G mX10_text (d + 1) 67 [.ref 132, .int x1, .int (3 : Int32)] [] h (zPI Q)) ∧ (¬ (8 : Int32) ≤ x2 → ∃ Q2 : zMem → Prop, zConV G mX10_reads d [.ref 132, .int x2, .int (0 : Int32)] h Q2 ∧ (∀ h3, Q2 h3 → zSh2 h3 ∧ zg G mX10_text (d + 1) 47 [.ref 132, .int x1, .int (x2 + 1)] [] h3 (zPI Q)))) : zg G mX10_text (d + 1) 47 [.ref 132, .int x1, .int x2] [] h (zPI Q) := by
  refine z_iload_n 28 rfl rfl ?_
  refine z_bipush (v := 8) 29 rfl (by decide) ?_
  refine z_icmp_ge 30 65 rfl (by decide) ⟨fun c1 => ?_, fun c1 => ?_⟩
  · have B := B.1 c1
    refine z_iconst (v := 3) 37 rfl (by decide) ?_
    refine z_istore_n 38 rfl (by decide) rfl ?_
    exact B
  · have B := B.2 c1
    refine z_aload_n 31 rfl rfl ?_
    refine z_iload_n 32 rfl rfl ?_
    refine z_iconst (v := 0) 33 rfl (by decide) ?_
    obtain ⟨Q2, K4, B⟩ := B
    refine z_cVV2 (ν := mX10_reads) 34 rfl rfl fX10_reads gX10_248 ⟨_, rfl, rfl⟩ (by decide) (zcl1.o hS 132 9 rfl rfl rfl) (Nat.le_of_ble_eq_true rfl) K4 (fun h3 q => ?_)
    obtain ⟨hSh3, B⟩ := B h3 q
    refine z_iinc (v := 1) 35 rfl rfl (by decide) (by decide) rfl ?_
    refine z_goto 36 47 rfl (by decide) ?_
    exact B
set_option maxRecDepth 100000 in
set_option maxHeartbeats 4000000 in
theorem sg_X10_text_67 {G : zG} {d : Nat} {h : zMem} {Q : Int32 → zMem → Prop} {x1 : Int32} {x2 : Int32} (hS : zSh2 h)  (B : ((6 : Int32) ≤ x2 → ∃ Q2 : zMem → Prop, zConV G mX10_token d [.ref 132] (zsI (zsI (zsI (zsI h 132 18 (0 : Int32)) 132 19 (0 : Int32)) 132 29 (0 : Int32)) 132 30 (0 : Int32)) Q2 ∧ (∀ h3, Q2 h3 → zSh2 h3 ∧ zg G mX10_text (d + 1) 117 [.ref 132, .int x1, .int x2] [] h3 (zPI Q))) ∧ (¬ (6 : Int32) ≤ x2 → vp_in x2 6 ∧ zg G mX10_text (d + 1) 67 [.ref 132, .int x1, .int (x2 + 1)] [] (zsI (zsI h 145 x2.toNatClampNeg (0 : Int32)) 146 x2.toNatClampNeg (0 : Int32)) (zPI Q))) : zg G mX10_text (d + 1) 67 [.ref 132, .int x1, .int x2] [] h (zPI Q) := by
  refine z_iload_n 39 rfl rfl ?_
  refine z_bipush (v := 6) 40 rfl (by decide) ?_
  refine z_icmp_ge 41 93 rfl (by decide) ⟨fun c1 => ?_, fun c1 => ?_⟩
  · have B := B.1 c1
    refine z_aload_n 54 rfl rfl ?_
    refine z_iconst (v := 0) 55 rfl (by decide) ?_
    refine z_putI 56 rfl lX10_237 ⟨_, _, _, rfl, rfl⟩ rfl rfl rfl (zcl1.o hS 132 9 rfl rfl rfl) ?_
    refine z_aload_n 57 rfl rfl ?_
    refine z_iconst (v := 0) 58 rfl (by decide) ?_
    refine z_putI 59 rfl lX10_270 ⟨_, _, _, rfl, rfl⟩ rfl rfl rfl (zcl1.o hS 132 9 rfl rfl rfl) ?_
    refine z_aload_n 60 rfl rfl ?_
    refine z_iconst (v := 0) 61 rfl (by decide) ?_
    refine z_putI 62 rfl lX10_303 ⟨_, _, _, rfl, rfl⟩ rfl rfl rfl (zcl1.o hS 132 9 rfl rfl rfl) ?_
    refine z_aload_n 63 rfl rfl ?_
    refine z_iconst (v := 0) 64 rfl (by decide) ?_
    refine z_putI 65 rfl lX10_279 ⟨_, _, _, rfl, rfl⟩ rfl rfl rfl (zcl1.o hS 132 9 rfl rfl rfl) ?_
    refine z_aload_n 66 rfl rfl ?_
    obtain ⟨Q2, K4, B⟩ := B
    refine z_cVV0 (ν := mX10_token) 67 rfl rfl fX10_token gX10_220 ⟨_, rfl, rfl⟩ (by decide) (zcl1.o hS 132 9 rfl rfl rfl) (Nat.le_of_ble_eq_true rfl) K4 (fun h3 q => ?_)
    obtain ⟨hSh3, B⟩ := B h3 q
    exact B
  · have B := B.2 c1
    refine z_aload_n 42 rfl rfl ?_
    refine z_getR 43 rfl lX10_46 rfl (zcl1.o hS 132 9 rfl rfl rfl) (zcl1.r hS 132 14 145 rfl rfl rfl) ?_
    refine z_iload_n 44 rfl rfl ?_
    refine z_iconst (v := 0) 45 rfl (by decide) ?_
    obtain ⟨o5, B⟩ := B
    refine z_iast 46 rfl (zcl1.o hS 145 100 rfl rfl rfl) (zin (zcl1.l hS 145 6 rfl rfl rfl) o5) ?_
    refine z_aload_n 47 rfl rfl ?_
    refine z_getR 48 rfl lX10_49 rfl (zcl1.o hS 132 9 rfl rfl rfl) (zcl1.r hS 132 15 146 rfl rfl rfl) ?_
    refine z_iload_n 49 rfl rfl ?_
    refine z_iconst (v := 0) 50 rfl (by decide) ?_
    refine z_iast 51 rfl (zcl1.o hS 146 100 rfl rfl rfl) (zin (zcl1.l hS 146 6 rfl rfl rfl) o5) ?_
    refine z_iinc (v := 1) 52 rfl rfl (by decide) (by decide) rfl ?_
    refine z_goto 53 67 rfl (by decide) ?_
    exact B
set_option maxRecDepth 100000 in
set_option maxHeartbeats 4000000 in
theorem sg_X10_text_117 {G : zG} {d : Nat} {h : zMem} {Q : Int32 → zMem → Prop} {x1 : Int32} {x2 : Int32} (hS : zSh2 h)  (B : (¬ (zI h 132 25) = 0 → ((zI (zsI (zsI h 132 27 (zI h 132 25)) 132 28 (zI (zsI h 132 27 (zI h 132 25)) 132 26)) 132 25) = 0 → ∃ Q3 : zMem → Prop, zConV G mX10_half d [.ref 134] (zsI (zsI h 132 27 (zI h 132 25)) 132 28 (zI (zsI h 132 27 (zI h 132 25)) 132 26)) Q3 ∧ (∀ h4, Q3 h4 → zSh2 h4 ∧ ∃ Q6 : zMem → Prop, zConV G mX10_half d [.ref 135] h4 Q6 ∧ (∀ h7, Q6 h7 → zSh2 h7 ∧ ∃ Q9 : zMem → Prop, zConV G mX10_half d [.ref 136] h7 Q9 ∧ (∀ h10, Q9 h10 → zSh2 h10 ∧ ∃ Q12 : zMem → Prop, zConV G mX10_half d [.ref 137] h10 Q12 ∧ (∀ h13, Q12 h13 → zSh2 h13 ∧ ∃ Q15 : zMem → Prop, zConV G mX10_half d [.ref 138] h13 Q15 ∧ (∀ h16, Q15 h16 → zSh2 h16 ∧ ∃ Q18 : zMem → Prop, zConV G mX10_half d [.ref 139] h16 Q18 ∧ (∀ h19, Q18 h19 → zSh2 h19 ∧ ∃ Q21 : zMem → Prop, zConV G mX10_half d [.ref 140] h19 Q21 ∧ (∀ h22, Q21 h22 → zSh2 h22 ∧ ∃ Q24 : zMem → Prop, zConV G mX10_half d [.ref 141] h22 Q24 ∧ (∀ h25, Q24 h25 → zSh2 h25 ∧ ∃ Q27 : zMem → Prop, zConV G mX10_half d [.ref 142] h25 Q27 ∧ (∀ h28, Q27 h28 → zSh2 h28 ∧ ∃ Q30 : zMem → Prop, zConV G mX10_half d [.ref 143] h28 Q30 ∧ (∀ h31, Q30 h31 → zSh2 h31 ∧ ∃ Q33 : zMem → Prop, zConV G mX10_half d [.ref 144] h31 Q33 ∧ (∀ h34, Q33 h34 → zSh2 h34 ∧ ∃ Q36 : zMem → Prop, zConV G mX10_half d [.ref 145] h34 Q36 ∧ (∀ h37, Q36 h37 → zSh2 h37 ∧ ∃ Q39 : zMem → Prop, zConV G mX10_half d [.ref 146] h37 Q39 ∧ (∀ h40, Q39 h40 → zSh2 h40 ∧ ∃ Q42 : zMem → Prop, zConV G mX10_half d [.ref 147] h40 Q42 ∧ (∀ h43, Q42 h43 → zSh2 h43 ∧ ∃ Q45 : zMem → Prop, zConV G mX10_half d [.ref 148] h43 Q45 ∧ (∀ h46, Q45 h46 → zSh2 h46 ∧ ∃ Q48 : zMem → Prop, zConV G mX10_begins d [.ref 132] (zsI (zsI (zsI (zsI h46 132 60 (0 : Int32)) 132 61 (-1 : Int32)) 132 46 (0 : Int32)) 132 47 (0 : Int32)) Q48 ∧ (∀ h49, Q48 h49 → zSh2 h49 ∧ Q (zI h49 132 19) h49))))))))))))))))) ∧ (¬ (zI (zsI (zsI h 132 27 (zI h 132 25)) 132 28 (zI (zsI h 132 27 (zI h 132 25)) 132 26)) 132 25) = 0 → Q (-1 : Int32) (zsI (zsI h 132 27 (zI h 132 25)) 132 28 (zI (zsI h 132 27 (zI h 132 25)) 132 26)))) ∧ ((zI h 132 25) = 0 → ((zI h 132 23) = (4 : Int32) → ((zI (zsI (zsI h 132 27 (zI h 132 25)) 132 28 (zI (zsI h 132 27 (zI h 132 25)) 132 26)) 132 25) = 0 → ∃ Q53 : zMem → Prop, zConV G mX10_half d [.ref 134] (zsI (zsI h 132 27 (zI h 132 25)) 132 28 (zI (zsI h 132 27 (zI h 132 25)) 132 26)) Q53 ∧ (∀ h54, Q53 h54 → zSh2 h54 ∧ ∃ Q56 : zMem → Prop, zConV G mX10_half d [.ref 135] h54 Q56 ∧ (∀ h57, Q56 h57 → zSh2 h57 ∧ ∃ Q59 : zMem → Prop, zConV G mX10_half d [.ref 136] h57 Q59 ∧ (∀ h60, Q59 h60 → zSh2 h60 ∧ ∃ Q62 : zMem → Prop, zConV G mX10_half d [.ref 137] h60 Q62 ∧ (∀ h63, Q62 h63 → zSh2 h63 ∧ ∃ Q65 : zMem → Prop, zConV G mX10_half d [.ref 138] h63 Q65 ∧ (∀ h66, Q65 h66 → zSh2 h66 ∧ ∃ Q68 : zMem → Prop, zConV G mX10_half d [.ref 139] h66 Q68 ∧ (∀ h69, Q68 h69 → zSh2 h69 ∧ ∃ Q71 : zMem → Prop, zConV G mX10_half d [.ref 140] h69 Q71 ∧ (∀ h72, Q71 h72 → zSh2 h72 ∧ ∃ Q74 : zMem → Prop, zConV G mX10_half d [.ref 141] h72 Q74 ∧ (∀ h75, Q74 h75 → zSh2 h75 ∧ ∃ Q77 : zMem → Prop, zConV G mX10_half d [.ref 142] h75 Q77 ∧ (∀ h78, Q77 h78 → zSh2 h78 ∧ ∃ Q80 : zMem → Prop, zConV G mX10_half d [.ref 143] h78 Q80 ∧ (∀ h81, Q80 h81 → zSh2 h81 ∧ ∃ Q83 : zMem → Prop, zConV G mX10_half d [.ref 144] h81 Q83 ∧ (∀ h84, Q83 h84 → zSh2 h84 ∧ ∃ Q86 : zMem → Prop, zConV G mX10_half d [.ref 145] h84 Q86 ∧ (∀ h87, Q86 h87 → zSh2 h87 ∧ ∃ Q89 : zMem → Prop, zConV G mX10_half d [.ref 146] h87 Q89 ∧ (∀ h90, Q89 h90 → zSh2 h90 ∧ ∃ Q92 : zMem → Prop, zConV G mX10_half d [.ref 147] h90 Q92 ∧ (∀ h93, Q92 h93 → zSh2 h93 ∧ ∃ Q95 : zMem → Prop, zConV G mX10_half d [.ref 148] h93 Q95 ∧ (∀ h96, Q95 h96 → zSh2 h96 ∧ ∃ Q98 : zMem → Prop, zConV G mX10_begins d [.ref 132] (zsI (zsI (zsI (zsI h96 132 60 (0 : Int32)) 132 61 (-1 : Int32)) 132 46 (0 : Int32)) 132 47 (0 : Int32)) Q98 ∧ (∀ h99, Q98 h99 → zSh2 h99 ∧ Q (zI h99 132 19) h99))))))))))))))))) ∧ (¬ (zI (zsI (zsI h 132 27 (zI h 132 25)) 132 28 (zI (zsI h 132 27 (zI h 132 25)) 132 26)) 132 25) = 0 → Q (-1 : Int32) (zsI (zsI h 132 27 (zI h 132 25)) 132 28 (zI (zsI h 132 27 (zI h 132 25)) 132 26)))) ∧ (¬ (zI h 132 23) = (4 : Int32) → ∃ Q101 : zMem → Prop, zConV G mX10_line d [.ref 132] h Q101 ∧ (∀ h102, Q101 h102 → zSh2 h102 ∧ zg G mX10_text (d + 1) 117 [.ref 132, .int x1, .int x2] [] h102 (zPI Q))))) : zg G mX10_text (d + 1) 117 [.ref 132, .int x1, .int x2] [] h (zPI Q) := by
  refine z_aload_n 68 rfl rfl ?_
  refine z_getI 69 rfl lX10_214 rfl (zcl1.o hS 132 9 rfl rfl rfl) ?_
  refine z_if_ne 70 139 rfl (by decide) ⟨fun c1 => ?_, fun c1 => ?_⟩
  · have B := B.1 c1
    refine z_aload_n 78 rfl rfl ?_
    refine z_aload_n 79 rfl rfl ?_
    refine z_getI 80 rfl lX10_214 rfl (zcl1.o hS 132 9 rfl rfl rfl) ?_
    refine z_putI 81 rfl lX10_309 ⟨_, _, _, rfl, rfl⟩ rfl rfl rfl (zcl1.o hS 132 9 rfl rfl rfl) ?_
    refine z_aload_n 82 rfl rfl ?_
    refine z_aload_n 83 rfl rfl ?_
    refine z_getI 84 rfl lX10_217 rfl (zcl1.o hS 132 9 rfl rfl rfl) ?_
    refine z_putI 85 rfl lX10_58 ⟨_, _, _, rfl, rfl⟩ rfl rfl rfl (zcl1.o hS 132 9 rfl rfl rfl) ?_
    refine z_aload_n 86 rfl rfl ?_
    refine z_getI 87 rfl lX10_214 rfl (zcl1.o hS 132 9 rfl rfl rfl) ?_
    refine z_if_eq 88 164 rfl (by decide) ⟨fun c2 => ?_, fun c2 => ?_⟩
    · have B := B.1 c2
      refine z_aload_n 91 rfl rfl ?_
      refine z_getR 92 rfl lX10_13 rfl (zcl1.o hS 132 9 rfl rfl rfl) (zcl1.r hS 132 3 134 rfl rfl rfl) ?_
      obtain ⟨Q3, K5, B⟩ := B
      refine z_cSV1 (ν := mX10_half) 93 rfl rfl fX10_half gX10_312 (Nat.le_of_ble_eq_true rfl) K5 (fun h4 q => ?_)
      obtain ⟨hSh4, B⟩ := B h4 q
      refine z_aload_n 94 rfl rfl ?_
      refine z_getR 95 rfl lX10_16 rfl (zcl1.o hSh4 132 9 rfl rfl rfl) (zcl1.r hSh4 132 4 135 rfl rfl rfl) ?_
      obtain ⟨Q6, K8, B⟩ := B
      refine z_cSV1 (ν := mX10_half) 96 rfl rfl fX10_half gX10_312 (Nat.le_of_ble_eq_true rfl) K8 (fun h7 q => ?_)
      obtain ⟨hSh7, B⟩ := B h7 q
      refine z_aload_n 97 rfl rfl ?_
      refine z_getR 98 rfl lX10_19 rfl (zcl1.o hSh7 132 9 rfl rfl rfl) (zcl1.r hSh7 132 5 136 rfl rfl rfl) ?_
      obtain ⟨Q9, K11, B⟩ := B
      refine z_cSV1 (ν := mX10_half) 99 rfl rfl fX10_half gX10_312 (Nat.le_of_ble_eq_true rfl) K11 (fun h10 q => ?_)
      obtain ⟨hSh10, B⟩ := B h10 q
      refine z_aload_n 100 rfl rfl ?_
      refine z_getR 101 rfl lX10_22 rfl (zcl1.o hSh10 132 9 rfl rfl rfl) (zcl1.r hSh10 132 6 137 rfl rfl rfl) ?_
      obtain ⟨Q12, K14, B⟩ := B
      refine z_cSV1 (ν := mX10_half) 102 rfl rfl fX10_half gX10_312 (Nat.le_of_ble_eq_true rfl) K14 (fun h13 q => ?_)
      obtain ⟨hSh13, B⟩ := B h13 q
      refine z_aload_n 103 rfl rfl ?_
      refine z_getR 104 rfl lX10_25 rfl (zcl1.o hSh13 132 9 rfl rfl rfl) (zcl1.r hSh13 132 7 138 rfl rfl rfl) ?_
      obtain ⟨Q15, K17, B⟩ := B
      refine z_cSV1 (ν := mX10_half) 105 rfl rfl fX10_half gX10_312 (Nat.le_of_ble_eq_true rfl) K17 (fun h16 q => ?_)
      obtain ⟨hSh16, B⟩ := B h16 q
      refine z_aload_n 106 rfl rfl ?_
      refine z_getR 107 rfl lX10_28 rfl (zcl1.o hSh16 132 9 rfl rfl rfl) (zcl1.r hSh16 132 8 139 rfl rfl rfl) ?_
      obtain ⟨Q18, K20, B⟩ := B
      refine z_cSV1 (ν := mX10_half) 108 rfl rfl fX10_half gX10_312 (Nat.le_of_ble_eq_true rfl) K20 (fun h19 q => ?_)
      obtain ⟨hSh19, B⟩ := B h19 q
      refine z_aload_n 109 rfl rfl ?_
      refine z_getR 110 rfl lX10_31 rfl (zcl1.o hSh19 132 9 rfl rfl rfl) (zcl1.r hSh19 132 9 140 rfl rfl rfl) ?_
      obtain ⟨Q21, K23, B⟩ := B
      refine z_cSV1 (ν := mX10_half) 111 rfl rfl fX10_half gX10_312 (Nat.le_of_ble_eq_true rfl) K23 (fun h22 q => ?_)
      obtain ⟨hSh22, B⟩ := B h22 q
      refine z_aload_n 112 rfl rfl ?_
      refine z_getR 113 rfl lX10_34 rfl (zcl1.o hSh22 132 9 rfl rfl rfl) (zcl1.r hSh22 132 10 141 rfl rfl rfl) ?_
      obtain ⟨Q24, K26, B⟩ := B
      refine z_cSV1 (ν := mX10_half) 114 rfl rfl fX10_half gX10_312 (Nat.le_of_ble_eq_true rfl) K26 (fun h25 q => ?_)
      obtain ⟨hSh25, B⟩ := B h25 q
      refine z_aload_n 115 rfl rfl ?_
      refine z_getR 116 rfl lX10_37 rfl (zcl1.o hSh25 132 9 rfl rfl rfl) (zcl1.r hSh25 132 11 142 rfl rfl rfl) ?_
      obtain ⟨Q27, K29, B⟩ := B
      refine z_cSV1 (ν := mX10_half) 117 rfl rfl fX10_half gX10_312 (Nat.le_of_ble_eq_true rfl) K29 (fun h28 q => ?_)
      obtain ⟨hSh28, B⟩ := B h28 q
      refine z_aload_n 118 rfl rfl ?_
      refine z_getR 119 rfl lX10_40 rfl (zcl1.o hSh28 132 9 rfl rfl rfl) (zcl1.r hSh28 132 12 143 rfl rfl rfl) ?_
      obtain ⟨Q30, K32, B⟩ := B
      refine z_cSV1 (ν := mX10_half) 120 rfl rfl fX10_half gX10_312 (Nat.le_of_ble_eq_true rfl) K32 (fun h31 q => ?_)
      obtain ⟨hSh31, B⟩ := B h31 q
      refine z_aload_n 121 rfl rfl ?_
      refine z_getR 122 rfl lX10_43 rfl (zcl1.o hSh31 132 9 rfl rfl rfl) (zcl1.r hSh31 132 13 144 rfl rfl rfl) ?_
      obtain ⟨Q33, K35, B⟩ := B
      refine z_cSV1 (ν := mX10_half) 123 rfl rfl fX10_half gX10_312 (Nat.le_of_ble_eq_true rfl) K35 (fun h34 q => ?_)
      obtain ⟨hSh34, B⟩ := B h34 q
      refine z_aload_n 124 rfl rfl ?_
      refine z_getR 125 rfl lX10_46 rfl (zcl1.o hSh34 132 9 rfl rfl rfl) (zcl1.r hSh34 132 14 145 rfl rfl rfl) ?_
      obtain ⟨Q36, K38, B⟩ := B
      refine z_cSV1 (ν := mX10_half) 126 rfl rfl fX10_half gX10_312 (Nat.le_of_ble_eq_true rfl) K38 (fun h37 q => ?_)
      obtain ⟨hSh37, B⟩ := B h37 q
      refine z_aload_n 127 rfl rfl ?_
      refine z_getR 128 rfl lX10_49 rfl (zcl1.o hSh37 132 9 rfl rfl rfl) (zcl1.r hSh37 132 15 146 rfl rfl rfl) ?_
      obtain ⟨Q39, K41, B⟩ := B
      refine z_cSV1 (ν := mX10_half) 129 rfl rfl fX10_half gX10_312 (Nat.le_of_ble_eq_true rfl) K41 (fun h40 q => ?_)
      obtain ⟨hSh40, B⟩ := B h40 q
      refine z_aload_n 130 rfl rfl ?_
      refine z_getR 131 rfl lX10_52 rfl (zcl1.o hSh40 132 9 rfl rfl rfl) (zcl1.r hSh40 132 16 147 rfl rfl rfl) ?_
      obtain ⟨Q42, K44, B⟩ := B
      refine z_cSV1 (ν := mX10_half) 132 rfl rfl fX10_half gX10_312 (Nat.le_of_ble_eq_true rfl) K44 (fun h43 q => ?_)
      obtain ⟨hSh43, B⟩ := B h43 q
      refine z_aload_n 133 rfl rfl ?_
      refine z_getR 134 rfl lX10_55 rfl (zcl1.o hSh43 132 9 rfl rfl rfl) (zcl1.r hSh43 132 17 148 rfl rfl rfl) ?_
      obtain ⟨Q45, K47, B⟩ := B
      refine z_cSV1 (ν := mX10_half) 135 rfl rfl fX10_half gX10_312 (Nat.le_of_ble_eq_true rfl) K47 (fun h46 q => ?_)
      obtain ⟨hSh46, B⟩ := B h46 q
      refine z_aload_n 136 rfl rfl ?_
      refine z_iconst (v := 0) 137 rfl (by decide) ?_
      refine z_putI 138 rfl lX10_316 ⟨_, _, _, rfl, rfl⟩ rfl rfl rfl (zcl1.o hSh46 132 9 rfl rfl rfl) ?_
      refine z_aload_n 139 rfl rfl ?_
      refine z_iconst (v := -1) 140 rfl (by decide) ?_
      refine z_putI 141 rfl lX10_135 ⟨_, _, _, rfl, rfl⟩ rfl rfl rfl (zcl1.o hSh46 132 9 rfl rfl rfl) ?_
      refine z_aload_n 142 rfl rfl ?_
      refine z_iconst (v := 0) 143 rfl (by decide) ?_
      refine z_putI 144 rfl lX10_319 ⟨_, _, _, rfl, rfl⟩ rfl rfl rfl (zcl1.o hSh46 132 9 rfl rfl rfl) ?_
      refine z_aload_n 145 rfl rfl ?_
      refine z_iconst (v := 0) 146 rfl (by decide) ?_
      refine z_putI 147 rfl lX10_323 ⟨_, _, _, rfl, rfl⟩ rfl rfl rfl (zcl1.o hSh46 132 9 rfl rfl rfl) ?_
      refine z_aload_n 148 rfl rfl ?_
      obtain ⟨Q48, K50, B⟩ := B
      refine z_cVV0 (ν := mX10_begins) 149 rfl rfl fX10_begins gX10_157 ⟨_, rfl, rfl⟩ (by decide) (zcl1.o hSh46 132 9 rfl rfl rfl) (Nat.le_of_ble_eq_true rfl) K50 (fun h49 q => ?_)
      obtain ⟨hSh49, B⟩ := B h49 q
      refine z_aload_n 150 rfl rfl ?_
      refine z_getI 151 rfl lX10_270 rfl (zcl1.o hSh49 132 9 rfl rfl rfl) ?_
      exact z_iret 152 rfl rfl rfl ⟨rfl, rfl⟩ ⟨_, rfl, B⟩
    · have B := B.2 c2
      refine z_iconst (v := -1) 89 rfl (by decide) ?_
      exact z_iret 90 rfl rfl rfl ⟨rfl, rfl⟩ ⟨_, rfl, B⟩
  · have B := B.2 c1
    refine z_aload_n 71 rfl rfl ?_
    refine z_getI 72 rfl lX10_179 rfl (zcl1.o hS 132 9 rfl rfl rfl) ?_
    refine z_iconst (v := 4) 73 rfl (by decide) ?_
    refine z_icmp_eq 74 139 rfl (by decide) ⟨fun c51 => ?_, fun c51 => ?_⟩
    · have B := B.1 c51
      refine z_aload_n 78 rfl rfl ?_
      refine z_aload_n 79 rfl rfl ?_
      refine z_getI 80 rfl lX10_214 rfl (zcl1.o hS 132 9 rfl rfl rfl) ?_
      refine z_putI 81 rfl lX10_309 ⟨_, _, _, rfl, rfl⟩ rfl rfl rfl (zcl1.o hS 132 9 rfl rfl rfl) ?_
      refine z_aload_n 82 rfl rfl ?_
      refine z_aload_n 83 rfl rfl ?_
      refine z_getI 84 rfl lX10_217 rfl (zcl1.o hS 132 9 rfl rfl rfl) ?_
      refine z_putI 85 rfl lX10_58 ⟨_, _, _, rfl, rfl⟩ rfl rfl rfl (zcl1.o hS 132 9 rfl rfl rfl) ?_
      refine z_aload_n 86 rfl rfl ?_
      refine z_getI 87 rfl lX10_214 rfl (zcl1.o hS 132 9 rfl rfl rfl) ?_
      refine z_if_eq 88 164 rfl (by decide) ⟨fun c52 => ?_, fun c52 => ?_⟩
      · have B := B.1 c52
        refine z_aload_n 91 rfl rfl ?_
        refine z_getR 92 rfl lX10_13 rfl (zcl1.o hS 132 9 rfl rfl rfl) (zcl1.r hS 132 3 134 rfl rfl rfl) ?_
        obtain ⟨Q53, K55, B⟩ := B
        refine z_cSV1 (ν := mX10_half) 93 rfl rfl fX10_half gX10_312 (Nat.le_of_ble_eq_true rfl) K55 (fun h54 q => ?_)
        obtain ⟨hSh54, B⟩ := B h54 q
        refine z_aload_n 94 rfl rfl ?_
        refine z_getR 95 rfl lX10_16 rfl (zcl1.o hSh54 132 9 rfl rfl rfl) (zcl1.r hSh54 132 4 135 rfl rfl rfl) ?_
        obtain ⟨Q56, K58, B⟩ := B
        refine z_cSV1 (ν := mX10_half) 96 rfl rfl fX10_half gX10_312 (Nat.le_of_ble_eq_true rfl) K58 (fun h57 q => ?_)
        obtain ⟨hSh57, B⟩ := B h57 q
        refine z_aload_n 97 rfl rfl ?_
        refine z_getR 98 rfl lX10_19 rfl (zcl1.o hSh57 132 9 rfl rfl rfl) (zcl1.r hSh57 132 5 136 rfl rfl rfl) ?_
        obtain ⟨Q59, K61, B⟩ := B
        refine z_cSV1 (ν := mX10_half) 99 rfl rfl fX10_half gX10_312 (Nat.le_of_ble_eq_true rfl) K61 (fun h60 q => ?_)
        obtain ⟨hSh60, B⟩ := B h60 q
        refine z_aload_n 100 rfl rfl ?_
        refine z_getR 101 rfl lX10_22 rfl (zcl1.o hSh60 132 9 rfl rfl rfl) (zcl1.r hSh60 132 6 137 rfl rfl rfl) ?_
        obtain ⟨Q62, K64, B⟩ := B
        refine z_cSV1 (ν := mX10_half) 102 rfl rfl fX10_half gX10_312 (Nat.le_of_ble_eq_true rfl) K64 (fun h63 q => ?_)
        obtain ⟨hSh63, B⟩ := B h63 q
        refine z_aload_n 103 rfl rfl ?_
        refine z_getR 104 rfl lX10_25 rfl (zcl1.o hSh63 132 9 rfl rfl rfl) (zcl1.r hSh63 132 7 138 rfl rfl rfl) ?_
        obtain ⟨Q65, K67, B⟩ := B
        refine z_cSV1 (ν := mX10_half) 105 rfl rfl fX10_half gX10_312 (Nat.le_of_ble_eq_true rfl) K67 (fun h66 q => ?_)
        obtain ⟨hSh66, B⟩ := B h66 q
        refine z_aload_n 106 rfl rfl ?_
        refine z_getR 107 rfl lX10_28 rfl (zcl1.o hSh66 132 9 rfl rfl rfl) (zcl1.r hSh66 132 8 139 rfl rfl rfl) ?_
        obtain ⟨Q68, K70, B⟩ := B
        refine z_cSV1 (ν := mX10_half) 108 rfl rfl fX10_half gX10_312 (Nat.le_of_ble_eq_true rfl) K70 (fun h69 q => ?_)
        obtain ⟨hSh69, B⟩ := B h69 q
        refine z_aload_n 109 rfl rfl ?_
        refine z_getR 110 rfl lX10_31 rfl (zcl1.o hSh69 132 9 rfl rfl rfl) (zcl1.r hSh69 132 9 140 rfl rfl rfl) ?_
        obtain ⟨Q71, K73, B⟩ := B
        refine z_cSV1 (ν := mX10_half) 111 rfl rfl fX10_half gX10_312 (Nat.le_of_ble_eq_true rfl) K73 (fun h72 q => ?_)
        obtain ⟨hSh72, B⟩ := B h72 q
        refine z_aload_n 112 rfl rfl ?_
        refine z_getR 113 rfl lX10_34 rfl (zcl1.o hSh72 132 9 rfl rfl rfl) (zcl1.r hSh72 132 10 141 rfl rfl rfl) ?_
        obtain ⟨Q74, K76, B⟩ := B
        refine z_cSV1 (ν := mX10_half) 114 rfl rfl fX10_half gX10_312 (Nat.le_of_ble_eq_true rfl) K76 (fun h75 q => ?_)
        obtain ⟨hSh75, B⟩ := B h75 q
        refine z_aload_n 115 rfl rfl ?_
        refine z_getR 116 rfl lX10_37 rfl (zcl1.o hSh75 132 9 rfl rfl rfl) (zcl1.r hSh75 132 11 142 rfl rfl rfl) ?_
        obtain ⟨Q77, K79, B⟩ := B
        refine z_cSV1 (ν := mX10_half) 117 rfl rfl fX10_half gX10_312 (Nat.le_of_ble_eq_true rfl) K79 (fun h78 q => ?_)
        obtain ⟨hSh78, B⟩ := B h78 q
        refine z_aload_n 118 rfl rfl ?_
        refine z_getR 119 rfl lX10_40 rfl (zcl1.o hSh78 132 9 rfl rfl rfl) (zcl1.r hSh78 132 12 143 rfl rfl rfl) ?_
        obtain ⟨Q80, K82, B⟩ := B
        refine z_cSV1 (ν := mX10_half) 120 rfl rfl fX10_half gX10_312 (Nat.le_of_ble_eq_true rfl) K82 (fun h81 q => ?_)
        obtain ⟨hSh81, B⟩ := B h81 q
        refine z_aload_n 121 rfl rfl ?_
        refine z_getR 122 rfl lX10_43 rfl (zcl1.o hSh81 132 9 rfl rfl rfl) (zcl1.r hSh81 132 13 144 rfl rfl rfl) ?_
        obtain ⟨Q83, K85, B⟩ := B
        refine z_cSV1 (ν := mX10_half) 123 rfl rfl fX10_half gX10_312 (Nat.le_of_ble_eq_true rfl) K85 (fun h84 q => ?_)
        obtain ⟨hSh84, B⟩ := B h84 q
        refine z_aload_n 124 rfl rfl ?_
        refine z_getR 125 rfl lX10_46 rfl (zcl1.o hSh84 132 9 rfl rfl rfl) (zcl1.r hSh84 132 14 145 rfl rfl rfl) ?_
        obtain ⟨Q86, K88, B⟩ := B
        refine z_cSV1 (ν := mX10_half) 126 rfl rfl fX10_half gX10_312 (Nat.le_of_ble_eq_true rfl) K88 (fun h87 q => ?_)
        obtain ⟨hSh87, B⟩ := B h87 q
        refine z_aload_n 127 rfl rfl ?_
        refine z_getR 128 rfl lX10_49 rfl (zcl1.o hSh87 132 9 rfl rfl rfl) (zcl1.r hSh87 132 15 146 rfl rfl rfl) ?_
        obtain ⟨Q89, K91, B⟩ := B
        refine z_cSV1 (ν := mX10_half) 129 rfl rfl fX10_half gX10_312 (Nat.le_of_ble_eq_true rfl) K91 (fun h90 q => ?_)
        obtain ⟨hSh90, B⟩ := B h90 q
        refine z_aload_n 130 rfl rfl ?_
        refine z_getR 131 rfl lX10_52 rfl (zcl1.o hSh90 132 9 rfl rfl rfl) (zcl1.r hSh90 132 16 147 rfl rfl rfl) ?_
        obtain ⟨Q92, K94, B⟩ := B
        refine z_cSV1 (ν := mX10_half) 132 rfl rfl fX10_half gX10_312 (Nat.le_of_ble_eq_true rfl) K94 (fun h93 q => ?_)
        obtain ⟨hSh93, B⟩ := B h93 q
        refine z_aload_n 133 rfl rfl ?_
        refine z_getR 134 rfl lX10_55 rfl (zcl1.o hSh93 132 9 rfl rfl rfl) (zcl1.r hSh93 132 17 148 rfl rfl rfl) ?_
        obtain ⟨Q95, K97, B⟩ := B
        refine z_cSV1 (ν := mX10_half) 135 rfl rfl fX10_half gX10_312 (Nat.le_of_ble_eq_true rfl) K97 (fun h96 q => ?_)
        obtain ⟨hSh96, B⟩ := B h96 q
        refine z_aload_n 136 rfl rfl ?_
        refine z_iconst (v := 0) 137 rfl (by decide) ?_
        refine z_putI 138 rfl lX10_316 ⟨_, _, _, rfl, rfl⟩ rfl rfl rfl (zcl1.o hSh96 132 9 rfl rfl rfl) ?_
        refine z_aload_n 139 rfl rfl ?_
        refine z_iconst (v := -1) 140 rfl (by decide) ?_
        refine z_putI 141 rfl lX10_135 ⟨_, _, _, rfl, rfl⟩ rfl rfl rfl (zcl1.o hSh96 132 9 rfl rfl rfl) ?_
        refine z_aload_n 142 rfl rfl ?_
        refine z_iconst (v := 0) 143 rfl (by decide) ?_
        refine z_putI 144 rfl lX10_319 ⟨_, _, _, rfl, rfl⟩ rfl rfl rfl (zcl1.o hSh96 132 9 rfl rfl rfl) ?_
        refine z_aload_n 145 rfl rfl ?_
        refine z_iconst (v := 0) 146 rfl (by decide) ?_
        refine z_putI 147 rfl lX10_323 ⟨_, _, _, rfl, rfl⟩ rfl rfl rfl (zcl1.o hSh96 132 9 rfl rfl rfl) ?_
        refine z_aload_n 148 rfl rfl ?_
        obtain ⟨Q98, K100, B⟩ := B
        refine z_cVV0 (ν := mX10_begins) 149 rfl rfl fX10_begins gX10_157 ⟨_, rfl, rfl⟩ (by decide) (zcl1.o hSh96 132 9 rfl rfl rfl) (Nat.le_of_ble_eq_true rfl) K100 (fun h99 q => ?_)
        obtain ⟨hSh99, B⟩ := B h99 q
        refine z_aload_n 150 rfl rfl ?_
        refine z_getI 151 rfl lX10_270 rfl (zcl1.o hSh99 132 9 rfl rfl rfl) ?_
        exact z_iret 152 rfl rfl rfl ⟨rfl, rfl⟩ ⟨_, rfl, B⟩
      · have B := B.2 c52
        refine z_iconst (v := -1) 89 rfl (by decide) ?_
        exact z_iret 90 rfl rfl rfl ⟨rfl, rfl⟩ ⟨_, rfl, B⟩
    · have B := B.2 c51
      refine z_aload_n 75 rfl rfl ?_
      obtain ⟨Q101, K103, B⟩ := B
      refine z_cVV0 (ν := mX10_line) 76 rfl rfl fX10_line gX10_306 ⟨_, rfl, rfl⟩ (by decide) (zcl1.o hS 132 9 rfl rfl rfl) (Nat.le_of_ble_eq_true rfl) K103 (fun h102 q => ?_)
      obtain ⟨hSh102, B⟩ := B h102 q
      refine z_goto 77 117 rfl (by decide) ?_
      exact B
set_option maxRecDepth 100000 in
set_option maxHeartbeats 4000000 in
theorem sg_X10_fault_0 {G : zG} {d : Nat} {h : zMem} {Q : Int32 → zMem → Prop} {x1 : Int32} (hS : zSh2 h)  (B : (¬ x1 = 0 → (¬ x1 = (1 : Int32) → Q (-1 : Int32) (zsI h 132 0 (0 : Int32))) ∧ (x1 = (1 : Int32) → Q (zI (zsI h 132 0 (0 : Int32)) 132 28) (zsI h 132 0 (0 : Int32)))) ∧ (x1 = 0 → Q (zI (zsI h 132 0 (0 : Int32)) 132 27) (zsI h 132 0 (0 : Int32)))) : zg G mX10_fault d 0 [.ref 132, .int x1] [] h (zPI Q) := by
  refine z_aload_n 0 rfl rfl ?_
  refine z_iconst (v := 0) 1 rfl (by decide) ?_
  refine z_putI 2 rfl lX10_160 ⟨_, _, _, rfl, rfl⟩ rfl rfl rfl (zcl1.o hS 132 9 rfl rfl rfl) ?_
  refine z_iload_n 3 rfl rfl ?_
  refine z_if_ne 4 16 rfl (by decide) ⟨fun c1 => ?_, fun c1 => ?_⟩
  · have B := B.1 c1
    refine z_iload_n 8 rfl rfl ?_
    refine z_iconst (v := 1) 9 rfl (by decide) ?_
    refine z_icmp_ne 10 28 rfl (by decide) ⟨fun c2 => ?_, fun c2 => ?_⟩
    · have B := B.1 c2
      refine z_iconst (v := -1) 14 rfl (by decide) ?_
      exact z_iret 15 rfl rfl rfl ⟨rfl, rfl⟩ ⟨_, rfl, B⟩
    · have B := B.2 c2
      refine z_aload_n 11 rfl rfl ?_
      refine z_getI 12 rfl lX10_58 rfl (zcl1.o hS 132 9 rfl rfl rfl) ?_
      refine z_goto 13 29 rfl (by decide) ?_
      exact z_iret 15 rfl rfl rfl ⟨rfl, rfl⟩ ⟨_, rfl, B⟩
  · have B := B.2 c1
    refine z_aload_n 5 rfl rfl ?_
    refine z_getI 6 rfl lX10_309 rfl (zcl1.o hS 132 9 rfl rfl rfl) ?_
    refine z_goto 7 29 rfl (by decide) ?_
    exact z_iret 15 rfl rfl rfl ⟨rfl, rfl⟩ ⟨_, rfl, B⟩
theorem cn_X10_fault {G : zG} {d : Nat} {h : zMem} {Q : Int32 → zMem → Prop} {x1 : Int32} (B : zg G mX10_fault d 0 [.ref 132, .int x1] [] h (zPI Q)) : zConI G mX10_fault d [.ref 132, .int x1] h Q := zcon0 (by decide +kernel) eX10_fault (Nat.le_of_ble_eq_true rfl) rfl B
theorem zsw_X10_named_6 {x : Int32} (z1 : ¬ x.toInt < 0) (z2 : ¬ 3 < x.toInt) (c0 : ¬ x = 0) (c1 : ¬ x = 1) (c2 : ¬ x = 2) (c3 : ¬ x = 3) : (#[30, 46, 62, 78] : Array Int)[(x.toInt - 0).toNat]? = some 94 := by
  obtain ⟨v, hv⟩ : ∃ v : Int, v = x.toInt := ⟨_, rfl⟩
  have c0 : v ≠ 0 := fun e => c0 (Int32.toInt_inj.mp (by rw [← hv, e]; decide))
  have c1 : v ≠ 1 := fun e => c1 (Int32.toInt_inj.mp (by rw [← hv, e]; decide))
  have c2 : v ≠ 2 := fun e => c2 (Int32.toInt_inj.mp (by rw [← hv, e]; decide))
  have c3 : v ≠ 3 := fun e => c3 (Int32.toInt_inj.mp (by rw [← hv, e]; decide))
  rw [← hv] at z1 z2 ⊢
  rcases (show v = 0 ∨ v = 1 ∨ v = 2 ∨ v = 3 by omega) with rfl | rfl | rfl | rfl
  all_goals first | exact absurd rfl (by assumption) | decide
set_option maxRecDepth 100000 in
set_option maxHeartbeats 4000000 in
theorem sg_X10_named_0 {G : zG} {d : Nat} {h : zMem} {Q : Int32 → zMem → Prop} {x1 : Int32} {x2 : Int32} (hS : zSh2 h)  (B : (x1 = 0 → ∃ Q1 : Int32 → zMem → Prop, zConI G mX10_found d [.ref 135, .int (0 : Int32), .int (zI (zsI h 132 0 (0 : Int32)) 134 0), .int x2] (zsI h 132 0 (0 : Int32)) Q1 ∧ (∀ v4 h2, Q1 v4 h2 → zSh2 h2 ∧ Q v4 h2)) ∧ (x1 = 1 → ∃ Q5 : Int32 → zMem → Prop, zConI G mX10_found d [.ref 137, .int (0 : Int32), .int (zI (zsI h 132 0 (0 : Int32)) 134 1), .int x2] (zsI h 132 0 (0 : Int32)) Q5 ∧ (∀ v8 h6, Q5 v8 h6 → zSh2 h6 ∧ Q v8 h6)) ∧ (x1 = 2 → ∃ Q9 : Int32 → zMem → Prop, zConI G mX10_found d [.ref 140, .int (0 : Int32), .int (zI (zsI h 132 0 (0 : Int32)) 134 3), .int x2] (zsI h 132 0 (0 : Int32)) Q9 ∧ (∀ v12 h10, Q9 v12 h10 → zSh2 h10 ∧ Q v12 h10)) ∧ (x1 = 3 → ∃ Q13 : Int32 → zMem → Prop, zConI G mX10_found d [.ref 142, .int (0 : Int32), .int (zI (zsI h 132 0 (0 : Int32)) 134 4), .int x2] (zsI h 132 0 (0 : Int32)) Q13 ∧ (∀ v16 h14, Q13 v16 h14 → zSh2 h14 ∧ Q v16 h14)) ∧ (¬ x1 = 0 → ¬ x1 = 1 → ¬ x1 = 2 → ¬ x1 = 3 → Q (-1 : Int32) (zsI h 132 0 (0 : Int32)))) : zg G mX10_named (d + 1) 0 [.ref 132, .int x1, .int x2] [] h (zPI Q) := by
  refine z_aload_n 0 rfl rfl ?_
  refine z_iconst (v := 0) 1 rfl (by decide) ?_
  refine z_putI 2 rfl lX10_160 ⟨_, _, _, rfl, rfl⟩ rfl rfl rfl (zcl1.o hS 132 9 rfl rfl rfl) ?_
  refine z_iload_n 3 rfl rfl ?_
  by_cases c17_0 : x1 = 0
  · obtain ⟨B, -⟩ := B
    refine z_tableIn 4 36 rfl 0 (by rw [c17_0]; decide) (by decide) (by decide) rfl (by decide) ?_
    have B := B c17_0
    refine z_aload_n 5 rfl rfl ?_
    refine z_getR 6 rfl lX10_16 rfl (zcl1.o hS 132 9 rfl rfl rfl) (zcl1.r hS 132 4 135 rfl rfl rfl) ?_
    refine z_iconst (v := 0) 7 rfl (by decide) ?_
    refine z_aload_n 8 rfl rfl ?_
    refine z_getR 9 rfl lX10_13 rfl (zcl1.o hS 132 9 rfl rfl rfl) (zcl1.r hS 132 3 134 rfl rfl rfl) ?_
    refine z_iconst (v := 0) 10 rfl (by decide) ?_
    refine z_iald_c 11 0 rfl (by decide) (zcl1.o hS 134 100 rfl rfl rfl) (zin (zcl1.l hS 134 16 rfl rfl rfl) (zvp (by decide))) ?_
    refine z_iload_n 12 rfl rfl ?_
    obtain ⟨Q1, K3, B⟩ := B
    refine z_cSI4 (ν := mX10_found) 13 rfl rfl fX10_found gX10_226 (Nat.le_of_ble_eq_true rfl) K3 (fun v4 h2 q => ?_)
    obtain ⟨hSh2, B⟩ := B v4 h2 q
    exact z_iret 14 rfl rfl rfl ⟨rfl, rfl⟩ ⟨_, rfl, B⟩
  obtain ⟨-, B⟩ := B
  by_cases c17_1 : x1 = 1
  · obtain ⟨B, -⟩ := B
    refine z_tableIn 4 52 rfl 1 (by rw [c17_1]; decide) (by decide) (by decide) rfl (by decide) ?_
    have B := B c17_1
    refine z_aload_n 15 rfl rfl ?_
    refine z_getR 16 rfl lX10_22 rfl (zcl1.o hS 132 9 rfl rfl rfl) (zcl1.r hS 132 6 137 rfl rfl rfl) ?_
    refine z_iconst (v := 0) 17 rfl (by decide) ?_
    refine z_aload_n 18 rfl rfl ?_
    refine z_getR 19 rfl lX10_13 rfl (zcl1.o hS 132 9 rfl rfl rfl) (zcl1.r hS 132 3 134 rfl rfl rfl) ?_
    refine z_iconst (v := 1) 20 rfl (by decide) ?_
    refine z_iald_c 21 1 rfl (by decide) (zcl1.o hS 134 100 rfl rfl rfl) (zin (zcl1.l hS 134 16 rfl rfl rfl) (zvp (by decide))) ?_
    refine z_iload_n 22 rfl rfl ?_
    obtain ⟨Q5, K7, B⟩ := B
    refine z_cSI4 (ν := mX10_found) 23 rfl rfl fX10_found gX10_226 (Nat.le_of_ble_eq_true rfl) K7 (fun v8 h6 q => ?_)
    obtain ⟨hSh6, B⟩ := B v8 h6 q
    exact z_iret 24 rfl rfl rfl ⟨rfl, rfl⟩ ⟨_, rfl, B⟩
  obtain ⟨-, B⟩ := B
  by_cases c17_2 : x1 = 2
  · obtain ⟨B, -⟩ := B
    refine z_tableIn 4 68 rfl 2 (by rw [c17_2]; decide) (by decide) (by decide) rfl (by decide) ?_
    have B := B c17_2
    refine z_aload_n 25 rfl rfl ?_
    refine z_getR 26 rfl lX10_31 rfl (zcl1.o hS 132 9 rfl rfl rfl) (zcl1.r hS 132 9 140 rfl rfl rfl) ?_
    refine z_iconst (v := 0) 27 rfl (by decide) ?_
    refine z_aload_n 28 rfl rfl ?_
    refine z_getR 29 rfl lX10_13 rfl (zcl1.o hS 132 9 rfl rfl rfl) (zcl1.r hS 132 3 134 rfl rfl rfl) ?_
    refine z_iconst (v := 3) 30 rfl (by decide) ?_
    refine z_iald_c 31 3 rfl (by decide) (zcl1.o hS 134 100 rfl rfl rfl) (zin (zcl1.l hS 134 16 rfl rfl rfl) (zvp (by decide))) ?_
    refine z_iload_n 32 rfl rfl ?_
    obtain ⟨Q9, K11, B⟩ := B
    refine z_cSI4 (ν := mX10_found) 33 rfl rfl fX10_found gX10_226 (Nat.le_of_ble_eq_true rfl) K11 (fun v12 h10 q => ?_)
    obtain ⟨hSh10, B⟩ := B v12 h10 q
    exact z_iret 34 rfl rfl rfl ⟨rfl, rfl⟩ ⟨_, rfl, B⟩
  obtain ⟨-, B⟩ := B
  by_cases c17_3 : x1 = 3
  · obtain ⟨B, -⟩ := B
    refine z_tableIn 4 84 rfl 3 (by rw [c17_3]; decide) (by decide) (by decide) rfl (by decide) ?_
    have B := B c17_3
    refine z_aload_n 35 rfl rfl ?_
    refine z_getR 36 rfl lX10_37 rfl (zcl1.o hS 132 9 rfl rfl rfl) (zcl1.r hS 132 11 142 rfl rfl rfl) ?_
    refine z_iconst (v := 0) 37 rfl (by decide) ?_
    refine z_aload_n 38 rfl rfl ?_
    refine z_getR 39 rfl lX10_13 rfl (zcl1.o hS 132 9 rfl rfl rfl) (zcl1.r hS 132 3 134 rfl rfl rfl) ?_
    refine z_iconst (v := 4) 40 rfl (by decide) ?_
    refine z_iald_c 41 4 rfl (by decide) (zcl1.o hS 134 100 rfl rfl rfl) (zin (zcl1.l hS 134 16 rfl rfl rfl) (zvp (by decide))) ?_
    refine z_iload_n 42 rfl rfl ?_
    obtain ⟨Q13, K15, B⟩ := B
    refine z_cSI4 (ν := mX10_found) 43 rfl rfl fX10_found gX10_226 (Nat.le_of_ble_eq_true rfl) K15 (fun v16 h14 q => ?_)
    obtain ⟨hSh14, B⟩ := B v16 h14 q
    exact z_iret 44 rfl rfl rfl ⟨rfl, rfl⟩ ⟨_, rfl, B⟩
  obtain ⟨-, B⟩ := B
  have B := B c17_0 c17_1 c17_2 c17_3
  refine z_tableD 4 100 rfl (by decide) (by
    intro z1 z2
    refine zsw_X10_named_6 z1 z2 c17_0 c17_1 c17_2 c17_3) ?_
  refine z_iconst (v := -1) 45 rfl (by decide) ?_
  exact z_iret 46 rfl rfl rfl ⟨rfl, rfl⟩ ⟨_, rfl, B⟩
theorem cn_X10_named {G : zG} {d : Nat} {h : zMem} {Q : Int32 → zMem → Prop} {x1 : Int32} {x2 : Int32} (B : zg G mX10_named (d + 1) 0 [.ref 132, .int x1, .int x2] [] h (zPI Q)) : zConI G mX10_named (d + 1) [.ref 132, .int x1, .int x2] h Q := zcon0 (by decide +kernel) eX10_named (Nat.le_of_ble_eq_true rfl) rfl B
set_option maxRecDepth 100000 in
set_option maxHeartbeats 4000000 in
theorem sg_X10_is_0 {G : zG} {d : Nat} {h : zMem} {Q : Int64 → zMem → Prop} {x0 : Int32} (hS : zSh2 h)  (B : (x0 = 0 → Q (0 : Int64) h) ∧ (¬ x0 = 0 → Q (1 : Int64) h)) : zg G mX10_is d 0 [.int x0] [] h (zPL Q) := by
  refine z_iload_n 0 rfl rfl ?_
  refine z_if_eq 1 8 rfl (by decide) ⟨fun c1 => ?_, fun c1 => ?_⟩
  · have B := B.1 c1
    refine z_lconst (v := 0) 4 rfl (by decide) ?_
    exact z_lret 5 rfl rfl ⟨rfl, rfl⟩ ⟨_, rfl, B⟩
  · have B := B.2 c1
    refine z_lconst (v := 1) 2 rfl (by decide) ?_
    refine z_goto 3 9 rfl (by decide) ?_
    exact z_lret 5 rfl rfl ⟨rfl, rfl⟩ ⟨_, rfl, B⟩
theorem cn_X10_is {G : zG} {d : Nat} {h : zMem} {Q : Int64 → zMem → Prop} {x0 : Int32} (B : zg G mX10_is d 0 [.int x0] [] h (zPL Q)) : zConL G mX10_is d [.int x0] h Q := zcon0 (by decide +kernel) eX10_is (Nat.le_of_ble_eq_true rfl) rfl B
