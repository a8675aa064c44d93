set_option maxRecDepth 100000 in
set_option maxHeartbeats 4000000 in
theorem sg_X10_knot_0 {G : zG} {d : Nat} {h : zMem} {Q : zMem → Prop} {a0 : Nat} (B : zO h a0 9 ∧ ((zI h a0 25) = 0 → (¬ (zI h a0 30) = (64 : Int32) → Q (zsI h a0 30 ((zI h a0 30) + (1 : Int32)))) ∧ ((zI h a0 30) = (64 : Int32) → ∃ Q4 : zMem → Prop, zConV G mX10_wrong d [.ref a0, .int (2 : Int32)] h Q4 ∧ (∀ h5, Q4 h5 → Q h5))) ∧ (¬ (zI h a0 25) = 0 → Q h)) : zg G mX10_knot (d + 1) 0 [.ref a0] [] h (zPV Q) := by
  refine z_aload_n 0 rfl rfl ?_
  obtain ⟨o1, B⟩ := B
  refine z_getI 1 rfl lX10_214 rfl o1 ?_
  refine z_if_eq 2 8 rfl (by decide) ⟨fun c2 => ?_, fun c2 => ?_⟩
  · have B := B.1 c2
    refine z_aload_n 4 rfl rfl ?_
    refine z_getI 5 rfl lX10_279 rfl o1 ?_
    refine z_bipush (v := 64) 6 rfl (by decide) ?_
    refine z_icmp_ne 7 25 rfl (by decide) ⟨fun c3 => ?_, fun c3 => ?_⟩
    · have B := B.1 c3
      refine z_aload_n 12 rfl rfl ?_
      refine z_dup 13 rfl rfl ?_
      refine z_getI 14 rfl lX10_279 rfl o1 ?_
      refine z_iconst (v := 1) 15 rfl (by decide) ?_
      refine z_iadd 16 rfl ?_
      refine z_putI 17 rfl lX10_279 ⟨_, _, _, rfl, rfl⟩ rfl rfl rfl o1 ?_
      exact z_vret 18 rfl rfl ⟨rfl, rfl⟩ ⟨rfl, B⟩
    · have B := B.2 c3
      refine z_aload_n 8 rfl rfl ?_
      refine z_iconst (v := 2) 9 rfl (by decide) ?_
      obtain ⟨Q4, K6, B⟩ := B
      refine z_cVV1 (ν := mX10_wrong) 10 rfl rfl fX10_wrong gX10_223 ⟨_, rfl, rfl⟩ (by decide) o1 (Nat.le_of_ble_eq_true rfl) K6 (fun h5 q => ?_)
      have B := B h5 q
      refine z_goto 11 35 rfl (by decide) ?_
      exact z_vret 18 rfl rfl ⟨rfl, rfl⟩ ⟨rfl, B⟩
  · have B := B.2 c2
    exact z_vret 3 rfl rfl ⟨rfl, rfl⟩ ⟨rfl, B⟩
theorem cn_X10_knot {G : zG} {d : Nat} {h : zMem} {Q : zMem → Prop} {a0 : Nat} (B : zg G mX10_knot (d + 1) 0 [.ref a0] [] h (zPV Q)) : zConV G mX10_knot (d + 1) [.ref a0] h Q := zcon0 (by decide +kernel) eX10_knot (Nat.le_of_ble_eq_true rfl) rfl B
set_option maxRecDepth 100000 in
set_option maxHeartbeats 4000000 in
theorem sg_X10_expression_0 {G : zG} {d : Nat} {h : zMem} {Q : zMem → Prop} {a0 : Nat} (B : zO h a0 9 ∧ ∃ Q1 : zMem → Prop, zConV G mX10_conjunction d [.ref a0] h Q1 ∧ (∀ h2, Q1 h2 → zg G mX10_expression (d + 1) 4 [.ref a0] [] h2 (zPV Q))) : zg G mX10_expression (d + 1) 0 [.ref a0] [] h (zPV Q) := by
  refine z_aload_n 0 rfl rfl ?_
  obtain ⟨o4, B⟩ := B
  obtain ⟨Q1, K3, B⟩ := B
  refine z_cVV0 (ν := mX10_conjunction) 1 rfl rfl fX10_conjunction gX10_282 ⟨_, rfl, rfl⟩ (by decide) o4 (Nat.le_of_ble_eq_true rfl) K3 (fun h2 q => ?_)
  have B := B h2 q
  exact B
theorem cn_X10_expression {G : zG} {d : Nat} {h : zMem} {Q : zMem → Prop} {a0 : Nat} (B : zg G mX10_expression (d + 1) 0 [.ref a0] [] h (zPV Q)) : zConV G mX10_expression (d + 1) [.ref a0] h Q := zcon0 (by decide +kernel) eX10_expression (Nat.le_of_ble_eq_true rfl) rfl B
set_option maxRecDepth 100000 in
set_option maxHeartbeats 4000000 in
theorem sg_X10_expression_4 {G : zG} {d : Nat} {h : zMem} {Q : zMem → Prop} {a0 : Nat} (B : zO h a0 9 ∧ ∃ Q1 : Int32 → zMem → Prop, zConI G mX10_isWord d [.ref a0, .int (12 : Int32)] h Q1 ∧ (∀ v4 h2, Q1 v4 h2 → (v4 = 0 → Q h2) ∧ (¬ v4 = 0 → zO h2 a0 9 ∧ ∃ Q6 : zMem → Prop, zConV G mX10_knot d [.ref a0] h2 Q6 ∧ (∀ h7, Q6 h7 → zO h7 a0 9 ∧ ∃ Q9 : zMem → Prop, zConV G mX10_goOn d [.ref a0] h7 Q9 ∧ (∀ h10, Q9 h10 → zO h10 a0 9 ∧ ∃ Q12 : zMem → Prop, zConV G mX10_conjunction d [.ref a0] h10 Q12 ∧ (∀ h13, Q12 h13 → zO h13 a0 9 ∧ ∃ Q15 : zMem → Prop, zConV G mX10_puts d [.ref a0, .int (2 : Int32), .int (262 : Int32)] h13 Q15 ∧ (∀ h16, Q15 h16 → zg G mX10_expression (d + 1) 4 [.ref a0] [] h16 (zPV Q)))))))) : zg G mX10_expression (d + 1) 4 [.ref a0] [] h (zPV Q) := by
  refine z_aload_n 2 rfl rfl ?_
  refine z_bipush (v := 12) 3 rfl (by decide) ?_
  obtain ⟨o22, B⟩ := B
  obtain ⟨Q1, K3, B⟩ := B
  refine z_cVI1 (ν := mX10_isWord) 4 rfl rfl fX10_isWord gX10_273 ⟨_, rfl, rfl⟩ (by decide) o22 (Nat.le_of_ble_eq_true rfl) K3 (fun v4 h2 q => ?_)
  have B := B v4 h2 q
  refine z_if_eq 5 36 rfl (by decide) ⟨fun c5 => ?_, fun c5 => ?_⟩
  · have B := B.1 c5
    exact z_vret 17 rfl rfl ⟨rfl, rfl⟩ ⟨rfl, B⟩
  · have B := B.2 c5
    refine z_aload_n 6 rfl rfl ?_
    obtain ⟨o21, B⟩ := B
    obtain ⟨Q6, K8, B⟩ := B
    refine z_cVV0 (ν := mX10_knot) 7 rfl rfl fX10_knot gX10_285 ⟨_, rfl, rfl⟩ (by decide) o21 (Nat.le_of_ble_eq_true rfl) K8 (fun h7 q => ?_)
    have B := B h7 q
    refine z_aload_n 8 rfl rfl ?_
    obtain ⟨o20, B⟩ := B
    obtain ⟨Q9, K11, B⟩ := B
    refine z_cVV0 (ν := mX10_goOn) 9 rfl rfl fX10_goOn gX10_261 ⟨_, rfl, rfl⟩ (by decide) o20 (Nat.le_of_ble_eq_true rfl) K11 (fun h10 q => ?_)
    have B := B h10 q
    refine z_aload_n 10 rfl rfl ?_
    obtain ⟨o19, B⟩ := B
    obtain ⟨Q12, K14, B⟩ := B
    refine z_cVV0 (ν := mX10_conjunction) 11 rfl rfl fX10_conjunction gX10_282 ⟨_, rfl, rfl⟩ (by decide) o19 (Nat.le_of_ble_eq_true rfl) K14 (fun h13 q => ?_)
    have B := B h13 q
    refine z_aload_n 12 rfl rfl ?_
    refine z_iconst (v := 2) 13 rfl (by decide) ?_
    refine z_sipush (v := 262) 14 rfl (by decide) ?_
    obtain ⟨o18, B⟩ := B
    obtain ⟨Q15, K17, B⟩ := B
    refine z_cVV2 (ν := mX10_puts) 15 rfl rfl fX10_puts gX10_288 ⟨_, rfl, rfl⟩ (by decide) o18 (Nat.le_of_ble_eq_true rfl) K17 (fun h16 q => ?_)
    have B := B h16 q
    refine z_goto 16 4 rfl (by decide) ?_
    exact B
set_option maxRecDepth 100000 in
set_option maxHeartbeats 4000000 in
theorem sg_X10_conjunction_0 {G : zG} {d : Nat} {h : zMem} {Q : zMem → Prop} {a0 : Nat} (B : zO h a0 9 ∧ ∃ Q1 : zMem → Prop, zConV G mX10_negation d [.ref a0] h Q1 ∧ (∀ h2, Q1 h2 → zg G mX10_conjunction (d + 1) 4 [.ref a0] [] h2 (zPV Q))) : zg G mX10_conjunction (d + 1) 0 [.ref a0] [] h (zPV Q) := by
  refine z_aload_n 0 rfl rfl ?_
  obtain ⟨o4, B⟩ := B
  obtain ⟨Q1, K3, B⟩ := B
  refine z_cVV0 (ν := mX10_negation) 1 rfl rfl fX10_negation gX10_291 ⟨_, rfl, rfl⟩ (by decide) o4 (Nat.le_of_ble_eq_true rfl) K3 (fun h2 q => ?_)
  have B := B h2 q
  exact B
theorem cn_X10_conjunction {G : zG} {d : Nat} {h : zMem} {Q : zMem → Prop} {a0 : Nat} (B : zg G mX10_conjunction (d + 1) 0 [.ref a0] [] h (zPV Q)) : zConV G mX10_conjunction (d + 1) [.ref a0] h Q := zcon0 (by decide +kernel) eX10_conjunction (Nat.le_of_ble_eq_true rfl) rfl B
set_option maxRecDepth 100000 in
set_option maxHeartbeats 4000000 in
theorem sg_X10_conjunction_4 {G : zG} {d : Nat} {h : zMem} {Q : zMem → Prop} {a0 : Nat} (B : zO h a0 9 ∧ ∃ Q1 : Int32 → zMem → Prop, zConI G mX10_isWord d [.ref a0, .int (13 : Int32)] h Q1 ∧ (∀ v4 h2, Q1 v4 h2 → (v4 = 0 → Q h2) ∧ (¬ v4 = 0 → zO h2 a0 9 ∧ ∃ Q6 : zMem → Prop, zConV G mX10_knot d [.ref a0] h2 Q6 ∧ (∀ h7, Q6 h7 → zO h7 a0 9 ∧ ∃ Q9 : zMem → Prop, zConV G mX10_goOn d [.ref a0] h7 Q9 ∧ (∀ h10, Q9 h10 → zO h10 a0 9 ∧ ∃ Q12 : zMem → Prop, zConV G mX10_negation d [.ref a0] h10 Q12 ∧ (∀ h13, Q12 h13 → zO h13 a0 9 ∧ ∃ Q15 : zMem → Prop, zConV G mX10_puts d [.ref a0, .int (2 : Int32), .int (261 : Int32)] h13 Q15 ∧ (∀ h16, Q15 h16 → zg G mX10_conjunction (d + 1) 4 [.ref a0] [] h16 (zPV Q)))))))) : zg G mX10_conjunction (d + 1) 4 [.ref a0] [] h (zPV Q) := by
  refine z_aload_n 2 rfl rfl ?_
  refine z_bipush (v := 13) 3 rfl (by decide) ?_
  obtain ⟨o22, B⟩ := B
  obtain ⟨Q1, K3, B⟩ := B
  refine z_cVI1 (ν := mX10_isWord) 4 rfl rfl fX10_isWord gX10_273 ⟨_, rfl, rfl⟩ (by decide) o22 (Nat.le_of_ble_eq_true rfl) K3 (fun v4 h2 q => ?_)
  have B := B v4 h2 q
  refine z_if_eq 5 36 rfl (by decide) ⟨fun c5 => ?_, fun c5 => ?_⟩
  · have B := B.1 c5
    exact z_vret 17 rfl rfl ⟨rfl, rfl⟩ ⟨rfl, B⟩
  · have B := B.2 c5
    refine z_aload_n 6 rfl rfl ?_
    obtain ⟨o21, B⟩ := B
    obtain ⟨Q6, K8, B⟩ := B
    refine z_cVV0 (ν := mX10_knot) 7 rfl rfl fX10_knot gX10_285 ⟨_, rfl, rfl⟩ (by decide) o21 (Nat.le_of_ble_eq_true rfl) K8 (fun h7 q => ?_)
    have B := B h7 q
    refine z_aload_n 8 rfl rfl ?_
    obtain ⟨o20, B⟩ := B
    obtain ⟨Q9, K11, B⟩ := B
    refine z_cVV0 (ν := mX10_goOn) 9 rfl rfl fX10_goOn gX10_261 ⟨_, rfl, rfl⟩ (by decide) o20 (Nat.le_of_ble_eq_true rfl) K11 (fun h10 q => ?_)
    have B := B h10 q
    refine z_aload_n 10 rfl rfl ?_
    obtain ⟨o19, B⟩ := B
    obtain ⟨Q12, K14, B⟩ := B
    refine z_cVV0 (ν := mX10_negation) 11 rfl rfl fX10_negation gX10_291 ⟨_, rfl, rfl⟩ (by decide) o19 (Nat.le_of_ble_eq_true rfl) K14 (fun h13 q => ?_)
    have B := B h13 q
    refine z_aload_n 12 rfl rfl ?_
    refine z_iconst (v := 2) 13 rfl (by decide) ?_
    refine z_sipush (v := 261) 14 rfl (by decide) ?_
    obtain ⟨o18, B⟩ := B
    obtain ⟨Q15, K17, B⟩ := B
    refine z_cVV2 (ν := mX10_puts) 15 rfl rfl fX10_puts gX10_288 ⟨_, rfl, rfl⟩ (by decide) o18 (Nat.le_of_ble_eq_true rfl) K17 (fun h16 q => ?_)
    have B := B h16 q
    refine z_goto 16 4 rfl (by decide) ?_
    exact B
set_option maxRecDepth 100000 in
set_option maxHeartbeats 4000000 in
theorem sg_X10_negation_0 {G : zG} {d : Nat} {h : zMem} {Q : zMem → Prop} {a0 : Nat} (B : zO h a0 9 ∧ ∃ Q1 : Int32 → zMem → Prop, zConI G mX10_isWord d [.ref a0, .int (14 : Int32)] h Q1 ∧ (∀ v4 h2, Q1 v4 h2 → (v4 = 0 → zO h2 a0 9 ∧ ∃ Q6 : zMem → Prop, zConV G mX10_sum d [.ref a0] h2 Q6 ∧ (∀ h7, Q6 h7 → zO h7 a0 9 ∧ (¬ (zI h7 a0 25) = 0 → Q h7) ∧ ((zI h7 a0 25) = 0 → (¬ (zI h7 a0 23) = (3 : Int32) → Q h7) ∧ ((zI h7 a0 23) = (3 : Int32) → ((zI h7 a0 24) = (60 : Int32) → ∃ Q13 : zMem → Prop, zConV G mX10_knot d [.ref a0] h7 Q13 ∧ (∀ h14, Q13 h14 → zO h14 a0 9 ∧ ∃ Q16 : zMem → Prop, zConV G mX10_goOn d [.ref a0] h14 Q16 ∧ (∀ h17, Q16 h17 → zO h17 a0 9 ∧ ∃ Q19 : zMem → Prop, zConV G mX10_sum d [.ref a0] h17 Q19 ∧ (∀ h20, Q19 h20 → zO h20 a0 9 ∧ ∃ Q22 : zMem → Prop, zConV G mX10_puts d [.ref a0, .int (2 : Int32), .int (zI h7 a0 24)] h20 Q22 ∧ (∀ h23, Q22 h23 → Q h23))))) ∧ (¬ (zI h7 a0 24) = (60 : Int32) → ((zI h7 a0 24) = (62 : Int32) → ∃ Q29 : zMem → Prop, zConV G mX10_knot d [.ref a0] h7 Q29 ∧ (∀ h30, Q29 h30 → zO h30 a0 9 ∧ ∃ Q32 : zMem → Prop, zConV G mX10_goOn d [.ref a0] h30 Q32 ∧ (∀ h33, Q32 h33 → zO h33 a0 9 ∧ ∃ Q35 : zMem → Prop, zConV G mX10_sum d [.ref a0] h33 Q35 ∧ (∀ h36, Q35 h36 → zO h36 a0 9 ∧ ∃ Q38 : zMem → Prop, zConV G mX10_puts d [.ref a0, .int (2 : Int32), .int (zI h7 a0 24)] h36 Q38 ∧ (∀ h39, Q38 h39 → Q h39))))) ∧ (¬ (zI h7 a0 24) = (62 : Int32) → ((zI h7 a0 24) = (61 : Int32) → ∃ Q45 : zMem → Prop, zConV G mX10_knot d [.ref a0] h7 Q45 ∧ (∀ h46, Q45 h46 → zO h46 a0 9 ∧ ∃ Q48 : zMem → Prop, zConV G mX10_goOn d [.ref a0] h46 Q48 ∧ (∀ h49, Q48 h49 → zO h49 a0 9 ∧ ∃ Q51 : zMem → Prop, zConV G mX10_sum d [.ref a0] h49 Q51 ∧ (∀ h52, Q51 h52 → zO h52 a0 9 ∧ ∃ Q54 : zMem → Prop, zConV G mX10_puts d [.ref a0, .int (2 : Int32), .int (zI h7 a0 24)] h52 Q54 ∧ (∀ h55, Q54 h55 → Q h55))))) ∧ (¬ (zI h7 a0 24) = (61 : Int32) → ((256 : Int32) ≤ (zI h7 a0 24) → ∃ Q61 : zMem → Prop, zConV G mX10_knot d [.ref a0] h7 Q61 ∧ (∀ h62, Q61 h62 → zO h62 a0 9 ∧ ∃ Q64 : zMem → Prop, zConV G mX10_goOn d [.ref a0] h62 Q64 ∧ (∀ h65, Q64 h65 → zO h65 a0 9 ∧ ∃ Q67 : zMem → Prop, zConV G mX10_sum d [.ref a0] h65 Q67 ∧ (∀ h68, Q67 h68 → zO h68 a0 9 ∧ ∃ Q70 : zMem → Prop, zConV G mX10_puts d [.ref a0, .int (2 : Int32), .int (zI h7 a0 24)] h68 Q70 ∧ (∀ h71, Q70 h71 → Q h71))))) ∧ (¬ (256 : Int32) ≤ (zI h7 a0 24) → Q h7)))))))) ∧ (¬ v4 = 0 → zO h2 a0 9 ∧ ∃ Q77 : zMem → Prop, zConV G mX10_knot d [.ref a0] h2 Q77 ∧ (∀ h78, Q77 h78 → zO h78 a0 9 ∧ ∃ Q80 : zMem → Prop, zConV G mX10_goOn d [.ref a0] h78 Q80 ∧ (∀ h81, Q80 h81 → zO h81 a0 9 ∧ ∃ Q83 : zMem → Prop, zConV G mX10_negation d [.ref a0] h81 Q83 ∧ (∀ h84, Q83 h84 → zO h84 a0 9 ∧ ∃ Q86 : zMem → Prop, zConV G mX10_puts d [.ref a0, .int (2 : Int32), .int (260 : Int32)] h84 Q86 ∧ (∀ h87, Q86 h87 → Q h87))))))) : zg G mX10_negation (d + 1) 0 [.ref a0, zU] [] h (zPV Q) := by
  refine z_aload_n 0 rfl rfl ?_
  refine z_bipush (v := 14) 1 rfl (by decide) ?_
  obtain ⟨o93, B⟩ := B
  obtain ⟨Q1, K3, B⟩ := B
  refine z_cVI1 (ν := mX10_isWord) 2 rfl rfl fX10_isWord gX10_273 ⟨_, rfl, rfl⟩ (by decide) o93 (Nat.le_of_ble_eq_true rfl) K3 (fun v4 h2 q => ?_)
  have B := B v4 h2 q
  refine z_if_eq 3 30 rfl (by decide) ⟨fun c5 => ?_, fun c5 => ?_⟩
  · have B := B.1 c5
    refine z_aload_n 15 rfl rfl ?_
    obtain ⟨o76, B⟩ := B
    obtain ⟨Q6, K8, B⟩ := B
    refine z_cVV0 (ν := mX10_sum) 16 rfl rfl fX10_sum gX10_294 ⟨_, rfl, rfl⟩ (by decide) o76 (Nat.le_of_ble_eq_true rfl) K8 (fun h7 q => ?_)
    have B := B h7 q
    refine z_aload_n 17 rfl rfl ?_
    obtain ⟨o9, B⟩ := B
    refine z_getI 18 rfl lX10_214 rfl o9 ?_
    refine z_if_ne 19 86 rfl (by decide) ⟨fun c10 => ?_, fun c10 => ?_⟩
    · have B := B.1 c10
      exact z_vret 40 rfl rfl ⟨rfl, rfl⟩ ⟨rfl, B⟩
    · have B := B.2 c10
      refine z_aload_n 20 rfl rfl ?_
      refine z_getI 21 rfl lX10_179 rfl o9 ?_
      refine z_iconst (v := 3) 22 rfl (by decide) ?_
      refine z_icmp_ne 23 86 rfl (by decide) ⟨fun c11 => ?_, fun c11 => ?_⟩
      · have B := B.1 c11
        exact z_vret 40 rfl rfl ⟨rfl, rfl⟩ ⟨rfl, B⟩
      · have B := B.2 c11
        refine z_aload_n 24 rfl rfl ?_
        refine z_getI 25 rfl lX10_189 rfl o9 ?_
        refine z_bipush (v := 60) 26 rfl (by decide) ?_
        refine z_icmp_eq 27 87 rfl (by decide) ⟨fun c12 => ?_, fun c12 => ?_⟩
        · have B := B.1 c12
          refine z_aload_n 41 rfl rfl ?_
          refine z_getI 42 rfl lX10_189 rfl o9 ?_
          refine z_istore_n 43 rfl (by decide) rfl ?_
          refine z_aload_n 44 rfl rfl ?_
          obtain ⟨Q13, K15, B⟩ := B
          refine z_cVV0 (ν := mX10_knot) 45 rfl rfl fX10_knot gX10_285 ⟨_, rfl, rfl⟩ (by decide) o9 (Nat.le_of_ble_eq_true rfl) K15 (fun h14 q => ?_)
          have B := B h14 q
          refine z_aload_n 46 rfl rfl ?_
          obtain ⟨o27, B⟩ := B
          obtain ⟨Q16, K18, B⟩ := B
          refine z_cVV0 (ν := mX10_goOn) 47 rfl rfl fX10_goOn gX10_261 ⟨_, rfl, rfl⟩ (by decide) o27 (Nat.le_of_ble_eq_true rfl) K18 (fun h17 q => ?_)
          have B := B h17 q
          refine z_aload_n 48 rfl rfl ?_
          obtain ⟨o26, B⟩ := B
          obtain ⟨Q19, K21, B⟩ := B
          refine z_cVV0 (ν := mX10_sum) 49 rfl rfl fX10_sum gX10_294 ⟨_, rfl, rfl⟩ (by decide) o26 (Nat.le_of_ble_eq_true rfl) K21 (fun h20 q => ?_)
          have B := B h20 q
          refine z_aload_n 50 rfl rfl ?_
          refine z_iconst (v := 2) 51 rfl (by decide) ?_
          refine z_iload_n 52 rfl rfl ?_
          obtain ⟨o25, B⟩ := B
          obtain ⟨Q22, K24, B⟩ := B
          refine z_cVV2 (ν := mX10_puts) 53 rfl rfl fX10_puts gX10_288 ⟨_, rfl, rfl⟩ (by decide) o25 (Nat.le_of_ble_eq_true rfl) K24 (fun h23 q => ?_)
          have B := B h23 q
          exact z_vret 54 rfl rfl ⟨rfl, rfl⟩ ⟨rfl, B⟩
        · have B := B.2 c12
          refine z_aload_n 28 rfl rfl ?_
          refine z_getI 29 rfl lX10_189 rfl o9 ?_
          refine z_bipush (v := 62) 30 rfl (by decide) ?_
          refine z_icmp_eq 31 87 rfl (by decide) ⟨fun c28 => ?_, fun c28 => ?_⟩
          · have B := B.1 c28
            refine z_aload_n 41 rfl rfl ?_
            refine z_getI 42 rfl lX10_189 rfl o9 ?_
            refine z_istore_n 43 rfl (by decide) rfl ?_
            refine z_aload_n 44 rfl rfl ?_
            obtain ⟨Q29, K31, B⟩ := B
            refine z_cVV0 (ν := mX10_knot) 45 rfl rfl fX10_knot gX10_285 ⟨_, rfl, rfl⟩ (by decide) o9 (Nat.le_of_ble_eq_true rfl) K31 (fun h30 q => ?_)
            have B := B h30 q
            refine z_aload_n 46 rfl rfl ?_
            obtain ⟨o43, B⟩ := B
            obtain ⟨Q32, K34, B⟩ := B
            refine z_cVV0 (ν := mX10_goOn) 47 rfl rfl fX10_goOn gX10_261 ⟨_, rfl, rfl⟩ (by decide) o43 (Nat.le_of_ble_eq_true rfl) K34 (fun h33 q => ?_)
            have B := B h33 q
            refine z_aload_n 48 rfl rfl ?_
            obtain ⟨o42, B⟩ := B
            obtain ⟨Q35, K37, B⟩ := B
            refine z_cVV0 (ν := mX10_sum) 49 rfl rfl fX10_sum gX10_294 ⟨_, rfl, rfl⟩ (by decide) o42 (Nat.le_of_ble_eq_true rfl) K37 (fun h36 q => ?_)
            have B := B h36 q
            refine z_aload_n 50 rfl rfl ?_
            refine z_iconst (v := 2) 51 rfl (by decide) ?_
            refine z_iload_n 52 rfl rfl ?_
            obtain ⟨o41, B⟩ := B
            obtain ⟨Q38, K40, B⟩ := B
            refine z_cVV2 (ν := mX10_puts) 53 rfl rfl fX10_puts gX10_288 ⟨_, rfl, rfl⟩ (by decide) o41 (Nat.le_of_ble_eq_true rfl) K40 (fun h39 q => ?_)
            have B := B h39 q
            exact z_vret 54 rfl rfl ⟨rfl, rfl⟩ ⟨rfl, B⟩
          · have B := B.2 c28
            refine z_aload_n 32 rfl rfl ?_
            refine z_getI 33 rfl lX10_189 rfl o9 ?_
            refine z_bipush (v := 61) 34 rfl (by decide) ?_
            refine z_icmp_eq 35 87 rfl (by decide) ⟨fun c44 => ?_, fun c44 => ?_⟩
            · have B := B.1 c44
              refine z_aload_n 41 rfl rfl ?_
              refine z_getI 42 rfl lX10_189 rfl o9 ?_
              refine z_istore_n 43 rfl (by decide) rfl ?_
              refine z_aload_n 44 rfl rfl ?_
              obtain ⟨Q45, K47, B⟩ := B
              refine z_cVV0 (ν := mX10_knot) 45 rfl rfl fX10_knot gX10_285 ⟨_, rfl, rfl⟩ (by decide) o9 (Nat.le_of_ble_eq_true rfl) K47 (fun h46 q => ?_)
              have B := B h46 q
              refine z_aload_n 46 rfl rfl ?_
              obtain ⟨o59, B⟩ := B
              obtain ⟨Q48, K50, B⟩ := B
              refine z_cVV0 (ν := mX10_goOn) 47 rfl rfl fX10_goOn gX10_261 ⟨_, rfl, rfl⟩ (by decide) o59 (Nat.le_of_ble_eq_true rfl) K50 (fun h49 q => ?_)
              have B := B h49 q
              refine z_aload_n 48 rfl rfl ?_
              obtain ⟨o58, B⟩ := B
              obtain ⟨Q51, K53, B⟩ := B
              refine z_cVV0 (ν := mX10_sum) 49 rfl rfl fX10_sum gX10_294 ⟨_, rfl, rfl⟩ (by decide) o58 (Nat.le_of_ble_eq_true rfl) K53 (fun h52 q => ?_)
              have B := B h52 q
              refine z_aload_n 50 rfl rfl ?_
              refine z_iconst (v := 2) 51 rfl (by decide) ?_
              refine z_iload_n 52 rfl rfl ?_
              obtain ⟨o57, B⟩ := B
              obtain ⟨Q54, K56, B⟩ := B
              refine z_cVV2 (ν := mX10_puts) 53 rfl rfl fX10_puts gX10_288 ⟨_, rfl, rfl⟩ (by decide) o57 (Nat.le_of_ble_eq_true rfl) K56 (fun h55 q => ?_)
              have B := B h55 q
              exact z_vret 54 rfl rfl ⟨rfl, rfl⟩ ⟨rfl, B⟩
            · have B := B.2 c44
              refine z_aload_n 36 rfl rfl ?_
              refine z_getI 37 rfl lX10_189 rfl o9 ?_
              refine z_sipush (v := 256) 38 rfl (by decide) ?_
              refine z_icmp_ge 39 87 rfl (by decide) ⟨fun c60 => ?_, fun c60 => ?_⟩
              · have B := B.1 c60
                refine z_aload_n 41 rfl rfl ?_
                refine z_getI 42 rfl lX10_189 rfl o9 ?_
                refine z_istore_n 43 rfl (by decide) rfl ?_
                refine z_aload_n 44 rfl rfl ?_
                obtain ⟨Q61, K63, B⟩ := B
                refine z_cVV0 (ν := mX10_knot) 45 rfl rfl fX10_knot gX10_285 ⟨_, rfl, rfl⟩ (by decide) o9 (Nat.le_of_ble_eq_true rfl) K63 (fun h62 q => ?_)
                have B := B h62 q
                refine z_aload_n 46 rfl rfl ?_
                obtain ⟨o75, B⟩ := B
                obtain ⟨Q64, K66, B⟩ := B
                refine z_cVV0 (ν := mX10_goOn) 47 rfl rfl fX10_goOn gX10_261 ⟨_, rfl, rfl⟩ (by decide) o75 (Nat.le_of_ble_eq_true rfl) K66 (fun h65 q => ?_)
                have B := B h65 q
                refine z_aload_n 48 rfl rfl ?_
                obtain ⟨o74, B⟩ := B
                obtain ⟨Q67, K69, B⟩ := B
                refine z_cVV0 (ν := mX10_sum) 49 rfl rfl fX10_sum gX10_294 ⟨_, rfl, rfl⟩ (by decide) o74 (Nat.le_of_ble_eq_true rfl) K69 (fun h68 q => ?_)
                have B := B h68 q
                refine z_aload_n 50 rfl rfl ?_
                refine z_iconst (v := 2) 51 rfl (by decide) ?_
                refine z_iload_n 52 rfl rfl ?_
                obtain ⟨o73, B⟩ := B
                obtain ⟨Q70, K72, B⟩ := B
                refine z_cVV2 (ν := mX10_puts) 53 rfl rfl fX10_puts gX10_288 ⟨_, rfl, rfl⟩ (by decide) o73 (Nat.le_of_ble_eq_true rfl) K72 (fun h71 q => ?_)
                have B := B h71 q
                exact z_vret 54 rfl rfl ⟨rfl, rfl⟩ ⟨rfl, B⟩
              · have B := B.2 c60
                exact z_vret 40 rfl rfl ⟨rfl, rfl⟩ ⟨rfl, B⟩
  · have B := B.2 c5
    refine z_aload_n 4 rfl rfl ?_
    obtain ⟨o92, B⟩ := B
    obtain ⟨Q77, K79, B⟩ := B
    refine z_cVV0 (ν := mX10_knot) 5 rfl rfl fX10_knot gX10_285 ⟨_, rfl, rfl⟩ (by decide) o92 (Nat.le_of_ble_eq_true rfl) K79 (fun h78 q => ?_)
    have B := B h78 q
    refine z_aload_n 6 rfl rfl ?_
    obtain ⟨o91, B⟩ := B
    obtain ⟨Q80, K82, B⟩ := B
    refine z_cVV0 (ν := mX10_goOn) 7 rfl rfl fX10_goOn gX10_261 ⟨_, rfl, rfl⟩ (by decide) o91 (Nat.le_of_ble_eq_true rfl) K82 (fun h81 q => ?_)
    have B := B h81 q
    refine z_aload_n 8 rfl rfl ?_
    obtain ⟨o90, B⟩ := B
    obtain ⟨Q83, K85, B⟩ := B
    refine z_cVV0 (ν := mX10_negation) 9 rfl rfl fX10_negation gX10_291 ⟨_, rfl, rfl⟩ (by decide) o90 (Nat.le_of_ble_eq_true rfl) K85 (fun h84 q => ?_)
    have B := B h84 q
    refine z_aload_n 10 rfl rfl ?_
    refine z_iconst (v := 2) 11 rfl (by decide) ?_
    refine z_sipush (v := 260) 12 rfl (by decide) ?_
    obtain ⟨o89, B⟩ := B
    obtain ⟨Q86, K88, B⟩ := B
    refine z_cVV2 (ν := mX10_puts) 13 rfl rfl fX10_puts gX10_288 ⟨_, rfl, rfl⟩ (by decide) o89 (Nat.le_of_ble_eq_true rfl) K88 (fun h87 q => ?_)
    have B := B h87 q
    exact z_vret 14 rfl rfl ⟨rfl, rfl⟩ ⟨rfl, B⟩
theorem cn_X10_negation {G : zG} {d : Nat} {h : zMem} {Q : zMem → Prop} {a0 : Nat} (B : zg G mX10_negation (d + 1) 0 [.ref a0, zU] [] h (zPV Q)) : zConV G mX10_negation (d + 1) [.ref a0] h Q := zcon0 (by decide +kernel) eX10_negation (Nat.le_of_ble_eq_true rfl) rfl B
set_option maxRecDepth 100000 in
set_option maxHeartbeats 4000000 in
theorem sg_X10_sum_0 {G : zG} {d : Nat} {h : zMem} {Q : zMem → Prop} {a0 : Nat} (B : zO h a0 9 ∧ ∃ Q1 : zMem → Prop, zConV G mX10_product d [.ref a0] h Q1 ∧ (∀ h2, Q1 h2 → zg G mX10_sum (d + 1) 4 [.ref a0, zU] [] h2 (zPV Q))) : zg G mX10_sum (d + 1) 0 [.ref a0, zU] [] h (zPV Q) := by
  refine z_aload_n 0 rfl rfl ?_
  obtain ⟨o4, B⟩ := B
  obtain ⟨Q1, K3, B⟩ := B
  refine z_cVV0 (ν := mX10_product) 1 rfl rfl fX10_product gX10_297 ⟨_, rfl, rfl⟩ (by decide) o4 (Nat.le_of_ble_eq_true rfl) K3 (fun h2 q => ?_)
  have B := B h2 q
  exact B
theorem cn_X10_sum {G : zG} {d : Nat} {h : zMem} {Q : zMem → Prop} {a0 : Nat} (B : zg G mX10_sum (d + 1) 0 [.ref a0, zU] [] h (zPV Q)) : zConV G mX10_sum (d + 1) [.ref a0] h Q := zcon0 (by decide +kernel) eX10_sum (Nat.le_of_ble_eq_true rfl) rfl B
set_option maxRecDepth 100000 in
set_option maxHeartbeats 4000000 in
theorem sg_X10_sum_4 {G : zG} {d : Nat} {h : zMem} {Q : zMem → Prop} {a0 : Nat} (B : zO h a0 9 ∧ ∃ Q1 : Int32 → zMem → Prop, zConI G mX10_isSign d [.ref a0, .int (43 : Int32)] h Q1 ∧ (∀ v4 h2, Q1 v4 h2 → (¬ v4 = 0 → zO h2 a0 9 ∧ ∃ Q7 : zMem → Prop, zConV G mX10_knot d [.ref a0] h2 Q7 ∧ (∀ h8, Q7 h8 → zO h8 a0 9 ∧ ∃ Q10 : zMem → Prop, zConV G mX10_goOn d [.ref a0] h8 Q10 ∧ (∀ h11, Q10 h11 → zO h11 a0 9 ∧ ∃ Q13 : zMem → Prop, zConV G mX10_product d [.ref a0] h11 Q13 ∧ (∀ h14, Q13 h14 → zO h14 a0 9 ∧ ∃ Q16 : zMem → Prop, zConV G mX10_puts d [.ref a0, .int (2 : Int32), .int (zI h2 a0 24)] h14 Q16 ∧ (∀ h17, Q16 h17 → zg G mX10_sum (d + 1) 4 [.ref a0, zU] [] h17 (zPV Q)))))) ∧ (v4 = 0 → zO h2 a0 9 ∧ ∃ Q22 : Int32 → zMem → Prop, zConI G mX10_isSign d [.ref a0, .int (45 : Int32)] h2 Q22 ∧ (∀ v25 h23, Q22 v25 h23 → (v25 = 0 → Q h23) ∧ (¬ v25 = 0 → zO h23 a0 9 ∧ ∃ Q28 : zMem → Prop, zConV G mX10_knot d [.ref a0] h23 Q28 ∧ (∀ h29, Q28 h29 → zO h29 a0 9 ∧ ∃ Q31 : zMem → Prop, zConV G mX10_goOn d [.ref a0] h29 Q31 ∧ (∀ h32, Q31 h32 → zO h32 a0 9 ∧ ∃ Q34 : zMem → Prop, zConV G mX10_product d [.ref a0] h32 Q34 ∧ (∀ h35, Q34 h35 → zO h35 a0 9 ∧ ∃ Q37 : zMem → Prop, zConV G mX10_puts d [.ref a0, .int (2 : Int32), .int (zI h23 a0 24)] h35 Q37 ∧ (∀ h38, Q37 h38 → zg G mX10_sum (d + 1) 4 [.ref a0, zU] [] h38 (zPV Q)))))))))) : zg G mX10_sum (d + 1) 4 [.ref a0, zU] [] h (zPV Q) := by
  refine z_aload_n 2 rfl rfl ?_
  refine z_bipush (v := 43) 3 rfl (by decide) ?_
  obtain ⟨o44, B⟩ := B
  obtain ⟨Q1, K3, B⟩ := B
  refine z_cVI1 (ν := mX10_isSign) 4 rfl rfl fX10_isSign gX10_267 ⟨_, rfl, rfl⟩ (by decide) o44 (Nat.le_of_ble_eq_true rfl) K3 (fun v4 h2 q => ?_)
  have B := B v4 h2 q
  refine z_if_ne 5 22 rfl (by decide) ⟨fun c5 => ?_, fun c5 => ?_⟩
  · have B := B.1 c5
    refine z_aload_n 10 rfl rfl ?_
    obtain ⟨o6, B⟩ := B
    refine z_getI 11 rfl lX10_189 rfl o6 ?_
    refine z_istore_n 12 rfl (by decide) rfl ?_
    refine z_aload_n 13 rfl rfl ?_
    obtain ⟨Q7, K9, B⟩ := B
    refine z_cVV0 (ν := mX10_knot) 14 rfl rfl fX10_knot gX10_285 ⟨_, rfl, rfl⟩ (by decide) o6 (Nat.le_of_ble_eq_true rfl) K9 (fun h8 q => ?_)
    have B := B h8 q
    refine z_aload_n 15 rfl rfl ?_
    obtain ⟨o21, B⟩ := B
    obtain ⟨Q10, K12, B⟩ := B
    refine z_cVV0 (ν := mX10_goOn) 16 rfl rfl fX10_goOn gX10_261 ⟨_, rfl, rfl⟩ (by decide) o21 (Nat.le_of_ble_eq_true rfl) K12 (fun h11 q => ?_)
    have B := B h11 q
    refine z_aload_n 17 rfl rfl ?_
    obtain ⟨o20, B⟩ := B
    obtain ⟨Q13, K15, B⟩ := B
    refine z_cVV0 (ν := mX10_product) 18 rfl rfl fX10_product gX10_297 ⟨_, rfl, rfl⟩ (by decide) o20 (Nat.le_of_ble_eq_true rfl) K15 (fun h14 q => ?_)
    have B := B h14 q
    refine z_aload_n 19 rfl rfl ?_
    refine z_iconst (v := 2) 20 rfl (by decide) ?_
    refine z_iload_n 21 rfl rfl ?_
    obtain ⟨o19, B⟩ := B
    obtain ⟨Q16, K18, B⟩ := B
    refine z_cVV2 (ν := mX10_puts) 22 rfl rfl fX10_puts gX10_288 ⟨_, rfl, rfl⟩ (by decide) o19 (Nat.le_of_ble_eq_true rfl) K18 (fun h17 q => ?_)
    have B := B h17 q
    refine z_goto 23 4 rfl (by decide) ?_
    refine z_drop 1 ?_
    exact B
  · have B := B.2 c5
    refine z_aload_n 6 rfl rfl ?_
    refine z_bipush (v := 45) 7 rfl (by decide) ?_
    obtain ⟨o43, B⟩ := B
    obtain ⟨Q22, K24, B⟩ := B
    refine z_cVI1 (ν := mX10_isSign) 8 rfl rfl fX10_isSign gX10_267 ⟨_, rfl, rfl⟩ (by decide) o43 (Nat.le_of_ble_eq_true rfl) K24 (fun v25 h23 q => ?_)
    have B := B v25 h23 q
    refine z_if_eq 9 48 rfl (by decide) ⟨fun c26 => ?_, fun c26 => ?_⟩
    · have B := B.1 c26
      exact z_vret 24 rfl rfl ⟨rfl, rfl⟩ ⟨rfl, B⟩
    · have B := B.2 c26
      refine z_aload_n 10 rfl rfl ?_
      obtain ⟨o27, B⟩ := B
      refine z_getI 11 rfl lX10_189 rfl o27 ?_
      refine z_istore_n 12 rfl (by decide) rfl ?_
      refine z_aload_n 13 rfl rfl ?_
      obtain ⟨Q28, K30, B⟩ := B
      refine z_cVV0 (ν := mX10_knot) 14 rfl rfl fX10_knot gX10_285 ⟨_, rfl, rfl⟩ (by decide) o27 (Nat.le_of_ble_eq_true rfl) K30 (fun h29 q => ?_)
      have B := B h29 q
      refine z_aload_n 15 rfl rfl ?_
      obtain ⟨o42, B⟩ := B
      obtain ⟨Q31, K33, B⟩ := B
      refine z_cVV0 (ν := mX10_goOn) 16 rfl rfl fX10_goOn gX10_261 ⟨_, rfl, rfl⟩ (by decide) o42 (Nat.le_of_ble_eq_true rfl) K33 (fun h32 q => ?_)
      have B := B h32 q
      refine z_aload_n 17 rfl rfl ?_
      obtain ⟨o41, B⟩ := B
      obtain ⟨Q34, K36, B⟩ := B
      refine z_cVV0 (ν := mX10_product) 18 rfl rfl fX10_product gX10_297 ⟨_, rfl, rfl⟩ (by decide) o41 (Nat.le_of_ble_eq_true rfl) K36 (fun h35 q => ?_)
      have B := B h35 q
      refine z_aload_n 19 rfl rfl ?_
      refine z_iconst (v := 2) 20 rfl (by decide) ?_
      refine z_iload_n 21 rfl rfl ?_
      obtain ⟨o40, B⟩ := B
      obtain ⟨Q37, K39, B⟩ := B
      refine z_cVV2 (ν := mX10_puts) 22 rfl rfl fX10_puts gX10_288 ⟨_, rfl, rfl⟩ (by decide) o40 (Nat.le_of_ble_eq_true rfl) K39 (fun h38 q => ?_)
      have B := B h38 q
      refine z_goto 23 4 rfl (by decide) ?_
      refine z_drop 1 ?_
      exact B
set_option maxRecDepth 100000 in
set_option maxHeartbeats 4000000 in
theorem sg_X10_product_0 {G : zG} {d : Nat} {h : zMem} {Q : zMem → Prop} {a0 : Nat} (B : zO h a0 9 ∧ ∃ Q1 : zMem → Prop, zConV G mX10_primary d [.ref a0] h Q1 ∧ (∀ h2, Q1 h2 → zg G mX10_product (d + 1) 4 [.ref a0, zU] [] h2 (zPV Q))) : zg G mX10_product (d + 1) 0 [.ref a0, zU] [] h (zPV Q) := by
  refine z_aload_n 0 rfl rfl ?_
  obtain ⟨o4, B⟩ := B
  obtain ⟨Q1, K3, B⟩ := B
  refine z_cVV0 (ν := mX10_primary) 1 rfl rfl fX10_primary gX10_300 ⟨_, rfl, rfl⟩ (by decide) o4 (Nat.le_of_ble_eq_true rfl) K3 (fun h2 q => ?_)
  have B := B h2 q
  exact B
theorem cn_X10_product {G : zG} {d : Nat} {h : zMem} {Q : zMem → Prop} {a0 : Nat} (B : zg G mX10_product (d + 1) 0 [.ref a0, zU] [] h (zPV Q)) : zConV G mX10_product (d + 1) [.ref a0] h Q := zcon0 (by decide +kernel) eX10_product (Nat.le_of_ble_eq_true rfl) rfl B
set_option maxRecDepth 100000 in
set_option maxHeartbeats 4000000 in
theorem sg_X10_product_4 {G : zG} {d : Nat} {h : zMem} {Q : zMem → Prop} {a0 : Nat} (B : zO h a0 9 ∧ ∃ Q1 : Int32 → zMem → Prop, zConI G mX10_isSign d [.ref a0, .int (42 : Int32)] h Q1 ∧ (∀ v4 h2, Q1 v4 h2 → (¬ v4 = 0 → zO h2 a0 9 ∧ ∃ Q7 : zMem → Prop, zConV G mX10_knot d [.ref a0] h2 Q7 ∧ (∀ h8, Q7 h8 → zO h8 a0 9 ∧ ∃ Q10 : zMem → Prop, zConV G mX10_goOn d [.ref a0] h8 Q10 ∧ (∀ h11, Q10 h11 → zO h11 a0 9 ∧ ∃ Q13 : zMem → Prop, zConV G mX10_primary d [.ref a0] h11 Q13 ∧ (∀ h14, Q13 h14 → zO h14 a0 9 ∧ ∃ Q16 : zMem → Prop, zConV G mX10_puts d [.ref a0, .int (2 : Int32), .int (zI h2 a0 24)] h14 Q16 ∧ (∀ h17, Q16 h17 → zg G mX10_product (d + 1) 4 [.ref a0, zU] [] h17 (zPV Q)))))) ∧ (v4 = 0 → zO h2 a0 9 ∧ ∃ Q22 : Int32 → zMem → Prop, zConI G mX10_isSign d [.ref a0, .int (47 : Int32)] h2 Q22 ∧ (∀ v25 h23, Q22 v25 h23 → (v25 = 0 → Q h23) ∧ (¬ v25 = 0 → zO h23 a0 9 ∧ ∃ Q28 : zMem → Prop, zConV G mX10_knot d [.ref a0] h23 Q28 ∧ (∀ h29, Q28 h29 → zO h29 a0 9 ∧ ∃ Q31 : zMem → Prop, zConV G mX10_goOn d [.ref a0] h29 Q31 ∧ (∀ h32, Q31 h32 → zO h32 a0 9 ∧ ∃ Q34 : zMem → Prop, zConV G mX10_primary d [.ref a0] h32 Q34 ∧ (∀ h35, Q34 h35 → zO h35 a0 9 ∧ ∃ Q37 : zMem → Prop, zConV G mX10_puts d [.ref a0, .int (2 : Int32), .int (zI h23 a0 24)] h35 Q37 ∧ (∀ h38, Q37 h38 → zg G mX10_product (d + 1) 4 [.ref a0, zU] [] h38 (zPV Q)))))))))) : zg G mX10_product (d + 1) 4 [.ref a0, zU] [] h (zPV Q) := by
  refine z_aload_n 2 rfl rfl ?_
  refine z_bipush (v := 42) 3 rfl (by decide) ?_
  obtain ⟨o44, B⟩ := B
  obtain ⟨Q1, K3, B⟩ := B
  refine z_cVI1 (ν := mX10_isSign) 4 rfl rfl fX10_isSign gX10_267 ⟨_, rfl, rfl⟩ (by decide) o44 (Nat.le_of_ble_eq_true rfl) K3 (fun v4 h2 q => ?_)
  have B := B v4 h2 q
  refine z_if_ne 5 22 rfl (by decide) ⟨fun c5 => ?_, fun c5 => ?_⟩
  · have B := B.1 c5
    refine z_aload_n 10 rfl rfl ?_
    obtain ⟨o6, B⟩ := B
    refine z_getI 11 rfl lX10_189 rfl o6 ?_
    refine z_istore_n 12 rfl (by decide) rfl ?_
    refine z_aload_n 13 rfl rfl ?_
    obtain ⟨Q7, K9, B⟩ := B
    refine z_cVV0 (ν := mX10_knot) 14 rfl rfl fX10_knot gX10_285 ⟨_, rfl, rfl⟩ (by decide) o6 (Nat.le_of_ble_eq_true rfl) K9 (fun h8 q => ?_)
    have B := B h8 q
    refine z_aload_n 15 rfl rfl ?_
    obtain ⟨o21, B⟩ := B
    obtain ⟨Q10, K12, B⟩ := B
    refine z_cVV0 (ν := mX10_goOn) 16 rfl rfl fX10_goOn gX10_261 ⟨_, rfl, rfl⟩ (by decide) o21 (Nat.le_of_ble_eq_true rfl) K12 (fun h11 q => ?_)
    have B := B h11 q
    refine z_aload_n 17 rfl rfl ?_
    obtain ⟨o20, B⟩ := B
    obtain ⟨Q13, K15, B⟩ := B
    refine z_cVV0 (ν := mX10_primary) 18 rfl rfl fX10_primary gX10_300 ⟨_, rfl, rfl⟩ (by decide) o20 (Nat.le_of_ble_eq_true rfl) K15 (fun h14 q => ?_)
    have B := B h14 q
    refine z_aload_n 19 rfl rfl ?_
    refine z_iconst (v := 2) 20 rfl (by decide) ?_
    refine z_iload_n 21 rfl rfl ?_
    obtain ⟨o19, B⟩ := B
    obtain ⟨Q16, K18, B⟩ := B
    refine z_cVV2 (ν := mX10_puts) 22 rfl rfl fX10_puts gX10_288 ⟨_, rfl, rfl⟩ (by decide) o19 (Nat.le_of_ble_eq_true rfl) K18 (fun h17 q => ?_)
    have B := B h17 q
    refine z_goto 23 4 rfl (by decide) ?_
    refine z_drop 1 ?_
    exact B
  · have B := B.2 c5
    refine z_aload_n 6 rfl rfl ?_
    refine z_bipush (v := 47) 7 rfl (by decide) ?_
    obtain ⟨o43, B⟩ := B
    obtain ⟨Q22, K24, B⟩ := B
    refine z_cVI1 (ν := mX10_isSign) 8 rfl rfl fX10_isSign gX10_267 ⟨_, rfl, rfl⟩ (by decide) o43 (Nat.le_of_ble_eq_true rfl) K24 (fun v25 h23 q => ?_)
    have B := B v25 h23 q
    refine z_if_eq 9 48 rfl (by decide) ⟨fun c26 => ?_, fun c26 => ?_⟩
    · have B := B.1 c26
      exact z_vret 24 rfl rfl ⟨rfl, rfl⟩ ⟨rfl, B⟩
    · have B := B.2 c26
      refine z_aload_n 10 rfl rfl ?_
      obtain ⟨o27, B⟩ := B
      refine z_getI 11 rfl lX10_189 rfl o27 ?_
      refine z_istore_n 12 rfl (by decide) rfl ?_
      refine z_aload_n 13 rfl rfl ?_
      obtain ⟨Q28, K30, B⟩ := B
      refine z_cVV0 (ν := mX10_knot) 14 rfl rfl fX10_knot gX10_285 ⟨_, rfl, rfl⟩ (by decide) o27 (Nat.le_of_ble_eq_true rfl) K30 (fun h29 q => ?_)
      have B := B h29 q
      refine z_aload_n 15 rfl rfl ?_
      obtain ⟨o42, B⟩ := B
      obtain ⟨Q31, K33, B⟩ := B
      refine z_cVV0 (ν := mX10_goOn) 16 rfl rfl fX10_goOn gX10_261 ⟨_, rfl, rfl⟩ (by decide) o42 (Nat.le_of_ble_eq_true rfl) K33 (fun h32 q => ?_)
      have B := B h32 q
      refine z_aload_n 17 rfl rfl ?_
      obtain ⟨o41, B⟩ := B
      obtain ⟨Q34, K36, B⟩ := B
      refine z_cVV0 (ν := mX10_primary) 18 rfl rfl fX10_primary gX10_300 ⟨_, rfl, rfl⟩ (by decide) o41 (Nat.le_of_ble_eq_true rfl) K36 (fun h35 q => ?_)
      have B := B h35 q
      refine z_aload_n 19 rfl rfl ?_
      refine z_iconst (v := 2) 20 rfl (by decide) ?_
      refine z_iload_n 21 rfl rfl ?_
      obtain ⟨o40, B⟩ := B
      obtain ⟨Q37, K39, B⟩ := B
      refine z_cVV2 (ν := mX10_puts) 22 rfl rfl fX10_puts gX10_288 ⟨_, rfl, rfl⟩ (by decide) o40 (Nat.le_of_ble_eq_true rfl) K39 (fun h38 q => ?_)
      have B := B h38 q
      refine z_goto 23 4 rfl (by decide) ?_
      refine z_drop 1 ?_
      exact B
set_option maxRecDepth 100000 in
set_option maxHeartbeats 4000000 in
theorem sg_X10_primary_0 {G : zG} {d : Nat} {h : zMem} {Q : zMem → Prop} {a0 : Nat} (B : zO h a0 9 ∧ ((zI h a0 25) = 0 → ∃ Q3 : Int32 → zMem → Prop, zConI G mX10_isSign d [.ref a0, .int (40 : Int32)] h Q3 ∧ (∀ v6 h4, Q3 v6 h4 → (v6 = 0 → zO h4 a0 9 ∧ (¬ (zI h4 a0 23) = (2 : Int32) → zg G mX10_primary (d + 1) 114 [.ref a0, zU] [.int (0 : Int32)] h4 (zPV Q)) ∧ ((zI h4 a0 23) = (2 : Int32) → zg G mX10_primary (d + 1) 114 [.ref a0, zU] [.int (1 : Int32)] h4 (zPV Q))) ∧ (¬ v6 = 0 → zO h4 a0 9 ∧ (¬ (zI h4 a0 29) = (8 : Int32) → zg G mX10_primary (d + 1) 31 [.ref a0, zU] [] h4 (zPV Q)) ∧ ((zI h4 a0 29) = (8 : Int32) → ∃ Q12 : zMem → Prop, zConV G mX10_wrong d [.ref a0, .int (2 : Int32)] h4 Q12 ∧ (∀ h13, Q12 h13 → zg G mX10_primary (d + 1) 31 [.ref a0, zU] [] h13 (zPV Q)))))) ∧ (¬ (zI h a0 25) = 0 → Q h)) : zg G mX10_primary (d + 1) 0 [.ref a0, zU] [] h (zPV Q) := by
  refine z_aload_n 0 rfl rfl ?_
  obtain ⟨o1, B⟩ := B
  refine z_getI 1 rfl lX10_214 rfl o1 ?_
  refine z_if_eq 2 8 rfl (by decide) ⟨fun c2 => ?_, fun c2 => ?_⟩
  · have B := B.1 c2
    refine z_aload_n 4 rfl rfl ?_
    refine z_bipush (v := 40) 5 rfl (by decide) ?_
    obtain ⟨Q3, K5, B⟩ := B
    refine z_cVI1 (ν := mX10_isSign) 6 rfl rfl fX10_isSign gX10_267 ⟨_, rfl, rfl⟩ (by decide) o1 (Nat.le_of_ble_eq_true rfl) K5 (fun v6 h4 q => ?_)
    have B := B v6 h4 q
    refine z_if_eq 7 101 rfl (by decide) ⟨fun c7 => ?_, fun c7 => ?_⟩
    · have B := B.1 c7
      refine z_aload_n 52 rfl rfl ?_
      obtain ⟨o8, B⟩ := B
      refine z_getI 53 rfl lX10_179 rfl o8 ?_
      refine z_iconst (v := 2) 54 rfl (by decide) ?_
      refine z_icmp_ne 55 113 rfl (by decide) ⟨fun c9 => ?_, fun c9 => ?_⟩
      · have B := B.1 c9
        refine z_iconst (v := 0) 58 rfl (by decide) ?_
        exact B
      · have B := B.2 c9
        refine z_iconst (v := 1) 56 rfl (by decide) ?_
        refine z_goto 57 114 rfl (by decide) ?_
        exact B
    · have B := B.2 c7
      refine z_aload_n 8 rfl rfl ?_
      obtain ⟨o10, B⟩ := B
      refine z_getI 9 rfl lX10_303 rfl o10 ?_
      refine z_bipush (v := 8) 10 rfl (by decide) ?_
      refine z_icmp_ne 11 31 rfl (by decide) ⟨fun c11 => ?_, fun c11 => ?_⟩
      · have B := B.1 c11
        exact B
      · have B := B.2 c11
        refine z_aload_n 12 rfl rfl ?_
        refine z_iconst (v := 2) 13 rfl (by decide) ?_
        obtain ⟨Q12, K14, B⟩ := B
        refine z_cVV1 (ν := mX10_wrong) 14 rfl rfl fX10_wrong gX10_223 ⟨_, rfl, rfl⟩ (by decide) o10 (Nat.le_of_ble_eq_true rfl) K14 (fun h13 q => ?_)
        have B := B h13 q
        exact B
  · have B := B.2 c2
    exact z_vret 3 rfl rfl ⟨rfl, rfl⟩ ⟨rfl, B⟩
theorem cn_X10_primary {G : zG} {d : Nat} {h : zMem} {Q : zMem → Prop} {a0 : Nat} (B : zg G mX10_primary (d + 1) 0 [.ref a0, zU] [] h (zPV Q)) : zConV G mX10_primary (d + 1) [.ref a0] h Q := zcon0 (by decide +kernel) eX10_primary (Nat.le_of_ble_eq_true rfl) rfl B
set_option maxRecDepth 100000 in
set_option maxHeartbeats 4000000 in
theorem sg_X10_primary_31 {G : zG} {d : Nat} {h : zMem} {Q : zMem → Prop} {a0 : Nat} (B : zO h a0 9 ∧ ((zI h a0 25) = 0 → ∃ Q3 : zMem → Prop, zConV G mX10_token d [.ref a0] (zsI h a0 29 ((zI h a0 29) + (1 : Int32))) Q3 ∧ (∀ h4, Q3 h4 → zO h4 a0 9 ∧ ∃ Q6 : zMem → Prop, zConV G mX10_expression d [.ref a0] h4 Q6 ∧ (∀ h7, Q6 h7 → zO h7 a0 9 ∧ (¬ (zI h7 a0 25) = 0 → ((zI h7 a0 25) = 0 → ∃ Q12 : zMem → Prop, zConV G mX10_token d [.ref a0] (zsI h7 a0 29 ((zI h7 a0 29) - (1 : Int32))) Q12 ∧ (∀ h13, Q12 h13 → Q h13)) ∧ (¬ (zI h7 a0 25) = 0 → Q h7)) ∧ ((zI h7 a0 25) = 0 → ∃ Q15 : Int32 → zMem → Prop, zConI G mX10_isSign d [.ref a0, .int (41 : Int32)] h7 Q15 ∧ (∀ v18 h16, Q15 v18 h16 → (¬ v18 = 0 → zO h16 a0 9 ∧ ((zI h16 a0 25) = 0 → ∃ Q22 : zMem → Prop, zConV G mX10_token d [.ref a0] (zsI h16 a0 29 ((zI h16 a0 29) - (1 : Int32))) Q22 ∧ (∀ h23, Q22 h23 → Q h23)) ∧ (¬ (zI h16 a0 25) = 0 → Q h16)) ∧ (v18 = 0 → zO h16 a0 9 ∧ ∃ Q25 : zMem → Prop, zConV G mX10_wrong d [.ref a0, .int (1 : Int32)] h16 Q25 ∧ (∀ h26, Q25 h26 → zO h26 a0 9 ∧ ((zI h26 a0 25) = 0 → ∃ Q30 : zMem → Prop, zConV G mX10_token d [.ref a0] (zsI h26 a0 29 ((zI h26 a0 29) - (1 : Int32))) Q30 ∧ (∀ h31, Q30 h31 → Q h31)) ∧ (¬ (zI h26 a0 25) = 0 → Q h26)))))))) ∧ (¬ (zI h a0 25) = 0 → Q h)) : zg G mX10_primary (d + 1) 31 [.ref a0, zU] [] h (zPV Q) := by
  refine z_aload_n 15 rfl rfl ?_
  obtain ⟨o1, B⟩ := B
  refine z_getI 16 rfl lX10_214 rfl o1 ?_
  refine z_if_eq 17 39 rfl (by decide) ⟨fun c2 => ?_, fun c2 => ?_⟩
  · have B := B.1 c2
    refine z_aload_n 19 rfl rfl ?_
    refine z_dup 20 rfl rfl ?_
    refine z_getI 21 rfl lX10_303 rfl o1 ?_
    refine z_iconst (v := 1) 22 rfl (by decide) ?_
    refine z_iadd 23 rfl ?_
    refine z_putI 24 rfl lX10_303 ⟨_, _, _, rfl, rfl⟩ rfl rfl rfl o1 ?_
    refine z_aload_n 25 rfl rfl ?_
    obtain ⟨Q3, K5, B⟩ := B
    refine z_cVV0 (ν := mX10_token) 26 rfl rfl fX10_token gX10_220 ⟨_, rfl, rfl⟩ (by decide) o1 (Nat.le_of_ble_eq_true rfl) K5 (fun h4 q => ?_)
    have B := B h4 q
    refine z_aload_n 27 rfl rfl ?_
    obtain ⟨o34, B⟩ := B
    obtain ⟨Q6, K8, B⟩ := B
    refine z_cVV0 (ν := mX10_expression) 28 rfl rfl fX10_expression gX10_276 ⟨_, rfl, rfl⟩ (by decide) o34 (Nat.le_of_ble_eq_true rfl) K8 (fun h7 q => ?_)
    have B := B h7 q
    refine z_aload_n 29 rfl rfl ?_
    obtain ⟨o9, B⟩ := B
    refine z_getI 30 rfl lX10_214 rfl o9 ?_
    refine z_if_ne 31 78 rfl (by decide) ⟨fun c10 => ?_, fun c10 => ?_⟩
    · have B := B.1 c10
      refine z_aload_n 39 rfl rfl ?_
      refine z_getI 40 rfl lX10_214 rfl o9 ?_
      refine z_if_eq 41 86 rfl (by decide) ⟨fun c11 => ?_, fun c11 => ?_⟩
      · have B := B.1 c11
        refine z_aload_n 43 rfl rfl ?_
        refine z_dup 44 rfl rfl ?_
        refine z_getI 45 rfl lX10_303 rfl o9 ?_
        refine z_iconst (v := 1) 46 rfl (by decide) ?_
        refine z_isub 47 rfl ?_
        refine z_putI 48 rfl lX10_303 ⟨_, _, _, rfl, rfl⟩ rfl rfl rfl o9 ?_
        refine z_aload_n 49 rfl rfl ?_
        obtain ⟨Q12, K14, B⟩ := B
        refine z_cVV0 (ν := mX10_token) 50 rfl rfl fX10_token gX10_220 ⟨_, rfl, rfl⟩ (by decide) o9 (Nat.le_of_ble_eq_true rfl) K14 (fun h13 q => ?_)
        have B := B h13 q
        exact z_vret 51 rfl rfl ⟨rfl, rfl⟩ ⟨rfl, B⟩
      · have B := B.2 c11
        exact z_vret 42 rfl rfl ⟨rfl, rfl⟩ ⟨rfl, B⟩
    · have B := B.2 c10
      refine z_aload_n 32 rfl rfl ?_
      refine z_bipush (v := 41) 33 rfl (by decide) ?_
      obtain ⟨Q15, K17, B⟩ := B
      refine z_cVI1 (ν := mX10_isSign) 34 rfl rfl fX10_isSign gX10_267 ⟨_, rfl, rfl⟩ (by decide) o9 (Nat.le_of_ble_eq_true rfl) K17 (fun v18 h16 q => ?_)
      have B := B v18 h16 q
      refine z_if_ne 35 78 rfl (by decide) ⟨fun c19 => ?_, fun c19 => ?_⟩
      · have B := B.1 c19
        refine z_aload_n 39 rfl rfl ?_
        obtain ⟨o20, B⟩ := B
        refine z_getI 40 rfl lX10_214 rfl o20 ?_
        refine z_if_eq 41 86 rfl (by decide) ⟨fun c21 => ?_, fun c21 => ?_⟩
        · have B := B.1 c21
          refine z_aload_n 43 rfl rfl ?_
          refine z_dup 44 rfl rfl ?_
          refine z_getI 45 rfl lX10_303 rfl o20 ?_
          refine z_iconst (v := 1) 46 rfl (by decide) ?_
          refine z_isub 47 rfl ?_
          refine z_putI 48 rfl lX10_303 ⟨_, _, _, rfl, rfl⟩ rfl rfl rfl o20 ?_
          refine z_aload_n 49 rfl rfl ?_
          obtain ⟨Q22, K24, B⟩ := B
          refine z_cVV0 (ν := mX10_token) 50 rfl rfl fX10_token gX10_220 ⟨_, rfl, rfl⟩ (by decide) o20 (Nat.le_of_ble_eq_true rfl) K24 (fun h23 q => ?_)
          have B := B h23 q
          exact z_vret 51 rfl rfl ⟨rfl, rfl⟩ ⟨rfl, B⟩
        · have B := B.2 c21
          exact z_vret 42 rfl rfl ⟨rfl, rfl⟩ ⟨rfl, B⟩
      · have B := B.2 c19
        refine z_aload_n 36 rfl rfl ?_
        refine z_iconst (v := 1) 37 rfl (by decide) ?_
        obtain ⟨o33, B⟩ := B
        obtain ⟨Q25, K27, B⟩ := B
        refine z_cVV1 (ν := mX10_wrong) 38 rfl rfl fX10_wrong gX10_223 ⟨_, rfl, rfl⟩ (by decide) o33 (Nat.le_of_ble_eq_true rfl) K27 (fun h26 q => ?_)
        have B := B h26 q
        refine z_aload_n 39 rfl rfl ?_
        obtain ⟨o28, B⟩ := B
        refine z_getI 40 rfl lX10_214 rfl o28 ?_
        refine z_if_eq 41 86 rfl (by decide) ⟨fun c29 => ?_, fun c29 => ?_⟩
        · have B := B.1 c29
          refine z_aload_n 43 rfl rfl ?_
          refine z_dup 44 rfl rfl ?_
          refine z_getI 45 rfl lX10_303 rfl o28 ?_
          refine z_iconst (v := 1) 46 rfl (by decide) ?_
          refine z_isub 47 rfl ?_
          refine z_putI 48 rfl lX10_303 ⟨_, _, _, rfl, rfl⟩ rfl rfl rfl o28 ?_
          refine z_aload_n 49 rfl rfl ?_
          obtain ⟨Q30, K32, B⟩ := B
          refine z_cVV0 (ν := mX10_token) 50 rfl rfl fX10_token gX10_220 ⟨_, rfl, rfl⟩ (by decide) o28 (Nat.le_of_ble_eq_true rfl) K32 (fun h31 q => ?_)
          have B := B h31 q
          exact z_vret 51 rfl rfl ⟨rfl, rfl⟩ ⟨rfl, B⟩
        · have B := B.2 c29
          exact z_vret 42 rfl rfl ⟨rfl, rfl⟩ ⟨rfl, B⟩
  · have B := B.2 c2
    exact z_vret 18 rfl rfl ⟨rfl, rfl⟩ ⟨rfl, B⟩
set_option maxRecDepth 100000 in
set_option maxHeartbeats 4000000 in
theorem sg_X10_primary_114 {G : zG} {d : Nat} {h : zMem} {Q : zMem → Prop} {a0 : Nat} {xs0 : Int32} (B : (xs0 = 0 → zg G mX10_primary (d + 1) 137 [.ref a0, .int xs0] [] h (zPV Q)) ∧ (¬ xs0 = 0 → zO h a0 9 ∧ ((zI h a0 24) ≤ (9999 : Int32) → zg G mX10_primary (d + 1) 137 [.ref a0, .int xs0] [] h (zPV Q)) ∧ (¬ (zI h a0 24) ≤ (9999 : Int32) → ∃ Q4 : zMem → Prop, zConV G mX10_wrong d [.ref a0, .int (2 : Int32)] h Q4 ∧ (∀ h5, Q4 h5 → zO h5 a0 9 ∧ ∃ Q7 : zMem → Prop, zConV G mX10_knot d [.ref a0] h5 Q7 ∧ (∀ h8, Q7 h8 → (xs0 = 0 → (xs0 = 0 → zO h8 a0 9 ∧ ∃ Q13 : zMem → Prop, zConV G mX10_puts d [.ref a0, .int (1 : Int32), .int ((zI h8 a0 24) - (15 : Int32))] h8 Q13 ∧ (∀ h14, Q13 h14 → zO h14 a0 9 ∧ ∃ Q16 : zMem → Prop, zConV G mX10_goOn d [.ref a0] h14 Q16 ∧ (∀ h17, Q16 h17 → Q h17))) ∧ (¬ xs0 = 0 → zO h8 a0 9 ∧ ∃ Q21 : zMem → Prop, zConV G mX10_puts d [.ref a0, .int (1 : Int32), .int (zI h8 a0 24)] h8 Q21 ∧ (∀ h22, Q21 h22 → zO h22 a0 9 ∧ ∃ Q24 : zMem → Prop, zConV G mX10_goOn d [.ref a0] h22 Q24 ∧ (∀ h25, Q24 h25 → Q h25)))) ∧ (¬ xs0 = 0 → (xs0 = 0 → zO h8 a0 9 ∧ ∃ Q30 : zMem → Prop, zConV G mX10_puts d [.ref a0, .int (0 : Int32), .int ((zI h8 a0 24) - (15 : Int32))] h8 Q30 ∧ (∀ h31, Q30 h31 → zO h31 a0 9 ∧ ∃ Q33 : zMem → Prop, zConV G mX10_goOn d [.ref a0] h31 Q33 ∧ (∀ h34, Q33 h34 → Q h34))) ∧ (¬ xs0 = 0 → zO h8 a0 9 ∧ ∃ Q38 : zMem → Prop, zConV G mX10_puts d [.ref a0, .int (0 : Int32), .int (zI h8 a0 24)] h8 Q38 ∧ (∀ h39, Q38 h39 → zO h39 a0 9 ∧ ∃ Q41 : zMem → Prop, zConV G mX10_goOn d [.ref a0] h39 Q41 ∧ (∀ h42, Q41 h42 → Q h42))))))))) : zg G mX10_primary (d + 1) 114 [.ref a0, zU] [.int xs0] h (zPV Q) := by
  refine z_istore_n 59 rfl (by decide) rfl ?_
  refine z_iload_n 60 rfl rfl ?_
  refine z_if_eq 61 137 rfl (by decide) ⟨fun c1 => ?_, fun c1 => ?_⟩
  · have B := B.1 c1
    exact B
  · have B := B.2 c1
    refine z_aload_n 62 rfl rfl ?_
    obtain ⟨o2, B⟩ := B
    refine z_getI 63 rfl lX10_189 rfl o2 ?_
    refine z_sipush (v := 9999) 64 rfl (by decide) ?_
    refine z_icmp_le 65 137 rfl (by decide) ⟨fun c3 => ?_, fun c3 => ?_⟩
    · have B := B.1 c3
      exact B
    · have B := B.2 c3
      refine z_aload_n 66 rfl rfl ?_
      refine z_iconst (v := 2) 67 rfl (by decide) ?_
      obtain ⟨Q4, K6, B⟩ := B
      refine z_cVV1 (ν := mX10_wrong) 68 rfl rfl fX10_wrong gX10_223 ⟨_, rfl, rfl⟩ (by decide) o2 (Nat.le_of_ble_eq_true rfl) K6 (fun h5 q => ?_)
      have B := B h5 q
      refine z_goto 69 162 rfl (by decide) ?_
      refine z_aload_n 82 rfl rfl ?_
      obtain ⟨o45, B⟩ := B
      obtain ⟨Q7, K9, B⟩ := B
      refine z_cVV0 (ν := mX10_knot) 83 rfl rfl fX10_knot gX10_285 ⟨_, rfl, rfl⟩ (by decide) o45 (Nat.le_of_ble_eq_true rfl) K9 (fun h8 q => ?_)
      have B := B h8 q
      refine z_aload_n 84 rfl rfl ?_
      refine z_iload_n 85 rfl rfl ?_
      refine z_if_eq 86 175 rfl (by decide) ⟨fun c10 => ?_, fun c10 => ?_⟩
      · have B := B.1 c10
        refine z_iconst (v := 1) 89 rfl (by decide) ?_
        refine z_iload_n 90 rfl rfl ?_
        refine z_if_eq 91 187 rfl (by decide) ⟨fun c11 => ?_, fun c11 => ?_⟩
        · have B := B.1 c11
          refine z_aload_n 95 rfl rfl ?_
          obtain ⟨o12, B⟩ := B
          refine z_getI 96 rfl lX10_189 rfl o12 ?_
          refine z_bipush (v := 15) 97 rfl (by decide) ?_
          refine z_isub 98 rfl ?_
          obtain ⟨Q13, K15, B⟩ := B
          refine z_cVV2 (ν := mX10_puts) 99 rfl rfl fX10_puts gX10_288 ⟨_, rfl, rfl⟩ (by decide) o12 (Nat.le_of_ble_eq_true rfl) K15 (fun h14 q => ?_)
          have B := B h14 q
          refine z_aload_n 100 rfl rfl ?_
          obtain ⟨o19, B⟩ := B
          obtain ⟨Q16, K18, B⟩ := B
          refine z_cVV0 (ν := mX10_goOn) 101 rfl rfl fX10_goOn gX10_261 ⟨_, rfl, rfl⟩ (by decide) o19 (Nat.le_of_ble_eq_true rfl) K18 (fun h17 q => ?_)
          have B := B h17 q
          exact z_vret 102 rfl rfl ⟨rfl, rfl⟩ ⟨rfl, B⟩
        · have B := B.2 c11
          refine z_aload_n 92 rfl rfl ?_
          obtain ⟨o20, B⟩ := B
          refine z_getI 93 rfl lX10_189 rfl o20 ?_
          refine z_goto 94 194 rfl (by decide) ?_
          obtain ⟨Q21, K23, B⟩ := B
          refine z_cVV2 (ν := mX10_puts) 99 rfl rfl fX10_puts gX10_288 ⟨_, rfl, rfl⟩ (by decide) o20 (Nat.le_of_ble_eq_true rfl) K23 (fun h22 q => ?_)
          have B := B h22 q
          refine z_aload_n 100 rfl rfl ?_
          obtain ⟨o27, B⟩ := B
          obtain ⟨Q24, K26, B⟩ := B
          refine z_cVV0 (ν := mX10_goOn) 101 rfl rfl fX10_goOn gX10_261 ⟨_, rfl, rfl⟩ (by decide) o27 (Nat.le_of_ble_eq_true rfl) K26 (fun h25 q => ?_)
          have B := B h25 q
          exact z_vret 102 rfl rfl ⟨rfl, rfl⟩ ⟨rfl, B⟩
      · have B := B.2 c10
        refine z_iconst (v := 0) 87 rfl (by decide) ?_
        refine z_goto 88 176 rfl (by decide) ?_
        refine z_iload_n 90 rfl rfl ?_
        refine z_if_eq 91 187 rfl (by decide) ⟨fun c28 => ?_, fun c28 => ?_⟩
        · have B := B.1 c28
          refine z_aload_n 95 rfl rfl ?_
          obtain ⟨o29, B⟩ := B
          refine z_getI 96 rfl lX10_189 rfl o29 ?_
          refine z_bipush (v := 15) 97 rfl (by decide) ?_
          refine z_isub 98 rfl ?_
          obtain ⟨Q30, K32, B⟩ := B
          refine z_cVV2 (ν := mX10_puts) 99 rfl rfl fX10_puts gX10_288 ⟨_, rfl, rfl⟩ (by decide) o29 (Nat.le_of_ble_eq_true rfl) K32 (fun h31 q => ?_)
          have B := B h31 q
          refine z_aload_n 100 rfl rfl ?_
          obtain ⟨o36, B⟩ := B
          obtain ⟨Q33, K35, B⟩ := B
          refine z_cVV0 (ν := mX10_goOn) 101 rfl rfl fX10_goOn gX10_261 ⟨_, rfl, rfl⟩ (by decide) o36 (Nat.le_of_ble_eq_true rfl) K35 (fun h34 q => ?_)
          have B := B h34 q
          exact z_vret 102 rfl rfl ⟨rfl, rfl⟩ ⟨rfl, B⟩
        · have B := B.2 c28
          refine z_aload_n 92 rfl rfl ?_
          obtain ⟨o37, B⟩ := B
          refine z_getI 93 rfl lX10_189 rfl o37 ?_
          refine z_goto 94 194 rfl (by decide) ?_
          obtain ⟨Q38, K40, B⟩ := B
          refine z_cVV2 (ν := mX10_puts) 99 rfl rfl fX10_puts gX10_288 ⟨_, rfl, rfl⟩ (by decide) o37 (Nat.le_of_ble_eq_true rfl) K40 (fun h39 q => ?_)
          have B := B h39 q
          refine z_aload_n 100 rfl rfl ?_
          obtain ⟨o44, B⟩ := B
          obtain ⟨Q41, K43, B⟩ := B
          refine z_cVV0 (ν := mX10_goOn) 101 rfl rfl fX10_goOn gX10_261 ⟨_, rfl, rfl⟩ (by decide) o44 (Nat.le_of_ble_eq_true rfl) K43 (fun h42 q => ?_)
          have B := B h42 q
          exact z_vret 102 rfl rfl ⟨rfl, rfl⟩ ⟨rfl, B⟩
set_option maxRecDepth 100000 in
set_option maxHeartbeats 4000000 in
theorem sg_X10_primary_137 {G : zG} {d : Nat} {h : zMem} {Q : zMem → Prop} {a0 : Nat} {x1 : Int32} (B : (¬ x1 = 0 → zO h a0 9 ∧ ∃ Q2 : zMem → Prop, zConV G mX10_knot d [.ref a0] h Q2 ∧ (∀ h3, Q2 h3 → (x1 = 0 → (x1 = 0 → zO h3 a0 9 ∧ ∃ Q8 : zMem → Prop, zConV G mX10_puts d [.ref a0, .int (1 : Int32), .int ((zI h3 a0 24) - (15 : Int32))] h3 Q8 ∧ (∀ h9, Q8 h9 → zO h9 a0 9 ∧ ∃ Q11 : zMem → Prop, zConV G mX10_goOn d [.ref a0] h9 Q11 ∧ (∀ h12, Q11 h12 → Q h12))) ∧ (¬ x1 = 0 → zO h3 a0 9 ∧ ∃ Q16 : zMem → Prop, zConV G mX10_puts d [.ref a0, .int (1 : Int32), .int (zI h3 a0 24)] h3 Q16 ∧ (∀ h17, Q16 h17 → zO h17 a0 9 ∧ ∃ Q19 : zMem → Prop, zConV G mX10_goOn d [.ref a0] h17 Q19 ∧ (∀ h20, Q19 h20 → Q h20)))) ∧ (¬ x1 = 0 → (x1 = 0 → zO h3 a0 9 ∧ ∃ Q25 : zMem → Prop, zConV G mX10_puts d [.ref a0, .int (0 : Int32), .int ((zI h3 a0 24) - (15 : Int32))] h3 Q25 ∧ (∀ h26, Q25 h26 → zO h26 a0 9 ∧ ∃ Q28 : zMem → Prop, zConV G mX10_goOn d [.ref a0] h26 Q28 ∧ (∀ h29, Q28 h29 → Q h29))) ∧ (¬ x1 = 0 → zO h3 a0 9 ∧ ∃ Q33 : zMem → Prop, zConV G mX10_puts d [.ref a0, .int (0 : Int32), .int (zI h3 a0 24)] h3 Q33 ∧ (∀ h34, Q33 h34 → zO h34 a0 9 ∧ ∃ Q36 : zMem → Prop, zConV G mX10_goOn d [.ref a0] h34 Q36 ∧ (∀ h37, Q36 h37 → Q h37)))))) ∧ (x1 = 0 → zO h a0 9 ∧ (¬ (zI h a0 23) = 0 → ∃ Q43 : zMem → Prop, zConV G mX10_wrong d [.ref a0, .int (1 : Int32)] h Q43 ∧ (∀ h44, Q43 h44 → zO h44 a0 9 ∧ ∃ Q46 : zMem → Prop, zConV G mX10_knot d [.ref a0] h44 Q46 ∧ (∀ h47, Q46 h47 → (x1 = 0 → (x1 = 0 → zO h47 a0 9 ∧ ∃ Q52 : zMem → Prop, zConV G mX10_puts d [.ref a0, .int (1 : Int32), .int ((zI h47 a0 24) - (15 : Int32))] h47 Q52 ∧ (∀ h53, Q52 h53 → zO h53 a0 9 ∧ ∃ Q55 : zMem → Prop, zConV G mX10_goOn d [.ref a0] h53 Q55 ∧ (∀ h56, Q55 h56 → Q h56))) ∧ (¬ x1 = 0 → zO h47 a0 9 ∧ ∃ Q60 : zMem → Prop, zConV G mX10_puts d [.ref a0, .int (1 : Int32), .int (zI h47 a0 24)] h47 Q60 ∧ (∀ h61, Q60 h61 → zO h61 a0 9 ∧ ∃ Q63 : zMem → Prop, zConV G mX10_goOn d [.ref a0] h61 Q63 ∧ (∀ h64, Q63 h64 → Q h64)))) ∧ (¬ x1 = 0 → (x1 = 0 → zO h47 a0 9 ∧ ∃ Q69 : zMem → Prop, zConV G mX10_puts d [.ref a0, .int (0 : Int32), .int ((zI h47 a0 24) - (15 : Int32))] h47 Q69 ∧ (∀ h70, Q69 h70 → zO h70 a0 9 ∧ ∃ Q72 : zMem → Prop, zConV G mX10_goOn d [.ref a0] h70 Q72 ∧ (∀ h73, Q72 h73 → Q h73))) ∧ (¬ x1 = 0 → zO h47 a0 9 ∧ ∃ Q77 : zMem → Prop, zConV G mX10_puts d [.ref a0, .int (0 : Int32), .int (zI h47 a0 24)] h47 Q77 ∧ (∀ h78, Q77 h78 → zO h78 a0 9 ∧ ∃ Q80 : zMem → Prop, zConV G mX10_goOn d [.ref a0] h78 Q80 ∧ (∀ h81, Q80 h81 → Q h81))))))) ∧ ((zI h a0 23) = 0 → ((15 : Int32) ≤ (zI h a0 24) → ∃ Q86 : zMem → Prop, zConV G mX10_knot d [.ref a0] h Q86 ∧ (∀ h87, Q86 h87 → (x1 = 0 → (x1 = 0 → zO h87 a0 9 ∧ ∃ Q92 : zMem → Prop, zConV G mX10_puts d [.ref a0, .int (1 : Int32), .int ((zI h87 a0 24) - (15 : Int32))] h87 Q92 ∧ (∀ h93, Q92 h93 → zO h93 a0 9 ∧ ∃ Q95 : zMem → Prop, zConV G mX10_goOn d [.ref a0] h93 Q95 ∧ (∀ h96, Q95 h96 → Q h96))) ∧ (¬ x1 = 0 → zO h87 a0 9 ∧ ∃ Q100 : zMem → Prop, zConV G mX10_puts d [.ref a0, .int (1 : Int32), .int (zI h87 a0 24)] h87 Q100 ∧ (∀ h101, Q100 h101 → zO h101 a0 9 ∧ ∃ Q103 : zMem → Prop, zConV G mX10_goOn d [.ref a0] h101 Q103 ∧ (∀ h104, Q103 h104 → Q h104)))) ∧ (¬ x1 = 0 → (x1 = 0 → zO h87 a0 9 ∧ ∃ Q109 : zMem → Prop, zConV G mX10_puts d [.ref a0, .int (0 : Int32), .int ((zI h87 a0 24) - (15 : Int32))] h87 Q109 ∧ (∀ h110, Q109 h110 → zO h110 a0 9 ∧ ∃ Q112 : zMem → Prop, zConV G mX10_goOn d [.ref a0] h110 Q112 ∧ (∀ h113, Q112 h113 → Q h113))) ∧ (¬ x1 = 0 → zO h87 a0 9 ∧ ∃ Q117 : zMem → Prop, zConV G mX10_puts d [.ref a0, .int (0 : Int32), .int (zI h87 a0 24)] h87 Q117 ∧ (∀ h118, Q117 h118 → zO h118 a0 9 ∧ ∃ Q120 : zMem → Prop, zConV G mX10_goOn d [.ref a0] h118 Q120 ∧ (∀ h121, Q120 h121 → Q h121)))))) ∧ (¬ (15 : Int32) ≤ (zI h a0 24) → ∃ Q124 : zMem → Prop, zConV G mX10_wrong d [.ref a0, .int (1 : Int32)] h Q124 ∧ (∀ h125, Q124 h125 → zO h125 a0 9 ∧ ∃ Q127 : zMem → Prop, zConV G mX10_knot d [.ref a0] h125 Q127 ∧ (∀ h128, Q127 h128 → (x1 = 0 → (x1 = 0 → zO h128 a0 9 ∧ ∃ Q133 : zMem → Prop, zConV G mX10_puts d [.ref a0, .int (1 : Int32), .int ((zI h128 a0 24) - (15 : Int32))] h128 Q133 ∧ (∀ h134, Q133 h134 → zO h134 a0 9 ∧ ∃ Q136 : zMem → Prop, zConV G mX10_goOn d [.ref a0] h134 Q136 ∧ (∀ h137, Q136 h137 → Q h137))) ∧ (¬ x1 = 0 → zO h128 a0 9 ∧ ∃ Q141 : zMem → Prop, zConV G mX10_puts d [.ref a0, .int (1 : Int32), .int (zI h128 a0 24)] h128 Q141 ∧ (∀ h142, Q141 h142 → zO h142 a0 9 ∧ ∃ Q144 : zMem → Prop, zConV G mX10_goOn d [.ref a0] h142 Q144 ∧ (∀ h145, Q144 h145 → Q h145)))) ∧ (¬ x1 = 0 → (x1 = 0 → zO h128 a0 9 ∧ ∃ Q150 : zMem → Prop, zConV G mX10_puts d [.ref a0, .int (0 : Int32), .int ((zI h128 a0 24) - (15 : Int32))] h128 Q150 ∧ (∀ h151, Q150 h151 → zO h151 a0 9 ∧ ∃ Q153 : zMem → Prop, zConV G mX10_goOn d [.ref a0] h151 Q153 ∧ (∀ h154, Q153 h154 → Q h154))) ∧ (¬ x1 = 0 → zO h128 a0 9 ∧ ∃ Q158 : zMem → Prop, zConV G mX10_puts d [.ref a0, .int (0 : Int32), .int (zI h128 a0 24)] h128 Q158 ∧ (∀ h159, Q158 h159 → zO h159 a0 9 ∧ ∃ Q161 : zMem → Prop, zConV G mX10_goOn d [.ref a0] h159 Q161 ∧ (∀ h162, Q161 h162 → Q h162)))))))))) : zg G mX10_primary (d + 1) 137 [.ref a0, .int x1] [] h (zPV Q) := by
  refine z_iload_n 70 rfl rfl ?_
  refine z_if_ne 71 162 rfl (by decide) ⟨fun c1 => ?_, fun c1 => ?_⟩
  · have B := B.1 c1
    refine z_aload_n 82 rfl rfl ?_
    obtain ⟨o40, B⟩ := B
    obtain ⟨Q2, K4, B⟩ := B
    refine z_cVV0 (ν := mX10_knot) 83 rfl rfl fX10_knot gX10_285 ⟨_, rfl, rfl⟩ (by decide) o40 (Nat.le_of_ble_eq_true rfl) K4 (fun h3 q => ?_)
    have B := B h3 q
    refine z_aload_n 84 rfl rfl ?_
    refine z_iload_n 85 rfl rfl ?_
    refine z_if_eq 86 175 rfl (by decide) ⟨fun c5 => ?_, fun c5 => ?_⟩
    · have B := B.1 c5
      refine z_iconst (v := 1) 89 rfl (by decide) ?_
      refine z_iload_n 90 rfl rfl ?_
      refine z_if_eq 91 187 rfl (by decide) ⟨fun c6 => ?_, fun c6 => ?_⟩
      · have B := B.1 c6
        refine z_aload_n 95 rfl rfl ?_
        obtain ⟨o7, B⟩ := B
        refine z_getI 96 rfl lX10_189 rfl o7 ?_
        refine z_bipush (v := 15) 97 rfl (by decide) ?_
        refine z_isub 98 rfl ?_
        obtain ⟨Q8, K10, B⟩ := B
        refine z_cVV2 (ν := mX10_puts) 99 rfl rfl fX10_puts gX10_288 ⟨_, rfl, rfl⟩ (by decide) o7 (Nat.le_of_ble_eq_true rfl) K10 (fun h9 q => ?_)
        have B := B h9 q
        refine z_aload_n 100 rfl rfl ?_
        obtain ⟨o14, B⟩ := B
        obtain ⟨Q11, K13, B⟩ := B
        refine z_cVV0 (ν := mX10_goOn) 101 rfl rfl fX10_goOn gX10_261 ⟨_, rfl, rfl⟩ (by decide) o14 (Nat.le_of_ble_eq_true rfl) K13 (fun h12 q => ?_)
        have B := B h12 q
        exact z_vret 102 rfl rfl ⟨rfl, rfl⟩ ⟨rfl, B⟩
      · have B := B.2 c6
        refine z_aload_n 92 rfl rfl ?_
        obtain ⟨o15, B⟩ := B
        refine z_getI 93 rfl lX10_189 rfl o15 ?_
        refine z_goto 94 194 rfl (by decide) ?_
        obtain ⟨Q16, K18, B⟩ := B
        refine z_cVV2 (ν := mX10_puts) 99 rfl rfl fX10_puts gX10_288 ⟨_, rfl, rfl⟩ (by decide) o15 (Nat.le_of_ble_eq_true rfl) K18 (fun h17 q => ?_)
        have B := B h17 q
        refine z_aload_n 100 rfl rfl ?_
        obtain ⟨o22, B⟩ := B
        obtain ⟨Q19, K21, B⟩ := B
        refine z_cVV0 (ν := mX10_goOn) 101 rfl rfl fX10_goOn gX10_261 ⟨_, rfl, rfl⟩ (by decide) o22 (Nat.le_of_ble_eq_true rfl) K21 (fun h20 q => ?_)
        have B := B h20 q
        exact z_vret 102 rfl rfl ⟨rfl, rfl⟩ ⟨rfl, B⟩
    · have B := B.2 c5
      refine z_iconst (v := 0) 87 rfl (by decide) ?_
      refine z_goto 88 176 rfl (by decide) ?_
      refine z_iload_n 90 rfl rfl ?_
      refine z_if_eq 91 187 rfl (by decide) ⟨fun c23 => ?_, fun c23 => ?_⟩
      · have B := B.1 c23
        refine z_aload_n 95 rfl rfl ?_
        obtain ⟨o24, B⟩ := B
        refine z_getI 96 rfl lX10_189 rfl o24 ?_
        refine z_bipush (v := 15) 97 rfl (by decide) ?_
        refine z_isub 98 rfl ?_
        obtain ⟨Q25, K27, B⟩ := B
        refine z_cVV2 (ν := mX10_puts) 99 rfl rfl fX10_puts gX10_288 ⟨_, rfl, rfl⟩ (by decide) o24 (Nat.le_of_ble_eq_true rfl) K27 (fun h26 q => ?_)
        have B := B h26 q
        refine z_aload_n 100 rfl rfl ?_
        obtain ⟨o31, B⟩ := B
        obtain ⟨Q28, K30, B⟩ := B
        refine z_cVV0 (ν := mX10_goOn) 101 rfl rfl fX10_goOn gX10_261 ⟨_, rfl, rfl⟩ (by decide) o31 (Nat.le_of_ble_eq_true rfl) K30 (fun h29 q => ?_)
        have B := B h29 q
        exact z_vret 102 rfl rfl ⟨rfl, rfl⟩ ⟨rfl, B⟩
      · have B := B.2 c23
        refine z_aload_n 92 rfl rfl ?_
        obtain ⟨o32, B⟩ := B
        refine z_getI 93 rfl lX10_189 rfl o32 ?_
        refine z_goto 94 194 rfl (by decide) ?_
        obtain ⟨Q33, K35, B⟩ := B
        refine z_cVV2 (ν := mX10_puts) 99 rfl rfl fX10_puts gX10_288 ⟨_, rfl, rfl⟩ (by decide) o32 (Nat.le_of_ble_eq_true rfl) K35 (fun h34 q => ?_)
        have B := B h34 q
        refine z_aload_n 100 rfl rfl ?_
        obtain ⟨o39, B⟩ := B
        obtain ⟨Q36, K38, B⟩ := B
        refine z_cVV0 (ν := mX10_goOn) 101 rfl rfl fX10_goOn gX10_261 ⟨_, rfl, rfl⟩ (by decide) o39 (Nat.le_of_ble_eq_true rfl) K38 (fun h37 q => ?_)
        have B := B h37 q
        exact z_vret 102 rfl rfl ⟨rfl, rfl⟩ ⟨rfl, B⟩
  · have B := B.2 c1
    refine z_aload_n 72 rfl rfl ?_
    obtain ⟨o41, B⟩ := B
    refine z_getI 73 rfl lX10_179 rfl o41 ?_
    refine z_if_ne 74 157 rfl (by decide) ⟨fun c42 => ?_, fun c42 => ?_⟩
    · have B := B.1 c42
      refine z_aload_n 79 rfl rfl ?_
      refine z_iconst (v := 1) 80 rfl (by decide) ?_
      obtain ⟨Q43, K45, B⟩ := B
      refine z_cVV1 (ν := mX10_wrong) 81 rfl rfl fX10_wrong gX10_223 ⟨_, rfl, rfl⟩ (by decide) o41 (Nat.le_of_ble_eq_true rfl) K45 (fun h44 q => ?_)
      have B := B h44 q
      refine z_aload_n 82 rfl rfl ?_
      obtain ⟨o84, B⟩ := B
      obtain ⟨Q46, K48, B⟩ := B
      refine z_cVV0 (ν := mX10_knot) 83 rfl rfl fX10_knot gX10_285 ⟨_, rfl, rfl⟩ (by decide) o84 (Nat.le_of_ble_eq_true rfl) K48 (fun h47 q => ?_)
      have B := B h47 q
      refine z_aload_n 84 rfl rfl ?_
      refine z_iload_n 85 rfl rfl ?_
      refine z_if_eq 86 175 rfl (by decide) ⟨fun c49 => ?_, fun c49 => ?_⟩
      · have B := B.1 c49
        refine z_iconst (v := 1) 89 rfl (by decide) ?_
        refine z_iload_n 90 rfl rfl ?_
        refine z_if_eq 91 187 rfl (by decide) ⟨fun c50 => ?_, fun c50 => ?_⟩
        · have B := B.1 c50
          refine z_aload_n 95 rfl rfl ?_
          obtain ⟨o51, B⟩ := B
          refine z_getI 96 rfl lX10_189 rfl o51 ?_
          refine z_bipush (v := 15) 97 rfl (by decide) ?_
          refine z_isub 98 rfl ?_
          obtain ⟨Q52, K54, B⟩ := B
          refine z_cVV2 (ν := mX10_puts) 99 rfl rfl fX10_puts gX10_288 ⟨_, rfl, rfl⟩ (by decide) o51 (Nat.le_of_ble_eq_true rfl) K54 (fun h53 q => ?_)
          have B := B h53 q
          refine z_aload_n 100 rfl rfl ?_
          obtain ⟨o58, B⟩ := B
          obtain ⟨Q55, K57, B⟩ := B
          refine z_cVV0 (ν := mX10_goOn) 101 rfl rfl fX10_goOn gX10_261 ⟨_, rfl, rfl⟩ (by decide) o58 (Nat.le_of_ble_eq_true rfl) K57 (fun h56 q => ?_)
          have B := B h56 q
          exact z_vret 102 rfl rfl ⟨rfl, rfl⟩ ⟨rfl, B⟩
        · have B := B.2 c50
          refine z_aload_n 92 rfl rfl ?_
          obtain ⟨o59, B⟩ := B
          refine z_getI 93 rfl lX10_189 rfl o59 ?_
          refine z_goto 94 194 rfl (by decide) ?_
          obtain ⟨Q60, K62, B⟩ := B
          refine z_cVV2 (ν := mX10_puts) 99 rfl rfl fX10_puts gX10_288 ⟨_, rfl, rfl⟩ (by decide) o59 (Nat.le_of_ble_eq_true rfl) K62 (fun h61 q => ?_)
          have B := B h61 q
          refine z_aload_n 100 rfl rfl ?_
          obtain ⟨o66, B⟩ := B
          obtain ⟨Q63, K65, B⟩ := B
          refine z_cVV0 (ν := mX10_goOn) 101 rfl rfl fX10_goOn gX10_261 ⟨_, rfl, rfl⟩ (by decide) o66 (Nat.le_of_ble_eq_true rfl) K65 (fun h64 q => ?_)
          have B := B h64 q
          exact z_vret 102 rfl rfl ⟨rfl, rfl⟩ ⟨rfl, B⟩
      · have B := B.2 c49
        refine z_iconst (v := 0) 87 rfl (by decide) ?_
        refine z_goto 88 176 rfl (by decide) ?_
        refine z_iload_n 90 rfl rfl ?_
        refine z_if_eq 91 187 rfl (by decide) ⟨fun c67 => ?_, fun c67 => ?_⟩
        · have B := B.1 c67
          refine z_aload_n 95 rfl rfl ?_
          obtain ⟨o68, B⟩ := B
          refine z_getI 96 rfl lX10_189 rfl o68 ?_
          refine z_bipush (v := 15) 97 rfl (by decide) ?_
          refine z_isub 98 rfl ?_
          obtain ⟨Q69, K71, B⟩ := B
          refine z_cVV2 (ν := mX10_puts) 99 rfl rfl fX10_puts gX10_288 ⟨_, rfl, rfl⟩ (by decide) o68 (Nat.le_of_ble_eq_true rfl) K71 (fun h70 q => ?_)
          have B := B h70 q
          refine z_aload_n 100 rfl rfl ?_
          obtain ⟨o75, B⟩ := B
          obtain ⟨Q72, K74, B⟩ := B
          refine z_cVV0 (ν := mX10_goOn) 101 rfl rfl fX10_goOn gX10_261 ⟨_, rfl, rfl⟩ (by decide) o75 (Nat.le_of_ble_eq_true rfl) K74 (fun h73 q => ?_)
          have B := B h73 q
          exact z_vret 102 rfl rfl ⟨rfl, rfl⟩ ⟨rfl, B⟩
        · have B := B.2 c67
          refine z_aload_n 92 rfl rfl ?_
          obtain ⟨o76, B⟩ := B
          refine z_getI 93 rfl lX10_189 rfl o76 ?_
          refine z_goto 94 194 rfl (by decide) ?_
          obtain ⟨Q77, K79, B⟩ := B
          refine z_cVV2 (ν := mX10_puts) 99 rfl rfl fX10_puts gX10_288 ⟨_, rfl, rfl⟩ (by decide) o76 (Nat.le_of_ble_eq_true rfl) K79 (fun h78 q => ?_)
          have B := B h78 q
          refine z_aload_n 100 rfl rfl ?_
          obtain ⟨o83, B⟩ := B
          obtain ⟨Q80, K82, B⟩ := B
          refine z_cVV0 (ν := mX10_goOn) 101 rfl rfl fX10_goOn gX10_261 ⟨_, rfl, rfl⟩ (by decide) o83 (Nat.le_of_ble_eq_true rfl) K82 (fun h81 q => ?_)
          have B := B h81 q
          exact z_vret 102 rfl rfl ⟨rfl, rfl⟩ ⟨rfl, B⟩
    · have B := B.2 c42
      refine z_aload_n 75 rfl rfl ?_
      refine z_getI 76 rfl lX10_189 rfl o41 ?_
      refine z_bipush (v := 15) 77 rfl (by decide) ?_
      refine z_icmp_ge 78 162 rfl (by decide) ⟨fun c85 => ?_, fun c85 => ?_⟩
      · have B := B.1 c85
        refine z_aload_n 82 rfl rfl ?_
        obtain ⟨Q86, K88, B⟩ := B
        refine z_cVV0 (ν := mX10_knot) 83 rfl rfl fX10_knot gX10_285 ⟨_, rfl, rfl⟩ (by decide) o41 (Nat.le_of_ble_eq_true rfl) K88 (fun h87 q => ?_)
        have B := B h87 q
        refine z_aload_n 84 rfl rfl ?_
        refine z_iload_n 85 rfl rfl ?_
        refine z_if_eq 86 175 rfl (by decide) ⟨fun c89 => ?_, fun c89 => ?_⟩
        · have B := B.1 c89
          refine z_iconst (v := 1) 89 rfl (by decide) ?_
          refine z_iload_n 90 rfl rfl ?_
          refine z_if_eq 91 187 rfl (by decide) ⟨fun c90 => ?_, fun c90 => ?_⟩
          · have B := B.1 c90
            refine z_aload_n 95 rfl rfl ?_
            obtain ⟨o91, B⟩ := B
            refine z_getI 96 rfl lX10_189 rfl o91 ?_
            refine z_bipush (v := 15) 97 rfl (by decide) ?_
            refine z_isub 98 rfl ?_
            obtain ⟨Q92, K94, B⟩ := B
            refine z_cVV2 (ν := mX10_puts) 99 rfl rfl fX10_puts gX10_288 ⟨_, rfl, rfl⟩ (by decide) o91 (Nat.le_of_ble_eq_true rfl) K94 (fun h93 q => ?_)
            have B := B h93 q
            refine z_aload_n 100 rfl rfl ?_
            obtain ⟨o98, B⟩ := B
            obtain ⟨Q95, K97, B⟩ := B
            refine z_cVV0 (ν := mX10_goOn) 101 rfl rfl fX10_goOn gX10_261 ⟨_, rfl, rfl⟩ (by decide) o98 (Nat.le_of_ble_eq_true rfl) K97 (fun h96 q => ?_)
            have B := B h96 q
            exact z_vret 102 rfl rfl ⟨rfl, rfl⟩ ⟨rfl, B⟩
          · have B := B.2 c90
            refine z_aload_n 92 rfl rfl ?_
            obtain ⟨o99, B⟩ := B
            refine z_getI 93 rfl lX10_189 rfl o99 ?_
            refine z_goto 94 194 rfl (by decide) ?_
            obtain ⟨Q100, K102, B⟩ := B
            refine z_cVV2 (ν := mX10_puts) 99 rfl rfl fX10_puts gX10_288 ⟨_, rfl, rfl⟩ (by decide) o99 (Nat.le_of_ble_eq_true rfl) K102 (fun h101 q => ?_)
            have B := B h101 q
            refine z_aload_n 100 rfl rfl ?_
            obtain ⟨o106, B⟩ := B
            obtain ⟨Q103, K105, B⟩ := B
            refine z_cVV0 (ν := mX10_goOn) 101 rfl rfl fX10_goOn gX10_261 ⟨_, rfl, rfl⟩ (by decide) o106 (Nat.le_of_ble_eq_true rfl) K105 (fun h104 q => ?_)
            have B := B h104 q
            exact z_vret 102 rfl rfl ⟨rfl, rfl⟩ ⟨rfl, B⟩
        · have B := B.2 c89
          refine z_iconst (v := 0) 87 rfl (by decide) ?_
          refine z_goto 88 176 rfl (by decide) ?_
          refine z_iload_n 90 rfl rfl ?_
          refine z_if_eq 91 187 rfl (by decide) ⟨fun c107 => ?_, fun c107 => ?_⟩
          · have B := B.1 c107
            refine z_aload_n 95 rfl rfl ?_
            obtain ⟨o108, B⟩ := B
            refine z_getI 96 rfl lX10_189 rfl o108 ?_
            refine z_bipush (v := 15) 97 rfl (by decide) ?_
            refine z_isub 98 rfl ?_
            obtain ⟨Q109, K111, B⟩ := B
            refine z_cVV2 (ν := mX10_puts) 99 rfl rfl fX10_puts gX10_288 ⟨_, rfl, rfl⟩ (by decide) o108 (Nat.le_of_ble_eq_true rfl) K111 (fun h110 q => ?_)
            have B := B h110 q
            refine z_aload_n 100 rfl rfl ?_
            obtain ⟨o115, B⟩ := B
            obtain ⟨Q112, K114, B⟩ := B
            refine z_cVV0 (ν := mX10_goOn) 101 rfl rfl fX10_goOn gX10_261 ⟨_, rfl, rfl⟩ (by decide) o115 (Nat.le_of_ble_eq_true rfl) K114 (fun h113 q => ?_)
            have B := B h113 q
            exact z_vret 102 rfl rfl ⟨rfl, rfl⟩ ⟨rfl, B⟩
          · have B := B.2 c107
            refine z_aload_n 92 rfl rfl ?_
            obtain ⟨o116, B⟩ := B
            refine z_getI 93 rfl lX10_189 rfl o116 ?_
            refine z_goto 94 194 rfl (by decide) ?_
            obtain ⟨Q117, K119, B⟩ := B
            refine z_cVV2 (ν := mX10_puts) 99 rfl rfl fX10_puts gX10_288 ⟨_, rfl, rfl⟩ (by decide) o116 (Nat.le_of_ble_eq_true rfl) K119 (fun h118 q => ?_)
            have B := B h118 q
            refine z_aload_n 100 rfl rfl ?_
            obtain ⟨o123, B⟩ := B
            obtain ⟨Q120, K122, B⟩ := B
            refine z_cVV0 (ν := mX10_goOn) 101 rfl rfl fX10_goOn gX10_261 ⟨_, rfl, rfl⟩ (by decide) o123 (Nat.le_of_ble_eq_true rfl) K122 (fun h121 q => ?_)
            have B := B h121 q
            exact z_vret 102 rfl rfl ⟨rfl, rfl⟩ ⟨rfl, B⟩
      · have B := B.2 c85
        refine z_aload_n 79 rfl rfl ?_
        refine z_iconst (v := 1) 80 rfl (by decide) ?_
        obtain ⟨Q124, K126, B⟩ := B
        refine z_cVV1 (ν := mX10_wrong) 81 rfl rfl fX10_wrong gX10_223 ⟨_, rfl, rfl⟩ (by decide) o41 (Nat.le_of_ble_eq_true rfl) K126 (fun h125 q => ?_)
        have B := B h125 q
        refine z_aload_n 82 rfl rfl ?_
        obtain ⟨o165, B⟩ := B
        obtain ⟨Q127, K129, B⟩ := B
        refine z_cVV0 (ν := mX10_knot) 83 rfl rfl fX10_knot gX10_285 ⟨_, rfl, rfl⟩ (by decide) o165 (Nat.le_of_ble_eq_true rfl) K129 (fun h128 q => ?_)
        have B := B h128 q
        refine z_aload_n 84 rfl rfl ?_
        refine z_iload_n 85 rfl rfl ?_
        refine z_if_eq 86 175 rfl (by decide) ⟨fun c130 => ?_, fun c130 => ?_⟩
        · have B := B.1 c130
          refine z_iconst (v := 1) 89 rfl (by decide) ?_
          refine z_iload_n 90 rfl rfl ?_
          refine z_if_eq 91 187 rfl (by decide) ⟨fun c131 => ?_, fun c131 => ?_⟩
          · have B := B.1 c131
            refine z_aload_n 95 rfl rfl ?_
            obtain ⟨o132, B⟩ := B
            refine z_getI 96 rfl lX10_189 rfl o132 ?_
            refine z_bipush (v := 15) 97 rfl (by decide) ?_
            refine z_isub 98 rfl ?_
            obtain ⟨Q133, K135, B⟩ := B
            refine z_cVV2 (ν := mX10_puts) 99 rfl rfl fX10_puts gX10_288 ⟨_, rfl, rfl⟩ (by decide) o132 (Nat.le_of_ble_eq_true rfl) K135 (fun h134 q => ?_)
            have B := B h134 q
            refine z_aload_n 100 rfl rfl ?_
            obtain ⟨o139, B⟩ := B
            obtain ⟨Q136, K138, B⟩ := B
            refine z_cVV0 (ν := mX10_goOn) 101 rfl rfl fX10_goOn gX10_261 ⟨_, rfl, rfl⟩ (by decide) o139 (Nat.le_of_ble_eq_true rfl) K138 (fun h137 q => ?_)
            have B := B h137 q
            exact z_vret 102 rfl rfl ⟨rfl, rfl⟩ ⟨rfl, B⟩
          · have B := B.2 c131
            refine z_aload_n 92 rfl rfl ?_
            obtain ⟨o140, B⟩ := B
            refine z_getI 93 rfl lX10_189 rfl o140 ?_
            refine z_goto 94 194 rfl (by decide) ?_
            obtain ⟨Q141, K143, B⟩ := B
            refine z_cVV2 (ν := mX10_puts) 99 rfl rfl fX10_puts gX10_288 ⟨_, rfl, rfl⟩ (by decide) o140 (Nat.le_of_ble_eq_true rfl) K143 (fun h142 q => ?_)
            have B := B h142 q
            refine z_aload_n 100 rfl rfl ?_
            obtain ⟨o147, B⟩ := B
            obtain ⟨Q144, K146, B⟩ := B
            refine z_cVV0 (ν := mX10_goOn) 101 rfl rfl fX10_goOn gX10_261 ⟨_, rfl, rfl⟩ (by decide) o147 (Nat.le_of_ble_eq_true rfl) K146 (fun h145 q => ?_)
            have B := B h145 q
            exact z_vret 102 rfl rfl ⟨rfl, rfl⟩ ⟨rfl, B⟩
        · have B := B.2 c130
          refine z_iconst (v := 0) 87 rfl (by decide) ?_
          refine z_goto 88 176 rfl (by decide) ?_
          refine z_iload_n 90 rfl rfl ?_
          refine z_if_eq 91 187 rfl (by decide) ⟨fun c148 => ?_, fun c148 => ?_⟩
          · have B := B.1 c148
            refine z_aload_n 95 rfl rfl ?_
            obtain ⟨o149, B⟩ := B
            refine z_getI 96 rfl lX10_189 rfl o149 ?_
            refine z_bipush (v := 15) 97 rfl (by decide) ?_
            refine z_isub 98 rfl ?_
            obtain ⟨Q150, K152, B⟩ := B
            refine z_cVV2 (ν := mX10_puts) 99 rfl rfl fX10_puts gX10_288 ⟨_, rfl, rfl⟩ (by decide) o149 (Nat.le_of_ble_eq_true rfl) K152 (fun h151 q => ?_)
            have B := B h151 q
            refine z_aload_n 100 rfl rfl ?_
            obtain ⟨o156, B⟩ := B
            obtain ⟨Q153, K155, B⟩ := B
            refine z_cVV0 (ν := mX10_goOn) 101 rfl rfl fX10_goOn gX10_261 ⟨_, rfl, rfl⟩ (by decide) o156 (Nat.le_of_ble_eq_true rfl) K155 (fun h154 q => ?_)
            have B := B h154 q
            exact z_vret 102 rfl rfl ⟨rfl, rfl⟩ ⟨rfl, B⟩
          · have B := B.2 c148
            refine z_aload_n 92 rfl rfl ?_
            obtain ⟨o157, B⟩ := B
            refine z_getI 93 rfl lX10_189 rfl o157 ?_
            refine z_goto 94 194 rfl (by decide) ?_
            obtain ⟨Q158, K160, B⟩ := B
            refine z_cVV2 (ν := mX10_puts) 99 rfl rfl fX10_puts gX10_288 ⟨_, rfl, rfl⟩ (by decide) o157 (Nat.le_of_ble_eq_true rfl) K160 (fun h159 q => ?_)
            have B := B h159 q
            refine z_aload_n 100 rfl rfl ?_
            obtain ⟨o164, B⟩ := B
            obtain ⟨Q161, K163, B⟩ := B
            refine z_cVV0 (ν := mX10_goOn) 101 rfl rfl fX10_goOn gX10_261 ⟨_, rfl, rfl⟩ (by decide) o164 (Nat.le_of_ble_eq_true rfl) K163 (fun h162 q => ?_)
            have B := B h162 q
            exact z_vret 102 rfl rfl ⟨rfl, rfl⟩ ⟨rfl, B⟩
set_option maxRecDepth 100000 in
set_option maxHeartbeats 4000000 in
theorem sg_X10_half_0 {G : zG} {d : Nat} {h : zMem} {Q : zMem → Prop} {a0 : Nat} (B : zO h a0 100 ∧ zg G mX10_half d 7 [.ref a0, .int ((nI (zLen h a0)) / (2 : Int32)), .int (0 : Int32)] [] h (zPV Q)) : zg G mX10_half d 0 [.ref a0, zU, zU] [] h (zPV Q) := by
  refine z_aload_n 0 rfl rfl ?_
  obtain ⟨o1, B⟩ := B
  refine z_alen 1 rfl o1 (Or.inl rfl) ?_
  refine z_iconst (v := 2) 2 rfl (by decide) ?_
  refine z_idiv 3 rfl (by decide) ?_
  refine z_istore_n 4 rfl (by decide) rfl ?_
  refine z_iconst (v := 0) 5 rfl (by decide) ?_
  refine z_istore_n 6 rfl (by decide) rfl ?_
  exact B
theorem cn_X10_half {G : zG} {d : Nat} {h : zMem} {Q : zMem → Prop} {a0 : Nat} (B : zg G mX10_half d 0 [.ref a0, zU, zU] [] h (zPV Q)) : zConV G mX10_half d [.ref a0] h Q := zcon0 (by decide +kernel) eX10_half (Nat.le_of_ble_eq_true rfl) rfl B
set_option maxRecDepth 100000 in
set_option maxHeartbeats 4000000 in
theorem sg_X10_half_7 {G : zG} {d : Nat} {h : zMem} {Q : zMem → Prop} {a0 : Nat} {x1 : Int32} {x2 : Int32} (B : (x1 ≤ x2 → Q h) ∧ (¬ x1 ≤ x2 → zO h a0 100 ∧ vp_in (x1 + x2) (zLen h a0) ∧ vp_in x2 (zLen h a0) ∧ zg G mX10_half d 7 [.ref a0, .int x1, .int (x2 + 1)] [] (zsI h a0 x2.toNatClampNeg (zI h a0 (x1 + x2).toNatClampNeg)) (zPV Q))) : zg G mX10_half d 7 [.ref a0, .int x1, .int x2] [] h (zPV Q) := by
  refine z_iload_n 7 rfl rfl ?_
  refine z_iload_n 8 rfl rfl ?_
  refine z_icmp_ge 9 26 rfl (by decide) ⟨fun c1 => ?_, fun c1 => ?_⟩
  · have B := B.1 c1
    exact z_vret 20 rfl rfl ⟨rfl, rfl⟩ ⟨rfl, B⟩
  · have B := B.2 c1
    refine z_aload_n 10 rfl rfl ?_
    refine z_iload_n 11 rfl rfl ?_
    refine z_aload_n 12 rfl rfl ?_
    refine z_iload_n 13 rfl rfl ?_
    refine z_iload_n 14 rfl rfl ?_
    refine z_iadd 15 rfl ?_
    obtain ⟨o2, B⟩ := B
    obtain ⟨o3, B⟩ := B
    refine z_iald 16 rfl o2 o3 ?_
    obtain ⟨o4, B⟩ := B
    refine z_iast 17 rfl o2 o4 ?_
    refine z_iinc (v := 1) 18 rfl rfl (by decide) (by decide) rfl ?_
    refine z_goto 19 7 rfl (by decide) ?_
    exact B
