set_option maxRecDepth 100000 in
set_option maxHeartbeats 4000000 in
theorem sg_X10_law_0 {G : zG} {d : Nat} {h : zMem} {Q : Int64 → zMem → Prop} {x1 : Int32} {x2 : Int32} {x3 : Int32} (hS : zSh2 h)  (B : (x1 < 0 → Q (-9223372036854775808 : Int64) (zsI h 132 0 (0 : Int32))) ∧ (¬ x1 < 0 → ((2 : Int32) < x1 → Q (-9223372036854775808 : Int64) (zsI h 132 0 (0 : Int32))) ∧ (¬ (2 : Int32) < x1 → ∃ Q3 : Int32 → zMem → Prop, zConI G mX10_hasLaw d [.ref 132, .int x1] (zsI h 132 0 (0 : Int32)) Q3 ∧ (∀ v6 h4, Q3 v6 h4 → zSh2 h4 ∧ (¬ v6 = 0 → (¬ x1 = 0 → (¬ x1 = (1 : Int32) → (x1 = (1 : Int32) → zg G mX10_law (d + 1) 68 [.ref 132, .int x1, .int x2, .int x3] [] h4 (zPL Q)) ∧ (¬ x1 = (1 : Int32) → ∃ Q11 : Int32 → zMem → Prop, zConI G mX10_isStuff d [.ref 132, .int x3] h4 Q11 ∧ (∀ v14 h12, Q11 v14 h12 → zSh2 h12 ∧ (¬ v14 = 0 → zg G mX10_law (d + 1) 68 [.ref 132, .int x1, .int x2, .int x3] [] h12 (zPL Q)) ∧ (v14 = 0 → Q (-9223372036854775808 : Int64) h12)))) ∧ (x1 = (1 : Int32) → ∃ Q16 : Int32 → zMem → Prop, zConI G mX10_isMonk d [.ref 132, .int x2] h4 Q16 ∧ (∀ v19 h17, Q16 v19 h17 → zSh2 h17 ∧ (v19 = 0 → Q (-9223372036854775808 : Int64) h17) ∧ (¬ v19 = 0 → (x1 = (1 : Int32) → zg G mX10_law (d + 1) 68 [.ref 132, .int x1, .int x2, .int x3] [] h17 (zPL Q)) ∧ (¬ x1 = (1 : Int32) → ∃ Q22 : Int32 → zMem → Prop, zConI G mX10_isStuff d [.ref 132, .int x3] h17 Q22 ∧ (∀ v25 h23, Q22 v25 h23 → zSh2 h23 ∧ (¬ v25 = 0 → zg G mX10_law (d + 1) 68 [.ref 132, .int x1, .int x2, .int x3] [] h23 (zPL Q)) ∧ (v25 = 0 → Q (-9223372036854775808 : Int64) h23))))))) ∧ (x1 = 0 → ∃ Q27 : Int32 → zMem → Prop, zConI G mX10_isRoom d [.ref 132, .int x2] h4 Q27 ∧ (∀ v30 h28, Q27 v30 h28 → zSh2 h28 ∧ (v30 = 0 → Q (-9223372036854775808 : Int64) h28) ∧ (¬ v30 = 0 → (¬ x1 = (1 : Int32) → (x1 = (1 : Int32) → zg G mX10_law (d + 1) 68 [.ref 132, .int x1, .int x2, .int x3] [] h28 (zPL Q)) ∧ (¬ x1 = (1 : Int32) → ∃ Q34 : Int32 → zMem → Prop, zConI G mX10_isStuff d [.ref 132, .int x3] h28 Q34 ∧ (∀ v37 h35, Q34 v37 h35 → zSh2 h35 ∧ (¬ v37 = 0 → zg G mX10_law (d + 1) 68 [.ref 132, .int x1, .int x2, .int x3] [] h35 (zPL Q)) ∧ (v37 = 0 → Q (-9223372036854775808 : Int64) h35)))) ∧ (x1 = (1 : Int32) → ∃ Q39 : Int32 → zMem → Prop, zConI G mX10_isMonk d [.ref 132, .int x2] h28 Q39 ∧ (∀ v42 h40, Q39 v42 h40 → zSh2 h40 ∧ (v42 = 0 → Q (-9223372036854775808 : Int64) h40) ∧ (¬ v42 = 0 → (x1 = (1 : Int32) → zg G mX10_law (d + 1) 68 [.ref 132, .int x1, .int x2, .int x3] [] h40 (zPL Q)) ∧ (¬ x1 = (1 : Int32) → ∃ Q45 : Int32 → zMem → Prop, zConI G mX10_isStuff d [.ref 132, .int x3] h40 Q45 ∧ (∀ v48 h46, Q45 v48 h46 → zSh2 h46 ∧ (¬ v48 = 0 → zg G mX10_law (d + 1) 68 [.ref 132, .int x1, .int x2, .int x3] [] h46 (zPL Q)) ∧ (v48 = 0 → Q (-9223372036854775808 : Int64) h46)))))))))) ∧ (v6 = 0 → Q (-9223372036854775808 : Int64) h4))))) : zg G mX10_law (d + 1) 0 [.ref 132, .int x1, .int x2, .int x3] [] h (zPL Q) := by
  refine z_aload_n 0 rfl rfl ?_
  refine z_iconst (v := 0) 1 rfl (by decide) ?_
  refine z_putI 2 rfl lX10_160 ⟨_, _, _, rfl, rfl⟩ rfl rfl rfl (zcl1.o hS 132 9 rfl rfl rfl) ?_
  refine z_iload_n 3 rfl rfl ?_
  refine z_if_lt 4 22 rfl (by decide) ⟨fun c1 => ?_, fun c1 => ?_⟩
  · have B := B.1 c1
    refine z_ldc2 12 rfl kX10_432 ?_
    exact z_lret 13 rfl rfl ⟨rfl, rfl⟩ ⟨_, rfl, B⟩
  · have B := B.2 c1
    refine z_iload_n 5 rfl rfl ?_
    refine z_iconst (v := 2) 6 rfl (by decide) ?_
    refine z_icmp_gt 7 22 rfl (by decide) ⟨fun c2 => ?_, fun c2 => ?_⟩
    · have B := B.1 c2
      refine z_ldc2 12 rfl kX10_432 ?_
      exact z_lret 13 rfl rfl ⟨rfl, rfl⟩ ⟨_, rfl, B⟩
    · have B := B.2 c2
      refine z_aload_n 8 rfl rfl ?_
      refine z_iload_n 9 rfl rfl ?_
      obtain ⟨Q3, K5, B⟩ := B
      refine z_cVI1 (ν := mX10_hasLaw) 10 rfl rfl fX10_hasLaw gX10_355 ⟨_, rfl, rfl⟩ (by decide) (zcl1.o hS 132 9 rfl rfl rfl) (Nat.le_of_ble_eq_true rfl) K5 (fun v6 h4 q => ?_)
      obtain ⟨hSh4, B⟩ := B v6 h4 q
      refine z_if_ne 11 26 rfl (by decide) ⟨fun c7 => ?_, fun c7 => ?_⟩
      · have B := B.1 c7
        refine z_iload_n 14 rfl rfl ?_
        refine z_if_ne 15 38 rfl (by decide) ⟨fun c8 => ?_, fun c8 => ?_⟩
        · have B := B.1 c8
          refine z_iload_n 20 rfl rfl ?_
          refine z_iconst (v := 1) 21 rfl (by decide) ?_
          refine z_icmp_ne 22 51 rfl (by decide) ⟨fun c9 => ?_, fun c9 => ?_⟩
          · have B := B.1 c9
            refine z_iload_n 27 rfl rfl ?_
            refine z_iconst (v := 1) 28 rfl (by decide) ?_
            refine z_icmp_eq 29 68 rfl (by decide) ⟨fun c10 => ?_, fun c10 => ?_⟩
            · have B := B.1 c10
              exact B
            · have B := B.2 c10
              refine z_aload_n 30 rfl rfl ?_
              refine z_iload_n 31 rfl rfl ?_
              obtain ⟨Q11, K13, B⟩ := B
              refine z_cVI1 (ν := mX10_isStuff) 32 rfl rfl fX10_isStuff gX10_418 ⟨_, rfl, rfl⟩ (by decide) (zcl1.o hSh4 132 9 rfl rfl rfl) (Nat.le_of_ble_eq_true rfl) K13 (fun v14 h12 q => ?_)
              obtain ⟨hSh12, B⟩ := B v14 h12 q
              refine z_if_ne 33 68 rfl (by decide) ⟨fun c15 => ?_, fun c15 => ?_⟩
              · have B := B.1 c15
                exact B
              · have B := B.2 c15
                refine z_ldc2 34 rfl kX10_432 ?_
                exact z_lret 35 rfl rfl ⟨rfl, rfl⟩ ⟨_, rfl, B⟩
          · have B := B.2 c9
            refine z_aload_n 23 rfl rfl ?_
            refine z_iload_n 24 rfl rfl ?_
            obtain ⟨Q16, K18, B⟩ := B
            refine z_cVI1 (ν := mX10_isMonk) 25 rfl rfl fX10_isMonk gX10_415 ⟨_, rfl, rfl⟩ (by decide) (zcl1.o hSh4 132 9 rfl rfl rfl) (Nat.le_of_ble_eq_true rfl) K18 (fun v19 h17 q => ?_)
            obtain ⟨hSh17, B⟩ := B v19 h17 q
            refine z_if_eq 26 64 rfl (by decide) ⟨fun c20 => ?_, fun c20 => ?_⟩
            · have B := B.1 c20
              refine z_ldc2 34 rfl kX10_432 ?_
              exact z_lret 35 rfl rfl ⟨rfl, rfl⟩ ⟨_, rfl, B⟩
            · have B := B.2 c20
              refine z_iload_n 27 rfl rfl ?_
              refine z_iconst (v := 1) 28 rfl (by decide) ?_
              refine z_icmp_eq 29 68 rfl (by decide) ⟨fun c21 => ?_, fun c21 => ?_⟩
              · have B := B.1 c21
                exact B
              · have B := B.2 c21
                refine z_aload_n 30 rfl rfl ?_
                refine z_iload_n 31 rfl rfl ?_
                obtain ⟨Q22, K24, B⟩ := B
                refine z_cVI1 (ν := mX10_isStuff) 32 rfl rfl fX10_isStuff gX10_418 ⟨_, rfl, rfl⟩ (by decide) (zcl1.o hSh17 132 9 rfl rfl rfl) (Nat.le_of_ble_eq_true rfl) K24 (fun v25 h23 q => ?_)
                obtain ⟨hSh23, B⟩ := B v25 h23 q
                refine z_if_ne 33 68 rfl (by decide) ⟨fun c26 => ?_, fun c26 => ?_⟩
                · have B := B.1 c26
                  exact B
                · have B := B.2 c26
                  refine z_ldc2 34 rfl kX10_432 ?_
                  exact z_lret 35 rfl rfl ⟨rfl, rfl⟩ ⟨_, rfl, B⟩
        · have B := B.2 c8
          refine z_aload_n 16 rfl rfl ?_
          refine z_iload_n 17 rfl rfl ?_
          obtain ⟨Q27, K29, B⟩ := B
          refine z_cVI1 (ν := mX10_isRoom) 18 rfl rfl fX10_isRoom gX10_427 ⟨_, rfl, rfl⟩ (by decide) (zcl1.o hSh4 132 9 rfl rfl rfl) (Nat.le_of_ble_eq_true rfl) K29 (fun v30 h28 q => ?_)
          obtain ⟨hSh28, B⟩ := B v30 h28 q
          refine z_if_eq 19 64 rfl (by decide) ⟨fun c31 => ?_, fun c31 => ?_⟩
          · have B := B.1 c31
            refine z_ldc2 34 rfl kX10_432 ?_
            exact z_lret 35 rfl rfl ⟨rfl, rfl⟩ ⟨_, rfl, B⟩
          · have B := B.2 c31
            refine z_iload_n 20 rfl rfl ?_
            refine z_iconst (v := 1) 21 rfl (by decide) ?_
            refine z_icmp_ne 22 51 rfl (by decide) ⟨fun c32 => ?_, fun c32 => ?_⟩
            · have B := B.1 c32
              refine z_iload_n 27 rfl rfl ?_
              refine z_iconst (v := 1) 28 rfl (by decide) ?_
              refine z_icmp_eq 29 68 rfl (by decide) ⟨fun c33 => ?_, fun c33 => ?_⟩
              · have B := B.1 c33
                exact B
              · have B := B.2 c33
                refine z_aload_n 30 rfl rfl ?_
                refine z_iload_n 31 rfl rfl ?_
                obtain ⟨Q34, K36, B⟩ := B
                refine z_cVI1 (ν := mX10_isStuff) 32 rfl rfl fX10_isStuff gX10_418 ⟨_, rfl, rfl⟩ (by decide) (zcl1.o hSh28 132 9 rfl rfl rfl) (Nat.le_of_ble_eq_true rfl) K36 (fun v37 h35 q => ?_)
                obtain ⟨hSh35, B⟩ := B v37 h35 q
                refine z_if_ne 33 68 rfl (by decide) ⟨fun c38 => ?_, fun c38 => ?_⟩
                · have B := B.1 c38
                  exact B
                · have B := B.2 c38
                  refine z_ldc2 34 rfl kX10_432 ?_
                  exact z_lret 35 rfl rfl ⟨rfl, rfl⟩ ⟨_, rfl, B⟩
            · have B := B.2 c32
              refine z_aload_n 23 rfl rfl ?_
              refine z_iload_n 24 rfl rfl ?_
              obtain ⟨Q39, K41, B⟩ := B
              refine z_cVI1 (ν := mX10_isMonk) 25 rfl rfl fX10_isMonk gX10_415 ⟨_, rfl, rfl⟩ (by decide) (zcl1.o hSh28 132 9 rfl rfl rfl) (Nat.le_of_ble_eq_true rfl) K41 (fun v42 h40 q => ?_)
              obtain ⟨hSh40, B⟩ := B v42 h40 q
              refine z_if_eq 26 64 rfl (by decide) ⟨fun c43 => ?_, fun c43 => ?_⟩
              · have B := B.1 c43
                refine z_ldc2 34 rfl kX10_432 ?_
                exact z_lret 35 rfl rfl ⟨rfl, rfl⟩ ⟨_, rfl, B⟩
              · have B := B.2 c43
                refine z_iload_n 27 rfl rfl ?_
                refine z_iconst (v := 1) 28 rfl (by decide) ?_
                refine z_icmp_eq 29 68 rfl (by decide) ⟨fun c44 => ?_, fun c44 => ?_⟩
                · have B := B.1 c44
                  exact B
                · have B := B.2 c44
                  refine z_aload_n 30 rfl rfl ?_
                  refine z_iload_n 31 rfl rfl ?_
                  obtain ⟨Q45, K47, B⟩ := B
                  refine z_cVI1 (ν := mX10_isStuff) 32 rfl rfl fX10_isStuff gX10_418 ⟨_, rfl, rfl⟩ (by decide) (zcl1.o hSh40 132 9 rfl rfl rfl) (Nat.le_of_ble_eq_true rfl) K47 (fun v48 h46 q => ?_)
                  obtain ⟨hSh46, B⟩ := B v48 h46 q
                  refine z_if_ne 33 68 rfl (by decide) ⟨fun c49 => ?_, fun c49 => ?_⟩
                  · have B := B.1 c49
                    exact B
                  · have B := B.2 c49
                    refine z_ldc2 34 rfl kX10_432 ?_
                    exact z_lret 35 rfl rfl ⟨rfl, rfl⟩ ⟨_, rfl, B⟩
      · have B := B.2 c7
        refine z_ldc2 12 rfl kX10_432 ?_
        exact z_lret 13 rfl rfl ⟨rfl, rfl⟩ ⟨_, rfl, B⟩
theorem cn_X10_law {G : zG} {d : Nat} {h : zMem} {Q : Int64 → zMem → Prop} {x1 : Int32} {x2 : Int32} {x3 : Int32} (B : zg G mX10_law (d + 1) 0 [.ref 132, .int x1, .int x2, .int x3] [] h (zPL Q)) : zConL G mX10_law (d + 1) [.ref 132, .int x1, .int x2, .int x3] h Q := zcon0 (by decide +kernel) eX10_law (Nat.le_of_ble_eq_true rfl) rfl B
set_option maxRecDepth 100000 in
set_option maxHeartbeats 4000000 in
theorem sg_X10_law_68 {G : zG} {d : Nat} {h : zMem} {Q : Int64 → zMem → Prop} {x1 : Int32} {x2 : Int32} {x3 : Int32} (hS : zSh2 h)  (B : (¬ x1 = 0 → (¬ x1 = (1 : Int32) → vp_in x3 138 ∧ ∃ Q4 : zMem → Prop, zConV G mX10_calls d [.ref 132, .int (0 : Int32), .int (zI h 156 x3.toNatClampNeg), .int (0 : Int32), .int (0 : Int32), .int (0 : Int32), .int (0 : Int32), .int (0 : Int32)] h Q4 ∧ (∀ h5, Q4 h5 → zSh2 h5 ∧ ∃ Q7 : Int32 → zMem → Prop, zConI G mX10_comesOut d [.ref 132, .int x1] h5 Q7 ∧ (∀ v10 h8, Q7 v10 h8 → zSh2 h8 ∧ (v10 = 0 → Q (-9223372036854775808 : Int64) h8) ∧ (¬ v10 = 0 → Q (zL h8 150 0) h8)))) ∧ (x1 = (1 : Int32) → vp_in x2 115 ∧ ∃ Q13 : Int32 → zMem → Prop, zConI G mX10_partIn d [.ref 132, .int (zI h 159 x2.toNatClampNeg)] h Q13 ∧ (∀ v16 h14, Q13 v16 h14 → zSh2 h14 ∧ vp_in x2 10 ∧ ∃ Q18 : zMem → Prop, zConV G mX10_calls d [.ref 132, .int (0 : Int32), .int (0 : Int32), .int v16, .int (0 : Int32), .int (0 : Int32), .int (zI h14 159 x2.toNatClampNeg), .int (zI h14 144 x2.toNatClampNeg)] h14 Q18 ∧ (∀ h19, Q18 h19 → zSh2 h19 ∧ ∃ Q21 : Int32 → zMem → Prop, zConI G mX10_comesOut d [.ref 132, .int x1] h19 Q21 ∧ (∀ v24 h22, Q21 v24 h22 → zSh2 h22 ∧ (v24 = 0 → Q (-9223372036854775808 : Int64) h22) ∧ (¬ v24 = 0 → Q (zL h22 150 0) h22)))))) ∧ (x1 = 0 → ∃ Q26 : Int32 → zMem → Prop, zConI G mX10_partIn d [.ref 132, .int x2] h Q26 ∧ (∀ v29 h27, Q26 v29 h27 → zSh2 h27 ∧ vp_in (((6 : Int32) * x2) + x3) 828 ∧ vp_in x3 138 ∧ ∃ Q32 : zMem → Prop, zConV G mX10_calls d [.ref 132, .int (0 : Int32), .int (0 : Int32), .int v29, .int (zI h27 158 (((6 : Int32) * x2) + x3).toNatClampNeg), .int (zI h27 157 x3.toNatClampNeg), .int x2, .int (0 : Int32)] h27 Q32 ∧ (∀ h33, Q32 h33 → zSh2 h33 ∧ ∃ Q35 : Int32 → zMem → Prop, zConI G mX10_comesOut d [.ref 132, .int x1] h33 Q35 ∧ (∀ v38 h36, Q35 v38 h36 → zSh2 h36 ∧ (v38 = 0 → Q (-9223372036854775808 : Int64) h36) ∧ (¬ v38 = 0 → Q (zL h36 150 0) h36)))))) : zg G mX10_law (d + 1) 68 [.ref 132, .int x1, .int x2, .int x3] [] h (zPL Q) := by
  refine z_iload_n 36 rfl rfl ?_
  refine z_if_ne 37 105 rfl (by decide) ⟨fun c1 => ?_, fun c1 => ?_⟩
  · have B := B.1 c1
    refine z_iload_n 60 rfl rfl ?_
    refine z_iconst (v := 1) 61 rfl (by decide) ?_
    refine z_icmp_ne 62 143 rfl (by decide) ⟨fun c2 => ?_, fun c2 => ?_⟩
    · have B := B.1 c2
      refine z_aload_n 84 rfl rfl ?_
      refine z_iconst (v := 0) 85 rfl (by decide) ?_
      refine z_aload_n 86 rfl rfl ?_
      refine z_getR 87 rfl lX10_84 rfl (zcl1.o hS 132 9 rfl rfl rfl) (zcl1.r hS 132 39 156 rfl rfl rfl) ?_
      refine z_iload_n 88 rfl rfl ?_
      obtain ⟨o3, B⟩ := B
      refine z_iald 89 rfl (zcl1.o hS 156 100 rfl rfl rfl) (zin (zcl1.l hS 156 138 rfl rfl rfl) o3) ?_
      refine z_iconst (v := 0) 90 rfl (by decide) ?_
      refine z_iconst (v := 0) 91 rfl (by decide) ?_
      refine z_iconst (v := 0) 92 rfl (by decide) ?_
      refine z_iconst (v := 0) 93 rfl (by decide) ?_
      refine z_iconst (v := 0) 94 rfl (by decide) ?_
      obtain ⟨Q4, K6, B⟩ := B
      refine z_cVV7 (ν := mX10_calls) 95 rfl rfl fX10_calls gX10_371 ⟨_, rfl, rfl⟩ (by decide) (zcl1.o hS 132 9 rfl rfl rfl) (Nat.le_of_ble_eq_true rfl) K6 (fun h5 q => ?_)
      obtain ⟨hSh5, B⟩ := B h5 q
      refine z_aload_n 96 rfl rfl ?_
      refine z_iload_n 97 rfl rfl ?_
      obtain ⟨Q7, K9, B⟩ := B
      refine z_cVI1 (ν := mX10_comesOut) 98 rfl rfl fX10_comesOut gX10_358 ⟨_, rfl, rfl⟩ (by decide) (zcl1.o hSh5 132 9 rfl rfl rfl) (Nat.le_of_ble_eq_true rfl) K9 (fun v10 h8 q => ?_)
      obtain ⟨hSh8, B⟩ := B v10 h8 q
      refine z_if_eq 99 176 rfl (by decide) ⟨fun c11 => ?_, fun c11 => ?_⟩
      · have B := B.1 c11
        refine z_ldc2 105 rfl kX10_432 ?_
        exact z_lret 106 rfl rfl ⟨rfl, rfl⟩ ⟨_, rfl, B⟩
      · have B := B.2 c11
        refine z_aload_n 100 rfl rfl ?_
        refine z_getR 101 rfl lX10_66 rfl (zcl1.o hSh8 132 9 rfl rfl rfl) (zcl1.r hSh8 132 32 150 rfl rfl rfl) ?_
        refine z_iconst (v := 0) 102 rfl (by decide) ?_
        refine z_lald_c 103 0 rfl (by decide) (zcl1.o hSh8 150 101 rfl rfl rfl) (zin (zcl1.l hSh8 150 64 rfl rfl rfl) (zvp (by decide))) ?_
        refine z_goto 104 179 rfl (by decide) ?_
        exact z_lret 106 rfl rfl ⟨rfl, rfl⟩ ⟨_, rfl, B⟩
    · have B := B.2 c2
      refine z_aload_n 63 rfl rfl ?_
      refine z_iconst (v := 0) 64 rfl (by decide) ?_
      refine z_iconst (v := 0) 65 rfl (by decide) ?_
      refine z_aload_n 66 rfl rfl ?_
      refine z_aload_n 67 rfl rfl ?_
      refine z_getR 68 rfl lX10_93 rfl (zcl1.o hS 132 9 rfl rfl rfl) (zcl1.r hS 132 42 159 rfl rfl rfl) ?_
      refine z_iload_n 69 rfl rfl ?_
      obtain ⟨o12, B⟩ := B
      refine z_iald 70 rfl (zcl1.o hS 159 100 rfl rfl rfl) (zin (zcl1.l hS 159 115 rfl rfl rfl) o12) ?_
      obtain ⟨Q13, K15, B⟩ := B
      refine z_cVI1 (ν := mX10_partIn) 71 rfl rfl fX10_partIn gX10_368 ⟨_, rfl, rfl⟩ (by decide) (zcl1.o hS 132 9 rfl rfl rfl) (Nat.le_of_ble_eq_true rfl) K15 (fun v16 h14 q => ?_)
      obtain ⟨hSh14, B⟩ := B v16 h14 q
      refine z_iconst (v := 0) 72 rfl (by decide) ?_
      refine z_iconst (v := 0) 73 rfl (by decide) ?_
      refine z_aload_n 74 rfl rfl ?_
      refine z_getR 75 rfl lX10_93 rfl (zcl1.o hSh14 132 9 rfl rfl rfl) (zcl1.r hSh14 132 42 159 rfl rfl rfl) ?_
      refine z_iload_n 76 rfl rfl ?_
      refine z_iald 77 rfl (zcl1.o hSh14 159 100 rfl rfl rfl) (zin (zcl1.l hSh14 159 115 rfl rfl rfl) o12) ?_
      refine z_aload_n 78 rfl rfl ?_
      refine z_getR 79 rfl lX10_43 rfl (zcl1.o hSh14 132 9 rfl rfl rfl) (zcl1.r hSh14 132 13 144 rfl rfl rfl) ?_
      refine z_iload_n 80 rfl rfl ?_
      obtain ⟨o17, B⟩ := B
      refine z_iald 81 rfl (zcl1.o hSh14 144 100 rfl rfl rfl) (zin (zcl1.l hSh14 144 10 rfl rfl rfl) o17) ?_
      obtain ⟨Q18, K20, B⟩ := B
      refine z_cVV7 (ν := mX10_calls) 82 rfl rfl fX10_calls gX10_371 ⟨_, rfl, rfl⟩ (by decide) (zcl1.o hSh14 132 9 rfl rfl rfl) (Nat.le_of_ble_eq_true rfl) K20 (fun h19 q => ?_)
      obtain ⟨hSh19, B⟩ := B h19 q
      refine z_goto 83 159 rfl (by decide) ?_
      refine z_aload_n 96 rfl rfl ?_
      refine z_iload_n 97 rfl rfl ?_
      obtain ⟨Q21, K23, B⟩ := B
      refine z_cVI1 (ν := mX10_comesOut) 98 rfl rfl fX10_comesOut gX10_358 ⟨_, rfl, rfl⟩ (by decide) (zcl1.o hSh19 132 9 rfl rfl rfl) (Nat.le_of_ble_eq_true rfl) K23 (fun v24 h22 q => ?_)
      obtain ⟨hSh22, B⟩ := B v24 h22 q
      refine z_if_eq 99 176 rfl (by decide) ⟨fun c25 => ?_, fun c25 => ?_⟩
      · have B := B.1 c25
        refine z_ldc2 105 rfl kX10_432 ?_
        exact z_lret 106 rfl rfl ⟨rfl, rfl⟩ ⟨_, rfl, B⟩
      · have B := B.2 c25
        refine z_aload_n 100 rfl rfl ?_
        refine z_getR 101 rfl lX10_66 rfl (zcl1.o hSh22 132 9 rfl rfl rfl) (zcl1.r hSh22 132 32 150 rfl rfl rfl) ?_
        refine z_iconst (v := 0) 102 rfl (by decide) ?_
        refine z_lald_c 103 0 rfl (by decide) (zcl1.o hSh22 150 101 rfl rfl rfl) (zin (zcl1.l hSh22 150 64 rfl rfl rfl) (zvp (by decide))) ?_
        refine z_goto 104 179 rfl (by decide) ?_
        exact z_lret 106 rfl rfl ⟨rfl, rfl⟩ ⟨_, rfl, B⟩
  · have B := B.2 c1
    refine z_aload_n 38 rfl rfl ?_
    refine z_iconst (v := 0) 39 rfl (by decide) ?_
    refine z_iconst (v := 0) 40 rfl (by decide) ?_
    refine z_aload_n 41 rfl rfl ?_
    refine z_iload_n 42 rfl rfl ?_
    obtain ⟨Q26, K28, B⟩ := B
    refine z_cVI1 (ν := mX10_partIn) 43 rfl rfl fX10_partIn gX10_368 ⟨_, rfl, rfl⟩ (by decide) (zcl1.o hS 132 9 rfl rfl rfl) (Nat.le_of_ble_eq_true rfl) K28 (fun v29 h27 q => ?_)
    obtain ⟨hSh27, B⟩ := B v29 h27 q
    refine z_aload_n 44 rfl rfl ?_
    refine z_getR 45 rfl lX10_90 rfl (zcl1.o hSh27 132 9 rfl rfl rfl) (zcl1.r hSh27 132 41 158 rfl rfl rfl) ?_
    refine z_bipush (v := 6) 46 rfl (by decide) ?_
    refine z_iload_n 47 rfl rfl ?_
    refine z_imul 48 rfl ?_
    refine z_iload_n 49 rfl rfl ?_
    refine z_iadd 50 rfl ?_
    obtain ⟨o30, B⟩ := B
    refine z_iald 51 rfl (zcl1.o hSh27 158 100 rfl rfl rfl) (zin (zcl1.l hSh27 158 828 rfl rfl rfl) o30) ?_
    refine z_aload_n 52 rfl rfl ?_
    refine z_getR 53 rfl lX10_87 rfl (zcl1.o hSh27 132 9 rfl rfl rfl) (zcl1.r hSh27 132 40 157 rfl rfl rfl) ?_
    refine z_iload_n 54 rfl rfl ?_
    obtain ⟨o31, B⟩ := B
    refine z_iald 55 rfl (zcl1.o hSh27 157 100 rfl rfl rfl) (zin (zcl1.l hSh27 157 138 rfl rfl rfl) o31) ?_
    refine z_iload_n 56 rfl rfl ?_
    refine z_iconst (v := 0) 57 rfl (by decide) ?_
    obtain ⟨Q32, K34, B⟩ := B
    refine z_cVV7 (ν := mX10_calls) 58 rfl rfl fX10_calls gX10_371 ⟨_, rfl, rfl⟩ (by decide) (zcl1.o hSh27 132 9 rfl rfl rfl) (Nat.le_of_ble_eq_true rfl) K34 (fun h33 q => ?_)
    obtain ⟨hSh33, B⟩ := B h33 q
    refine z_goto 59 159 rfl (by decide) ?_
    refine z_aload_n 96 rfl rfl ?_
    refine z_iload_n 97 rfl rfl ?_
    obtain ⟨Q35, K37, B⟩ := B
    refine z_cVI1 (ν := mX10_comesOut) 98 rfl rfl fX10_comesOut gX10_358 ⟨_, rfl, rfl⟩ (by decide) (zcl1.o hSh33 132 9 rfl rfl rfl) (Nat.le_of_ble_eq_true rfl) K37 (fun v38 h36 q => ?_)
    obtain ⟨hSh36, B⟩ := B v38 h36 q
    refine z_if_eq 99 176 rfl (by decide) ⟨fun c39 => ?_, fun c39 => ?_⟩
    · have B := B.1 c39
      refine z_ldc2 105 rfl kX10_432 ?_
      exact z_lret 106 rfl rfl ⟨rfl, rfl⟩ ⟨_, rfl, B⟩
    · have B := B.2 c39
      refine z_aload_n 100 rfl rfl ?_
      refine z_getR 101 rfl lX10_66 rfl (zcl1.o hSh36 132 9 rfl rfl rfl) (zcl1.r hSh36 132 32 150 rfl rfl rfl) ?_
      refine z_iconst (v := 0) 102 rfl (by decide) ?_
      refine z_lald_c 103 0 rfl (by decide) (zcl1.o hSh36 150 101 rfl rfl rfl) (zin (zcl1.l hSh36 150 64 rfl rfl rfl) (zvp (by decide))) ?_
      refine z_goto 104 179 rfl (by decide) ?_
      exact z_lret 106 rfl rfl ⟨rfl, rfl⟩ ⟨_, rfl, B⟩
set_option maxRecDepth 100000 in
set_option maxHeartbeats 4000000 in
theorem sg_X10_keepNow_0 {G : zG} {d : Nat} {h : zMem} {Q : zMem → Prop}  (hS : zSh2 h)  (B : (¬ (zI h 132 47) = (20 : Int32) → ∃ Q2 : zMem → Prop, zConV G mX10_copies d [.ref 132, .int ((3 : Int32) + (zI h 132 47)), .int (0 : Int32)] h Q2 ∧ (∀ h3, Q2 h3 → zSh2 h3 ∧ Q (zsI h3 132 47 ((zI h3 132 47) + (1 : Int32))))) ∧ ((zI h 132 47) = (20 : Int32) → zg G mX10_keepNow (d + 1) 11 [.ref 132, .int (1 : Int32)] [] h (zPV Q))) : zg G mX10_keepNow (d + 1) 0 [.ref 132, zU] [] h (zPV Q) := by
  refine z_aload_n 0 rfl rfl ?_
  refine z_getI 1 rfl lX10_323 rfl (zcl1.o hS 132 9 rfl rfl rfl) ?_
  refine z_bipush (v := 20) 2 rfl (by decide) ?_
  refine z_icmp_ne 3 45 rfl (by decide) ⟨fun c1 => ?_, fun c1 => ?_⟩
  · have B := B.1 c1
    refine z_aload_n 27 rfl rfl ?_
    refine z_iconst (v := 3) 28 rfl (by decide) ?_
    refine z_aload_n 29 rfl rfl ?_
    refine z_getI 30 rfl lX10_323 rfl (zcl1.o hS 132 9 rfl rfl rfl) ?_
    refine z_iadd 31 rfl ?_
    refine z_iconst (v := 0) 32 rfl (by decide) ?_
    obtain ⟨Q2, K4, B⟩ := B
    refine z_cVV2 (ν := mX10_copies) 33 rfl rfl fX10_copies gX10_434 ⟨_, rfl, rfl⟩ (by decide) (zcl1.o hS 132 9 rfl rfl rfl) (Nat.le_of_ble_eq_true rfl) K4 (fun h3 q => ?_)
    obtain ⟨hSh3, B⟩ := B h3 q
    refine z_aload_n 34 rfl rfl ?_
    refine z_dup 35 rfl rfl ?_
    refine z_getI 36 rfl lX10_323 rfl (zcl1.o hSh3 132 9 rfl rfl rfl) ?_
    refine z_iconst (v := 1) 37 rfl (by decide) ?_
    refine z_iadd 38 rfl ?_
    refine z_putI 39 rfl lX10_323 ⟨_, _, _, rfl, rfl⟩ rfl rfl rfl (zcl1.o hSh3 132 9 rfl rfl rfl) ?_
    exact z_vret 40 rfl rfl ⟨rfl, rfl⟩ ⟨rfl, B⟩
  · have B := B.2 c1
    refine z_iconst (v := 1) 4 rfl (by decide) ?_
    refine z_istore_n 5 rfl (by decide) rfl ?_
    exact B
theorem cn_X10_keepNow {G : zG} {d : Nat} {h : zMem} {Q : zMem → Prop}  (B : zg G mX10_keepNow (d + 1) 0 [.ref 132, zU] [] h (zPV Q)) : zConV G mX10_keepNow (d + 1) [.ref 132] h Q := zcon0 (by decide +kernel) eX10_keepNow (Nat.le_of_ble_eq_true rfl) rfl B
set_option maxRecDepth 100000 in
set_option maxHeartbeats 4000000 in
theorem sg_X10_keepNow_11 {G : zG} {d : Nat} {h : zMem} {Q : zMem → Prop} {x1 : Int32} (hS : zSh2 h)  (B : ((20 : Int32) ≤ x1 → ∃ Q2 : zMem → Prop, zConV G mX10_copies d [.ref 132, .int ((3 : Int32) + (zI (zsI h 132 47 ((zI h 132 47) - (1 : Int32))) 132 47)), .int (0 : Int32)] (zsI h 132 47 ((zI h 132 47) - (1 : Int32))) Q2 ∧ (∀ h3, Q2 h3 → zSh2 h3 ∧ Q (zsI h3 132 47 ((zI h3 132 47) + (1 : Int32))))) ∧ (¬ (20 : Int32) ≤ x1 → ∃ Q5 : zMem → Prop, zConV G mX10_copies d [.ref 132, .int (((3 : Int32) + x1) - (1 : Int32)), .int ((3 : Int32) + x1)] h Q5 ∧ (∀ h6, Q5 h6 → zSh2 h6 ∧ zg G mX10_keepNow (d + 1) 11 [.ref 132, .int (x1 + 1)] [] h6 (zPV Q)))) : zg G mX10_keepNow (d + 1) 11 [.ref 132, .int x1] [] h (zPV Q) := by
  refine z_iload_n 6 rfl rfl ?_
  refine z_bipush (v := 20) 7 rfl (by decide) ?_
  refine z_icmp_ge 8 35 rfl (by decide) ⟨fun c1 => ?_, fun c1 => ?_⟩
  · have B := B.1 c1
    refine z_aload_n 21 rfl rfl ?_
    refine z_dup 22 rfl rfl ?_
    refine z_getI 23 rfl lX10_323 rfl (zcl1.o hS 132 9 rfl rfl rfl) ?_
    refine z_iconst (v := 1) 24 rfl (by decide) ?_
    refine z_isub 25 rfl ?_
    refine z_putI 26 rfl lX10_323 ⟨_, _, _, rfl, rfl⟩ rfl rfl rfl (zcl1.o hS 132 9 rfl rfl rfl) ?_
    refine z_aload_n 27 rfl rfl ?_
    refine z_iconst (v := 3) 28 rfl (by decide) ?_
    refine z_aload_n 29 rfl rfl ?_
    refine z_getI 30 rfl lX10_323 rfl (zcl1.o hS 132 9 rfl rfl rfl) ?_
    refine z_iadd 31 rfl ?_
    refine z_iconst (v := 0) 32 rfl (by decide) ?_
    obtain ⟨Q2, K4, B⟩ := B
    refine z_cVV2 (ν := mX10_copies) 33 rfl rfl fX10_copies gX10_434 ⟨_, rfl, rfl⟩ (by decide) (zcl1.o hS 132 9 rfl rfl rfl) (Nat.le_of_ble_eq_true rfl) K4 (fun h3 q => ?_)
    obtain ⟨hSh3, B⟩ := B h3 q
    refine z_aload_n 34 rfl rfl ?_
    refine z_dup 35 rfl rfl ?_
    refine z_getI 36 rfl lX10_323 rfl (zcl1.o hSh3 132 9 rfl rfl rfl) ?_
    refine z_iconst (v := 1) 37 rfl (by decide) ?_
    refine z_iadd 38 rfl ?_
    refine z_putI 39 rfl lX10_323 ⟨_, _, _, rfl, rfl⟩ rfl rfl rfl (zcl1.o hSh3 132 9 rfl rfl rfl) ?_
    exact z_vret 40 rfl rfl ⟨rfl, rfl⟩ ⟨rfl, B⟩
  · have B := B.2 c1
    refine z_aload_n 9 rfl rfl ?_
    refine z_iconst (v := 3) 10 rfl (by decide) ?_
    refine z_iload_n 11 rfl rfl ?_
    refine z_iadd 12 rfl ?_
    refine z_iconst (v := 1) 13 rfl (by decide) ?_
    refine z_isub 14 rfl ?_
    refine z_iconst (v := 3) 15 rfl (by decide) ?_
    refine z_iload_n 16 rfl rfl ?_
    refine z_iadd 17 rfl ?_
    obtain ⟨Q5, K7, B⟩ := B
    refine z_cVV2 (ν := mX10_copies) 18 rfl rfl fX10_copies gX10_434 ⟨_, rfl, rfl⟩ (by decide) (zcl1.o hS 132 9 rfl rfl rfl) (Nat.le_of_ble_eq_true rfl) K7 (fun h6 q => ?_)
    obtain ⟨hSh6, B⟩ := B h6 q
    refine z_iinc (v := 1) 19 rfl rfl (by decide) (by decide) rfl ?_
    refine z_goto 20 11 rfl (by decide) ?_
    exact B
set_option maxRecDepth 100000 in
set_option maxHeartbeats 4000000 in
theorem sg_X10_cold_0 {G : zG} {d : Nat} {h : zMem} {Q : Int32 → zMem → Prop} {x1 : Int32} {x2 : Int32} {x3 : Int32} (hS : zSh2 h)  (B : ∃ Q1 : Int32 → zMem → Prop, zConI G mX10_isMonk d [.ref 132, .int x1] (zsI h 132 0 (0 : Int32)) Q1 ∧ (∀ v4 h2, Q1 v4 h2 → zSh2 h2 ∧ (v4 = 0 → Q (0 : Int32) h2) ∧ (¬ v4 = 0 → ∃ Q6 : Int32 → zMem → Prop, zConI G mX10_isStuff d [.ref 132, .int x2] h2 Q6 ∧ (∀ v9 h7, Q6 v9 h7 → zSh2 h7 ∧ (v9 = 0 → Q (0 : Int32) h7) ∧ (¬ v9 = 0 → vp_in x1 115 ∧ (¬ (((zI h7 160 x1.toNatClampNeg) >>> (x2 &&& 31)) &&& (1 : Int32)) = (1 : Int32) → (¬ (0 : Int32) = x3 → ∃ Q14 : zMem → Prop, zConV G mX10_keepNow d [.ref 132] h7 Q14 ∧ (∀ h15, Q14 h15 → zSh2 h15 ∧ Q (1 : Int32) (zsI h15 160 x1.toNatClampNeg ((zI h15 160 x1.toNatClampNeg) ^^^ ((1 : Int32) <<< (x2 &&& 31)))))) ∧ ((0 : Int32) = x3 → Q (0 : Int32) h7)) ∧ ((((zI h7 160 x1.toNatClampNeg) >>> (x2 &&& 31)) &&& (1 : Int32)) = (1 : Int32) → (¬ (1 : Int32) = x3 → ∃ Q18 : zMem → Prop, zConV G mX10_keepNow d [.ref 132] h7 Q18 ∧ (∀ h19, Q18 h19 → zSh2 h19 ∧ Q (1 : Int32) (zsI h19 160 x1.toNatClampNeg ((zI h19 160 x1.toNatClampNeg) ^^^ ((1 : Int32) <<< (x2 &&& 31)))))) ∧ ((1 : Int32) = x3 → Q (0 : Int32) h7))))))) : zg G mX10_cold (d + 1) 0 [.ref 132, .int x1, .int x2, .int x3] [] h (zPI Q) := by
  refine z_aload_n 0 rfl rfl ?_
  refine z_iconst (v := 0) 1 rfl (by decide) ?_
  refine z_putI 2 rfl lX10_160 ⟨_, _, _, rfl, rfl⟩ rfl rfl rfl (zcl1.o hS 132 9 rfl rfl rfl) ?_
  refine z_aload_n 3 rfl rfl ?_
  refine z_iload_n 4 rfl rfl ?_
  obtain ⟨Q1, K3, B⟩ := B
  refine z_cVI1 (ν := mX10_isMonk) 5 rfl rfl fX10_isMonk gX10_415 ⟨_, rfl, rfl⟩ (by decide) (zcl1.o hS 132 9 rfl rfl rfl) (Nat.le_of_ble_eq_true rfl) K3 (fun v4 h2 q => ?_)
  obtain ⟨hSh2, B⟩ := B v4 h2 q
  refine z_if_eq 6 44 rfl (by decide) ⟨fun c5 => ?_, fun c5 => ?_⟩
  · have B := B.1 c5
    refine z_iconst (v := 0) 26 rfl (by decide) ?_
    exact z_iret 27 rfl rfl rfl ⟨rfl, rfl⟩ ⟨_, rfl, B⟩
  · have B := B.2 c5
    refine z_aload_n 7 rfl rfl ?_
    refine z_iload_n 8 rfl rfl ?_
    obtain ⟨Q6, K8, B⟩ := B
    refine z_cVI1 (ν := mX10_isStuff) 9 rfl rfl fX10_isStuff gX10_418 ⟨_, rfl, rfl⟩ (by decide) (zcl1.o hSh2 132 9 rfl rfl rfl) (Nat.le_of_ble_eq_true rfl) K8 (fun v9 h7 q => ?_)
    obtain ⟨hSh7, B⟩ := B v9 h7 q
    refine z_if_eq 10 44 rfl (by decide) ⟨fun c10 => ?_, fun c10 => ?_⟩
    · have B := B.1 c10
      refine z_iconst (v := 0) 26 rfl (by decide) ?_
      exact z_iret 27 rfl rfl rfl ⟨rfl, rfl⟩ ⟨_, rfl, B⟩
    · have B := B.2 c10
      refine z_aload_n 11 rfl rfl ?_
      refine z_getR 12 rfl lX10_96 rfl (zcl1.o hSh7 132 9 rfl rfl rfl) (zcl1.r hSh7 132 43 160 rfl rfl rfl) ?_
      refine z_iload_n 13 rfl rfl ?_
      obtain ⟨o11, B⟩ := B
      refine z_iald 14 rfl (zcl1.o hSh7 160 100 rfl rfl rfl) (zin (zcl1.l hSh7 160 115 rfl rfl rfl) o11) ?_
      refine z_iload_n 15 rfl rfl ?_
      refine z_ishr 16 rfl ?_
      refine z_iconst (v := 1) 17 rfl (by decide) ?_
      refine z_iand 18 rfl ?_
      refine z_iconst (v := 1) 19 rfl (by decide) ?_
      refine z_icmp_ne 20 39 rfl (by decide) ⟨fun c12 => ?_, fun c12 => ?_⟩
      · have B := B.1 c12
        refine z_iconst (v := 0) 23 rfl (by decide) ?_
        refine z_iload_n 24 rfl rfl ?_
        refine z_icmp_ne 25 46 rfl (by decide) ⟨fun c13 => ?_, fun c13 => ?_⟩
        · have B := B.1 c13
          refine z_aload_n 28 rfl rfl ?_
          obtain ⟨Q14, K16, B⟩ := B
          refine z_cVV0 (ν := mX10_keepNow) 29 rfl rfl fX10_keepNow gX10_437 ⟨_, rfl, rfl⟩ (by decide) (zcl1.o hSh7 132 9 rfl rfl rfl) (Nat.le_of_ble_eq_true rfl) K16 (fun h15 q => ?_)
          obtain ⟨hSh15, B⟩ := B h15 q
          refine z_aload_n 30 rfl rfl ?_
          refine z_getR 31 rfl lX10_96 rfl (zcl1.o hSh15 132 9 rfl rfl rfl) (zcl1.r hSh15 132 43 160 rfl rfl rfl) ?_
          refine z_iload_n 32 rfl rfl ?_
          refine z_dup2 33 rfl rfl rfl ?_
          refine z_iald 34 rfl (zcl1.o hSh15 160 100 rfl rfl rfl) (zin (zcl1.l hSh15 160 115 rfl rfl rfl) o11) ?_
          refine z_iconst (v := 1) 35 rfl (by decide) ?_
          refine z_iload_n 36 rfl rfl ?_
          refine z_ishl 37 rfl ?_
          refine z_ixor 38 rfl ?_
          refine z_iast 39 rfl (zcl1.o hSh15 160 100 rfl rfl rfl) (zin (zcl1.l hSh15 160 115 rfl rfl rfl) o11) ?_
          refine z_iconst (v := 1) 40 rfl (by decide) ?_
          exact z_iret 41 rfl rfl rfl ⟨rfl, rfl⟩ ⟨_, rfl, B⟩
        · have B := B.2 c13
          refine z_iconst (v := 0) 26 rfl (by decide) ?_
          exact z_iret 27 rfl rfl rfl ⟨rfl, rfl⟩ ⟨_, rfl, B⟩
      · have B := B.2 c12
        refine z_iconst (v := 1) 21 rfl (by decide) ?_
        refine z_goto 22 40 rfl (by decide) ?_
        refine z_iload_n 24 rfl rfl ?_
        refine z_icmp_ne 25 46 rfl (by decide) ⟨fun c17 => ?_, fun c17 => ?_⟩
        · have B := B.1 c17
          refine z_aload_n 28 rfl rfl ?_
          obtain ⟨Q18, K20, B⟩ := B
          refine z_cVV0 (ν := mX10_keepNow) 29 rfl rfl fX10_keepNow gX10_437 ⟨_, rfl, rfl⟩ (by decide) (zcl1.o hSh7 132 9 rfl rfl rfl) (Nat.le_of_ble_eq_true rfl) K20 (fun h19 q => ?_)
          obtain ⟨hSh19, B⟩ := B h19 q
          refine z_aload_n 30 rfl rfl ?_
          refine z_getR 31 rfl lX10_96 rfl (zcl1.o hSh19 132 9 rfl rfl rfl) (zcl1.r hSh19 132 43 160 rfl rfl rfl) ?_
          refine z_iload_n 32 rfl rfl ?_
          refine z_dup2 33 rfl rfl rfl ?_
          refine z_iald 34 rfl (zcl1.o hSh19 160 100 rfl rfl rfl) (zin (zcl1.l hSh19 160 115 rfl rfl rfl) o11) ?_
          refine z_iconst (v := 1) 35 rfl (by decide) ?_
          refine z_iload_n 36 rfl rfl ?_
          refine z_ishl 37 rfl ?_
          refine z_ixor 38 rfl ?_
          refine z_iast 39 rfl (zcl1.o hSh19 160 100 rfl rfl rfl) (zin (zcl1.l hSh19 160 115 rfl rfl rfl) o11) ?_
          refine z_iconst (v := 1) 40 rfl (by decide) ?_
          exact z_iret 41 rfl rfl rfl ⟨rfl, rfl⟩ ⟨_, rfl, B⟩
        · have B := B.2 c17
          refine z_iconst (v := 0) 26 rfl (by decide) ?_
          exact z_iret 27 rfl rfl rfl ⟨rfl, rfl⟩ ⟨_, rfl, B⟩
theorem cn_X10_cold {G : zG} {d : Nat} {h : zMem} {Q : Int32 → zMem → Prop} {x1 : Int32} {x2 : Int32} {x3 : Int32} (B : zg G mX10_cold (d + 1) 0 [.ref 132, .int x1, .int x2, .int x3] [] h (zPI Q)) : zConI G mX10_cold (d + 1) [.ref 132, .int x1, .int x2, .int x3] h Q := zcon0 (by decide +kernel) eX10_cold (Nat.le_of_ble_eq_true rfl) rfl B
set_option maxRecDepth 100000 in
set_option maxHeartbeats 4000000 in
theorem sg_X10_wind_0 {G : zG} {d : Nat} {h : zMem} {Q : Int32 → zMem → Prop} {x1 : Int32} {x2 : Int32} (hS : zSh2 h)  (B : ∃ Q1 : Int32 → zMem → Prop, zConI G mX10_isStuff d [.ref 132, .int x1] (zsI h 132 0 (0 : Int32)) Q1 ∧ (∀ v4 h2, Q1 v4 h2 → zSh2 h2 ∧ (v4 = 0 → Q (0 : Int32) h2) ∧ (¬ v4 = 0 → (x2 < 0 → Q (0 : Int32) h2) ∧ (¬ x2 < 0 → ((99 : Int32) < x2 → Q (0 : Int32) h2) ∧ (¬ (99 : Int32) < x2 → vp_in x1 138 ∧ (¬ (zI h2 157 x1.toNatClampNeg) = x2 → ∃ Q10 : zMem → Prop, zConV G mX10_keepNow d [.ref 132] h2 Q10 ∧ (∀ h11, Q10 h11 → zSh2 h11 ∧ Q (1 : Int32) (zsI h11 157 x1.toNatClampNeg x2))) ∧ ((zI h2 157 x1.toNatClampNeg) = x2 → Q (0 : Int32) h2)))))) : zg G mX10_wind (d + 1) 0 [.ref 132, .int x1, .int x2] [] h (zPI Q) := by
  refine z_aload_n 0 rfl rfl ?_
  refine z_iconst (v := 0) 1 rfl (by decide) ?_
  refine z_putI 2 rfl lX10_160 ⟨_, _, _, rfl, rfl⟩ rfl rfl rfl (zcl1.o hS 132 9 rfl rfl rfl) ?_
  refine z_aload_n 3 rfl rfl ?_
  refine z_iload_n 4 rfl rfl ?_
  obtain ⟨Q1, K3, B⟩ := B
  refine z_cVI1 (ν := mX10_isStuff) 5 rfl rfl fX10_isStuff gX10_418 ⟨_, rfl, rfl⟩ (by decide) (zcl1.o hS 132 9 rfl rfl rfl) (Nat.le_of_ble_eq_true rfl) K3 (fun v4 h2 q => ?_)
  obtain ⟨hSh2, B⟩ := B v4 h2 q
  refine z_if_eq 6 33 rfl (by decide) ⟨fun c5 => ?_, fun c5 => ?_⟩
  · have B := B.1 c5
    refine z_iconst (v := 0) 18 rfl (by decide) ?_
    exact z_iret 19 rfl rfl rfl ⟨rfl, rfl⟩ ⟨_, rfl, B⟩
  · have B := B.2 c5
    refine z_iload_n 7 rfl rfl ?_
    refine z_if_lt 8 33 rfl (by decide) ⟨fun c6 => ?_, fun c6 => ?_⟩
    · have B := B.1 c6
      refine z_iconst (v := 0) 18 rfl (by decide) ?_
      exact z_iret 19 rfl rfl rfl ⟨rfl, rfl⟩ ⟨_, rfl, B⟩
    · have B := B.2 c6
      refine z_iload_n 9 rfl rfl ?_
      refine z_bipush (v := 99) 10 rfl (by decide) ?_
      refine z_icmp_gt 11 33 rfl (by decide) ⟨fun c7 => ?_, fun c7 => ?_⟩
      · have B := B.1 c7
        refine z_iconst (v := 0) 18 rfl (by decide) ?_
        exact z_iret 19 rfl rfl rfl ⟨rfl, rfl⟩ ⟨_, rfl, B⟩
      · have B := B.2 c7
        refine z_aload_n 12 rfl rfl ?_
        refine z_getR 13 rfl lX10_87 rfl (zcl1.o hSh2 132 9 rfl rfl rfl) (zcl1.r hSh2 132 40 157 rfl rfl rfl) ?_
        refine z_iload_n 14 rfl rfl ?_
        obtain ⟨o8, B⟩ := B
        refine z_iald 15 rfl (zcl1.o hSh2 157 100 rfl rfl rfl) (zin (zcl1.l hSh2 157 138 rfl rfl rfl) o8) ?_
        refine z_iload_n 16 rfl rfl ?_
        refine z_icmp_ne 17 35 rfl (by decide) ⟨fun c9 => ?_, fun c9 => ?_⟩
        · have B := B.1 c9
          refine z_aload_n 20 rfl rfl ?_
          obtain ⟨Q10, K12, B⟩ := B
          refine z_cVV0 (ν := mX10_keepNow) 21 rfl rfl fX10_keepNow gX10_437 ⟨_, rfl, rfl⟩ (by decide) (zcl1.o hSh2 132 9 rfl rfl rfl) (Nat.le_of_ble_eq_true rfl) K12 (fun h11 q => ?_)
          obtain ⟨hSh11, B⟩ := B h11 q
          refine z_aload_n 22 rfl rfl ?_
          refine z_getR 23 rfl lX10_87 rfl (zcl1.o hSh11 132 9 rfl rfl rfl) (zcl1.r hSh11 132 40 157 rfl rfl rfl) ?_
          refine z_iload_n 24 rfl rfl ?_
          refine z_iload_n 25 rfl rfl ?_
          refine z_iast 26 rfl (zcl1.o hSh11 157 100 rfl rfl rfl) (zin (zcl1.l hSh11 157 138 rfl rfl rfl) o8) ?_
          refine z_iconst (v := 1) 27 rfl (by decide) ?_
          exact z_iret 28 rfl rfl rfl ⟨rfl, rfl⟩ ⟨_, rfl, B⟩
        · have B := B.2 c9
          refine z_iconst (v := 0) 18 rfl (by decide) ?_
          exact z_iret 19 rfl rfl rfl ⟨rfl, rfl⟩ ⟨_, rfl, B⟩
theorem cn_X10_wind {G : zG} {d : Nat} {h : zMem} {Q : Int32 → zMem → Prop} {x1 : Int32} {x2 : Int32} (B : zg G mX10_wind (d + 1) 0 [.ref 132, .int x1, .int x2] [] h (zPI Q)) : zConI G mX10_wind (d + 1) [.ref 132, .int x1, .int x2] h Q := zcon0 (by decide +kernel) eX10_wind (Nat.le_of_ble_eq_true rfl) rfl B
set_option maxRecDepth 100000 in
set_option maxHeartbeats 4000000 in
theorem sg_X10_buy_0 {G : zG} {d : Nat} {h : zMem} {Q : Int32 → zMem → Prop} {x1 : Int32} {x2 : Int32} (hS : zSh2 h)  (B : ∃ Q1 : Int32 → zMem → Prop, zConI G mX10_isStuff d [.ref 132, .int x1] (zsI h 132 0 (0 : Int32)) Q1 ∧ (∀ v4 h2, Q1 v4 h2 → zSh2 h2 ∧ (v4 = 0 → Q (-1 : Int32) h2) ∧ (¬ v4 = 0 → (x2 < (1 : Int32) → Q (-1 : Int32) h2) ∧ (¬ x2 < (1 : Int32) → ((999 : Int32) < x2 → Q (-1 : Int32) h2) ∧ (¬ (999 : Int32) < x2 → vp_in x1 138 ∧ (((zI h2 156 x1.toNatClampNeg) + x2) ≤ (9999 : Int32) → ∃ Q10 : zMem → Prop, zConV G mX10_keepNow d [.ref 132] h2 Q10 ∧ (∀ h11, Q10 h11 → zSh2 h11 ∧ Q (zI (zsI h11 156 x1.toNatClampNeg ((zI h11 156 x1.toNatClampNeg) + x2)) 156 x1.toNatClampNeg) (zsI h11 156 x1.toNatClampNeg ((zI h11 156 x1.toNatClampNeg) + x2)))) ∧ (¬ ((zI h2 156 x1.toNatClampNeg) + x2) ≤ (9999 : Int32) → Q (-1 : Int32) h2)))))) : zg G mX10_buy (d + 1) 0 [.ref 132, .int x1, .int x2] [] h (zPI Q) := by
  refine z_aload_n 0 rfl rfl ?_
  refine z_iconst (v := 0) 1 rfl (by decide) ?_
  refine z_putI 2 rfl lX10_160 ⟨_, _, _, rfl, rfl⟩ rfl rfl rfl (zcl1.o hS 132 9 rfl rfl rfl) ?_
  refine z_aload_n 3 rfl rfl ?_
  refine z_iload_n 4 rfl rfl ?_
  obtain ⟨Q1, K3, B⟩ := B
  refine z_cVI1 (ν := mX10_isStuff) 5 rfl rfl fX10_isStuff gX10_418 ⟨_, rfl, rfl⟩ (by decide) (zcl1.o hS 132 9 rfl rfl rfl) (Nat.le_of_ble_eq_true rfl) K3 (fun v4 h2 q => ?_)
  obtain ⟨hSh2, B⟩ := B v4 h2 q
  refine z_if_eq 6 39 rfl (by decide) ⟨fun c5 => ?_, fun c5 => ?_⟩
  · have B := B.1 c5
    refine z_iconst (v := -1) 21 rfl (by decide) ?_
    exact z_iret 22 rfl rfl rfl ⟨rfl, rfl⟩ ⟨_, rfl, B⟩
  · have B := B.2 c5
    refine z_iload_n 7 rfl rfl ?_
    refine z_iconst (v := 1) 8 rfl (by decide) ?_
    refine z_icmp_lt 9 39 rfl (by decide) ⟨fun c6 => ?_, fun c6 => ?_⟩
    · have B := B.1 c6
      refine z_iconst (v := -1) 21 rfl (by decide) ?_
      exact z_iret 22 rfl rfl rfl ⟨rfl, rfl⟩ ⟨_, rfl, B⟩
    · have B := B.2 c6
      refine z_iload_n 10 rfl rfl ?_
      refine z_sipush (v := 999) 11 rfl (by decide) ?_
      refine z_icmp_gt 12 39 rfl (by decide) ⟨fun c7 => ?_, fun c7 => ?_⟩
      · have B := B.1 c7
        refine z_iconst (v := -1) 21 rfl (by decide) ?_
        exact z_iret 22 rfl rfl rfl ⟨rfl, rfl⟩ ⟨_, rfl, B⟩
      · have B := B.2 c7
        refine z_aload_n 13 rfl rfl ?_
        refine z_getR 14 rfl lX10_84 rfl (zcl1.o hSh2 132 9 rfl rfl rfl) (zcl1.r hSh2 132 39 156 rfl rfl rfl) ?_
        refine z_iload_n 15 rfl rfl ?_
        obtain ⟨o8, B⟩ := B
        refine z_iald 16 rfl (zcl1.o hSh2 156 100 rfl rfl rfl) (zin (zcl1.l hSh2 156 138 rfl rfl rfl) o8) ?_
        refine z_iload_n 17 rfl rfl ?_
        refine z_iadd 18 rfl ?_
        refine z_sipush (v := 9999) 19 rfl (by decide) ?_
        refine z_icmp_le 20 41 rfl (by decide) ⟨fun c9 => ?_, fun c9 => ?_⟩
        · have B := B.1 c9
          refine z_aload_n 23 rfl rfl ?_
          obtain ⟨Q10, K12, B⟩ := B
          refine z_cVV0 (ν := mX10_keepNow) 24 rfl rfl fX10_keepNow gX10_437 ⟨_, rfl, rfl⟩ (by decide) (zcl1.o hSh2 132 9 rfl rfl rfl) (Nat.le_of_ble_eq_true rfl) K12 (fun h11 q => ?_)
          obtain ⟨hSh11, B⟩ := B h11 q
          refine z_aload_n 25 rfl rfl ?_
          refine z_getR 26 rfl lX10_84 rfl (zcl1.o hSh11 132 9 rfl rfl rfl) (zcl1.r hSh11 132 39 156 rfl rfl rfl) ?_
          refine z_iload_n 27 rfl rfl ?_
          refine z_dup2 28 rfl rfl rfl ?_
          refine z_iald 29 rfl (zcl1.o hSh11 156 100 rfl rfl rfl) (zin (zcl1.l hSh11 156 138 rfl rfl rfl) o8) ?_
          refine z_iload_n 30 rfl rfl ?_
          refine z_iadd 31 rfl ?_
          refine z_iast 32 rfl (zcl1.o hSh11 156 100 rfl rfl rfl) (zin (zcl1.l hSh11 156 138 rfl rfl rfl) o8) ?_
          refine z_aload_n 33 rfl rfl ?_
          refine z_getR 34 rfl lX10_84 rfl (zcl1.o hSh11 132 9 rfl rfl rfl) (zcl1.r hSh11 132 39 156 rfl rfl rfl) ?_
          refine z_iload_n 35 rfl rfl ?_
          refine z_iald 36 rfl (zcl1.o hSh11 156 100 rfl rfl rfl) (zin (zcl1.l hSh11 156 138 rfl rfl rfl) o8) ?_
          exact z_iret 37 rfl rfl rfl ⟨rfl, rfl⟩ ⟨_, rfl, B⟩
        · have B := B.2 c9
          refine z_iconst (v := -1) 21 rfl (by decide) ?_
          exact z_iret 22 rfl rfl rfl ⟨rfl, rfl⟩ ⟨_, rfl, B⟩
theorem cn_X10_buy {G : zG} {d : Nat} {h : zMem} {Q : Int32 → zMem → Prop} {x1 : Int32} {x2 : Int32} (B : zg G mX10_buy (d + 1) 0 [.ref 132, .int x1, .int x2] [] h (zPI Q)) : zConI G mX10_buy (d + 1) [.ref 132, .int x1, .int x2] h Q := zcon0 (by decide +kernel) eX10_buy (Nat.le_of_ble_eq_true rfl) rfl B
set_option maxRecDepth 100000 in
set_option maxHeartbeats 4000000 in
theorem sg_X10_goes_0 {G : zG} {d : Nat} {h : zMem} {Q : Int32 → zMem → Prop} {x1 : Int32} {x2 : Int32} (hS : zSh2 h)  (B : ∃ Q1 : Int32 → zMem → Prop, zConI G mX10_isMonk d [.ref 132, .int x1] (zsI h 132 0 (0 : Int32)) Q1 ∧ (∀ v4 h2, Q1 v4 h2 → zSh2 h2 ∧ (v4 = 0 → Q (0 : Int32) h2) ∧ (¬ v4 = 0 → ∃ Q6 : Int32 → zMem → Prop, zConI G mX10_isRoom d [.ref 132, .int x2] h2 Q6 ∧ (∀ v9 h7, Q6 v9 h7 → zSh2 h7 ∧ (v9 = 0 → Q (0 : Int32) h7) ∧ (¬ v9 = 0 → vp_in x1 115 ∧ (¬ (zI h7 159 x1.toNatClampNeg) = x2 → ∃ Q13 : zMem → Prop, zConV G mX10_keepNow d [.ref 132] h7 Q13 ∧ (∀ h14, Q13 h14 → zSh2 h14 ∧ Q (1 : Int32) (zsI h14 159 x1.toNatClampNeg x2))) ∧ ((zI h7 159 x1.toNatClampNeg) = x2 → Q (0 : Int32) h7)))))) : zg G mX10_goes (d + 1) 0 [.ref 132, .int x1, .int x2] [] h (zPI Q) := by
  refine z_aload_n 0 rfl rfl ?_
  refine z_iconst (v := 0) 1 rfl (by decide) ?_
  refine z_putI 2 rfl lX10_160 ⟨_, _, _, rfl, rfl⟩ rfl rfl rfl (zcl1.o hS 132 9 rfl rfl rfl) ?_
  refine z_aload_n 3 rfl rfl ?_
  refine z_iload_n 4 rfl rfl ?_
  obtain ⟨Q1, K3, B⟩ := B
  refine z_cVI1 (ν := mX10_isMonk) 5 rfl rfl fX10_isMonk gX10_415 ⟨_, rfl, rfl⟩ (by decide) (zcl1.o hS 132 9 rfl rfl rfl) (Nat.le_of_ble_eq_true rfl) K3 (fun v4 h2 q => ?_)
  obtain ⟨hSh2, B⟩ := B v4 h2 q
  refine z_if_eq 6 31 rfl (by decide) ⟨fun c5 => ?_, fun c5 => ?_⟩
  · have B := B.1 c5
    refine z_iconst (v := 0) 17 rfl (by decide) ?_
    exact z_iret 18 rfl rfl rfl ⟨rfl, rfl⟩ ⟨_, rfl, B⟩
  · have B := B.2 c5
    refine z_aload_n 7 rfl rfl ?_
    refine z_iload_n 8 rfl rfl ?_
    obtain ⟨Q6, K8, B⟩ := B
    refine z_cVI1 (ν := mX10_isRoom) 9 rfl rfl fX10_isRoom gX10_427 ⟨_, rfl, rfl⟩ (by decide) (zcl1.o hSh2 132 9 rfl rfl rfl) (Nat.le_of_ble_eq_true rfl) K8 (fun v9 h7 q => ?_)
    obtain ⟨hSh7, B⟩ := B v9 h7 q
    refine z_if_eq 10 31 rfl (by decide) ⟨fun c10 => ?_, fun c10 => ?_⟩
    · have B := B.1 c10
      refine z_iconst (v := 0) 17 rfl (by decide) ?_
      exact z_iret 18 rfl rfl rfl ⟨rfl, rfl⟩ ⟨_, rfl, B⟩
    · have B := B.2 c10
      refine z_aload_n 11 rfl rfl ?_
      refine z_getR 12 rfl lX10_93 rfl (zcl1.o hSh7 132 9 rfl rfl rfl) (zcl1.r hSh7 132 42 159 rfl rfl rfl) ?_
      refine z_iload_n 13 rfl rfl ?_
      obtain ⟨o11, B⟩ := B
      refine z_iald 14 rfl (zcl1.o hSh7 159 100 rfl rfl rfl) (zin (zcl1.l hSh7 159 115 rfl rfl rfl) o11) ?_
      refine z_iload_n 15 rfl rfl ?_
      refine z_icmp_ne 16 33 rfl (by decide) ⟨fun c12 => ?_, fun c12 => ?_⟩
      · have B := B.1 c12
        refine z_aload_n 19 rfl rfl ?_
        obtain ⟨Q13, K15, B⟩ := B
        refine z_cVV0 (ν := mX10_keepNow) 20 rfl rfl fX10_keepNow gX10_437 ⟨_, rfl, rfl⟩ (by decide) (zcl1.o hSh7 132 9 rfl rfl rfl) (Nat.le_of_ble_eq_true rfl) K15 (fun h14 q => ?_)
        obtain ⟨hSh14, B⟩ := B h14 q
        refine z_aload_n 21 rfl rfl ?_
        refine z_getR 22 rfl lX10_93 rfl (zcl1.o hSh14 132 9 rfl rfl rfl) (zcl1.r hSh14 132 42 159 rfl rfl rfl) ?_
        refine z_iload_n 23 rfl rfl ?_
        refine z_iload_n 24 rfl rfl ?_
        refine z_iast 25 rfl (zcl1.o hSh14 159 100 rfl rfl rfl) (zin (zcl1.l hSh14 159 115 rfl rfl rfl) o11) ?_
        refine z_iconst (v := 1) 26 rfl (by decide) ?_
        exact z_iret 27 rfl rfl rfl ⟨rfl, rfl⟩ ⟨_, rfl, B⟩
      · have B := B.2 c12
        refine z_iconst (v := 0) 17 rfl (by decide) ?_
        exact z_iret 18 rfl rfl rfl ⟨rfl, rfl⟩ ⟨_, rfl, B⟩
theorem cn_X10_goes {G : zG} {d : Nat} {h : zMem} {Q : Int32 → zMem → Prop} {x1 : Int32} {x2 : Int32} (B : zg G mX10_goes (d + 1) 0 [.ref 132, .int x1, .int x2] [] h (zPI Q)) : zConI G mX10_goes (d + 1) [.ref 132, .int x1, .int x2] h Q := zcon0 (by decide +kernel) eX10_goes (Nat.le_of_ble_eq_true rfl) rfl B
set_option maxRecDepth 100000 in
set_option maxHeartbeats 4000000 in
theorem sg_X10_go_0 {G : zG} {d : Nat} {h : zMem} {Q : Int32 → zMem → Prop} {x1 : Int32} (hS : zSh2 h)  (B : (x1 < 0 → Q (-1 : Int32) (zsI h 132 0 (0 : Int32))) ∧ (¬ x1 < 0 → ((99 : Int32) < x1 → Q (-1 : Int32) (zsI h 132 0 (0 : Int32))) ∧ (¬ (99 : Int32) < x1 → (((zI (zsI h 132 0 (0 : Int32)) 151 0) + x1) ≤ (9999 : Int32) → (x1 ≤ 0 → zg G mX10_go (d + 1) 42 [.ref 132, .int x1, .int (0 : Int32)] [] (zsI h 132 0 (0 : Int32)) (zPI Q)) ∧ (¬ x1 ≤ 0 → zg G mX10_go (d + 1) 42 [.ref 132, .int x1, .int (0 : Int32)] [] (zsI (zsI h 132 0 (0 : Int32)) 132 47 (0 : Int32)) (zPI Q))) ∧ (¬ ((zI (zsI h 132 0 (0 : Int32)) 151 0) + x1) ≤ (9999 : Int32) → Q (-1 : Int32) (zsI h 132 0 (0 : Int32)))))) : zg G mX10_go (d + 1) 0 [.ref 132, .int x1, zU] [] h (zPI Q) := by
  refine z_aload_n 0 rfl rfl ?_
  refine z_iconst (v := 0) 1 rfl (by decide) ?_
  refine z_putI 2 rfl lX10_160 ⟨_, _, _, rfl, rfl⟩ rfl rfl rfl (zcl1.o hS 132 9 rfl rfl rfl) ?_
  refine z_iload_n 3 rfl rfl ?_
  refine z_if_lt 4 29 rfl (by decide) ⟨fun c1 => ?_, fun c1 => ?_⟩
  · have B := B.1 c1
    refine z_iconst (v := -1) 16 rfl (by decide) ?_
    exact z_iret 17 rfl rfl rfl ⟨rfl, rfl⟩ ⟨_, rfl, B⟩
  · have B := B.2 c1
    refine z_iload_n 5 rfl rfl ?_
    refine z_bipush (v := 99) 6 rfl (by decide) ?_
    refine z_icmp_gt 7 29 rfl (by decide) ⟨fun c2 => ?_, fun c2 => ?_⟩
    · have B := B.1 c2
      refine z_iconst (v := -1) 16 rfl (by decide) ?_
      exact z_iret 17 rfl rfl rfl ⟨rfl, rfl⟩ ⟨_, rfl, B⟩
    · have B := B.2 c2
      refine z_aload_n 8 rfl rfl ?_
      refine z_getR 9 rfl lX10_69 rfl (zcl1.o hS 132 9 rfl rfl rfl) (zcl1.r hS 132 34 151 rfl rfl rfl) ?_
      refine z_iconst (v := 0) 10 rfl (by decide) ?_
      refine z_iald_c 11 0 rfl (by decide) (zcl1.o hS 151 100 rfl rfl rfl) (zin (zcl1.l hS 151 23 rfl rfl rfl) (zvp (by decide))) ?_
      refine z_iload_n 12 rfl rfl ?_
      refine z_iadd 13 rfl ?_
      refine z_sipush (v := 9999) 14 rfl (by decide) ?_
      refine z_icmp_le 15 31 rfl (by decide) ⟨fun c3 => ?_, fun c3 => ?_⟩
      · have B := B.1 c3
        refine z_iload_n 18 rfl rfl ?_
        refine z_if_le 19 40 rfl (by decide) ⟨fun c4 => ?_, fun c4 => ?_⟩
        · have B := B.1 c4
          refine z_iconst (v := 0) 23 rfl (by decide) ?_
          refine z_istore_n 24 rfl (by decide) rfl ?_
          exact B
        · have B := B.2 c4
          refine z_aload_n 20 rfl rfl ?_
          refine z_iconst (v := 0) 21 rfl (by decide) ?_
          refine z_putI 22 rfl lX10_323 ⟨_, _, _, rfl, rfl⟩ rfl rfl rfl (zcl1.o hS 132 9 rfl rfl rfl) ?_
          refine z_iconst (v := 0) 23 rfl (by decide) ?_
          refine z_istore_n 24 rfl (by decide) rfl ?_
          exact B
      · have B := B.2 c3
        refine z_iconst (v := -1) 16 rfl (by decide) ?_
        exact z_iret 17 rfl rfl rfl ⟨rfl, rfl⟩ ⟨_, rfl, B⟩
theorem cn_X10_go {G : zG} {d : Nat} {h : zMem} {Q : Int32 → zMem → Prop} {x1 : Int32} (B : zg G mX10_go (d + 1) 0 [.ref 132, .int x1, zU] [] h (zPI Q)) : zConI G mX10_go (d + 1) [.ref 132, .int x1] h Q := zcon0 (by decide +kernel) eX10_go (Nat.le_of_ble_eq_true rfl) rfl B
set_option maxRecDepth 100000 in
set_option maxHeartbeats 4000000 in
theorem sg_X10_go_42 {G : zG} {d : Nat} {h : zMem} {Q : Int32 → zMem → Prop} {x1 : Int32} {x2 : Int32} (hS : zSh2 h)  (B : (x1 ≤ x2 → Q (zI h 151 0) h) ∧ (¬ x1 ≤ x2 → ∃ Q2 : zMem → Prop, zConV G mX10_passes d [.ref 132, .int (0 : Int32)] h Q2 ∧ (∀ h3, Q2 h3 → zSh2 h3 ∧ zg G mX10_go (d + 1) 42 [.ref 132, .int x1, .int (x2 + 1)] [] h3 (zPI Q)))) : zg G mX10_go (d + 1) 42 [.ref 132, .int x1, .int x2] [] h (zPI Q) := by
  refine z_iload_n 25 rfl rfl ?_
  refine z_iload_n 26 rfl rfl ?_
  refine z_icmp_ge 27 58 rfl (by decide) ⟨fun c1 => ?_, fun c1 => ?_⟩
  · have B := B.1 c1
    refine z_aload_n 33 rfl rfl ?_
    refine z_getR 34 rfl lX10_69 rfl (zcl1.o hS 132 9 rfl rfl rfl) (zcl1.r hS 132 34 151 rfl rfl rfl) ?_
    refine z_iconst (v := 0) 35 rfl (by decide) ?_
    refine z_iald_c 36 0 rfl (by decide) (zcl1.o hS 151 100 rfl rfl rfl) (zin (zcl1.l hS 151 23 rfl rfl rfl) (zvp (by decide))) ?_
    exact z_iret 37 rfl rfl rfl ⟨rfl, rfl⟩ ⟨_, rfl, B⟩
  · have B := B.2 c1
    refine z_aload_n 28 rfl rfl ?_
    refine z_iconst (v := 0) 29 rfl (by decide) ?_
    obtain ⟨Q2, K4, B⟩ := B
    refine z_cVV1 (ν := mX10_passes) 30 rfl rfl fX10_passes gX10_440 ⟨_, rfl, rfl⟩ (by decide) (zcl1.o hS 132 9 rfl rfl rfl) (Nat.le_of_ble_eq_true rfl) K4 (fun h3 q => ?_)
    obtain ⟨hSh3, B⟩ := B h3 q
    refine z_iinc (v := 1) 31 rfl rfl (by decide) (by decide) rfl ?_
    refine z_goto 32 42 rfl (by decide) ?_
    exact B
set_option maxRecDepth 100000 in
set_option maxHeartbeats 4000000 in
theorem sg_X10_layMarks_0 {G : zG} {d : Nat} {h : zMem} {Q : zMem → Prop} {x1 : Int32} (hS : zSh2 h)  (B : zg G mX10_layMarks (d + 1) 2 [.ref 132, .int x1, .int (0 : Int32)] [] h (zPV Q)) : zg G mX10_layMarks (d + 1) 0 [.ref 132, .int x1, zU] [] h (zPV Q) := by
  refine z_iconst (v := 0) 0 rfl (by decide) ?_
  refine z_istore_n 1 rfl (by decide) rfl ?_
  exact B
theorem cn_X10_layMarks {G : zG} {d : Nat} {h : zMem} {Q : zMem → Prop} {x1 : Int32} (B : zg G mX10_layMarks (d + 1) 0 [.ref 132, .int x1, zU] [] h (zPV Q)) : zConV G mX10_layMarks (d + 1) [.ref 132, .int x1] h Q := zcon0 (by decide +kernel) eX10_layMarks (Nat.le_of_ble_eq_true rfl) rfl B
set_option maxRecDepth 100000 in
set_option maxHeartbeats 4000000 in
theorem sg_X10_layMarks_2 {G : zG} {d : Nat} {h : zMem} {Q : zMem → Prop} {x1 : Int32} {x2 : Int32} (hS : zSh2 h)  (B : ((zI h 134 1) ≤ x2 → Q h) ∧ (¬ (zI h 134 1) ≤ x2 → ∃ Q2 : Int32 → zMem → Prop, zConI G mX10_markOf d [.ref 132, .int (0 : Int32), .int x1, .int x2] h Q2 ∧ (∀ v5 h3, Q2 v5 h3 → zSh2 h3 ∧ vp_in x2 8 ∧ zg G mX10_layMarks (d + 1) 2 [.ref 132, .int x1, .int (x2 + 1)] [] (zsI h3 165 x2.toNatClampNeg v5) (zPV Q)))) : zg G mX10_layMarks (d + 1) 2 [.ref 132, .int x1, .int x2] [] h (zPV Q) := by
  refine z_iload_n 2 rfl rfl ?_
  refine z_aload_n 3 rfl rfl ?_
  refine z_getR 4 rfl lX10_13 rfl (zcl1.o hS 132 9 rfl rfl rfl) (zcl1.r hS 132 3 134 rfl rfl rfl) ?_
  refine z_iconst (v := 1) 5 rfl (by decide) ?_
  refine z_iald_c 6 1 rfl (by decide) (zcl1.o hS 134 100 rfl rfl rfl) (zin (zcl1.l hS 134 16 rfl rfl rfl) (zvp (by decide))) ?_
  refine z_icmp_ge 7 31 rfl (by decide) ⟨fun c1 => ?_, fun c1 => ?_⟩
  · have B := B.1 c1
    exact z_vret 19 rfl rfl ⟨rfl, rfl⟩ ⟨rfl, B⟩
  · have B := B.2 c1
    refine z_aload_n 8 rfl rfl ?_
    refine z_getR 9 rfl lX10_126 rfl (zcl1.o hS 132 9 rfl rfl rfl) (zcl1.r hS 132 57 165 rfl rfl rfl) ?_
    refine z_iload_n 10 rfl rfl ?_
    refine z_aload_n 11 rfl rfl ?_
    refine z_iconst (v := 0) 12 rfl (by decide) ?_
    refine z_iload_n 13 rfl rfl ?_
    refine z_iload_n 14 rfl rfl ?_
    obtain ⟨Q2, K4, B⟩ := B
    refine z_cVI3 (ν := mX10_markOf) 15 rfl rfl fX10_markOf gX10_397 ⟨_, rfl, rfl⟩ (by decide) (zcl1.o hS 132 9 rfl rfl rfl) (Nat.le_of_ble_eq_true rfl) K4 (fun v5 h3 q => ?_)
    obtain ⟨hSh3, B⟩ := B v5 h3 q
    obtain ⟨o6, B⟩ := B
    refine z_iast 16 rfl (zcl1.o hSh3 165 100 rfl rfl rfl) (zin (zcl1.l hSh3 165 8 rfl rfl rfl) o6) ?_
    refine z_iinc (v := 1) 17 rfl rfl (by decide) (by decide) rfl ?_
    refine z_goto 18 2 rfl (by decide) ?_
    exact B
set_option maxRecDepth 100000 in
set_option maxHeartbeats 4000000 in
theorem sg_X10_pairOf_0 {G : zG} {d : Nat} {h : zMem} {Q : Int32 → zMem → Prop} {x1 : Int32} {x2 : Int32} (hS : zSh2 h)  (B : ∃ Q1 : zMem → Prop, zConV G mX10_layMarks d [.ref 132, .int x1] h Q1 ∧ (∀ h2, Q1 h2 → zSh2 h2 ∧ zg G mX10_pairOf (d + 1) 10 [.ref 132, .int x1, .int x2, .int (0 : Int32), .int (0 : Int32), zU] [] h2 (zPI Q))) : zg G mX10_pairOf (d + 1) 0 [.ref 132, .int x1, .int x2, zU, zU, zU] [] h (zPI Q) := by
  refine z_aload_n 0 rfl rfl ?_
  refine z_iload_n 1 rfl rfl ?_
  obtain ⟨Q1, K3, B⟩ := B
  refine z_cVV1 (ν := mX10_layMarks) 2 rfl rfl fX10_layMarks gX10_443 ⟨_, rfl, rfl⟩ (by decide) (zcl1.o hS 132 9 rfl rfl rfl) (Nat.le_of_ble_eq_true rfl) K3 (fun h2 q => ?_)
  obtain ⟨hSh2, B⟩ := B h2 q
  refine z_iconst (v := 0) 3 rfl (by decide) ?_
  refine z_istore_n 4 rfl (by decide) rfl ?_
  refine z_iconst (v := 0) 5 rfl (by decide) ?_
  refine z_istore 6 rfl (by decide) rfl ?_
  exact B
theorem cn_X10_pairOf {G : zG} {d : Nat} {h : zMem} {Q : Int32 → zMem → Prop} {x1 : Int32} {x2 : Int32} (B : zg G mX10_pairOf (d + 1) 0 [.ref 132, .int x1, .int x2, zU, zU, zU] [] h (zPI Q)) : zConI G mX10_pairOf (d + 1) [.ref 132, .int x1, .int x2] h Q := zcon0 (by decide +kernel) eX10_pairOf (Nat.le_of_ble_eq_true rfl) rfl B
set_option maxRecDepth 100000 in
set_option maxHeartbeats 4000000 in
theorem sg_X10_pairOf_10 {G : zG} {d : Nat} {h : zMem} {Q : Int32 → zMem → Prop} {x1 : Int32} {x2 : Int32} {x3 : Int32} {x4 : Int32} (hS : zSh2 h)  (B : ((zI h 134 1) ≤ x4 → (¬ x2 = (-1 : Int32) → Q (-2 : Int32) h) ∧ (x2 = (-1 : Int32) → Q x3 h)) ∧ (¬ (zI h 134 1) ≤ x4 → zg G mX10_pairOf (d + 1) 27 [.ref 132, .int x1, .int x2, .int x3, .int x4, .int (x4 + (1 : Int32))] [] h (zPI Q))) : zg G mX10_pairOf (d + 1) 10 [.ref 132, .int x1, .int x2, .int x3, .int x4, zU] [] h (zPI Q) := by
  refine z_iload 7 rfl rfl ?_
  refine z_aload_n 8 rfl rfl ?_
  refine z_getR 9 rfl lX10_13 rfl (zcl1.o hS 132 9 rfl rfl rfl) (zcl1.r hS 132 3 134 rfl rfl rfl) ?_
  refine z_iconst (v := 1) 10 rfl (by decide) ?_
  refine z_iald_c 11 1 rfl (by decide) (zcl1.o hS 134 100 rfl rfl rfl) (zin (zcl1.l hS 134 16 rfl rfl rfl) (zvp (by decide))) ?_
  refine z_icmp_ge 12 87 rfl (by decide) ⟨fun c1 => ?_, fun c1 => ?_⟩
  · have B := B.1 c1
    refine z_iload_n 47 rfl rfl ?_
    refine z_iconst (v := -1) 48 rfl (by decide) ?_
    refine z_icmp_ne 49 96 rfl (by decide) ⟨fun c2 => ?_, fun c2 => ?_⟩
    · have B := B.1 c2
      refine z_bipush (v := -2) 52 rfl (by decide) ?_
      exact z_iret 53 rfl rfl rfl ⟨rfl, rfl⟩ ⟨_, rfl, B⟩
    · have B := B.2 c2
      refine z_iload_n 50 rfl rfl ?_
      refine z_goto 51 98 rfl (by decide) ?_
      exact z_iret 53 rfl rfl rfl ⟨rfl, rfl⟩ ⟨_, rfl, B⟩
  · have B := B.2 c1
    refine z_iload 13 rfl rfl ?_
    refine z_iconst (v := 1) 14 rfl (by decide) ?_
    refine z_iadd 15 rfl ?_
    refine z_istore 16 rfl (by decide) rfl ?_
    exact B
set_option maxRecDepth 100000 in
set_option maxHeartbeats 4000000 in
theorem sg_X10_pairOf_27 {G : zG} {d : Nat} {h : zMem} {Q : Int32 → zMem → Prop} {x1 : Int32} {x2 : Int32} {x3 : Int32} {x4 : Int32} {x5 : Int32} (hS : zSh2 h)  (B : ((zI h 134 1) ≤ x5 → zg G mX10_pairOf (d + 1) 10 [.ref 132, .int x1, .int x2, .int x3, .int (x4 + 1), zU] [] h (zPI Q)) ∧ (¬ (zI h 134 1) ≤ x5 → vp_in x4 8 ∧ vp_in x5 8 ∧ ((zI h 165 x4.toNatClampNeg) = (zI h 165 x5.toNatClampNeg) → (¬ x3 = x2 → zg G mX10_pairOf (d + 1) 27 [.ref 132, .int x1, .int x2, .int (x3 + 1), .int x4, .int (x5 + 1)] [] h (zPI Q)) ∧ (x3 = x2 → Q (((10 : Int32) * x4) + x5) h)) ∧ (¬ (zI h 165 x4.toNatClampNeg) = (zI h 165 x5.toNatClampNeg) → zg G mX10_pairOf (d + 1) 27 [.ref 132, .int x1, .int x2, .int x3, .int x4, .int (x5 + 1)] [] h (zPI Q)))) : zg G mX10_pairOf (d + 1) 27 [.ref 132, .int x1, .int x2, .int x3, .int x4, .int x5] [] h (zPI Q) := by
  refine z_iload 17 rfl rfl ?_
  refine z_aload_n 18 rfl rfl ?_
  refine z_getR 19 rfl lX10_13 rfl (zcl1.o hS 132 9 rfl rfl rfl) (zcl1.r hS 132 3 134 rfl rfl rfl) ?_
  refine z_iconst (v := 1) 20 rfl (by decide) ?_
  refine z_iald_c 21 1 rfl (by decide) (zcl1.o hS 134 100 rfl rfl rfl) (zin (zcl1.l hS 134 16 rfl rfl rfl) (zvp (by decide))) ?_
  refine z_icmp_ge 22 81 rfl (by decide) ⟨fun c1 => ?_, fun c1 => ?_⟩
  · have B := B.1 c1
    refine z_iinc (v := 1) 45 rfl rfl (by decide) (by decide) rfl ?_
    refine z_goto 46 10 rfl (by decide) ?_
    refine z_drop 5 ?_
    exact B
  · have B := B.2 c1
    refine z_aload_n 23 rfl rfl ?_
    refine z_getR 24 rfl lX10_126 rfl (zcl1.o hS 132 9 rfl rfl rfl) (zcl1.r hS 132 57 165 rfl rfl rfl) ?_
    refine z_iload 25 rfl rfl ?_
    obtain ⟨o2, B⟩ := B
    refine z_iald 26 rfl (zcl1.o hS 165 100 rfl rfl rfl) (zin (zcl1.l hS 165 8 rfl rfl rfl) o2) ?_
    refine z_aload_n 27 rfl rfl ?_
    refine z_getR 28 rfl lX10_126 rfl (zcl1.o hS 132 9 rfl rfl rfl) (zcl1.r hS 132 57 165 rfl rfl rfl) ?_
    refine z_iload 29 rfl rfl ?_
    obtain ⟨o3, B⟩ := B
    refine z_iald 30 rfl (zcl1.o hS 165 100 rfl rfl rfl) (zin (zcl1.l hS 165 8 rfl rfl rfl) o3) ?_
    refine z_icmp_eq 31 58 rfl (by decide) ⟨fun c4 => ?_, fun c4 => ?_⟩
    · have B := B.1 c4
      refine z_iload_n 33 rfl rfl ?_
      refine z_iload_n 34 rfl rfl ?_
      refine z_icmp_ne 35 72 rfl (by decide) ⟨fun c5 => ?_, fun c5 => ?_⟩
      · have B := B.1 c5
        refine z_iinc (v := 1) 42 rfl rfl (by decide) (by decide) rfl ?_
        refine z_iinc (v := 1) 43 rfl rfl (by decide) (by decide) rfl ?_
        refine z_goto 44 27 rfl (by decide) ?_
        exact B
      · have B := B.2 c5
        refine z_bipush (v := 10) 36 rfl (by decide) ?_
        refine z_iload 37 rfl rfl ?_
        refine z_imul 38 rfl ?_
        refine z_iload 39 rfl rfl ?_
        refine z_iadd 40 rfl ?_
        exact z_iret 41 rfl rfl rfl ⟨rfl, rfl⟩ ⟨_, rfl, B⟩
    · have B := B.2 c4
      refine z_goto 32 75 rfl (by decide) ?_
      refine z_iinc (v := 1) 43 rfl rfl (by decide) (by decide) rfl ?_
      refine z_goto 44 27 rfl (by decide) ?_
      exact B
set_option maxRecDepth 100000 in
set_option maxHeartbeats 4000000 in
theorem sg_X10_mixedUp_0 {G : zG} {d : Nat} {h : zMem} {Q : Int32 → zMem → Prop} {x1 : Int32} (hS : zSh2 h)  (B : ∃ Q1 : Int32 → zMem → Prop, zConI G mX10_isMonk d [.ref 132, .int x1] (zsI h 132 0 (0 : Int32)) Q1 ∧ (∀ v4 h2, Q1 v4 h2 → zSh2 h2 ∧ (v4 = 0 → Q (-1 : Int32) h2) ∧ (¬ v4 = 0 → ∃ Q6 : Int32 → zMem → Prop, zConI G mX10_pairOf d [.ref 132, .int x1, .int (-1 : Int32)] h2 Q6 ∧ (∀ v9 h7, Q6 v9 h7 → zSh2 h7 ∧ Q v9 h7)))) : zg G mX10_mixedUp (d + 1) 0 [.ref 132, .int x1] [] h (zPI Q) := by
  refine z_aload_n 0 rfl rfl ?_
  refine z_iconst (v := 0) 1 rfl (by decide) ?_
  refine z_putI 2 rfl lX10_160 ⟨_, _, _, rfl, rfl⟩ rfl rfl rfl (zcl1.o hS 132 9 rfl rfl rfl) ?_
  refine z_aload_n 3 rfl rfl ?_
  refine z_iload_n 4 rfl rfl ?_
  obtain ⟨Q1, K3, B⟩ := B
  refine z_cVI1 (ν := mX10_isMonk) 5 rfl rfl fX10_isMonk gX10_415 ⟨_, rfl, rfl⟩ (by decide) (zcl1.o hS 132 9 rfl rfl rfl) (Nat.le_of_ble_eq_true rfl) K3 (fun v4 h2 q => ?_)
  obtain ⟨hSh2, B⟩ := B v4 h2 q
  refine z_if_eq 6 22 rfl (by decide) ⟨fun c5 => ?_, fun c5 => ?_⟩
  · have B := B.1 c5
    refine z_iconst (v := -1) 12 rfl (by decide) ?_
    exact z_iret 13 rfl rfl rfl ⟨rfl, rfl⟩ ⟨_, rfl, B⟩
  · have B := B.2 c5
    refine z_aload_n 7 rfl rfl ?_
    refine z_iload_n 8 rfl rfl ?_
    refine z_iconst (v := -1) 9 rfl (by decide) ?_
    obtain ⟨Q6, K8, B⟩ := B
    refine z_cVI2 (ν := mX10_pairOf) 10 rfl rfl fX10_pairOf gX10_446 ⟨_, rfl, rfl⟩ (by decide) (zcl1.o hSh2 132 9 rfl rfl rfl) (Nat.le_of_ble_eq_true rfl) K8 (fun v9 h7 q => ?_)
    obtain ⟨hSh7, B⟩ := B v9 h7 q
    refine z_goto 11 23 rfl (by decide) ?_
    exact z_iret 13 rfl rfl rfl ⟨rfl, rfl⟩ ⟨_, rfl, B⟩
theorem cn_X10_mixedUp {G : zG} {d : Nat} {h : zMem} {Q : Int32 → zMem → Prop} {x1 : Int32} (B : zg G mX10_mixedUp (d + 1) 0 [.ref 132, .int x1] [] h (zPI Q)) : zConI G mX10_mixedUp (d + 1) [.ref 132, .int x1] h Q := zcon0 (by decide +kernel) eX10_mixedUp (Nat.le_of_ble_eq_true rfl) rfl B
set_option maxRecDepth 100000 in
set_option maxHeartbeats 4000000 in
theorem sg_X10_pair_0 {G : zG} {d : Nat} {h : zMem} {Q : Int32 → zMem → Prop} {x1 : Int32} {x2 : Int32} (hS : zSh2 h)  (B : ∃ Q1 : Int32 → zMem → Prop, zConI G mX10_isMonk d [.ref 132, .int x1] (zsI h 132 0 (0 : Int32)) Q1 ∧ (∀ v4 h2, Q1 v4 h2 → zSh2 h2 ∧ (v4 = 0 → Q (-1 : Int32) h2) ∧ (¬ v4 = 0 → (x2 < 0 → Q (-1 : Int32) h2) ∧ (¬ x2 < 0 → ∃ Q7 : Int32 → zMem → Prop, zConI G mX10_pairOf d [.ref 132, .int x1, .int x2] h2 Q7 ∧ (∀ v10 h8, Q7 v10 h8 → zSh2 h8 ∧ Q v10 h8))))) : zg G mX10_pair (d + 1) 0 [.ref 132, .int x1, .int x2] [] h (zPI Q) := by
  refine z_aload_n 0 rfl rfl ?_
  refine z_iconst (v := 0) 1 rfl (by decide) ?_
  refine z_putI 2 rfl lX10_160 ⟨_, _, _, rfl, rfl⟩ rfl rfl rfl (zcl1.o hS 132 9 rfl rfl rfl) ?_
  refine z_aload_n 3 rfl rfl ?_
  refine z_iload_n 4 rfl rfl ?_
  obtain ⟨Q1, K3, B⟩ := B
  refine z_cVI1 (ν := mX10_isMonk) 5 rfl rfl fX10_isMonk gX10_415 ⟨_, rfl, rfl⟩ (by decide) (zcl1.o hS 132 9 rfl rfl rfl) (Nat.le_of_ble_eq_true rfl) K3 (fun v4 h2 q => ?_)
  obtain ⟨hSh2, B⟩ := B v4 h2 q
  refine z_if_eq 6 26 rfl (by decide) ⟨fun c5 => ?_, fun c5 => ?_⟩
  · have B := B.1 c5
    refine z_iconst (v := -1) 14 rfl (by decide) ?_
    exact z_iret 15 rfl rfl rfl ⟨rfl, rfl⟩ ⟨_, rfl, B⟩
  · have B := B.2 c5
    refine z_iload_n 7 rfl rfl ?_
    refine z_if_lt 8 26 rfl (by decide) ⟨fun c6 => ?_, fun c6 => ?_⟩
    · have B := B.1 c6
      refine z_iconst (v := -1) 14 rfl (by decide) ?_
      exact z_iret 15 rfl rfl rfl ⟨rfl, rfl⟩ ⟨_, rfl, B⟩
    · have B := B.2 c6
      refine z_aload_n 9 rfl rfl ?_
      refine z_iload_n 10 rfl rfl ?_
      refine z_iload_n 11 rfl rfl ?_
      obtain ⟨Q7, K9, B⟩ := B
      refine z_cVI2 (ν := mX10_pairOf) 12 rfl rfl fX10_pairOf gX10_446 ⟨_, rfl, rfl⟩ (by decide) (zcl1.o hSh2 132 9 rfl rfl rfl) (Nat.le_of_ble_eq_true rfl) K9 (fun v10 h8 q => ?_)
      obtain ⟨hSh8, B⟩ := B v10 h8 q
      refine z_goto 13 27 rfl (by decide) ?_
      exact z_iret 15 rfl rfl rfl ⟨rfl, rfl⟩ ⟨_, rfl, B⟩
theorem cn_X10_pair {G : zG} {d : Nat} {h : zMem} {Q : Int32 → zMem → Prop} {x1 : Int32} {x2 : Int32} (B : zg G mX10_pair (d + 1) 0 [.ref 132, .int x1, .int x2] [] h (zPI Q)) : zConI G mX10_pair (d + 1) [.ref 132, .int x1, .int x2] h Q := zcon0 (by decide +kernel) eX10_pair (Nat.le_of_ble_eq_true rfl) rfl B
set_option maxRecDepth 100000 in
set_option maxHeartbeats 4000000 in
theorem sg_X10_mending_0 {G : zG} {d : Nat} {h : zMem} {Q : Int32 → zMem → Prop} {x1 : Int32} {x2 : Int32} {x3 : Int32} {x4 : Int32} (hS : zSh2 h)  (B : ∃ Q1 : Int32 → zMem → Prop, zConI G mX10_isMonk d [.ref 132, .int x1] (zsI h 132 0 (0 : Int32)) Q1 ∧ (∀ v4 h2, Q1 v4 h2 → zSh2 h2 ∧ (v4 = 0 → Q (-1 : Int32) h2) ∧ (¬ v4 = 0 → ∃ Q6 : Int32 → zMem → Prop, zConI G mX10_isDay d [.ref 132, .int x2] h2 Q6 ∧ (∀ v9 h7, Q6 v9 h7 → zSh2 h7 ∧ (v9 = 0 → Q (-1 : Int32) h7) ∧ (¬ v9 = 0 → ∃ Q11 : Int32 → zMem → Prop, zConI G mX10_isDay d [.ref 132, .int x3] h7 Q11 ∧ (∀ v14 h12, Q11 v14 h12 → zSh2 h12 ∧ (v14 = 0 → Q (-1 : Int32) h12) ∧ (¬ v14 = 0 → (x2 = x3 → Q (-1 : Int32) h12) ∧ (¬ x2 = x3 → (x4 < 0 → Q (-1 : Int32) h12) ∧ (¬ x4 < 0 → (x4 ≤ (1 : Int32) → ∃ Q19 : Int32 → zMem → Prop, zConI G mX10_markOf d [.ref 132, .int (0 : Int32), .int x1, .int x2] h12 Q19 ∧ (∀ v22 h20, Q19 v22 h20 → zSh2 h20 ∧ ∃ Q23 : Int32 → zMem → Prop, zConI G mX10_markOf d [.ref 132, .int (0 : Int32), .int x1, .int x3] h20 Q23 ∧ (∀ v26 h24, Q23 v26 h24 → zSh2 h24 ∧ (v22 = v26 → zg G mX10_mending (d + 1) 84 [.ref 132, .int x1, .int x2, .int x3, .int x4, .int (-1 : Int32), zU] [] (zsI (zsI h24 132 52 (if x2 < x3 then x3 else x2)) 132 54 (0 : Int32)) (zPI Q)) ∧ (¬ v22 = v26 → Q (-3 : Int32) h24)))) ∧ (¬ x4 ≤ (1 : Int32) → Q (-1 : Int32) h12)))))))))) : zg G mX10_mending (d + 1) 0 [.ref 132, .int x1, .int x2, .int x3, .int x4, zU, zU] [] h (zPI Q) := by
  refine z_aload_n 0 rfl rfl ?_
  refine z_iconst (v := 0) 1 rfl (by decide) ?_
  refine z_putI 2 rfl lX10_160 ⟨_, _, _, rfl, rfl⟩ rfl rfl rfl (zcl1.o hS 132 9 rfl rfl rfl) ?_
  refine z_aload_n 3 rfl rfl ?_
  refine z_iload_n 4 rfl rfl ?_
  obtain ⟨Q1, K3, B⟩ := B
  refine z_cVI1 (ν := mX10_isMonk) 5 rfl rfl fX10_isMonk gX10_415 ⟨_, rfl, rfl⟩ (by decide) (zcl1.o hS 132 9 rfl rfl rfl) (Nat.le_of_ble_eq_true rfl) K3 (fun v4 h2 q => ?_)
  obtain ⟨hSh2, B⟩ := B v4 h2 q
  refine z_if_eq 6 45 rfl (by decide) ⟨fun c5 => ?_, fun c5 => ?_⟩
  · have B := B.1 c5
    refine z_iconst (v := -1) 23 rfl (by decide) ?_
    exact z_iret 24 rfl rfl rfl ⟨rfl, rfl⟩ ⟨_, rfl, B⟩
  · have B := B.2 c5
    refine z_aload_n 7 rfl rfl ?_
    refine z_iload_n 8 rfl rfl ?_
    obtain ⟨Q6, K8, B⟩ := B
    refine z_cVI1 (ν := mX10_isDay) 9 rfl rfl fX10_isDay gX10_424 ⟨_, rfl, rfl⟩ (by decide) (zcl1.o hSh2 132 9 rfl rfl rfl) (Nat.le_of_ble_eq_true rfl) K8 (fun v9 h7 q => ?_)
    obtain ⟨hSh7, B⟩ := B v9 h7 q
    refine z_if_eq 10 45 rfl (by decide) ⟨fun c10 => ?_, fun c10 => ?_⟩
    · have B := B.1 c10
      refine z_iconst (v := -1) 23 rfl (by decide) ?_
      exact z_iret 24 rfl rfl rfl ⟨rfl, rfl⟩ ⟨_, rfl, B⟩
    · have B := B.2 c10
      refine z_aload_n 11 rfl rfl ?_
      refine z_iload_n 12 rfl rfl ?_
      obtain ⟨Q11, K13, B⟩ := B
      refine z_cVI1 (ν := mX10_isDay) 13 rfl rfl fX10_isDay gX10_424 ⟨_, rfl, rfl⟩ (by decide) (zcl1.o hSh7 132 9 rfl rfl rfl) (Nat.le_of_ble_eq_true rfl) K13 (fun v14 h12 q => ?_)
      obtain ⟨hSh12, B⟩ := B v14 h12 q
      refine z_if_eq 14 45 rfl (by decide) ⟨fun c15 => ?_, fun c15 => ?_⟩
      · have B := B.1 c15
        refine z_iconst (v := -1) 23 rfl (by decide) ?_
        exact z_iret 24 rfl rfl rfl ⟨rfl, rfl⟩ ⟨_, rfl, B⟩
      · have B := B.2 c15
        refine z_iload_n 15 rfl rfl ?_
        refine z_iload_n 16 rfl rfl ?_
        refine z_icmp_eq 17 45 rfl (by decide) ⟨fun c16 => ?_, fun c16 => ?_⟩
        · have B := B.1 c16
          refine z_iconst (v := -1) 23 rfl (by decide) ?_
          exact z_iret 24 rfl rfl rfl ⟨rfl, rfl⟩ ⟨_, rfl, B⟩
        · have B := B.2 c16
          refine z_iload 18 rfl rfl ?_
          refine z_if_lt 19 45 rfl (by decide) ⟨fun c17 => ?_, fun c17 => ?_⟩
          · have B := B.1 c17
            refine z_iconst (v := -1) 23 rfl (by decide) ?_
            exact z_iret 24 rfl rfl rfl ⟨rfl, rfl⟩ ⟨_, rfl, B⟩
          · have B := B.2 c17
            refine z_iload 20 rfl rfl ?_
            refine z_iconst (v := 1) 21 rfl (by decide) ?_
            refine z_icmp_le 22 47 rfl (by decide) ⟨fun c18 => ?_, fun c18 => ?_⟩
            · have B := B.1 c18
              refine z_aload_n 25 rfl rfl ?_
              refine z_iconst (v := 0) 26 rfl (by decide) ?_
              refine z_iload_n 27 rfl rfl ?_
              refine z_iload_n 28 rfl rfl ?_
              obtain ⟨Q19, K21, B⟩ := B
              refine z_cVI3 (ν := mX10_markOf) 29 rfl rfl fX10_markOf gX10_397 ⟨_, rfl, rfl⟩ (by decide) (zcl1.o hSh12 132 9 rfl rfl rfl) (Nat.le_of_ble_eq_true rfl) K21 (fun v22 h20 q => ?_)
              obtain ⟨hSh20, B⟩ := B v22 h20 q
              refine z_aload_n 30 rfl rfl ?_
              refine z_iconst (v := 0) 31 rfl (by decide) ?_
              refine z_iload_n 32 rfl rfl ?_
              refine z_iload_n 33 rfl rfl ?_
              obtain ⟨Q23, K25, B⟩ := B
              refine z_cVI3 (ν := mX10_markOf) 34 rfl rfl fX10_markOf gX10_397 ⟨_, rfl, rfl⟩ (by decide) (zcl1.o hSh20 132 9 rfl rfl rfl) (Nat.le_of_ble_eq_true rfl) K25 (fun v26 h24 q => ?_)
              obtain ⟨hSh24, B⟩ := B v26 h24 q
              refine z_icmp_eq 35 67 rfl (by decide) ⟨fun c27 => ?_, fun c27 => ?_⟩
              · have B := B.1 c27
                refine z_aload_n 38 rfl rfl ?_
                refine z_iload_n 39 rfl rfl ?_
                refine z_iload_n 40 rfl rfl ?_
                refine z_mmax 41 rfl rfl gmX10_449 (Nat.le_of_ble_eq_true rfl) ?_
                refine z_putI 42 rfl lX10_114 ⟨_, _, _, rfl, rfl⟩ rfl rfl rfl (zcl1.o hSh24 132 9 rfl rfl rfl) ?_
                refine z_iconst (v := -1) 43 rfl (by decide) ?_
                refine z_istore 44 rfl (by decide) rfl ?_
                refine z_aload_n 45 rfl rfl ?_
                refine z_iconst (v := 0) 46 rfl (by decide) ?_
                refine z_putI 47 rfl lX10_352 ⟨_, _, _, rfl, rfl⟩ rfl rfl rfl (zcl1.o hSh24 132 9 rfl rfl rfl) ?_
                exact B
              · have B := B.2 c27
                refine z_bipush (v := -3) 36 rfl (by decide) ?_
                exact z_iret 37 rfl rfl rfl ⟨rfl, rfl⟩ ⟨_, rfl, B⟩
            · have B := B.2 c18
              refine z_iconst (v := -1) 23 rfl (by decide) ?_
              exact z_iret 24 rfl rfl rfl ⟨rfl, rfl⟩ ⟨_, rfl, B⟩
theorem cn_X10_mending {G : zG} {d : Nat} {h : zMem} {Q : Int32 → zMem → Prop} {x1 : Int32} {x2 : Int32} {x3 : Int32} {x4 : Int32} (B : zg G mX10_mending (d + 1) 0 [.ref 132, .int x1, .int x2, .int x3, .int x4, zU, zU] [] h (zPI Q)) : zConI G mX10_mending (d + 1) [.ref 132, .int x1, .int x2, .int x3, .int x4] h Q := zcon0 (by decide +kernel) eX10_mending (Nat.le_of_ble_eq_true rfl) rfl B
set_option maxRecDepth 100000 in
set_option maxHeartbeats 4000000 in
theorem sg_X10_mending_84 {G : zG} {d : Nat} {h : zMem} {Q : Int32 → zMem → Prop} {x1 : Int32} {x2 : Int32} {x3 : Int32} {x4 : Int32} {x5 : Int32} (hS : zSh2 h)  (B : ((99 : Int32) ≤ (zI h 132 54) → (¬ x5 = (-1 : Int32) → (¬ x4 = 0 → Q (zI h 132 54) (zsI (zsI (zsI h 132 52 (-1 : Int32)) 132 53 (-1 : Int32)) 132 54 (0 : Int32))) ∧ (x4 = 0 → Q x5 (zsI (zsI (zsI h 132 52 (-1 : Int32)) 132 53 (-1 : Int32)) 132 54 (0 : Int32)))) ∧ (x5 = (-1 : Int32) → Q (-2 : Int32) (zsI (zsI (zsI h 132 52 (-1 : Int32)) 132 53 (-1 : Int32)) 132 54 (0 : Int32)))) ∧ (¬ (99 : Int32) ≤ (zI h 132 54) → (¬ x5 = (-1 : Int32) → (¬ x5 = (-1 : Int32) → (¬ x4 = 0 → Q (zI h 132 54) (zsI (zsI (zsI h 132 52 (-1 : Int32)) 132 53 (-1 : Int32)) 132 54 (0 : Int32))) ∧ (x4 = 0 → Q x5 (zsI (zsI (zsI h 132 52 (-1 : Int32)) 132 53 (-1 : Int32)) 132 54 (0 : Int32)))) ∧ (x5 = (-1 : Int32) → Q (-2 : Int32) (zsI (zsI (zsI h 132 52 (-1 : Int32)) 132 53 (-1 : Int32)) 132 54 (0 : Int32)))) ∧ (x5 = (-1 : Int32) → zg G mX10_mending (d + 1) 119 [.ref 132, .int x1, .int x2, .int x3, .int x4, .int x5, .int ((zI (zsI h 132 54 ((zI h 132 54) + (1 : Int32))) 134 0) - (1 : Int32))] [] (zsI h 132 54 ((zI h 132 54) + (1 : Int32))) (zPI Q)))) : zg G mX10_mending (d + 1) 84 [.ref 132, .int x1, .int x2, .int x3, .int x4, .int x5, zU] [] h (zPI Q) := by
  refine z_aload_n 48 rfl rfl ?_
  refine z_getI 49 rfl lX10_352 rfl (zcl1.o hS 132 9 rfl rfl rfl) ?_
  refine z_bipush (v := 99) 50 rfl (by decide) ?_
  refine z_icmp_ge 51 160 rfl (by decide) ⟨fun c1 => ?_, fun c1 => ?_⟩
  · have B := B.1 c1
    refine z_aload_n 89 rfl rfl ?_
    refine z_getI 90 rfl lX10_352 rfl (zcl1.o hS 132 9 rfl rfl rfl) ?_
    refine z_istore 91 rfl (by decide) rfl ?_
    refine z_aload_n 92 rfl rfl ?_
    refine z_iconst (v := -1) 93 rfl (by decide) ?_
    refine z_putI 94 rfl lX10_114 ⟨_, _, _, rfl, rfl⟩ rfl rfl rfl (zcl1.o hS 132 9 rfl rfl rfl) ?_
    refine z_aload_n 95 rfl rfl ?_
    refine z_iconst (v := -1) 96 rfl (by decide) ?_
    refine z_putI 97 rfl lX10_117 ⟨_, _, _, rfl, rfl⟩ rfl rfl rfl (zcl1.o hS 132 9 rfl rfl rfl) ?_
    refine z_aload_n 98 rfl rfl ?_
    refine z_iconst (v := 0) 99 rfl (by decide) ?_
    refine z_putI 100 rfl lX10_352 ⟨_, _, _, rfl, rfl⟩ rfl rfl rfl (zcl1.o hS 132 9 rfl rfl rfl) ?_
    refine z_iload 101 rfl rfl ?_
    refine z_iconst (v := -1) 102 rfl (by decide) ?_
    refine z_icmp_ne 103 192 rfl (by decide) ⟨fun c2 => ?_, fun c2 => ?_⟩
    · have B := B.1 c2
      refine z_iload 106 rfl rfl ?_
      refine z_if_ne 107 202 rfl (by decide) ⟨fun c3 => ?_, fun c3 => ?_⟩
      · have B := B.1 c3
        refine z_iload 110 rfl rfl ?_
        exact z_iret 111 rfl rfl rfl ⟨rfl, rfl⟩ ⟨_, rfl, B⟩
      · have B := B.2 c3
        refine z_iload 108 rfl rfl ?_
        refine z_goto 109 204 rfl (by decide) ?_
        exact z_iret 111 rfl rfl rfl ⟨rfl, rfl⟩ ⟨_, rfl, B⟩
    · have B := B.2 c2
      refine z_bipush (v := -2) 104 rfl (by decide) ?_
      refine z_goto 105 204 rfl (by decide) ?_
      exact z_iret 111 rfl rfl rfl ⟨rfl, rfl⟩ ⟨_, rfl, B⟩
  · have B := B.2 c1
    refine z_iload 52 rfl rfl ?_
    refine z_iconst (v := -1) 53 rfl (by decide) ?_
    refine z_icmp_ne 54 160 rfl (by decide) ⟨fun c4 => ?_, fun c4 => ?_⟩
    · have B := B.1 c4
      refine z_aload_n 89 rfl rfl ?_
      refine z_getI 90 rfl lX10_352 rfl (zcl1.o hS 132 9 rfl rfl rfl) ?_
      refine z_istore 91 rfl (by decide) rfl ?_
      refine z_aload_n 92 rfl rfl ?_
      refine z_iconst (v := -1) 93 rfl (by decide) ?_
      refine z_putI 94 rfl lX10_114 ⟨_, _, _, rfl, rfl⟩ rfl rfl rfl (zcl1.o hS 132 9 rfl rfl rfl) ?_
      refine z_aload_n 95 rfl rfl ?_
      refine z_iconst (v := -1) 96 rfl (by decide) ?_
      refine z_putI 97 rfl lX10_117 ⟨_, _, _, rfl, rfl⟩ rfl rfl rfl (zcl1.o hS 132 9 rfl rfl rfl) ?_
      refine z_aload_n 98 rfl rfl ?_
      refine z_iconst (v := 0) 99 rfl (by decide) ?_
      refine z_putI 100 rfl lX10_352 ⟨_, _, _, rfl, rfl⟩ rfl rfl rfl (zcl1.o hS 132 9 rfl rfl rfl) ?_
      refine z_iload 101 rfl rfl ?_
      refine z_iconst (v := -1) 102 rfl (by decide) ?_
      refine z_icmp_ne 103 192 rfl (by decide) ⟨fun c5 => ?_, fun c5 => ?_⟩
      · have B := B.1 c5
        refine z_iload 106 rfl rfl ?_
        refine z_if_ne 107 202 rfl (by decide) ⟨fun c6 => ?_, fun c6 => ?_⟩
        · have B := B.1 c6
          refine z_iload 110 rfl rfl ?_
          exact z_iret 111 rfl rfl rfl ⟨rfl, rfl⟩ ⟨_, rfl, B⟩
        · have B := B.2 c6
          refine z_iload 108 rfl rfl ?_
          refine z_goto 109 204 rfl (by decide) ?_
          exact z_iret 111 rfl rfl rfl ⟨rfl, rfl⟩ ⟨_, rfl, B⟩
      · have B := B.2 c5
        refine z_bipush (v := -2) 104 rfl (by decide) ?_
        refine z_goto 105 204 rfl (by decide) ?_
        exact z_iret 111 rfl rfl rfl ⟨rfl, rfl⟩ ⟨_, rfl, B⟩
    · have B := B.2 c4
      refine z_aload_n 55 rfl rfl ?_
      refine z_dup 56 rfl rfl ?_
      refine z_getI 57 rfl lX10_352 rfl (zcl1.o hS 132 9 rfl rfl rfl) ?_
      refine z_iconst (v := 1) 58 rfl (by decide) ?_
      refine z_iadd 59 rfl ?_
      refine z_putI 60 rfl lX10_352 ⟨_, _, _, rfl, rfl⟩ rfl rfl rfl (zcl1.o hS 132 9 rfl rfl rfl) ?_
      refine z_aload_n 61 rfl rfl ?_
      refine z_getR 62 rfl lX10_13 rfl (zcl1.o hS 132 9 rfl rfl rfl) (zcl1.r hS 132 3 134 rfl rfl rfl) ?_
      refine z_iconst (v := 0) 63 rfl (by decide) ?_
      refine z_iald_c 64 0 rfl (by decide) (zcl1.o hS 134 100 rfl rfl rfl) (zin (zcl1.l hS 134 16 rfl rfl rfl) (zvp (by decide))) ?_
      refine z_iconst (v := 1) 65 rfl (by decide) ?_
      refine z_isub 66 rfl ?_
      refine z_istore 67 rfl (by decide) rfl ?_
      exact B
set_option maxRecDepth 100000 in
set_option maxHeartbeats 4000000 in
theorem sg_X10_mending_119 {G : zG} {d : Nat} {h : zMem} {Q : Int32 → zMem → Prop} {x1 : Int32} {x2 : Int32} {x3 : Int32} {x4 : Int32} {x5 : Int32} {x6 : Int32} (hS : zSh2 h)  (B : (x6 < 0 → zg G mX10_mending (d + 1) 84 [.ref 132, .int x1, .int x2, .int x3, .int x4, .int x5, zU] [] h (zPI Q)) ∧ (¬ x6 < 0 → ∃ Q2 : Int32 → zMem → Prop, zConI G mX10_markOf d [.ref 132, .int (0 : Int32), .int x1, .int x2] (zsI h 132 53 x6) Q2 ∧ (∀ v5 h3, Q2 v5 h3 → zSh2 h3 ∧ ∃ Q6 : Int32 → zMem → Prop, zConI G mX10_markOf d [.ref 132, .int (0 : Int32), .int x1, .int x3] h3 Q6 ∧ (∀ v9 h7, Q6 v9 h7 → zSh2 h7 ∧ (v5 = v9 → zg G mX10_mending (d + 1) 119 [.ref 132, .int x1, .int x2, .int x3, .int x4, .int x5, .int (x6 + (-1))] [] h7 (zPI Q)) ∧ (¬ v5 = v9 → zg G mX10_mending (d + 1) 119 [.ref 132, .int x1, .int x2, .int x3, .int x4, .int x6, .int (x6 + (-1))] [] h7 (zPI Q)))))) : zg G mX10_mending (d + 1) 119 [.ref 132, .int x1, .int x2, .int x3, .int x4, .int x5, .int x6] [] h (zPI Q) := by
  refine z_iload 68 rfl rfl ?_
  refine z_if_lt 69 157 rfl (by decide) ⟨fun c1 => ?_, fun c1 => ?_⟩
  · have B := B.1 c1
    refine z_goto 88 84 rfl (by decide) ?_
    refine z_drop 6 ?_
    exact B
  · have B := B.2 c1
    refine z_aload_n 70 rfl rfl ?_
    refine z_iload 71 rfl rfl ?_
    refine z_putI 72 rfl lX10_117 ⟨_, _, _, rfl, rfl⟩ rfl rfl rfl (zcl1.o hS 132 9 rfl rfl rfl) ?_
    refine z_aload_n 73 rfl rfl ?_
    refine z_iconst (v := 0) 74 rfl (by decide) ?_
    refine z_iload_n 75 rfl rfl ?_
    refine z_iload_n 76 rfl rfl ?_
    obtain ⟨Q2, K4, B⟩ := B
    refine z_cVI3 (ν := mX10_markOf) 77 rfl rfl fX10_markOf gX10_397 ⟨_, rfl, rfl⟩ (by decide) (zcl1.o hS 132 9 rfl rfl rfl) (Nat.le_of_ble_eq_true rfl) K4 (fun v5 h3 q => ?_)
    obtain ⟨hSh3, B⟩ := B v5 h3 q
    refine z_aload_n 78 rfl rfl ?_
    refine z_iconst (v := 0) 79 rfl (by decide) ?_
    refine z_iload_n 80 rfl rfl ?_
    refine z_iload_n 81 rfl rfl ?_
    obtain ⟨Q6, K8, B⟩ := B
    refine z_cVI3 (ν := mX10_markOf) 82 rfl rfl fX10_markOf gX10_397 ⟨_, rfl, rfl⟩ (by decide) (zcl1.o hSh3 132 9 rfl rfl rfl) (Nat.le_of_ble_eq_true rfl) K8 (fun v9 h7 q => ?_)
    obtain ⟨hSh7, B⟩ := B v9 h7 q
    refine z_icmp_eq 83 151 rfl (by decide) ⟨fun c10 => ?_, fun c10 => ?_⟩
    · have B := B.1 c10
      refine z_iinc (v := -1) 86 rfl rfl (by decide) (by decide) rfl ?_
      refine z_goto 87 119 rfl (by decide) ?_
      exact B
    · have B := B.2 c10
      refine z_iload 84 rfl rfl ?_
      refine z_istore 85 rfl (by decide) rfl ?_
      refine z_iinc (v := -1) 86 rfl rfl (by decide) (by decide) rfl ?_
      refine z_goto 87 119 rfl (by decide) ?_
      exact B
set_option maxRecDepth 100000 in
set_option maxHeartbeats 4000000 in
theorem sg_X10_placeTo_0 {G : zG} {d : Nat} {h : zMem} {Q : Int32 → zMem → Prop} {x1 : Int32} {x2 : Int32} (hS : zSh2 h)  (B : ∃ Q1 : Int32 → zMem → Prop, zConI G mX10_isMonk d [.ref 132, .int x1] (zsI h 132 0 (0 : Int32)) Q1 ∧ (∀ v4 h2, Q1 v4 h2 → zSh2 h2 ∧ (v4 = 0 → Q (-1 : Int32) h2) ∧ (¬ v4 = 0 → (x2 < 0 → Q (-1 : Int32) h2) ∧ (¬ x2 < 0 → (x2 ≤ (1 : Int32) → zg G mX10_placeTo (d + 1) 32 [.ref 132, .int x1, .int x2, .int (-1 : Int32), .int (0 : Int32), .int (0 : Int32), zU, zU, zU, zU, zU] [] h2 (zPI Q)) ∧ (¬ x2 ≤ (1 : Int32) → Q (-1 : Int32) h2))))) : zg G mX10_placeTo (d + 1) 0 [.ref 132, .int x1, .int x2, zU, zU, zU, zU, zU, zU, zU, zU] [] h (zPI Q) := by
  refine z_aload_n 0 rfl rfl ?_
  refine z_iconst (v := 0) 1 rfl (by decide) ?_
  refine z_putI 2 rfl lX10_160 ⟨_, _, _, rfl, rfl⟩ rfl rfl rfl (zcl1.o hS 132 9 rfl rfl rfl) ?_
  refine z_aload_n 3 rfl rfl ?_
  refine z_iload_n 4 rfl rfl ?_
  obtain ⟨Q1, K3, B⟩ := B
  refine z_cVI1 (ν := mX10_isMonk) 5 rfl rfl fX10_isMonk gX10_415 ⟨_, rfl, rfl⟩ (by decide) (zcl1.o hS 132 9 rfl rfl rfl) (Nat.le_of_ble_eq_true rfl) K3 (fun v4 h2 q => ?_)
  obtain ⟨hSh2, B⟩ := B v4 h2 q
  refine z_if_eq 6 22 rfl (by decide) ⟨fun c5 => ?_, fun c5 => ?_⟩
  · have B := B.1 c5
    refine z_iconst (v := -1) 12 rfl (by decide) ?_
    exact z_iret 13 rfl rfl rfl ⟨rfl, rfl⟩ ⟨_, rfl, B⟩
  · have B := B.2 c5
    refine z_iload_n 7 rfl rfl ?_
    refine z_if_lt 8 22 rfl (by decide) ⟨fun c6 => ?_, fun c6 => ?_⟩
    · have B := B.1 c6
      refine z_iconst (v := -1) 12 rfl (by decide) ?_
      exact z_iret 13 rfl rfl rfl ⟨rfl, rfl⟩ ⟨_, rfl, B⟩
    · have B := B.2 c6
      refine z_iload_n 9 rfl rfl ?_
      refine z_iconst (v := 1) 10 rfl (by decide) ?_
      refine z_icmp_le 11 24 rfl (by decide) ⟨fun c7 => ?_, fun c7 => ?_⟩
      · have B := B.1 c7
        refine z_iconst (v := -1) 14 rfl (by decide) ?_
        refine z_istore_n 15 rfl (by decide) rfl ?_
        refine z_iconst (v := 0) 16 rfl (by decide) ?_
        refine z_istore 17 rfl (by decide) rfl ?_
        refine z_iconst (v := 0) 18 rfl (by decide) ?_
        refine z_istore 19 rfl (by decide) rfl ?_
        exact B
      · have B := B.2 c7
        refine z_iconst (v := -1) 12 rfl (by decide) ?_
        exact z_iret 13 rfl rfl rfl ⟨rfl, rfl⟩ ⟨_, rfl, B⟩
theorem cn_X10_placeTo {G : zG} {d : Nat} {h : zMem} {Q : Int32 → zMem → Prop} {x1 : Int32} {x2 : Int32} (B : zg G mX10_placeTo (d + 1) 0 [.ref 132, .int x1, .int x2, zU, zU, zU, zU, zU, zU, zU, zU] [] h (zPI Q)) : zConI G mX10_placeTo (d + 1) [.ref 132, .int x1, .int x2] h Q := zcon0 (by decide +kernel) eX10_placeTo (Nat.le_of_ble_eq_true rfl) rfl B
set_option maxRecDepth 100000 in
set_option maxHeartbeats 4000000 in
theorem sg_X10_placeTo_32 {G : zG} {d : Nat} {h : zMem} {Q : Int32 → zMem → Prop} {x1 : Int32} {x2 : Int32} {x3 : Int32} {x4 : Int32} {x5 : Int32} (hS : zSh2 h)  (B : ((zI h 134 3) ≤ x5 → (¬ x2 = 0 → Q x4 h) ∧ (x2 = 0 → Q x3 h)) ∧ (¬ (zI h 134 3) ≤ x5 → ∃ Q3 : Int32 → zMem → Prop, zConI G mX10_keenIn d [.ref 132, .int (0 : Int32), .int x1, .int x5] h Q3 ∧ (∀ v6 h4, Q3 v6 h4 → zSh2 h4 ∧ zg G mX10_placeTo (d + 1) 59 [.ref 132, .int x1, .int x2, .int x3, .int x4, .int x5, .int v6, .int (0 : Int32), .int (0 : Int32), zU, zU] [] h4 (zPI Q)))) : zg G mX10_placeTo (d + 1) 32 [.ref 132, .int x1, .int x2, .int x3, .int x4, .int x5, zU, zU, zU, zU, zU] [] h (zPI Q) := by
  refine z_iload 20 rfl rfl ?_
  refine z_aload_n 21 rfl rfl ?_
  refine z_getR 22 rfl lX10_13 rfl (zcl1.o hS 132 9 rfl rfl rfl) (zcl1.r hS 132 3 134 rfl rfl rfl) ?_
  refine z_iconst (v := 3) 23 rfl (by decide) ?_
  refine z_iald_c 24 3 rfl (by decide) (zcl1.o hS 134 100 rfl rfl rfl) (zin (zcl1.l hS 134 16 rfl rfl rfl) (zvp (by decide))) ?_
  refine z_icmp_ge 25 181 rfl (by decide) ⟨fun c1 => ?_, fun c1 => ?_⟩
  · have B := B.1 c1
    refine z_iload_n 98 rfl rfl ?_
    refine z_if_ne 99 189 rfl (by decide) ⟨fun c2 => ?_, fun c2 => ?_⟩
    · have B := B.1 c2
      refine z_iload 102 rfl rfl ?_
      exact z_iret 103 rfl rfl rfl ⟨rfl, rfl⟩ ⟨_, rfl, B⟩
    · have B := B.2 c2
      refine z_iload_n 100 rfl rfl ?_
      refine z_goto 101 191 rfl (by decide) ?_
      exact z_iret 103 rfl rfl rfl ⟨rfl, rfl⟩ ⟨_, rfl, B⟩
  · have B := B.2 c1
    refine z_aload_n 26 rfl rfl ?_
    refine z_iconst (v := 0) 27 rfl (by decide) ?_
    refine z_iload_n 28 rfl rfl ?_
    refine z_iload 29 rfl rfl ?_
    obtain ⟨Q3, K5, B⟩ := B
    refine z_cVI3 (ν := mX10_keenIn) 30 rfl rfl fX10_keenIn gX10_379 ⟨_, rfl, rfl⟩ (by decide) (zcl1.o hS 132 9 rfl rfl rfl) (Nat.le_of_ble_eq_true rfl) K5 (fun v6 h4 q => ?_)
    obtain ⟨hSh4, B⟩ := B v6 h4 q
    refine z_istore 31 rfl (by decide) rfl ?_
    refine z_iconst (v := 0) 32 rfl (by decide) ?_
    refine z_istore 33 rfl (by decide) rfl ?_
    refine z_iconst (v := 0) 34 rfl (by decide) ?_
    refine z_istore 35 rfl (by decide) rfl ?_
    exact B
set_option maxRecDepth 100000 in
set_option maxHeartbeats 4000000 in
theorem sg_X10_placeTo_59 {G : zG} {d : Nat} {h : zMem} {Q : Int32 → zMem → Prop} {x1 : Int32} {x2 : Int32} {x3 : Int32} {x4 : Int32} {x5 : Int32} {x6 : Int32} {x7 : Int32} {x8 : Int32} (hS : zSh2 h)  (B : ((zI h 134 1) ≤ x8 → (x3 = (-1 : Int32) → zg G mX10_placeTo (d + 1) 32 [.ref 132, .int x1, .int x2, .int x5, .int x7, .int (x5 + 1), zU, zU, zU, zU, zU] [] h (zPI Q)) ∧ (¬ x3 = (-1 : Int32) → (x4 < x7 → zg G mX10_placeTo (d + 1) 32 [.ref 132, .int x1, .int x2, .int x5, .int x7, .int (x5 + 1), zU, zU, zU, zU, zU] [] h (zPI Q)) ∧ (¬ x4 < x7 → zg G mX10_placeTo (d + 1) 32 [.ref 132, .int x1, .int x2, .int x3, .int x4, .int (x5 + 1), zU, zU, zU, zU, zU] [] h (zPI Q)))) ∧ (¬ (zI h 134 1) ≤ x8 → vp_in x1 115 ∧ ∃ Q5 : Int32 → zMem → Prop, zConI G mX10_markBy d [.ref 132, .int x8, .int x5, .int x6, .int (zI h 160 x1.toNatClampNeg)] h Q5 ∧ (∀ v8 h6, Q5 v8 h6 → zSh2 h6 ∧ vp_in x8 8 ∧ zg G mX10_placeTo (d + 1) 99 [.ref 132, .int x1, .int x2, .int x3, .int x4, .int x5, .int x6, .int x7, .int x8, .int (1 : Int32), .int (0 : Int32)] [] (zsI h6 165 x8.toNatClampNeg v8) (zPI Q)))) : zg G mX10_placeTo (d + 1) 59 [.ref 132, .int x1, .int x2, .int x3, .int x4, .int x5, .int x6, .int x7, .int x8, zU, zU] [] h (zPI Q) := by
  refine z_iload 36 rfl rfl ?_
  refine z_aload_n 37 rfl rfl ?_
  refine z_getR 38 rfl lX10_13 rfl (zcl1.o hS 132 9 rfl rfl rfl) (zcl1.r hS 132 3 134 rfl rfl rfl) ?_
  refine z_iconst (v := 1) 39 rfl (by decide) ?_
  refine z_iald_c 40 1 rfl (by decide) (zcl1.o hS 134 100 rfl rfl rfl) (zin (zcl1.l hS 134 16 rfl rfl rfl) (zvp (by decide))) ?_
  refine z_icmp_ge 41 153 rfl (by decide) ⟨fun c1 => ?_, fun c1 => ?_⟩
  · have B := B.1 c1
    refine z_iload_n 85 rfl rfl ?_
    refine z_iconst (v := -1) 86 rfl (by decide) ?_
    refine z_icmp_eq 87 168 rfl (by decide) ⟨fun c2 => ?_, fun c2 => ?_⟩
    · have B := B.1 c2
      refine z_iload 92 rfl rfl ?_
      refine z_istore_n 93 rfl (by decide) rfl ?_
      refine z_iload 94 rfl rfl ?_
      refine z_istore 95 rfl (by decide) rfl ?_
      refine z_iinc (v := 1) 96 rfl rfl (by decide) (by decide) rfl ?_
      refine z_goto 97 32 rfl (by decide) ?_
      refine z_drop 6 ?_
      refine z_drop 7 ?_
      refine z_drop 8 ?_
      exact B
    · have B := B.2 c2
      refine z_iload 88 rfl rfl ?_
      refine z_iload 89 rfl rfl ?_
      refine z_icmp_gt 90 168 rfl (by decide) ⟨fun c3 => ?_, fun c3 => ?_⟩
      · have B := B.1 c3
        refine z_iload 92 rfl rfl ?_
        refine z_istore_n 93 rfl (by decide) rfl ?_
        refine z_iload 94 rfl rfl ?_
        refine z_istore 95 rfl (by decide) rfl ?_
        refine z_iinc (v := 1) 96 rfl rfl (by decide) (by decide) rfl ?_
        refine z_goto 97 32 rfl (by decide) ?_
        refine z_drop 6 ?_
        refine z_drop 7 ?_
        refine z_drop 8 ?_
        exact B
      · have B := B.2 c3
        refine z_goto 91 175 rfl (by decide) ?_
        refine z_iinc (v := 1) 96 rfl rfl (by decide) (by decide) rfl ?_
        refine z_goto 97 32 rfl (by decide) ?_
        refine z_drop 6 ?_
        refine z_drop 7 ?_
        refine z_drop 8 ?_
        exact B
  · have B := B.2 c1
    refine z_aload_n 42 rfl rfl ?_
    refine z_getR 43 rfl lX10_126 rfl (zcl1.o hS 132 9 rfl rfl rfl) (zcl1.r hS 132 57 165 rfl rfl rfl) ?_
    refine z_iload 44 rfl rfl ?_
    refine z_aload_n 45 rfl rfl ?_
    refine z_iload 46 rfl rfl ?_
    refine z_iload 47 rfl rfl ?_
    refine z_iload 48 rfl rfl ?_
    refine z_aload_n 49 rfl rfl ?_
    refine z_getR 50 rfl lX10_96 rfl (zcl1.o hS 132 9 rfl rfl rfl) (zcl1.r hS 132 43 160 rfl rfl rfl) ?_
    refine z_iload_n 51 rfl rfl ?_
    obtain ⟨o4, B⟩ := B
    refine z_iald 52 rfl (zcl1.o hS 160 100 rfl rfl rfl) (zin (zcl1.l hS 160 115 rfl rfl rfl) o4) ?_
    obtain ⟨Q5, K7, B⟩ := B
    refine z_cVI4 (ν := mX10_markBy) 53 rfl rfl fX10_markBy gX10_392 ⟨_, rfl, rfl⟩ (by decide) (zcl1.o hS 132 9 rfl rfl rfl) (Nat.le_of_ble_eq_true rfl) K7 (fun v8 h6 q => ?_)
    obtain ⟨hSh6, B⟩ := B v8 h6 q
    obtain ⟨o9, B⟩ := B
    refine z_iast 54 rfl (zcl1.o hSh6 165 100 rfl rfl rfl) (zin (zcl1.l hSh6 165 8 rfl rfl rfl) o9) ?_
    refine z_iconst (v := 1) 55 rfl (by decide) ?_
    refine z_istore 56 rfl (by decide) rfl ?_
    refine z_iconst (v := 0) 57 rfl (by decide) ?_
    refine z_istore 58 rfl (by decide) rfl ?_
    exact B
set_option maxRecDepth 100000 in
set_option maxHeartbeats 4000000 in
theorem sg_X10_placeTo_99 {G : zG} {d : Nat} {h : zMem} {Q : Int32 → zMem → Prop} {x1 : Int32} {x2 : Int32} {x3 : Int32} {x4 : Int32} {x5 : Int32} {x6 : Int32} {x7 : Int32} {x8 : Int32} {x9 : Int32} {x10 : Int32} (hS : zSh2 h)  (B : (x8 ≤ x10 → (x9 = 0 → zg G mX10_placeTo (d + 1) 59 [.ref 132, .int x1, .int x2, .int x3, .int x4, .int x5, .int x6, .int (x7 + (0 : Int32)), .int (x8 + 1), zU, zU] [] h (zPI Q)) ∧ (¬ x9 = 0 → zg G mX10_placeTo (d + 1) 59 [.ref 132, .int x1, .int x2, .int x3, .int x4, .int x5, .int x6, .int (x7 + (1 : Int32)), .int (x8 + 1), zU, zU] [] h (zPI Q))) ∧ (¬ x8 ≤ x10 → vp_in x10 8 ∧ vp_in x8 8 ∧ (¬ (zI h 165 x10.toNatClampNeg) = (zI h 165 x8.toNatClampNeg) → zg G mX10_placeTo (d + 1) 99 [.ref 132, .int x1, .int x2, .int x3, .int x4, .int x5, .int x6, .int x7, .int x8, .int x9, .int (x10 + 1)] [] h (zPI Q)) ∧ ((zI h 165 x10.toNatClampNeg) = (zI h 165 x8.toNatClampNeg) → zg G mX10_placeTo (d + 1) 99 [.ref 132, .int x1, .int x2, .int x3, .int x4, .int x5, .int x6, .int x7, .int x8, .int (0 : Int32), .int (x10 + 1)] [] h (zPI Q)))) : zg G mX10_placeTo (d + 1) 99 [.ref 132, .int x1, .int x2, .int x3, .int x4, .int x5, .int x6, .int x7, .int x8, .int x9, .int x10] [] h (zPI Q) := by
  refine z_iload 59 rfl rfl ?_
  refine z_iload 60 rfl rfl ?_
  refine z_icmp_ge 61 132 rfl (by decide) ⟨fun c1 => ?_, fun c1 => ?_⟩
  · have B := B.1 c1
    refine z_iload 75 rfl rfl ?_
    refine z_iload 76 rfl rfl ?_
    refine z_if_eq 77 143 rfl (by decide) ⟨fun c2 => ?_, fun c2 => ?_⟩
    · have B := B.1 c2
      refine z_iconst (v := 0) 80 rfl (by decide) ?_
      refine z_iadd 81 rfl ?_
      refine z_istore 82 rfl (by decide) rfl ?_
      refine z_iinc (v := 1) 83 rfl rfl (by decide) (by decide) rfl ?_
      refine z_goto 84 59 rfl (by decide) ?_
      refine z_drop 9 ?_
      refine z_drop 10 ?_
      exact B
    · have B := B.2 c2
      refine z_iconst (v := 1) 78 rfl (by decide) ?_
      refine z_goto 79 144 rfl (by decide) ?_
      refine z_iadd 81 rfl ?_
      refine z_istore 82 rfl (by decide) rfl ?_
      refine z_iinc (v := 1) 83 rfl rfl (by decide) (by decide) rfl ?_
      refine z_goto 84 59 rfl (by decide) ?_
      refine z_drop 9 ?_
      refine z_drop 10 ?_
      exact B
  · have B := B.2 c1
    refine z_aload_n 62 rfl rfl ?_
    refine z_getR 63 rfl lX10_126 rfl (zcl1.o hS 132 9 rfl rfl rfl) (zcl1.r hS 132 57 165 rfl rfl rfl) ?_
    refine z_iload 64 rfl rfl ?_
    obtain ⟨o3, B⟩ := B
    refine z_iald 65 rfl (zcl1.o hS 165 100 rfl rfl rfl) (zin (zcl1.l hS 165 8 rfl rfl rfl) o3) ?_
    refine z_aload_n 66 rfl rfl ?_
    refine z_getR 67 rfl lX10_126 rfl (zcl1.o hS 132 9 rfl rfl rfl) (zcl1.r hS 132 57 165 rfl rfl rfl) ?_
    refine z_iload 68 rfl rfl ?_
    obtain ⟨o4, B⟩ := B
    refine z_iald 69 rfl (zcl1.o hS 165 100 rfl rfl rfl) (zin (zcl1.l hS 165 8 rfl rfl rfl) o4) ?_
    refine z_icmp_ne 70 126 rfl (by decide) ⟨fun c5 => ?_, fun c5 => ?_⟩
    · have B := B.1 c5
      refine z_iinc (v := 1) 73 rfl rfl (by decide) (by decide) rfl ?_
      refine z_goto 74 99 rfl (by decide) ?_
      exact B
    · have B := B.2 c5
      refine z_iconst (v := 0) 71 rfl (by decide) ?_
      refine z_istore 72 rfl (by decide) rfl ?_
      refine z_iinc (v := 1) 73 rfl rfl (by decide) (by decide) rfl ?_
      refine z_goto 74 99 rfl (by decide) ?_
      exact B
