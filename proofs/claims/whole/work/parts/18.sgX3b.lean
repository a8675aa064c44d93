set_option maxRecDepth 100000 in
set_option maxHeartbeats 4000000 in
theorem sg_X3_readValue_0 {G : zG} {d : Nat} {h : zMem} {Q : Int32 → zMem → Prop} {a0 : Nat} (B : zO h a0 3 ∧ ∃ r2, zR h a0 0 = some r2 ∧ zO h r2 4 ∧ (¬ (zI h r2 4) = (36 : Int32) → zg G mX3_readValue (d + 1) 19 [.ref a0, .int (zI h r2 4), zU] [.int (0 : Int32)] h (zPI Q)) ∧ ((zI h r2 4) = (36 : Int32) → zg G mX3_readValue (d + 1) 19 [.ref a0, .int (zI h r2 4), zU] [.int (1 : Int32)] h (zPI Q))) : zg G mX3_readValue (d + 1) 0 [.ref a0, zU, zU] [] h (zPI Q) := by
  refine z_aload_n 0 rfl rfl ?_
  obtain ⟨o1, B⟩ := B
  obtain ⟨r2, hr2, B⟩ := B
  refine z_getR 1 rfl lX3_12 rfl o1 hr2 ?_
  obtain ⟨o3, B⟩ := B
  refine z_getI 2 rfl lX3_46 rfl o3 ?_
  refine z_istore_n 3 rfl (by decide) rfl ?_
  refine z_iload_n 4 rfl rfl ?_
  refine z_bipush (v := 36) 5 rfl (by decide) ?_
  refine z_icmp_ne 6 18 rfl (by decide) ⟨fun c4 => ?_, fun c4 => ?_⟩
  · have B := B.1 c4
    refine z_iconst (v := 0) 9 rfl (by decide) ?_
    exact B
  · have B := B.2 c4
    refine z_iconst (v := 1) 7 rfl (by decide) ?_
    refine z_goto 8 19 rfl (by decide) ?_
    exact B
theorem cn_X3_readValue {G : zG} {d : Nat} {h : zMem} {Q : Int32 → zMem → Prop} {a0 : Nat} (B : zg G mX3_readValue (d + 1) 0 [.ref a0, zU, zU] [] h (zPI Q)) : zConI G mX3_readValue (d + 1) [.ref a0] h Q := zcon0 (by decide +kernel) eX3_readValue (Nat.le_of_ble_eq_true rfl) rfl B
set_option maxRecDepth 100000 in
set_option maxHeartbeats 4000000 in
theorem sg_X3_readValue_19 {G : zG} {d : Nat} {h : zMem} {Q : Int32 → zMem → Prop} {a0 : Nat} {x1 : Int32} {xs0 : Int32} (B : (¬ x1 = (32 : Int32) → (¬ x1 = (14 : Int32) → zg G mX3_readValue (d + 1) 102 [.ref a0, .int x1, .int xs0] [] h (zPI Q)) ∧ (x1 = (14 : Int32) → zO h a0 3 ∧ ∃ Q3 : Int32 → zMem → Prop, zConI G mX3_topStrength d [.ref a0] h Q3 ∧ (∀ v6 h4, Q3 v6 h4 → ∃ Q7 : Int32 → zMem → Prop, zConI G mX6_strength d [.int (14 : Int32)] h4 Q7 ∧ (∀ v10 h8, Q7 v10 h8 → (v10 < v6 → zg G mX3_readValue (d + 1) 102 [.ref a0, .int x1, .int xs0] [] h8 (zPI Q)) ∧ (¬ v10 < v6 → zO h8 a0 3 ∧ ∃ r13, zR h8 a0 6 = some r13 ∧ zO h8 r13 6 ∧ ∃ r15, zR h8 r13 8 = some r15 ∧ zO h8 r15 0 ∧ ∃ Q16 : Int32 → zMem → Prop, zConI G mX0_addKnot d [.ref r15] h8 Q16 ∧ (∀ v19 h17, Q16 v19 h17 → (v19 = 0 → zO h17 a0 3 ∧ ∃ Q21 : Int32 → zMem → Prop, zConI G mX3_wrong d [.ref a0, .int (2 : Int32)] h17 Q21 ∧ (∀ v24 h22, Q21 v24 h22 → zg G mX3_readValue (d + 1) 101 [.ref a0, .int x1, .int xs0] [.int v24] h22 (zPI Q))) ∧ (¬ v19 = 0 → zO h17 a0 3 ∧ ∃ Q26 : Int32 → zMem → Prop, zConI G mX3_putOff d [.ref a0, .int x1] h17 Q26 ∧ (∀ v29 h27, Q26 v29 h27 → zg G mX3_readValue (d + 1) 101 [.ref a0, .int x1, .int xs0] [.int v29] h27 (zPI Q))))))))) ∧ (x1 = (32 : Int32) → zO h a0 3 ∧ ((zI h a0 4) < (8 : Int32) → ∃ Q35 : Int32 → zMem → Prop, zConI G mX3_putOff d [.ref a0, .int x1] (zsI h a0 4 ((zI h a0 4) + (1 : Int32))) Q35 ∧ (∀ v38 h36, Q35 v38 h36 → Q v38 h36)) ∧ (¬ (zI h a0 4) < (8 : Int32) → ∃ Q39 : Int32 → zMem → Prop, zConI G mX3_wrong d [.ref a0, .int (2 : Int32)] h Q39 ∧ (∀ v42 h40, Q39 v42 h40 → Q v42 h40)))) : zg G mX3_readValue (d + 1) 19 [.ref a0, .int x1, zU] [.int xs0] h (zPI Q) := by
  refine z_istore_n 10 rfl (by decide) rfl ?_
  refine z_iload_n 11 rfl rfl ?_
  refine z_bipush (v := 32) 12 rfl (by decide) ?_
  refine z_icmp_ne 13 57 rfl (by decide) ⟨fun c1 => ?_, fun c1 => ?_⟩
  · have B := B.1 c1
    refine z_iload_n 32 rfl rfl ?_
    refine z_bipush (v := 14) 33 rfl (by decide) ?_
    refine z_icmp_ne 34 102 rfl (by decide) ⟨fun c2 => ?_, fun c2 => ?_⟩
    · have B := B.1 c2
      exact B
    · have B := B.2 c2
      refine z_aload_n 35 rfl rfl ?_
      obtain ⟨o32, B⟩ := B
      obtain ⟨Q3, K5, B⟩ := B
      refine z_cVI0 (ν := mX3_topStrength) 36 rfl rfl fX3_topStrength gX3_192 ⟨_, rfl, rfl⟩ (by decide) o32 (Nat.le_of_ble_eq_true rfl) K5 (fun v6 h4 q => ?_)
      have B := B v6 h4 q
      refine z_bipush (v := 14) 37 rfl (by decide) ?_
      obtain ⟨Q7, K9, B⟩ := B
      refine z_cSI1 (ν := mX6_strength) 38 rfl rfl fX6_strength gX3_195 (Nat.le_of_ble_eq_true rfl) K9 (fun v10 h8 q => ?_)
      have B := B v10 h8 q
      refine z_icmp_gt 39 102 rfl (by decide) ⟨fun c11 => ?_, fun c11 => ?_⟩
      · have B := B.1 c11
        exact B
      · have B := B.2 c11
        refine z_aload_n 40 rfl rfl ?_
        obtain ⟨o12, B⟩ := B
        obtain ⟨r13, hr13, B⟩ := B
        refine z_getR 41 rfl lX3_28 rfl o12 hr13 ?_
        obtain ⟨o14, B⟩ := B
        obtain ⟨r15, hr15, B⟩ := B
        refine z_getR 42 rfl lX3_133 rfl o14 hr15 ?_
        obtain ⟨o31, B⟩ := B
        obtain ⟨Q16, K18, B⟩ := B
        refine z_cVI0 (ν := mX0_addKnot) 43 rfl rfl fX0_addKnot gX3_198 ⟨_, rfl, rfl⟩ (by decide) o31 (Nat.le_of_ble_eq_true rfl) K18 (fun v19 h17 q => ?_)
        have B := B v19 h17 q
        refine z_if_eq 44 96 rfl (by decide) ⟨fun c20 => ?_, fun c20 => ?_⟩
        · have B := B.1 c20
          refine z_aload_n 49 rfl rfl ?_
          refine z_iconst (v := 2) 50 rfl (by decide) ?_
          obtain ⟨o25, B⟩ := B
          obtain ⟨Q21, K23, B⟩ := B
          refine z_cVI1 (ν := mX3_wrong) 51 rfl rfl fX3_wrong gX3_79 ⟨_, rfl, rfl⟩ (by decide) o25 (Nat.le_of_ble_eq_true rfl) K23 (fun v24 h22 q => ?_)
          have B := B v24 h22 q
          exact B
        · have B := B.2 c20
          refine z_aload_n 45 rfl rfl ?_
          refine z_iload_n 46 rfl rfl ?_
          obtain ⟨o30, B⟩ := B
          obtain ⟨Q26, K28, B⟩ := B
          refine z_cVI1 (ν := mX3_putOff) 47 rfl rfl fX3_putOff gX3_189 ⟨_, rfl, rfl⟩ (by decide) o30 (Nat.le_of_ble_eq_true rfl) K28 (fun v29 h27 q => ?_)
          have B := B v29 h27 q
          refine z_goto 48 101 rfl (by decide) ?_
          exact B
  · have B := B.2 c1
    refine z_aload_n 14 rfl rfl ?_
    obtain ⟨o33, B⟩ := B
    refine z_getI 15 rfl lX3_174 rfl o33 ?_
    refine z_bipush (v := 8) 16 rfl (by decide) ?_
    refine z_icmp_lt 17 41 rfl (by decide) ⟨fun c34 => ?_, fun c34 => ?_⟩
    · have B := B.1 c34
      refine z_aload_n 22 rfl rfl ?_
      refine z_dup 23 rfl rfl ?_
      refine z_getI 24 rfl lX3_174 rfl o33 ?_
      refine z_iconst (v := 1) 25 rfl (by decide) ?_
      refine z_iadd 26 rfl ?_
      refine z_putI 27 rfl lX3_174 ⟨_, _, _, rfl, rfl⟩ rfl rfl rfl o33 ?_
      refine z_aload_n 28 rfl rfl ?_
      refine z_iload_n 29 rfl rfl ?_
      obtain ⟨Q35, K37, B⟩ := B
      refine z_cVI1 (ν := mX3_putOff) 30 rfl rfl fX3_putOff gX3_189 ⟨_, rfl, rfl⟩ (by decide) o33 (Nat.le_of_ble_eq_true rfl) K37 (fun v38 h36 q => ?_)
      have B := B v38 h36 q
      exact z_iret 31 rfl rfl rfl ⟨rfl, rfl⟩ ⟨_, rfl, B⟩
    · have B := B.2 c34
      refine z_aload_n 18 rfl rfl ?_
      refine z_iconst (v := 2) 19 rfl (by decide) ?_
      obtain ⟨Q39, K41, B⟩ := B
      refine z_cVI1 (ν := mX3_wrong) 20 rfl rfl fX3_wrong gX3_79 ⟨_, rfl, rfl⟩ (by decide) o33 (Nat.le_of_ble_eq_true rfl) K41 (fun v42 h40 q => ?_)
      have B := B v42 h40 q
      exact z_iret 21 rfl rfl rfl ⟨rfl, rfl⟩ ⟨_, rfl, B⟩
set_option maxRecDepth 100000 in
set_option maxHeartbeats 4000000 in
theorem sg_X3_readValue_101 {G : zG} {d : Nat} {h : zMem} {Q : Int32 → zMem → Prop} {a0 : Nat} {x1 : Int32} {x2 : Int32} {xs0 : Int32} (B : Q xs0 h) : zg G mX3_readValue (d + 1) 101 [.ref a0, .int x1, .int x2] [.int xs0] h (zPI Q) := by
  exact z_iret 52 rfl rfl rfl ⟨rfl, rfl⟩ ⟨_, rfl, B⟩
set_option maxRecDepth 100000 in
set_option maxHeartbeats 4000000 in
theorem sg_X3_readValue_102 {G : zG} {d : Nat} {h : zMem} {Q : Int32 → zMem → Prop} {a0 : Nat} {x1 : Int32} {x2 : Int32} (B : (¬ x2 = 0 → (x2 = 0 → zO h a0 3 ∧ ∃ r4, zR h a0 6 = some r4 ∧ zO h r4 6 ∧ ∃ r6, zR h r4 8 = some r6 ∧ zO h r6 0 ∧ ∃ Q7 : Int32 → zMem → Prop, zConI G mX0_addKnot d [.ref r6] h Q7 ∧ (∀ v10 h8, Q7 v10 h8 → (¬ v10 = 0 → zO h8 a0 3 ∧ ∃ r13, zR h8 a0 6 = some r13 ∧ zO h8 r13 6 ∧ ∃ r15, zR h8 r13 8 = some r15 ∧ ∃ r16, zR h8 a0 0 = some r16 ∧ zO h8 r16 4 ∧ zO h8 r15 0 ∧ ∃ Q18 : zMem → Prop, zConV G mX0_append d [.ref r15, .int x1, .int (zI h8 r16 7)] h8 Q18 ∧ (∀ h19, Q18 h19 → zO h19 a0 3 ∧ Q (0 : Int32) (zsI h19 a0 5 (0 : Int32)))) ∧ (v10 = 0 → zO h8 a0 3 ∧ ∃ Q23 : Int32 → zMem → Prop, zConI G mX3_wrong d [.ref a0, .int (2 : Int32)] h8 Q23 ∧ (∀ v26 h24, Q23 v26 h24 → Q v26 h24)))) ∧ (¬ x2 = 0 → zO h a0 3 ∧ ∃ r30, zR h a0 0 = some r30 ∧ zO h r30 4 ∧ ((9999 : Int32) < (zI h r30 7) → ∃ Q33 : Int32 → zMem → Prop, zConI G mX3_wrong d [.ref a0, .int (2 : Int32)] h Q33 ∧ (∀ v36 h34, Q33 v36 h34 → Q v36 h34)) ∧ (¬ (9999 : Int32) < (zI h r30 7) → ∃ r37, zR h a0 6 = some r37 ∧ zO h r37 6 ∧ ∃ r39, zR h r37 8 = some r39 ∧ zO h r39 0 ∧ ∃ Q40 : Int32 → zMem → Prop, zConI G mX0_addKnot d [.ref r39] h Q40 ∧ (∀ v43 h41, Q40 v43 h41 → (¬ v43 = 0 → zO h41 a0 3 ∧ ∃ r46, zR h41 a0 6 = some r46 ∧ zO h41 r46 6 ∧ ∃ r48, zR h41 r46 8 = some r48 ∧ ∃ r49, zR h41 a0 0 = some r49 ∧ zO h41 r49 4 ∧ zO h41 r48 0 ∧ ∃ Q51 : zMem → Prop, zConV G mX0_append d [.ref r48, .int x1, .int (zI h41 r49 7)] h41 Q51 ∧ (∀ h52, Q51 h52 → zO h52 a0 3 ∧ Q (0 : Int32) (zsI h52 a0 5 (0 : Int32)))) ∧ (v43 = 0 → zO h41 a0 3 ∧ ∃ Q56 : Int32 → zMem → Prop, zConI G mX3_wrong d [.ref a0, .int (2 : Int32)] h41 Q56 ∧ (∀ v59 h57, Q56 v59 h57 → Q v59 h57)))))) ∧ (x2 = 0 → (x1 < (15 : Int32) → zO h a0 3 ∧ ∃ Q63 : Int32 → zMem → Prop, zConI G mX3_wrong d [.ref a0, .int (1 : Int32)] h Q63 ∧ (∀ v66 h64, Q63 v66 h64 → Q v66 h64)) ∧ (¬ x1 < (15 : Int32) → (x1 ≤ (21 : Int32) → (x2 = 0 → zO h a0 3 ∧ ∃ r71, zR h a0 6 = some r71 ∧ zO h r71 6 ∧ ∃ r73, zR h r71 8 = some r73 ∧ zO h r73 0 ∧ ∃ Q74 : Int32 → zMem → Prop, zConI G mX0_addKnot d [.ref r73] h Q74 ∧ (∀ v77 h75, Q74 v77 h75 → (¬ v77 = 0 → zO h75 a0 3 ∧ ∃ r80, zR h75 a0 6 = some r80 ∧ zO h75 r80 6 ∧ ∃ r82, zR h75 r80 8 = some r82 ∧ ∃ r83, zR h75 a0 0 = some r83 ∧ zO h75 r83 4 ∧ zO h75 r82 0 ∧ ∃ Q85 : zMem → Prop, zConV G mX0_append d [.ref r82, .int x1, .int (zI h75 r83 7)] h75 Q85 ∧ (∀ h86, Q85 h86 → zO h86 a0 3 ∧ Q (0 : Int32) (zsI h86 a0 5 (0 : Int32)))) ∧ (v77 = 0 → zO h75 a0 3 ∧ ∃ Q90 : Int32 → zMem → Prop, zConI G mX3_wrong d [.ref a0, .int (2 : Int32)] h75 Q90 ∧ (∀ v93 h91, Q90 v93 h91 → Q v93 h91)))) ∧ (¬ x2 = 0 → zO h a0 3 ∧ ∃ r97, zR h a0 0 = some r97 ∧ zO h r97 4 ∧ ((9999 : Int32) < (zI h r97 7) → ∃ Q100 : Int32 → zMem → Prop, zConI G mX3_wrong d [.ref a0, .int (2 : Int32)] h Q100 ∧ (∀ v103 h101, Q100 v103 h101 → Q v103 h101)) ∧ (¬ (9999 : Int32) < (zI h r97 7) → ∃ r104, zR h a0 6 = some r104 ∧ zO h r104 6 ∧ ∃ r106, zR h r104 8 = some r106 ∧ zO h r106 0 ∧ ∃ Q107 : Int32 → zMem → Prop, zConI G mX0_addKnot d [.ref r106] h Q107 ∧ (∀ v110 h108, Q107 v110 h108 → (¬ v110 = 0 → zO h108 a0 3 ∧ ∃ r113, zR h108 a0 6 = some r113 ∧ zO h108 r113 6 ∧ ∃ r115, zR h108 r113 8 = some r115 ∧ ∃ r116, zR h108 a0 0 = some r116 ∧ zO h108 r116 4 ∧ zO h108 r115 0 ∧ ∃ Q118 : zMem → Prop, zConV G mX0_append d [.ref r115, .int x1, .int (zI h108 r116 7)] h108 Q118 ∧ (∀ h119, Q118 h119 → zO h119 a0 3 ∧ Q (0 : Int32) (zsI h119 a0 5 (0 : Int32)))) ∧ (v110 = 0 → zO h108 a0 3 ∧ ∃ Q123 : Int32 → zMem → Prop, zConI G mX3_wrong d [.ref a0, .int (2 : Int32)] h108 Q123 ∧ (∀ v126 h124, Q123 v126 h124 → Q v126 h124)))))) ∧ (¬ x1 ≤ (21 : Int32) → zO h a0 3 ∧ ∃ Q129 : Int32 → zMem → Prop, zConI G mX3_wrong d [.ref a0, .int (1 : Int32)] h Q129 ∧ (∀ v132 h130, Q129 v132 h130 → Q v132 h130))))) : zg G mX3_readValue (d + 1) 102 [.ref a0, .int x1, .int x2] [] h (zPI Q) := by
  refine z_iload_n 53 rfl rfl ?_
  refine z_if_ne 54 124 rfl (by decide) ⟨fun c1 => ?_, fun c1 => ?_⟩
  · have B := B.1 c1
    refine z_iload_n 65 rfl rfl ?_
    refine z_if_eq 66 141 rfl (by decide) ⟨fun c2 => ?_, fun c2 => ?_⟩
    · have B := B.1 c2
      refine z_aload_n 72 rfl rfl ?_
      obtain ⟨o3, B⟩ := B
      obtain ⟨r4, hr4, B⟩ := B
      refine z_getR 73 rfl lX3_28 rfl o3 hr4 ?_
      obtain ⟨o5, B⟩ := B
      obtain ⟨r6, hr6, B⟩ := B
      refine z_getR 74 rfl lX3_133 rfl o5 hr6 ?_
      obtain ⟨o28, B⟩ := B
      obtain ⟨Q7, K9, B⟩ := B
      refine z_cVI0 (ν := mX0_addKnot) 75 rfl rfl fX0_addKnot gX3_198 ⟨_, rfl, rfl⟩ (by decide) o28 (Nat.le_of_ble_eq_true rfl) K9 (fun v10 h8 q => ?_)
      have B := B v10 h8 q
      refine z_if_ne 76 160 rfl (by decide) ⟨fun c11 => ?_, fun c11 => ?_⟩
      · have B := B.1 c11
        refine z_aload_n 81 rfl rfl ?_
        obtain ⟨o12, B⟩ := B
        obtain ⟨r13, hr13, B⟩ := B
        refine z_getR 82 rfl lX3_28 rfl o12 hr13 ?_
        obtain ⟨o14, B⟩ := B
        obtain ⟨r15, hr15, B⟩ := B
        refine z_getR 83 rfl lX3_133 rfl o14 hr15 ?_
        refine z_iload_n 84 rfl rfl ?_
        refine z_aload_n 85 rfl rfl ?_
        obtain ⟨r16, hr16, B⟩ := B
        refine z_getR 86 rfl lX3_12 rfl o12 hr16 ?_
        obtain ⟨o17, B⟩ := B
        refine z_getI 87 rfl lX3_168 rfl o17 ?_
        obtain ⟨o22, B⟩ := B
        obtain ⟨Q18, K20, B⟩ := B
        refine z_cVV2 (ν := mX0_append) 88 rfl rfl fX0_append gX3_202 ⟨_, rfl, rfl⟩ (by decide) o22 (Nat.le_of_ble_eq_true rfl) K20 (fun h19 q => ?_)
        have B := B h19 q
        refine z_aload_n 89 rfl rfl ?_
        refine z_iconst (v := 0) 90 rfl (by decide) ?_
        obtain ⟨o21, B⟩ := B
        refine z_putI 91 rfl lX3_177 ⟨_, _, _, rfl, rfl⟩ rfl rfl rfl o21 ?_
        refine z_iconst (v := 0) 92 rfl (by decide) ?_
        exact z_iret 93 rfl rfl rfl ⟨rfl, rfl⟩ ⟨_, rfl, B⟩
      · have B := B.2 c11
        refine z_aload_n 77 rfl rfl ?_
        refine z_iconst (v := 2) 78 rfl (by decide) ?_
        obtain ⟨o27, B⟩ := B
        obtain ⟨Q23, K25, B⟩ := B
        refine z_cVI1 (ν := mX3_wrong) 79 rfl rfl fX3_wrong gX3_79 ⟨_, rfl, rfl⟩ (by decide) o27 (Nat.le_of_ble_eq_true rfl) K25 (fun v26 h24 q => ?_)
        have B := B v26 h24 q
        exact z_iret 80 rfl rfl rfl ⟨rfl, rfl⟩ ⟨_, rfl, B⟩
    · have B := B.2 c2
      refine z_aload_n 67 rfl rfl ?_
      obtain ⟨o29, B⟩ := B
      obtain ⟨r30, hr30, B⟩ := B
      refine z_getR 68 rfl lX3_12 rfl o29 hr30 ?_
      obtain ⟨o31, B⟩ := B
      refine z_getI 69 rfl lX3_168 rfl o31 ?_
      refine z_sipush (v := 9999) 70 rfl (by decide) ?_
      refine z_icmp_gt 71 154 rfl (by decide) ⟨fun c32 => ?_, fun c32 => ?_⟩
      · have B := B.1 c32
        refine z_aload_n 77 rfl rfl ?_
        refine z_iconst (v := 2) 78 rfl (by decide) ?_
        obtain ⟨Q33, K35, B⟩ := B
        refine z_cVI1 (ν := mX3_wrong) 79 rfl rfl fX3_wrong gX3_79 ⟨_, rfl, rfl⟩ (by decide) o29 (Nat.le_of_ble_eq_true rfl) K35 (fun v36 h34 q => ?_)
        have B := B v36 h34 q
        exact z_iret 80 rfl rfl rfl ⟨rfl, rfl⟩ ⟨_, rfl, B⟩
      · have B := B.2 c32
        refine z_aload_n 72 rfl rfl ?_
        obtain ⟨r37, hr37, B⟩ := B
        refine z_getR 73 rfl lX3_28 rfl o29 hr37 ?_
        obtain ⟨o38, B⟩ := B
        obtain ⟨r39, hr39, B⟩ := B
        refine z_getR 74 rfl lX3_133 rfl o38 hr39 ?_
        obtain ⟨o61, B⟩ := B
        obtain ⟨Q40, K42, B⟩ := B
        refine z_cVI0 (ν := mX0_addKnot) 75 rfl rfl fX0_addKnot gX3_198 ⟨_, rfl, rfl⟩ (by decide) o61 (Nat.le_of_ble_eq_true rfl) K42 (fun v43 h41 q => ?_)
        have B := B v43 h41 q
        refine z_if_ne 76 160 rfl (by decide) ⟨fun c44 => ?_, fun c44 => ?_⟩
        · have B := B.1 c44
          refine z_aload_n 81 rfl rfl ?_
          obtain ⟨o45, B⟩ := B
          obtain ⟨r46, hr46, B⟩ := B
          refine z_getR 82 rfl lX3_28 rfl o45 hr46 ?_
          obtain ⟨o47, B⟩ := B
          obtain ⟨r48, hr48, B⟩ := B
          refine z_getR 83 rfl lX3_133 rfl o47 hr48 ?_
          refine z_iload_n 84 rfl rfl ?_
          refine z_aload_n 85 rfl rfl ?_
          obtain ⟨r49, hr49, B⟩ := B
          refine z_getR 86 rfl lX3_12 rfl o45 hr49 ?_
          obtain ⟨o50, B⟩ := B
          refine z_getI 87 rfl lX3_168 rfl o50 ?_
          obtain ⟨o55, B⟩ := B
          obtain ⟨Q51, K53, B⟩ := B
          refine z_cVV2 (ν := mX0_append) 88 rfl rfl fX0_append gX3_202 ⟨_, rfl, rfl⟩ (by decide) o55 (Nat.le_of_ble_eq_true rfl) K53 (fun h52 q => ?_)
          have B := B h52 q
          refine z_aload_n 89 rfl rfl ?_
          refine z_iconst (v := 0) 90 rfl (by decide) ?_
          obtain ⟨o54, B⟩ := B
          refine z_putI 91 rfl lX3_177 ⟨_, _, _, rfl, rfl⟩ rfl rfl rfl o54 ?_
          refine z_iconst (v := 0) 92 rfl (by decide) ?_
          exact z_iret 93 rfl rfl rfl ⟨rfl, rfl⟩ ⟨_, rfl, B⟩
        · have B := B.2 c44
          refine z_aload_n 77 rfl rfl ?_
          refine z_iconst (v := 2) 78 rfl (by decide) ?_
          obtain ⟨o60, B⟩ := B
          obtain ⟨Q56, K58, B⟩ := B
          refine z_cVI1 (ν := mX3_wrong) 79 rfl rfl fX3_wrong gX3_79 ⟨_, rfl, rfl⟩ (by decide) o60 (Nat.le_of_ble_eq_true rfl) K58 (fun v59 h57 q => ?_)
          have B := B v59 h57 q
          exact z_iret 80 rfl rfl rfl ⟨rfl, rfl⟩ ⟨_, rfl, B⟩
  · have B := B.2 c1
    refine z_iload_n 55 rfl rfl ?_
    refine z_bipush (v := 15) 56 rfl (by decide) ?_
    refine z_icmp_lt 57 118 rfl (by decide) ⟨fun c62 => ?_, fun c62 => ?_⟩
    · have B := B.1 c62
      refine z_aload_n 61 rfl rfl ?_
      refine z_iconst (v := 1) 62 rfl (by decide) ?_
      obtain ⟨o67, B⟩ := B
      obtain ⟨Q63, K65, B⟩ := B
      refine z_cVI1 (ν := mX3_wrong) 63 rfl rfl fX3_wrong gX3_79 ⟨_, rfl, rfl⟩ (by decide) o67 (Nat.le_of_ble_eq_true rfl) K65 (fun v66 h64 q => ?_)
      have B := B v66 h64 q
      exact z_iret 64 rfl rfl rfl ⟨rfl, rfl⟩ ⟨_, rfl, B⟩
    · have B := B.2 c62
      refine z_iload_n 58 rfl rfl ?_
      refine z_bipush (v := 21) 59 rfl (by decide) ?_
      refine z_icmp_le 60 124 rfl (by decide) ⟨fun c68 => ?_, fun c68 => ?_⟩
      · have B := B.1 c68
        refine z_iload_n 65 rfl rfl ?_
        refine z_if_eq 66 141 rfl (by decide) ⟨fun c69 => ?_, fun c69 => ?_⟩
        · have B := B.1 c69
          refine z_aload_n 72 rfl rfl ?_
          obtain ⟨o70, B⟩ := B
          obtain ⟨r71, hr71, B⟩ := B
          refine z_getR 73 rfl lX3_28 rfl o70 hr71 ?_
          obtain ⟨o72, B⟩ := B
          obtain ⟨r73, hr73, B⟩ := B
          refine z_getR 74 rfl lX3_133 rfl o72 hr73 ?_
          obtain ⟨o95, B⟩ := B
          obtain ⟨Q74, K76, B⟩ := B
          refine z_cVI0 (ν := mX0_addKnot) 75 rfl rfl fX0_addKnot gX3_198 ⟨_, rfl, rfl⟩ (by decide) o95 (Nat.le_of_ble_eq_true rfl) K76 (fun v77 h75 q => ?_)
          have B := B v77 h75 q
          refine z_if_ne 76 160 rfl (by decide) ⟨fun c78 => ?_, fun c78 => ?_⟩
          · have B := B.1 c78
            refine z_aload_n 81 rfl rfl ?_
            obtain ⟨o79, B⟩ := B
            obtain ⟨r80, hr80, B⟩ := B
            refine z_getR 82 rfl lX3_28 rfl o79 hr80 ?_
            obtain ⟨o81, B⟩ := B
            obtain ⟨r82, hr82, B⟩ := B
            refine z_getR 83 rfl lX3_133 rfl o81 hr82 ?_
            refine z_iload_n 84 rfl rfl ?_
            refine z_aload_n 85 rfl rfl ?_
            obtain ⟨r83, hr83, B⟩ := B
            refine z_getR 86 rfl lX3_12 rfl o79 hr83 ?_
            obtain ⟨o84, B⟩ := B
            refine z_getI 87 rfl lX3_168 rfl o84 ?_
            obtain ⟨o89, B⟩ := B
            obtain ⟨Q85, K87, B⟩ := B
            refine z_cVV2 (ν := mX0_append) 88 rfl rfl fX0_append gX3_202 ⟨_, rfl, rfl⟩ (by decide) o89 (Nat.le_of_ble_eq_true rfl) K87 (fun h86 q => ?_)
            have B := B h86 q
            refine z_aload_n 89 rfl rfl ?_
            refine z_iconst (v := 0) 90 rfl (by decide) ?_
            obtain ⟨o88, B⟩ := B
            refine z_putI 91 rfl lX3_177 ⟨_, _, _, rfl, rfl⟩ rfl rfl rfl o88 ?_
            refine z_iconst (v := 0) 92 rfl (by decide) ?_
            exact z_iret 93 rfl rfl rfl ⟨rfl, rfl⟩ ⟨_, rfl, B⟩
          · have B := B.2 c78
            refine z_aload_n 77 rfl rfl ?_
            refine z_iconst (v := 2) 78 rfl (by decide) ?_
            obtain ⟨o94, B⟩ := B
            obtain ⟨Q90, K92, B⟩ := B
            refine z_cVI1 (ν := mX3_wrong) 79 rfl rfl fX3_wrong gX3_79 ⟨_, rfl, rfl⟩ (by decide) o94 (Nat.le_of_ble_eq_true rfl) K92 (fun v93 h91 q => ?_)
            have B := B v93 h91 q
            exact z_iret 80 rfl rfl rfl ⟨rfl, rfl⟩ ⟨_, rfl, B⟩
        · have B := B.2 c69
          refine z_aload_n 67 rfl rfl ?_
          obtain ⟨o96, B⟩ := B
          obtain ⟨r97, hr97, B⟩ := B
          refine z_getR 68 rfl lX3_12 rfl o96 hr97 ?_
          obtain ⟨o98, B⟩ := B
          refine z_getI 69 rfl lX3_168 rfl o98 ?_
          refine z_sipush (v := 9999) 70 rfl (by decide) ?_
          refine z_icmp_gt 71 154 rfl (by decide) ⟨fun c99 => ?_, fun c99 => ?_⟩
          · have B := B.1 c99
            refine z_aload_n 77 rfl rfl ?_
            refine z_iconst (v := 2) 78 rfl (by decide) ?_
            obtain ⟨Q100, K102, B⟩ := B
            refine z_cVI1 (ν := mX3_wrong) 79 rfl rfl fX3_wrong gX3_79 ⟨_, rfl, rfl⟩ (by decide) o96 (Nat.le_of_ble_eq_true rfl) K102 (fun v103 h101 q => ?_)
            have B := B v103 h101 q
            exact z_iret 80 rfl rfl rfl ⟨rfl, rfl⟩ ⟨_, rfl, B⟩
          · have B := B.2 c99
            refine z_aload_n 72 rfl rfl ?_
            obtain ⟨r104, hr104, B⟩ := B
            refine z_getR 73 rfl lX3_28 rfl o96 hr104 ?_
            obtain ⟨o105, B⟩ := B
            obtain ⟨r106, hr106, B⟩ := B
            refine z_getR 74 rfl lX3_133 rfl o105 hr106 ?_
            obtain ⟨o128, B⟩ := B
            obtain ⟨Q107, K109, B⟩ := B
            refine z_cVI0 (ν := mX0_addKnot) 75 rfl rfl fX0_addKnot gX3_198 ⟨_, rfl, rfl⟩ (by decide) o128 (Nat.le_of_ble_eq_true rfl) K109 (fun v110 h108 q => ?_)
            have B := B v110 h108 q
            refine z_if_ne 76 160 rfl (by decide) ⟨fun c111 => ?_, fun c111 => ?_⟩
            · have B := B.1 c111
              refine z_aload_n 81 rfl rfl ?_
              obtain ⟨o112, B⟩ := B
              obtain ⟨r113, hr113, B⟩ := B
              refine z_getR 82 rfl lX3_28 rfl o112 hr113 ?_
              obtain ⟨o114, B⟩ := B
              obtain ⟨r115, hr115, B⟩ := B
              refine z_getR 83 rfl lX3_133 rfl o114 hr115 ?_
              refine z_iload_n 84 rfl rfl ?_
              refine z_aload_n 85 rfl rfl ?_
              obtain ⟨r116, hr116, B⟩ := B
              refine z_getR 86 rfl lX3_12 rfl o112 hr116 ?_
              obtain ⟨o117, B⟩ := B
              refine z_getI 87 rfl lX3_168 rfl o117 ?_
              obtain ⟨o122, B⟩ := B
              obtain ⟨Q118, K120, B⟩ := B
              refine z_cVV2 (ν := mX0_append) 88 rfl rfl fX0_append gX3_202 ⟨_, rfl, rfl⟩ (by decide) o122 (Nat.le_of_ble_eq_true rfl) K120 (fun h119 q => ?_)
              have B := B h119 q
              refine z_aload_n 89 rfl rfl ?_
              refine z_iconst (v := 0) 90 rfl (by decide) ?_
              obtain ⟨o121, B⟩ := B
              refine z_putI 91 rfl lX3_177 ⟨_, _, _, rfl, rfl⟩ rfl rfl rfl o121 ?_
              refine z_iconst (v := 0) 92 rfl (by decide) ?_
              exact z_iret 93 rfl rfl rfl ⟨rfl, rfl⟩ ⟨_, rfl, B⟩
            · have B := B.2 c111
              refine z_aload_n 77 rfl rfl ?_
              refine z_iconst (v := 2) 78 rfl (by decide) ?_
              obtain ⟨o127, B⟩ := B
              obtain ⟨Q123, K125, B⟩ := B
              refine z_cVI1 (ν := mX3_wrong) 79 rfl rfl fX3_wrong gX3_79 ⟨_, rfl, rfl⟩ (by decide) o127 (Nat.le_of_ble_eq_true rfl) K125 (fun v126 h124 q => ?_)
              have B := B v126 h124 q
              exact z_iret 80 rfl rfl rfl ⟨rfl, rfl⟩ ⟨_, rfl, B⟩
      · have B := B.2 c68
        refine z_aload_n 61 rfl rfl ?_
        refine z_iconst (v := 1) 62 rfl (by decide) ?_
        obtain ⟨o133, B⟩ := B
        obtain ⟨Q129, K131, B⟩ := B
        refine z_cVI1 (ν := mX3_wrong) 63 rfl rfl fX3_wrong gX3_79 ⟨_, rfl, rfl⟩ (by decide) o133 (Nat.le_of_ble_eq_true rfl) K131 (fun v132 h130 q => ?_)
        have B := B v132 h130 q
        exact z_iret 64 rfl rfl rfl ⟨rfl, rfl⟩ ⟨_, rfl, B⟩
set_option maxRecDepth 100000 in
set_option maxHeartbeats 4000000 in
theorem sg_X3_readSign_0 {G : zG} {d : Nat} {h : zMem} {Q : Int32 → zMem → Prop} {a0 : Nat} (B : zO h a0 3 ∧ ∃ r2, zR h a0 0 = some r2 ∧ zO h r2 4 ∧ ∃ Q4 : Int32 → zMem → Prop, zConI G mX6_strength d [.int (zI h r2 4)] h Q4 ∧ (∀ v7 h5, Q4 v7 h5 → (¬ (zI h r2 4) = (33 : Int32) → zg G mX3_readSign (d + 1) 53 [.ref a0, .int (zI h r2 4), .int v7] [] h5 (zPI Q)) ∧ ((zI h r2 4) = (33 : Int32) → zO h5 a0 3 ∧ ((zI h5 a0 4) ≤ 0 → zg G mX3_readSign (d + 1) 53 [.ref a0, .int (zI h r2 4), .int v7] [] h5 (zPI Q)) ∧ (¬ (zI h5 a0 4) ≤ 0 → ∃ Q11 : zMem → Prop, zConV G mX3_settle d [.ref a0, .int (1 : Int32)] h5 Q11 ∧ (∀ h12, Q11 h12 → zO h12 a0 3 ∧ Q (0 : Int32) (zsI (zsI h12 a0 3 ((zI h12 a0 3) - (1 : Int32))) a0 4 ((zI (zsI h12 a0 3 ((zI h12 a0 3) - (1 : Int32))) a0 4) - (1 : Int32)))))))) : zg G mX3_readSign (d + 1) 0 [.ref a0, zU, zU] [] h (zPI Q) := by
  refine z_aload_n 0 rfl rfl ?_
  obtain ⟨o1, B⟩ := B
  obtain ⟨r2, hr2, B⟩ := B
  refine z_getR 1 rfl lX3_12 rfl o1 hr2 ?_
  obtain ⟨o3, B⟩ := B
  refine z_getI 2 rfl lX3_46 rfl o3 ?_
  refine z_istore_n 3 rfl (by decide) rfl ?_
  refine z_iload_n 4 rfl rfl ?_
  obtain ⟨Q4, K6, B⟩ := B
  refine z_cSI1 (ν := mX6_strength) 5 rfl rfl fX6_strength gX3_195 (Nat.le_of_ble_eq_true rfl) K6 (fun v7 h5 q => ?_)
  have B := B v7 h5 q
  refine z_istore_n 6 rfl (by decide) rfl ?_
  refine z_iload_n 7 rfl rfl ?_
  refine z_bipush (v := 33) 8 rfl (by decide) ?_
  refine z_icmp_ne 9 53 rfl (by decide) ⟨fun c8 => ?_, fun c8 => ?_⟩
  · have B := B.1 c8
    exact B
  · have B := B.2 c8
    refine z_aload_n 10 rfl rfl ?_
    obtain ⟨o9, B⟩ := B
    refine z_getI 11 rfl lX3_174 rfl o9 ?_
    refine z_if_le 12 53 rfl (by decide) ⟨fun c10 => ?_, fun c10 => ?_⟩
    · have B := B.1 c10
      exact B
    · have B := B.2 c10
      refine z_aload_n 13 rfl rfl ?_
      refine z_iconst (v := 1) 14 rfl (by decide) ?_
      obtain ⟨Q11, K13, B⟩ := B
      refine z_cVV1 (ν := mX3_settle) 15 rfl rfl fX3_settle gX3_180 ⟨_, rfl, rfl⟩ (by decide) o9 (Nat.le_of_ble_eq_true rfl) K13 (fun h12 q => ?_)
      have B := B h12 q
      refine z_aload_n 16 rfl rfl ?_
      refine z_dup 17 rfl rfl ?_
      obtain ⟨o14, B⟩ := B
      refine z_getI 18 rfl lX3_171 rfl o14 ?_
      refine z_iconst (v := 1) 19 rfl (by decide) ?_
      refine z_isub 20 rfl ?_
      refine z_putI 21 rfl lX3_171 ⟨_, _, _, rfl, rfl⟩ rfl rfl rfl o14 ?_
      refine z_aload_n 22 rfl rfl ?_
      refine z_dup 23 rfl rfl ?_
      refine z_getI 24 rfl lX3_174 rfl o14 ?_
      refine z_iconst (v := 1) 25 rfl (by decide) ?_
      refine z_isub 26 rfl ?_
      refine z_putI 27 rfl lX3_174 ⟨_, _, _, rfl, rfl⟩ rfl rfl rfl o14 ?_
      refine z_iconst (v := 0) 28 rfl (by decide) ?_
      exact z_iret 29 rfl rfl rfl ⟨rfl, rfl⟩ ⟨_, rfl, B⟩
theorem cn_X3_readSign {G : zG} {d : Nat} {h : zMem} {Q : Int32 → zMem → Prop} {a0 : Nat} (B : zg G mX3_readSign (d + 1) 0 [.ref a0, zU, zU] [] h (zPI Q)) : zConI G mX3_readSign (d + 1) [.ref a0] h Q := zcon0 (by decide +kernel) eX3_readSign (Nat.le_of_ble_eq_true rfl) rfl B
set_option maxRecDepth 100000 in
set_option maxHeartbeats 4000000 in
theorem sg_X3_readSign_53 {G : zG} {d : Nat} {h : zMem} {Q : Int32 → zMem → Prop} {a0 : Nat} {x1 : Int32} {x2 : Int32} (B : (x2 = 0 → zO h a0 3 ∧ ∃ Q2 : Int32 → zMem → Prop, zConI G mX3_wrong d [.ref a0, .int (1 : Int32)] h Q2 ∧ (∀ v5 h3, Q2 v5 h3 → Q v5 h3)) ∧ (¬ x2 = 0 → (¬ x1 = (14 : Int32) → (¬ x2 = (4 : Int32) → zO h a0 3 ∧ ∃ Q9 : zMem → Prop, zConV G mX3_settle d [.ref a0, .int x2] h Q9 ∧ (∀ h10, Q9 h10 → (¬ x2 = (4 : Int32) → zO h10 a0 3 ∧ ∃ r14, zR h10 a0 6 = some r14 ∧ zO h10 r14 6 ∧ ∃ r16, zR h10 r14 8 = some r16 ∧ zO h10 r16 0 ∧ ∃ Q17 : Int32 → zMem → Prop, zConI G mX0_addKnot d [.ref r16] (zsI h10 a0 5 (1 : Int32)) Q17 ∧ (∀ v20 h18, Q17 v20 h18 → (v20 = 0 → zO h18 a0 3 ∧ ∃ Q22 : Int32 → zMem → Prop, zConI G mX3_wrong d [.ref a0, .int (2 : Int32)] h18 Q22 ∧ (∀ v25 h23, Q22 v25 h23 → Q v25 h23)) ∧ (¬ v20 = 0 → zO h18 a0 3 ∧ ∃ Q27 : Int32 → zMem → Prop, zConI G mX3_putOff d [.ref a0, .int x1] h18 Q27 ∧ (∀ v30 h28, Q27 v30 h28 → Q v30 h28)))) ∧ (x2 = (4 : Int32) → zO h10 a0 3 ∧ ∃ Q33 : Int32 → zMem → Prop, zConI G mX3_topStrength d [.ref a0] h10 Q33 ∧ (∀ v36 h34, Q33 v36 h34 → (¬ v36 = x2 → zO h34 a0 3 ∧ ∃ r39, zR h34 a0 6 = some r39 ∧ zO h34 r39 6 ∧ ∃ r41, zR h34 r39 8 = some r41 ∧ zO h34 r41 0 ∧ ∃ Q42 : Int32 → zMem → Prop, zConI G mX0_addKnot d [.ref r41] (zsI h34 a0 5 (1 : Int32)) Q42 ∧ (∀ v45 h43, Q42 v45 h43 → (v45 = 0 → zO h43 a0 3 ∧ ∃ Q47 : Int32 → zMem → Prop, zConI G mX3_wrong d [.ref a0, .int (2 : Int32)] h43 Q47 ∧ (∀ v50 h48, Q47 v50 h48 → Q v50 h48)) ∧ (¬ v45 = 0 → zO h43 a0 3 ∧ ∃ Q52 : Int32 → zMem → Prop, zConI G mX3_putOff d [.ref a0, .int x1] h43 Q52 ∧ (∀ v55 h53, Q52 v55 h53 → Q v55 h53)))) ∧ (v36 = x2 → zO h34 a0 3 ∧ ∃ Q58 : Int32 → zMem → Prop, zConI G mX3_wrong d [.ref a0, .int (1 : Int32)] h34 Q58 ∧ (∀ v61 h59, Q58 v61 h59 → Q v61 h59)))))) ∧ (x2 = (4 : Int32) → zO h a0 3 ∧ ∃ Q65 : zMem → Prop, zConV G mX3_settle d [.ref a0, .int (x2 + (1 : Int32))] h Q65 ∧ (∀ h66, Q65 h66 → (¬ x2 = (4 : Int32) → zO h66 a0 3 ∧ ∃ r70, zR h66 a0 6 = some r70 ∧ zO h66 r70 6 ∧ ∃ r72, zR h66 r70 8 = some r72 ∧ zO h66 r72 0 ∧ ∃ Q73 : Int32 → zMem → Prop, zConI G mX0_addKnot d [.ref r72] (zsI h66 a0 5 (1 : Int32)) Q73 ∧ (∀ v76 h74, Q73 v76 h74 → (v76 = 0 → zO h74 a0 3 ∧ ∃ Q78 : Int32 → zMem → Prop, zConI G mX3_wrong d [.ref a0, .int (2 : Int32)] h74 Q78 ∧ (∀ v81 h79, Q78 v81 h79 → Q v81 h79)) ∧ (¬ v76 = 0 → zO h74 a0 3 ∧ ∃ Q83 : Int32 → zMem → Prop, zConI G mX3_putOff d [.ref a0, .int x1] h74 Q83 ∧ (∀ v86 h84, Q83 v86 h84 → Q v86 h84)))) ∧ (x2 = (4 : Int32) → zO h66 a0 3 ∧ ∃ Q89 : Int32 → zMem → Prop, zConI G mX3_topStrength d [.ref a0] h66 Q89 ∧ (∀ v92 h90, Q89 v92 h90 → (¬ v92 = x2 → zO h90 a0 3 ∧ ∃ r95, zR h90 a0 6 = some r95 ∧ zO h90 r95 6 ∧ ∃ r97, zR h90 r95 8 = some r97 ∧ zO h90 r97 0 ∧ ∃ Q98 : Int32 → zMem → Prop, zConI G mX0_addKnot d [.ref r97] (zsI h90 a0 5 (1 : Int32)) Q98 ∧ (∀ v101 h99, Q98 v101 h99 → (v101 = 0 → zO h99 a0 3 ∧ ∃ Q103 : Int32 → zMem → Prop, zConI G mX3_wrong d [.ref a0, .int (2 : Int32)] h99 Q103 ∧ (∀ v106 h104, Q103 v106 h104 → Q v106 h104)) ∧ (¬ v101 = 0 → zO h99 a0 3 ∧ ∃ Q108 : Int32 → zMem → Prop, zConI G mX3_putOff d [.ref a0, .int x1] h99 Q108 ∧ (∀ v111 h109, Q108 v111 h109 → Q v111 h109)))) ∧ (v92 = x2 → zO h90 a0 3 ∧ ∃ Q114 : Int32 → zMem → Prop, zConI G mX3_wrong d [.ref a0, .int (1 : Int32)] h90 Q114 ∧ (∀ v117 h115, Q114 v117 h115 → Q v117 h115))))))) ∧ (x1 = (14 : Int32) → zO h a0 3 ∧ ∃ Q121 : Int32 → zMem → Prop, zConI G mX3_wrong d [.ref a0, .int (1 : Int32)] h Q121 ∧ (∀ v124 h122, Q121 v124 h122 → Q v124 h122)))) : zg G mX3_readSign (d + 1) 53 [.ref a0, .int x1, .int x2] [] h (zPI Q) := by
  refine z_iload_n 30 rfl rfl ?_
  refine z_if_eq 31 63 rfl (by decide) ⟨fun c1 => ?_, fun c1 => ?_⟩
  · have B := B.1 c1
    refine z_aload_n 35 rfl rfl ?_
    refine z_iconst (v := 1) 36 rfl (by decide) ?_
    obtain ⟨o6, B⟩ := B
    obtain ⟨Q2, K4, B⟩ := B
    refine z_cVI1 (ν := mX3_wrong) 37 rfl rfl fX3_wrong gX3_79 ⟨_, rfl, rfl⟩ (by decide) o6 (Nat.le_of_ble_eq_true rfl) K4 (fun v5 h3 q => ?_)
    have B := B v5 h3 q
    exact z_iret 38 rfl rfl rfl ⟨rfl, rfl⟩ ⟨_, rfl, B⟩
  · have B := B.2 c1
    refine z_iload_n 32 rfl rfl ?_
    refine z_bipush (v := 14) 33 rfl (by decide) ?_
    refine z_icmp_ne 34 69 rfl (by decide) ⟨fun c7 => ?_, fun c7 => ?_⟩
    · have B := B.1 c7
      refine z_aload_n 39 rfl rfl ?_
      refine z_iload_n 40 rfl rfl ?_
      refine z_iconst (v := 4) 41 rfl (by decide) ?_
      refine z_icmp_ne 42 81 rfl (by decide) ⟨fun c8 => ?_, fun c8 => ?_⟩
      · have B := B.1 c8
        refine z_iload_n 47 rfl rfl ?_
        obtain ⟨o64, B⟩ := B
        obtain ⟨Q9, K11, B⟩ := B
        refine z_cVV1 (ν := mX3_settle) 48 rfl rfl fX3_settle gX3_180 ⟨_, rfl, rfl⟩ (by decide) o64 (Nat.le_of_ble_eq_true rfl) K11 (fun h10 q => ?_)
        have B := B h10 q
        refine z_iload_n 49 rfl rfl ?_
        refine z_iconst (v := 4) 50 rfl (by decide) ?_
        refine z_icmp_ne 51 104 rfl (by decide) ⟨fun c12 => ?_, fun c12 => ?_⟩
        · have B := B.1 c12
          refine z_aload_n 60 rfl rfl ?_
          refine z_iconst (v := 1) 61 rfl (by decide) ?_
          obtain ⟨o13, B⟩ := B
          refine z_putI 62 rfl lX3_177 ⟨_, _, _, rfl, rfl⟩ rfl rfl rfl o13 ?_
          refine z_aload_n 63 rfl rfl ?_
          obtain ⟨r14, hr14, B⟩ := B
          refine z_getR 64 rfl lX3_28 rfl o13 hr14 ?_
          obtain ⟨o15, B⟩ := B
          obtain ⟨r16, hr16, B⟩ := B
          refine z_getR 65 rfl lX3_133 rfl o15 hr16 ?_
          obtain ⟨o32, B⟩ := B
          obtain ⟨Q17, K19, B⟩ := B
          refine z_cVI0 (ν := mX0_addKnot) 66 rfl rfl fX0_addKnot gX3_198 ⟨_, rfl, rfl⟩ (by decide) o32 (Nat.le_of_ble_eq_true rfl) K19 (fun v20 h18 q => ?_)
          have B := B v20 h18 q
          refine z_if_eq 67 130 rfl (by decide) ⟨fun c21 => ?_, fun c21 => ?_⟩
          · have B := B.1 c21
            refine z_aload_n 72 rfl rfl ?_
            refine z_iconst (v := 2) 73 rfl (by decide) ?_
            obtain ⟨o26, B⟩ := B
            obtain ⟨Q22, K24, B⟩ := B
            refine z_cVI1 (ν := mX3_wrong) 74 rfl rfl fX3_wrong gX3_79 ⟨_, rfl, rfl⟩ (by decide) o26 (Nat.le_of_ble_eq_true rfl) K24 (fun v25 h23 q => ?_)
            have B := B v25 h23 q
            exact z_iret 75 rfl rfl rfl ⟨rfl, rfl⟩ ⟨_, rfl, B⟩
          · have B := B.2 c21
            refine z_aload_n 68 rfl rfl ?_
            refine z_iload_n 69 rfl rfl ?_
            obtain ⟨o31, B⟩ := B
            obtain ⟨Q27, K29, B⟩ := B
            refine z_cVI1 (ν := mX3_putOff) 70 rfl rfl fX3_putOff gX3_189 ⟨_, rfl, rfl⟩ (by decide) o31 (Nat.le_of_ble_eq_true rfl) K29 (fun v30 h28 q => ?_)
            have B := B v30 h28 q
            refine z_goto 71 135 rfl (by decide) ?_
            exact z_iret 75 rfl rfl rfl ⟨rfl, rfl⟩ ⟨_, rfl, B⟩
        · have B := B.2 c12
          refine z_aload_n 52 rfl rfl ?_
          obtain ⟨o63, B⟩ := B
          obtain ⟨Q33, K35, B⟩ := B
          refine z_cVI0 (ν := mX3_topStrength) 53 rfl rfl fX3_topStrength gX3_192 ⟨_, rfl, rfl⟩ (by decide) o63 (Nat.le_of_ble_eq_true rfl) K35 (fun v36 h34 q => ?_)
          have B := B v36 h34 q
          refine z_iload_n 54 rfl rfl ?_
          refine z_icmp_ne 55 104 rfl (by decide) ⟨fun c37 => ?_, fun c37 => ?_⟩
          · have B := B.1 c37
            refine z_aload_n 60 rfl rfl ?_
            refine z_iconst (v := 1) 61 rfl (by decide) ?_
            obtain ⟨o38, B⟩ := B
            refine z_putI 62 rfl lX3_177 ⟨_, _, _, rfl, rfl⟩ rfl rfl rfl o38 ?_
            refine z_aload_n 63 rfl rfl ?_
            obtain ⟨r39, hr39, B⟩ := B
            refine z_getR 64 rfl lX3_28 rfl o38 hr39 ?_
            obtain ⟨o40, B⟩ := B
            obtain ⟨r41, hr41, B⟩ := B
            refine z_getR 65 rfl lX3_133 rfl o40 hr41 ?_
            obtain ⟨o57, B⟩ := B
            obtain ⟨Q42, K44, B⟩ := B
            refine z_cVI0 (ν := mX0_addKnot) 66 rfl rfl fX0_addKnot gX3_198 ⟨_, rfl, rfl⟩ (by decide) o57 (Nat.le_of_ble_eq_true rfl) K44 (fun v45 h43 q => ?_)
            have B := B v45 h43 q
            refine z_if_eq 67 130 rfl (by decide) ⟨fun c46 => ?_, fun c46 => ?_⟩
            · have B := B.1 c46
              refine z_aload_n 72 rfl rfl ?_
              refine z_iconst (v := 2) 73 rfl (by decide) ?_
              obtain ⟨o51, B⟩ := B
              obtain ⟨Q47, K49, B⟩ := B
              refine z_cVI1 (ν := mX3_wrong) 74 rfl rfl fX3_wrong gX3_79 ⟨_, rfl, rfl⟩ (by decide) o51 (Nat.le_of_ble_eq_true rfl) K49 (fun v50 h48 q => ?_)
              have B := B v50 h48 q
              exact z_iret 75 rfl rfl rfl ⟨rfl, rfl⟩ ⟨_, rfl, B⟩
            · have B := B.2 c46
              refine z_aload_n 68 rfl rfl ?_
              refine z_iload_n 69 rfl rfl ?_
              obtain ⟨o56, B⟩ := B
              obtain ⟨Q52, K54, B⟩ := B
              refine z_cVI1 (ν := mX3_putOff) 70 rfl rfl fX3_putOff gX3_189 ⟨_, rfl, rfl⟩ (by decide) o56 (Nat.le_of_ble_eq_true rfl) K54 (fun v55 h53 q => ?_)
              have B := B v55 h53 q
              refine z_goto 71 135 rfl (by decide) ?_
              exact z_iret 75 rfl rfl rfl ⟨rfl, rfl⟩ ⟨_, rfl, B⟩
          · have B := B.2 c37
            refine z_aload_n 56 rfl rfl ?_
            refine z_iconst (v := 1) 57 rfl (by decide) ?_
            obtain ⟨o62, B⟩ := B
            obtain ⟨Q58, K60, B⟩ := B
            refine z_cVI1 (ν := mX3_wrong) 58 rfl rfl fX3_wrong gX3_79 ⟨_, rfl, rfl⟩ (by decide) o62 (Nat.le_of_ble_eq_true rfl) K60 (fun v61 h59 q => ?_)
            have B := B v61 h59 q
            exact z_iret 59 rfl rfl rfl ⟨rfl, rfl⟩ ⟨_, rfl, B⟩
      · have B := B.2 c8
        refine z_iload_n 43 rfl rfl ?_
        refine z_iconst (v := 1) 44 rfl (by decide) ?_
        refine z_iadd 45 rfl ?_
        refine z_goto 46 82 rfl (by decide) ?_
        obtain ⟨o120, B⟩ := B
        obtain ⟨Q65, K67, B⟩ := B
        refine z_cVV1 (ν := mX3_settle) 48 rfl rfl fX3_settle gX3_180 ⟨_, rfl, rfl⟩ (by decide) o120 (Nat.le_of_ble_eq_true rfl) K67 (fun h66 q => ?_)
        have B := B h66 q
        refine z_iload_n 49 rfl rfl ?_
        refine z_iconst (v := 4) 50 rfl (by decide) ?_
        refine z_icmp_ne 51 104 rfl (by decide) ⟨fun c68 => ?_, fun c68 => ?_⟩
        · have B := B.1 c68
          refine z_aload_n 60 rfl rfl ?_
          refine z_iconst (v := 1) 61 rfl (by decide) ?_
          obtain ⟨o69, B⟩ := B
          refine z_putI 62 rfl lX3_177 ⟨_, _, _, rfl, rfl⟩ rfl rfl rfl o69 ?_
          refine z_aload_n 63 rfl rfl ?_
          obtain ⟨r70, hr70, B⟩ := B
          refine z_getR 64 rfl lX3_28 rfl o69 hr70 ?_
          obtain ⟨o71, B⟩ := B
          obtain ⟨r72, hr72, B⟩ := B
          refine z_getR 65 rfl lX3_133 rfl o71 hr72 ?_
          obtain ⟨o88, B⟩ := B
          obtain ⟨Q73, K75, B⟩ := B
          refine z_cVI0 (ν := mX0_addKnot) 66 rfl rfl fX0_addKnot gX3_198 ⟨_, rfl, rfl⟩ (by decide) o88 (Nat.le_of_ble_eq_true rfl) K75 (fun v76 h74 q => ?_)
          have B := B v76 h74 q
          refine z_if_eq 67 130 rfl (by decide) ⟨fun c77 => ?_, fun c77 => ?_⟩
          · have B := B.1 c77
            refine z_aload_n 72 rfl rfl ?_
            refine z_iconst (v := 2) 73 rfl (by decide) ?_
            obtain ⟨o82, B⟩ := B
            obtain ⟨Q78, K80, B⟩ := B
            refine z_cVI1 (ν := mX3_wrong) 74 rfl rfl fX3_wrong gX3_79 ⟨_, rfl, rfl⟩ (by decide) o82 (Nat.le_of_ble_eq_true rfl) K80 (fun v81 h79 q => ?_)
            have B := B v81 h79 q
            exact z_iret 75 rfl rfl rfl ⟨rfl, rfl⟩ ⟨_, rfl, B⟩
          · have B := B.2 c77
            refine z_aload_n 68 rfl rfl ?_
            refine z_iload_n 69 rfl rfl ?_
            obtain ⟨o87, B⟩ := B
            obtain ⟨Q83, K85, B⟩ := B
            refine z_cVI1 (ν := mX3_putOff) 70 rfl rfl fX3_putOff gX3_189 ⟨_, rfl, rfl⟩ (by decide) o87 (Nat.le_of_ble_eq_true rfl) K85 (fun v86 h84 q => ?_)
            have B := B v86 h84 q
            refine z_goto 71 135 rfl (by decide) ?_
            exact z_iret 75 rfl rfl rfl ⟨rfl, rfl⟩ ⟨_, rfl, B⟩
        · have B := B.2 c68
          refine z_aload_n 52 rfl rfl ?_
          obtain ⟨o119, B⟩ := B
          obtain ⟨Q89, K91, B⟩ := B
          refine z_cVI0 (ν := mX3_topStrength) 53 rfl rfl fX3_topStrength gX3_192 ⟨_, rfl, rfl⟩ (by decide) o119 (Nat.le_of_ble_eq_true rfl) K91 (fun v92 h90 q => ?_)
          have B := B v92 h90 q
          refine z_iload_n 54 rfl rfl ?_
          refine z_icmp_ne 55 104 rfl (by decide) ⟨fun c93 => ?_, fun c93 => ?_⟩
          · have B := B.1 c93
            refine z_aload_n 60 rfl rfl ?_
            refine z_iconst (v := 1) 61 rfl (by decide) ?_
            obtain ⟨o94, B⟩ := B
            refine z_putI 62 rfl lX3_177 ⟨_, _, _, rfl, rfl⟩ rfl rfl rfl o94 ?_
            refine z_aload_n 63 rfl rfl ?_
            obtain ⟨r95, hr95, B⟩ := B
            refine z_getR 64 rfl lX3_28 rfl o94 hr95 ?_
            obtain ⟨o96, B⟩ := B
            obtain ⟨r97, hr97, B⟩ := B
            refine z_getR 65 rfl lX3_133 rfl o96 hr97 ?_
            obtain ⟨o113, B⟩ := B
            obtain ⟨Q98, K100, B⟩ := B
            refine z_cVI0 (ν := mX0_addKnot) 66 rfl rfl fX0_addKnot gX3_198 ⟨_, rfl, rfl⟩ (by decide) o113 (Nat.le_of_ble_eq_true rfl) K100 (fun v101 h99 q => ?_)
            have B := B v101 h99 q
            refine z_if_eq 67 130 rfl (by decide) ⟨fun c102 => ?_, fun c102 => ?_⟩
            · have B := B.1 c102
              refine z_aload_n 72 rfl rfl ?_
              refine z_iconst (v := 2) 73 rfl (by decide) ?_
              obtain ⟨o107, B⟩ := B
              obtain ⟨Q103, K105, B⟩ := B
              refine z_cVI1 (ν := mX3_wrong) 74 rfl rfl fX3_wrong gX3_79 ⟨_, rfl, rfl⟩ (by decide) o107 (Nat.le_of_ble_eq_true rfl) K105 (fun v106 h104 q => ?_)
              have B := B v106 h104 q
              exact z_iret 75 rfl rfl rfl ⟨rfl, rfl⟩ ⟨_, rfl, B⟩
            · have B := B.2 c102
              refine z_aload_n 68 rfl rfl ?_
              refine z_iload_n 69 rfl rfl ?_
              obtain ⟨o112, B⟩ := B
              obtain ⟨Q108, K110, B⟩ := B
              refine z_cVI1 (ν := mX3_putOff) 70 rfl rfl fX3_putOff gX3_189 ⟨_, rfl, rfl⟩ (by decide) o112 (Nat.le_of_ble_eq_true rfl) K110 (fun v111 h109 q => ?_)
              have B := B v111 h109 q
              refine z_goto 71 135 rfl (by decide) ?_
              exact z_iret 75 rfl rfl rfl ⟨rfl, rfl⟩ ⟨_, rfl, B⟩
          · have B := B.2 c93
            refine z_aload_n 56 rfl rfl ?_
            refine z_iconst (v := 1) 57 rfl (by decide) ?_
            obtain ⟨o118, B⟩ := B
            obtain ⟨Q114, K116, B⟩ := B
            refine z_cVI1 (ν := mX3_wrong) 58 rfl rfl fX3_wrong gX3_79 ⟨_, rfl, rfl⟩ (by decide) o118 (Nat.le_of_ble_eq_true rfl) K116 (fun v117 h115 q => ?_)
            have B := B v117 h115 q
            exact z_iret 59 rfl rfl rfl ⟨rfl, rfl⟩ ⟨_, rfl, B⟩
    · have B := B.2 c7
      refine z_aload_n 35 rfl rfl ?_
      refine z_iconst (v := 1) 36 rfl (by decide) ?_
      obtain ⟨o125, B⟩ := B
      obtain ⟨Q121, K123, B⟩ := B
      refine z_cVI1 (ν := mX3_wrong) 37 rfl rfl fX3_wrong gX3_79 ⟨_, rfl, rfl⟩ (by decide) o125 (Nat.le_of_ble_eq_true rfl) K123 (fun v124 h122 q => ?_)
      have B := B v124 h122 q
      exact z_iret 38 rfl rfl rfl ⟨rfl, rfl⟩ ⟨_, rfl, B⟩
set_option maxRecDepth 100000 in
set_option maxHeartbeats 4000000 in
theorem sg_X3_putOff_0 {G : zG} {d : Nat} {h : zMem} {Q : Int32 → zMem → Prop} {a0 : Nat} {x1 : Int32} (B : zO h a0 3 ∧ ∃ r2, zR h a0 1 = some r2 ∧ zO h r2 100 ∧ ((zI h a0 3) < (nI (zLen h r2)) → vp_in (zI h a0 3) (zLen h r2) ∧ ∃ r6, zR h a0 2 = some r6 ∧ ∃ Q7 : Int32 → zMem → Prop, zConI G mX6_strength d [.int x1] (zsI h r2 (zI h a0 3).toNatClampNeg x1) Q7 ∧ (∀ v10 h8, Q7 v10 h8 → zO h8 r6 100 ∧ vp_in (zI (zsI h r2 (zI h a0 3).toNatClampNeg x1) a0 3) (zLen h8 r6) ∧ zO h8 a0 3 ∧ Q (0 : Int32) (zsI (zsI h8 r6 (zI (zsI h r2 (zI h a0 3).toNatClampNeg x1) a0 3).toNatClampNeg v10) a0 3 ((zI (zsI h8 r6 (zI (zsI h r2 (zI h a0 3).toNatClampNeg x1) a0 3).toNatClampNeg v10) a0 3) + (1 : Int32))))) ∧ (¬ (zI h a0 3) < (nI (zLen h r2)) → ∃ Q14 : Int32 → zMem → Prop, zConI G mX3_wrong d [.ref a0, .int (2 : Int32)] h Q14 ∧ (∀ v17 h15, Q14 v17 h15 → Q v17 h15))) : zg G mX3_putOff (d + 1) 0 [.ref a0, .int x1] [] h (zPI Q) := by
  refine z_aload_n 0 rfl rfl ?_
  obtain ⟨o1, B⟩ := B
  refine z_getI 1 rfl lX3_171 rfl o1 ?_
  refine z_aload_n 2 rfl rfl ?_
  obtain ⟨r2, hr2, B⟩ := B
  refine z_getR 3 rfl lX3_18 rfl o1 hr2 ?_
  obtain ⟨o3, B⟩ := B
  refine z_alen 4 rfl o3 (Or.inl rfl) ?_
  refine z_icmp_lt 5 18 rfl (by decide) ⟨fun c4 => ?_, fun c4 => ?_⟩
  · have B := B.1 c4
    refine z_aload_n 10 rfl rfl ?_
    refine z_getR 11 rfl lX3_18 rfl o1 hr2 ?_
    refine z_aload_n 12 rfl rfl ?_
    refine z_getI 13 rfl lX3_171 rfl o1 ?_
    refine z_iload_n 14 rfl rfl ?_
    obtain ⟨o5, B⟩ := B
    refine z_iast 15 rfl o3 o5 ?_
    refine z_aload_n 16 rfl rfl ?_
    obtain ⟨r6, hr6, B⟩ := B
    refine z_getR 17 rfl lX3_22 rfl o1 hr6 ?_
    refine z_aload_n 18 rfl rfl ?_
    refine z_getI 19 rfl lX3_171 rfl o1 ?_
    refine z_iload_n 20 rfl rfl ?_
    obtain ⟨Q7, K9, B⟩ := B
    refine z_cSI1 (ν := mX6_strength) 21 rfl rfl fX6_strength gX3_195 (Nat.le_of_ble_eq_true rfl) K9 (fun v10 h8 q => ?_)
    have B := B v10 h8 q
    obtain ⟨o11, B⟩ := B
    obtain ⟨o12, B⟩ := B
    refine z_iast 22 rfl o11 o12 ?_
    refine z_aload_n 23 rfl rfl ?_
    refine z_dup 24 rfl rfl ?_
    obtain ⟨o13, B⟩ := B
    refine z_getI 25 rfl lX3_171 rfl o13 ?_
    refine z_iconst (v := 1) 26 rfl (by decide) ?_
    refine z_iadd 27 rfl ?_
    refine z_putI 28 rfl lX3_171 ⟨_, _, _, rfl, rfl⟩ rfl rfl rfl o13 ?_
    refine z_iconst (v := 0) 29 rfl (by decide) ?_
    exact z_iret 30 rfl rfl rfl ⟨rfl, rfl⟩ ⟨_, rfl, B⟩
  · have B := B.2 c4
    refine z_aload_n 6 rfl rfl ?_
    refine z_iconst (v := 2) 7 rfl (by decide) ?_
    obtain ⟨Q14, K16, B⟩ := B
    refine z_cVI1 (ν := mX3_wrong) 8 rfl rfl fX3_wrong gX3_79 ⟨_, rfl, rfl⟩ (by decide) o1 (Nat.le_of_ble_eq_true rfl) K16 (fun v17 h15 q => ?_)
    have B := B v17 h15 q
    exact z_iret 9 rfl rfl rfl ⟨rfl, rfl⟩ ⟨_, rfl, B⟩
theorem cn_X3_putOff {G : zG} {d : Nat} {h : zMem} {Q : Int32 → zMem → Prop} {a0 : Nat} {x1 : Int32} (B : zg G mX3_putOff (d + 1) 0 [.ref a0, .int x1] [] h (zPI Q)) : zConI G mX3_putOff (d + 1) [.ref a0, .int x1] h Q := zcon0 (by decide +kernel) eX3_putOff (Nat.le_of_ble_eq_true rfl) rfl B
set_option maxRecDepth 100000 in
set_option maxHeartbeats 4000000 in
theorem sg_X3_topStrength_0 {G : zG} {d : Nat} {h : zMem} {Q : Int32 → zMem → Prop} {a0 : Nat} (B : zO h a0 3 ∧ (¬ (zI h a0 3) = 0 → ∃ r3, zR h a0 2 = some r3 ∧ zO h r3 100 ∧ vp_in ((zI h a0 3) - (1 : Int32)) (zLen h r3) ∧ Q (zI h r3 ((zI h a0 3) - (1 : Int32)).toNatClampNeg) h) ∧ ((zI h a0 3) = 0 → Q (0 : Int32) h)) : zg G mX3_topStrength d 0 [.ref a0] [] h (zPI Q) := by
  refine z_aload_n 0 rfl rfl ?_
  obtain ⟨o1, B⟩ := B
  refine z_getI 1 rfl lX3_171 rfl o1 ?_
  refine z_if_ne 2 11 rfl (by decide) ⟨fun c2 => ?_, fun c2 => ?_⟩
  · have B := B.1 c2
    refine z_aload_n 5 rfl rfl ?_
    obtain ⟨r3, hr3, B⟩ := B
    refine z_getR 6 rfl lX3_22 rfl o1 hr3 ?_
    refine z_aload_n 7 rfl rfl ?_
    refine z_getI 8 rfl lX3_171 rfl o1 ?_
    refine z_iconst (v := 1) 9 rfl (by decide) ?_
    refine z_isub 10 rfl ?_
    obtain ⟨o4, B⟩ := B
    obtain ⟨o5, B⟩ := B
    refine z_iald 11 rfl o4 o5 ?_
    exact z_iret 12 rfl rfl rfl ⟨rfl, rfl⟩ ⟨_, rfl, B⟩
  · have B := B.2 c2
    refine z_iconst (v := 0) 3 rfl (by decide) ?_
    refine z_goto 4 22 rfl (by decide) ?_
    exact z_iret 12 rfl rfl rfl ⟨rfl, rfl⟩ ⟨_, rfl, B⟩
theorem cn_X3_topStrength {G : zG} {d : Nat} {h : zMem} {Q : Int32 → zMem → Prop} {a0 : Nat} (B : zg G mX3_topStrength d 0 [.ref a0] [] h (zPI Q)) : zConI G mX3_topStrength d [.ref a0] h Q := zcon0 (by decide +kernel) eX3_topStrength (Nat.le_of_ble_eq_true rfl) rfl B
set_option maxRecDepth 100000 in
set_option maxHeartbeats 4000000 in
theorem sg_X3_settle_0 {G : zG} {d : Nat} {h : zMem} {Q : zMem → Prop} {a0 : Nat} {x1 : Int32} (B : zO h a0 3 ∧ ((zI h a0 3) ≤ 0 → Q h) ∧ (¬ (zI h a0 3) ≤ 0 → ∃ Q3 : Int32 → zMem → Prop, zConI G mX3_topStrength d [.ref a0] h Q3 ∧ (∀ v6 h4, Q3 v6 h4 → (v6 < x1 → Q h4) ∧ (¬ v6 < x1 → zO h4 a0 3 ∧ ∃ r9, zR h4 a0 6 = some r9 ∧ zO h4 r9 6 ∧ ∃ r11, zR h4 r9 8 = some r11 ∧ ∃ r12, zR h4 a0 1 = some r12 ∧ zO h4 r12 100 ∧ vp_in (zI (zsI h4 a0 3 ((zI h4 a0 3) - (1 : Int32))) a0 3) (zLen h4 r12) ∧ zO h4 r11 0 ∧ ∃ Q15 : zMem → Prop, zConV G mX0_append d [.ref r11, .int (zI (zsI h4 a0 3 ((zI h4 a0 3) - (1 : Int32))) r12 (zI (zsI h4 a0 3 ((zI h4 a0 3) - (1 : Int32))) a0 3).toNatClampNeg), .int (0 : Int32)] (zsI h4 a0 3 ((zI h4 a0 3) - (1 : Int32))) Q15 ∧ (∀ h16, Q15 h16 → zg G mX3_settle (d + 1) 0 [.ref a0, .int x1] [] h16 (zPV Q)))))) : zg G mX3_settle (d + 1) 0 [.ref a0, .int x1] [] h (zPV Q) := by
  refine z_aload_n 0 rfl rfl ?_
  obtain ⟨o1, B⟩ := B
  refine z_getI 1 rfl lX3_171 rfl o1 ?_
  refine z_if_le 2 48 rfl (by decide) ⟨fun c2 => ?_, fun c2 => ?_⟩
  · have B := B.1 c2
    exact z_vret 24 rfl rfl ⟨rfl, rfl⟩ ⟨rfl, B⟩
  · have B := B.2 c2
    refine z_aload_n 3 rfl rfl ?_
    obtain ⟨Q3, K5, B⟩ := B
    refine z_cVI0 (ν := mX3_topStrength) 4 rfl rfl fX3_topStrength gX3_192 ⟨_, rfl, rfl⟩ (by decide) o1 (Nat.le_of_ble_eq_true rfl) K5 (fun v6 h4 q => ?_)
    have B := B v6 h4 q
    refine z_iload_n 5 rfl rfl ?_
    refine z_icmp_lt 6 48 rfl (by decide) ⟨fun c7 => ?_, fun c7 => ?_⟩
    · have B := B.1 c7
      exact z_vret 24 rfl rfl ⟨rfl, rfl⟩ ⟨rfl, B⟩
    · have B := B.2 c7
      refine z_aload_n 7 rfl rfl ?_
      refine z_dup 8 rfl rfl ?_
      obtain ⟨o8, B⟩ := B
      refine z_getI 9 rfl lX3_171 rfl o8 ?_
      refine z_iconst (v := 1) 10 rfl (by decide) ?_
      refine z_isub 11 rfl ?_
      refine z_putI 12 rfl lX3_171 ⟨_, _, _, rfl, rfl⟩ rfl rfl rfl o8 ?_
      refine z_aload_n 13 rfl rfl ?_
      obtain ⟨r9, hr9, B⟩ := B
      refine z_getR 14 rfl lX3_28 rfl o8 hr9 ?_
      obtain ⟨o10, B⟩ := B
      obtain ⟨r11, hr11, B⟩ := B
      refine z_getR 15 rfl lX3_133 rfl o10 hr11 ?_
      refine z_aload_n 16 rfl rfl ?_
      obtain ⟨r12, hr12, B⟩ := B
      refine z_getR 17 rfl lX3_18 rfl o8 hr12 ?_
      refine z_aload_n 18 rfl rfl ?_
      refine z_getI 19 rfl lX3_171 rfl o8 ?_
      obtain ⟨o13, B⟩ := B
      obtain ⟨o14, B⟩ := B
      refine z_iald 20 rfl o13 o14 ?_
      refine z_iconst (v := 0) 21 rfl (by decide) ?_
      obtain ⟨o18, B⟩ := B
      obtain ⟨Q15, K17, B⟩ := B
      refine z_cVV2 (ν := mX0_append) 22 rfl rfl fX0_append gX3_202 ⟨_, rfl, rfl⟩ (by decide) o18 (Nat.le_of_ble_eq_true rfl) K17 (fun h16 q => ?_)
      have B := B h16 q
      refine z_goto 23 0 rfl (by decide) ?_
      exact B
theorem cn_X3_settle {G : zG} {d : Nat} {h : zMem} {Q : zMem → Prop} {a0 : Nat} {x1 : Int32} (B : zg G mX3_settle (d + 1) 0 [.ref a0, .int x1] [] h (zPV Q)) : zConV G mX3_settle (d + 1) [.ref a0, .int x1] h Q := zcon0 (by decide +kernel) eX3_settle (Nat.le_of_ble_eq_true rfl) rfl B
