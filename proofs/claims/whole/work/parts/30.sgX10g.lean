set_option maxRecDepth 100000 in
set_option maxHeartbeats 4000000 in
theorem sg_X10_law_0 {G : zG} {d : Nat} {h : zMem} {Q : Int64 → zMem → Prop} {a0 : Nat} {x1 : Int32} {x2 : Int32} {x3 : Int32} (B : zO h a0 9 ∧ (x1 < 0 → zg G mX10_law (d + 1) 22 [.ref a0, .int x1, .int x2, .int x3] [] (zsI h a0 0 (0 : Int32)) (zPL Q)) ∧ (¬ x1 < 0 → ((2 : Int32) < x1 → zg G mX10_law (d + 1) 22 [.ref a0, .int x1, .int x2, .int x3] [] (zsI h a0 0 (0 : Int32)) (zPL Q)) ∧ (¬ (2 : Int32) < x1 → ∃ Q4 : Int32 → zMem → Prop, zConI G mX10_hasLaw d [.ref a0, .int x1] (zsI h a0 0 (0 : Int32)) Q4 ∧ (∀ v7 h5, Q4 v7 h5 → (¬ v7 = 0 → (¬ x1 = 0 → zg G mX10_law (d + 1) 38 [.ref a0, .int x1, .int x2, .int x3] [] h5 (zPL Q)) ∧ (x1 = 0 → zO h5 a0 9 ∧ ∃ Q10 : Int32 → zMem → Prop, zConI G mX10_isRoom d [.ref a0, .int x2] h5 Q10 ∧ (∀ v13 h11, Q10 v13 h11 → (v13 = 0 → Q (-9223372036854775808 : Int64) h11) ∧ (¬ v13 = 0 → zg G mX10_law (d + 1) 38 [.ref a0, .int x1, .int x2, .int x3] [] h11 (zPL Q))))) ∧ (v7 = 0 → zg G mX10_law (d + 1) 22 [.ref a0, .int x1, .int x2, .int x3] [] h5 (zPL Q)))))) : zg G mX10_law (d + 1) 0 [.ref a0, .int x1, .int x2, .int x3] [] h (zPL Q) := by
  refine z_aload_n 0 rfl rfl ?_
  refine z_iconst (v := 0) 1 rfl (by decide) ?_
  obtain ⟨o1, B⟩ := B
  refine z_putI 2 rfl lX10_160 ⟨_, _, _, rfl, rfl⟩ rfl rfl rfl o1 ?_
  refine z_iload_n 3 rfl rfl ?_
  refine z_if_lt 4 22 rfl (by decide) ⟨fun c2 => ?_, fun c2 => ?_⟩
  · have B := B.1 c2
    exact B
  · have B := B.2 c2
    refine z_iload_n 5 rfl rfl ?_
    refine z_iconst (v := 2) 6 rfl (by decide) ?_
    refine z_icmp_gt 7 22 rfl (by decide) ⟨fun c3 => ?_, fun c3 => ?_⟩
    · have B := B.1 c3
      exact B
    · have B := B.2 c3
      refine z_aload_n 8 rfl rfl ?_
      refine z_iload_n 9 rfl rfl ?_
      obtain ⟨Q4, K6, B⟩ := B
      refine z_cVI1 (ν := mX10_hasLaw) 10 rfl rfl fX10_hasLaw gX10_355 ⟨_, rfl, rfl⟩ (by decide) o1 (Nat.le_of_ble_eq_true rfl) K6 (fun v7 h5 q => ?_)
      have B := B v7 h5 q
      refine z_if_ne 11 26 rfl (by decide) ⟨fun c8 => ?_, fun c8 => ?_⟩
      · have B := B.1 c8
        refine z_iload_n 14 rfl rfl ?_
        refine z_if_ne 15 38 rfl (by decide) ⟨fun c9 => ?_, fun c9 => ?_⟩
        · have B := B.1 c9
          exact B
        · have B := B.2 c9
          refine z_aload_n 16 rfl rfl ?_
          refine z_iload_n 17 rfl rfl ?_
          obtain ⟨o15, B⟩ := B
          obtain ⟨Q10, K12, B⟩ := B
          refine z_cVI1 (ν := mX10_isRoom) 18 rfl rfl fX10_isRoom gX10_427 ⟨_, rfl, rfl⟩ (by decide) o15 (Nat.le_of_ble_eq_true rfl) K12 (fun v13 h11 q => ?_)
          have B := B v13 h11 q
          refine z_if_eq 19 64 rfl (by decide) ⟨fun c14 => ?_, fun c14 => ?_⟩
          · have B := B.1 c14
            refine z_ldc2 34 rfl kX10_432 ?_
            exact z_lret 35 rfl rfl ⟨rfl, rfl⟩ ⟨_, rfl, B⟩
          · have B := B.2 c14
            exact B
      · have B := B.2 c8
        exact B
theorem cn_X10_law {G : zG} {d : Nat} {h : zMem} {Q : Int64 → zMem → Prop} {a0 : Nat} {x1 : Int32} {x2 : Int32} {x3 : Int32} (B : zg G mX10_law (d + 1) 0 [.ref a0, .int x1, .int x2, .int x3] [] h (zPL Q)) : zConL G mX10_law (d + 1) [.ref a0, .int x1, .int x2, .int x3] h Q := zcon0 (by decide +kernel) eX10_law (Nat.le_of_ble_eq_true rfl) rfl B
set_option maxRecDepth 100000 in
set_option maxHeartbeats 4000000 in
theorem sg_X10_law_22 {G : zG} {d : Nat} {h : zMem} {Q : Int64 → zMem → Prop} {a0 : Nat} {x1 : Int32} {x2 : Int32} {x3 : Int32} (B : Q (-9223372036854775808 : Int64) h) : zg G mX10_law (d + 1) 22 [.ref a0, .int x1, .int x2, .int x3] [] h (zPL Q) := by
  refine z_ldc2 12 rfl kX10_432 ?_
  exact z_lret 13 rfl rfl ⟨rfl, rfl⟩ ⟨_, rfl, B⟩
set_option maxRecDepth 100000 in
set_option maxHeartbeats 4000000 in
theorem sg_X10_law_38 {G : zG} {d : Nat} {h : zMem} {Q : Int64 → zMem → Prop} {a0 : Nat} {x1 : Int32} {x2 : Int32} {x3 : Int32} (B : (¬ x1 = (1 : Int32) → zg G mX10_law (d + 1) 51 [.ref a0, .int x1, .int x2, .int x3] [] h (zPL Q)) ∧ (x1 = (1 : Int32) → zO h a0 9 ∧ ∃ Q2 : Int32 → zMem → Prop, zConI G mX10_isMonk d [.ref a0, .int x2] h Q2 ∧ (∀ v5 h3, Q2 v5 h3 → (v5 = 0 → Q (-9223372036854775808 : Int64) h3) ∧ (¬ v5 = 0 → zg G mX10_law (d + 1) 51 [.ref a0, .int x1, .int x2, .int x3] [] h3 (zPL Q))))) : zg G mX10_law (d + 1) 38 [.ref a0, .int x1, .int x2, .int x3] [] h (zPL Q) := by
  refine z_iload_n 20 rfl rfl ?_
  refine z_iconst (v := 1) 21 rfl (by decide) ?_
  refine z_icmp_ne 22 51 rfl (by decide) ⟨fun c1 => ?_, fun c1 => ?_⟩
  · have B := B.1 c1
    exact B
  · have B := B.2 c1
    refine z_aload_n 23 rfl rfl ?_
    refine z_iload_n 24 rfl rfl ?_
    obtain ⟨o7, B⟩ := B
    obtain ⟨Q2, K4, B⟩ := B
    refine z_cVI1 (ν := mX10_isMonk) 25 rfl rfl fX10_isMonk gX10_415 ⟨_, rfl, rfl⟩ (by decide) o7 (Nat.le_of_ble_eq_true rfl) K4 (fun v5 h3 q => ?_)
    have B := B v5 h3 q
    refine z_if_eq 26 64 rfl (by decide) ⟨fun c6 => ?_, fun c6 => ?_⟩
    · have B := B.1 c6
      refine z_ldc2 34 rfl kX10_432 ?_
      exact z_lret 35 rfl rfl ⟨rfl, rfl⟩ ⟨_, rfl, B⟩
    · have B := B.2 c6
      exact B
set_option maxRecDepth 100000 in
set_option maxHeartbeats 4000000 in
theorem sg_X10_law_51 {G : zG} {d : Nat} {h : zMem} {Q : Int64 → zMem → Prop} {a0 : Nat} {x1 : Int32} {x2 : Int32} {x3 : Int32} (B : (x1 = (1 : Int32) → (¬ x1 = 0 → (¬ x1 = (1 : Int32) → zO h a0 9 ∧ ∃ r5, zR h a0 39 = some r5 ∧ zO h r5 100 ∧ vp_in x3 (zLen h r5) ∧ ∃ Q8 : zMem → Prop, zConV G mX10_calls d [.ref a0, .int (0 : Int32), .int (zI h r5 x3.toNatClampNeg), .int (0 : Int32), .int (0 : Int32), .int (0 : Int32), .int (0 : Int32), .int (0 : Int32)] h Q8 ∧ (∀ h9, Q8 h9 → zO h9 a0 9 ∧ ∃ Q11 : Int32 → zMem → Prop, zConI G mX10_comesOut d [.ref a0, .int x1] h9 Q11 ∧ (∀ v14 h12, Q11 v14 h12 → (v14 = 0 → Q (-9223372036854775808 : Int64) h12) ∧ (¬ v14 = 0 → zO h12 a0 9 ∧ ∃ r17, zR h12 a0 32 = some r17 ∧ zO h12 r17 101 ∧ vp_in (0 : Int32) (zLen h12 r17) ∧ Q (zL h12 r17 (0 : Int32).toNatClampNeg) h12)))) ∧ (x1 = (1 : Int32) → zO h a0 9 ∧ ∃ r22, zR h a0 42 = some r22 ∧ zO h r22 100 ∧ vp_in x2 (zLen h r22) ∧ ∃ Q25 : Int32 → zMem → Prop, zConI G mX10_partIn d [.ref a0, .int (zI h r22 x2.toNatClampNeg)] h Q25 ∧ (∀ v28 h26, Q25 v28 h26 → zO h26 a0 9 ∧ ∃ r30, zR h26 a0 42 = some r30 ∧ zO h26 r30 100 ∧ vp_in x2 (zLen h26 r30) ∧ ∃ r33, zR h26 a0 13 = some r33 ∧ zO h26 r33 100 ∧ vp_in x2 (zLen h26 r33) ∧ ∃ Q36 : zMem → Prop, zConV G mX10_calls d [.ref a0, .int (0 : Int32), .int (0 : Int32), .int v28, .int (0 : Int32), .int (0 : Int32), .int (zI h26 r30 x2.toNatClampNeg), .int (zI h26 r33 x2.toNatClampNeg)] h26 Q36 ∧ (∀ h37, Q36 h37 → zO h37 a0 9 ∧ ∃ Q39 : Int32 → zMem → Prop, zConI G mX10_comesOut d [.ref a0, .int x1] h37 Q39 ∧ (∀ v42 h40, Q39 v42 h40 → (v42 = 0 → Q (-9223372036854775808 : Int64) h40) ∧ (¬ v42 = 0 → zO h40 a0 9 ∧ ∃ r45, zR h40 a0 32 = some r45 ∧ zO h40 r45 101 ∧ vp_in (0 : Int32) (zLen h40 r45) ∧ Q (zL h40 r45 (0 : Int32).toNatClampNeg) h40)))))) ∧ (x1 = 0 → zO h a0 9 ∧ ∃ Q49 : Int32 → zMem → Prop, zConI G mX10_partIn d [.ref a0, .int x2] h Q49 ∧ (∀ v52 h50, Q49 v52 h50 → zO h50 a0 9 ∧ ∃ r54, zR h50 a0 41 = some r54 ∧ zO h50 r54 100 ∧ vp_in (((6 : Int32) * x2) + x3) (zLen h50 r54) ∧ ∃ r57, zR h50 a0 40 = some r57 ∧ zO h50 r57 100 ∧ vp_in x3 (zLen h50 r57) ∧ ∃ Q60 : zMem → Prop, zConV G mX10_calls d [.ref a0, .int (0 : Int32), .int (0 : Int32), .int v52, .int (zI h50 r54 (((6 : Int32) * x2) + x3).toNatClampNeg), .int (zI h50 r57 x3.toNatClampNeg), .int x2, .int (0 : Int32)] h50 Q60 ∧ (∀ h61, Q60 h61 → zO h61 a0 9 ∧ ∃ Q63 : Int32 → zMem → Prop, zConI G mX10_comesOut d [.ref a0, .int x1] h61 Q63 ∧ (∀ v66 h64, Q63 v66 h64 → (v66 = 0 → Q (-9223372036854775808 : Int64) h64) ∧ (¬ v66 = 0 → zO h64 a0 9 ∧ ∃ r69, zR h64 a0 32 = some r69 ∧ zO h64 r69 101 ∧ vp_in (0 : Int32) (zLen h64 r69) ∧ Q (zL h64 r69 (0 : Int32).toNatClampNeg) h64)))))) ∧ (¬ x1 = (1 : Int32) → zO h a0 9 ∧ ∃ Q74 : Int32 → zMem → Prop, zConI G mX10_isStuff d [.ref a0, .int x3] h Q74 ∧ (∀ v77 h75, Q74 v77 h75 → (¬ v77 = 0 → (¬ x1 = 0 → (¬ x1 = (1 : Int32) → zO h75 a0 9 ∧ ∃ r82, zR h75 a0 39 = some r82 ∧ zO h75 r82 100 ∧ vp_in x3 (zLen h75 r82) ∧ ∃ Q85 : zMem → Prop, zConV G mX10_calls d [.ref a0, .int (0 : Int32), .int (zI h75 r82 x3.toNatClampNeg), .int (0 : Int32), .int (0 : Int32), .int (0 : Int32), .int (0 : Int32), .int (0 : Int32)] h75 Q85 ∧ (∀ h86, Q85 h86 → zO h86 a0 9 ∧ ∃ Q88 : Int32 → zMem → Prop, zConI G mX10_comesOut d [.ref a0, .int x1] h86 Q88 ∧ (∀ v91 h89, Q88 v91 h89 → (v91 = 0 → Q (-9223372036854775808 : Int64) h89) ∧ (¬ v91 = 0 → zO h89 a0 9 ∧ ∃ r94, zR h89 a0 32 = some r94 ∧ zO h89 r94 101 ∧ vp_in (0 : Int32) (zLen h89 r94) ∧ Q (zL h89 r94 (0 : Int32).toNatClampNeg) h89)))) ∧ (x1 = (1 : Int32) → zO h75 a0 9 ∧ ∃ r99, zR h75 a0 42 = some r99 ∧ zO h75 r99 100 ∧ vp_in x2 (zLen h75 r99) ∧ ∃ Q102 : Int32 → zMem → Prop, zConI G mX10_partIn d [.ref a0, .int (zI h75 r99 x2.toNatClampNeg)] h75 Q102 ∧ (∀ v105 h103, Q102 v105 h103 → zO h103 a0 9 ∧ ∃ r107, zR h103 a0 42 = some r107 ∧ zO h103 r107 100 ∧ vp_in x2 (zLen h103 r107) ∧ ∃ r110, zR h103 a0 13 = some r110 ∧ zO h103 r110 100 ∧ vp_in x2 (zLen h103 r110) ∧ ∃ Q113 : zMem → Prop, zConV G mX10_calls d [.ref a0, .int (0 : Int32), .int (0 : Int32), .int v105, .int (0 : Int32), .int (0 : Int32), .int (zI h103 r107 x2.toNatClampNeg), .int (zI h103 r110 x2.toNatClampNeg)] h103 Q113 ∧ (∀ h114, Q113 h114 → zO h114 a0 9 ∧ ∃ Q116 : Int32 → zMem → Prop, zConI G mX10_comesOut d [.ref a0, .int x1] h114 Q116 ∧ (∀ v119 h117, Q116 v119 h117 → (v119 = 0 → Q (-9223372036854775808 : Int64) h117) ∧ (¬ v119 = 0 → zO h117 a0 9 ∧ ∃ r122, zR h117 a0 32 = some r122 ∧ zO h117 r122 101 ∧ vp_in (0 : Int32) (zLen h117 r122) ∧ Q (zL h117 r122 (0 : Int32).toNatClampNeg) h117)))))) ∧ (x1 = 0 → zO h75 a0 9 ∧ ∃ Q126 : Int32 → zMem → Prop, zConI G mX10_partIn d [.ref a0, .int x2] h75 Q126 ∧ (∀ v129 h127, Q126 v129 h127 → zO h127 a0 9 ∧ ∃ r131, zR h127 a0 41 = some r131 ∧ zO h127 r131 100 ∧ vp_in (((6 : Int32) * x2) + x3) (zLen h127 r131) ∧ ∃ r134, zR h127 a0 40 = some r134 ∧ zO h127 r134 100 ∧ vp_in x3 (zLen h127 r134) ∧ ∃ Q137 : zMem → Prop, zConV G mX10_calls d [.ref a0, .int (0 : Int32), .int (0 : Int32), .int v129, .int (zI h127 r131 (((6 : Int32) * x2) + x3).toNatClampNeg), .int (zI h127 r134 x3.toNatClampNeg), .int x2, .int (0 : Int32)] h127 Q137 ∧ (∀ h138, Q137 h138 → zO h138 a0 9 ∧ ∃ Q140 : Int32 → zMem → Prop, zConI G mX10_comesOut d [.ref a0, .int x1] h138 Q140 ∧ (∀ v143 h141, Q140 v143 h141 → (v143 = 0 → Q (-9223372036854775808 : Int64) h141) ∧ (¬ v143 = 0 → zO h141 a0 9 ∧ ∃ r146, zR h141 a0 32 = some r146 ∧ zO h141 r146 101 ∧ vp_in (0 : Int32) (zLen h141 r146) ∧ Q (zL h141 r146 (0 : Int32).toNatClampNeg) h141)))))) ∧ (v77 = 0 → Q (-9223372036854775808 : Int64) h75)))) : zg G mX10_law (d + 1) 51 [.ref a0, .int x1, .int x2, .int x3] [] h (zPL Q) := by
  refine z_iload_n 27 rfl rfl ?_
  refine z_iconst (v := 1) 28 rfl (by decide) ?_
  refine z_icmp_eq 29 68 rfl (by decide) ⟨fun c1 => ?_, fun c1 => ?_⟩
  · have B := B.1 c1
    refine z_iload_n 36 rfl rfl ?_
    refine z_if_ne 37 105 rfl (by decide) ⟨fun c2 => ?_, fun c2 => ?_⟩
    · have B := B.1 c2
      refine z_iload_n 60 rfl rfl ?_
      refine z_iconst (v := 1) 61 rfl (by decide) ?_
      refine z_icmp_ne 62 143 rfl (by decide) ⟨fun c3 => ?_, fun c3 => ?_⟩
      · have B := B.1 c3
        refine z_aload_n 84 rfl rfl ?_
        refine z_iconst (v := 0) 85 rfl (by decide) ?_
        refine z_aload_n 86 rfl rfl ?_
        obtain ⟨o4, B⟩ := B
        obtain ⟨r5, hr5, B⟩ := B
        refine z_getR 87 rfl lX10_84 rfl o4 hr5 ?_
        refine z_iload_n 88 rfl rfl ?_
        obtain ⟨o6, B⟩ := B
        obtain ⟨o7, B⟩ := B
        refine z_iald 89 rfl o6 o7 ?_
        refine z_iconst (v := 0) 90 rfl (by decide) ?_
        refine z_iconst (v := 0) 91 rfl (by decide) ?_
        refine z_iconst (v := 0) 92 rfl (by decide) ?_
        refine z_iconst (v := 0) 93 rfl (by decide) ?_
        refine z_iconst (v := 0) 94 rfl (by decide) ?_
        obtain ⟨Q8, K10, B⟩ := B
        refine z_cVV7 (ν := mX10_calls) 95 rfl rfl fX10_calls gX10_371 ⟨_, rfl, rfl⟩ (by decide) o4 (Nat.le_of_ble_eq_true rfl) K10 (fun h9 q => ?_)
        have B := B h9 q
        refine z_aload_n 96 rfl rfl ?_
        refine z_iload_n 97 rfl rfl ?_
        obtain ⟨o20, B⟩ := B
        obtain ⟨Q11, K13, B⟩ := B
        refine z_cVI1 (ν := mX10_comesOut) 98 rfl rfl fX10_comesOut gX10_358 ⟨_, rfl, rfl⟩ (by decide) o20 (Nat.le_of_ble_eq_true rfl) K13 (fun v14 h12 q => ?_)
        have B := B v14 h12 q
        refine z_if_eq 99 176 rfl (by decide) ⟨fun c15 => ?_, fun c15 => ?_⟩
        · have B := B.1 c15
          refine z_ldc2 105 rfl kX10_432 ?_
          exact z_lret 106 rfl rfl ⟨rfl, rfl⟩ ⟨_, rfl, B⟩
        · have B := B.2 c15
          refine z_aload_n 100 rfl rfl ?_
          obtain ⟨o16, B⟩ := B
          obtain ⟨r17, hr17, B⟩ := B
          refine z_getR 101 rfl lX10_66 rfl o16 hr17 ?_
          refine z_iconst (v := 0) 102 rfl (by decide) ?_
          obtain ⟨o18, B⟩ := B
          obtain ⟨o19, B⟩ := B
          refine z_lald 103 rfl o18 o19 ?_
          refine z_goto 104 179 rfl (by decide) ?_
          exact z_lret 106 rfl rfl ⟨rfl, rfl⟩ ⟨_, rfl, B⟩
      · have B := B.2 c3
        refine z_aload_n 63 rfl rfl ?_
        refine z_iconst (v := 0) 64 rfl (by decide) ?_
        refine z_iconst (v := 0) 65 rfl (by decide) ?_
        refine z_aload_n 66 rfl rfl ?_
        refine z_aload_n 67 rfl rfl ?_
        obtain ⟨o21, B⟩ := B
        obtain ⟨r22, hr22, B⟩ := B
        refine z_getR 68 rfl lX10_93 rfl o21 hr22 ?_
        refine z_iload_n 69 rfl rfl ?_
        obtain ⟨o23, B⟩ := B
        obtain ⟨o24, B⟩ := B
        refine z_iald 70 rfl o23 o24 ?_
        obtain ⟨Q25, K27, B⟩ := B
        refine z_cVI1 (ν := mX10_partIn) 71 rfl rfl fX10_partIn gX10_368 ⟨_, rfl, rfl⟩ (by decide) o21 (Nat.le_of_ble_eq_true rfl) K27 (fun v28 h26 q => ?_)
        have B := B v28 h26 q
        refine z_iconst (v := 0) 72 rfl (by decide) ?_
        refine z_iconst (v := 0) 73 rfl (by decide) ?_
        refine z_aload_n 74 rfl rfl ?_
        obtain ⟨o29, B⟩ := B
        obtain ⟨r30, hr30, B⟩ := B
        refine z_getR 75 rfl lX10_93 rfl o29 hr30 ?_
        refine z_iload_n 76 rfl rfl ?_
        obtain ⟨o31, B⟩ := B
        obtain ⟨o32, B⟩ := B
        refine z_iald 77 rfl o31 o32 ?_
        refine z_aload_n 78 rfl rfl ?_
        obtain ⟨r33, hr33, B⟩ := B
        refine z_getR 79 rfl lX10_43 rfl o29 hr33 ?_
        refine z_iload_n 80 rfl rfl ?_
        obtain ⟨o34, B⟩ := B
        obtain ⟨o35, B⟩ := B
        refine z_iald 81 rfl o34 o35 ?_
        obtain ⟨Q36, K38, B⟩ := B
        refine z_cVV7 (ν := mX10_calls) 82 rfl rfl fX10_calls gX10_371 ⟨_, rfl, rfl⟩ (by decide) o29 (Nat.le_of_ble_eq_true rfl) K38 (fun h37 q => ?_)
        have B := B h37 q
        refine z_goto 83 159 rfl (by decide) ?_
        refine z_aload_n 96 rfl rfl ?_
        refine z_iload_n 97 rfl rfl ?_
        obtain ⟨o48, B⟩ := B
        obtain ⟨Q39, K41, B⟩ := B
        refine z_cVI1 (ν := mX10_comesOut) 98 rfl rfl fX10_comesOut gX10_358 ⟨_, rfl, rfl⟩ (by decide) o48 (Nat.le_of_ble_eq_true rfl) K41 (fun v42 h40 q => ?_)
        have B := B v42 h40 q
        refine z_if_eq 99 176 rfl (by decide) ⟨fun c43 => ?_, fun c43 => ?_⟩
        · have B := B.1 c43
          refine z_ldc2 105 rfl kX10_432 ?_
          exact z_lret 106 rfl rfl ⟨rfl, rfl⟩ ⟨_, rfl, B⟩
        · have B := B.2 c43
          refine z_aload_n 100 rfl rfl ?_
          obtain ⟨o44, B⟩ := B
          obtain ⟨r45, hr45, B⟩ := B
          refine z_getR 101 rfl lX10_66 rfl o44 hr45 ?_
          refine z_iconst (v := 0) 102 rfl (by decide) ?_
          obtain ⟨o46, B⟩ := B
          obtain ⟨o47, B⟩ := B
          refine z_lald 103 rfl o46 o47 ?_
          refine z_goto 104 179 rfl (by decide) ?_
          exact z_lret 106 rfl rfl ⟨rfl, rfl⟩ ⟨_, rfl, B⟩
    · have B := B.2 c2
      refine z_aload_n 38 rfl rfl ?_
      refine z_iconst (v := 0) 39 rfl (by decide) ?_
      refine z_iconst (v := 0) 40 rfl (by decide) ?_
      refine z_aload_n 41 rfl rfl ?_
      refine z_iload_n 42 rfl rfl ?_
      obtain ⟨o73, B⟩ := B
      obtain ⟨Q49, K51, B⟩ := B
      refine z_cVI1 (ν := mX10_partIn) 43 rfl rfl fX10_partIn gX10_368 ⟨_, rfl, rfl⟩ (by decide) o73 (Nat.le_of_ble_eq_true rfl) K51 (fun v52 h50 q => ?_)
      have B := B v52 h50 q
      refine z_aload_n 44 rfl rfl ?_
      obtain ⟨o53, B⟩ := B
      obtain ⟨r54, hr54, B⟩ := B
      refine z_getR 45 rfl lX10_90 rfl o53 hr54 ?_
      refine z_bipush (v := 6) 46 rfl (by decide) ?_
      refine z_iload_n 47 rfl rfl ?_
      refine z_imul 48 rfl ?_
      refine z_iload_n 49 rfl rfl ?_
      refine z_iadd 50 rfl ?_
      obtain ⟨o55, B⟩ := B
      obtain ⟨o56, B⟩ := B
      refine z_iald 51 rfl o55 o56 ?_
      refine z_aload_n 52 rfl rfl ?_
      obtain ⟨r57, hr57, B⟩ := B
      refine z_getR 53 rfl lX10_87 rfl o53 hr57 ?_
      refine z_iload_n 54 rfl rfl ?_
      obtain ⟨o58, B⟩ := B
      obtain ⟨o59, B⟩ := B
      refine z_iald 55 rfl o58 o59 ?_
      refine z_iload_n 56 rfl rfl ?_
      refine z_iconst (v := 0) 57 rfl (by decide) ?_
      obtain ⟨Q60, K62, B⟩ := B
      refine z_cVV7 (ν := mX10_calls) 58 rfl rfl fX10_calls gX10_371 ⟨_, rfl, rfl⟩ (by decide) o53 (Nat.le_of_ble_eq_true rfl) K62 (fun h61 q => ?_)
      have B := B h61 q
      refine z_goto 59 159 rfl (by decide) ?_
      refine z_aload_n 96 rfl rfl ?_
      refine z_iload_n 97 rfl rfl ?_
      obtain ⟨o72, B⟩ := B
      obtain ⟨Q63, K65, B⟩ := B
      refine z_cVI1 (ν := mX10_comesOut) 98 rfl rfl fX10_comesOut gX10_358 ⟨_, rfl, rfl⟩ (by decide) o72 (Nat.le_of_ble_eq_true rfl) K65 (fun v66 h64 q => ?_)
      have B := B v66 h64 q
      refine z_if_eq 99 176 rfl (by decide) ⟨fun c67 => ?_, fun c67 => ?_⟩
      · have B := B.1 c67
        refine z_ldc2 105 rfl kX10_432 ?_
        exact z_lret 106 rfl rfl ⟨rfl, rfl⟩ ⟨_, rfl, B⟩
      · have B := B.2 c67
        refine z_aload_n 100 rfl rfl ?_
        obtain ⟨o68, B⟩ := B
        obtain ⟨r69, hr69, B⟩ := B
        refine z_getR 101 rfl lX10_66 rfl o68 hr69 ?_
        refine z_iconst (v := 0) 102 rfl (by decide) ?_
        obtain ⟨o70, B⟩ := B
        obtain ⟨o71, B⟩ := B
        refine z_lald 103 rfl o70 o71 ?_
        refine z_goto 104 179 rfl (by decide) ?_
        exact z_lret 106 rfl rfl ⟨rfl, rfl⟩ ⟨_, rfl, B⟩
  · have B := B.2 c1
    refine z_aload_n 30 rfl rfl ?_
    refine z_iload_n 31 rfl rfl ?_
    obtain ⟨o151, B⟩ := B
    obtain ⟨Q74, K76, B⟩ := B
    refine z_cVI1 (ν := mX10_isStuff) 32 rfl rfl fX10_isStuff gX10_418 ⟨_, rfl, rfl⟩ (by decide) o151 (Nat.le_of_ble_eq_true rfl) K76 (fun v77 h75 q => ?_)
    have B := B v77 h75 q
    refine z_if_ne 33 68 rfl (by decide) ⟨fun c78 => ?_, fun c78 => ?_⟩
    · have B := B.1 c78
      refine z_iload_n 36 rfl rfl ?_
      refine z_if_ne 37 105 rfl (by decide) ⟨fun c79 => ?_, fun c79 => ?_⟩
      · have B := B.1 c79
        refine z_iload_n 60 rfl rfl ?_
        refine z_iconst (v := 1) 61 rfl (by decide) ?_
        refine z_icmp_ne 62 143 rfl (by decide) ⟨fun c80 => ?_, fun c80 => ?_⟩
        · have B := B.1 c80
          refine z_aload_n 84 rfl rfl ?_
          refine z_iconst (v := 0) 85 rfl (by decide) ?_
          refine z_aload_n 86 rfl rfl ?_
          obtain ⟨o81, B⟩ := B
          obtain ⟨r82, hr82, B⟩ := B
          refine z_getR 87 rfl lX10_84 rfl o81 hr82 ?_
          refine z_iload_n 88 rfl rfl ?_
          obtain ⟨o83, B⟩ := B
          obtain ⟨o84, B⟩ := B
          refine z_iald 89 rfl o83 o84 ?_
          refine z_iconst (v := 0) 90 rfl (by decide) ?_
          refine z_iconst (v := 0) 91 rfl (by decide) ?_
          refine z_iconst (v := 0) 92 rfl (by decide) ?_
          refine z_iconst (v := 0) 93 rfl (by decide) ?_
          refine z_iconst (v := 0) 94 rfl (by decide) ?_
          obtain ⟨Q85, K87, B⟩ := B
          refine z_cVV7 (ν := mX10_calls) 95 rfl rfl fX10_calls gX10_371 ⟨_, rfl, rfl⟩ (by decide) o81 (Nat.le_of_ble_eq_true rfl) K87 (fun h86 q => ?_)
          have B := B h86 q
          refine z_aload_n 96 rfl rfl ?_
          refine z_iload_n 97 rfl rfl ?_
          obtain ⟨o97, B⟩ := B
          obtain ⟨Q88, K90, B⟩ := B
          refine z_cVI1 (ν := mX10_comesOut) 98 rfl rfl fX10_comesOut gX10_358 ⟨_, rfl, rfl⟩ (by decide) o97 (Nat.le_of_ble_eq_true rfl) K90 (fun v91 h89 q => ?_)
          have B := B v91 h89 q
          refine z_if_eq 99 176 rfl (by decide) ⟨fun c92 => ?_, fun c92 => ?_⟩
          · have B := B.1 c92
            refine z_ldc2 105 rfl kX10_432 ?_
            exact z_lret 106 rfl rfl ⟨rfl, rfl⟩ ⟨_, rfl, B⟩
          · have B := B.2 c92
            refine z_aload_n 100 rfl rfl ?_
            obtain ⟨o93, B⟩ := B
            obtain ⟨r94, hr94, B⟩ := B
            refine z_getR 101 rfl lX10_66 rfl o93 hr94 ?_
            refine z_iconst (v := 0) 102 rfl (by decide) ?_
            obtain ⟨o95, B⟩ := B
            obtain ⟨o96, B⟩ := B
            refine z_lald 103 rfl o95 o96 ?_
            refine z_goto 104 179 rfl (by decide) ?_
            exact z_lret 106 rfl rfl ⟨rfl, rfl⟩ ⟨_, rfl, B⟩
        · have B := B.2 c80
          refine z_aload_n 63 rfl rfl ?_
          refine z_iconst (v := 0) 64 rfl (by decide) ?_
          refine z_iconst (v := 0) 65 rfl (by decide) ?_
          refine z_aload_n 66 rfl rfl ?_
          refine z_aload_n 67 rfl rfl ?_
          obtain ⟨o98, B⟩ := B
          obtain ⟨r99, hr99, B⟩ := B
          refine z_getR 68 rfl lX10_93 rfl o98 hr99 ?_
          refine z_iload_n 69 rfl rfl ?_
          obtain ⟨o100, B⟩ := B
          obtain ⟨o101, B⟩ := B
          refine z_iald 70 rfl o100 o101 ?_
          obtain ⟨Q102, K104, B⟩ := B
          refine z_cVI1 (ν := mX10_partIn) 71 rfl rfl fX10_partIn gX10_368 ⟨_, rfl, rfl⟩ (by decide) o98 (Nat.le_of_ble_eq_true rfl) K104 (fun v105 h103 q => ?_)
          have B := B v105 h103 q
          refine z_iconst (v := 0) 72 rfl (by decide) ?_
          refine z_iconst (v := 0) 73 rfl (by decide) ?_
          refine z_aload_n 74 rfl rfl ?_
          obtain ⟨o106, B⟩ := B
          obtain ⟨r107, hr107, B⟩ := B
          refine z_getR 75 rfl lX10_93 rfl o106 hr107 ?_
          refine z_iload_n 76 rfl rfl ?_
          obtain ⟨o108, B⟩ := B
          obtain ⟨o109, B⟩ := B
          refine z_iald 77 rfl o108 o109 ?_
          refine z_aload_n 78 rfl rfl ?_
          obtain ⟨r110, hr110, B⟩ := B
          refine z_getR 79 rfl lX10_43 rfl o106 hr110 ?_
          refine z_iload_n 80 rfl rfl ?_
          obtain ⟨o111, B⟩ := B
          obtain ⟨o112, B⟩ := B
          refine z_iald 81 rfl o111 o112 ?_
          obtain ⟨Q113, K115, B⟩ := B
          refine z_cVV7 (ν := mX10_calls) 82 rfl rfl fX10_calls gX10_371 ⟨_, rfl, rfl⟩ (by decide) o106 (Nat.le_of_ble_eq_true rfl) K115 (fun h114 q => ?_)
          have B := B h114 q
          refine z_goto 83 159 rfl (by decide) ?_
          refine z_aload_n 96 rfl rfl ?_
          refine z_iload_n 97 rfl rfl ?_
          obtain ⟨o125, B⟩ := B
          obtain ⟨Q116, K118, B⟩ := B
          refine z_cVI1 (ν := mX10_comesOut) 98 rfl rfl fX10_comesOut gX10_358 ⟨_, rfl, rfl⟩ (by decide) o125 (Nat.le_of_ble_eq_true rfl) K118 (fun v119 h117 q => ?_)
          have B := B v119 h117 q
          refine z_if_eq 99 176 rfl (by decide) ⟨fun c120 => ?_, fun c120 => ?_⟩
          · have B := B.1 c120
            refine z_ldc2 105 rfl kX10_432 ?_
            exact z_lret 106 rfl rfl ⟨rfl, rfl⟩ ⟨_, rfl, B⟩
          · have B := B.2 c120
            refine z_aload_n 100 rfl rfl ?_
            obtain ⟨o121, B⟩ := B
            obtain ⟨r122, hr122, B⟩ := B
            refine z_getR 101 rfl lX10_66 rfl o121 hr122 ?_
            refine z_iconst (v := 0) 102 rfl (by decide) ?_
            obtain ⟨o123, B⟩ := B
            obtain ⟨o124, B⟩ := B
            refine z_lald 103 rfl o123 o124 ?_
            refine z_goto 104 179 rfl (by decide) ?_
            exact z_lret 106 rfl rfl ⟨rfl, rfl⟩ ⟨_, rfl, B⟩
      · have B := B.2 c79
        refine z_aload_n 38 rfl rfl ?_
        refine z_iconst (v := 0) 39 rfl (by decide) ?_
        refine z_iconst (v := 0) 40 rfl (by decide) ?_
        refine z_aload_n 41 rfl rfl ?_
        refine z_iload_n 42 rfl rfl ?_
        obtain ⟨o150, B⟩ := B
        obtain ⟨Q126, K128, B⟩ := B
        refine z_cVI1 (ν := mX10_partIn) 43 rfl rfl fX10_partIn gX10_368 ⟨_, rfl, rfl⟩ (by decide) o150 (Nat.le_of_ble_eq_true rfl) K128 (fun v129 h127 q => ?_)
        have B := B v129 h127 q
        refine z_aload_n 44 rfl rfl ?_
        obtain ⟨o130, B⟩ := B
        obtain ⟨r131, hr131, B⟩ := B
        refine z_getR 45 rfl lX10_90 rfl o130 hr131 ?_
        refine z_bipush (v := 6) 46 rfl (by decide) ?_
        refine z_iload_n 47 rfl rfl ?_
        refine z_imul 48 rfl ?_
        refine z_iload_n 49 rfl rfl ?_
        refine z_iadd 50 rfl ?_
        obtain ⟨o132, B⟩ := B
        obtain ⟨o133, B⟩ := B
        refine z_iald 51 rfl o132 o133 ?_
        refine z_aload_n 52 rfl rfl ?_
        obtain ⟨r134, hr134, B⟩ := B
        refine z_getR 53 rfl lX10_87 rfl o130 hr134 ?_
        refine z_iload_n 54 rfl rfl ?_
        obtain ⟨o135, B⟩ := B
        obtain ⟨o136, B⟩ := B
        refine z_iald 55 rfl o135 o136 ?_
        refine z_iload_n 56 rfl rfl ?_
        refine z_iconst (v := 0) 57 rfl (by decide) ?_
        obtain ⟨Q137, K139, B⟩ := B
        refine z_cVV7 (ν := mX10_calls) 58 rfl rfl fX10_calls gX10_371 ⟨_, rfl, rfl⟩ (by decide) o130 (Nat.le_of_ble_eq_true rfl) K139 (fun h138 q => ?_)
        have B := B h138 q
        refine z_goto 59 159 rfl (by decide) ?_
        refine z_aload_n 96 rfl rfl ?_
        refine z_iload_n 97 rfl rfl ?_
        obtain ⟨o149, B⟩ := B
        obtain ⟨Q140, K142, B⟩ := B
        refine z_cVI1 (ν := mX10_comesOut) 98 rfl rfl fX10_comesOut gX10_358 ⟨_, rfl, rfl⟩ (by decide) o149 (Nat.le_of_ble_eq_true rfl) K142 (fun v143 h141 q => ?_)
        have B := B v143 h141 q
        refine z_if_eq 99 176 rfl (by decide) ⟨fun c144 => ?_, fun c144 => ?_⟩
        · have B := B.1 c144
          refine z_ldc2 105 rfl kX10_432 ?_
          exact z_lret 106 rfl rfl ⟨rfl, rfl⟩ ⟨_, rfl, B⟩
        · have B := B.2 c144
          refine z_aload_n 100 rfl rfl ?_
          obtain ⟨o145, B⟩ := B
          obtain ⟨r146, hr146, B⟩ := B
          refine z_getR 101 rfl lX10_66 rfl o145 hr146 ?_
          refine z_iconst (v := 0) 102 rfl (by decide) ?_
          obtain ⟨o147, B⟩ := B
          obtain ⟨o148, B⟩ := B
          refine z_lald 103 rfl o147 o148 ?_
          refine z_goto 104 179 rfl (by decide) ?_
          exact z_lret 106 rfl rfl ⟨rfl, rfl⟩ ⟨_, rfl, B⟩
    · have B := B.2 c78
      refine z_ldc2 34 rfl kX10_432 ?_
      exact z_lret 35 rfl rfl ⟨rfl, rfl⟩ ⟨_, rfl, B⟩
set_option maxRecDepth 100000 in
set_option maxHeartbeats 4000000 in
theorem sg_X10_keepNow_0 {G : zG} {d : Nat} {h : zMem} {Q : zMem → Prop} {a0 : Nat} (B : zO h a0 9 ∧ (¬ (zI h a0 47) = (20 : Int32) → ∃ Q3 : zMem → Prop, zConV G mX10_copies d [.ref a0, .int ((3 : Int32) + (zI h a0 47)), .int (0 : Int32)] h Q3 ∧ (∀ h4, Q3 h4 → zO h4 a0 9 ∧ Q (zsI h4 a0 47 ((zI h4 a0 47) + (1 : Int32))))) ∧ ((zI h a0 47) = (20 : Int32) → zg G mX10_keepNow (d + 1) 11 [.ref a0, .int (1 : Int32)] [] h (zPV Q))) : zg G mX10_keepNow (d + 1) 0 [.ref a0, zU] [] h (zPV Q) := by
  refine z_aload_n 0 rfl rfl ?_
  obtain ⟨o1, B⟩ := B
  refine z_getI 1 rfl lX10_323 rfl o1 ?_
  refine z_bipush (v := 20) 2 rfl (by decide) ?_
  refine z_icmp_ne 3 45 rfl (by decide) ⟨fun c2 => ?_, fun c2 => ?_⟩
  · have B := B.1 c2
    refine z_aload_n 27 rfl rfl ?_
    refine z_iconst (v := 3) 28 rfl (by decide) ?_
    refine z_aload_n 29 rfl rfl ?_
    refine z_getI 30 rfl lX10_323 rfl o1 ?_
    refine z_iadd 31 rfl ?_
    refine z_iconst (v := 0) 32 rfl (by decide) ?_
    obtain ⟨Q3, K5, B⟩ := B
    refine z_cVV2 (ν := mX10_copies) 33 rfl rfl fX10_copies gX10_434 ⟨_, rfl, rfl⟩ (by decide) o1 (Nat.le_of_ble_eq_true rfl) K5 (fun h4 q => ?_)
    have B := B h4 q
    refine z_aload_n 34 rfl rfl ?_
    refine z_dup 35 rfl rfl ?_
    obtain ⟨o6, B⟩ := B
    refine z_getI 36 rfl lX10_323 rfl o6 ?_
    refine z_iconst (v := 1) 37 rfl (by decide) ?_
    refine z_iadd 38 rfl ?_
    refine z_putI 39 rfl lX10_323 ⟨_, _, _, rfl, rfl⟩ rfl rfl rfl o6 ?_
    exact z_vret 40 rfl rfl ⟨rfl, rfl⟩ ⟨rfl, B⟩
  · have B := B.2 c2
    refine z_iconst (v := 1) 4 rfl (by decide) ?_
    refine z_istore_n 5 rfl (by decide) rfl ?_
    exact B
theorem cn_X10_keepNow {G : zG} {d : Nat} {h : zMem} {Q : zMem → Prop} {a0 : Nat} (B : zg G mX10_keepNow (d + 1) 0 [.ref a0, zU] [] h (zPV Q)) : zConV G mX10_keepNow (d + 1) [.ref a0] h Q := zcon0 (by decide +kernel) eX10_keepNow (Nat.le_of_ble_eq_true rfl) rfl B
set_option maxRecDepth 100000 in
set_option maxHeartbeats 4000000 in
theorem sg_X10_keepNow_11 {G : zG} {d : Nat} {h : zMem} {Q : zMem → Prop} {a0 : Nat} {x1 : Int32} (B : ((20 : Int32) ≤ x1 → zO h a0 9 ∧ ∃ Q3 : zMem → Prop, zConV G mX10_copies d [.ref a0, .int ((3 : Int32) + (zI (zsI h a0 47 ((zI h a0 47) - (1 : Int32))) a0 47)), .int (0 : Int32)] (zsI h a0 47 ((zI h a0 47) - (1 : Int32))) Q3 ∧ (∀ h4, Q3 h4 → zO h4 a0 9 ∧ Q (zsI h4 a0 47 ((zI h4 a0 47) + (1 : Int32))))) ∧ (¬ (20 : Int32) ≤ x1 → zO h a0 9 ∧ ∃ Q7 : zMem → Prop, zConV G mX10_copies d [.ref a0, .int (((3 : Int32) + x1) - (1 : Int32)), .int ((3 : Int32) + x1)] h Q7 ∧ (∀ h8, Q7 h8 → zg G mX10_keepNow (d + 1) 11 [.ref a0, .int (x1 + 1)] [] h8 (zPV Q)))) : zg G mX10_keepNow (d + 1) 11 [.ref a0, .int x1] [] h (zPV Q) := by
  refine z_iload_n 6 rfl rfl ?_
  refine z_bipush (v := 20) 7 rfl (by decide) ?_
  refine z_icmp_ge 8 35 rfl (by decide) ⟨fun c1 => ?_, fun c1 => ?_⟩
  · have B := B.1 c1
    refine z_aload_n 21 rfl rfl ?_
    refine z_dup 22 rfl rfl ?_
    obtain ⟨o2, B⟩ := B
    refine z_getI 23 rfl lX10_323 rfl o2 ?_
    refine z_iconst (v := 1) 24 rfl (by decide) ?_
    refine z_isub 25 rfl ?_
    refine z_putI 26 rfl lX10_323 ⟨_, _, _, rfl, rfl⟩ rfl rfl rfl o2 ?_
    refine z_aload_n 27 rfl rfl ?_
    refine z_iconst (v := 3) 28 rfl (by decide) ?_
    refine z_aload_n 29 rfl rfl ?_
    refine z_getI 30 rfl lX10_323 rfl o2 ?_
    refine z_iadd 31 rfl ?_
    refine z_iconst (v := 0) 32 rfl (by decide) ?_
    obtain ⟨Q3, K5, B⟩ := B
    refine z_cVV2 (ν := mX10_copies) 33 rfl rfl fX10_copies gX10_434 ⟨_, rfl, rfl⟩ (by decide) o2 (Nat.le_of_ble_eq_true rfl) K5 (fun h4 q => ?_)
    have B := B h4 q
    refine z_aload_n 34 rfl rfl ?_
    refine z_dup 35 rfl rfl ?_
    obtain ⟨o6, B⟩ := B
    refine z_getI 36 rfl lX10_323 rfl o6 ?_
    refine z_iconst (v := 1) 37 rfl (by decide) ?_
    refine z_iadd 38 rfl ?_
    refine z_putI 39 rfl lX10_323 ⟨_, _, _, rfl, rfl⟩ rfl rfl rfl o6 ?_
    exact z_vret 40 rfl rfl ⟨rfl, rfl⟩ ⟨rfl, B⟩
  · have B := B.2 c1
    refine z_aload_n 9 rfl rfl ?_
    refine z_iconst (v := 3) 10 rfl (by decide) ?_
    refine z_iload_n 11 rfl rfl ?_
    refine z_iadd 12 rfl ?_
    refine z_iconst (v := 1) 13 rfl (by decide) ?_
    refine z_isub 14 rfl ?_
    refine z_iconst (v := 3) 15 rfl (by decide) ?_
    refine z_iload_n 16 rfl rfl ?_
    refine z_iadd 17 rfl ?_
    obtain ⟨o10, B⟩ := B
    obtain ⟨Q7, K9, B⟩ := B
    refine z_cVV2 (ν := mX10_copies) 18 rfl rfl fX10_copies gX10_434 ⟨_, rfl, rfl⟩ (by decide) o10 (Nat.le_of_ble_eq_true rfl) K9 (fun h8 q => ?_)
    have B := B h8 q
    refine z_iinc (v := 1) 19 rfl rfl (by decide) (by decide) rfl ?_
    refine z_goto 20 11 rfl (by decide) ?_
    exact B
set_option maxRecDepth 100000 in
set_option maxHeartbeats 4000000 in
theorem sg_X10_cold_0 {G : zG} {d : Nat} {h : zMem} {Q : Int32 → zMem → Prop} {a0 : Nat} {x1 : Int32} {x2 : Int32} {x3 : Int32} (B : zO h a0 9 ∧ ∃ Q2 : Int32 → zMem → Prop, zConI G mX10_isMonk d [.ref a0, .int x1] (zsI h a0 0 (0 : Int32)) Q2 ∧ (∀ v5 h3, Q2 v5 h3 → (v5 = 0 → Q (0 : Int32) h3) ∧ (¬ v5 = 0 → zO h3 a0 9 ∧ ∃ Q7 : Int32 → zMem → Prop, zConI G mX10_isStuff d [.ref a0, .int x2] h3 Q7 ∧ (∀ v10 h8, Q7 v10 h8 → (v10 = 0 → Q (0 : Int32) h8) ∧ (¬ v10 = 0 → zO h8 a0 9 ∧ ∃ r13, zR h8 a0 43 = some r13 ∧ zO h8 r13 100 ∧ vp_in x1 (zLen h8 r13) ∧ (¬ (((zI h8 r13 x1.toNatClampNeg) >>> (x2 &&& 31)) &&& (1 : Int32)) = (1 : Int32) → (¬ (0 : Int32) = x3 → ∃ Q18 : zMem → Prop, zConV G mX10_keepNow d [.ref a0] h8 Q18 ∧ (∀ h19, Q18 h19 → zO h19 a0 9 ∧ ∃ r22, zR h19 a0 43 = some r22 ∧ zO h19 r22 100 ∧ vp_in x1 (zLen h19 r22) ∧ Q (1 : Int32) (zsI h19 r22 x1.toNatClampNeg ((zI h19 r22 x1.toNatClampNeg) ^^^ ((1 : Int32) <<< (x2 &&& 31)))))) ∧ ((0 : Int32) = x3 → Q (0 : Int32) h8)) ∧ ((((zI h8 r13 x1.toNatClampNeg) >>> (x2 &&& 31)) &&& (1 : Int32)) = (1 : Int32) → (¬ (1 : Int32) = x3 → ∃ Q26 : zMem → Prop, zConV G mX10_keepNow d [.ref a0] h8 Q26 ∧ (∀ h27, Q26 h27 → zO h27 a0 9 ∧ ∃ r30, zR h27 a0 43 = some r30 ∧ zO h27 r30 100 ∧ vp_in x1 (zLen h27 r30) ∧ Q (1 : Int32) (zsI h27 r30 x1.toNatClampNeg ((zI h27 r30 x1.toNatClampNeg) ^^^ ((1 : Int32) <<< (x2 &&& 31)))))) ∧ ((1 : Int32) = x3 → Q (0 : Int32) h8))))))) : zg G mX10_cold (d + 1) 0 [.ref a0, .int x1, .int x2, .int x3] [] h (zPI Q) := by
  refine z_aload_n 0 rfl rfl ?_
  refine z_iconst (v := 0) 1 rfl (by decide) ?_
  obtain ⟨o1, B⟩ := B
  refine z_putI 2 rfl lX10_160 ⟨_, _, _, rfl, rfl⟩ rfl rfl rfl o1 ?_
  refine z_aload_n 3 rfl rfl ?_
  refine z_iload_n 4 rfl rfl ?_
  obtain ⟨Q2, K4, B⟩ := B
  refine z_cVI1 (ν := mX10_isMonk) 5 rfl rfl fX10_isMonk gX10_415 ⟨_, rfl, rfl⟩ (by decide) o1 (Nat.le_of_ble_eq_true rfl) K4 (fun v5 h3 q => ?_)
  have B := B v5 h3 q
  refine z_if_eq 6 44 rfl (by decide) ⟨fun c6 => ?_, fun c6 => ?_⟩
  · have B := B.1 c6
    refine z_iconst (v := 0) 26 rfl (by decide) ?_
    exact z_iret 27 rfl rfl rfl ⟨rfl, rfl⟩ ⟨_, rfl, B⟩
  · have B := B.2 c6
    refine z_aload_n 7 rfl rfl ?_
    refine z_iload_n 8 rfl rfl ?_
    obtain ⟨o33, B⟩ := B
    obtain ⟨Q7, K9, B⟩ := B
    refine z_cVI1 (ν := mX10_isStuff) 9 rfl rfl fX10_isStuff gX10_418 ⟨_, rfl, rfl⟩ (by decide) o33 (Nat.le_of_ble_eq_true rfl) K9 (fun v10 h8 q => ?_)
    have B := B v10 h8 q
    refine z_if_eq 10 44 rfl (by decide) ⟨fun c11 => ?_, fun c11 => ?_⟩
    · have B := B.1 c11
      refine z_iconst (v := 0) 26 rfl (by decide) ?_
      exact z_iret 27 rfl rfl rfl ⟨rfl, rfl⟩ ⟨_, rfl, B⟩
    · have B := B.2 c11
      refine z_aload_n 11 rfl rfl ?_
      obtain ⟨o12, B⟩ := B
      obtain ⟨r13, hr13, B⟩ := B
      refine z_getR 12 rfl lX10_96 rfl o12 hr13 ?_
      refine z_iload_n 13 rfl rfl ?_
      obtain ⟨o14, B⟩ := B
      obtain ⟨o15, B⟩ := B
      refine z_iald 14 rfl o14 o15 ?_
      refine z_iload_n 15 rfl rfl ?_
      refine z_ishr 16 rfl ?_
      refine z_iconst (v := 1) 17 rfl (by decide) ?_
      refine z_iand 18 rfl ?_
      refine z_iconst (v := 1) 19 rfl (by decide) ?_
      refine z_icmp_ne 20 39 rfl (by decide) ⟨fun c16 => ?_, fun c16 => ?_⟩
      · have B := B.1 c16
        refine z_iconst (v := 0) 23 rfl (by decide) ?_
        refine z_iload_n 24 rfl rfl ?_
        refine z_icmp_ne 25 46 rfl (by decide) ⟨fun c17 => ?_, fun c17 => ?_⟩
        · have B := B.1 c17
          refine z_aload_n 28 rfl rfl ?_
          obtain ⟨Q18, K20, B⟩ := B
          refine z_cVV0 (ν := mX10_keepNow) 29 rfl rfl fX10_keepNow gX10_437 ⟨_, rfl, rfl⟩ (by decide) o12 (Nat.le_of_ble_eq_true rfl) K20 (fun h19 q => ?_)
          have B := B h19 q
          refine z_aload_n 30 rfl rfl ?_
          obtain ⟨o21, B⟩ := B
          obtain ⟨r22, hr22, B⟩ := B
          refine z_getR 31 rfl lX10_96 rfl o21 hr22 ?_
          refine z_iload_n 32 rfl rfl ?_
          refine z_dup2 33 rfl rfl rfl ?_
          obtain ⟨o23, B⟩ := B
          obtain ⟨o24, B⟩ := B
          refine z_iald 34 rfl o23 o24 ?_
          refine z_iconst (v := 1) 35 rfl (by decide) ?_
          refine z_iload_n 36 rfl rfl ?_
          refine z_ishl 37 rfl ?_
          refine z_ixor 38 rfl ?_
          refine z_iast 39 rfl o23 o24 ?_
          refine z_iconst (v := 1) 40 rfl (by decide) ?_
          exact z_iret 41 rfl rfl rfl ⟨rfl, rfl⟩ ⟨_, rfl, B⟩
        · have B := B.2 c17
          refine z_iconst (v := 0) 26 rfl (by decide) ?_
          exact z_iret 27 rfl rfl rfl ⟨rfl, rfl⟩ ⟨_, rfl, B⟩
      · have B := B.2 c16
        refine z_iconst (v := 1) 21 rfl (by decide) ?_
        refine z_goto 22 40 rfl (by decide) ?_
        refine z_iload_n 24 rfl rfl ?_
        refine z_icmp_ne 25 46 rfl (by decide) ⟨fun c25 => ?_, fun c25 => ?_⟩
        · have B := B.1 c25
          refine z_aload_n 28 rfl rfl ?_
          obtain ⟨Q26, K28, B⟩ := B
          refine z_cVV0 (ν := mX10_keepNow) 29 rfl rfl fX10_keepNow gX10_437 ⟨_, rfl, rfl⟩ (by decide) o12 (Nat.le_of_ble_eq_true rfl) K28 (fun h27 q => ?_)
          have B := B h27 q
          refine z_aload_n 30 rfl rfl ?_
          obtain ⟨o29, B⟩ := B
          obtain ⟨r30, hr30, B⟩ := B
          refine z_getR 31 rfl lX10_96 rfl o29 hr30 ?_
          refine z_iload_n 32 rfl rfl ?_
          refine z_dup2 33 rfl rfl rfl ?_
          obtain ⟨o31, B⟩ := B
          obtain ⟨o32, B⟩ := B
          refine z_iald 34 rfl o31 o32 ?_
          refine z_iconst (v := 1) 35 rfl (by decide) ?_
          refine z_iload_n 36 rfl rfl ?_
          refine z_ishl 37 rfl ?_
          refine z_ixor 38 rfl ?_
          refine z_iast 39 rfl o31 o32 ?_
          refine z_iconst (v := 1) 40 rfl (by decide) ?_
          exact z_iret 41 rfl rfl rfl ⟨rfl, rfl⟩ ⟨_, rfl, B⟩
        · have B := B.2 c25
          refine z_iconst (v := 0) 26 rfl (by decide) ?_
          exact z_iret 27 rfl rfl rfl ⟨rfl, rfl⟩ ⟨_, rfl, B⟩
theorem cn_X10_cold {G : zG} {d : Nat} {h : zMem} {Q : Int32 → zMem → Prop} {a0 : Nat} {x1 : Int32} {x2 : Int32} {x3 : Int32} (B : zg G mX10_cold (d + 1) 0 [.ref a0, .int x1, .int x2, .int x3] [] h (zPI Q)) : zConI G mX10_cold (d + 1) [.ref a0, .int x1, .int x2, .int x3] h Q := zcon0 (by decide +kernel) eX10_cold (Nat.le_of_ble_eq_true rfl) rfl B
set_option maxRecDepth 100000 in
set_option maxHeartbeats 4000000 in
theorem sg_X10_wind_0 {G : zG} {d : Nat} {h : zMem} {Q : Int32 → zMem → Prop} {a0 : Nat} {x1 : Int32} {x2 : Int32} (B : zO h a0 9 ∧ ∃ Q2 : Int32 → zMem → Prop, zConI G mX10_isStuff d [.ref a0, .int x1] (zsI h a0 0 (0 : Int32)) Q2 ∧ (∀ v5 h3, Q2 v5 h3 → (v5 = 0 → Q (0 : Int32) h3) ∧ (¬ v5 = 0 → (x2 < 0 → Q (0 : Int32) h3) ∧ (¬ x2 < 0 → ((99 : Int32) < x2 → Q (0 : Int32) h3) ∧ (¬ (99 : Int32) < x2 → zO h3 a0 9 ∧ ∃ r10, zR h3 a0 40 = some r10 ∧ zO h3 r10 100 ∧ vp_in x1 (zLen h3 r10) ∧ (¬ (zI h3 r10 x1.toNatClampNeg) = x2 → ∃ Q14 : zMem → Prop, zConV G mX10_keepNow d [.ref a0] h3 Q14 ∧ (∀ h15, Q14 h15 → zO h15 a0 9 ∧ ∃ r18, zR h15 a0 40 = some r18 ∧ zO h15 r18 100 ∧ vp_in x1 (zLen h15 r18) ∧ Q (1 : Int32) (zsI h15 r18 x1.toNatClampNeg x2))) ∧ ((zI h3 r10 x1.toNatClampNeg) = x2 → Q (0 : Int32) h3)))))) : zg G mX10_wind (d + 1) 0 [.ref a0, .int x1, .int x2] [] h (zPI Q) := by
  refine z_aload_n 0 rfl rfl ?_
  refine z_iconst (v := 0) 1 rfl (by decide) ?_
  obtain ⟨o1, B⟩ := B
  refine z_putI 2 rfl lX10_160 ⟨_, _, _, rfl, rfl⟩ rfl rfl rfl o1 ?_
  refine z_aload_n 3 rfl rfl ?_
  refine z_iload_n 4 rfl rfl ?_
  obtain ⟨Q2, K4, B⟩ := B
  refine z_cVI1 (ν := mX10_isStuff) 5 rfl rfl fX10_isStuff gX10_418 ⟨_, rfl, rfl⟩ (by decide) o1 (Nat.le_of_ble_eq_true rfl) K4 (fun v5 h3 q => ?_)
  have B := B v5 h3 q
  refine z_if_eq 6 33 rfl (by decide) ⟨fun c6 => ?_, fun c6 => ?_⟩
  · have B := B.1 c6
    refine z_iconst (v := 0) 18 rfl (by decide) ?_
    exact z_iret 19 rfl rfl rfl ⟨rfl, rfl⟩ ⟨_, rfl, B⟩
  · have B := B.2 c6
    refine z_iload_n 7 rfl rfl ?_
    refine z_if_lt 8 33 rfl (by decide) ⟨fun c7 => ?_, fun c7 => ?_⟩
    · have B := B.1 c7
      refine z_iconst (v := 0) 18 rfl (by decide) ?_
      exact z_iret 19 rfl rfl rfl ⟨rfl, rfl⟩ ⟨_, rfl, B⟩
    · have B := B.2 c7
      refine z_iload_n 9 rfl rfl ?_
      refine z_bipush (v := 99) 10 rfl (by decide) ?_
      refine z_icmp_gt 11 33 rfl (by decide) ⟨fun c8 => ?_, fun c8 => ?_⟩
      · have B := B.1 c8
        refine z_iconst (v := 0) 18 rfl (by decide) ?_
        exact z_iret 19 rfl rfl rfl ⟨rfl, rfl⟩ ⟨_, rfl, B⟩
      · have B := B.2 c8
        refine z_aload_n 12 rfl rfl ?_
        obtain ⟨o9, B⟩ := B
        obtain ⟨r10, hr10, B⟩ := B
        refine z_getR 13 rfl lX10_87 rfl o9 hr10 ?_
        refine z_iload_n 14 rfl rfl ?_
        obtain ⟨o11, B⟩ := B
        obtain ⟨o12, B⟩ := B
        refine z_iald 15 rfl o11 o12 ?_
        refine z_iload_n 16 rfl rfl ?_
        refine z_icmp_ne 17 35 rfl (by decide) ⟨fun c13 => ?_, fun c13 => ?_⟩
        · have B := B.1 c13
          refine z_aload_n 20 rfl rfl ?_
          obtain ⟨Q14, K16, B⟩ := B
          refine z_cVV0 (ν := mX10_keepNow) 21 rfl rfl fX10_keepNow gX10_437 ⟨_, rfl, rfl⟩ (by decide) o9 (Nat.le_of_ble_eq_true rfl) K16 (fun h15 q => ?_)
          have B := B h15 q
          refine z_aload_n 22 rfl rfl ?_
          obtain ⟨o17, B⟩ := B
          obtain ⟨r18, hr18, B⟩ := B
          refine z_getR 23 rfl lX10_87 rfl o17 hr18 ?_
          refine z_iload_n 24 rfl rfl ?_
          refine z_iload_n 25 rfl rfl ?_
          obtain ⟨o19, B⟩ := B
          obtain ⟨o20, B⟩ := B
          refine z_iast 26 rfl o19 o20 ?_
          refine z_iconst (v := 1) 27 rfl (by decide) ?_
          exact z_iret 28 rfl rfl rfl ⟨rfl, rfl⟩ ⟨_, rfl, B⟩
        · have B := B.2 c13
          refine z_iconst (v := 0) 18 rfl (by decide) ?_
          exact z_iret 19 rfl rfl rfl ⟨rfl, rfl⟩ ⟨_, rfl, B⟩
theorem cn_X10_wind {G : zG} {d : Nat} {h : zMem} {Q : Int32 → zMem → Prop} {a0 : Nat} {x1 : Int32} {x2 : Int32} (B : zg G mX10_wind (d + 1) 0 [.ref a0, .int x1, .int x2] [] h (zPI Q)) : zConI G mX10_wind (d + 1) [.ref a0, .int x1, .int x2] h Q := zcon0 (by decide +kernel) eX10_wind (Nat.le_of_ble_eq_true rfl) rfl B
set_option maxRecDepth 100000 in
set_option maxHeartbeats 4000000 in
theorem sg_X10_buy_0 {G : zG} {d : Nat} {h : zMem} {Q : Int32 → zMem → Prop} {a0 : Nat} {x1 : Int32} {x2 : Int32} (B : zO h a0 9 ∧ ∃ Q2 : Int32 → zMem → Prop, zConI G mX10_isStuff d [.ref a0, .int x1] (zsI h a0 0 (0 : Int32)) Q2 ∧ (∀ v5 h3, Q2 v5 h3 → (v5 = 0 → Q (-1 : Int32) h3) ∧ (¬ v5 = 0 → (x2 < (1 : Int32) → Q (-1 : Int32) h3) ∧ (¬ x2 < (1 : Int32) → ((999 : Int32) < x2 → Q (-1 : Int32) h3) ∧ (¬ (999 : Int32) < x2 → zO h3 a0 9 ∧ ∃ r10, zR h3 a0 39 = some r10 ∧ zO h3 r10 100 ∧ vp_in x1 (zLen h3 r10) ∧ (((zI h3 r10 x1.toNatClampNeg) + x2) ≤ (9999 : Int32) → ∃ Q14 : zMem → Prop, zConV G mX10_keepNow d [.ref a0] h3 Q14 ∧ (∀ h15, Q14 h15 → zO h15 a0 9 ∧ ∃ r18, zR h15 a0 39 = some r18 ∧ zO h15 r18 100 ∧ vp_in x1 (zLen h15 r18) ∧ Q (zI (zsI h15 r18 x1.toNatClampNeg ((zI h15 r18 x1.toNatClampNeg) + x2)) r18 x1.toNatClampNeg) (zsI h15 r18 x1.toNatClampNeg ((zI h15 r18 x1.toNatClampNeg) + x2)))) ∧ (¬ ((zI h3 r10 x1.toNatClampNeg) + x2) ≤ (9999 : Int32) → Q (-1 : Int32) h3)))))) : zg G mX10_buy (d + 1) 0 [.ref a0, .int x1, .int x2] [] h (zPI Q) := by
  refine z_aload_n 0 rfl rfl ?_
  refine z_iconst (v := 0) 1 rfl (by decide) ?_
  obtain ⟨o1, B⟩ := B
  refine z_putI 2 rfl lX10_160 ⟨_, _, _, rfl, rfl⟩ rfl rfl rfl o1 ?_
  refine z_aload_n 3 rfl rfl ?_
  refine z_iload_n 4 rfl rfl ?_
  obtain ⟨Q2, K4, B⟩ := B
  refine z_cVI1 (ν := mX10_isStuff) 5 rfl rfl fX10_isStuff gX10_418 ⟨_, rfl, rfl⟩ (by decide) o1 (Nat.le_of_ble_eq_true rfl) K4 (fun v5 h3 q => ?_)
  have B := B v5 h3 q
  refine z_if_eq 6 39 rfl (by decide) ⟨fun c6 => ?_, fun c6 => ?_⟩
  · have B := B.1 c6
    refine z_iconst (v := -1) 21 rfl (by decide) ?_
    exact z_iret 22 rfl rfl rfl ⟨rfl, rfl⟩ ⟨_, rfl, B⟩
  · have B := B.2 c6
    refine z_iload_n 7 rfl rfl ?_
    refine z_iconst (v := 1) 8 rfl (by decide) ?_
    refine z_icmp_lt 9 39 rfl (by decide) ⟨fun c7 => ?_, fun c7 => ?_⟩
    · have B := B.1 c7
      refine z_iconst (v := -1) 21 rfl (by decide) ?_
      exact z_iret 22 rfl rfl rfl ⟨rfl, rfl⟩ ⟨_, rfl, B⟩
    · have B := B.2 c7
      refine z_iload_n 10 rfl rfl ?_
      refine z_sipush (v := 999) 11 rfl (by decide) ?_
      refine z_icmp_gt 12 39 rfl (by decide) ⟨fun c8 => ?_, fun c8 => ?_⟩
      · have B := B.1 c8
        refine z_iconst (v := -1) 21 rfl (by decide) ?_
        exact z_iret 22 rfl rfl rfl ⟨rfl, rfl⟩ ⟨_, rfl, B⟩
      · have B := B.2 c8
        refine z_aload_n 13 rfl rfl ?_
        obtain ⟨o9, B⟩ := B
        obtain ⟨r10, hr10, B⟩ := B
        refine z_getR 14 rfl lX10_84 rfl o9 hr10 ?_
        refine z_iload_n 15 rfl rfl ?_
        obtain ⟨o11, B⟩ := B
        obtain ⟨o12, B⟩ := B
        refine z_iald 16 rfl o11 o12 ?_
        refine z_iload_n 17 rfl rfl ?_
        refine z_iadd 18 rfl ?_
        refine z_sipush (v := 9999) 19 rfl (by decide) ?_
        refine z_icmp_le 20 41 rfl (by decide) ⟨fun c13 => ?_, fun c13 => ?_⟩
        · have B := B.1 c13
          refine z_aload_n 23 rfl rfl ?_
          obtain ⟨Q14, K16, B⟩ := B
          refine z_cVV0 (ν := mX10_keepNow) 24 rfl rfl fX10_keepNow gX10_437 ⟨_, rfl, rfl⟩ (by decide) o9 (Nat.le_of_ble_eq_true rfl) K16 (fun h15 q => ?_)
          have B := B h15 q
          refine z_aload_n 25 rfl rfl ?_
          obtain ⟨o17, B⟩ := B
          obtain ⟨r18, hr18, B⟩ := B
          refine z_getR 26 rfl lX10_84 rfl o17 hr18 ?_
          refine z_iload_n 27 rfl rfl ?_
          refine z_dup2 28 rfl rfl rfl ?_
          obtain ⟨o19, B⟩ := B
          obtain ⟨o20, B⟩ := B
          refine z_iald 29 rfl o19 o20 ?_
          refine z_iload_n 30 rfl rfl ?_
          refine z_iadd 31 rfl ?_
          refine z_iast 32 rfl o19 o20 ?_
          refine z_aload_n 33 rfl rfl ?_
          refine z_getR 34 rfl lX10_84 rfl o17 hr18 ?_
          refine z_iload_n 35 rfl rfl ?_
          refine z_iald 36 rfl o19 o20 ?_
          exact z_iret 37 rfl rfl rfl ⟨rfl, rfl⟩ ⟨_, rfl, B⟩
        · have B := B.2 c13
          refine z_iconst (v := -1) 21 rfl (by decide) ?_
          exact z_iret 22 rfl rfl rfl ⟨rfl, rfl⟩ ⟨_, rfl, B⟩
theorem cn_X10_buy {G : zG} {d : Nat} {h : zMem} {Q : Int32 → zMem → Prop} {a0 : Nat} {x1 : Int32} {x2 : Int32} (B : zg G mX10_buy (d + 1) 0 [.ref a0, .int x1, .int x2] [] h (zPI Q)) : zConI G mX10_buy (d + 1) [.ref a0, .int x1, .int x2] h Q := zcon0 (by decide +kernel) eX10_buy (Nat.le_of_ble_eq_true rfl) rfl B
set_option maxRecDepth 100000 in
set_option maxHeartbeats 4000000 in
theorem sg_X10_goes_0 {G : zG} {d : Nat} {h : zMem} {Q : Int32 → zMem → Prop} {a0 : Nat} {x1 : Int32} {x2 : Int32} (B : zO h a0 9 ∧ ∃ Q2 : Int32 → zMem → Prop, zConI G mX10_isMonk d [.ref a0, .int x1] (zsI h a0 0 (0 : Int32)) Q2 ∧ (∀ v5 h3, Q2 v5 h3 → (v5 = 0 → Q (0 : Int32) h3) ∧ (¬ v5 = 0 → zO h3 a0 9 ∧ ∃ Q7 : Int32 → zMem → Prop, zConI G mX10_isRoom d [.ref a0, .int x2] h3 Q7 ∧ (∀ v10 h8, Q7 v10 h8 → (v10 = 0 → Q (0 : Int32) h8) ∧ (¬ v10 = 0 → zO h8 a0 9 ∧ ∃ r13, zR h8 a0 42 = some r13 ∧ zO h8 r13 100 ∧ vp_in x1 (zLen h8 r13) ∧ (¬ (zI h8 r13 x1.toNatClampNeg) = x2 → ∃ Q17 : zMem → Prop, zConV G mX10_keepNow d [.ref a0] h8 Q17 ∧ (∀ h18, Q17 h18 → zO h18 a0 9 ∧ ∃ r21, zR h18 a0 42 = some r21 ∧ zO h18 r21 100 ∧ vp_in x1 (zLen h18 r21) ∧ Q (1 : Int32) (zsI h18 r21 x1.toNatClampNeg x2))) ∧ ((zI h8 r13 x1.toNatClampNeg) = x2 → Q (0 : Int32) h8)))))) : zg G mX10_goes (d + 1) 0 [.ref a0, .int x1, .int x2] [] h (zPI Q) := by
  refine z_aload_n 0 rfl rfl ?_
  refine z_iconst (v := 0) 1 rfl (by decide) ?_
  obtain ⟨o1, B⟩ := B
  refine z_putI 2 rfl lX10_160 ⟨_, _, _, rfl, rfl⟩ rfl rfl rfl o1 ?_
  refine z_aload_n 3 rfl rfl ?_
  refine z_iload_n 4 rfl rfl ?_
  obtain ⟨Q2, K4, B⟩ := B
  refine z_cVI1 (ν := mX10_isMonk) 5 rfl rfl fX10_isMonk gX10_415 ⟨_, rfl, rfl⟩ (by decide) o1 (Nat.le_of_ble_eq_true rfl) K4 (fun v5 h3 q => ?_)
  have B := B v5 h3 q
  refine z_if_eq 6 31 rfl (by decide) ⟨fun c6 => ?_, fun c6 => ?_⟩
  · have B := B.1 c6
    refine z_iconst (v := 0) 17 rfl (by decide) ?_
    exact z_iret 18 rfl rfl rfl ⟨rfl, rfl⟩ ⟨_, rfl, B⟩
  · have B := B.2 c6
    refine z_aload_n 7 rfl rfl ?_
    refine z_iload_n 8 rfl rfl ?_
    obtain ⟨o24, B⟩ := B
    obtain ⟨Q7, K9, B⟩ := B
    refine z_cVI1 (ν := mX10_isRoom) 9 rfl rfl fX10_isRoom gX10_427 ⟨_, rfl, rfl⟩ (by decide) o24 (Nat.le_of_ble_eq_true rfl) K9 (fun v10 h8 q => ?_)
    have B := B v10 h8 q
    refine z_if_eq 10 31 rfl (by decide) ⟨fun c11 => ?_, fun c11 => ?_⟩
    · have B := B.1 c11
      refine z_iconst (v := 0) 17 rfl (by decide) ?_
      exact z_iret 18 rfl rfl rfl ⟨rfl, rfl⟩ ⟨_, rfl, B⟩
    · have B := B.2 c11
      refine z_aload_n 11 rfl rfl ?_
      obtain ⟨o12, B⟩ := B
      obtain ⟨r13, hr13, B⟩ := B
      refine z_getR 12 rfl lX10_93 rfl o12 hr13 ?_
      refine z_iload_n 13 rfl rfl ?_
      obtain ⟨o14, B⟩ := B
      obtain ⟨o15, B⟩ := B
      refine z_iald 14 rfl o14 o15 ?_
      refine z_iload_n 15 rfl rfl ?_
      refine z_icmp_ne 16 33 rfl (by decide) ⟨fun c16 => ?_, fun c16 => ?_⟩
      · have B := B.1 c16
        refine z_aload_n 19 rfl rfl ?_
        obtain ⟨Q17, K19, B⟩ := B
        refine z_cVV0 (ν := mX10_keepNow) 20 rfl rfl fX10_keepNow gX10_437 ⟨_, rfl, rfl⟩ (by decide) o12 (Nat.le_of_ble_eq_true rfl) K19 (fun h18 q => ?_)
        have B := B h18 q
        refine z_aload_n 21 rfl rfl ?_
        obtain ⟨o20, B⟩ := B
        obtain ⟨r21, hr21, B⟩ := B
        refine z_getR 22 rfl lX10_93 rfl o20 hr21 ?_
        refine z_iload_n 23 rfl rfl ?_
        refine z_iload_n 24 rfl rfl ?_
        obtain ⟨o22, B⟩ := B
        obtain ⟨o23, B⟩ := B
        refine z_iast 25 rfl o22 o23 ?_
        refine z_iconst (v := 1) 26 rfl (by decide) ?_
        exact z_iret 27 rfl rfl rfl ⟨rfl, rfl⟩ ⟨_, rfl, B⟩
      · have B := B.2 c16
        refine z_iconst (v := 0) 17 rfl (by decide) ?_
        exact z_iret 18 rfl rfl rfl ⟨rfl, rfl⟩ ⟨_, rfl, B⟩
theorem cn_X10_goes {G : zG} {d : Nat} {h : zMem} {Q : Int32 → zMem → Prop} {a0 : Nat} {x1 : Int32} {x2 : Int32} (B : zg G mX10_goes (d + 1) 0 [.ref a0, .int x1, .int x2] [] h (zPI Q)) : zConI G mX10_goes (d + 1) [.ref a0, .int x1, .int x2] h Q := zcon0 (by decide +kernel) eX10_goes (Nat.le_of_ble_eq_true rfl) rfl B
set_option maxRecDepth 100000 in
set_option maxHeartbeats 4000000 in
theorem sg_X10_go_0 {G : zG} {d : Nat} {h : zMem} {Q : Int32 → zMem → Prop} {a0 : Nat} {x1 : Int32} (B : zO h a0 9 ∧ (x1 < 0 → Q (-1 : Int32) (zsI h a0 0 (0 : Int32))) ∧ (¬ x1 < 0 → ((99 : Int32) < x1 → Q (-1 : Int32) (zsI h a0 0 (0 : Int32))) ∧ (¬ (99 : Int32) < x1 → ∃ r4, zR h a0 34 = some r4 ∧ zO h r4 100 ∧ vp_in (0 : Int32) (zLen h r4) ∧ (((zI (zsI h a0 0 (0 : Int32)) r4 (0 : Int32).toNatClampNeg) + x1) ≤ (9999 : Int32) → (x1 ≤ 0 → zg G mX10_go (d + 1) 42 [.ref a0, .int x1, .int (0 : Int32)] [] (zsI h a0 0 (0 : Int32)) (zPI Q)) ∧ (¬ x1 ≤ 0 → zg G mX10_go (d + 1) 42 [.ref a0, .int x1, .int (0 : Int32)] [] (zsI (zsI h a0 0 (0 : Int32)) a0 47 (0 : Int32)) (zPI Q))) ∧ (¬ ((zI (zsI h a0 0 (0 : Int32)) r4 (0 : Int32).toNatClampNeg) + x1) ≤ (9999 : Int32) → Q (-1 : Int32) (zsI h a0 0 (0 : Int32)))))) : zg G mX10_go (d + 1) 0 [.ref a0, .int x1, zU] [] h (zPI Q) := by
  refine z_aload_n 0 rfl rfl ?_
  refine z_iconst (v := 0) 1 rfl (by decide) ?_
  obtain ⟨o1, B⟩ := B
  refine z_putI 2 rfl lX10_160 ⟨_, _, _, rfl, rfl⟩ rfl rfl rfl o1 ?_
  refine z_iload_n 3 rfl rfl ?_
  refine z_if_lt 4 29 rfl (by decide) ⟨fun c2 => ?_, fun c2 => ?_⟩
  · have B := B.1 c2
    refine z_iconst (v := -1) 16 rfl (by decide) ?_
    exact z_iret 17 rfl rfl rfl ⟨rfl, rfl⟩ ⟨_, rfl, B⟩
  · have B := B.2 c2
    refine z_iload_n 5 rfl rfl ?_
    refine z_bipush (v := 99) 6 rfl (by decide) ?_
    refine z_icmp_gt 7 29 rfl (by decide) ⟨fun c3 => ?_, fun c3 => ?_⟩
    · have B := B.1 c3
      refine z_iconst (v := -1) 16 rfl (by decide) ?_
      exact z_iret 17 rfl rfl rfl ⟨rfl, rfl⟩ ⟨_, rfl, B⟩
    · have B := B.2 c3
      refine z_aload_n 8 rfl rfl ?_
      obtain ⟨r4, hr4, B⟩ := B
      refine z_getR 9 rfl lX10_69 rfl o1 hr4 ?_
      refine z_iconst (v := 0) 10 rfl (by decide) ?_
      obtain ⟨o5, B⟩ := B
      obtain ⟨o6, B⟩ := B
      refine z_iald 11 rfl o5 o6 ?_
      refine z_iload_n 12 rfl rfl ?_
      refine z_iadd 13 rfl ?_
      refine z_sipush (v := 9999) 14 rfl (by decide) ?_
      refine z_icmp_le 15 31 rfl (by decide) ⟨fun c7 => ?_, fun c7 => ?_⟩
      · have B := B.1 c7
        refine z_iload_n 18 rfl rfl ?_
        refine z_if_le 19 40 rfl (by decide) ⟨fun c8 => ?_, fun c8 => ?_⟩
        · have B := B.1 c8
          refine z_iconst (v := 0) 23 rfl (by decide) ?_
          refine z_istore_n 24 rfl (by decide) rfl ?_
          exact B
        · have B := B.2 c8
          refine z_aload_n 20 rfl rfl ?_
          refine z_iconst (v := 0) 21 rfl (by decide) ?_
          refine z_putI 22 rfl lX10_323 ⟨_, _, _, rfl, rfl⟩ rfl rfl rfl o1 ?_
          refine z_iconst (v := 0) 23 rfl (by decide) ?_
          refine z_istore_n 24 rfl (by decide) rfl ?_
          exact B
      · have B := B.2 c7
        refine z_iconst (v := -1) 16 rfl (by decide) ?_
        exact z_iret 17 rfl rfl rfl ⟨rfl, rfl⟩ ⟨_, rfl, B⟩
theorem cn_X10_go {G : zG} {d : Nat} {h : zMem} {Q : Int32 → zMem → Prop} {a0 : Nat} {x1 : Int32} (B : zg G mX10_go (d + 1) 0 [.ref a0, .int x1, zU] [] h (zPI Q)) : zConI G mX10_go (d + 1) [.ref a0, .int x1] h Q := zcon0 (by decide +kernel) eX10_go (Nat.le_of_ble_eq_true rfl) rfl B
set_option maxRecDepth 100000 in
set_option maxHeartbeats 4000000 in
theorem sg_X10_go_42 {G : zG} {d : Nat} {h : zMem} {Q : Int32 → zMem → Prop} {a0 : Nat} {x1 : Int32} {x2 : Int32} (B : (x1 ≤ x2 → zO h a0 9 ∧ ∃ r3, zR h a0 34 = some r3 ∧ zO h r3 100 ∧ vp_in (0 : Int32) (zLen h r3) ∧ Q (zI h r3 (0 : Int32).toNatClampNeg) h) ∧ (¬ x1 ≤ x2 → zO h a0 9 ∧ ∃ Q6 : zMem → Prop, zConV G mX10_passes d [.ref a0, .int (0 : Int32)] h Q6 ∧ (∀ h7, Q6 h7 → zg G mX10_go (d + 1) 42 [.ref a0, .int x1, .int (x2 + 1)] [] h7 (zPI Q)))) : zg G mX10_go (d + 1) 42 [.ref a0, .int x1, .int x2] [] h (zPI Q) := by
  refine z_iload_n 25 rfl rfl ?_
  refine z_iload_n 26 rfl rfl ?_
  refine z_icmp_ge 27 58 rfl (by decide) ⟨fun c1 => ?_, fun c1 => ?_⟩
  · have B := B.1 c1
    refine z_aload_n 33 rfl rfl ?_
    obtain ⟨o2, B⟩ := B
    obtain ⟨r3, hr3, B⟩ := B
    refine z_getR 34 rfl lX10_69 rfl o2 hr3 ?_
    refine z_iconst (v := 0) 35 rfl (by decide) ?_
    obtain ⟨o4, B⟩ := B
    obtain ⟨o5, B⟩ := B
    refine z_iald 36 rfl o4 o5 ?_
    exact z_iret 37 rfl rfl rfl ⟨rfl, rfl⟩ ⟨_, rfl, B⟩
  · have B := B.2 c1
    refine z_aload_n 28 rfl rfl ?_
    refine z_iconst (v := 0) 29 rfl (by decide) ?_
    obtain ⟨o9, B⟩ := B
    obtain ⟨Q6, K8, B⟩ := B
    refine z_cVV1 (ν := mX10_passes) 30 rfl rfl fX10_passes gX10_440 ⟨_, rfl, rfl⟩ (by decide) o9 (Nat.le_of_ble_eq_true rfl) K8 (fun h7 q => ?_)
    have B := B h7 q
    refine z_iinc (v := 1) 31 rfl rfl (by decide) (by decide) rfl ?_
    refine z_goto 32 42 rfl (by decide) ?_
    exact B
set_option maxRecDepth 100000 in
set_option maxHeartbeats 4000000 in
theorem sg_X10_layMarks_0 {G : zG} {d : Nat} {h : zMem} {Q : zMem → Prop} {a0 : Nat} {x1 : Int32} (B : zg G mX10_layMarks (d + 1) 2 [.ref a0, .int x1, .int (0 : Int32)] [] h (zPV Q)) : zg G mX10_layMarks (d + 1) 0 [.ref a0, .int x1, zU] [] h (zPV Q) := by
  refine z_iconst (v := 0) 0 rfl (by decide) ?_
  refine z_istore_n 1 rfl (by decide) rfl ?_
  exact B
theorem cn_X10_layMarks {G : zG} {d : Nat} {h : zMem} {Q : zMem → Prop} {a0 : Nat} {x1 : Int32} (B : zg G mX10_layMarks (d + 1) 0 [.ref a0, .int x1, zU] [] h (zPV Q)) : zConV G mX10_layMarks (d + 1) [.ref a0, .int x1] h Q := zcon0 (by decide +kernel) eX10_layMarks (Nat.le_of_ble_eq_true rfl) rfl B
set_option maxRecDepth 100000 in
set_option maxHeartbeats 4000000 in
theorem sg_X10_layMarks_2 {G : zG} {d : Nat} {h : zMem} {Q : zMem → Prop} {a0 : Nat} {x1 : Int32} {x2 : Int32} (B : zO h a0 9 ∧ ∃ r2, zR h a0 3 = some r2 ∧ zO h r2 100 ∧ vp_in (1 : Int32) (zLen h r2) ∧ ((zI h r2 (1 : Int32).toNatClampNeg) ≤ x2 → Q h) ∧ (¬ (zI h r2 (1 : Int32).toNatClampNeg) ≤ x2 → ∃ r6, zR h a0 57 = some r6 ∧ ∃ Q7 : Int32 → zMem → Prop, zConI G mX10_markOf d [.ref a0, .int (0 : Int32), .int x1, .int x2] h Q7 ∧ (∀ v10 h8, Q7 v10 h8 → zO h8 r6 100 ∧ vp_in x2 (zLen h8 r6) ∧ zg G mX10_layMarks (d + 1) 2 [.ref a0, .int x1, .int (x2 + 1)] [] (zsI h8 r6 x2.toNatClampNeg v10) (zPV Q)))) : zg G mX10_layMarks (d + 1) 2 [.ref a0, .int x1, .int x2] [] h (zPV Q) := by
  refine z_iload_n 2 rfl rfl ?_
  refine z_aload_n 3 rfl rfl ?_
  obtain ⟨o1, B⟩ := B
  obtain ⟨r2, hr2, B⟩ := B
  refine z_getR 4 rfl lX10_13 rfl o1 hr2 ?_
  refine z_iconst (v := 1) 5 rfl (by decide) ?_
  obtain ⟨o3, B⟩ := B
  obtain ⟨o4, B⟩ := B
  refine z_iald 6 rfl o3 o4 ?_
  refine z_icmp_ge 7 31 rfl (by decide) ⟨fun c5 => ?_, fun c5 => ?_⟩
  · have B := B.1 c5
    exact z_vret 19 rfl rfl ⟨rfl, rfl⟩ ⟨rfl, B⟩
  · have B := B.2 c5
    refine z_aload_n 8 rfl rfl ?_
    obtain ⟨r6, hr6, B⟩ := B
    refine z_getR 9 rfl lX10_126 rfl o1 hr6 ?_
    refine z_iload_n 10 rfl rfl ?_
    refine z_aload_n 11 rfl rfl ?_
    refine z_iconst (v := 0) 12 rfl (by decide) ?_
    refine z_iload_n 13 rfl rfl ?_
    refine z_iload_n 14 rfl rfl ?_
    obtain ⟨Q7, K9, B⟩ := B
    refine z_cVI3 (ν := mX10_markOf) 15 rfl rfl fX10_markOf gX10_397 ⟨_, rfl, rfl⟩ (by decide) o1 (Nat.le_of_ble_eq_true rfl) K9 (fun v10 h8 q => ?_)
    have B := B v10 h8 q
    obtain ⟨o11, B⟩ := B
    obtain ⟨o12, B⟩ := B
    refine z_iast 16 rfl o11 o12 ?_
    refine z_iinc (v := 1) 17 rfl rfl (by decide) (by decide) rfl ?_
    refine z_goto 18 2 rfl (by decide) ?_
    exact B
set_option maxRecDepth 100000 in
set_option maxHeartbeats 4000000 in
theorem sg_X10_pairOf_0 {G : zG} {d : Nat} {h : zMem} {Q : Int32 → zMem → Prop} {a0 : Nat} {x1 : Int32} {x2 : Int32} (B : zO h a0 9 ∧ ∃ Q1 : zMem → Prop, zConV G mX10_layMarks d [.ref a0, .int x1] h Q1 ∧ (∀ h2, Q1 h2 → zg G mX10_pairOf (d + 1) 10 [.ref a0, .int x1, .int x2, .int (0 : Int32), .int (0 : Int32), zU] [] h2 (zPI Q))) : zg G mX10_pairOf (d + 1) 0 [.ref a0, .int x1, .int x2, zU, zU, zU] [] h (zPI Q) := by
  refine z_aload_n 0 rfl rfl ?_
  refine z_iload_n 1 rfl rfl ?_
  obtain ⟨o4, B⟩ := B
  obtain ⟨Q1, K3, B⟩ := B
  refine z_cVV1 (ν := mX10_layMarks) 2 rfl rfl fX10_layMarks gX10_443 ⟨_, rfl, rfl⟩ (by decide) o4 (Nat.le_of_ble_eq_true rfl) K3 (fun h2 q => ?_)
  have B := B h2 q
  refine z_iconst (v := 0) 3 rfl (by decide) ?_
  refine z_istore_n 4 rfl (by decide) rfl ?_
  refine z_iconst (v := 0) 5 rfl (by decide) ?_
  refine z_istore 6 rfl (by decide) rfl ?_
  exact B
theorem cn_X10_pairOf {G : zG} {d : Nat} {h : zMem} {Q : Int32 → zMem → Prop} {a0 : Nat} {x1 : Int32} {x2 : Int32} (B : zg G mX10_pairOf (d + 1) 0 [.ref a0, .int x1, .int x2, zU, zU, zU] [] h (zPI Q)) : zConI G mX10_pairOf (d + 1) [.ref a0, .int x1, .int x2] h Q := zcon0 (by decide +kernel) eX10_pairOf (Nat.le_of_ble_eq_true rfl) rfl B
set_option maxRecDepth 100000 in
set_option maxHeartbeats 4000000 in
theorem sg_X10_pairOf_10 {G : zG} {d : Nat} {h : zMem} {Q : Int32 → zMem → Prop} {a0 : Nat} {x1 : Int32} {x2 : Int32} {x3 : Int32} {x4 : Int32} (B : zO h a0 9 ∧ ∃ r2, zR h a0 3 = some r2 ∧ zO h r2 100 ∧ vp_in (1 : Int32) (zLen h r2) ∧ ((zI h r2 (1 : Int32).toNatClampNeg) ≤ x4 → (¬ x2 = (-1 : Int32) → Q (-2 : Int32) h) ∧ (x2 = (-1 : Int32) → Q x3 h)) ∧ (¬ (zI h r2 (1 : Int32).toNatClampNeg) ≤ x4 → zg G mX10_pairOf (d + 1) 27 [.ref a0, .int x1, .int x2, .int x3, .int x4, .int (x4 + (1 : Int32))] [] h (zPI Q))) : zg G mX10_pairOf (d + 1) 10 [.ref a0, .int x1, .int x2, .int x3, .int x4, zU] [] h (zPI Q) := by
  refine z_iload 7 rfl rfl ?_
  refine z_aload_n 8 rfl rfl ?_
  obtain ⟨o1, B⟩ := B
  obtain ⟨r2, hr2, B⟩ := B
  refine z_getR 9 rfl lX10_13 rfl o1 hr2 ?_
  refine z_iconst (v := 1) 10 rfl (by decide) ?_
  obtain ⟨o3, B⟩ := B
  obtain ⟨o4, B⟩ := B
  refine z_iald 11 rfl o3 o4 ?_
  refine z_icmp_ge 12 87 rfl (by decide) ⟨fun c5 => ?_, fun c5 => ?_⟩
  · have B := B.1 c5
    refine z_iload_n 47 rfl rfl ?_
    refine z_iconst (v := -1) 48 rfl (by decide) ?_
    refine z_icmp_ne 49 96 rfl (by decide) ⟨fun c6 => ?_, fun c6 => ?_⟩
    · have B := B.1 c6
      refine z_bipush (v := -2) 52 rfl (by decide) ?_
      exact z_iret 53 rfl rfl rfl ⟨rfl, rfl⟩ ⟨_, rfl, B⟩
    · have B := B.2 c6
      refine z_iload_n 50 rfl rfl ?_
      refine z_goto 51 98 rfl (by decide) ?_
      exact z_iret 53 rfl rfl rfl ⟨rfl, rfl⟩ ⟨_, rfl, B⟩
  · have B := B.2 c5
    refine z_iload 13 rfl rfl ?_
    refine z_iconst (v := 1) 14 rfl (by decide) ?_
    refine z_iadd 15 rfl ?_
    refine z_istore 16 rfl (by decide) rfl ?_
    exact B
set_option maxRecDepth 100000 in
set_option maxHeartbeats 4000000 in
theorem sg_X10_pairOf_27 {G : zG} {d : Nat} {h : zMem} {Q : Int32 → zMem → Prop} {a0 : Nat} {x1 : Int32} {x2 : Int32} {x3 : Int32} {x4 : Int32} {x5 : Int32} (B : zO h a0 9 ∧ ∃ r2, zR h a0 3 = some r2 ∧ zO h r2 100 ∧ vp_in (1 : Int32) (zLen h r2) ∧ ((zI h r2 (1 : Int32).toNatClampNeg) ≤ x5 → zg G mX10_pairOf (d + 1) 10 [.ref a0, .int x1, .int x2, .int x3, .int (x4 + 1), zU] [] h (zPI Q)) ∧ (¬ (zI h r2 (1 : Int32).toNatClampNeg) ≤ x5 → ∃ r6, zR h a0 57 = some r6 ∧ zO h r6 100 ∧ vp_in x4 (zLen h r6) ∧ vp_in x5 (zLen h r6) ∧ ((zI h r6 x4.toNatClampNeg) = (zI h r6 x5.toNatClampNeg) → (¬ x3 = x2 → zg G mX10_pairOf (d + 1) 27 [.ref a0, .int x1, .int x2, .int (x3 + 1), .int x4, .int (x5 + 1)] [] h (zPI Q)) ∧ (x3 = x2 → Q (((10 : Int32) * x4) + x5) h)) ∧ (¬ (zI h r6 x4.toNatClampNeg) = (zI h r6 x5.toNatClampNeg) → zg G mX10_pairOf (d + 1) 27 [.ref a0, .int x1, .int x2, .int x3, .int x4, .int (x5 + 1)] [] h (zPI Q)))) : zg G mX10_pairOf (d + 1) 27 [.ref a0, .int x1, .int x2, .int x3, .int x4, .int x5] [] h (zPI Q) := by
  refine z_iload 17 rfl rfl ?_
  refine z_aload_n 18 rfl rfl ?_
  obtain ⟨o1, B⟩ := B
  obtain ⟨r2, hr2, B⟩ := B
  refine z_getR 19 rfl lX10_13 rfl o1 hr2 ?_
  refine z_iconst (v := 1) 20 rfl (by decide) ?_
  obtain ⟨o3, B⟩ := B
  obtain ⟨o4, B⟩ := B
  refine z_iald 21 rfl o3 o4 ?_
  refine z_icmp_ge 22 81 rfl (by decide) ⟨fun c5 => ?_, fun c5 => ?_⟩
  · have B := B.1 c5
    refine z_iinc (v := 1) 45 rfl rfl (by decide) (by decide) rfl ?_
    refine z_goto 46 10 rfl (by decide) ?_
    refine z_drop 5 ?_
    exact B
  · have B := B.2 c5
    refine z_aload_n 23 rfl rfl ?_
    obtain ⟨r6, hr6, B⟩ := B
    refine z_getR 24 rfl lX10_126 rfl o1 hr6 ?_
    refine z_iload 25 rfl rfl ?_
    obtain ⟨o7, B⟩ := B
    obtain ⟨o8, B⟩ := B
    refine z_iald 26 rfl o7 o8 ?_
    refine z_aload_n 27 rfl rfl ?_
    refine z_getR 28 rfl lX10_126 rfl o1 hr6 ?_
    refine z_iload 29 rfl rfl ?_
    obtain ⟨o9, B⟩ := B
    refine z_iald 30 rfl o7 o9 ?_
    refine z_icmp_eq 31 58 rfl (by decide) ⟨fun c10 => ?_, fun c10 => ?_⟩
    · have B := B.1 c10
      refine z_iload_n 33 rfl rfl ?_
      refine z_iload_n 34 rfl rfl ?_
      refine z_icmp_ne 35 72 rfl (by decide) ⟨fun c11 => ?_, fun c11 => ?_⟩
      · have B := B.1 c11
        refine z_iinc (v := 1) 42 rfl rfl (by decide) (by decide) rfl ?_
        refine z_iinc (v := 1) 43 rfl rfl (by decide) (by decide) rfl ?_
        refine z_goto 44 27 rfl (by decide) ?_
        exact B
      · have B := B.2 c11
        refine z_bipush (v := 10) 36 rfl (by decide) ?_
        refine z_iload 37 rfl rfl ?_
        refine z_imul 38 rfl ?_
        refine z_iload 39 rfl rfl ?_
        refine z_iadd 40 rfl ?_
        exact z_iret 41 rfl rfl rfl ⟨rfl, rfl⟩ ⟨_, rfl, B⟩
    · have B := B.2 c10
      refine z_goto 32 75 rfl (by decide) ?_
      refine z_iinc (v := 1) 43 rfl rfl (by decide) (by decide) rfl ?_
      refine z_goto 44 27 rfl (by decide) ?_
      exact B
set_option maxRecDepth 100000 in
set_option maxHeartbeats 4000000 in
theorem sg_X10_mixedUp_0 {G : zG} {d : Nat} {h : zMem} {Q : Int32 → zMem → Prop} {a0 : Nat} {x1 : Int32} (B : zO h a0 9 ∧ ∃ Q2 : Int32 → zMem → Prop, zConI G mX10_isMonk d [.ref a0, .int x1] (zsI h a0 0 (0 : Int32)) Q2 ∧ (∀ v5 h3, Q2 v5 h3 → (v5 = 0 → Q (-1 : Int32) h3) ∧ (¬ v5 = 0 → zO h3 a0 9 ∧ ∃ Q7 : Int32 → zMem → Prop, zConI G mX10_pairOf d [.ref a0, .int x1, .int (-1 : Int32)] h3 Q7 ∧ (∀ v10 h8, Q7 v10 h8 → Q v10 h8)))) : zg G mX10_mixedUp (d + 1) 0 [.ref a0, .int x1] [] h (zPI Q) := by
  refine z_aload_n 0 rfl rfl ?_
  refine z_iconst (v := 0) 1 rfl (by decide) ?_
  obtain ⟨o1, B⟩ := B
  refine z_putI 2 rfl lX10_160 ⟨_, _, _, rfl, rfl⟩ rfl rfl rfl o1 ?_
  refine z_aload_n 3 rfl rfl ?_
  refine z_iload_n 4 rfl rfl ?_
  obtain ⟨Q2, K4, B⟩ := B
  refine z_cVI1 (ν := mX10_isMonk) 5 rfl rfl fX10_isMonk gX10_415 ⟨_, rfl, rfl⟩ (by decide) o1 (Nat.le_of_ble_eq_true rfl) K4 (fun v5 h3 q => ?_)
  have B := B v5 h3 q
  refine z_if_eq 6 22 rfl (by decide) ⟨fun c6 => ?_, fun c6 => ?_⟩
  · have B := B.1 c6
    refine z_iconst (v := -1) 12 rfl (by decide) ?_
    exact z_iret 13 rfl rfl rfl ⟨rfl, rfl⟩ ⟨_, rfl, B⟩
  · have B := B.2 c6
    refine z_aload_n 7 rfl rfl ?_
    refine z_iload_n 8 rfl rfl ?_
    refine z_iconst (v := -1) 9 rfl (by decide) ?_
    obtain ⟨o11, B⟩ := B
    obtain ⟨Q7, K9, B⟩ := B
    refine z_cVI2 (ν := mX10_pairOf) 10 rfl rfl fX10_pairOf gX10_446 ⟨_, rfl, rfl⟩ (by decide) o11 (Nat.le_of_ble_eq_true rfl) K9 (fun v10 h8 q => ?_)
    have B := B v10 h8 q
    refine z_goto 11 23 rfl (by decide) ?_
    exact z_iret 13 rfl rfl rfl ⟨rfl, rfl⟩ ⟨_, rfl, B⟩
theorem cn_X10_mixedUp {G : zG} {d : Nat} {h : zMem} {Q : Int32 → zMem → Prop} {a0 : Nat} {x1 : Int32} (B : zg G mX10_mixedUp (d + 1) 0 [.ref a0, .int x1] [] h (zPI Q)) : zConI G mX10_mixedUp (d + 1) [.ref a0, .int x1] h Q := zcon0 (by decide +kernel) eX10_mixedUp (Nat.le_of_ble_eq_true rfl) rfl B
set_option maxRecDepth 100000 in
set_option maxHeartbeats 4000000 in
theorem sg_X10_pair_0 {G : zG} {d : Nat} {h : zMem} {Q : Int32 → zMem → Prop} {a0 : Nat} {x1 : Int32} {x2 : Int32} (B : zO h a0 9 ∧ ∃ Q2 : Int32 → zMem → Prop, zConI G mX10_isMonk d [.ref a0, .int x1] (zsI h a0 0 (0 : Int32)) Q2 ∧ (∀ v5 h3, Q2 v5 h3 → (v5 = 0 → Q (-1 : Int32) h3) ∧ (¬ v5 = 0 → (x2 < 0 → Q (-1 : Int32) h3) ∧ (¬ x2 < 0 → zO h3 a0 9 ∧ ∃ Q8 : Int32 → zMem → Prop, zConI G mX10_pairOf d [.ref a0, .int x1, .int x2] h3 Q8 ∧ (∀ v11 h9, Q8 v11 h9 → Q v11 h9))))) : zg G mX10_pair (d + 1) 0 [.ref a0, .int x1, .int x2] [] h (zPI Q) := by
  refine z_aload_n 0 rfl rfl ?_
  refine z_iconst (v := 0) 1 rfl (by decide) ?_
  obtain ⟨o1, B⟩ := B
  refine z_putI 2 rfl lX10_160 ⟨_, _, _, rfl, rfl⟩ rfl rfl rfl o1 ?_
  refine z_aload_n 3 rfl rfl ?_
  refine z_iload_n 4 rfl rfl ?_
  obtain ⟨Q2, K4, B⟩ := B
  refine z_cVI1 (ν := mX10_isMonk) 5 rfl rfl fX10_isMonk gX10_415 ⟨_, rfl, rfl⟩ (by decide) o1 (Nat.le_of_ble_eq_true rfl) K4 (fun v5 h3 q => ?_)
  have B := B v5 h3 q
  refine z_if_eq 6 26 rfl (by decide) ⟨fun c6 => ?_, fun c6 => ?_⟩
  · have B := B.1 c6
    refine z_iconst (v := -1) 14 rfl (by decide) ?_
    exact z_iret 15 rfl rfl rfl ⟨rfl, rfl⟩ ⟨_, rfl, B⟩
  · have B := B.2 c6
    refine z_iload_n 7 rfl rfl ?_
    refine z_if_lt 8 26 rfl (by decide) ⟨fun c7 => ?_, fun c7 => ?_⟩
    · have B := B.1 c7
      refine z_iconst (v := -1) 14 rfl (by decide) ?_
      exact z_iret 15 rfl rfl rfl ⟨rfl, rfl⟩ ⟨_, rfl, B⟩
    · have B := B.2 c7
      refine z_aload_n 9 rfl rfl ?_
      refine z_iload_n 10 rfl rfl ?_
      refine z_iload_n 11 rfl rfl ?_
      obtain ⟨o12, B⟩ := B
      obtain ⟨Q8, K10, B⟩ := B
      refine z_cVI2 (ν := mX10_pairOf) 12 rfl rfl fX10_pairOf gX10_446 ⟨_, rfl, rfl⟩ (by decide) o12 (Nat.le_of_ble_eq_true rfl) K10 (fun v11 h9 q => ?_)
      have B := B v11 h9 q
      refine z_goto 13 27 rfl (by decide) ?_
      exact z_iret 15 rfl rfl rfl ⟨rfl, rfl⟩ ⟨_, rfl, B⟩
theorem cn_X10_pair {G : zG} {d : Nat} {h : zMem} {Q : Int32 → zMem → Prop} {a0 : Nat} {x1 : Int32} {x2 : Int32} (B : zg G mX10_pair (d + 1) 0 [.ref a0, .int x1, .int x2] [] h (zPI Q)) : zConI G mX10_pair (d + 1) [.ref a0, .int x1, .int x2] h Q := zcon0 (by decide +kernel) eX10_pair (Nat.le_of_ble_eq_true rfl) rfl B
set_option maxRecDepth 100000 in
set_option maxHeartbeats 4000000 in
theorem sg_X10_mending_0 {G : zG} {d : Nat} {h : zMem} {Q : Int32 → zMem → Prop} {a0 : Nat} {x1 : Int32} {x2 : Int32} {x3 : Int32} {x4 : Int32} (B : zO h a0 9 ∧ ∃ Q2 : Int32 → zMem → Prop, zConI G mX10_isMonk d [.ref a0, .int x1] (zsI h a0 0 (0 : Int32)) Q2 ∧ (∀ v5 h3, Q2 v5 h3 → (v5 = 0 → Q (-1 : Int32) h3) ∧ (¬ v5 = 0 → zO h3 a0 9 ∧ ∃ Q7 : Int32 → zMem → Prop, zConI G mX10_isDay d [.ref a0, .int x2] h3 Q7 ∧ (∀ v10 h8, Q7 v10 h8 → (v10 = 0 → Q (-1 : Int32) h8) ∧ (¬ v10 = 0 → zO h8 a0 9 ∧ ∃ Q12 : Int32 → zMem → Prop, zConI G mX10_isDay d [.ref a0, .int x3] h8 Q12 ∧ (∀ v15 h13, Q12 v15 h13 → (v15 = 0 → Q (-1 : Int32) h13) ∧ (¬ v15 = 0 → (x2 = x3 → Q (-1 : Int32) h13) ∧ (¬ x2 = x3 → (x4 < 0 → Q (-1 : Int32) h13) ∧ (¬ x4 < 0 → (x4 ≤ (1 : Int32) → zO h13 a0 9 ∧ ∃ Q20 : Int32 → zMem → Prop, zConI G mX10_markOf d [.ref a0, .int (0 : Int32), .int x1, .int x2] h13 Q20 ∧ (∀ v23 h21, Q20 v23 h21 → zO h21 a0 9 ∧ ∃ Q24 : Int32 → zMem → Prop, zConI G mX10_markOf d [.ref a0, .int (0 : Int32), .int x1, .int x3] h21 Q24 ∧ (∀ v27 h25, Q24 v27 h25 → (v23 = v27 → zO h25 a0 9 ∧ zg G mX10_mending (d + 1) 84 [.ref a0, .int x1, .int x2, .int x3, .int x4, .int (-1 : Int32), zU] [] (zsI (zsI h25 a0 52 (if x2 < x3 then x3 else x2)) a0 54 (0 : Int32)) (zPI Q)) ∧ (¬ v23 = v27 → Q (-3 : Int32) h25)))) ∧ (¬ x4 ≤ (1 : Int32) → Q (-1 : Int32) h13)))))))))) : zg G mX10_mending (d + 1) 0 [.ref a0, .int x1, .int x2, .int x3, .int x4, zU, zU] [] h (zPI Q) := by
  refine z_aload_n 0 rfl rfl ?_
  refine z_iconst (v := 0) 1 rfl (by decide) ?_
  obtain ⟨o1, B⟩ := B
  refine z_putI 2 rfl lX10_160 ⟨_, _, _, rfl, rfl⟩ rfl rfl rfl o1 ?_
  refine z_aload_n 3 rfl rfl ?_
  refine z_iload_n 4 rfl rfl ?_
  obtain ⟨Q2, K4, B⟩ := B
  refine z_cVI1 (ν := mX10_isMonk) 5 rfl rfl fX10_isMonk gX10_415 ⟨_, rfl, rfl⟩ (by decide) o1 (Nat.le_of_ble_eq_true rfl) K4 (fun v5 h3 q => ?_)
  have B := B v5 h3 q
  refine z_if_eq 6 45 rfl (by decide) ⟨fun c6 => ?_, fun c6 => ?_⟩
  · have B := B.1 c6
    refine z_iconst (v := -1) 23 rfl (by decide) ?_
    exact z_iret 24 rfl rfl rfl ⟨rfl, rfl⟩ ⟨_, rfl, B⟩
  · have B := B.2 c6
    refine z_aload_n 7 rfl rfl ?_
    refine z_iload_n 8 rfl rfl ?_
    obtain ⟨o33, B⟩ := B
    obtain ⟨Q7, K9, B⟩ := B
    refine z_cVI1 (ν := mX10_isDay) 9 rfl rfl fX10_isDay gX10_424 ⟨_, rfl, rfl⟩ (by decide) o33 (Nat.le_of_ble_eq_true rfl) K9 (fun v10 h8 q => ?_)
    have B := B v10 h8 q
    refine z_if_eq 10 45 rfl (by decide) ⟨fun c11 => ?_, fun c11 => ?_⟩
    · have B := B.1 c11
      refine z_iconst (v := -1) 23 rfl (by decide) ?_
      exact z_iret 24 rfl rfl rfl ⟨rfl, rfl⟩ ⟨_, rfl, B⟩
    · have B := B.2 c11
      refine z_aload_n 11 rfl rfl ?_
      refine z_iload_n 12 rfl rfl ?_
      obtain ⟨o32, B⟩ := B
      obtain ⟨Q12, K14, B⟩ := B
      refine z_cVI1 (ν := mX10_isDay) 13 rfl rfl fX10_isDay gX10_424 ⟨_, rfl, rfl⟩ (by decide) o32 (Nat.le_of_ble_eq_true rfl) K14 (fun v15 h13 q => ?_)
      have B := B v15 h13 q
      refine z_if_eq 14 45 rfl (by decide) ⟨fun c16 => ?_, fun c16 => ?_⟩
      · have B := B.1 c16
        refine z_iconst (v := -1) 23 rfl (by decide) ?_
        exact z_iret 24 rfl rfl rfl ⟨rfl, rfl⟩ ⟨_, rfl, B⟩
      · have B := B.2 c16
        refine z_iload_n 15 rfl rfl ?_
        refine z_iload_n 16 rfl rfl ?_
        refine z_icmp_eq 17 45 rfl (by decide) ⟨fun c17 => ?_, fun c17 => ?_⟩
        · have B := B.1 c17
          refine z_iconst (v := -1) 23 rfl (by decide) ?_
          exact z_iret 24 rfl rfl rfl ⟨rfl, rfl⟩ ⟨_, rfl, B⟩
        · have B := B.2 c17
          refine z_iload 18 rfl rfl ?_
          refine z_if_lt 19 45 rfl (by decide) ⟨fun c18 => ?_, fun c18 => ?_⟩
          · have B := B.1 c18
            refine z_iconst (v := -1) 23 rfl (by decide) ?_
            exact z_iret 24 rfl rfl rfl ⟨rfl, rfl⟩ ⟨_, rfl, B⟩
          · have B := B.2 c18
            refine z_iload 20 rfl rfl ?_
            refine z_iconst (v := 1) 21 rfl (by decide) ?_
            refine z_icmp_le 22 47 rfl (by decide) ⟨fun c19 => ?_, fun c19 => ?_⟩
            · have B := B.1 c19
              refine z_aload_n 25 rfl rfl ?_
              refine z_iconst (v := 0) 26 rfl (by decide) ?_
              refine z_iload_n 27 rfl rfl ?_
              refine z_iload_n 28 rfl rfl ?_
              obtain ⟨o31, B⟩ := B
              obtain ⟨Q20, K22, B⟩ := B
              refine z_cVI3 (ν := mX10_markOf) 29 rfl rfl fX10_markOf gX10_397 ⟨_, rfl, rfl⟩ (by decide) o31 (Nat.le_of_ble_eq_true rfl) K22 (fun v23 h21 q => ?_)
              have B := B v23 h21 q
              refine z_aload_n 30 rfl rfl ?_
              refine z_iconst (v := 0) 31 rfl (by decide) ?_
              refine z_iload_n 32 rfl rfl ?_
              refine z_iload_n 33 rfl rfl ?_
              obtain ⟨o30, B⟩ := B
              obtain ⟨Q24, K26, B⟩ := B
              refine z_cVI3 (ν := mX10_markOf) 34 rfl rfl fX10_markOf gX10_397 ⟨_, rfl, rfl⟩ (by decide) o30 (Nat.le_of_ble_eq_true rfl) K26 (fun v27 h25 q => ?_)
              have B := B v27 h25 q
              refine z_icmp_eq 35 67 rfl (by decide) ⟨fun c28 => ?_, fun c28 => ?_⟩
              · have B := B.1 c28
                refine z_aload_n 38 rfl rfl ?_
                refine z_iload_n 39 rfl rfl ?_
                refine z_iload_n 40 rfl rfl ?_
                refine z_mmax 41 rfl rfl gmX10_449 (Nat.le_of_ble_eq_true rfl) ?_
                obtain ⟨o29, B⟩ := B
                refine z_putI 42 rfl lX10_114 ⟨_, _, _, rfl, rfl⟩ rfl rfl rfl o29 ?_
                refine z_iconst (v := -1) 43 rfl (by decide) ?_
                refine z_istore 44 rfl (by decide) rfl ?_
                refine z_aload_n 45 rfl rfl ?_
                refine z_iconst (v := 0) 46 rfl (by decide) ?_
                refine z_putI 47 rfl lX10_352 ⟨_, _, _, rfl, rfl⟩ rfl rfl rfl o29 ?_
                exact B
              · have B := B.2 c28
                refine z_bipush (v := -3) 36 rfl (by decide) ?_
                exact z_iret 37 rfl rfl rfl ⟨rfl, rfl⟩ ⟨_, rfl, B⟩
            · have B := B.2 c19
              refine z_iconst (v := -1) 23 rfl (by decide) ?_
              exact z_iret 24 rfl rfl rfl ⟨rfl, rfl⟩ ⟨_, rfl, B⟩
theorem cn_X10_mending {G : zG} {d : Nat} {h : zMem} {Q : Int32 → zMem → Prop} {a0 : Nat} {x1 : Int32} {x2 : Int32} {x3 : Int32} {x4 : Int32} (B : zg G mX10_mending (d + 1) 0 [.ref a0, .int x1, .int x2, .int x3, .int x4, zU, zU] [] h (zPI Q)) : zConI G mX10_mending (d + 1) [.ref a0, .int x1, .int x2, .int x3, .int x4] h Q := zcon0 (by decide +kernel) eX10_mending (Nat.le_of_ble_eq_true rfl) rfl B
set_option maxRecDepth 100000 in
set_option maxHeartbeats 4000000 in
theorem sg_X10_mending_84 {G : zG} {d : Nat} {h : zMem} {Q : Int32 → zMem → Prop} {a0 : Nat} {x1 : Int32} {x2 : Int32} {x3 : Int32} {x4 : Int32} {x5 : Int32} (B : zO h a0 9 ∧ ((99 : Int32) ≤ (zI h a0 54) → (¬ x5 = (-1 : Int32) → (¬ x4 = 0 → Q (zI h a0 54) (zsI (zsI (zsI h a0 52 (-1 : Int32)) a0 53 (-1 : Int32)) a0 54 (0 : Int32))) ∧ (x4 = 0 → Q x5 (zsI (zsI (zsI h a0 52 (-1 : Int32)) a0 53 (-1 : Int32)) a0 54 (0 : Int32)))) ∧ (x5 = (-1 : Int32) → Q (-2 : Int32) (zsI (zsI (zsI h a0 52 (-1 : Int32)) a0 53 (-1 : Int32)) a0 54 (0 : Int32)))) ∧ (¬ (99 : Int32) ≤ (zI h a0 54) → (¬ x5 = (-1 : Int32) → (¬ x5 = (-1 : Int32) → (¬ x4 = 0 → Q (zI h a0 54) (zsI (zsI (zsI h a0 52 (-1 : Int32)) a0 53 (-1 : Int32)) a0 54 (0 : Int32))) ∧ (x4 = 0 → Q x5 (zsI (zsI (zsI h a0 52 (-1 : Int32)) a0 53 (-1 : Int32)) a0 54 (0 : Int32)))) ∧ (x5 = (-1 : Int32) → Q (-2 : Int32) (zsI (zsI (zsI h a0 52 (-1 : Int32)) a0 53 (-1 : Int32)) a0 54 (0 : Int32)))) ∧ (x5 = (-1 : Int32) → ∃ r8, zR h a0 3 = some r8 ∧ zO h r8 100 ∧ vp_in (0 : Int32) (zLen h r8) ∧ zg G mX10_mending (d + 1) 119 [.ref a0, .int x1, .int x2, .int x3, .int x4, .int x5, .int ((zI (zsI h a0 54 ((zI h a0 54) + (1 : Int32))) r8 (0 : Int32).toNatClampNeg) - (1 : Int32))] [] (zsI h a0 54 ((zI h a0 54) + (1 : Int32))) (zPI Q)))) : zg G mX10_mending (d + 1) 84 [.ref a0, .int x1, .int x2, .int x3, .int x4, .int x5, zU] [] h (zPI Q) := by
  refine z_aload_n 48 rfl rfl ?_
  obtain ⟨o1, B⟩ := B
  refine z_getI 49 rfl lX10_352 rfl o1 ?_
  refine z_bipush (v := 99) 50 rfl (by decide) ?_
  refine z_icmp_ge 51 160 rfl (by decide) ⟨fun c2 => ?_, fun c2 => ?_⟩
  · have B := B.1 c2
    refine z_aload_n 89 rfl rfl ?_
    refine z_getI 90 rfl lX10_352 rfl o1 ?_
    refine z_istore 91 rfl (by decide) rfl ?_
    refine z_aload_n 92 rfl rfl ?_
    refine z_iconst (v := -1) 93 rfl (by decide) ?_
    refine z_putI 94 rfl lX10_114 ⟨_, _, _, rfl, rfl⟩ rfl rfl rfl o1 ?_
    refine z_aload_n 95 rfl rfl ?_
    refine z_iconst (v := -1) 96 rfl (by decide) ?_
    refine z_putI 97 rfl lX10_117 ⟨_, _, _, rfl, rfl⟩ rfl rfl rfl o1 ?_
    refine z_aload_n 98 rfl rfl ?_
    refine z_iconst (v := 0) 99 rfl (by decide) ?_
    refine z_putI 100 rfl lX10_352 ⟨_, _, _, rfl, rfl⟩ rfl rfl rfl o1 ?_
    refine z_iload 101 rfl rfl ?_
    refine z_iconst (v := -1) 102 rfl (by decide) ?_
    refine z_icmp_ne 103 192 rfl (by decide) ⟨fun c3 => ?_, fun c3 => ?_⟩
    · have B := B.1 c3
      refine z_iload 106 rfl rfl ?_
      refine z_if_ne 107 202 rfl (by decide) ⟨fun c4 => ?_, fun c4 => ?_⟩
      · have B := B.1 c4
        refine z_iload 110 rfl rfl ?_
        exact z_iret 111 rfl rfl rfl ⟨rfl, rfl⟩ ⟨_, rfl, B⟩
      · have B := B.2 c4
        refine z_iload 108 rfl rfl ?_
        refine z_goto 109 204 rfl (by decide) ?_
        exact z_iret 111 rfl rfl rfl ⟨rfl, rfl⟩ ⟨_, rfl, B⟩
    · have B := B.2 c3
      refine z_bipush (v := -2) 104 rfl (by decide) ?_
      refine z_goto 105 204 rfl (by decide) ?_
      exact z_iret 111 rfl rfl rfl ⟨rfl, rfl⟩ ⟨_, rfl, B⟩
  · have B := B.2 c2
    refine z_iload 52 rfl rfl ?_
    refine z_iconst (v := -1) 53 rfl (by decide) ?_
    refine z_icmp_ne 54 160 rfl (by decide) ⟨fun c5 => ?_, fun c5 => ?_⟩
    · have B := B.1 c5
      refine z_aload_n 89 rfl rfl ?_
      refine z_getI 90 rfl lX10_352 rfl o1 ?_
      refine z_istore 91 rfl (by decide) rfl ?_
      refine z_aload_n 92 rfl rfl ?_
      refine z_iconst (v := -1) 93 rfl (by decide) ?_
      refine z_putI 94 rfl lX10_114 ⟨_, _, _, rfl, rfl⟩ rfl rfl rfl o1 ?_
      refine z_aload_n 95 rfl rfl ?_
      refine z_iconst (v := -1) 96 rfl (by decide) ?_
      refine z_putI 97 rfl lX10_117 ⟨_, _, _, rfl, rfl⟩ rfl rfl rfl o1 ?_
      refine z_aload_n 98 rfl rfl ?_
      refine z_iconst (v := 0) 99 rfl (by decide) ?_
      refine z_putI 100 rfl lX10_352 ⟨_, _, _, rfl, rfl⟩ rfl rfl rfl o1 ?_
      refine z_iload 101 rfl rfl ?_
      refine z_iconst (v := -1) 102 rfl (by decide) ?_
      refine z_icmp_ne 103 192 rfl (by decide) ⟨fun c6 => ?_, fun c6 => ?_⟩
      · have B := B.1 c6
        refine z_iload 106 rfl rfl ?_
        refine z_if_ne 107 202 rfl (by decide) ⟨fun c7 => ?_, fun c7 => ?_⟩
        · have B := B.1 c7
          refine z_iload 110 rfl rfl ?_
          exact z_iret 111 rfl rfl rfl ⟨rfl, rfl⟩ ⟨_, rfl, B⟩
        · have B := B.2 c7
          refine z_iload 108 rfl rfl ?_
          refine z_goto 109 204 rfl (by decide) ?_
          exact z_iret 111 rfl rfl rfl ⟨rfl, rfl⟩ ⟨_, rfl, B⟩
      · have B := B.2 c6
        refine z_bipush (v := -2) 104 rfl (by decide) ?_
        refine z_goto 105 204 rfl (by decide) ?_
        exact z_iret 111 rfl rfl rfl ⟨rfl, rfl⟩ ⟨_, rfl, B⟩
    · have B := B.2 c5
      refine z_aload_n 55 rfl rfl ?_
      refine z_dup 56 rfl rfl ?_
      refine z_getI 57 rfl lX10_352 rfl o1 ?_
      refine z_iconst (v := 1) 58 rfl (by decide) ?_
      refine z_iadd 59 rfl ?_
      refine z_putI 60 rfl lX10_352 ⟨_, _, _, rfl, rfl⟩ rfl rfl rfl o1 ?_
      refine z_aload_n 61 rfl rfl ?_
      obtain ⟨r8, hr8, B⟩ := B
      refine z_getR 62 rfl lX10_13 rfl o1 hr8 ?_
      refine z_iconst (v := 0) 63 rfl (by decide) ?_
      obtain ⟨o9, B⟩ := B
      obtain ⟨o10, B⟩ := B
      refine z_iald 64 rfl o9 o10 ?_
      refine z_iconst (v := 1) 65 rfl (by decide) ?_
      refine z_isub 66 rfl ?_
      refine z_istore 67 rfl (by decide) rfl ?_
      exact B
set_option maxRecDepth 100000 in
set_option maxHeartbeats 4000000 in
theorem sg_X10_mending_119 {G : zG} {d : Nat} {h : zMem} {Q : Int32 → zMem → Prop} {a0 : Nat} {x1 : Int32} {x2 : Int32} {x3 : Int32} {x4 : Int32} {x5 : Int32} {x6 : Int32} (B : (x6 < 0 → zg G mX10_mending (d + 1) 84 [.ref a0, .int x1, .int x2, .int x3, .int x4, .int x5, zU] [] h (zPI Q)) ∧ (¬ x6 < 0 → zO h a0 9 ∧ ∃ Q3 : Int32 → zMem → Prop, zConI G mX10_markOf d [.ref a0, .int (0 : Int32), .int x1, .int x2] (zsI h a0 53 x6) Q3 ∧ (∀ v6 h4, Q3 v6 h4 → zO h4 a0 9 ∧ ∃ Q7 : Int32 → zMem → Prop, zConI G mX10_markOf d [.ref a0, .int (0 : Int32), .int x1, .int x3] h4 Q7 ∧ (∀ v10 h8, Q7 v10 h8 → (v6 = v10 → zg G mX10_mending (d + 1) 119 [.ref a0, .int x1, .int x2, .int x3, .int x4, .int x5, .int (x6 + (-1))] [] h8 (zPI Q)) ∧ (¬ v6 = v10 → zg G mX10_mending (d + 1) 119 [.ref a0, .int x1, .int x2, .int x3, .int x4, .int x6, .int (x6 + (-1))] [] h8 (zPI Q)))))) : zg G mX10_mending (d + 1) 119 [.ref a0, .int x1, .int x2, .int x3, .int x4, .int x5, .int x6] [] h (zPI Q) := by
  refine z_iload 68 rfl rfl ?_
  refine z_if_lt 69 157 rfl (by decide) ⟨fun c1 => ?_, fun c1 => ?_⟩
  · have B := B.1 c1
    refine z_goto 88 84 rfl (by decide) ?_
    refine z_drop 6 ?_
    exact B
  · have B := B.2 c1
    refine z_aload_n 70 rfl rfl ?_
    refine z_iload 71 rfl rfl ?_
    obtain ⟨o2, B⟩ := B
    refine z_putI 72 rfl lX10_117 ⟨_, _, _, rfl, rfl⟩ rfl rfl rfl o2 ?_
    refine z_aload_n 73 rfl rfl ?_
    refine z_iconst (v := 0) 74 rfl (by decide) ?_
    refine z_iload_n 75 rfl rfl ?_
    refine z_iload_n 76 rfl rfl ?_
    obtain ⟨Q3, K5, B⟩ := B
    refine z_cVI3 (ν := mX10_markOf) 77 rfl rfl fX10_markOf gX10_397 ⟨_, rfl, rfl⟩ (by decide) o2 (Nat.le_of_ble_eq_true rfl) K5 (fun v6 h4 q => ?_)
    have B := B v6 h4 q
    refine z_aload_n 78 rfl rfl ?_
    refine z_iconst (v := 0) 79 rfl (by decide) ?_
    refine z_iload_n 80 rfl rfl ?_
    refine z_iload_n 81 rfl rfl ?_
    obtain ⟨o12, B⟩ := B
    obtain ⟨Q7, K9, B⟩ := B
    refine z_cVI3 (ν := mX10_markOf) 82 rfl rfl fX10_markOf gX10_397 ⟨_, rfl, rfl⟩ (by decide) o12 (Nat.le_of_ble_eq_true rfl) K9 (fun v10 h8 q => ?_)
    have B := B v10 h8 q
    refine z_icmp_eq 83 151 rfl (by decide) ⟨fun c11 => ?_, fun c11 => ?_⟩
    · have B := B.1 c11
      refine z_iinc (v := -1) 86 rfl rfl (by decide) (by decide) rfl ?_
      refine z_goto 87 119 rfl (by decide) ?_
      exact B
    · have B := B.2 c11
      refine z_iload 84 rfl rfl ?_
      refine z_istore 85 rfl (by decide) rfl ?_
      refine z_iinc (v := -1) 86 rfl rfl (by decide) (by decide) rfl ?_
      refine z_goto 87 119 rfl (by decide) ?_
      exact B
