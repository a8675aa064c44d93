set_option maxRecDepth 100000 in
set_option maxHeartbeats 4000000 in
theorem sg_X3_readSign_0 {G : zG} {d : Nat} {h : zMem} {Q : Int32 → zMem → Prop} {t : Nat}  (hS : zSh1 h t)  (B : ∃ Q1 : Int32 → zMem → Prop, zConI G mX6_strength d [.int (zI h 3 4)] h Q1 ∧ (∀ v4 h2, Q1 v4 h2 → zSh1 h2 t ∧ (¬ (zI h 3 4) = (33 : Int32) → (v4 = 0 → ∃ Q7 : Int32 → zMem → Prop, zConI G mX3_wrong d [.ref 2, .int (1 : Int32)] h2 Q7 ∧ (∀ v10 h8, Q7 v10 h8 → zSh1 h8 t ∧ Q v10 h8)) ∧ (¬ v4 = 0 → (¬ (zI h 3 4) = (14 : Int32) → (¬ v4 = (4 : Int32) → ∃ Q13 : zMem → Prop, zConV G mX3_settle d [.ref 2, .int v4] h2 Q13 ∧ (∀ h14, Q13 h14 → zSh1 h14 t ∧ (¬ v4 = (4 : Int32) → zg G mX3_readSign (d + 1) 104 [.ref 2, .int (zI h 3 4), .int v4] [] h14 (zPI Q)) ∧ (v4 = (4 : Int32) → ∃ Q17 : Int32 → zMem → Prop, zConI G mX3_topStrength d [.ref 2] h14 Q17 ∧ (∀ v20 h18, Q17 v20 h18 → zSh1 h18 t ∧ (¬ v20 = v4 → zg G mX3_readSign (d + 1) 104 [.ref 2, .int (zI h 3 4), .int v4] [] h18 (zPI Q)) ∧ (v20 = v4 → ∃ Q22 : Int32 → zMem → Prop, zConI G mX3_wrong d [.ref 2, .int (1 : Int32)] h18 Q22 ∧ (∀ v25 h23, Q22 v25 h23 → zSh1 h23 t ∧ Q v25 h23)))))) ∧ (v4 = (4 : Int32) → ∃ Q26 : zMem → Prop, zConV G mX3_settle d [.ref 2, .int (v4 + (1 : Int32))] h2 Q26 ∧ (∀ h27, Q26 h27 → zSh1 h27 t ∧ (¬ v4 = (4 : Int32) → zg G mX3_readSign (d + 1) 104 [.ref 2, .int (zI h 3 4), .int v4] [] h27 (zPI Q)) ∧ (v4 = (4 : Int32) → ∃ Q30 : Int32 → zMem → Prop, zConI G mX3_topStrength d [.ref 2] h27 Q30 ∧ (∀ v33 h31, Q30 v33 h31 → zSh1 h31 t ∧ (¬ v33 = v4 → zg G mX3_readSign (d + 1) 104 [.ref 2, .int (zI h 3 4), .int v4] [] h31 (zPI Q)) ∧ (v33 = v4 → ∃ Q35 : Int32 → zMem → Prop, zConI G mX3_wrong d [.ref 2, .int (1 : Int32)] h31 Q35 ∧ (∀ v38 h36, Q35 v38 h36 → zSh1 h36 t ∧ Q v38 h36))))))) ∧ ((zI h 3 4) = (14 : Int32) → ∃ Q39 : Int32 → zMem → Prop, zConI G mX3_wrong d [.ref 2, .int (1 : Int32)] h2 Q39 ∧ (∀ v42 h40, Q39 v42 h40 → zSh1 h40 t ∧ Q v42 h40)))) ∧ ((zI h 3 4) = (33 : Int32) → ((zI h2 2 4) ≤ 0 → (v4 = 0 → ∃ Q45 : Int32 → zMem → Prop, zConI G mX3_wrong d [.ref 2, .int (1 : Int32)] h2 Q45 ∧ (∀ v48 h46, Q45 v48 h46 → zSh1 h46 t ∧ Q v48 h46)) ∧ (¬ v4 = 0 → (¬ (zI h 3 4) = (14 : Int32) → (¬ v4 = (4 : Int32) → ∃ Q51 : zMem → Prop, zConV G mX3_settle d [.ref 2, .int v4] h2 Q51 ∧ (∀ h52, Q51 h52 → zSh1 h52 t ∧ (¬ v4 = (4 : Int32) → zg G mX3_readSign (d + 1) 104 [.ref 2, .int (zI h 3 4), .int v4] [] h52 (zPI Q)) ∧ (v4 = (4 : Int32) → ∃ Q55 : Int32 → zMem → Prop, zConI G mX3_topStrength d [.ref 2] h52 Q55 ∧ (∀ v58 h56, Q55 v58 h56 → zSh1 h56 t ∧ (¬ v58 = v4 → zg G mX3_readSign (d + 1) 104 [.ref 2, .int (zI h 3 4), .int v4] [] h56 (zPI Q)) ∧ (v58 = v4 → ∃ Q60 : Int32 → zMem → Prop, zConI G mX3_wrong d [.ref 2, .int (1 : Int32)] h56 Q60 ∧ (∀ v63 h61, Q60 v63 h61 → zSh1 h61 t ∧ Q v63 h61)))))) ∧ (v4 = (4 : Int32) → ∃ Q64 : zMem → Prop, zConV G mX3_settle d [.ref 2, .int (v4 + (1 : Int32))] h2 Q64 ∧ (∀ h65, Q64 h65 → zSh1 h65 t ∧ (¬ v4 = (4 : Int32) → zg G mX3_readSign (d + 1) 104 [.ref 2, .int (zI h 3 4), .int v4] [] h65 (zPI Q)) ∧ (v4 = (4 : Int32) → ∃ Q68 : Int32 → zMem → Prop, zConI G mX3_topStrength d [.ref 2] h65 Q68 ∧ (∀ v71 h69, Q68 v71 h69 → zSh1 h69 t ∧ (¬ v71 = v4 → zg G mX3_readSign (d + 1) 104 [.ref 2, .int (zI h 3 4), .int v4] [] h69 (zPI Q)) ∧ (v71 = v4 → ∃ Q73 : Int32 → zMem → Prop, zConI G mX3_wrong d [.ref 2, .int (1 : Int32)] h69 Q73 ∧ (∀ v76 h74, Q73 v76 h74 → zSh1 h74 t ∧ Q v76 h74))))))) ∧ ((zI h 3 4) = (14 : Int32) → ∃ Q77 : Int32 → zMem → Prop, zConI G mX3_wrong d [.ref 2, .int (1 : Int32)] h2 Q77 ∧ (∀ v80 h78, Q77 v80 h78 → zSh1 h78 t ∧ Q v80 h78)))) ∧ (¬ (zI h2 2 4) ≤ 0 → ∃ Q81 : zMem → Prop, zConV G mX3_settle d [.ref 2, .int (1 : Int32)] h2 Q81 ∧ (∀ h82, Q81 h82 → zSh1 h82 t ∧ Q (0 : Int32) (zsI (zsI h82 2 3 ((zI h82 2 3) - (1 : Int32))) 2 4 ((zI (zsI h82 2 3 ((zI h82 2 3) - (1 : Int32))) 2 4) - (1 : Int32)))))))) : zg G mX3_readSign (d + 1) 0 [.ref 2, zU, zU] [] h (zPI Q) := by
  refine z_aload_n 0 rfl rfl ?_
  refine z_getR 1 rfl lX3_12 rfl (hS.1.o 2 3 rfl rfl rfl) (hS.1.r 2 0 3 rfl rfl rfl) ?_
  refine z_getI 2 rfl lX3_46 rfl (hS.1.o 3 4 rfl rfl rfl) ?_
  refine z_istore_n 3 rfl (by decide) rfl ?_
  refine z_iload_n 4 rfl rfl ?_
  obtain ⟨Q1, K3, B⟩ := B
  refine z_cSI1 (ν := mX6_strength) 5 rfl rfl fX6_strength gX3_195 (Nat.le_of_ble_eq_true rfl) K3 (fun v4 h2 q => ?_)
  obtain ⟨hSh2, B⟩ := B v4 h2 q
  refine z_istore_n 6 rfl (by decide) rfl ?_
  refine z_iload_n 7 rfl rfl ?_
  refine z_bipush (v := 33) 8 rfl (by decide) ?_
  refine z_icmp_ne 9 53 rfl (by decide) ⟨fun c5 => ?_, fun c5 => ?_⟩
  · have B := B.1 c5
    refine z_iload_n 30 rfl rfl ?_
    refine z_if_eq 31 63 rfl (by decide) ⟨fun c6 => ?_, fun c6 => ?_⟩
    · have B := B.1 c6
      refine z_aload_n 35 rfl rfl ?_
      refine z_iconst (v := 1) 36 rfl (by decide) ?_
      obtain ⟨Q7, K9, B⟩ := B
      refine z_cVI1 (ν := mX3_wrong) 37 rfl rfl fX3_wrong gX3_79 ⟨_, rfl, rfl⟩ (by decide) (hSh2.1.o 2 3 rfl rfl rfl) (Nat.le_of_ble_eq_true rfl) K9 (fun v10 h8 q => ?_)
      obtain ⟨hSh8, B⟩ := B v10 h8 q
      exact z_iret 38 rfl rfl rfl ⟨rfl, rfl⟩ ⟨_, rfl, B⟩
    · have B := B.2 c6
      refine z_iload_n 32 rfl rfl ?_
      refine z_bipush (v := 14) 33 rfl (by decide) ?_
      refine z_icmp_ne 34 69 rfl (by decide) ⟨fun c11 => ?_, fun c11 => ?_⟩
      · have B := B.1 c11
        refine z_aload_n 39 rfl rfl ?_
        refine z_iload_n 40 rfl rfl ?_
        refine z_iconst (v := 4) 41 rfl (by decide) ?_
        refine z_icmp_ne 42 81 rfl (by decide) ⟨fun c12 => ?_, fun c12 => ?_⟩
        · have B := B.1 c12
          refine z_iload_n 47 rfl rfl ?_
          obtain ⟨Q13, K15, B⟩ := B
          refine z_cVV1 (ν := mX3_settle) 48 rfl rfl fX3_settle gX3_180 ⟨_, rfl, rfl⟩ (by decide) (hSh2.1.o 2 3 rfl rfl rfl) (Nat.le_of_ble_eq_true rfl) K15 (fun h14 q => ?_)
          obtain ⟨hSh14, B⟩ := B h14 q
          refine z_iload_n 49 rfl rfl ?_
          refine z_iconst (v := 4) 50 rfl (by decide) ?_
          refine z_icmp_ne 51 104 rfl (by decide) ⟨fun c16 => ?_, fun c16 => ?_⟩
          · have B := B.1 c16
            exact B
          · have B := B.2 c16
            refine z_aload_n 52 rfl rfl ?_
            obtain ⟨Q17, K19, B⟩ := B
            refine z_cVI0 (ν := mX3_topStrength) 53 rfl rfl fX3_topStrength gX3_192 ⟨_, rfl, rfl⟩ (by decide) (hSh14.1.o 2 3 rfl rfl rfl) (Nat.le_of_ble_eq_true rfl) K19 (fun v20 h18 q => ?_)
            obtain ⟨hSh18, B⟩ := B v20 h18 q
            refine z_iload_n 54 rfl rfl ?_
            refine z_icmp_ne 55 104 rfl (by decide) ⟨fun c21 => ?_, fun c21 => ?_⟩
            · have B := B.1 c21
              exact B
            · have B := B.2 c21
              refine z_aload_n 56 rfl rfl ?_
              refine z_iconst (v := 1) 57 rfl (by decide) ?_
              obtain ⟨Q22, K24, B⟩ := B
              refine z_cVI1 (ν := mX3_wrong) 58 rfl rfl fX3_wrong gX3_79 ⟨_, rfl, rfl⟩ (by decide) (hSh18.1.o 2 3 rfl rfl rfl) (Nat.le_of_ble_eq_true rfl) K24 (fun v25 h23 q => ?_)
              obtain ⟨hSh23, B⟩ := B v25 h23 q
              exact z_iret 59 rfl rfl rfl ⟨rfl, rfl⟩ ⟨_, rfl, B⟩
        · have B := B.2 c12
          refine z_iload_n 43 rfl rfl ?_
          refine z_iconst (v := 1) 44 rfl (by decide) ?_
          refine z_iadd 45 rfl ?_
          refine z_goto 46 82 rfl (by decide) ?_
          obtain ⟨Q26, K28, B⟩ := B
          refine z_cVV1 (ν := mX3_settle) 48 rfl rfl fX3_settle gX3_180 ⟨_, rfl, rfl⟩ (by decide) (hSh2.1.o 2 3 rfl rfl rfl) (Nat.le_of_ble_eq_true rfl) K28 (fun h27 q => ?_)
          obtain ⟨hSh27, B⟩ := B h27 q
          refine z_iload_n 49 rfl rfl ?_
          refine z_iconst (v := 4) 50 rfl (by decide) ?_
          refine z_icmp_ne 51 104 rfl (by decide) ⟨fun c29 => ?_, fun c29 => ?_⟩
          · have B := B.1 c29
            exact B
          · have B := B.2 c29
            refine z_aload_n 52 rfl rfl ?_
            obtain ⟨Q30, K32, B⟩ := B
            refine z_cVI0 (ν := mX3_topStrength) 53 rfl rfl fX3_topStrength gX3_192 ⟨_, rfl, rfl⟩ (by decide) (hSh27.1.o 2 3 rfl rfl rfl) (Nat.le_of_ble_eq_true rfl) K32 (fun v33 h31 q => ?_)
            obtain ⟨hSh31, B⟩ := B v33 h31 q
            refine z_iload_n 54 rfl rfl ?_
            refine z_icmp_ne 55 104 rfl (by decide) ⟨fun c34 => ?_, fun c34 => ?_⟩
            · have B := B.1 c34
              exact B
            · have B := B.2 c34
              refine z_aload_n 56 rfl rfl ?_
              refine z_iconst (v := 1) 57 rfl (by decide) ?_
              obtain ⟨Q35, K37, B⟩ := B
              refine z_cVI1 (ν := mX3_wrong) 58 rfl rfl fX3_wrong gX3_79 ⟨_, rfl, rfl⟩ (by decide) (hSh31.1.o 2 3 rfl rfl rfl) (Nat.le_of_ble_eq_true rfl) K37 (fun v38 h36 q => ?_)
              obtain ⟨hSh36, B⟩ := B v38 h36 q
              exact z_iret 59 rfl rfl rfl ⟨rfl, rfl⟩ ⟨_, rfl, B⟩
      · have B := B.2 c11
        refine z_aload_n 35 rfl rfl ?_
        refine z_iconst (v := 1) 36 rfl (by decide) ?_
        obtain ⟨Q39, K41, B⟩ := B
        refine z_cVI1 (ν := mX3_wrong) 37 rfl rfl fX3_wrong gX3_79 ⟨_, rfl, rfl⟩ (by decide) (hSh2.1.o 2 3 rfl rfl rfl) (Nat.le_of_ble_eq_true rfl) K41 (fun v42 h40 q => ?_)
        obtain ⟨hSh40, B⟩ := B v42 h40 q
        exact z_iret 38 rfl rfl rfl ⟨rfl, rfl⟩ ⟨_, rfl, B⟩
  · have B := B.2 c5
    refine z_aload_n 10 rfl rfl ?_
    refine z_getI 11 rfl lX3_174 rfl (hSh2.1.o 2 3 rfl rfl rfl) ?_
    refine z_if_le 12 53 rfl (by decide) ⟨fun c43 => ?_, fun c43 => ?_⟩
    · have B := B.1 c43
      refine z_iload_n 30 rfl rfl ?_
      refine z_if_eq 31 63 rfl (by decide) ⟨fun c44 => ?_, fun c44 => ?_⟩
      · have B := B.1 c44
        refine z_aload_n 35 rfl rfl ?_
        refine z_iconst (v := 1) 36 rfl (by decide) ?_
        obtain ⟨Q45, K47, B⟩ := B
        refine z_cVI1 (ν := mX3_wrong) 37 rfl rfl fX3_wrong gX3_79 ⟨_, rfl, rfl⟩ (by decide) (hSh2.1.o 2 3 rfl rfl rfl) (Nat.le_of_ble_eq_true rfl) K47 (fun v48 h46 q => ?_)
        obtain ⟨hSh46, B⟩ := B v48 h46 q
        exact z_iret 38 rfl rfl rfl ⟨rfl, rfl⟩ ⟨_, rfl, B⟩
      · have B := B.2 c44
        refine z_iload_n 32 rfl rfl ?_
        refine z_bipush (v := 14) 33 rfl (by decide) ?_
        refine z_icmp_ne 34 69 rfl (by decide) ⟨fun c49 => ?_, fun c49 => ?_⟩
        · have B := B.1 c49
          refine z_aload_n 39 rfl rfl ?_
          refine z_iload_n 40 rfl rfl ?_
          refine z_iconst (v := 4) 41 rfl (by decide) ?_
          refine z_icmp_ne 42 81 rfl (by decide) ⟨fun c50 => ?_, fun c50 => ?_⟩
          · have B := B.1 c50
            refine z_iload_n 47 rfl rfl ?_
            obtain ⟨Q51, K53, B⟩ := B
            refine z_cVV1 (ν := mX3_settle) 48 rfl rfl fX3_settle gX3_180 ⟨_, rfl, rfl⟩ (by decide) (hSh2.1.o 2 3 rfl rfl rfl) (Nat.le_of_ble_eq_true rfl) K53 (fun h52 q => ?_)
            obtain ⟨hSh52, B⟩ := B h52 q
            refine z_iload_n 49 rfl rfl ?_
            refine z_iconst (v := 4) 50 rfl (by decide) ?_
            refine z_icmp_ne 51 104 rfl (by decide) ⟨fun c54 => ?_, fun c54 => ?_⟩
            · have B := B.1 c54
              exact B
            · have B := B.2 c54
              refine z_aload_n 52 rfl rfl ?_
              obtain ⟨Q55, K57, B⟩ := B
              refine z_cVI0 (ν := mX3_topStrength) 53 rfl rfl fX3_topStrength gX3_192 ⟨_, rfl, rfl⟩ (by decide) (hSh52.1.o 2 3 rfl rfl rfl) (Nat.le_of_ble_eq_true rfl) K57 (fun v58 h56 q => ?_)
              obtain ⟨hSh56, B⟩ := B v58 h56 q
              refine z_iload_n 54 rfl rfl ?_
              refine z_icmp_ne 55 104 rfl (by decide) ⟨fun c59 => ?_, fun c59 => ?_⟩
              · have B := B.1 c59
                exact B
              · have B := B.2 c59
                refine z_aload_n 56 rfl rfl ?_
                refine z_iconst (v := 1) 57 rfl (by decide) ?_
                obtain ⟨Q60, K62, B⟩ := B
                refine z_cVI1 (ν := mX3_wrong) 58 rfl rfl fX3_wrong gX3_79 ⟨_, rfl, rfl⟩ (by decide) (hSh56.1.o 2 3 rfl rfl rfl) (Nat.le_of_ble_eq_true rfl) K62 (fun v63 h61 q => ?_)
                obtain ⟨hSh61, B⟩ := B v63 h61 q
                exact z_iret 59 rfl rfl rfl ⟨rfl, rfl⟩ ⟨_, rfl, B⟩
          · have B := B.2 c50
            refine z_iload_n 43 rfl rfl ?_
            refine z_iconst (v := 1) 44 rfl (by decide) ?_
            refine z_iadd 45 rfl ?_
            refine z_goto 46 82 rfl (by decide) ?_
            obtain ⟨Q64, K66, B⟩ := B
            refine z_cVV1 (ν := mX3_settle) 48 rfl rfl fX3_settle gX3_180 ⟨_, rfl, rfl⟩ (by decide) (hSh2.1.o 2 3 rfl rfl rfl) (Nat.le_of_ble_eq_true rfl) K66 (fun h65 q => ?_)
            obtain ⟨hSh65, B⟩ := B h65 q
            refine z_iload_n 49 rfl rfl ?_
            refine z_iconst (v := 4) 50 rfl (by decide) ?_
            refine z_icmp_ne 51 104 rfl (by decide) ⟨fun c67 => ?_, fun c67 => ?_⟩
            · have B := B.1 c67
              exact B
            · have B := B.2 c67
              refine z_aload_n 52 rfl rfl ?_
              obtain ⟨Q68, K70, B⟩ := B
              refine z_cVI0 (ν := mX3_topStrength) 53 rfl rfl fX3_topStrength gX3_192 ⟨_, rfl, rfl⟩ (by decide) (hSh65.1.o 2 3 rfl rfl rfl) (Nat.le_of_ble_eq_true rfl) K70 (fun v71 h69 q => ?_)
              obtain ⟨hSh69, B⟩ := B v71 h69 q
              refine z_iload_n 54 rfl rfl ?_
              refine z_icmp_ne 55 104 rfl (by decide) ⟨fun c72 => ?_, fun c72 => ?_⟩
              · have B := B.1 c72
                exact B
              · have B := B.2 c72
                refine z_aload_n 56 rfl rfl ?_
                refine z_iconst (v := 1) 57 rfl (by decide) ?_
                obtain ⟨Q73, K75, B⟩ := B
                refine z_cVI1 (ν := mX3_wrong) 58 rfl rfl fX3_wrong gX3_79 ⟨_, rfl, rfl⟩ (by decide) (hSh69.1.o 2 3 rfl rfl rfl) (Nat.le_of_ble_eq_true rfl) K75 (fun v76 h74 q => ?_)
                obtain ⟨hSh74, B⟩ := B v76 h74 q
                exact z_iret 59 rfl rfl rfl ⟨rfl, rfl⟩ ⟨_, rfl, B⟩
        · have B := B.2 c49
          refine z_aload_n 35 rfl rfl ?_
          refine z_iconst (v := 1) 36 rfl (by decide) ?_
          obtain ⟨Q77, K79, B⟩ := B
          refine z_cVI1 (ν := mX3_wrong) 37 rfl rfl fX3_wrong gX3_79 ⟨_, rfl, rfl⟩ (by decide) (hSh2.1.o 2 3 rfl rfl rfl) (Nat.le_of_ble_eq_true rfl) K79 (fun v80 h78 q => ?_)
          obtain ⟨hSh78, B⟩ := B v80 h78 q
          exact z_iret 38 rfl rfl rfl ⟨rfl, rfl⟩ ⟨_, rfl, B⟩
    · have B := B.2 c43
      refine z_aload_n 13 rfl rfl ?_
      refine z_iconst (v := 1) 14 rfl (by decide) ?_
      obtain ⟨Q81, K83, B⟩ := B
      refine z_cVV1 (ν := mX3_settle) 15 rfl rfl fX3_settle gX3_180 ⟨_, rfl, rfl⟩ (by decide) (hSh2.1.o 2 3 rfl rfl rfl) (Nat.le_of_ble_eq_true rfl) K83 (fun h82 q => ?_)
      obtain ⟨hSh82, B⟩ := B h82 q
      refine z_aload_n 16 rfl rfl ?_
      refine z_dup 17 rfl rfl ?_
      refine z_getI 18 rfl lX3_171 rfl (hSh82.1.o 2 3 rfl rfl rfl) ?_
      refine z_iconst (v := 1) 19 rfl (by decide) ?_
      refine z_isub 20 rfl ?_
      refine z_putI 21 rfl lX3_171 ⟨_, _, _, rfl, rfl⟩ rfl rfl rfl (hSh82.1.o 2 3 rfl rfl rfl) ?_
      refine z_aload_n 22 rfl rfl ?_
      refine z_dup 23 rfl rfl ?_
      refine z_getI 24 rfl lX3_174 rfl (hSh82.1.o 2 3 rfl rfl rfl) ?_
      refine z_iconst (v := 1) 25 rfl (by decide) ?_
      refine z_isub 26 rfl ?_
      refine z_putI 27 rfl lX3_174 ⟨_, _, _, rfl, rfl⟩ rfl rfl rfl (hSh82.1.o 2 3 rfl rfl rfl) ?_
      refine z_iconst (v := 0) 28 rfl (by decide) ?_
      exact z_iret 29 rfl rfl rfl ⟨rfl, rfl⟩ ⟨_, rfl, B⟩
theorem cn_X3_readSign {G : zG} {d : Nat} {h : zMem} {Q : Int32 → zMem → Prop}  (B : zg G mX3_readSign (d + 1) 0 [.ref 2, zU, zU] [] h (zPI Q)) : zConI G mX3_readSign (d + 1) [.ref 2] h Q := zcon0 (by decide +kernel) eX3_readSign (Nat.le_of_ble_eq_true rfl) rfl B
set_option maxRecDepth 100000 in
set_option maxHeartbeats 4000000 in
theorem sg_X3_readSign_104 {G : zG} {d : Nat} {h : zMem} {Q : Int32 → zMem → Prop} {t : Nat} {x1 : Int32} {x2 : Int32} (hS : zSh1 h t)  (B : ∃ Q1 : Int32 → zMem → Prop, zConI G mX0_addKnot d [.ref ((111 - t) + 21)] (zsI h 2 5 (1 : Int32)) Q1 ∧ (∀ v4 h2, Q1 v4 h2 → zSh1 h2 t ∧ (v4 = 0 → ∃ Q6 : Int32 → zMem → Prop, zConI G mX3_wrong d [.ref 2, .int (2 : Int32)] h2 Q6 ∧ (∀ v9 h7, Q6 v9 h7 → zSh1 h7 t ∧ Q v9 h7)) ∧ (¬ v4 = 0 → ∃ Q10 : Int32 → zMem → Prop, zConI G mX3_putOff d [.ref 2, .int x1] h2 Q10 ∧ (∀ v13 h11, Q10 v13 h11 → zSh1 h11 t ∧ Q v13 h11)))) : zg G mX3_readSign (d + 1) 104 [.ref 2, .int x1, .int x2] [] h (zPI Q) := by
  refine z_aload_n 60 rfl rfl ?_
  refine z_iconst (v := 1) 61 rfl (by decide) ?_
  refine z_putI 62 rfl lX3_177 ⟨_, _, _, rfl, rfl⟩ rfl rfl rfl (hS.1.o 2 3 rfl rfl rfl) ?_
  refine z_aload_n 63 rfl rfl ?_
  refine z_getR 64 rfl lX3_28 rfl (hS.1.o 2 3 rfl rfl rfl) hS.2.2.2 ?_
  refine z_getR 65 rfl lX3_133 rfl (zS_to hS hS.2.1.other 0 6 rfl rfl) (zS_tr hS hS.2.1.other 0 8 21 rfl rfl rfl) ?_
  obtain ⟨Q1, K3, B⟩ := B
  refine z_cVI0 (ν := mX0_addKnot) 66 rfl rfl fX0_addKnot gX3_198 ⟨_, rfl, rfl⟩ (by decide) (zS_to hS hS.2.1.other 21 0 rfl rfl) (Nat.le_of_ble_eq_true rfl) K3 (fun v4 h2 q => ?_)
  obtain ⟨hSh2, B⟩ := B v4 h2 q
  refine z_if_eq 67 130 rfl (by decide) ⟨fun c5 => ?_, fun c5 => ?_⟩
  · have B := B.1 c5
    refine z_aload_n 72 rfl rfl ?_
    refine z_iconst (v := 2) 73 rfl (by decide) ?_
    obtain ⟨Q6, K8, B⟩ := B
    refine z_cVI1 (ν := mX3_wrong) 74 rfl rfl fX3_wrong gX3_79 ⟨_, rfl, rfl⟩ (by decide) (hSh2.1.o 2 3 rfl rfl rfl) (Nat.le_of_ble_eq_true rfl) K8 (fun v9 h7 q => ?_)
    obtain ⟨hSh7, B⟩ := B v9 h7 q
    exact z_iret 75 rfl rfl rfl ⟨rfl, rfl⟩ ⟨_, rfl, B⟩
  · have B := B.2 c5
    refine z_aload_n 68 rfl rfl ?_
    refine z_iload_n 69 rfl rfl ?_
    obtain ⟨Q10, K12, B⟩ := B
    refine z_cVI1 (ν := mX3_putOff) 70 rfl rfl fX3_putOff gX3_189 ⟨_, rfl, rfl⟩ (by decide) (hSh2.1.o 2 3 rfl rfl rfl) (Nat.le_of_ble_eq_true rfl) K12 (fun v13 h11 q => ?_)
    obtain ⟨hSh11, B⟩ := B v13 h11 q
    refine z_goto 71 135 rfl (by decide) ?_
    exact z_iret 75 rfl rfl rfl ⟨rfl, rfl⟩ ⟨_, rfl, B⟩
set_option maxRecDepth 100000 in
set_option maxHeartbeats 4000000 in
theorem sg_X3_putOff_0 {G : zG} {d : Nat} {h : zMem} {Q : Int32 → zMem → Prop} {t : Nat} {x1 : Int32} (hS : zSh1 h t)  (B : ((zI h 2 3) < (nI 72) → vp_in (zI h 2 3) 72 ∧ ∃ Q3 : Int32 → zMem → Prop, zConI G mX6_strength d [.int x1] (zsI h 6 (zI h 2 3).toNatClampNeg x1) Q3 ∧ (∀ v6 h4, Q3 v6 h4 → zSh1 h4 t ∧ vp_in (zI (zsI h 6 (zI h 2 3).toNatClampNeg x1) 2 3) 72 ∧ Q (0 : Int32) (zsI (zsI h4 7 (zI (zsI h 6 (zI h 2 3).toNatClampNeg x1) 2 3).toNatClampNeg v6) 2 3 ((zI (zsI h4 7 (zI (zsI h 6 (zI h 2 3).toNatClampNeg x1) 2 3).toNatClampNeg v6) 2 3) + (1 : Int32))))) ∧ (¬ (zI h 2 3) < (nI 72) → ∃ Q8 : Int32 → zMem → Prop, zConI G mX3_wrong d [.ref 2, .int (2 : Int32)] h Q8 ∧ (∀ v11 h9, Q8 v11 h9 → zSh1 h9 t ∧ Q v11 h9))) : zg G mX3_putOff (d + 1) 0 [.ref 2, .int x1] [] h (zPI Q) := by
  refine z_aload_n 0 rfl rfl ?_
  refine z_getI 1 rfl lX3_171 rfl (hS.1.o 2 3 rfl rfl rfl) ?_
  refine z_aload_n 2 rfl rfl ?_
  refine z_getR 3 rfl lX3_18 rfl (hS.1.o 2 3 rfl rfl rfl) (hS.1.r 2 1 6 rfl rfl rfl) ?_
  refine z_alen 4 rfl (hS.1.o 6 100 rfl rfl rfl) (Or.inl rfl) ?_
  rw [(hS.1.l 6 72 rfl rfl rfl)]
  refine z_icmp_lt 5 18 rfl (by decide) ⟨fun c1 => ?_, fun c1 => ?_⟩
  · have B := B.1 c1
    refine z_aload_n 10 rfl rfl ?_
    refine z_getR 11 rfl lX3_18 rfl (hS.1.o 2 3 rfl rfl rfl) (hS.1.r 2 1 6 rfl rfl rfl) ?_
    refine z_aload_n 12 rfl rfl ?_
    refine z_getI 13 rfl lX3_171 rfl (hS.1.o 2 3 rfl rfl rfl) ?_
    refine z_iload_n 14 rfl rfl ?_
    obtain ⟨o2, B⟩ := B
    refine z_iast 15 rfl (hS.1.o 6 100 rfl rfl rfl) (zin (hS.1.l 6 72 rfl rfl rfl) o2) ?_
    refine z_aload_n 16 rfl rfl ?_
    refine z_getR 17 rfl lX3_22 rfl (hS.1.o 2 3 rfl rfl rfl) (hS.1.r 2 2 7 rfl rfl rfl) ?_
    refine z_aload_n 18 rfl rfl ?_
    refine z_getI 19 rfl lX3_171 rfl (hS.1.o 2 3 rfl rfl rfl) ?_
    refine z_iload_n 20 rfl rfl ?_
    obtain ⟨Q3, K5, B⟩ := B
    refine z_cSI1 (ν := mX6_strength) 21 rfl rfl fX6_strength gX3_195 (Nat.le_of_ble_eq_true rfl) K5 (fun v6 h4 q => ?_)
    obtain ⟨hSh4, B⟩ := B v6 h4 q
    obtain ⟨o7, B⟩ := B
    refine z_iast 22 rfl (hSh4.1.o 7 100 rfl rfl rfl) (zin (hSh4.1.l 7 72 rfl rfl rfl) o7) ?_
    refine z_aload_n 23 rfl rfl ?_
    refine z_dup 24 rfl rfl ?_
    refine z_getI 25 rfl lX3_171 rfl (hSh4.1.o 2 3 rfl rfl rfl) ?_
    refine z_iconst (v := 1) 26 rfl (by decide) ?_
    refine z_iadd 27 rfl ?_
    refine z_putI 28 rfl lX3_171 ⟨_, _, _, rfl, rfl⟩ rfl rfl rfl (hSh4.1.o 2 3 rfl rfl rfl) ?_
    refine z_iconst (v := 0) 29 rfl (by decide) ?_
    exact z_iret 30 rfl rfl rfl ⟨rfl, rfl⟩ ⟨_, rfl, B⟩
  · have B := B.2 c1
    refine z_aload_n 6 rfl rfl ?_
    refine z_iconst (v := 2) 7 rfl (by decide) ?_
    obtain ⟨Q8, K10, B⟩ := B
    refine z_cVI1 (ν := mX3_wrong) 8 rfl rfl fX3_wrong gX3_79 ⟨_, rfl, rfl⟩ (by decide) (hS.1.o 2 3 rfl rfl rfl) (Nat.le_of_ble_eq_true rfl) K10 (fun v11 h9 q => ?_)
    obtain ⟨hSh9, B⟩ := B v11 h9 q
    exact z_iret 9 rfl rfl rfl ⟨rfl, rfl⟩ ⟨_, rfl, B⟩
theorem cn_X3_putOff {G : zG} {d : Nat} {h : zMem} {Q : Int32 → zMem → Prop} {x1 : Int32} (B : zg G mX3_putOff (d + 1) 0 [.ref 2, .int x1] [] h (zPI Q)) : zConI G mX3_putOff (d + 1) [.ref 2, .int x1] h Q := zcon0 (by decide +kernel) eX3_putOff (Nat.le_of_ble_eq_true rfl) rfl B
set_option maxRecDepth 100000 in
set_option maxHeartbeats 4000000 in
theorem sg_X3_topStrength_0 {G : zG} {d : Nat} {h : zMem} {Q : Int32 → zMem → Prop} {t : Nat}  (hS : zSh1 h t)  (B : (¬ (zI h 2 3) = 0 → vp_in ((zI h 2 3) - (1 : Int32)) 72 ∧ Q (zI h 7 ((zI h 2 3) - (1 : Int32)).toNatClampNeg) h) ∧ ((zI h 2 3) = 0 → Q (0 : Int32) h)) : zg G mX3_topStrength d 0 [.ref 2] [] h (zPI Q) := by
  refine z_aload_n 0 rfl rfl ?_
  refine z_getI 1 rfl lX3_171 rfl (hS.1.o 2 3 rfl rfl rfl) ?_
  refine z_if_ne 2 11 rfl (by decide) ⟨fun c1 => ?_, fun c1 => ?_⟩
  · have B := B.1 c1
    refine z_aload_n 5 rfl rfl ?_
    refine z_getR 6 rfl lX3_22 rfl (hS.1.o 2 3 rfl rfl rfl) (hS.1.r 2 2 7 rfl rfl rfl) ?_
    refine z_aload_n 7 rfl rfl ?_
    refine z_getI 8 rfl lX3_171 rfl (hS.1.o 2 3 rfl rfl rfl) ?_
    refine z_iconst (v := 1) 9 rfl (by decide) ?_
    refine z_isub 10 rfl ?_
    obtain ⟨o2, B⟩ := B
    refine z_iald 11 rfl (hS.1.o 7 100 rfl rfl rfl) (zin (hS.1.l 7 72 rfl rfl rfl) o2) ?_
    exact z_iret 12 rfl rfl rfl ⟨rfl, rfl⟩ ⟨_, rfl, B⟩
  · have B := B.2 c1
    refine z_iconst (v := 0) 3 rfl (by decide) ?_
    refine z_goto 4 22 rfl (by decide) ?_
    exact z_iret 12 rfl rfl rfl ⟨rfl, rfl⟩ ⟨_, rfl, B⟩
theorem cn_X3_topStrength {G : zG} {d : Nat} {h : zMem} {Q : Int32 → zMem → Prop}  (B : zg G mX3_topStrength d 0 [.ref 2] [] h (zPI Q)) : zConI G mX3_topStrength d [.ref 2] h Q := zcon0 (by decide +kernel) eX3_topStrength (Nat.le_of_ble_eq_true rfl) rfl B
set_option maxRecDepth 100000 in
set_option maxHeartbeats 4000000 in
theorem sg_X3_settle_0 {G : zG} {d : Nat} {h : zMem} {Q : zMem → Prop} {t : Nat} {x1 : Int32} (hS : zSh1 h t)  (B : ((zI h 2 3) ≤ 0 → Q h) ∧ (¬ (zI h 2 3) ≤ 0 → ∃ Q2 : Int32 → zMem → Prop, zConI G mX3_topStrength d [.ref 2] h Q2 ∧ (∀ v5 h3, Q2 v5 h3 → zSh1 h3 t ∧ (v5 < x1 → Q h3) ∧ (¬ v5 < x1 → vp_in (zI (zsI h3 2 3 ((zI h3 2 3) - (1 : Int32))) 2 3) 72 ∧ ∃ Q8 : zMem → Prop, zConV G mX0_append d [.ref ((111 - t) + 21), .int (zI (zsI h3 2 3 ((zI h3 2 3) - (1 : Int32))) 6 (zI (zsI h3 2 3 ((zI h3 2 3) - (1 : Int32))) 2 3).toNatClampNeg), .int (0 : Int32)] (zsI h3 2 3 ((zI h3 2 3) - (1 : Int32))) Q8 ∧ (∀ h9, Q8 h9 → zSh1 h9 t ∧ zg G mX3_settle (d + 1) 0 [.ref 2, .int x1] [] h9 (zPV Q)))))) : zg G mX3_settle (d + 1) 0 [.ref 2, .int x1] [] h (zPV Q) := by
  refine z_aload_n 0 rfl rfl ?_
  refine z_getI 1 rfl lX3_171 rfl (hS.1.o 2 3 rfl rfl rfl) ?_
  refine z_if_le 2 48 rfl (by decide) ⟨fun c1 => ?_, fun c1 => ?_⟩
  · have B := B.1 c1
    exact z_vret 24 rfl rfl ⟨rfl, rfl⟩ ⟨rfl, B⟩
  · have B := B.2 c1
    refine z_aload_n 3 rfl rfl ?_
    obtain ⟨Q2, K4, B⟩ := B
    refine z_cVI0 (ν := mX3_topStrength) 4 rfl rfl fX3_topStrength gX3_192 ⟨_, rfl, rfl⟩ (by decide) (hS.1.o 2 3 rfl rfl rfl) (Nat.le_of_ble_eq_true rfl) K4 (fun v5 h3 q => ?_)
    obtain ⟨hSh3, B⟩ := B v5 h3 q
    refine z_iload_n 5 rfl rfl ?_
    refine z_icmp_lt 6 48 rfl (by decide) ⟨fun c6 => ?_, fun c6 => ?_⟩
    · have B := B.1 c6
      exact z_vret 24 rfl rfl ⟨rfl, rfl⟩ ⟨rfl, B⟩
    · have B := B.2 c6
      refine z_aload_n 7 rfl rfl ?_
      refine z_dup 8 rfl rfl ?_
      refine z_getI 9 rfl lX3_171 rfl (hSh3.1.o 2 3 rfl rfl rfl) ?_
      refine z_iconst (v := 1) 10 rfl (by decide) ?_
      refine z_isub 11 rfl ?_
      refine z_putI 12 rfl lX3_171 ⟨_, _, _, rfl, rfl⟩ rfl rfl rfl (hSh3.1.o 2 3 rfl rfl rfl) ?_
      refine z_aload_n 13 rfl rfl ?_
      refine z_getR 14 rfl lX3_28 rfl (hSh3.1.o 2 3 rfl rfl rfl) hSh3.2.2.2 ?_
      refine z_getR 15 rfl lX3_133 rfl (zS_to hSh3 hSh3.2.1.other 0 6 rfl rfl) (zS_tr hSh3 hSh3.2.1.other 0 8 21 rfl rfl rfl) ?_
      refine z_aload_n 16 rfl rfl ?_
      refine z_getR 17 rfl lX3_18 rfl (hSh3.1.o 2 3 rfl rfl rfl) (hSh3.1.r 2 1 6 rfl rfl rfl) ?_
      refine z_aload_n 18 rfl rfl ?_
      refine z_getI 19 rfl lX3_171 rfl (hSh3.1.o 2 3 rfl rfl rfl) ?_
      obtain ⟨o7, B⟩ := B
      refine z_iald 20 rfl (hSh3.1.o 6 100 rfl rfl rfl) (zin (hSh3.1.l 6 72 rfl rfl rfl) o7) ?_
      refine z_iconst (v := 0) 21 rfl (by decide) ?_
      obtain ⟨Q8, K10, B⟩ := B
      refine z_cVV2 (ν := mX0_append) 22 rfl rfl fX0_append gX3_202 ⟨_, rfl, rfl⟩ (by decide) (zS_to hSh3 hSh3.2.1.other 21 0 rfl rfl) (Nat.le_of_ble_eq_true rfl) K10 (fun h9 q => ?_)
      obtain ⟨hSh9, B⟩ := B h9 q
      refine z_goto 23 0 rfl (by decide) ?_
      exact B
theorem cn_X3_settle {G : zG} {d : Nat} {h : zMem} {Q : zMem → Prop} {x1 : Int32} (B : zg G mX3_settle (d + 1) 0 [.ref 2, .int x1] [] h (zPV Q)) : zConV G mX3_settle (d + 1) [.ref 2, .int x1] h Q := zcon0 (by decide +kernel) eX3_settle (Nat.le_of_ble_eq_true rfl) rfl B
