set_option maxRecDepth 100000 in
set_option maxHeartbeats 4000000 in
theorem sg_X3_open_0 {G : zG} {d : Nat} {h : zMem} {Q : zMem → Prop} {t : Nat} {a1 : Nat} {x2 : Int32} (hS : zSh1 h t)  (B : ∃ Q1 : zMem → Prop, zConV G mX7_clear d [.ref (111 - t)] h Q1 ∧ (∀ h2, Q1 h2 → zSh1 h2 t ∧ ∃ Q4 : zMem → Prop, zConV G mX4_open d [.ref 3, .ref a1, .int x2] (zsI (zsI h2 2 7 (0 : Int32)) 2 8 (-1 : Int32)) Q4 ∧ (∀ h5, Q4 h5 → zSh1 h5 t ∧ Q h5))) : zg G mX3_open (d + 1) 0 [.ref 2, .ref a1, .int x2] [] h (zPV Q) := by
  refine z_aload_n 0 rfl rfl ?_
  refine z_getR 1 rfl lX3_28 rfl (hS.1.o 2 3 rfl rfl rfl) hS.2.2.2 ?_
  obtain ⟨Q1, K3, B⟩ := B
  refine z_cVV0 (ν := mX7_clear) 2 rfl rfl fX7_clear gX3_36 ⟨_, rfl, rfl⟩ (by decide) (zS_to hS hS.2.1.other 0 6 rfl rfl) (Nat.le_of_ble_eq_true rfl) K3 (fun h2 q => ?_)
  obtain ⟨hSh2, B⟩ := B h2 q
  refine z_aload_n 3 rfl rfl ?_
  refine z_iconst (v := 0) 4 rfl (by decide) ?_
  refine z_putI 5 rfl lX3_39 ⟨_, _, _, rfl, rfl⟩ rfl rfl rfl (hSh2.1.o 2 3 rfl rfl rfl) ?_
  refine z_aload_n 6 rfl rfl ?_
  refine z_iconst (v := -1) 7 rfl (by decide) ?_
  refine z_putI 8 rfl lX3_32 ⟨_, _, _, rfl, rfl⟩ rfl rfl rfl (hSh2.1.o 2 3 rfl rfl rfl) ?_
  refine z_aload_n 9 rfl rfl ?_
  refine z_getR 10 rfl lX3_12 rfl (hSh2.1.o 2 3 rfl rfl rfl) (hSh2.1.r 2 0 3 rfl rfl rfl) ?_
  refine z_aload_n 11 rfl rfl ?_
  refine z_iload_n 12 rfl rfl ?_
  obtain ⟨Q4, K6, B⟩ := B
  refine z_cVV2 (ν := mX4_open) 13 rfl rfl fX4_open gX3_42 ⟨_, rfl, rfl⟩ (by decide) (hSh2.1.o 3 4 rfl rfl rfl) (Nat.le_of_ble_eq_true rfl) K6 (fun h5 q => ?_)
  obtain ⟨hSh5, B⟩ := B h5 q
  exact z_vret 14 rfl rfl ⟨rfl, rfl⟩ ⟨rfl, B⟩
theorem cn_X3_open {G : zG} {d : Nat} {h : zMem} {Q : zMem → Prop} {a1 : Nat} {x2 : Int32} (B : zg G mX3_open (d + 1) 0 [.ref 2, .ref a1, .int x2] [] h (zPV Q)) : zConV G mX3_open (d + 1) [.ref 2, .ref a1, .int x2] h Q := zcon0 (by decide +kernel) eX3_open (Nat.le_of_ble_eq_true rfl) rfl B
set_option maxRecDepth 100000 in
set_option maxHeartbeats 4000000 in
theorem sg_X3_exchange_0 {G : zG} {d : Nat} {h : zMem} {Q : Nat → zMem → Prop} {a1 : Nat} (hS : zcl1 h 0 132) (ht1 : isTd a1) (B : ∃ r1, zR h 2 6 = some r1 ∧ Q r1 (zsR h 2 6 (some a1))) : zg G mX3_exchange d 0 [.ref 2, .ref a1, zU] [] h (zPR Q) := by
  refine z_aload_n 0 rfl rfl ?_
  obtain ⟨r1, hr1, B⟩ := B
  refine z_getR 1 rfl lX3_28 rfl (zcl1.o hS 2 3 rfl rfl rfl) hr1 ?_
  refine z_astore_n 2 rfl (by decide) rfl ?_
  refine z_aload_n 3 rfl rfl ?_
  refine z_aload_n 4 rfl rfl ?_
  refine z_putR 5 rfl lX3_28 ⟨_, _, _, rfl, rfl⟩ rfl (zcl1.o hS 2 3 rfl rfl rfl) ?_
  refine z_aload_n 6 rfl rfl ?_
  exact z_aret 7 rfl rfl (Or.inl ⟨_, rfl⟩) ⟨rfl, rfl⟩ ⟨_, rfl, B⟩
theorem cn_X3_exchange {G : zG} {d : Nat} {h : zMem} {Q : Nat → zMem → Prop} {a1 : Nat} (B : zg G mX3_exchange d 0 [.ref 2, .ref a1, zU] [] h (zPR Q)) : zConR G mX3_exchange d [.ref 2, .ref a1] h Q := zcon0 (by decide +kernel) eX3_exchange (Nat.le_of_ble_eq_true rfl) rfl B
set_option maxRecDepth 100000 in
set_option maxHeartbeats 4000000 in
theorem sg_X3_hasMore_0 {G : zG} {d : Nat} {h : zMem} {Q : Int32 → zMem → Prop} {t : Nat}  (hS : zSh1 h t)  (B : ((zI h 3 4) = (37 : Int32) → Q (0 : Int32) h) ∧ (¬ (zI h 3 4) = (37 : Int32) → Q (1 : Int32) h)) : zg G mX3_hasMore d 0 [.ref 2] [] h (zPI Q) := by
  refine z_aload_n 0 rfl rfl ?_
  refine z_getR 1 rfl lX3_12 rfl (hS.1.o 2 3 rfl rfl rfl) (hS.1.r 2 0 3 rfl rfl rfl) ?_
  refine z_getI 2 rfl lX3_46 rfl (hS.1.o 3 4 rfl rfl rfl) ?_
  refine z_bipush (v := 37) 3 rfl (by decide) ?_
  refine z_icmp_eq 4 16 rfl (by decide) ⟨fun c1 => ?_, fun c1 => ?_⟩
  · have B := B.1 c1
    refine z_iconst (v := 0) 7 rfl (by decide) ?_
    exact z_iret 8 rfl rfl rfl ⟨rfl, rfl⟩ ⟨_, rfl, B⟩
  · have B := B.2 c1
    refine z_iconst (v := 1) 5 rfl (by decide) ?_
    refine z_goto 6 17 rfl (by decide) ?_
    exact z_iret 8 rfl rfl rfl ⟨rfl, rfl⟩ ⟨_, rfl, B⟩
theorem cn_X3_hasMore {G : zG} {d : Nat} {h : zMem} {Q : Int32 → zMem → Prop}  (B : zg G mX3_hasMore d 0 [.ref 2] [] h (zPI Q)) : zConI G mX3_hasMore d [.ref 2] h Q := zcon0 (by decide +kernel) eX3_hasMore (Nat.le_of_ble_eq_true rfl) rfl B
set_option maxRecDepth 100000 in
set_option maxHeartbeats 4000000 in
theorem sg_X3_wrong_0 {G : zG} {d : Nat} {h : zMem} {Q : Int32 → zMem → Prop} {t : Nat} {x1 : Int32} (hS : zSh1 h t)  (B : Q (-1 : Int32) (zsI (zsI h 2 7 x1) 2 8 (zI (zsI h 2 7 x1) 3 5))) : zg G mX3_wrong d 0 [.ref 2, .int x1] [] h (zPI Q) := by
  refine z_aload_n 0 rfl rfl ?_
  refine z_iload_n 1 rfl rfl ?_
  refine z_putI 2 rfl lX3_39 ⟨_, _, _, rfl, rfl⟩ rfl rfl rfl (hS.1.o 2 3 rfl rfl rfl) ?_
  refine z_aload_n 3 rfl rfl ?_
  refine z_aload_n 4 rfl rfl ?_
  refine z_getR 5 rfl lX3_12 rfl (hS.1.o 2 3 rfl rfl rfl) (hS.1.r 2 0 3 rfl rfl rfl) ?_
  refine z_getI 6 rfl lX3_51 rfl (hS.1.o 3 4 rfl rfl rfl) ?_
  refine z_putI 7 rfl lX3_32 ⟨_, _, _, rfl, rfl⟩ rfl rfl rfl (hS.1.o 2 3 rfl rfl rfl) ?_
  refine z_iconst (v := -1) 8 rfl (by decide) ?_
  exact z_iret 9 rfl rfl rfl ⟨rfl, rfl⟩ ⟨_, rfl, B⟩
theorem cn_X3_wrong {G : zG} {d : Nat} {h : zMem} {Q : Int32 → zMem → Prop} {x1 : Int32} (B : zg G mX3_wrong d 0 [.ref 2, .int x1] [] h (zPI Q)) : zConI G mX3_wrong d [.ref 2, .int x1] h Q := zcon0 (by decide +kernel) eX3_wrong (Nat.le_of_ble_eq_true rfl) rfl B
theorem zsw_X3_readLine_7 {x : Int32} (z1 : ¬ x.toInt < 0) (z2 : ¬ 7 < x.toInt) (c0 : ¬ x = 0) (c1 : ¬ x = 1) (c2 : ¬ x = 2) (c3 : ¬ x = 3) (c4 : ¬ x = 4) (c5 : ¬ x = 5) (c6 : ¬ x = 6) (c7 : ¬ x = 7) : (#[45, 50, 55, 60, 65, 70, 75, 80] : Array Int)[(x.toInt - 0).toNat]? = some 85 := by
  obtain ⟨v, hv⟩ : ∃ v : Int, v = x.toInt := ⟨_, rfl⟩
  have c0 : v ≠ 0 := fun e => c0 (Int32.toInt_inj.mp (by rw [← hv, e]; decide))
  have c1 : v ≠ 1 := fun e => c1 (Int32.toInt_inj.mp (by rw [← hv, e]; decide))
  have c2 : v ≠ 2 := fun e => c2 (Int32.toInt_inj.mp (by rw [← hv, e]; decide))
  have c3 : v ≠ 3 := fun e => c3 (Int32.toInt_inj.mp (by rw [← hv, e]; decide))
  have c4 : v ≠ 4 := fun e => c4 (Int32.toInt_inj.mp (by rw [← hv, e]; decide))
  have c5 : v ≠ 5 := fun e => c5 (Int32.toInt_inj.mp (by rw [← hv, e]; decide))
  have c6 : v ≠ 6 := fun e => c6 (Int32.toInt_inj.mp (by rw [← hv, e]; decide))
  have c7 : v ≠ 7 := fun e => c7 (Int32.toInt_inj.mp (by rw [← hv, e]; decide))
  rw [← hv] at z1 z2 ⊢
  rcases (show v = 0 ∨ v = 1 ∨ v = 2 ∨ v = 3 ∨ v = 4 ∨ v = 5 ∨ v = 6 ∨ v = 7 by omega) with rfl | rfl | rfl | rfl | rfl | rfl | rfl | rfl
  all_goals first | exact absurd rfl (by assumption) | decide
set_option maxRecDepth 100000 in
set_option maxHeartbeats 4000000 in
theorem sg_X3_readLine_0 {G : zG} {d : Nat} {h : zMem} {Q : Int32 → zMem → Prop} {t : Nat}  (hS : zSh1 h t)  (B : ((zI h 3 4) = 0 → ∃ Q1 : Int32 → zMem → Prop, zConI G mX3_stuffLine d [.ref 2] h Q1 ∧ (∀ v4 h2, Q1 v4 h2 → zSh1 h2 t ∧ Q v4 h2)) ∧ ((zI h 3 4) = 1 → ∃ Q5 : Int32 → zMem → Prop, zConI G mX3_dayLine d [.ref 2] h Q5 ∧ (∀ v8 h6, Q5 v8 h6 → zSh1 h6 t ∧ Q v8 h6)) ∧ ((zI h 3 4) = 2 → ∃ Q9 : Int32 → zMem → Prop, zConI G mX3_mixLine d [.ref 2] h Q9 ∧ (∀ v12 h10, Q9 v12 h10 → zSh1 h10 t ∧ Q v12 h10)) ∧ ((zI h 3 4) = 3 → ∃ Q13 : Int32 → zMem → Prop, zConI G mX3_roomLine d [.ref 2] h Q13 ∧ (∀ v16 h14, Q13 v16 h14 → zSh1 h14 t ∧ Q v16 h14)) ∧ ((zI h 3 4) = 4 → ∃ Q17 : Int32 → zMem → Prop, zConI G mX3_monkLine d [.ref 2] h Q17 ∧ (∀ v20 h18, Q17 v20 h18 → zSh1 h18 t ∧ Q v20 h18)) ∧ ((zI h 3 4) = 5 → ∃ Q21 : Int32 → zMem → Prop, zConI G mX3_lingerLine d [.ref 2] h Q21 ∧ (∀ v24 h22, Q21 v24 h22 → zSh1 h22 t ∧ Q v24 h22)) ∧ ((zI h 3 4) = 6 → ∃ Q25 : Int32 → zMem → Prop, zConI G mX3_seedLine d [.ref 2] h Q25 ∧ (∀ v28 h26, Q25 v28 h26 → zSh1 h26 t ∧ Q v28 h26)) ∧ ((zI h 3 4) = 7 → ∃ Q29 : Int32 → zMem → Prop, zConI G mX3_lawLine d [.ref 2] h Q29 ∧ (∀ v32 h30, Q29 v32 h30 → zSh1 h30 t ∧ Q v32 h30)) ∧ (¬ (zI h 3 4) = 0 → ¬ (zI h 3 4) = 1 → ¬ (zI h 3 4) = 2 → ¬ (zI h 3 4) = 3 → ¬ (zI h 3 4) = 4 → ¬ (zI h 3 4) = 5 → ¬ (zI h 3 4) = 6 → ¬ (zI h 3 4) = 7 → ∃ Q33 : Int32 → zMem → Prop, zConI G mX3_wrong d [.ref 2, .int (1 : Int32)] h Q33 ∧ (∀ v36 h34, Q33 v36 h34 → zSh1 h34 t ∧ Q v36 h34))) : zg G mX3_readLine (d + 1) 0 [.ref 2] [] h (zPI Q) := by
  refine z_aload_n 0 rfl rfl ?_
  refine z_getR 1 rfl lX3_12 rfl (hS.1.o 2 3 rfl rfl rfl) (hS.1.r 2 0 3 rfl rfl rfl) ?_
  refine z_getI 2 rfl lX3_46 rfl (hS.1.o 3 4 rfl rfl rfl) ?_
  by_cases c37_0 : (zI h 3 4) = 0
  · obtain ⟨B, -⟩ := B
    refine z_tableIn 3 52 rfl 0 (by rw [c37_0]; decide) (by decide) (by decide) rfl (by decide) ?_
    have B := B c37_0
    refine z_aload_n 4 rfl rfl ?_
    obtain ⟨Q1, K3, B⟩ := B
    refine z_cVI0 (ν := mX3_stuffLine) 5 rfl rfl fX3_stuffLine gX3_54 ⟨_, rfl, rfl⟩ (by decide) (hS.1.o 2 3 rfl rfl rfl) (Nat.le_of_ble_eq_true rfl) K3 (fun v4 h2 q => ?_)
    obtain ⟨hSh2, B⟩ := B v4 h2 q
    exact z_iret 6 rfl rfl rfl ⟨rfl, rfl⟩ ⟨_, rfl, B⟩
  obtain ⟨-, B⟩ := B
  by_cases c37_1 : (zI h 3 4) = 1
  · obtain ⟨B, -⟩ := B
    refine z_tableIn 3 57 rfl 1 (by rw [c37_1]; decide) (by decide) (by decide) rfl (by decide) ?_
    have B := B c37_1
    refine z_aload_n 7 rfl rfl ?_
    obtain ⟨Q5, K7, B⟩ := B
    refine z_cVI0 (ν := mX3_dayLine) 8 rfl rfl fX3_dayLine gX3_58 ⟨_, rfl, rfl⟩ (by decide) (hS.1.o 2 3 rfl rfl rfl) (Nat.le_of_ble_eq_true rfl) K7 (fun v8 h6 q => ?_)
    obtain ⟨hSh6, B⟩ := B v8 h6 q
    exact z_iret 9 rfl rfl rfl ⟨rfl, rfl⟩ ⟨_, rfl, B⟩
  obtain ⟨-, B⟩ := B
  by_cases c37_2 : (zI h 3 4) = 2
  · obtain ⟨B, -⟩ := B
    refine z_tableIn 3 62 rfl 2 (by rw [c37_2]; decide) (by decide) (by decide) rfl (by decide) ?_
    have B := B c37_2
    refine z_aload_n 10 rfl rfl ?_
    obtain ⟨Q9, K11, B⟩ := B
    refine z_cVI0 (ν := mX3_mixLine) 11 rfl rfl fX3_mixLine gX3_61 ⟨_, rfl, rfl⟩ (by decide) (hS.1.o 2 3 rfl rfl rfl) (Nat.le_of_ble_eq_true rfl) K11 (fun v12 h10 q => ?_)
    obtain ⟨hSh10, B⟩ := B v12 h10 q
    exact z_iret 12 rfl rfl rfl ⟨rfl, rfl⟩ ⟨_, rfl, B⟩
  obtain ⟨-, B⟩ := B
  by_cases c37_3 : (zI h 3 4) = 3
  · obtain ⟨B, -⟩ := B
    refine z_tableIn 3 67 rfl 3 (by rw [c37_3]; decide) (by decide) (by decide) rfl (by decide) ?_
    have B := B c37_3
    refine z_aload_n 13 rfl rfl ?_
    obtain ⟨Q13, K15, B⟩ := B
    refine z_cVI0 (ν := mX3_roomLine) 14 rfl rfl fX3_roomLine gX3_64 ⟨_, rfl, rfl⟩ (by decide) (hS.1.o 2 3 rfl rfl rfl) (Nat.le_of_ble_eq_true rfl) K15 (fun v16 h14 q => ?_)
    obtain ⟨hSh14, B⟩ := B v16 h14 q
    exact z_iret 15 rfl rfl rfl ⟨rfl, rfl⟩ ⟨_, rfl, B⟩
  obtain ⟨-, B⟩ := B
  by_cases c37_4 : (zI h 3 4) = 4
  · obtain ⟨B, -⟩ := B
    refine z_tableIn 3 72 rfl 4 (by rw [c37_4]; decide) (by decide) (by decide) rfl (by decide) ?_
    have B := B c37_4
    refine z_aload_n 16 rfl rfl ?_
    obtain ⟨Q17, K19, B⟩ := B
    refine z_cVI0 (ν := mX3_monkLine) 17 rfl rfl fX3_monkLine gX3_67 ⟨_, rfl, rfl⟩ (by decide) (hS.1.o 2 3 rfl rfl rfl) (Nat.le_of_ble_eq_true rfl) K19 (fun v20 h18 q => ?_)
    obtain ⟨hSh18, B⟩ := B v20 h18 q
    exact z_iret 18 rfl rfl rfl ⟨rfl, rfl⟩ ⟨_, rfl, B⟩
  obtain ⟨-, B⟩ := B
  by_cases c37_5 : (zI h 3 4) = 5
  · obtain ⟨B, -⟩ := B
    refine z_tableIn 3 77 rfl 5 (by rw [c37_5]; decide) (by decide) (by decide) rfl (by decide) ?_
    have B := B c37_5
    refine z_aload_n 19 rfl rfl ?_
    obtain ⟨Q21, K23, B⟩ := B
    refine z_cVI0 (ν := mX3_lingerLine) 20 rfl rfl fX3_lingerLine gX3_70 ⟨_, rfl, rfl⟩ (by decide) (hS.1.o 2 3 rfl rfl rfl) (Nat.le_of_ble_eq_true rfl) K23 (fun v24 h22 q => ?_)
    obtain ⟨hSh22, B⟩ := B v24 h22 q
    exact z_iret 21 rfl rfl rfl ⟨rfl, rfl⟩ ⟨_, rfl, B⟩
  obtain ⟨-, B⟩ := B
  by_cases c37_6 : (zI h 3 4) = 6
  · obtain ⟨B, -⟩ := B
    refine z_tableIn 3 82 rfl 6 (by rw [c37_6]; decide) (by decide) (by decide) rfl (by decide) ?_
    have B := B c37_6
    refine z_aload_n 22 rfl rfl ?_
    obtain ⟨Q25, K27, B⟩ := B
    refine z_cVI0 (ν := mX3_seedLine) 23 rfl rfl fX3_seedLine gX3_73 ⟨_, rfl, rfl⟩ (by decide) (hS.1.o 2 3 rfl rfl rfl) (Nat.le_of_ble_eq_true rfl) K27 (fun v28 h26 q => ?_)
    obtain ⟨hSh26, B⟩ := B v28 h26 q
    exact z_iret 24 rfl rfl rfl ⟨rfl, rfl⟩ ⟨_, rfl, B⟩
  obtain ⟨-, B⟩ := B
  by_cases c37_7 : (zI h 3 4) = 7
  · obtain ⟨B, -⟩ := B
    refine z_tableIn 3 87 rfl 7 (by rw [c37_7]; decide) (by decide) (by decide) rfl (by decide) ?_
    have B := B c37_7
    refine z_aload_n 25 rfl rfl ?_
    obtain ⟨Q29, K31, B⟩ := B
    refine z_cVI0 (ν := mX3_lawLine) 26 rfl rfl fX3_lawLine gX3_76 ⟨_, rfl, rfl⟩ (by decide) (hS.1.o 2 3 rfl rfl rfl) (Nat.le_of_ble_eq_true rfl) K31 (fun v32 h30 q => ?_)
    obtain ⟨hSh30, B⟩ := B v32 h30 q
    exact z_iret 27 rfl rfl rfl ⟨rfl, rfl⟩ ⟨_, rfl, B⟩
  obtain ⟨-, B⟩ := B
  have B := B c37_0 c37_1 c37_2 c37_3 c37_4 c37_5 c37_6 c37_7
  refine z_tableD 3 92 rfl (by decide) (by
    intro z1 z2
    refine zsw_X3_readLine_7 z1 z2 c37_0 c37_1 c37_2 c37_3 c37_4 c37_5 c37_6 c37_7) ?_
  refine z_aload_n 28 rfl rfl ?_
  refine z_iconst (v := 1) 29 rfl (by decide) ?_
  obtain ⟨Q33, K35, B⟩ := B
  refine z_cVI1 (ν := mX3_wrong) 30 rfl rfl fX3_wrong gX3_79 ⟨_, rfl, rfl⟩ (by decide) (hS.1.o 2 3 rfl rfl rfl) (Nat.le_of_ble_eq_true rfl) K35 (fun v36 h34 q => ?_)
  obtain ⟨hSh34, B⟩ := B v36 h34 q
  exact z_iret 31 rfl rfl rfl ⟨rfl, rfl⟩ ⟨_, rfl, B⟩
theorem cn_X3_readLine {G : zG} {d : Nat} {h : zMem} {Q : Int32 → zMem → Prop}  (B : zg G mX3_readLine (d + 1) 0 [.ref 2] [] h (zPI Q)) : zConI G mX3_readLine (d + 1) [.ref 2] h Q := zcon0 (by decide +kernel) eX3_readLine (Nat.le_of_ble_eq_true rfl) rfl B
set_option maxRecDepth 100000 in
set_option maxHeartbeats 4000000 in
theorem sg_X3_stuffLine_0 {G : zG} {d : Nat} {h : zMem} {Q : Int32 → zMem → Prop} {t : Nat}  (hS : zSh1 h t)  (B : ∃ Q1 : Int32 → zMem → Prop, zConI G mX3_newName d [.ref 2, .int (0 : Int32)] h Q1 ∧ (∀ v4 h2, Q1 v4 h2 → zSh1 h2 t ∧ (¬ v4 = (-1 : Int32) → ∃ Q6 : Int32 → zMem → Prop, zConI G mX3_readNumber d [.ref 2, .int (0 : Int32), .int (999 : Int32)] h2 Q6 ∧ (∀ v9 h7, Q6 v9 h7 → zSh1 h7 t ∧ (¬ v9 = (-1 : Int32) → vp_in v4 6 ∧ ∃ Q12 : Int32 → zMem → Prop, zConI G mX3_readStop d [.ref 2] (zsI h7 ((111 - t) + 7) v4.toNatClampNeg v9) Q12 ∧ (∀ v15 h13, Q12 v15 h13 → zSh1 h13 t ∧ Q v15 h13)) ∧ (v9 = (-1 : Int32) → Q (-1 : Int32) h7))) ∧ (v4 = (-1 : Int32) → (¬ (-1 : Int32) = (-1 : Int32) → vp_in v4 6 ∧ ∃ Q18 : Int32 → zMem → Prop, zConI G mX3_readStop d [.ref 2] (zsI h2 ((111 - t) + 7) v4.toNatClampNeg (-1 : Int32)) Q18 ∧ (∀ v21 h19, Q18 v21 h19 → zSh1 h19 t ∧ Q v21 h19)) ∧ ((-1 : Int32) = (-1 : Int32) → Q (-1 : Int32) h2)))) : zg G mX3_stuffLine (d + 1) 0 [.ref 2, zU, zU] [] h (zPI Q) := by
  refine z_aload_n 0 rfl rfl ?_
  refine z_iconst (v := 0) 1 rfl (by decide) ?_
  obtain ⟨Q1, K3, B⟩ := B
  refine z_cVI1 (ν := mX3_newName) 2 rfl rfl fX3_newName gX3_83 ⟨_, rfl, rfl⟩ (by decide) (hS.1.o 2 3 rfl rfl rfl) (Nat.le_of_ble_eq_true rfl) K3 (fun v4 h2 q => ?_)
  obtain ⟨hSh2, B⟩ := B v4 h2 q
  refine z_istore_n 3 rfl (by decide) rfl ?_
  refine z_iload_n 4 rfl rfl ?_
  refine z_iconst (v := -1) 5 rfl (by decide) ?_
  refine z_icmp_ne 6 15 rfl (by decide) ⟨fun c5 => ?_, fun c5 => ?_⟩
  · have B := B.1 c5
    refine z_aload_n 9 rfl rfl ?_
    refine z_iconst (v := 0) 10 rfl (by decide) ?_
    refine z_sipush (v := 999) 11 rfl (by decide) ?_
    obtain ⟨Q6, K8, B⟩ := B
    refine z_cVI2 (ν := mX3_readNumber) 12 rfl rfl fX3_readNumber gX3_86 ⟨_, rfl, rfl⟩ (by decide) (hSh2.1.o 2 3 rfl rfl rfl) (Nat.le_of_ble_eq_true rfl) K8 (fun v9 h7 q => ?_)
    obtain ⟨hSh7, B⟩ := B v9 h7 q
    refine z_istore_n 13 rfl (by decide) rfl ?_
    refine z_iload_n 14 rfl rfl ?_
    refine z_iconst (v := -1) 15 rfl (by decide) ?_
    refine z_icmp_ne 16 31 rfl (by decide) ⟨fun c10 => ?_, fun c10 => ?_⟩
    · have B := B.1 c10
      refine z_aload_n 19 rfl rfl ?_
      refine z_getR 20 rfl lX3_28 rfl (hSh7.1.o 2 3 rfl rfl rfl) hSh7.2.2.2 ?_
      refine z_getR 21 rfl lX3_90 rfl (zS_to hSh7 hSh7.2.1.other 0 6 rfl rfl) (zS_tr hSh7 hSh7.2.1.other 0 2 7 rfl rfl rfl) ?_
      refine z_iload_n 22 rfl rfl ?_
      refine z_iload_n 23 rfl rfl ?_
      obtain ⟨o11, B⟩ := B
      refine z_iast 24 rfl (zS_to hSh7 hSh7.2.1.other 7 100 rfl rfl) (zin (zS_tl hSh7 hSh7.2.1.other 7 6 rfl rfl) o11) ?_
      refine z_aload_n 25 rfl rfl ?_
      obtain ⟨Q12, K14, B⟩ := B
      refine z_cVI0 (ν := mX3_readStop) 26 rfl rfl fX3_readStop gX3_93 ⟨_, rfl, rfl⟩ (by decide) (hSh7.1.o 2 3 rfl rfl rfl) (Nat.le_of_ble_eq_true rfl) K14 (fun v15 h13 q => ?_)
      obtain ⟨hSh13, B⟩ := B v15 h13 q
      exact z_iret 27 rfl rfl rfl ⟨rfl, rfl⟩ ⟨_, rfl, B⟩
    · have B := B.2 c10
      refine z_iconst (v := -1) 17 rfl (by decide) ?_
      exact z_iret 18 rfl rfl rfl ⟨rfl, rfl⟩ ⟨_, rfl, B⟩
  · have B := B.2 c5
    refine z_iconst (v := -1) 7 rfl (by decide) ?_
    refine z_goto 8 23 rfl (by decide) ?_
    refine z_istore_n 13 rfl (by decide) rfl ?_
    refine z_iload_n 14 rfl rfl ?_
    refine z_iconst (v := -1) 15 rfl (by decide) ?_
    refine z_icmp_ne 16 31 rfl (by decide) ⟨fun c16 => ?_, fun c16 => ?_⟩
    · have B := B.1 c16
      refine z_aload_n 19 rfl rfl ?_
      refine z_getR 20 rfl lX3_28 rfl (hSh2.1.o 2 3 rfl rfl rfl) hSh2.2.2.2 ?_
      refine z_getR 21 rfl lX3_90 rfl (zS_to hSh2 hSh2.2.1.other 0 6 rfl rfl) (zS_tr hSh2 hSh2.2.1.other 0 2 7 rfl rfl rfl) ?_
      refine z_iload_n 22 rfl rfl ?_
      refine z_iload_n 23 rfl rfl ?_
      obtain ⟨o17, B⟩ := B
      refine z_iast 24 rfl (zS_to hSh2 hSh2.2.1.other 7 100 rfl rfl) (zin (zS_tl hSh2 hSh2.2.1.other 7 6 rfl rfl) o17) ?_
      refine z_aload_n 25 rfl rfl ?_
      obtain ⟨Q18, K20, B⟩ := B
      refine z_cVI0 (ν := mX3_readStop) 26 rfl rfl fX3_readStop gX3_93 ⟨_, rfl, rfl⟩ (by decide) (hSh2.1.o 2 3 rfl rfl rfl) (Nat.le_of_ble_eq_true rfl) K20 (fun v21 h19 q => ?_)
      obtain ⟨hSh19, B⟩ := B v21 h19 q
      exact z_iret 27 rfl rfl rfl ⟨rfl, rfl⟩ ⟨_, rfl, B⟩
    · have B := B.2 c16
      refine z_iconst (v := -1) 17 rfl (by decide) ?_
      exact z_iret 18 rfl rfl rfl ⟨rfl, rfl⟩ ⟨_, rfl, B⟩
theorem cn_X3_stuffLine {G : zG} {d : Nat} {h : zMem} {Q : Int32 → zMem → Prop}  (B : zg G mX3_stuffLine (d + 1) 0 [.ref 2, zU, zU] [] h (zPI Q)) : zConI G mX3_stuffLine (d + 1) [.ref 2] h Q := zcon0 (by decide +kernel) eX3_stuffLine (Nat.le_of_ble_eq_true rfl) rfl B
set_option maxRecDepth 100000 in
set_option maxHeartbeats 4000000 in
theorem sg_X3_dayLine_0 {G : zG} {d : Nat} {h : zMem} {Q : Int32 → zMem → Prop} {t : Nat}  (hS : zSh1 h t)  (B : ∃ Q1 : Int32 → zMem → Prop, zConI G mX3_newName d [.ref 2, .int (1 : Int32)] h Q1 ∧ (∀ v4 h2, Q1 v4 h2 → zSh1 h2 t ∧ (¬ v4 = (-1 : Int32) → (¬ (zI h2 3 4) = (8 : Int32) → ∃ Q7 : Int32 → zMem → Prop, zConI G mX3_readStop d [.ref 2] h2 Q7 ∧ (∀ v10 h8, Q7 v10 h8 → zSh1 h8 t ∧ Q v10 h8)) ∧ ((zI h2 3 4) = (8 : Int32) → vp_in v4 8 ∧ ∃ Q12 : zMem → Prop, zConV G mX4_advance d [.ref 3] (zsI h2 ((111 - t) + 8) v4.toNatClampNeg (vp_nar .boolean (1 : Int32))) Q12 ∧ (∀ h13, Q12 h13 → zSh1 h13 t ∧ ∃ Q15 : Int32 → zMem → Prop, zConI G mX3_readStop d [.ref 2] h13 Q15 ∧ (∀ v18 h16, Q15 v18 h16 → zSh1 h16 t ∧ Q v18 h16)))) ∧ (v4 = (-1 : Int32) → Q (-1 : Int32) h2))) : zg G mX3_dayLine (d + 1) 0 [.ref 2, zU] [] h (zPI Q) := by
  refine z_aload_n 0 rfl rfl ?_
  refine z_iconst (v := 1) 1 rfl (by decide) ?_
  obtain ⟨Q1, K3, B⟩ := B
  refine z_cVI1 (ν := mX3_newName) 2 rfl rfl fX3_newName gX3_83 ⟨_, rfl, rfl⟩ (by decide) (hS.1.o 2 3 rfl rfl rfl) (Nat.le_of_ble_eq_true rfl) K3 (fun v4 h2 q => ?_)
  obtain ⟨hSh2, B⟩ := B v4 h2 q
  refine z_istore_n 3 rfl (by decide) rfl ?_
  refine z_iload_n 4 rfl rfl ?_
  refine z_iconst (v := -1) 5 rfl (by decide) ?_
  refine z_icmp_ne 6 13 rfl (by decide) ⟨fun c5 => ?_, fun c5 => ?_⟩
  · have B := B.1 c5
    refine z_aload_n 9 rfl rfl ?_
    refine z_getR 10 rfl lX3_12 rfl (hSh2.1.o 2 3 rfl rfl rfl) (hSh2.1.r 2 0 3 rfl rfl rfl) ?_
    refine z_getI 11 rfl lX3_46 rfl (hSh2.1.o 3 4 rfl rfl rfl) ?_
    refine z_bipush (v := 8) 12 rfl (by decide) ?_
    refine z_icmp_ne 13 42 rfl (by decide) ⟨fun c6 => ?_, fun c6 => ?_⟩
    · have B := B.1 c6
      refine z_aload_n 23 rfl rfl ?_
      obtain ⟨Q7, K9, B⟩ := B
      refine z_cVI0 (ν := mX3_readStop) 24 rfl rfl fX3_readStop gX3_93 ⟨_, rfl, rfl⟩ (by decide) (hSh2.1.o 2 3 rfl rfl rfl) (Nat.le_of_ble_eq_true rfl) K9 (fun v10 h8 q => ?_)
      obtain ⟨hSh8, B⟩ := B v10 h8 q
      exact z_iret 25 rfl rfl rfl ⟨rfl, rfl⟩ ⟨_, rfl, B⟩
    · have B := B.2 c6
      refine z_aload_n 14 rfl rfl ?_
      refine z_getR 15 rfl lX3_28 rfl (hSh2.1.o 2 3 rfl rfl rfl) hSh2.2.2.2 ?_
      refine z_getR 16 rfl lX3_96 rfl (zS_to hSh2 hSh2.2.1.other 0 6 rfl rfl) (zS_tr hSh2 hSh2.2.1.other 0 3 8 rfl rfl rfl) ?_
      refine z_iload_n 17 rfl rfl ?_
      refine z_iconst (v := 1) 18 rfl (by decide) ?_
      obtain ⟨o11, B⟩ := B
      refine z_zast 19 rfl (zS_to hSh2 hSh2.2.1.other 8 103 rfl rfl) (zin (zS_tl hSh2 hSh2.2.1.other 8 8 rfl rfl) o11) ?_
      refine z_aload_n 20 rfl rfl ?_
      refine z_getR 21 rfl lX3_12 rfl (hSh2.1.o 2 3 rfl rfl rfl) (hSh2.1.r 2 0 3 rfl rfl rfl) ?_
      obtain ⟨Q12, K14, B⟩ := B
      refine z_cVV0 (ν := mX4_advance) 22 rfl rfl fX4_advance gX3_100 ⟨_, rfl, rfl⟩ (by decide) (hSh2.1.o 3 4 rfl rfl rfl) (Nat.le_of_ble_eq_true rfl) K14 (fun h13 q => ?_)
      obtain ⟨hSh13, B⟩ := B h13 q
      refine z_aload_n 23 rfl rfl ?_
      obtain ⟨Q15, K17, B⟩ := B
      refine z_cVI0 (ν := mX3_readStop) 24 rfl rfl fX3_readStop gX3_93 ⟨_, rfl, rfl⟩ (by decide) (hSh13.1.o 2 3 rfl rfl rfl) (Nat.le_of_ble_eq_true rfl) K17 (fun v18 h16 q => ?_)
      obtain ⟨hSh16, B⟩ := B v18 h16 q
      exact z_iret 25 rfl rfl rfl ⟨rfl, rfl⟩ ⟨_, rfl, B⟩
  · have B := B.2 c5
    refine z_iconst (v := -1) 7 rfl (by decide) ?_
    exact z_iret 8 rfl rfl rfl ⟨rfl, rfl⟩ ⟨_, rfl, B⟩
theorem cn_X3_dayLine {G : zG} {d : Nat} {h : zMem} {Q : Int32 → zMem → Prop}  (B : zg G mX3_dayLine (d + 1) 0 [.ref 2, zU] [] h (zPI Q)) : zConI G mX3_dayLine (d + 1) [.ref 2] h Q := zcon0 (by decide +kernel) eX3_dayLine (Nat.le_of_ble_eq_true rfl) rfl B
set_option maxRecDepth 100000 in
set_option maxHeartbeats 4000000 in
theorem sg_X3_mixLine_0 {G : zG} {d : Nat} {h : zMem} {Q : Int32 → zMem → Prop} {t : Nat}  (hS : zSh1 h t)  (B : ((zI h (111 - t) 9) < (24 : Int32) → ∃ Q2 : zMem → Prop, zConV G mX4_advance d [.ref 3] h Q2 ∧ (∀ h3, Q2 h3 → zSh1 h3 t ∧ ∃ Q5 : Int32 → zMem → Prop, zConI G mX3_toldName d [.ref 2, .int (1 : Int32)] h3 Q5 ∧ (∀ v8 h6, Q5 v8 h6 → zSh1 h6 t ∧ (¬ v8 = (-1 : Int32) → ∃ Q10 : zMem → Prop, zConV G mX4_advance d [.ref 3] h6 Q10 ∧ (∀ h11, Q10 h11 → zSh1 h11 t ∧ ∃ Q13 : Int32 → zMem → Prop, zConI G mX3_toldName d [.ref 2, .int (0 : Int32)] h11 Q13 ∧ (∀ v16 h14, Q13 v16 h14 → zSh1 h14 t ∧ (¬ v16 = (-1 : Int32) → vp_in v8 8 ∧ vp_in v16 6 ∧ ((zI h14 ((111 - t) + 9 + 1 + v8.toNatClampNeg) v16.toNatClampNeg) ≤ 0 → ∃ Q21 : zMem → Prop, zConV G mX4_advance d [.ref 3] h14 Q21 ∧ (∀ h22, Q21 h22 → zSh1 h22 t ∧ ∃ Q24 : Int32 → zMem → Prop, zConI G mX3_readNumber d [.ref 2, .int (1 : Int32), .int (99 : Int32)] h22 Q24 ∧ (∀ v27 h25, Q24 v27 h25 → zSh1 h25 t ∧ (¬ v27 = (-1 : Int32) → ∃ Q29 : Int32 → zMem → Prop, zConI G mX3_readStop d [.ref 2] (zsI (zsI h25 ((111 - t) + 9 + 1 + v8.toNatClampNeg) v16.toNatClampNeg v27) (111 - t) 9 ((zI (zsI h25 ((111 - t) + 9 + 1 + v8.toNatClampNeg) v16.toNatClampNeg v27) (111 - t) 9) + (1 : Int32))) Q29 ∧ (∀ v32 h30, Q29 v32 h30 → zSh1 h30 t ∧ Q v32 h30)) ∧ (v27 = (-1 : Int32) → Q (-1 : Int32) h25)))) ∧ (¬ (zI h14 ((111 - t) + 9 + 1 + v8.toNatClampNeg) v16.toNatClampNeg) ≤ 0 → ∃ Q33 : Int32 → zMem → Prop, zConI G mX3_wrong d [.ref 2, .int (3 : Int32)] h14 Q33 ∧ (∀ v36 h34, Q33 v36 h34 → zSh1 h34 t ∧ Q v36 h34))) ∧ (v16 = (-1 : Int32) → Q (-1 : Int32) h14)))) ∧ (v8 = (-1 : Int32) → Q (-1 : Int32) h6)))) ∧ (¬ (zI h (111 - t) 9) < (24 : Int32) → ∃ Q37 : Int32 → zMem → Prop, zConI G mX3_wrong d [.ref 2, .int (2 : Int32)] h Q37 ∧ (∀ v40 h38, Q37 v40 h38 → zSh1 h38 t ∧ Q v40 h38))) : zg G mX3_mixLine (d + 1) 0 [.ref 2, zU, zU, zU] [] h (zPI Q) := by
  refine z_aload_n 0 rfl rfl ?_
  refine z_getR 1 rfl lX3_28 rfl (hS.1.o 2 3 rfl rfl rfl) hS.2.2.2 ?_
  refine z_getI 2 rfl lX3_103 rfl (zS_to hS hS.2.1.other 0 6 rfl rfl) ?_
  refine z_bipush (v := 24) 3 rfl (by decide) ?_
  refine z_icmp_lt 4 18 rfl (by decide) ⟨fun c1 => ?_, fun c1 => ?_⟩
  · have B := B.1 c1
    refine z_aload_n 9 rfl rfl ?_
    refine z_getR 10 rfl lX3_12 rfl (hS.1.o 2 3 rfl rfl rfl) (hS.1.r 2 0 3 rfl rfl rfl) ?_
    obtain ⟨Q2, K4, B⟩ := B
    refine z_cVV0 (ν := mX4_advance) 11 rfl rfl fX4_advance gX3_100 ⟨_, rfl, rfl⟩ (by decide) (hS.1.o 3 4 rfl rfl rfl) (Nat.le_of_ble_eq_true rfl) K4 (fun h3 q => ?_)
    obtain ⟨hSh3, B⟩ := B h3 q
    refine z_aload_n 12 rfl rfl ?_
    refine z_iconst (v := 1) 13 rfl (by decide) ?_
    obtain ⟨Q5, K7, B⟩ := B
    refine z_cVI1 (ν := mX3_toldName) 14 rfl rfl fX3_toldName gX3_106 ⟨_, rfl, rfl⟩ (by decide) (hSh3.1.o 2 3 rfl rfl rfl) (Nat.le_of_ble_eq_true rfl) K7 (fun v8 h6 q => ?_)
    obtain ⟨hSh6, B⟩ := B v8 h6 q
    refine z_istore_n 15 rfl (by decide) rfl ?_
    refine z_iload_n 16 rfl rfl ?_
    refine z_iconst (v := -1) 17 rfl (by decide) ?_
    refine z_icmp_ne 18 38 rfl (by decide) ⟨fun c9 => ?_, fun c9 => ?_⟩
    · have B := B.1 c9
      refine z_aload_n 21 rfl rfl ?_
      refine z_getR 22 rfl lX3_12 rfl (hSh6.1.o 2 3 rfl rfl rfl) (hSh6.1.r 2 0 3 rfl rfl rfl) ?_
      obtain ⟨Q10, K12, B⟩ := B
      refine z_cVV0 (ν := mX4_advance) 23 rfl rfl fX4_advance gX3_100 ⟨_, rfl, rfl⟩ (by decide) (hSh6.1.o 3 4 rfl rfl rfl) (Nat.le_of_ble_eq_true rfl) K12 (fun h11 q => ?_)
      obtain ⟨hSh11, B⟩ := B h11 q
      refine z_aload_n 24 rfl rfl ?_
      refine z_iconst (v := 0) 25 rfl (by decide) ?_
      obtain ⟨Q13, K15, B⟩ := B
      refine z_cVI1 (ν := mX3_toldName) 26 rfl rfl fX3_toldName gX3_106 ⟨_, rfl, rfl⟩ (by decide) (hSh11.1.o 2 3 rfl rfl rfl) (Nat.le_of_ble_eq_true rfl) K15 (fun v16 h14 q => ?_)
      obtain ⟨hSh14, B⟩ := B v16 h14 q
      refine z_istore_n 27 rfl (by decide) rfl ?_
      refine z_iload_n 28 rfl rfl ?_
      refine z_iconst (v := -1) 29 rfl (by decide) ?_
      refine z_icmp_ne 30 58 rfl (by decide) ⟨fun c17 => ?_, fun c17 => ?_⟩
      · have B := B.1 c17
        refine z_aload_n 33 rfl rfl ?_
        refine z_getR 34 rfl lX3_28 rfl (hSh14.1.o 2 3 rfl rfl rfl) hSh14.2.2.2 ?_
        refine z_getR 35 rfl lX3_109 rfl (zS_to hSh14 hSh14.2.1.other 0 6 rfl rfl) (zS_tr hSh14 hSh14.2.1.other 0 4 9 rfl rfl rfl) ?_
        refine z_iload_n 36 rfl rfl ?_
        obtain ⟨o18, B⟩ := B
        refine z_aald 37 rfl (zS_to hSh14 hSh14.2.1.other 9 104 rfl rfl) (zin (zS_tl hSh14 hSh14.2.1.other 9 8 rfl rfl) o18) (zS_trow hSh14 hSh14.2.1.other 9 8 6 rfl rfl rfl o18).1 ?_
        refine z_iload_n 38 rfl rfl ?_
        obtain ⟨o19, B⟩ := B
        refine z_iald 39 rfl (zS_trow hSh14 hSh14.2.1.other 9 8 6 rfl rfl rfl o18).2.1 (zin (zS_trow hSh14 hSh14.2.1.other 9 8 6 rfl rfl rfl o18).2.2 o19) ?_
        refine z_if_le 40 78 rfl (by decide) ⟨fun c20 => ?_, fun c20 => ?_⟩
        · have B := B.1 c20
          refine z_aload_n 45 rfl rfl ?_
          refine z_getR 46 rfl lX3_12 rfl (hSh14.1.o 2 3 rfl rfl rfl) (hSh14.1.r 2 0 3 rfl rfl rfl) ?_
          obtain ⟨Q21, K23, B⟩ := B
          refine z_cVV0 (ν := mX4_advance) 47 rfl rfl fX4_advance gX3_100 ⟨_, rfl, rfl⟩ (by decide) (hSh14.1.o 3 4 rfl rfl rfl) (Nat.le_of_ble_eq_true rfl) K23 (fun h22 q => ?_)
          obtain ⟨hSh22, B⟩ := B h22 q
          refine z_aload_n 48 rfl rfl ?_
          refine z_iconst (v := 1) 49 rfl (by decide) ?_
          refine z_bipush (v := 99) 50 rfl (by decide) ?_
          obtain ⟨Q24, K26, B⟩ := B
          refine z_cVI2 (ν := mX3_readNumber) 51 rfl rfl fX3_readNumber gX3_86 ⟨_, rfl, rfl⟩ (by decide) (hSh22.1.o 2 3 rfl rfl rfl) (Nat.le_of_ble_eq_true rfl) K26 (fun v27 h25 q => ?_)
          obtain ⟨hSh25, B⟩ := B v27 h25 q
          refine z_istore_n 52 rfl (by decide) rfl ?_
          refine z_iload_n 53 rfl rfl ?_
          refine z_iconst (v := -1) 54 rfl (by decide) ?_
          refine z_icmp_ne 55 100 rfl (by decide) ⟨fun c28 => ?_, fun c28 => ?_⟩
          · have B := B.1 c28
            refine z_aload_n 58 rfl rfl ?_
            refine z_getR 59 rfl lX3_28 rfl (hSh25.1.o 2 3 rfl rfl rfl) hSh25.2.2.2 ?_
            refine z_getR 60 rfl lX3_109 rfl (zS_to hSh25 hSh25.2.1.other 0 6 rfl rfl) (zS_tr hSh25 hSh25.2.1.other 0 4 9 rfl rfl rfl) ?_
            refine z_iload_n 61 rfl rfl ?_
            refine z_aald 62 rfl (zS_to hSh25 hSh25.2.1.other 9 104 rfl rfl) (zin (zS_tl hSh25 hSh25.2.1.other 9 8 rfl rfl) o18) (zS_trow hSh25 hSh25.2.1.other 9 8 6 rfl rfl rfl o18).1 ?_
            refine z_iload_n 63 rfl rfl ?_
            refine z_iload_n 64 rfl rfl ?_
            refine z_iast 65 rfl (zS_trow hSh25 hSh25.2.1.other 9 8 6 rfl rfl rfl o18).2.1 (zin (zS_trow hSh25 hSh25.2.1.other 9 8 6 rfl rfl rfl o18).2.2 o19) ?_
            refine z_aload_n 66 rfl rfl ?_
            refine z_getR 67 rfl lX3_28 rfl (hSh25.1.o 2 3 rfl rfl rfl) hSh25.2.2.2 ?_
            refine z_dup 68 rfl rfl ?_
            refine z_getI 69 rfl lX3_103 rfl (zS_to hSh25 hSh25.2.1.other 0 6 rfl rfl) ?_
            refine z_iconst (v := 1) 70 rfl (by decide) ?_
            refine z_iadd 71 rfl ?_
            refine z_putI 72 rfl lX3_103 ⟨_, _, _, rfl, rfl⟩ rfl rfl rfl (zS_to hSh25 hSh25.2.1.other 0 6 rfl rfl) ?_
            refine z_aload_n 73 rfl rfl ?_
            obtain ⟨Q29, K31, B⟩ := B
            refine z_cVI0 (ν := mX3_readStop) 74 rfl rfl fX3_readStop gX3_93 ⟨_, rfl, rfl⟩ (by decide) (hSh25.1.o 2 3 rfl rfl rfl) (Nat.le_of_ble_eq_true rfl) K31 (fun v32 h30 q => ?_)
            obtain ⟨hSh30, B⟩ := B v32 h30 q
            exact z_iret 75 rfl rfl rfl ⟨rfl, rfl⟩ ⟨_, rfl, B⟩
          · have B := B.2 c28
            refine z_iconst (v := -1) 56 rfl (by decide) ?_
            exact z_iret 57 rfl rfl rfl ⟨rfl, rfl⟩ ⟨_, rfl, B⟩
        · have B := B.2 c20
          refine z_aload_n 41 rfl rfl ?_
          refine z_iconst (v := 3) 42 rfl (by decide) ?_
          obtain ⟨Q33, K35, B⟩ := B
          refine z_cVI1 (ν := mX3_wrong) 43 rfl rfl fX3_wrong gX3_79 ⟨_, rfl, rfl⟩ (by decide) (hSh14.1.o 2 3 rfl rfl rfl) (Nat.le_of_ble_eq_true rfl) K35 (fun v36 h34 q => ?_)
          obtain ⟨hSh34, B⟩ := B v36 h34 q
          exact z_iret 44 rfl rfl rfl ⟨rfl, rfl⟩ ⟨_, rfl, B⟩
      · have B := B.2 c17
        refine z_iconst (v := -1) 31 rfl (by decide) ?_
        exact z_iret 32 rfl rfl rfl ⟨rfl, rfl⟩ ⟨_, rfl, B⟩
    · have B := B.2 c9
      refine z_iconst (v := -1) 19 rfl (by decide) ?_
      exact z_iret 20 rfl rfl rfl ⟨rfl, rfl⟩ ⟨_, rfl, B⟩
  · have B := B.2 c1
    refine z_aload_n 5 rfl rfl ?_
    refine z_iconst (v := 2) 6 rfl (by decide) ?_
    obtain ⟨Q37, K39, B⟩ := B
    refine z_cVI1 (ν := mX3_wrong) 7 rfl rfl fX3_wrong gX3_79 ⟨_, rfl, rfl⟩ (by decide) (hS.1.o 2 3 rfl rfl rfl) (Nat.le_of_ble_eq_true rfl) K39 (fun v40 h38 q => ?_)
    obtain ⟨hSh38, B⟩ := B v40 h38 q
    exact z_iret 8 rfl rfl rfl ⟨rfl, rfl⟩ ⟨_, rfl, B⟩
theorem cn_X3_mixLine {G : zG} {d : Nat} {h : zMem} {Q : Int32 → zMem → Prop}  (B : zg G mX3_mixLine (d + 1) 0 [.ref 2, zU, zU, zU] [] h (zPI Q)) : zConI G mX3_mixLine (d + 1) [.ref 2] h Q := zcon0 (by decide +kernel) eX3_mixLine (Nat.le_of_ble_eq_true rfl) rfl B
set_option maxRecDepth 100000 in
set_option maxHeartbeats 4000000 in
theorem sg_X3_roomLine_0 {G : zG} {d : Nat} {h : zMem} {Q : Int32 → zMem → Prop} {t : Nat}  (hS : zSh1 h t)  (B : ∃ Q1 : Int32 → zMem → Prop, zConI G mX3_newName d [.ref 2, .int (2 : Int32)] h Q1 ∧ (∀ v4 h2, Q1 v4 h2 → zSh1 h2 t ∧ (¬ v4 = (-1 : Int32) → ∃ Q6 : Int32 → zMem → Prop, zConI G mX3_readNumber d [.ref 2, .int (0 : Int32), .int (100 : Int32)] h2 Q6 ∧ (∀ v9 h7, Q6 v9 h7 → zSh1 h7 t ∧ (¬ v9 = (-1 : Int32) → vp_in v4 6 ∧ ∃ Q12 : Int32 → zMem → Prop, zConI G mX3_readStop d [.ref 2] (zsI h7 ((111 - t) + 18) v4.toNatClampNeg v9) Q12 ∧ (∀ v15 h13, Q12 v15 h13 → zSh1 h13 t ∧ Q v15 h13)) ∧ (v9 = (-1 : Int32) → Q (-1 : Int32) h7))) ∧ (v4 = (-1 : Int32) → (¬ (-1 : Int32) = (-1 : Int32) → vp_in v4 6 ∧ ∃ Q18 : Int32 → zMem → Prop, zConI G mX3_readStop d [.ref 2] (zsI h2 ((111 - t) + 18) v4.toNatClampNeg (-1 : Int32)) Q18 ∧ (∀ v21 h19, Q18 v21 h19 → zSh1 h19 t ∧ Q v21 h19)) ∧ ((-1 : Int32) = (-1 : Int32) → Q (-1 : Int32) h2)))) : zg G mX3_roomLine (d + 1) 0 [.ref 2, zU, zU] [] h (zPI Q) := by
  refine z_aload_n 0 rfl rfl ?_
  refine z_iconst (v := 2) 1 rfl (by decide) ?_
  obtain ⟨Q1, K3, B⟩ := B
  refine z_cVI1 (ν := mX3_newName) 2 rfl rfl fX3_newName gX3_83 ⟨_, rfl, rfl⟩ (by decide) (hS.1.o 2 3 rfl rfl rfl) (Nat.le_of_ble_eq_true rfl) K3 (fun v4 h2 q => ?_)
  obtain ⟨hSh2, B⟩ := B v4 h2 q
  refine z_istore_n 3 rfl (by decide) rfl ?_
  refine z_iload_n 4 rfl rfl ?_
  refine z_iconst (v := -1) 5 rfl (by decide) ?_
  refine z_icmp_ne 6 15 rfl (by decide) ⟨fun c5 => ?_, fun c5 => ?_⟩
  · have B := B.1 c5
    refine z_aload_n 9 rfl rfl ?_
    refine z_iconst (v := 0) 10 rfl (by decide) ?_
    refine z_bipush (v := 100) 11 rfl (by decide) ?_
    obtain ⟨Q6, K8, B⟩ := B
    refine z_cVI2 (ν := mX3_readNumber) 12 rfl rfl fX3_readNumber gX3_86 ⟨_, rfl, rfl⟩ (by decide) (hSh2.1.o 2 3 rfl rfl rfl) (Nat.le_of_ble_eq_true rfl) K8 (fun v9 h7 q => ?_)
    obtain ⟨hSh7, B⟩ := B v9 h7 q
    refine z_istore_n 13 rfl (by decide) rfl ?_
    refine z_iload_n 14 rfl rfl ?_
    refine z_iconst (v := -1) 15 rfl (by decide) ?_
    refine z_icmp_ne 16 30 rfl (by decide) ⟨fun c10 => ?_, fun c10 => ?_⟩
    · have B := B.1 c10
      refine z_aload_n 19 rfl rfl ?_
      refine z_getR 20 rfl lX3_28 rfl (hSh7.1.o 2 3 rfl rfl rfl) hSh7.2.2.2 ?_
      refine z_getR 21 rfl lX3_113 rfl (zS_to hSh7 hSh7.2.1.other 0 6 rfl rfl) (zS_tr hSh7 hSh7.2.1.other 0 5 18 rfl rfl rfl) ?_
      refine z_iload_n 22 rfl rfl ?_
      refine z_iload_n 23 rfl rfl ?_
      obtain ⟨o11, B⟩ := B
      refine z_iast 24 rfl (zS_to hSh7 hSh7.2.1.other 18 100 rfl rfl) (zin (zS_tl hSh7 hSh7.2.1.other 18 6 rfl rfl) o11) ?_
      refine z_aload_n 25 rfl rfl ?_
      obtain ⟨Q12, K14, B⟩ := B
      refine z_cVI0 (ν := mX3_readStop) 26 rfl rfl fX3_readStop gX3_93 ⟨_, rfl, rfl⟩ (by decide) (hSh7.1.o 2 3 rfl rfl rfl) (Nat.le_of_ble_eq_true rfl) K14 (fun v15 h13 q => ?_)
      obtain ⟨hSh13, B⟩ := B v15 h13 q
      exact z_iret 27 rfl rfl rfl ⟨rfl, rfl⟩ ⟨_, rfl, B⟩
    · have B := B.2 c10
      refine z_iconst (v := -1) 17 rfl (by decide) ?_
      exact z_iret 18 rfl rfl rfl ⟨rfl, rfl⟩ ⟨_, rfl, B⟩
  · have B := B.2 c5
    refine z_iconst (v := -1) 7 rfl (by decide) ?_
    refine z_goto 8 22 rfl (by decide) ?_
    refine z_istore_n 13 rfl (by decide) rfl ?_
    refine z_iload_n 14 rfl rfl ?_
    refine z_iconst (v := -1) 15 rfl (by decide) ?_
    refine z_icmp_ne 16 30 rfl (by decide) ⟨fun c16 => ?_, fun c16 => ?_⟩
    · have B := B.1 c16
      refine z_aload_n 19 rfl rfl ?_
      refine z_getR 20 rfl lX3_28 rfl (hSh2.1.o 2 3 rfl rfl rfl) hSh2.2.2.2 ?_
      refine z_getR 21 rfl lX3_113 rfl (zS_to hSh2 hSh2.2.1.other 0 6 rfl rfl) (zS_tr hSh2 hSh2.2.1.other 0 5 18 rfl rfl rfl) ?_
      refine z_iload_n 22 rfl rfl ?_
      refine z_iload_n 23 rfl rfl ?_
      obtain ⟨o17, B⟩ := B
      refine z_iast 24 rfl (zS_to hSh2 hSh2.2.1.other 18 100 rfl rfl) (zin (zS_tl hSh2 hSh2.2.1.other 18 6 rfl rfl) o17) ?_
      refine z_aload_n 25 rfl rfl ?_
      obtain ⟨Q18, K20, B⟩ := B
      refine z_cVI0 (ν := mX3_readStop) 26 rfl rfl fX3_readStop gX3_93 ⟨_, rfl, rfl⟩ (by decide) (hSh2.1.o 2 3 rfl rfl rfl) (Nat.le_of_ble_eq_true rfl) K20 (fun v21 h19 q => ?_)
      obtain ⟨hSh19, B⟩ := B v21 h19 q
      exact z_iret 27 rfl rfl rfl ⟨rfl, rfl⟩ ⟨_, rfl, B⟩
    · have B := B.2 c16
      refine z_iconst (v := -1) 17 rfl (by decide) ?_
      exact z_iret 18 rfl rfl rfl ⟨rfl, rfl⟩ ⟨_, rfl, B⟩
theorem cn_X3_roomLine {G : zG} {d : Nat} {h : zMem} {Q : Int32 → zMem → Prop}  (B : zg G mX3_roomLine (d + 1) 0 [.ref 2, zU, zU] [] h (zPI Q)) : zConI G mX3_roomLine (d + 1) [.ref 2] h Q := zcon0 (by decide +kernel) eX3_roomLine (Nat.le_of_ble_eq_true rfl) rfl B
set_option maxRecDepth 100000 in
set_option maxHeartbeats 4000000 in
theorem sg_X3_monkLine_0 {G : zG} {d : Nat} {h : zMem} {Q : Int32 → zMem → Prop} {t : Nat}  (hS : zSh1 h t)  (B : ∃ Q1 : Int32 → zMem → Prop, zConI G mX3_newName d [.ref 2, .int (3 : Int32)] h Q1 ∧ (∀ v4 h2, Q1 v4 h2 → zSh1 h2 t ∧ (¬ v4 = (-1 : Int32) → ∃ Q6 : Int32 → zMem → Prop, zConI G mX3_toldName d [.ref 2, .int (2 : Int32)] h2 Q6 ∧ (∀ v9 h7, Q6 v9 h7 → zSh1 h7 t ∧ (¬ v9 = (-1 : Int32) → ∃ Q11 : zMem → Prop, zConV G mX4_advance d [.ref 3] h7 Q11 ∧ (∀ h12, Q11 h12 → zSh1 h12 t ∧ ∃ Q14 : Int32 → zMem → Prop, zConI G mX3_readNumber d [.ref 2, .int (1 : Int32), .int (99 : Int32)] h12 Q14 ∧ (∀ v17 h15, Q14 v17 h15 → zSh1 h15 t ∧ (¬ v17 = (-1 : Int32) → vp_in v4 5 ∧ ∃ Q20 : Int32 → zMem → Prop, zConI G mX3_readStop d [.ref 2] (zsI (zsI h15 ((111 - t) + 19) v4.toNatClampNeg v9) ((111 - t) + 20) v4.toNatClampNeg v17) Q20 ∧ (∀ v23 h21, Q20 v23 h21 → zSh1 h21 t ∧ Q v23 h21)) ∧ (v17 = (-1 : Int32) → Q (-1 : Int32) h15)))) ∧ (v9 = (-1 : Int32) → Q (-1 : Int32) h7))) ∧ (v4 = (-1 : Int32) → (¬ (-1 : Int32) = (-1 : Int32) → ∃ Q25 : zMem → Prop, zConV G mX4_advance d [.ref 3] h2 Q25 ∧ (∀ h26, Q25 h26 → zSh1 h26 t ∧ ∃ Q28 : Int32 → zMem → Prop, zConI G mX3_readNumber d [.ref 2, .int (1 : Int32), .int (99 : Int32)] h26 Q28 ∧ (∀ v31 h29, Q28 v31 h29 → zSh1 h29 t ∧ (¬ v31 = (-1 : Int32) → vp_in v4 5 ∧ ∃ Q34 : Int32 → zMem → Prop, zConI G mX3_readStop d [.ref 2] (zsI (zsI h29 ((111 - t) + 19) v4.toNatClampNeg (-1 : Int32)) ((111 - t) + 20) v4.toNatClampNeg v31) Q34 ∧ (∀ v37 h35, Q34 v37 h35 → zSh1 h35 t ∧ Q v37 h35)) ∧ (v31 = (-1 : Int32) → Q (-1 : Int32) h29)))) ∧ ((-1 : Int32) = (-1 : Int32) → Q (-1 : Int32) h2)))) : zg G mX3_monkLine (d + 1) 0 [.ref 2, zU, zU, zU] [] h (zPI Q) := by
  refine z_aload_n 0 rfl rfl ?_
  refine z_iconst (v := 3) 1 rfl (by decide) ?_
  obtain ⟨Q1, K3, B⟩ := B
  refine z_cVI1 (ν := mX3_newName) 2 rfl rfl fX3_newName gX3_83 ⟨_, rfl, rfl⟩ (by decide) (hS.1.o 2 3 rfl rfl rfl) (Nat.le_of_ble_eq_true rfl) K3 (fun v4 h2 q => ?_)
  obtain ⟨hSh2, B⟩ := B v4 h2 q
  refine z_istore_n 3 rfl (by decide) rfl ?_
  refine z_iload_n 4 rfl rfl ?_
  refine z_iconst (v := -1) 5 rfl (by decide) ?_
  refine z_icmp_ne 6 15 rfl (by decide) ⟨fun c5 => ?_, fun c5 => ?_⟩
  · have B := B.1 c5
    refine z_aload_n 9 rfl rfl ?_
    refine z_iconst (v := 2) 10 rfl (by decide) ?_
    obtain ⟨Q6, K8, B⟩ := B
    refine z_cVI1 (ν := mX3_toldName) 11 rfl rfl fX3_toldName gX3_106 ⟨_, rfl, rfl⟩ (by decide) (hSh2.1.o 2 3 rfl rfl rfl) (Nat.le_of_ble_eq_true rfl) K8 (fun v9 h7 q => ?_)
    obtain ⟨hSh7, B⟩ := B v9 h7 q
    refine z_istore_n 12 rfl (by decide) rfl ?_
    refine z_iload_n 13 rfl rfl ?_
    refine z_iconst (v := -1) 14 rfl (by decide) ?_
    refine z_icmp_ne 15 28 rfl (by decide) ⟨fun c10 => ?_, fun c10 => ?_⟩
    · have B := B.1 c10
      refine z_aload_n 18 rfl rfl ?_
      refine z_getR 19 rfl lX3_12 rfl (hSh7.1.o 2 3 rfl rfl rfl) (hSh7.1.r 2 0 3 rfl rfl rfl) ?_
      obtain ⟨Q11, K13, B⟩ := B
      refine z_cVV0 (ν := mX4_advance) 20 rfl rfl fX4_advance gX3_100 ⟨_, rfl, rfl⟩ (by decide) (hSh7.1.o 3 4 rfl rfl rfl) (Nat.le_of_ble_eq_true rfl) K13 (fun h12 q => ?_)
      obtain ⟨hSh12, B⟩ := B h12 q
      refine z_aload_n 21 rfl rfl ?_
      refine z_iconst (v := 1) 22 rfl (by decide) ?_
      refine z_bipush (v := 99) 23 rfl (by decide) ?_
      obtain ⟨Q14, K16, B⟩ := B
      refine z_cVI2 (ν := mX3_readNumber) 24 rfl rfl fX3_readNumber gX3_86 ⟨_, rfl, rfl⟩ (by decide) (hSh12.1.o 2 3 rfl rfl rfl) (Nat.le_of_ble_eq_true rfl) K16 (fun v17 h15 q => ?_)
      obtain ⟨hSh15, B⟩ := B v17 h15 q
      refine z_istore_n 25 rfl (by decide) rfl ?_
      refine z_iload_n 26 rfl rfl ?_
      refine z_iconst (v := -1) 27 rfl (by decide) ?_
      refine z_icmp_ne 28 50 rfl (by decide) ⟨fun c18 => ?_, fun c18 => ?_⟩
      · have B := B.1 c18
        refine z_aload_n 31 rfl rfl ?_
        refine z_getR 32 rfl lX3_28 rfl (hSh15.1.o 2 3 rfl rfl rfl) hSh15.2.2.2 ?_
        refine z_getR 33 rfl lX3_116 rfl (zS_to hSh15 hSh15.2.1.other 0 6 rfl rfl) (zS_tr hSh15 hSh15.2.1.other 0 6 19 rfl rfl rfl) ?_
        refine z_iload_n 34 rfl rfl ?_
        refine z_iload_n 35 rfl rfl ?_
        obtain ⟨o19, B⟩ := B
        refine z_iast 36 rfl (zS_to hSh15 hSh15.2.1.other 19 100 rfl rfl) (zin (zS_tl hSh15 hSh15.2.1.other 19 5 rfl rfl) o19) ?_
        refine z_aload_n 37 rfl rfl ?_
        refine z_getR 38 rfl lX3_28 rfl (hSh15.1.o 2 3 rfl rfl rfl) hSh15.2.2.2 ?_
        refine z_getR 39 rfl lX3_119 rfl (zS_to hSh15 hSh15.2.1.other 0 6 rfl rfl) (zS_tr hSh15 hSh15.2.1.other 0 7 20 rfl rfl rfl) ?_
        refine z_iload_n 40 rfl rfl ?_
        refine z_iload_n 41 rfl rfl ?_
        refine z_iast 42 rfl (zS_to hSh15 hSh15.2.1.other 20 100 rfl rfl) (zin (zS_tl hSh15 hSh15.2.1.other 20 5 rfl rfl) o19) ?_
        refine z_aload_n 43 rfl rfl ?_
        obtain ⟨Q20, K22, B⟩ := B
        refine z_cVI0 (ν := mX3_readStop) 44 rfl rfl fX3_readStop gX3_93 ⟨_, rfl, rfl⟩ (by decide) (hSh15.1.o 2 3 rfl rfl rfl) (Nat.le_of_ble_eq_true rfl) K22 (fun v23 h21 q => ?_)
        obtain ⟨hSh21, B⟩ := B v23 h21 q
        exact z_iret 45 rfl rfl rfl ⟨rfl, rfl⟩ ⟨_, rfl, B⟩
      · have B := B.2 c18
        refine z_iconst (v := -1) 29 rfl (by decide) ?_
        exact z_iret 30 rfl rfl rfl ⟨rfl, rfl⟩ ⟨_, rfl, B⟩
    · have B := B.2 c10
      refine z_iconst (v := -1) 16 rfl (by decide) ?_
      exact z_iret 17 rfl rfl rfl ⟨rfl, rfl⟩ ⟨_, rfl, B⟩
  · have B := B.2 c5
    refine z_iconst (v := -1) 7 rfl (by decide) ?_
    refine z_goto 8 20 rfl (by decide) ?_
    refine z_istore_n 12 rfl (by decide) rfl ?_
    refine z_iload_n 13 rfl rfl ?_
    refine z_iconst (v := -1) 14 rfl (by decide) ?_
    refine z_icmp_ne 15 28 rfl (by decide) ⟨fun c24 => ?_, fun c24 => ?_⟩
    · have B := B.1 c24
      refine z_aload_n 18 rfl rfl ?_
      refine z_getR 19 rfl lX3_12 rfl (hSh2.1.o 2 3 rfl rfl rfl) (hSh2.1.r 2 0 3 rfl rfl rfl) ?_
      obtain ⟨Q25, K27, B⟩ := B
      refine z_cVV0 (ν := mX4_advance) 20 rfl rfl fX4_advance gX3_100 ⟨_, rfl, rfl⟩ (by decide) (hSh2.1.o 3 4 rfl rfl rfl) (Nat.le_of_ble_eq_true rfl) K27 (fun h26 q => ?_)
      obtain ⟨hSh26, B⟩ := B h26 q
      refine z_aload_n 21 rfl rfl ?_
      refine z_iconst (v := 1) 22 rfl (by decide) ?_
      refine z_bipush (v := 99) 23 rfl (by decide) ?_
      obtain ⟨Q28, K30, B⟩ := B
      refine z_cVI2 (ν := mX3_readNumber) 24 rfl rfl fX3_readNumber gX3_86 ⟨_, rfl, rfl⟩ (by decide) (hSh26.1.o 2 3 rfl rfl rfl) (Nat.le_of_ble_eq_true rfl) K30 (fun v31 h29 q => ?_)
      obtain ⟨hSh29, B⟩ := B v31 h29 q
      refine z_istore_n 25 rfl (by decide) rfl ?_
      refine z_iload_n 26 rfl rfl ?_
      refine z_iconst (v := -1) 27 rfl (by decide) ?_
      refine z_icmp_ne 28 50 rfl (by decide) ⟨fun c32 => ?_, fun c32 => ?_⟩
      · have B := B.1 c32
        refine z_aload_n 31 rfl rfl ?_
        refine z_getR 32 rfl lX3_28 rfl (hSh29.1.o 2 3 rfl rfl rfl) hSh29.2.2.2 ?_
        refine z_getR 33 rfl lX3_116 rfl (zS_to hSh29 hSh29.2.1.other 0 6 rfl rfl) (zS_tr hSh29 hSh29.2.1.other 0 6 19 rfl rfl rfl) ?_
        refine z_iload_n 34 rfl rfl ?_
        refine z_iload_n 35 rfl rfl ?_
        obtain ⟨o33, B⟩ := B
        refine z_iast 36 rfl (zS_to hSh29 hSh29.2.1.other 19 100 rfl rfl) (zin (zS_tl hSh29 hSh29.2.1.other 19 5 rfl rfl) o33) ?_
        refine z_aload_n 37 rfl rfl ?_
        refine z_getR 38 rfl lX3_28 rfl (hSh29.1.o 2 3 rfl rfl rfl) hSh29.2.2.2 ?_
        refine z_getR 39 rfl lX3_119 rfl (zS_to hSh29 hSh29.2.1.other 0 6 rfl rfl) (zS_tr hSh29 hSh29.2.1.other 0 7 20 rfl rfl rfl) ?_
        refine z_iload_n 40 rfl rfl ?_
        refine z_iload_n 41 rfl rfl ?_
        refine z_iast 42 rfl (zS_to hSh29 hSh29.2.1.other 20 100 rfl rfl) (zin (zS_tl hSh29 hSh29.2.1.other 20 5 rfl rfl) o33) ?_
        refine z_aload_n 43 rfl rfl ?_
        obtain ⟨Q34, K36, B⟩ := B
        refine z_cVI0 (ν := mX3_readStop) 44 rfl rfl fX3_readStop gX3_93 ⟨_, rfl, rfl⟩ (by decide) (hSh29.1.o 2 3 rfl rfl rfl) (Nat.le_of_ble_eq_true rfl) K36 (fun v37 h35 q => ?_)
        obtain ⟨hSh35, B⟩ := B v37 h35 q
        exact z_iret 45 rfl rfl rfl ⟨rfl, rfl⟩ ⟨_, rfl, B⟩
      · have B := B.2 c32
        refine z_iconst (v := -1) 29 rfl (by decide) ?_
        exact z_iret 30 rfl rfl rfl ⟨rfl, rfl⟩ ⟨_, rfl, B⟩
    · have B := B.2 c24
      refine z_iconst (v := -1) 16 rfl (by decide) ?_
      exact z_iret 17 rfl rfl rfl ⟨rfl, rfl⟩ ⟨_, rfl, B⟩
theorem cn_X3_monkLine {G : zG} {d : Nat} {h : zMem} {Q : Int32 → zMem → Prop}  (B : zg G mX3_monkLine (d + 1) 0 [.ref 2, zU, zU, zU] [] h (zPI Q)) : zConI G mX3_monkLine (d + 1) [.ref 2] h Q := zcon0 (by decide +kernel) eX3_monkLine (Nat.le_of_ble_eq_true rfl) rfl B
set_option maxRecDepth 100000 in
set_option maxHeartbeats 4000000 in
theorem sg_X3_lingerLine_0 {G : zG} {d : Nat} {h : zMem} {Q : Int32 → zMem → Prop} {t : Nat}  (hS : zSh1 h t)  (B : ((zI h (111 - t) 11) = 0 → ∃ Q2 : zMem → Prop, zConV G mX4_advance d [.ref 3] h Q2 ∧ (∀ h3, Q2 h3 → zSh1 h3 t ∧ ∃ Q5 : Int32 → zMem → Prop, zConI G mX3_readNumber d [.ref 2, .int (0 : Int32), .int (100 : Int32)] (zsI h3 (111 - t) 11 (1 : Int32)) Q5 ∧ (∀ v8 h6, Q5 v8 h6 → zSh1 h6 t ∧ (¬ (zI (zsI h6 (111 - t) 10 v8) (111 - t) 10) = (-1 : Int32) → ∃ Q10 : Int32 → zMem → Prop, zConI G mX3_readStop d [.ref 2] (zsI h6 (111 - t) 10 v8) Q10 ∧ (∀ v13 h11, Q10 v13 h11 → zSh1 h11 t ∧ Q v13 h11)) ∧ ((zI (zsI h6 (111 - t) 10 v8) (111 - t) 10) = (-1 : Int32) → Q (-1 : Int32) (zsI h6 (111 - t) 10 v8))))) ∧ (¬ (zI h (111 - t) 11) = 0 → ∃ Q14 : Int32 → zMem → Prop, zConI G mX3_wrong d [.ref 2, .int (3 : Int32)] h Q14 ∧ (∀ v17 h15, Q14 v17 h15 → zSh1 h15 t ∧ Q v17 h15))) : zg G mX3_lingerLine (d + 1) 0 [.ref 2] [] h (zPI Q) := by
  refine z_aload_n 0 rfl rfl ?_
  refine z_getR 1 rfl lX3_28 rfl (hS.1.o 2 3 rfl rfl rfl) hS.2.2.2 ?_
  refine z_getI 2 rfl lX3_122 rfl (zS_to hS hS.2.1.other 0 6 rfl rfl) ?_
  refine z_if_eq 3 16 rfl (by decide) ⟨fun c1 => ?_, fun c1 => ?_⟩
  · have B := B.1 c1
    refine z_aload_n 8 rfl rfl ?_
    refine z_getR 9 rfl lX3_12 rfl (hS.1.o 2 3 rfl rfl rfl) (hS.1.r 2 0 3 rfl rfl rfl) ?_
    obtain ⟨Q2, K4, B⟩ := B
    refine z_cVV0 (ν := mX4_advance) 10 rfl rfl fX4_advance gX3_100 ⟨_, rfl, rfl⟩ (by decide) (hS.1.o 3 4 rfl rfl rfl) (Nat.le_of_ble_eq_true rfl) K4 (fun h3 q => ?_)
    obtain ⟨hSh3, B⟩ := B h3 q
    refine z_aload_n 11 rfl rfl ?_
    refine z_getR 12 rfl lX3_28 rfl (hSh3.1.o 2 3 rfl rfl rfl) hSh3.2.2.2 ?_
    refine z_iconst (v := 1) 13 rfl (by decide) ?_
    refine z_putI 14 rfl lX3_122 ⟨_, _, _, rfl, rfl⟩ rfl rfl rfl (zS_to hSh3 hSh3.2.1.other 0 6 rfl rfl) ?_
    refine z_aload_n 15 rfl rfl ?_
    refine z_getR 16 rfl lX3_28 rfl (hSh3.1.o 2 3 rfl rfl rfl) hSh3.2.2.2 ?_
    refine z_aload_n 17 rfl rfl ?_
    refine z_iconst (v := 0) 18 rfl (by decide) ?_
    refine z_bipush (v := 100) 19 rfl (by decide) ?_
    obtain ⟨Q5, K7, B⟩ := B
    refine z_cVI2 (ν := mX3_readNumber) 20 rfl rfl fX3_readNumber gX3_86 ⟨_, rfl, rfl⟩ (by decide) (hSh3.1.o 2 3 rfl rfl rfl) (Nat.le_of_ble_eq_true rfl) K7 (fun v8 h6 q => ?_)
    obtain ⟨hSh6, B⟩ := B v8 h6 q
    refine z_putI 21 rfl lX3_126 ⟨_, _, _, rfl, rfl⟩ rfl rfl rfl (zS_to hSh6 hSh6.2.1.other 0 6 rfl rfl) ?_
    refine z_aload_n 22 rfl rfl ?_
    refine z_getR 23 rfl lX3_28 rfl (hSh6.1.o 2 3 rfl rfl rfl) hSh6.2.2.2 ?_
    refine z_getI 24 rfl lX3_126 rfl (zS_to hSh6 hSh6.2.1.other 0 6 rfl rfl) ?_
    refine z_iconst (v := -1) 25 rfl (by decide) ?_
    refine z_icmp_ne 26 60 rfl (by decide) ⟨fun c9 => ?_, fun c9 => ?_⟩
    · have B := B.1 c9
      refine z_aload_n 29 rfl rfl ?_
      obtain ⟨Q10, K12, B⟩ := B
      refine z_cVI0 (ν := mX3_readStop) 30 rfl rfl fX3_readStop gX3_93 ⟨_, rfl, rfl⟩ (by decide) (hSh6.1.o 2 3 rfl rfl rfl) (Nat.le_of_ble_eq_true rfl) K12 (fun v13 h11 q => ?_)
      obtain ⟨hSh11, B⟩ := B v13 h11 q
      exact z_iret 31 rfl rfl rfl ⟨rfl, rfl⟩ ⟨_, rfl, B⟩
    · have B := B.2 c9
      refine z_iconst (v := -1) 27 rfl (by decide) ?_
      refine z_goto 28 64 rfl (by decide) ?_
      exact z_iret 31 rfl rfl rfl ⟨rfl, rfl⟩ ⟨_, rfl, B⟩
  · have B := B.2 c1
    refine z_aload_n 4 rfl rfl ?_
    refine z_iconst (v := 3) 5 rfl (by decide) ?_
    obtain ⟨Q14, K16, B⟩ := B
    refine z_cVI1 (ν := mX3_wrong) 6 rfl rfl fX3_wrong gX3_79 ⟨_, rfl, rfl⟩ (by decide) (hS.1.o 2 3 rfl rfl rfl) (Nat.le_of_ble_eq_true rfl) K16 (fun v17 h15 q => ?_)
    obtain ⟨hSh15, B⟩ := B v17 h15 q
    exact z_iret 7 rfl rfl rfl ⟨rfl, rfl⟩ ⟨_, rfl, B⟩
theorem cn_X3_lingerLine {G : zG} {d : Nat} {h : zMem} {Q : Int32 → zMem → Prop}  (B : zg G mX3_lingerLine (d + 1) 0 [.ref 2] [] h (zPI Q)) : zConI G mX3_lingerLine (d + 1) [.ref 2] h Q := zcon0 (by decide +kernel) eX3_lingerLine (Nat.le_of_ble_eq_true rfl) rfl B
set_option maxRecDepth 100000 in
set_option maxHeartbeats 4000000 in
theorem sg_X3_seedLine_0 {G : zG} {d : Nat} {h : zMem} {Q : Int32 → zMem → Prop} {t : Nat}  (hS : zSh1 h t)  (B : ((zI h (111 - t) 12) = 0 → ∃ Q2 : zMem → Prop, zConV G mX4_advance d [.ref 3] h Q2 ∧ (∀ h3, Q2 h3 → zSh1 h3 t ∧ ∃ Q5 : Int32 → zMem → Prop, zConI G mX3_readNumber d [.ref 2, .int (0 : Int32), .int (99999 : Int32)] (zsI h3 (111 - t) 12 (1 : Int32)) Q5 ∧ (∀ v8 h6, Q5 v8 h6 → zSh1 h6 t ∧ (¬ v8 = (-1 : Int32) → ∃ Q10 : Int32 → zMem → Prop, zConI G mX3_readStop d [.ref 2] h6 Q10 ∧ (∀ v13 h11, Q10 v13 h11 → zSh1 h11 t ∧ Q v13 h11)) ∧ (v8 = (-1 : Int32) → Q (-1 : Int32) h6)))) ∧ (¬ (zI h (111 - t) 12) = 0 → ∃ Q14 : Int32 → zMem → Prop, zConI G mX3_wrong d [.ref 2, .int (3 : Int32)] h Q14 ∧ (∀ v17 h15, Q14 v17 h15 → zSh1 h15 t ∧ Q v17 h15))) : zg G mX3_seedLine (d + 1) 0 [.ref 2] [] h (zPI Q) := by
  refine z_aload_n 0 rfl rfl ?_
  refine z_getR 1 rfl lX3_28 rfl (hS.1.o 2 3 rfl rfl rfl) hS.2.2.2 ?_
  refine z_getI 2 rfl lX3_129 rfl (zS_to hS hS.2.1.other 0 6 rfl rfl) ?_
  refine z_if_eq 3 16 rfl (by decide) ⟨fun c1 => ?_, fun c1 => ?_⟩
  · have B := B.1 c1
    refine z_aload_n 8 rfl rfl ?_
    refine z_getR 9 rfl lX3_12 rfl (hS.1.o 2 3 rfl rfl rfl) (hS.1.r 2 0 3 rfl rfl rfl) ?_
    obtain ⟨Q2, K4, B⟩ := B
    refine z_cVV0 (ν := mX4_advance) 10 rfl rfl fX4_advance gX3_100 ⟨_, rfl, rfl⟩ (by decide) (hS.1.o 3 4 rfl rfl rfl) (Nat.le_of_ble_eq_true rfl) K4 (fun h3 q => ?_)
    obtain ⟨hSh3, B⟩ := B h3 q
    refine z_aload_n 11 rfl rfl ?_
    refine z_getR 12 rfl lX3_28 rfl (hSh3.1.o 2 3 rfl rfl rfl) hSh3.2.2.2 ?_
    refine z_iconst (v := 1) 13 rfl (by decide) ?_
    refine z_putI 14 rfl lX3_129 ⟨_, _, _, rfl, rfl⟩ rfl rfl rfl (zS_to hSh3 hSh3.2.1.other 0 6 rfl rfl) ?_
    refine z_aload_n 15 rfl rfl ?_
    refine z_iconst (v := 0) 16 rfl (by decide) ?_
    refine z_ldc 17 rfl kX3_132 ?_
    obtain ⟨Q5, K7, B⟩ := B
    refine z_cVI2 (ν := mX3_readNumber) 18 rfl rfl fX3_readNumber gX3_86 ⟨_, rfl, rfl⟩ (by decide) (hSh3.1.o 2 3 rfl rfl rfl) (Nat.le_of_ble_eq_true rfl) K7 (fun v8 h6 q => ?_)
    obtain ⟨hSh6, B⟩ := B v8 h6 q
    refine z_iconst (v := -1) 19 rfl (by decide) ?_
    refine z_icmp_ne 20 46 rfl (by decide) ⟨fun c9 => ?_, fun c9 => ?_⟩
    · have B := B.1 c9
      refine z_aload_n 23 rfl rfl ?_
      obtain ⟨Q10, K12, B⟩ := B
      refine z_cVI0 (ν := mX3_readStop) 24 rfl rfl fX3_readStop gX3_93 ⟨_, rfl, rfl⟩ (by decide) (hSh6.1.o 2 3 rfl rfl rfl) (Nat.le_of_ble_eq_true rfl) K12 (fun v13 h11 q => ?_)
      obtain ⟨hSh11, B⟩ := B v13 h11 q
      exact z_iret 25 rfl rfl rfl ⟨rfl, rfl⟩ ⟨_, rfl, B⟩
    · have B := B.2 c9
      refine z_iconst (v := -1) 21 rfl (by decide) ?_
      refine z_goto 22 50 rfl (by decide) ?_
      exact z_iret 25 rfl rfl rfl ⟨rfl, rfl⟩ ⟨_, rfl, B⟩
  · have B := B.2 c1
    refine z_aload_n 4 rfl rfl ?_
    refine z_iconst (v := 3) 5 rfl (by decide) ?_
    obtain ⟨Q14, K16, B⟩ := B
    refine z_cVI1 (ν := mX3_wrong) 6 rfl rfl fX3_wrong gX3_79 ⟨_, rfl, rfl⟩ (by decide) (hS.1.o 2 3 rfl rfl rfl) (Nat.le_of_ble_eq_true rfl) K16 (fun v17 h15 q => ?_)
    obtain ⟨hSh15, B⟩ := B v17 h15 q
    exact z_iret 7 rfl rfl rfl ⟨rfl, rfl⟩ ⟨_, rfl, B⟩
theorem cn_X3_seedLine {G : zG} {d : Nat} {h : zMem} {Q : Int32 → zMem → Prop}  (B : zg G mX3_seedLine (d + 1) 0 [.ref 2] [] h (zPI Q)) : zConI G mX3_seedLine (d + 1) [.ref 2] h Q := zcon0 (by decide +kernel) eX3_seedLine (Nat.le_of_ble_eq_true rfl) rfl B
set_option maxRecDepth 100000 in
set_option maxHeartbeats 4000000 in
theorem sg_X3_lawLine_0 {G : zG} {d : Nat} {h : zMem} {Q : Int32 → zMem → Prop} {t : Nat}  (hS : zSh1 h t)  (B : ∃ Q1 : zMem → Prop, zConV G mX4_advance d [.ref 3] h Q1 ∧ (∀ h2, Q1 h2 → zSh1 h2 t ∧ ((zI h2 3 4) < (9 : Int32) → ∃ Q5 : Int32 → zMem → Prop, zConI G mX3_wrong d [.ref 2, .int (1 : Int32)] h2 Q5 ∧ (∀ v8 h6, Q5 v8 h6 → zSh1 h6 t ∧ Q v8 h6)) ∧ (¬ (zI h2 3 4) < (9 : Int32) → ((zI h2 3 4) ≤ (11 : Int32) → ∃ Q10 : Int32 → zMem → Prop, zConI G mX0_isTold d [.ref ((111 - t) + 21), .int ((zI h2 3 4) - (9 : Int32))] h2 Q10 ∧ (∀ v13 h11, Q10 v13 h11 → zSh1 h11 t ∧ (v13 = 0 → ∃ Q15 : zMem → Prop, zConV G mX4_advance d [.ref 3] h11 Q15 ∧ (∀ h16, Q15 h16 → zSh1 h16 t ∧ ∃ Q18 : zMem → Prop, zConV G mX0_begin d [.ref ((111 - t) + 21), .int ((zI h2 3 4) - (9 : Int32))] h16 Q18 ∧ (∀ h19, Q18 h19 → zSh1 h19 t ∧ ∃ Q21 : Int32 → zMem → Prop, zConI G mX3_readFormula d [.ref 2] h19 Q21 ∧ (∀ v24 h22, Q21 v24 h22 → zSh1 h22 t ∧ (¬ v24 = (-1 : Int32) → ∃ Q26 : zMem → Prop, zConV G mX0_end d [.ref ((111 - t) + 21), .int ((zI h2 3 4) - (9 : Int32))] h22 Q26 ∧ (∀ h27, Q26 h27 → zSh1 h27 t ∧ ∃ Q29 : Int32 → zMem → Prop, zConI G mX3_readStop d [.ref 2] h27 Q29 ∧ (∀ v32 h30, Q29 v32 h30 → zSh1 h30 t ∧ Q v32 h30))) ∧ (v24 = (-1 : Int32) → Q (-1 : Int32) h22))))) ∧ (¬ v13 = 0 → ∃ Q33 : Int32 → zMem → Prop, zConI G mX3_wrong d [.ref 2, .int (3 : Int32)] h11 Q33 ∧ (∀ v36 h34, Q33 v36 h34 → zSh1 h34 t ∧ Q v36 h34)))) ∧ (¬ (zI h2 3 4) ≤ (11 : Int32) → ∃ Q37 : Int32 → zMem → Prop, zConI G mX3_wrong d [.ref 2, .int (1 : Int32)] h2 Q37 ∧ (∀ v40 h38, Q37 v40 h38 → zSh1 h38 t ∧ Q v40 h38))))) : zg G mX3_lawLine (d + 1) 0 [.ref 2, zU] [] h (zPI Q) := by
  refine z_aload_n 0 rfl rfl ?_
  refine z_getR 1 rfl lX3_12 rfl (hS.1.o 2 3 rfl rfl rfl) (hS.1.r 2 0 3 rfl rfl rfl) ?_
  obtain ⟨Q1, K3, B⟩ := B
  refine z_cVV0 (ν := mX4_advance) 2 rfl rfl fX4_advance gX3_100 ⟨_, rfl, rfl⟩ (by decide) (hS.1.o 3 4 rfl rfl rfl) (Nat.le_of_ble_eq_true rfl) K3 (fun h2 q => ?_)
  obtain ⟨hSh2, B⟩ := B h2 q
  refine z_aload_n 3 rfl rfl ?_
  refine z_getR 4 rfl lX3_12 rfl (hSh2.1.o 2 3 rfl rfl rfl) (hSh2.1.r 2 0 3 rfl rfl rfl) ?_
  refine z_getI 5 rfl lX3_46 rfl (hSh2.1.o 3 4 rfl rfl rfl) ?_
  refine z_bipush (v := 9) 6 rfl (by decide) ?_
  refine z_icmp_lt 7 31 rfl (by decide) ⟨fun c4 => ?_, fun c4 => ?_⟩
  · have B := B.1 c4
    refine z_aload_n 13 rfl rfl ?_
    refine z_iconst (v := 1) 14 rfl (by decide) ?_
    obtain ⟨Q5, K7, B⟩ := B
    refine z_cVI1 (ν := mX3_wrong) 15 rfl rfl fX3_wrong gX3_79 ⟨_, rfl, rfl⟩ (by decide) (hSh2.1.o 2 3 rfl rfl rfl) (Nat.le_of_ble_eq_true rfl) K7 (fun v8 h6 q => ?_)
    obtain ⟨hSh6, B⟩ := B v8 h6 q
    exact z_iret 16 rfl rfl rfl ⟨rfl, rfl⟩ ⟨_, rfl, B⟩
  · have B := B.2 c4
    refine z_aload_n 8 rfl rfl ?_
    refine z_getR 9 rfl lX3_12 rfl (hSh2.1.o 2 3 rfl rfl rfl) (hSh2.1.r 2 0 3 rfl rfl rfl) ?_
    refine z_getI 10 rfl lX3_46 rfl (hSh2.1.o 3 4 rfl rfl rfl) ?_
    refine z_bipush (v := 11) 11 rfl (by decide) ?_
    refine z_icmp_le 12 37 rfl (by decide) ⟨fun c9 => ?_, fun c9 => ?_⟩
    · have B := B.1 c9
      refine z_aload_n 17 rfl rfl ?_
      refine z_getR 18 rfl lX3_12 rfl (hSh2.1.o 2 3 rfl rfl rfl) (hSh2.1.r 2 0 3 rfl rfl rfl) ?_
      refine z_getI 19 rfl lX3_46 rfl (hSh2.1.o 3 4 rfl rfl rfl) ?_
      refine z_bipush (v := 9) 20 rfl (by decide) ?_
      refine z_isub 21 rfl ?_
      refine z_istore_n 22 rfl (by decide) rfl ?_
      refine z_aload_n 23 rfl rfl ?_
      refine z_getR 24 rfl lX3_28 rfl (hSh2.1.o 2 3 rfl rfl rfl) hSh2.2.2.2 ?_
      refine z_getR 25 rfl lX3_133 rfl (zS_to hSh2 hSh2.2.1.other 0 6 rfl rfl) (zS_tr hSh2 hSh2.2.1.other 0 8 21 rfl rfl rfl) ?_
      refine z_iload_n 26 rfl rfl ?_
      obtain ⟨Q10, K12, B⟩ := B
      refine z_cVI1 (ν := mX0_isTold) 27 rfl rfl fX0_isTold gX3_137 ⟨_, rfl, rfl⟩ (by decide) (zS_to hSh2 hSh2.2.1.other 21 0 rfl rfl) (Nat.le_of_ble_eq_true rfl) K12 (fun v13 h11 q => ?_)
      obtain ⟨hSh11, B⟩ := B v13 h11 q
      refine z_if_eq 28 68 rfl (by decide) ⟨fun c14 => ?_, fun c14 => ?_⟩
      · have B := B.1 c14
        refine z_aload_n 33 rfl rfl ?_
        refine z_getR 34 rfl lX3_12 rfl (hSh11.1.o 2 3 rfl rfl rfl) (hSh11.1.r 2 0 3 rfl rfl rfl) ?_
        obtain ⟨Q15, K17, B⟩ := B
        refine z_cVV0 (ν := mX4_advance) 35 rfl rfl fX4_advance gX3_100 ⟨_, rfl, rfl⟩ (by decide) (hSh11.1.o 3 4 rfl rfl rfl) (Nat.le_of_ble_eq_true rfl) K17 (fun h16 q => ?_)
        obtain ⟨hSh16, B⟩ := B h16 q
        refine z_aload_n 36 rfl rfl ?_
        refine z_getR 37 rfl lX3_28 rfl (hSh16.1.o 2 3 rfl rfl rfl) hSh16.2.2.2 ?_
        refine z_getR 38 rfl lX3_133 rfl (zS_to hSh16 hSh16.2.1.other 0 6 rfl rfl) (zS_tr hSh16 hSh16.2.1.other 0 8 21 rfl rfl rfl) ?_
        refine z_iload_n 39 rfl rfl ?_
        obtain ⟨Q18, K20, B⟩ := B
        refine z_cVV1 (ν := mX0_begin) 40 rfl rfl fX0_begin gX3_143 ⟨_, rfl, rfl⟩ (by decide) (zS_to hSh16 hSh16.2.1.other 21 0 rfl rfl) (Nat.le_of_ble_eq_true rfl) K20 (fun h19 q => ?_)
        obtain ⟨hSh19, B⟩ := B h19 q
        refine z_aload_n 41 rfl rfl ?_
        obtain ⟨Q21, K23, B⟩ := B
        refine z_cVI0 (ν := mX3_readFormula) 42 rfl rfl fX3_readFormula gX3_147 ⟨_, rfl, rfl⟩ (by decide) (hSh19.1.o 2 3 rfl rfl rfl) (Nat.le_of_ble_eq_true rfl) K23 (fun v24 h22 q => ?_)
        obtain ⟨hSh22, B⟩ := B v24 h22 q
        refine z_iconst (v := -1) 43 rfl (by decide) ?_
        refine z_icmp_ne 44 96 rfl (by decide) ⟨fun c25 => ?_, fun c25 => ?_⟩
        · have B := B.1 c25
          refine z_aload_n 47 rfl rfl ?_
          refine z_getR 48 rfl lX3_28 rfl (hSh22.1.o 2 3 rfl rfl rfl) hSh22.2.2.2 ?_
          refine z_getR 49 rfl lX3_133 rfl (zS_to hSh22 hSh22.2.1.other 0 6 rfl rfl) (zS_tr hSh22 hSh22.2.1.other 0 8 21 rfl rfl rfl) ?_
          refine z_iload_n 50 rfl rfl ?_
          obtain ⟨Q26, K28, B⟩ := B
          refine z_cVV1 (ν := mX0_end) 51 rfl rfl fX0_end gX3_150 ⟨_, rfl, rfl⟩ (by decide) (zS_to hSh22 hSh22.2.1.other 21 0 rfl rfl) (Nat.le_of_ble_eq_true rfl) K28 (fun h27 q => ?_)
          obtain ⟨hSh27, B⟩ := B h27 q
          refine z_aload_n 52 rfl rfl ?_
          obtain ⟨Q29, K31, B⟩ := B
          refine z_cVI0 (ν := mX3_readStop) 53 rfl rfl fX3_readStop gX3_93 ⟨_, rfl, rfl⟩ (by decide) (hSh27.1.o 2 3 rfl rfl rfl) (Nat.le_of_ble_eq_true rfl) K31 (fun v32 h30 q => ?_)
          obtain ⟨hSh30, B⟩ := B v32 h30 q
          exact z_iret 54 rfl rfl rfl ⟨rfl, rfl⟩ ⟨_, rfl, B⟩
        · have B := B.2 c25
          refine z_iconst (v := -1) 45 rfl (by decide) ?_
          exact z_iret 46 rfl rfl rfl ⟨rfl, rfl⟩ ⟨_, rfl, B⟩
      · have B := B.2 c14
        refine z_aload_n 29 rfl rfl ?_
        refine z_iconst (v := 3) 30 rfl (by decide) ?_
        obtain ⟨Q33, K35, B⟩ := B
        refine z_cVI1 (ν := mX3_wrong) 31 rfl rfl fX3_wrong gX3_79 ⟨_, rfl, rfl⟩ (by decide) (hSh11.1.o 2 3 rfl rfl rfl) (Nat.le_of_ble_eq_true rfl) K35 (fun v36 h34 q => ?_)
        obtain ⟨hSh34, B⟩ := B v36 h34 q
        exact z_iret 32 rfl rfl rfl ⟨rfl, rfl⟩ ⟨_, rfl, B⟩
    · have B := B.2 c9
      refine z_aload_n 13 rfl rfl ?_
      refine z_iconst (v := 1) 14 rfl (by decide) ?_
      obtain ⟨Q37, K39, B⟩ := B
      refine z_cVI1 (ν := mX3_wrong) 15 rfl rfl fX3_wrong gX3_79 ⟨_, rfl, rfl⟩ (by decide) (hSh2.1.o 2 3 rfl rfl rfl) (Nat.le_of_ble_eq_true rfl) K39 (fun v40 h38 q => ?_)
      obtain ⟨hSh38, B⟩ := B v40 h38 q
      exact z_iret 16 rfl rfl rfl ⟨rfl, rfl⟩ ⟨_, rfl, B⟩
theorem cn_X3_lawLine {G : zG} {d : Nat} {h : zMem} {Q : Int32 → zMem → Prop}  (B : zg G mX3_lawLine (d + 1) 0 [.ref 2, zU] [] h (zPI Q)) : zConI G mX3_lawLine (d + 1) [.ref 2] h Q := zcon0 (by decide +kernel) eX3_lawLine (Nat.le_of_ble_eq_true rfl) rfl B
set_option maxRecDepth 100000 in
set_option maxHeartbeats 4000000 in
theorem sg_X3_toldName_0 {G : zG} {d : Nat} {h : zMem} {Q : Int32 → zMem → Prop} {t : Nat} {x1 : Int32} (hS : zSh1 h t)  (B : ((zI h 3 4) = (35 : Int32) → ∃ Q2 : Int32 → zMem → Prop, zConI G mX7_numberOf d [.ref (111 - t), .int x1, .int (zI h 3 6)] h Q2 ∧ (∀ v5 h3, Q2 v5 h3 → zSh1 h3 t ∧ (¬ v5 = (-1 : Int32) → Q v5 h3) ∧ (v5 = (-1 : Int32) → ∃ Q7 : Int32 → zMem → Prop, zConI G mX3_wrong d [.ref 2, .int (4 : Int32)] h3 Q7 ∧ (∀ v10 h8, Q7 v10 h8 → zSh1 h8 t ∧ Q v10 h8)))) ∧ (¬ (zI h 3 4) = (35 : Int32) → ∃ Q11 : Int32 → zMem → Prop, zConI G mX3_wrong d [.ref 2, .int (1 : Int32)] h Q11 ∧ (∀ v14 h12, Q11 v14 h12 → zSh1 h12 t ∧ Q v14 h12))) : zg G mX3_toldName (d + 1) 0 [.ref 2, .int x1, zU] [] h (zPI Q) := by
  refine z_aload_n 0 rfl rfl ?_
  refine z_getR 1 rfl lX3_12 rfl (hS.1.o 2 3 rfl rfl rfl) (hS.1.r 2 0 3 rfl rfl rfl) ?_
  refine z_getI 2 rfl lX3_46 rfl (hS.1.o 3 4 rfl rfl rfl) ?_
  refine z_bipush (v := 35) 3 rfl (by decide) ?_
  refine z_icmp_eq 4 18 rfl (by decide) ⟨fun c1 => ?_, fun c1 => ?_⟩
  · have B := B.1 c1
    refine z_aload_n 9 rfl rfl ?_
    refine z_getR 10 rfl lX3_28 rfl (hS.1.o 2 3 rfl rfl rfl) hS.2.2.2 ?_
    refine z_iload_n 11 rfl rfl ?_
    refine z_aload_n 12 rfl rfl ?_
    refine z_getR 13 rfl lX3_12 rfl (hS.1.o 2 3 rfl rfl rfl) (hS.1.r 2 0 3 rfl rfl rfl) ?_
    refine z_getI 14 rfl lX3_159 rfl (hS.1.o 3 4 rfl rfl rfl) ?_
    obtain ⟨Q2, K4, B⟩ := B
    refine z_cVI2 (ν := mX7_numberOf) 15 rfl rfl fX7_numberOf gX3_162 ⟨_, rfl, rfl⟩ (by decide) (zS_to hS hS.2.1.other 0 6 rfl rfl) (Nat.le_of_ble_eq_true rfl) K4 (fun v5 h3 q => ?_)
    obtain ⟨hSh3, B⟩ := B v5 h3 q
    refine z_istore_n 16 rfl (by decide) rfl ?_
    refine z_iload_n 17 rfl rfl ?_
    refine z_iconst (v := -1) 18 rfl (by decide) ?_
    refine z_icmp_ne 19 47 rfl (by decide) ⟨fun c6 => ?_, fun c6 => ?_⟩
    · have B := B.1 c6
      refine z_iload_n 24 rfl rfl ?_
      exact z_iret 25 rfl rfl rfl ⟨rfl, rfl⟩ ⟨_, rfl, B⟩
    · have B := B.2 c6
      refine z_aload_n 20 rfl rfl ?_
      refine z_iconst (v := 4) 21 rfl (by decide) ?_
      obtain ⟨Q7, K9, B⟩ := B
      refine z_cVI1 (ν := mX3_wrong) 22 rfl rfl fX3_wrong gX3_79 ⟨_, rfl, rfl⟩ (by decide) (hSh3.1.o 2 3 rfl rfl rfl) (Nat.le_of_ble_eq_true rfl) K9 (fun v10 h8 q => ?_)
      obtain ⟨hSh8, B⟩ := B v10 h8 q
      refine z_goto 23 48 rfl (by decide) ?_
      exact z_iret 25 rfl rfl rfl ⟨rfl, rfl⟩ ⟨_, rfl, B⟩
  · have B := B.2 c1
    refine z_aload_n 5 rfl rfl ?_
    refine z_iconst (v := 1) 6 rfl (by decide) ?_
    obtain ⟨Q11, K13, B⟩ := B
    refine z_cVI1 (ν := mX3_wrong) 7 rfl rfl fX3_wrong gX3_79 ⟨_, rfl, rfl⟩ (by decide) (hS.1.o 2 3 rfl rfl rfl) (Nat.le_of_ble_eq_true rfl) K13 (fun v14 h12 q => ?_)
    obtain ⟨hSh12, B⟩ := B v14 h12 q
    exact z_iret 8 rfl rfl rfl ⟨rfl, rfl⟩ ⟨_, rfl, B⟩
theorem cn_X3_toldName {G : zG} {d : Nat} {h : zMem} {Q : Int32 → zMem → Prop} {x1 : Int32} (B : zg G mX3_toldName (d + 1) 0 [.ref 2, .int x1, zU] [] h (zPI Q)) : zConI G mX3_toldName (d + 1) [.ref 2, .int x1] h Q := zcon0 (by decide +kernel) eX3_toldName (Nat.le_of_ble_eq_true rfl) rfl B
set_option maxRecDepth 100000 in
set_option maxHeartbeats 4000000 in
theorem sg_X3_readNumber_0 {G : zG} {d : Nat} {h : zMem} {Q : Int32 → zMem → Prop} {t : Nat} {x1 : Int32} {x2 : Int32} (hS : zSh1 h t)  (B : ((zI h 3 4) = (36 : Int32) → ((zI h 3 7) < x1 → ∃ Q3 : Int32 → zMem → Prop, zConI G mX3_wrong d [.ref 2, .int (2 : Int32)] h Q3 ∧ (∀ v6 h4, Q3 v6 h4 → zSh1 h4 t ∧ Q v6 h4)) ∧ (¬ (zI h 3 7) < x1 → ((zI h 3 7) ≤ x2 → ∃ Q8 : zMem → Prop, zConV G mX4_advance d [.ref 3] h Q8 ∧ (∀ h9, Q8 h9 → zSh1 h9 t ∧ Q (zI h 3 7) h9)) ∧ (¬ (zI h 3 7) ≤ x2 → ∃ Q11 : Int32 → zMem → Prop, zConI G mX3_wrong d [.ref 2, .int (2 : Int32)] h Q11 ∧ (∀ v14 h12, Q11 v14 h12 → zSh1 h12 t ∧ Q v14 h12)))) ∧ (¬ (zI h 3 4) = (36 : Int32) → ∃ Q15 : Int32 → zMem → Prop, zConI G mX3_wrong d [.ref 2, .int (1 : Int32)] h Q15 ∧ (∀ v18 h16, Q15 v18 h16 → zSh1 h16 t ∧ Q v18 h16))) : zg G mX3_readNumber (d + 1) 0 [.ref 2, .int x1, .int x2, zU] [] h (zPI Q) := by
  refine z_aload_n 0 rfl rfl ?_
  refine z_getR 1 rfl lX3_12 rfl (hS.1.o 2 3 rfl rfl rfl) (hS.1.r 2 0 3 rfl rfl rfl) ?_
  refine z_getI 2 rfl lX3_46 rfl (hS.1.o 3 4 rfl rfl rfl) ?_
  refine z_bipush (v := 36) 3 rfl (by decide) ?_
  refine z_icmp_eq 4 18 rfl (by decide) ⟨fun c1 => ?_, fun c1 => ?_⟩
  · have B := B.1 c1
    refine z_aload_n 9 rfl rfl ?_
    refine z_getR 10 rfl lX3_12 rfl (hS.1.o 2 3 rfl rfl rfl) (hS.1.r 2 0 3 rfl rfl rfl) ?_
    refine z_getI 11 rfl lX3_168 rfl (hS.1.o 3 4 rfl rfl rfl) ?_
    refine z_istore_n 12 rfl (by decide) rfl ?_
    refine z_iload_n 13 rfl rfl ?_
    refine z_iload_n 14 rfl rfl ?_
    refine z_icmp_lt 15 36 rfl (by decide) ⟨fun c2 => ?_, fun c2 => ?_⟩
    · have B := B.1 c2
      refine z_aload_n 19 rfl rfl ?_
      refine z_iconst (v := 2) 20 rfl (by decide) ?_
      obtain ⟨Q3, K5, B⟩ := B
      refine z_cVI1 (ν := mX3_wrong) 21 rfl rfl fX3_wrong gX3_79 ⟨_, rfl, rfl⟩ (by decide) (hS.1.o 2 3 rfl rfl rfl) (Nat.le_of_ble_eq_true rfl) K5 (fun v6 h4 q => ?_)
      obtain ⟨hSh4, B⟩ := B v6 h4 q
      exact z_iret 22 rfl rfl rfl ⟨rfl, rfl⟩ ⟨_, rfl, B⟩
    · have B := B.2 c2
      refine z_iload_n 16 rfl rfl ?_
      refine z_iload_n 17 rfl rfl ?_
      refine z_icmp_le 18 42 rfl (by decide) ⟨fun c7 => ?_, fun c7 => ?_⟩
      · have B := B.1 c7
        refine z_aload_n 23 rfl rfl ?_
        refine z_getR 24 rfl lX3_12 rfl (hS.1.o 2 3 rfl rfl rfl) (hS.1.r 2 0 3 rfl rfl rfl) ?_
        obtain ⟨Q8, K10, B⟩ := B
        refine z_cVV0 (ν := mX4_advance) 25 rfl rfl fX4_advance gX3_100 ⟨_, rfl, rfl⟩ (by decide) (hS.1.o 3 4 rfl rfl rfl) (Nat.le_of_ble_eq_true rfl) K10 (fun h9 q => ?_)
        obtain ⟨hSh9, B⟩ := B h9 q
        refine z_iload_n 26 rfl rfl ?_
        exact z_iret 27 rfl rfl rfl ⟨rfl, rfl⟩ ⟨_, rfl, B⟩
      · have B := B.2 c7
        refine z_aload_n 19 rfl rfl ?_
        refine z_iconst (v := 2) 20 rfl (by decide) ?_
        obtain ⟨Q11, K13, B⟩ := B
        refine z_cVI1 (ν := mX3_wrong) 21 rfl rfl fX3_wrong gX3_79 ⟨_, rfl, rfl⟩ (by decide) (hS.1.o 2 3 rfl rfl rfl) (Nat.le_of_ble_eq_true rfl) K13 (fun v14 h12 q => ?_)
        obtain ⟨hSh12, B⟩ := B v14 h12 q
        exact z_iret 22 rfl rfl rfl ⟨rfl, rfl⟩ ⟨_, rfl, B⟩
  · have B := B.2 c1
    refine z_aload_n 5 rfl rfl ?_
    refine z_iconst (v := 1) 6 rfl (by decide) ?_
    obtain ⟨Q15, K17, B⟩ := B
    refine z_cVI1 (ν := mX3_wrong) 7 rfl rfl fX3_wrong gX3_79 ⟨_, rfl, rfl⟩ (by decide) (hS.1.o 2 3 rfl rfl rfl) (Nat.le_of_ble_eq_true rfl) K17 (fun v18 h16 q => ?_)
    obtain ⟨hSh16, B⟩ := B v18 h16 q
    exact z_iret 8 rfl rfl rfl ⟨rfl, rfl⟩ ⟨_, rfl, B⟩
theorem cn_X3_readNumber {G : zG} {d : Nat} {h : zMem} {Q : Int32 → zMem → Prop} {x1 : Int32} {x2 : Int32} (B : zg G mX3_readNumber (d + 1) 0 [.ref 2, .int x1, .int x2, zU] [] h (zPI Q)) : zConI G mX3_readNumber (d + 1) [.ref 2, .int x1, .int x2] h Q := zcon0 (by decide +kernel) eX3_readNumber (Nat.le_of_ble_eq_true rfl) rfl B
set_option maxRecDepth 100000 in
set_option maxHeartbeats 4000000 in
theorem sg_X3_readStop_0 {G : zG} {d : Nat} {h : zMem} {Q : Int32 → zMem → Prop} {t : Nat}  (hS : zSh1 h t)  (B : ((zI h 3 4) = (34 : Int32) → ∃ Q2 : zMem → Prop, zConV G mX4_advance d [.ref 3] h Q2 ∧ (∀ h3, Q2 h3 → zSh1 h3 t ∧ Q (0 : Int32) h3)) ∧ (¬ (zI h 3 4) = (34 : Int32) → ∃ Q5 : Int32 → zMem → Prop, zConI G mX3_wrong d [.ref 2, .int (1 : Int32)] h Q5 ∧ (∀ v8 h6, Q5 v8 h6 → zSh1 h6 t ∧ Q v8 h6))) : zg G mX3_readStop (d + 1) 0 [.ref 2] [] h (zPI Q) := by
  refine z_aload_n 0 rfl rfl ?_
  refine z_getR 1 rfl lX3_12 rfl (hS.1.o 2 3 rfl rfl rfl) (hS.1.r 2 0 3 rfl rfl rfl) ?_
  refine z_getI 2 rfl lX3_46 rfl (hS.1.o 3 4 rfl rfl rfl) ?_
  refine z_bipush (v := 34) 3 rfl (by decide) ?_
  refine z_icmp_eq 4 18 rfl (by decide) ⟨fun c1 => ?_, fun c1 => ?_⟩
  · have B := B.1 c1
    refine z_aload_n 9 rfl rfl ?_
    refine z_getR 10 rfl lX3_12 rfl (hS.1.o 2 3 rfl rfl rfl) (hS.1.r 2 0 3 rfl rfl rfl) ?_
    obtain ⟨Q2, K4, B⟩ := B
    refine z_cVV0 (ν := mX4_advance) 11 rfl rfl fX4_advance gX3_100 ⟨_, rfl, rfl⟩ (by decide) (hS.1.o 3 4 rfl rfl rfl) (Nat.le_of_ble_eq_true rfl) K4 (fun h3 q => ?_)
    obtain ⟨hSh3, B⟩ := B h3 q
    refine z_iconst (v := 0) 12 rfl (by decide) ?_
    exact z_iret 13 rfl rfl rfl ⟨rfl, rfl⟩ ⟨_, rfl, B⟩
  · have B := B.2 c1
    refine z_aload_n 5 rfl rfl ?_
    refine z_iconst (v := 1) 6 rfl (by decide) ?_
    obtain ⟨Q5, K7, B⟩ := B
    refine z_cVI1 (ν := mX3_wrong) 7 rfl rfl fX3_wrong gX3_79 ⟨_, rfl, rfl⟩ (by decide) (hS.1.o 2 3 rfl rfl rfl) (Nat.le_of_ble_eq_true rfl) K7 (fun v8 h6 q => ?_)
    obtain ⟨hSh6, B⟩ := B v8 h6 q
    exact z_iret 8 rfl rfl rfl ⟨rfl, rfl⟩ ⟨_, rfl, B⟩
theorem cn_X3_readStop {G : zG} {d : Nat} {h : zMem} {Q : Int32 → zMem → Prop}  (B : zg G mX3_readStop (d + 1) 0 [.ref 2] [] h (zPI Q)) : zConI G mX3_readStop (d + 1) [.ref 2] h Q := zcon0 (by decide +kernel) eX3_readStop (Nat.le_of_ble_eq_true rfl) rfl B
set_option maxRecDepth 100000 in
set_option maxHeartbeats 4000000 in
theorem sg_X3_readFormula_0 {G : zG} {d : Nat} {h : zMem} {Q : Int32 → zMem → Prop} {t : Nat}  (hS : zSh1 h t)  (B : zg G mX3_readFormula (d + 1) 17 [.ref 2, .int (0 : Int32), zU] [] (zsI (zsI (zsI h 2 3 (0 : Int32)) 2 4 (0 : Int32)) 2 5 (1 : Int32)) (zPI Q)) : zg G mX3_readFormula (d + 1) 0 [.ref 2, zU, zU] [] h (zPI Q) := by
  refine z_aload_n 0 rfl rfl ?_
  refine z_iconst (v := 0) 1 rfl (by decide) ?_
  refine z_putI 2 rfl lX3_171 ⟨_, _, _, rfl, rfl⟩ rfl rfl rfl (hS.1.o 2 3 rfl rfl rfl) ?_
  refine z_aload_n 3 rfl rfl ?_
  refine z_iconst (v := 0) 4 rfl (by decide) ?_
  refine z_putI 5 rfl lX3_174 ⟨_, _, _, rfl, rfl⟩ rfl rfl rfl (hS.1.o 2 3 rfl rfl rfl) ?_
  refine z_aload_n 6 rfl rfl ?_
  refine z_iconst (v := 1) 7 rfl (by decide) ?_
  refine z_putI 8 rfl lX3_177 ⟨_, _, _, rfl, rfl⟩ rfl rfl rfl (hS.1.o 2 3 rfl rfl rfl) ?_
  refine z_iconst (v := 0) 9 rfl (by decide) ?_
  refine z_istore_n 10 rfl (by decide) rfl ?_
  exact B
theorem cn_X3_readFormula {G : zG} {d : Nat} {h : zMem} {Q : Int32 → zMem → Prop}  (B : zg G mX3_readFormula (d + 1) 0 [.ref 2, zU, zU] [] h (zPI Q)) : zConI G mX3_readFormula (d + 1) [.ref 2] h Q := zcon0 (by decide +kernel) eX3_readFormula (Nat.le_of_ble_eq_true rfl) rfl B
set_option maxRecDepth 100000 in
set_option maxHeartbeats 4000000 in
theorem sg_X3_readFormula_17 {G : zG} {d : Nat} {h : zMem} {Q : Int32 → zMem → Prop} {t : Nat} {x1 : Int32} (hS : zSh1 h t)  (B : ((700 : Int32) ≤ x1 → ∃ Q2 : Int32 → zMem → Prop, zConI G mX3_wrong d [.ref 2, .int (1 : Int32)] h Q2 ∧ (∀ v5 h3, Q2 v5 h3 → zSh1 h3 t ∧ Q v5 h3)) ∧ (¬ (700 : Int32) ≤ x1 → (¬ (zI h 2 5) = 0 → ((zI h 2 5) = 0 → ∃ Q8 : Int32 → zMem → Prop, zConI G mX3_readSign d [.ref 2] h Q8 ∧ (∀ v11 h9, Q8 v11 h9 → zSh1 h9 t ∧ (¬ v11 = (-1 : Int32) → ∃ Q13 : zMem → Prop, zConV G mX4_advance d [.ref 3] h9 Q13 ∧ (∀ h14, Q13 h14 → zSh1 h14 t ∧ zg G mX3_readFormula (d + 1) 17 [.ref 2, .int (x1 + 1), zU] [] h14 (zPI Q))) ∧ (v11 = (-1 : Int32) → Q (-1 : Int32) h9))) ∧ (¬ (zI h 2 5) = 0 → ∃ Q16 : Int32 → zMem → Prop, zConI G mX3_readValue d [.ref 2] h Q16 ∧ (∀ v19 h17, Q16 v19 h17 → zSh1 h17 t ∧ (¬ v19 = (-1 : Int32) → ∃ Q21 : zMem → Prop, zConV G mX4_advance d [.ref 3] h17 Q21 ∧ (∀ h22, Q21 h22 → zSh1 h22 t ∧ zg G mX3_readFormula (d + 1) 17 [.ref 2, .int (x1 + 1), zU] [] h22 (zPI Q))) ∧ (v19 = (-1 : Int32) → Q (-1 : Int32) h17)))) ∧ ((zI h 2 5) = 0 → (¬ (zI h 2 4) = 0 → ((zI h 2 5) = 0 → ∃ Q26 : Int32 → zMem → Prop, zConI G mX3_readSign d [.ref 2] h Q26 ∧ (∀ v29 h27, Q26 v29 h27 → zSh1 h27 t ∧ (¬ v29 = (-1 : Int32) → ∃ Q31 : zMem → Prop, zConV G mX4_advance d [.ref 3] h27 Q31 ∧ (∀ h32, Q31 h32 → zSh1 h32 t ∧ zg G mX3_readFormula (d + 1) 17 [.ref 2, .int (x1 + 1), zU] [] h32 (zPI Q))) ∧ (v29 = (-1 : Int32) → Q (-1 : Int32) h27))) ∧ (¬ (zI h 2 5) = 0 → ∃ Q34 : Int32 → zMem → Prop, zConI G mX3_readValue d [.ref 2] h Q34 ∧ (∀ v37 h35, Q34 v37 h35 → zSh1 h35 t ∧ (¬ v37 = (-1 : Int32) → ∃ Q39 : zMem → Prop, zConV G mX4_advance d [.ref 3] h35 Q39 ∧ (∀ h40, Q39 h40 → zSh1 h40 t ∧ zg G mX3_readFormula (d + 1) 17 [.ref 2, .int (x1 + 1), zU] [] h40 (zPI Q))) ∧ (v37 = (-1 : Int32) → Q (-1 : Int32) h35)))) ∧ ((zI h 2 4) = 0 → (¬ (zI h 3 4) = (34 : Int32) → ((zI h 2 5) = 0 → ∃ Q44 : Int32 → zMem → Prop, zConI G mX3_readSign d [.ref 2] h Q44 ∧ (∀ v47 h45, Q44 v47 h45 → zSh1 h45 t ∧ (¬ v47 = (-1 : Int32) → ∃ Q49 : zMem → Prop, zConV G mX4_advance d [.ref 3] h45 Q49 ∧ (∀ h50, Q49 h50 → zSh1 h50 t ∧ zg G mX3_readFormula (d + 1) 17 [.ref 2, .int (x1 + 1), zU] [] h50 (zPI Q))) ∧ (v47 = (-1 : Int32) → Q (-1 : Int32) h45))) ∧ (¬ (zI h 2 5) = 0 → ∃ Q52 : Int32 → zMem → Prop, zConI G mX3_readValue d [.ref 2] h Q52 ∧ (∀ v55 h53, Q52 v55 h53 → zSh1 h53 t ∧ (¬ v55 = (-1 : Int32) → ∃ Q57 : zMem → Prop, zConV G mX4_advance d [.ref 3] h53 Q57 ∧ (∀ h58, Q57 h58 → zSh1 h58 t ∧ zg G mX3_readFormula (d + 1) 17 [.ref 2, .int (x1 + 1), zU] [] h58 (zPI Q))) ∧ (v55 = (-1 : Int32) → Q (-1 : Int32) h53)))) ∧ ((zI h 3 4) = (34 : Int32) → ∃ Q60 : zMem → Prop, zConV G mX3_settle d [.ref 2, .int (1 : Int32)] h Q60 ∧ (∀ h61, Q60 h61 → zSh1 h61 t ∧ Q (0 : Int32) h61)))))) : zg G mX3_readFormula (d + 1) 17 [.ref 2, .int x1, zU] [] h (zPI Q) := by
  refine z_iload_n 11 rfl rfl ?_
  refine z_sipush (v := 700) 12 rfl (by decide) ?_
  refine z_icmp_ge 13 96 rfl (by decide) ⟨fun c1 => ?_, fun c1 => ?_⟩
  · have B := B.1 c1
    refine z_aload_n 49 rfl rfl ?_
    refine z_iconst (v := 1) 50 rfl (by decide) ?_
    obtain ⟨Q2, K4, B⟩ := B
    refine z_cVI1 (ν := mX3_wrong) 51 rfl rfl fX3_wrong gX3_79 ⟨_, rfl, rfl⟩ (by decide) (hS.1.o 2 3 rfl rfl rfl) (Nat.le_of_ble_eq_true rfl) K4 (fun v5 h3 q => ?_)
    obtain ⟨hSh3, B⟩ := B v5 h3 q
    exact z_iret 52 rfl rfl rfl ⟨rfl, rfl⟩ ⟨_, rfl, B⟩
  · have B := B.2 c1
    refine z_aload_n 14 rfl rfl ?_
    refine z_getI 15 rfl lX3_177 rfl (hS.1.o 2 3 rfl rfl rfl) ?_
    refine z_if_ne 16 57 rfl (by decide) ⟨fun c6 => ?_, fun c6 => ?_⟩
    · have B := B.1 c6
      refine z_aload_n 30 rfl rfl ?_
      refine z_getI 31 rfl lX3_177 rfl (hS.1.o 2 3 rfl rfl rfl) ?_
      refine z_if_eq 32 71 rfl (by decide) ⟨fun c7 => ?_, fun c7 => ?_⟩
      · have B := B.1 c7
        refine z_aload_n 36 rfl rfl ?_
        obtain ⟨Q8, K10, B⟩ := B
        refine z_cVI0 (ν := mX3_readSign) 37 rfl rfl fX3_readSign gX3_186 ⟨_, rfl, rfl⟩ (by decide) (hS.1.o 2 3 rfl rfl rfl) (Nat.le_of_ble_eq_true rfl) K10 (fun v11 h9 q => ?_)
        obtain ⟨hSh9, B⟩ := B v11 h9 q
        refine z_istore_n 38 rfl (by decide) rfl ?_
        refine z_iload_n 39 rfl rfl ?_
        refine z_iconst (v := -1) 40 rfl (by decide) ?_
        refine z_icmp_ne 41 83 rfl (by decide) ⟨fun c12 => ?_, fun c12 => ?_⟩
        · have B := B.1 c12
          refine z_aload_n 44 rfl rfl ?_
          refine z_getR 45 rfl lX3_12 rfl (hSh9.1.o 2 3 rfl rfl rfl) (hSh9.1.r 2 0 3 rfl rfl rfl) ?_
          obtain ⟨Q13, K15, B⟩ := B
          refine z_cVV0 (ν := mX4_advance) 46 rfl rfl fX4_advance gX3_100 ⟨_, rfl, rfl⟩ (by decide) (hSh9.1.o 3 4 rfl rfl rfl) (Nat.le_of_ble_eq_true rfl) K15 (fun h14 q => ?_)
          obtain ⟨hSh14, B⟩ := B h14 q
          refine z_iinc (v := 1) 47 rfl rfl (by decide) (by decide) rfl ?_
          refine z_goto 48 17 rfl (by decide) ?_
          refine z_drop 2 ?_
          exact B
        · have B := B.2 c12
          refine z_iconst (v := -1) 42 rfl (by decide) ?_
          exact z_iret 43 rfl rfl rfl ⟨rfl, rfl⟩ ⟨_, rfl, B⟩
      · have B := B.2 c7
        refine z_aload_n 33 rfl rfl ?_
        obtain ⟨Q16, K18, B⟩ := B
        refine z_cVI0 (ν := mX3_readValue) 34 rfl rfl fX3_readValue gX3_183 ⟨_, rfl, rfl⟩ (by decide) (hS.1.o 2 3 rfl rfl rfl) (Nat.le_of_ble_eq_true rfl) K18 (fun v19 h17 q => ?_)
        obtain ⟨hSh17, B⟩ := B v19 h17 q
        refine z_goto 35 75 rfl (by decide) ?_
        refine z_istore_n 38 rfl (by decide) rfl ?_
        refine z_iload_n 39 rfl rfl ?_
        refine z_iconst (v := -1) 40 rfl (by decide) ?_
        refine z_icmp_ne 41 83 rfl (by decide) ⟨fun c20 => ?_, fun c20 => ?_⟩
        · have B := B.1 c20
          refine z_aload_n 44 rfl rfl ?_
          refine z_getR 45 rfl lX3_12 rfl (hSh17.1.o 2 3 rfl rfl rfl) (hSh17.1.r 2 0 3 rfl rfl rfl) ?_
          obtain ⟨Q21, K23, B⟩ := B
          refine z_cVV0 (ν := mX4_advance) 46 rfl rfl fX4_advance gX3_100 ⟨_, rfl, rfl⟩ (by decide) (hSh17.1.o 3 4 rfl rfl rfl) (Nat.le_of_ble_eq_true rfl) K23 (fun h22 q => ?_)
          obtain ⟨hSh22, B⟩ := B h22 q
          refine z_iinc (v := 1) 47 rfl rfl (by decide) (by decide) rfl ?_
          refine z_goto 48 17 rfl (by decide) ?_
          refine z_drop 2 ?_
          exact B
        · have B := B.2 c20
          refine z_iconst (v := -1) 42 rfl (by decide) ?_
          exact z_iret 43 rfl rfl rfl ⟨rfl, rfl⟩ ⟨_, rfl, B⟩
    · have B := B.2 c6
      refine z_aload_n 17 rfl rfl ?_
      refine z_getI 18 rfl lX3_174 rfl (hS.1.o 2 3 rfl rfl rfl) ?_
      refine z_if_ne 19 57 rfl (by decide) ⟨fun c24 => ?_, fun c24 => ?_⟩
      · have B := B.1 c24
        refine z_aload_n 30 rfl rfl ?_
        refine z_getI 31 rfl lX3_177 rfl (hS.1.o 2 3 rfl rfl rfl) ?_
        refine z_if_eq 32 71 rfl (by decide) ⟨fun c25 => ?_, fun c25 => ?_⟩
        · have B := B.1 c25
          refine z_aload_n 36 rfl rfl ?_
          obtain ⟨Q26, K28, B⟩ := B
          refine z_cVI0 (ν := mX3_readSign) 37 rfl rfl fX3_readSign gX3_186 ⟨_, rfl, rfl⟩ (by decide) (hS.1.o 2 3 rfl rfl rfl) (Nat.le_of_ble_eq_true rfl) K28 (fun v29 h27 q => ?_)
          obtain ⟨hSh27, B⟩ := B v29 h27 q
          refine z_istore_n 38 rfl (by decide) rfl ?_
          refine z_iload_n 39 rfl rfl ?_
          refine z_iconst (v := -1) 40 rfl (by decide) ?_
          refine z_icmp_ne 41 83 rfl (by decide) ⟨fun c30 => ?_, fun c30 => ?_⟩
          · have B := B.1 c30
            refine z_aload_n 44 rfl rfl ?_
            refine z_getR 45 rfl lX3_12 rfl (hSh27.1.o 2 3 rfl rfl rfl) (hSh27.1.r 2 0 3 rfl rfl rfl) ?_
            obtain ⟨Q31, K33, B⟩ := B
            refine z_cVV0 (ν := mX4_advance) 46 rfl rfl fX4_advance gX3_100 ⟨_, rfl, rfl⟩ (by decide) (hSh27.1.o 3 4 rfl rfl rfl) (Nat.le_of_ble_eq_true rfl) K33 (fun h32 q => ?_)
            obtain ⟨hSh32, B⟩ := B h32 q
            refine z_iinc (v := 1) 47 rfl rfl (by decide) (by decide) rfl ?_
            refine z_goto 48 17 rfl (by decide) ?_
            refine z_drop 2 ?_
            exact B
          · have B := B.2 c30
            refine z_iconst (v := -1) 42 rfl (by decide) ?_
            exact z_iret 43 rfl rfl rfl ⟨rfl, rfl⟩ ⟨_, rfl, B⟩
        · have B := B.2 c25
          refine z_aload_n 33 rfl rfl ?_
          obtain ⟨Q34, K36, B⟩ := B
          refine z_cVI0 (ν := mX3_readValue) 34 rfl rfl fX3_readValue gX3_183 ⟨_, rfl, rfl⟩ (by decide) (hS.1.o 2 3 rfl rfl rfl) (Nat.le_of_ble_eq_true rfl) K36 (fun v37 h35 q => ?_)
          obtain ⟨hSh35, B⟩ := B v37 h35 q
          refine z_goto 35 75 rfl (by decide) ?_
          refine z_istore_n 38 rfl (by decide) rfl ?_
          refine z_iload_n 39 rfl rfl ?_
          refine z_iconst (v := -1) 40 rfl (by decide) ?_
          refine z_icmp_ne 41 83 rfl (by decide) ⟨fun c38 => ?_, fun c38 => ?_⟩
          · have B := B.1 c38
            refine z_aload_n 44 rfl rfl ?_
            refine z_getR 45 rfl lX3_12 rfl (hSh35.1.o 2 3 rfl rfl rfl) (hSh35.1.r 2 0 3 rfl rfl rfl) ?_
            obtain ⟨Q39, K41, B⟩ := B
            refine z_cVV0 (ν := mX4_advance) 46 rfl rfl fX4_advance gX3_100 ⟨_, rfl, rfl⟩ (by decide) (hSh35.1.o 3 4 rfl rfl rfl) (Nat.le_of_ble_eq_true rfl) K41 (fun h40 q => ?_)
            obtain ⟨hSh40, B⟩ := B h40 q
            refine z_iinc (v := 1) 47 rfl rfl (by decide) (by decide) rfl ?_
            refine z_goto 48 17 rfl (by decide) ?_
            refine z_drop 2 ?_
            exact B
          · have B := B.2 c38
            refine z_iconst (v := -1) 42 rfl (by decide) ?_
            exact z_iret 43 rfl rfl rfl ⟨rfl, rfl⟩ ⟨_, rfl, B⟩
      · have B := B.2 c24
        refine z_aload_n 20 rfl rfl ?_
        refine z_getR 21 rfl lX3_12 rfl (hS.1.o 2 3 rfl rfl rfl) (hS.1.r 2 0 3 rfl rfl rfl) ?_
        refine z_getI 22 rfl lX3_46 rfl (hS.1.o 3 4 rfl rfl rfl) ?_
        refine z_bipush (v := 34) 23 rfl (by decide) ?_
        refine z_icmp_ne 24 57 rfl (by decide) ⟨fun c42 => ?_, fun c42 => ?_⟩
        · have B := B.1 c42
          refine z_aload_n 30 rfl rfl ?_
          refine z_getI 31 rfl lX3_177 rfl (hS.1.o 2 3 rfl rfl rfl) ?_
          refine z_if_eq 32 71 rfl (by decide) ⟨fun c43 => ?_, fun c43 => ?_⟩
          · have B := B.1 c43
            refine z_aload_n 36 rfl rfl ?_
            obtain ⟨Q44, K46, B⟩ := B
            refine z_cVI0 (ν := mX3_readSign) 37 rfl rfl fX3_readSign gX3_186 ⟨_, rfl, rfl⟩ (by decide) (hS.1.o 2 3 rfl rfl rfl) (Nat.le_of_ble_eq_true rfl) K46 (fun v47 h45 q => ?_)
            obtain ⟨hSh45, B⟩ := B v47 h45 q
            refine z_istore_n 38 rfl (by decide) rfl ?_
            refine z_iload_n 39 rfl rfl ?_
            refine z_iconst (v := -1) 40 rfl (by decide) ?_
            refine z_icmp_ne 41 83 rfl (by decide) ⟨fun c48 => ?_, fun c48 => ?_⟩
            · have B := B.1 c48
              refine z_aload_n 44 rfl rfl ?_
              refine z_getR 45 rfl lX3_12 rfl (hSh45.1.o 2 3 rfl rfl rfl) (hSh45.1.r 2 0 3 rfl rfl rfl) ?_
              obtain ⟨Q49, K51, B⟩ := B
              refine z_cVV0 (ν := mX4_advance) 46 rfl rfl fX4_advance gX3_100 ⟨_, rfl, rfl⟩ (by decide) (hSh45.1.o 3 4 rfl rfl rfl) (Nat.le_of_ble_eq_true rfl) K51 (fun h50 q => ?_)
              obtain ⟨hSh50, B⟩ := B h50 q
              refine z_iinc (v := 1) 47 rfl rfl (by decide) (by decide) rfl ?_
              refine z_goto 48 17 rfl (by decide) ?_
              refine z_drop 2 ?_
              exact B
            · have B := B.2 c48
              refine z_iconst (v := -1) 42 rfl (by decide) ?_
              exact z_iret 43 rfl rfl rfl ⟨rfl, rfl⟩ ⟨_, rfl, B⟩
          · have B := B.2 c43
            refine z_aload_n 33 rfl rfl ?_
            obtain ⟨Q52, K54, B⟩ := B
            refine z_cVI0 (ν := mX3_readValue) 34 rfl rfl fX3_readValue gX3_183 ⟨_, rfl, rfl⟩ (by decide) (hS.1.o 2 3 rfl rfl rfl) (Nat.le_of_ble_eq_true rfl) K54 (fun v55 h53 q => ?_)
            obtain ⟨hSh53, B⟩ := B v55 h53 q
            refine z_goto 35 75 rfl (by decide) ?_
            refine z_istore_n 38 rfl (by decide) rfl ?_
            refine z_iload_n 39 rfl rfl ?_
            refine z_iconst (v := -1) 40 rfl (by decide) ?_
            refine z_icmp_ne 41 83 rfl (by decide) ⟨fun c56 => ?_, fun c56 => ?_⟩
            · have B := B.1 c56
              refine z_aload_n 44 rfl rfl ?_
              refine z_getR 45 rfl lX3_12 rfl (hSh53.1.o 2 3 rfl rfl rfl) (hSh53.1.r 2 0 3 rfl rfl rfl) ?_
              obtain ⟨Q57, K59, B⟩ := B
              refine z_cVV0 (ν := mX4_advance) 46 rfl rfl fX4_advance gX3_100 ⟨_, rfl, rfl⟩ (by decide) (hSh53.1.o 3 4 rfl rfl rfl) (Nat.le_of_ble_eq_true rfl) K59 (fun h58 q => ?_)
              obtain ⟨hSh58, B⟩ := B h58 q
              refine z_iinc (v := 1) 47 rfl rfl (by decide) (by decide) rfl ?_
              refine z_goto 48 17 rfl (by decide) ?_
              refine z_drop 2 ?_
              exact B
            · have B := B.2 c56
              refine z_iconst (v := -1) 42 rfl (by decide) ?_
              exact z_iret 43 rfl rfl rfl ⟨rfl, rfl⟩ ⟨_, rfl, B⟩
        · have B := B.2 c42
          refine z_aload_n 25 rfl rfl ?_
          refine z_iconst (v := 1) 26 rfl (by decide) ?_
          obtain ⟨Q60, K62, B⟩ := B
          refine z_cVV1 (ν := mX3_settle) 27 rfl rfl fX3_settle gX3_180 ⟨_, rfl, rfl⟩ (by decide) (hS.1.o 2 3 rfl rfl rfl) (Nat.le_of_ble_eq_true rfl) K62 (fun h61 q => ?_)
          obtain ⟨hSh61, B⟩ := B h61 q
          refine z_iconst (v := 0) 28 rfl (by decide) ?_
          exact z_iret 29 rfl rfl rfl ⟨rfl, rfl⟩ ⟨_, rfl, B⟩
set_option maxRecDepth 100000 in
set_option maxHeartbeats 4000000 in
theorem sg_X3_readValue_0 {G : zG} {d : Nat} {h : zMem} {Q : Int32 → zMem → Prop} {t : Nat}  (hS : zSh1 h t)  (B : (¬ (zI h 3 4) = (36 : Int32) → zg G mX3_readValue (d + 1) 19 [.ref 2, .int (zI h 3 4), zU] [.int (0 : Int32)] h (zPI Q)) ∧ ((zI h 3 4) = (36 : Int32) → zg G mX3_readValue (d + 1) 19 [.ref 2, .int (zI h 3 4), zU] [.int (1 : Int32)] h (zPI Q))) : zg G mX3_readValue (d + 1) 0 [.ref 2, zU, zU] [] h (zPI Q) := by
  refine z_aload_n 0 rfl rfl ?_
  refine z_getR 1 rfl lX3_12 rfl (hS.1.o 2 3 rfl rfl rfl) (hS.1.r 2 0 3 rfl rfl rfl) ?_
  refine z_getI 2 rfl lX3_46 rfl (hS.1.o 3 4 rfl rfl rfl) ?_
  refine z_istore_n 3 rfl (by decide) rfl ?_
  refine z_iload_n 4 rfl rfl ?_
  refine z_bipush (v := 36) 5 rfl (by decide) ?_
  refine z_icmp_ne 6 18 rfl (by decide) ⟨fun c1 => ?_, fun c1 => ?_⟩
  · have B := B.1 c1
    refine z_iconst (v := 0) 9 rfl (by decide) ?_
    exact B
  · have B := B.2 c1
    refine z_iconst (v := 1) 7 rfl (by decide) ?_
    refine z_goto 8 19 rfl (by decide) ?_
    exact B
theorem cn_X3_readValue {G : zG} {d : Nat} {h : zMem} {Q : Int32 → zMem → Prop}  (B : zg G mX3_readValue (d + 1) 0 [.ref 2, zU, zU] [] h (zPI Q)) : zConI G mX3_readValue (d + 1) [.ref 2] h Q := zcon0 (by decide +kernel) eX3_readValue (Nat.le_of_ble_eq_true rfl) rfl B
set_option maxRecDepth 100000 in
set_option maxHeartbeats 4000000 in
theorem sg_X3_readValue_19 {G : zG} {d : Nat} {h : zMem} {Q : Int32 → zMem → Prop} {t : Nat} {x1 : Int32} {xs0 : Int32} (hS : zSh1 h t)  (B : (¬ x1 = (32 : Int32) → (¬ x1 = (14 : Int32) → (¬ xs0 = 0 → zg G mX3_readValue (d + 1) 124 [.ref 2, .int x1, .int xs0] [] h (zPI Q)) ∧ (xs0 = 0 → (x1 < (15 : Int32) → ∃ Q5 : Int32 → zMem → Prop, zConI G mX3_wrong d [.ref 2, .int (1 : Int32)] h Q5 ∧ (∀ v8 h6, Q5 v8 h6 → zSh1 h6 t ∧ Q v8 h6)) ∧ (¬ x1 < (15 : Int32) → (x1 ≤ (21 : Int32) → zg G mX3_readValue (d + 1) 124 [.ref 2, .int x1, .int xs0] [] h (zPI Q)) ∧ (¬ x1 ≤ (21 : Int32) → ∃ Q10 : Int32 → zMem → Prop, zConI G mX3_wrong d [.ref 2, .int (1 : Int32)] h Q10 ∧ (∀ v13 h11, Q10 v13 h11 → zSh1 h11 t ∧ Q v13 h11))))) ∧ (x1 = (14 : Int32) → ∃ Q14 : Int32 → zMem → Prop, zConI G mX3_topStrength d [.ref 2] h Q14 ∧ (∀ v17 h15, Q14 v17 h15 → zSh1 h15 t ∧ ∃ Q18 : Int32 → zMem → Prop, zConI G mX6_strength d [.int (14 : Int32)] h15 Q18 ∧ (∀ v21 h19, Q18 v21 h19 → zSh1 h19 t ∧ (v21 < v17 → (¬ xs0 = 0 → zg G mX3_readValue (d + 1) 124 [.ref 2, .int x1, .int xs0] [] h19 (zPI Q)) ∧ (xs0 = 0 → (x1 < (15 : Int32) → ∃ Q25 : Int32 → zMem → Prop, zConI G mX3_wrong d [.ref 2, .int (1 : Int32)] h19 Q25 ∧ (∀ v28 h26, Q25 v28 h26 → zSh1 h26 t ∧ Q v28 h26)) ∧ (¬ x1 < (15 : Int32) → (x1 ≤ (21 : Int32) → zg G mX3_readValue (d + 1) 124 [.ref 2, .int x1, .int xs0] [] h19 (zPI Q)) ∧ (¬ x1 ≤ (21 : Int32) → ∃ Q30 : Int32 → zMem → Prop, zConI G mX3_wrong d [.ref 2, .int (1 : Int32)] h19 Q30 ∧ (∀ v33 h31, Q30 v33 h31 → zSh1 h31 t ∧ Q v33 h31))))) ∧ (¬ v21 < v17 → ∃ Q34 : Int32 → zMem → Prop, zConI G mX0_addKnot d [.ref ((111 - t) + 21)] h19 Q34 ∧ (∀ v37 h35, Q34 v37 h35 → zSh1 h35 t ∧ (v37 = 0 → ∃ Q39 : Int32 → zMem → Prop, zConI G mX3_wrong d [.ref 2, .int (2 : Int32)] h35 Q39 ∧ (∀ v42 h40, Q39 v42 h40 → zSh1 h40 t ∧ Q v42 h40)) ∧ (¬ v37 = 0 → ∃ Q43 : Int32 → zMem → Prop, zConI G mX3_putOff d [.ref 2, .int x1] h35 Q43 ∧ (∀ v46 h44, Q43 v46 h44 → zSh1 h44 t ∧ Q v46 h44)))))))) ∧ (x1 = (32 : Int32) → ((zI h 2 4) < (8 : Int32) → ∃ Q48 : Int32 → zMem → Prop, zConI G mX3_putOff d [.ref 2, .int x1] (zsI h 2 4 ((zI h 2 4) + (1 : Int32))) Q48 ∧ (∀ v51 h49, Q48 v51 h49 → zSh1 h49 t ∧ Q v51 h49)) ∧ (¬ (zI h 2 4) < (8 : Int32) → ∃ Q52 : Int32 → zMem → Prop, zConI G mX3_wrong d [.ref 2, .int (2 : Int32)] h Q52 ∧ (∀ v55 h53, Q52 v55 h53 → zSh1 h53 t ∧ Q v55 h53)))) : zg G mX3_readValue (d + 1) 19 [.ref 2, .int x1, zU] [.int xs0] h (zPI Q) := by
  refine z_istore_n 10 rfl (by decide) rfl ?_
  refine z_iload_n 11 rfl rfl ?_
  refine z_bipush (v := 32) 12 rfl (by decide) ?_
  refine z_icmp_ne 13 57 rfl (by decide) ⟨fun c1 => ?_, fun c1 => ?_⟩
  · have B := B.1 c1
    refine z_iload_n 32 rfl rfl ?_
    refine z_bipush (v := 14) 33 rfl (by decide) ?_
    refine z_icmp_ne 34 102 rfl (by decide) ⟨fun c2 => ?_, fun c2 => ?_⟩
    · have B := B.1 c2
      refine z_iload_n 53 rfl rfl ?_
      refine z_if_ne 54 124 rfl (by decide) ⟨fun c3 => ?_, fun c3 => ?_⟩
      · have B := B.1 c3
        exact B
      · have B := B.2 c3
        refine z_iload_n 55 rfl rfl ?_
        refine z_bipush (v := 15) 56 rfl (by decide) ?_
        refine z_icmp_lt 57 118 rfl (by decide) ⟨fun c4 => ?_, fun c4 => ?_⟩
        · have B := B.1 c4
          refine z_aload_n 61 rfl rfl ?_
          refine z_iconst (v := 1) 62 rfl (by decide) ?_
          obtain ⟨Q5, K7, B⟩ := B
          refine z_cVI1 (ν := mX3_wrong) 63 rfl rfl fX3_wrong gX3_79 ⟨_, rfl, rfl⟩ (by decide) (hS.1.o 2 3 rfl rfl rfl) (Nat.le_of_ble_eq_true rfl) K7 (fun v8 h6 q => ?_)
          obtain ⟨hSh6, B⟩ := B v8 h6 q
          exact z_iret 64 rfl rfl rfl ⟨rfl, rfl⟩ ⟨_, rfl, B⟩
        · have B := B.2 c4
          refine z_iload_n 58 rfl rfl ?_
          refine z_bipush (v := 21) 59 rfl (by decide) ?_
          refine z_icmp_le 60 124 rfl (by decide) ⟨fun c9 => ?_, fun c9 => ?_⟩
          · have B := B.1 c9
            exact B
          · have B := B.2 c9
            refine z_aload_n 61 rfl rfl ?_
            refine z_iconst (v := 1) 62 rfl (by decide) ?_
            obtain ⟨Q10, K12, B⟩ := B
            refine z_cVI1 (ν := mX3_wrong) 63 rfl rfl fX3_wrong gX3_79 ⟨_, rfl, rfl⟩ (by decide) (hS.1.o 2 3 rfl rfl rfl) (Nat.le_of_ble_eq_true rfl) K12 (fun v13 h11 q => ?_)
            obtain ⟨hSh11, B⟩ := B v13 h11 q
            exact z_iret 64 rfl rfl rfl ⟨rfl, rfl⟩ ⟨_, rfl, B⟩
    · have B := B.2 c2
      refine z_aload_n 35 rfl rfl ?_
      obtain ⟨Q14, K16, B⟩ := B
      refine z_cVI0 (ν := mX3_topStrength) 36 rfl rfl fX3_topStrength gX3_192 ⟨_, rfl, rfl⟩ (by decide) (hS.1.o 2 3 rfl rfl rfl) (Nat.le_of_ble_eq_true rfl) K16 (fun v17 h15 q => ?_)
      obtain ⟨hSh15, B⟩ := B v17 h15 q
      refine z_bipush (v := 14) 37 rfl (by decide) ?_
      obtain ⟨Q18, K20, B⟩ := B
      refine z_cSI1 (ν := mX6_strength) 38 rfl rfl fX6_strength gX3_195 (Nat.le_of_ble_eq_true rfl) K20 (fun v21 h19 q => ?_)
      obtain ⟨hSh19, B⟩ := B v21 h19 q
      refine z_icmp_gt 39 102 rfl (by decide) ⟨fun c22 => ?_, fun c22 => ?_⟩
      · have B := B.1 c22
        refine z_iload_n 53 rfl rfl ?_
        refine z_if_ne 54 124 rfl (by decide) ⟨fun c23 => ?_, fun c23 => ?_⟩
        · have B := B.1 c23
          exact B
        · have B := B.2 c23
          refine z_iload_n 55 rfl rfl ?_
          refine z_bipush (v := 15) 56 rfl (by decide) ?_
          refine z_icmp_lt 57 118 rfl (by decide) ⟨fun c24 => ?_, fun c24 => ?_⟩
          · have B := B.1 c24
            refine z_aload_n 61 rfl rfl ?_
            refine z_iconst (v := 1) 62 rfl (by decide) ?_
            obtain ⟨Q25, K27, B⟩ := B
            refine z_cVI1 (ν := mX3_wrong) 63 rfl rfl fX3_wrong gX3_79 ⟨_, rfl, rfl⟩ (by decide) (hSh19.1.o 2 3 rfl rfl rfl) (Nat.le_of_ble_eq_true rfl) K27 (fun v28 h26 q => ?_)
            obtain ⟨hSh26, B⟩ := B v28 h26 q
            exact z_iret 64 rfl rfl rfl ⟨rfl, rfl⟩ ⟨_, rfl, B⟩
          · have B := B.2 c24
            refine z_iload_n 58 rfl rfl ?_
            refine z_bipush (v := 21) 59 rfl (by decide) ?_
            refine z_icmp_le 60 124 rfl (by decide) ⟨fun c29 => ?_, fun c29 => ?_⟩
            · have B := B.1 c29
              exact B
            · have B := B.2 c29
              refine z_aload_n 61 rfl rfl ?_
              refine z_iconst (v := 1) 62 rfl (by decide) ?_
              obtain ⟨Q30, K32, B⟩ := B
              refine z_cVI1 (ν := mX3_wrong) 63 rfl rfl fX3_wrong gX3_79 ⟨_, rfl, rfl⟩ (by decide) (hSh19.1.o 2 3 rfl rfl rfl) (Nat.le_of_ble_eq_true rfl) K32 (fun v33 h31 q => ?_)
              obtain ⟨hSh31, B⟩ := B v33 h31 q
              exact z_iret 64 rfl rfl rfl ⟨rfl, rfl⟩ ⟨_, rfl, B⟩
      · have B := B.2 c22
        refine z_aload_n 40 rfl rfl ?_
        refine z_getR 41 rfl lX3_28 rfl (hSh19.1.o 2 3 rfl rfl rfl) hSh19.2.2.2 ?_
        refine z_getR 42 rfl lX3_133 rfl (zS_to hSh19 hSh19.2.1.other 0 6 rfl rfl) (zS_tr hSh19 hSh19.2.1.other 0 8 21 rfl rfl rfl) ?_
        obtain ⟨Q34, K36, B⟩ := B
        refine z_cVI0 (ν := mX0_addKnot) 43 rfl rfl fX0_addKnot gX3_198 ⟨_, rfl, rfl⟩ (by decide) (zS_to hSh19 hSh19.2.1.other 21 0 rfl rfl) (Nat.le_of_ble_eq_true rfl) K36 (fun v37 h35 q => ?_)
        obtain ⟨hSh35, B⟩ := B v37 h35 q
        refine z_if_eq 44 96 rfl (by decide) ⟨fun c38 => ?_, fun c38 => ?_⟩
        · have B := B.1 c38
          refine z_aload_n 49 rfl rfl ?_
          refine z_iconst (v := 2) 50 rfl (by decide) ?_
          obtain ⟨Q39, K41, B⟩ := B
          refine z_cVI1 (ν := mX3_wrong) 51 rfl rfl fX3_wrong gX3_79 ⟨_, rfl, rfl⟩ (by decide) (hSh35.1.o 2 3 rfl rfl rfl) (Nat.le_of_ble_eq_true rfl) K41 (fun v42 h40 q => ?_)
          obtain ⟨hSh40, B⟩ := B v42 h40 q
          exact z_iret 52 rfl rfl rfl ⟨rfl, rfl⟩ ⟨_, rfl, B⟩
        · have B := B.2 c38
          refine z_aload_n 45 rfl rfl ?_
          refine z_iload_n 46 rfl rfl ?_
          obtain ⟨Q43, K45, B⟩ := B
          refine z_cVI1 (ν := mX3_putOff) 47 rfl rfl fX3_putOff gX3_189 ⟨_, rfl, rfl⟩ (by decide) (hSh35.1.o 2 3 rfl rfl rfl) (Nat.le_of_ble_eq_true rfl) K45 (fun v46 h44 q => ?_)
          obtain ⟨hSh44, B⟩ := B v46 h44 q
          refine z_goto 48 101 rfl (by decide) ?_
          exact z_iret 52 rfl rfl rfl ⟨rfl, rfl⟩ ⟨_, rfl, B⟩
  · have B := B.2 c1
    refine z_aload_n 14 rfl rfl ?_
    refine z_getI 15 rfl lX3_174 rfl (hS.1.o 2 3 rfl rfl rfl) ?_
    refine z_bipush (v := 8) 16 rfl (by decide) ?_
    refine z_icmp_lt 17 41 rfl (by decide) ⟨fun c47 => ?_, fun c47 => ?_⟩
    · have B := B.1 c47
      refine z_aload_n 22 rfl rfl ?_
      refine z_dup 23 rfl rfl ?_
      refine z_getI 24 rfl lX3_174 rfl (hS.1.o 2 3 rfl rfl rfl) ?_
      refine z_iconst (v := 1) 25 rfl (by decide) ?_
      refine z_iadd 26 rfl ?_
      refine z_putI 27 rfl lX3_174 ⟨_, _, _, rfl, rfl⟩ rfl rfl rfl (hS.1.o 2 3 rfl rfl rfl) ?_
      refine z_aload_n 28 rfl rfl ?_
      refine z_iload_n 29 rfl rfl ?_
      obtain ⟨Q48, K50, B⟩ := B
      refine z_cVI1 (ν := mX3_putOff) 30 rfl rfl fX3_putOff gX3_189 ⟨_, rfl, rfl⟩ (by decide) (hS.1.o 2 3 rfl rfl rfl) (Nat.le_of_ble_eq_true rfl) K50 (fun v51 h49 q => ?_)
      obtain ⟨hSh49, B⟩ := B v51 h49 q
      exact z_iret 31 rfl rfl rfl ⟨rfl, rfl⟩ ⟨_, rfl, B⟩
    · have B := B.2 c47
      refine z_aload_n 18 rfl rfl ?_
      refine z_iconst (v := 2) 19 rfl (by decide) ?_
      obtain ⟨Q52, K54, B⟩ := B
      refine z_cVI1 (ν := mX3_wrong) 20 rfl rfl fX3_wrong gX3_79 ⟨_, rfl, rfl⟩ (by decide) (hS.1.o 2 3 rfl rfl rfl) (Nat.le_of_ble_eq_true rfl) K54 (fun v55 h53 q => ?_)
      obtain ⟨hSh53, B⟩ := B v55 h53 q
      exact z_iret 21 rfl rfl rfl ⟨rfl, rfl⟩ ⟨_, rfl, B⟩
set_option maxRecDepth 100000 in
set_option maxHeartbeats 4000000 in
theorem sg_X3_readValue_124 {G : zG} {d : Nat} {h : zMem} {Q : Int32 → zMem → Prop} {t : Nat} {x1 : Int32} {x2 : Int32} (hS : zSh1 h t)  (B : (x2 = 0 → zg G mX3_readValue (d + 1) 141 [.ref 2, .int x1, .int x2] [] h (zPI Q)) ∧ (¬ x2 = 0 → ((9999 : Int32) < (zI h 3 7) → ∃ Q3 : Int32 → zMem → Prop, zConI G mX3_wrong d [.ref 2, .int (2 : Int32)] h Q3 ∧ (∀ v6 h4, Q3 v6 h4 → zSh1 h4 t ∧ Q v6 h4)) ∧ (¬ (9999 : Int32) < (zI h 3 7) → zg G mX3_readValue (d + 1) 141 [.ref 2, .int x1, .int x2] [] h (zPI Q)))) : zg G mX3_readValue (d + 1) 124 [.ref 2, .int x1, .int x2] [] h (zPI Q) := by
  refine z_iload_n 65 rfl rfl ?_
  refine z_if_eq 66 141 rfl (by decide) ⟨fun c1 => ?_, fun c1 => ?_⟩
  · have B := B.1 c1
    exact B
  · have B := B.2 c1
    refine z_aload_n 67 rfl rfl ?_
    refine z_getR 68 rfl lX3_12 rfl (hS.1.o 2 3 rfl rfl rfl) (hS.1.r 2 0 3 rfl rfl rfl) ?_
    refine z_getI 69 rfl lX3_168 rfl (hS.1.o 3 4 rfl rfl rfl) ?_
    refine z_sipush (v := 9999) 70 rfl (by decide) ?_
    refine z_icmp_gt 71 154 rfl (by decide) ⟨fun c2 => ?_, fun c2 => ?_⟩
    · have B := B.1 c2
      refine z_aload_n 77 rfl rfl ?_
      refine z_iconst (v := 2) 78 rfl (by decide) ?_
      obtain ⟨Q3, K5, B⟩ := B
      refine z_cVI1 (ν := mX3_wrong) 79 rfl rfl fX3_wrong gX3_79 ⟨_, rfl, rfl⟩ (by decide) (hS.1.o 2 3 rfl rfl rfl) (Nat.le_of_ble_eq_true rfl) K5 (fun v6 h4 q => ?_)
      obtain ⟨hSh4, B⟩ := B v6 h4 q
      exact z_iret 80 rfl rfl rfl ⟨rfl, rfl⟩ ⟨_, rfl, B⟩
    · have B := B.2 c2
      exact B
set_option maxRecDepth 100000 in
set_option maxHeartbeats 4000000 in
theorem sg_X3_readValue_141 {G : zG} {d : Nat} {h : zMem} {Q : Int32 → zMem → Prop} {t : Nat} {x1 : Int32} {x2 : Int32} (hS : zSh1 h t)  (B : ∃ Q1 : Int32 → zMem → Prop, zConI G mX0_addKnot d [.ref ((111 - t) + 21)] h Q1 ∧ (∀ v4 h2, Q1 v4 h2 → zSh1 h2 t ∧ (¬ v4 = 0 → ∃ Q6 : zMem → Prop, zConV G mX0_append d [.ref ((111 - t) + 21), .int x1, .int (zI h2 3 7)] h2 Q6 ∧ (∀ h7, Q6 h7 → zSh1 h7 t ∧ Q (0 : Int32) (zsI h7 2 5 (0 : Int32)))) ∧ (v4 = 0 → ∃ Q9 : Int32 → zMem → Prop, zConI G mX3_wrong d [.ref 2, .int (2 : Int32)] h2 Q9 ∧ (∀ v12 h10, Q9 v12 h10 → zSh1 h10 t ∧ Q v12 h10)))) : zg G mX3_readValue (d + 1) 141 [.ref 2, .int x1, .int x2] [] h (zPI Q) := by
  refine z_aload_n 72 rfl rfl ?_
  refine z_getR 73 rfl lX3_28 rfl (hS.1.o 2 3 rfl rfl rfl) hS.2.2.2 ?_
  refine z_getR 74 rfl lX3_133 rfl (zS_to hS hS.2.1.other 0 6 rfl rfl) (zS_tr hS hS.2.1.other 0 8 21 rfl rfl rfl) ?_
  obtain ⟨Q1, K3, B⟩ := B
  refine z_cVI0 (ν := mX0_addKnot) 75 rfl rfl fX0_addKnot gX3_198 ⟨_, rfl, rfl⟩ (by decide) (zS_to hS hS.2.1.other 21 0 rfl rfl) (Nat.le_of_ble_eq_true rfl) K3 (fun v4 h2 q => ?_)
  obtain ⟨hSh2, B⟩ := B v4 h2 q
  refine z_if_ne 76 160 rfl (by decide) ⟨fun c5 => ?_, fun c5 => ?_⟩
  · have B := B.1 c5
    refine z_aload_n 81 rfl rfl ?_
    refine z_getR 82 rfl lX3_28 rfl (hSh2.1.o 2 3 rfl rfl rfl) hSh2.2.2.2 ?_
    refine z_getR 83 rfl lX3_133 rfl (zS_to hSh2 hSh2.2.1.other 0 6 rfl rfl) (zS_tr hSh2 hSh2.2.1.other 0 8 21 rfl rfl rfl) ?_
    refine z_iload_n 84 rfl rfl ?_
    refine z_aload_n 85 rfl rfl ?_
    refine z_getR 86 rfl lX3_12 rfl (hSh2.1.o 2 3 rfl rfl rfl) (hSh2.1.r 2 0 3 rfl rfl rfl) ?_
    refine z_getI 87 rfl lX3_168 rfl (hSh2.1.o 3 4 rfl rfl rfl) ?_
    obtain ⟨Q6, K8, B⟩ := B
    refine z_cVV2 (ν := mX0_append) 88 rfl rfl fX0_append gX3_202 ⟨_, rfl, rfl⟩ (by decide) (zS_to hSh2 hSh2.2.1.other 21 0 rfl rfl) (Nat.le_of_ble_eq_true rfl) K8 (fun h7 q => ?_)
    obtain ⟨hSh7, B⟩ := B h7 q
    refine z_aload_n 89 rfl rfl ?_
    refine z_iconst (v := 0) 90 rfl (by decide) ?_
    refine z_putI 91 rfl lX3_177 ⟨_, _, _, rfl, rfl⟩ rfl rfl rfl (hSh7.1.o 2 3 rfl rfl rfl) ?_
    refine z_iconst (v := 0) 92 rfl (by decide) ?_
    exact z_iret 93 rfl rfl rfl ⟨rfl, rfl⟩ ⟨_, rfl, B⟩
  · have B := B.2 c5
    refine z_aload_n 77 rfl rfl ?_
    refine z_iconst (v := 2) 78 rfl (by decide) ?_
    obtain ⟨Q9, K11, B⟩ := B
    refine z_cVI1 (ν := mX3_wrong) 79 rfl rfl fX3_wrong gX3_79 ⟨_, rfl, rfl⟩ (by decide) (hSh2.1.o 2 3 rfl rfl rfl) (Nat.le_of_ble_eq_true rfl) K11 (fun v12 h10 q => ?_)
    obtain ⟨hSh10, B⟩ := B v12 h10 q
    exact z_iret 80 rfl rfl rfl ⟨rfl, rfl⟩ ⟨_, rfl, B⟩
