set_option maxRecDepth 100000 in
set_option maxHeartbeats 4000000 in
theorem sg_X3_open_0 {G : zG} {d : Nat} {h : zMem} {Q : zMem → Prop} {a0 : Nat} {a1 : Nat} {x2 : Int32} (B : zO h a0 3 ∧ ∃ r2, zR h a0 6 = some r2 ∧ zO h r2 6 ∧ ∃ Q3 : zMem → Prop, zConV G mX7_clear d [.ref r2] h Q3 ∧ (∀ h4, Q3 h4 → zO h4 a0 3 ∧ ∃ r7, zR h4 a0 0 = some r7 ∧ zO h4 r7 4 ∧ ∃ Q8 : zMem → Prop, zConV G mX4_open d [.ref r7, .ref a1, .int x2] (zsI (zsI h4 a0 7 (0 : Int32)) a0 8 (-1 : Int32)) Q8 ∧ (∀ h9, Q8 h9 → Q h9))) : zg G mX3_open (d + 1) 0 [.ref a0, .ref a1, .int x2] [] h (zPV Q) := by
  refine z_aload_n 0 rfl rfl ?_
  obtain ⟨o1, B⟩ := B
  obtain ⟨r2, hr2, B⟩ := B
  refine z_getR 1 rfl lX3_28 rfl o1 hr2 ?_
  obtain ⟨o12, B⟩ := B
  obtain ⟨Q3, K5, B⟩ := B
  refine z_cVV0 (ν := mX7_clear) 2 rfl rfl fX7_clear gX3_36 ⟨_, rfl, rfl⟩ (by decide) o12 (Nat.le_of_ble_eq_true rfl) K5 (fun h4 q => ?_)
  have B := B h4 q
  refine z_aload_n 3 rfl rfl ?_
  refine z_iconst (v := 0) 4 rfl (by decide) ?_
  obtain ⟨o6, B⟩ := B
  refine z_putI 5 rfl lX3_39 ⟨_, _, _, rfl, rfl⟩ rfl rfl rfl o6 ?_
  refine z_aload_n 6 rfl rfl ?_
  refine z_iconst (v := -1) 7 rfl (by decide) ?_
  refine z_putI 8 rfl lX3_32 ⟨_, _, _, rfl, rfl⟩ rfl rfl rfl o6 ?_
  refine z_aload_n 9 rfl rfl ?_
  obtain ⟨r7, hr7, B⟩ := B
  refine z_getR 10 rfl lX3_12 rfl o6 hr7 ?_
  refine z_aload_n 11 rfl rfl ?_
  refine z_iload_n 12 rfl rfl ?_
  obtain ⟨o11, B⟩ := B
  obtain ⟨Q8, K10, B⟩ := B
  refine z_cVV2 (ν := mX4_open) 13 rfl rfl fX4_open gX3_42 ⟨_, rfl, rfl⟩ (by decide) o11 (Nat.le_of_ble_eq_true rfl) K10 (fun h9 q => ?_)
  have B := B h9 q
  exact z_vret 14 rfl rfl ⟨rfl, rfl⟩ ⟨rfl, B⟩
theorem cn_X3_open {G : zG} {d : Nat} {h : zMem} {Q : zMem → Prop} {a0 : Nat} {a1 : Nat} {x2 : Int32} (B : zg G mX3_open (d + 1) 0 [.ref a0, .ref a1, .int x2] [] h (zPV Q)) : zConV G mX3_open (d + 1) [.ref a0, .ref a1, .int x2] h Q := zcon0 (by decide +kernel) eX3_open (Nat.le_of_ble_eq_true rfl) rfl B
set_option maxRecDepth 100000 in
set_option maxHeartbeats 4000000 in
theorem sg_X3_exchange_0 {G : zG} {d : Nat} {h : zMem} {Q : Nat → zMem → Prop} {a0 : Nat} {a1 : Nat} (B : zO h a0 3 ∧ ∃ r2, zR h a0 6 = some r2 ∧ Q r2 (zsR h a0 6 (some a1))) : zg G mX3_exchange d 0 [.ref a0, .ref a1, zU] [] h (zPR Q) := by
  refine z_aload_n 0 rfl rfl ?_
  obtain ⟨o1, B⟩ := B
  obtain ⟨r2, hr2, B⟩ := B
  refine z_getR 1 rfl lX3_28 rfl o1 hr2 ?_
  refine z_astore_n 2 rfl (by decide) rfl ?_
  refine z_aload_n 3 rfl rfl ?_
  refine z_aload_n 4 rfl rfl ?_
  refine z_putR 5 rfl lX3_28 ⟨_, _, _, rfl, rfl⟩ rfl o1 ?_
  refine z_aload_n 6 rfl rfl ?_
  exact z_aret 7 rfl rfl (Or.inl ⟨_, rfl⟩) ⟨rfl, rfl⟩ ⟨_, rfl, B⟩
theorem cn_X3_exchange {G : zG} {d : Nat} {h : zMem} {Q : Nat → zMem → Prop} {a0 : Nat} {a1 : Nat} (B : zg G mX3_exchange d 0 [.ref a0, .ref a1, zU] [] h (zPR Q)) : zConR G mX3_exchange d [.ref a0, .ref a1] h Q := zcon0 (by decide +kernel) eX3_exchange (Nat.le_of_ble_eq_true rfl) rfl B
set_option maxRecDepth 100000 in
set_option maxHeartbeats 4000000 in
theorem sg_X3_hasMore_0 {G : zG} {d : Nat} {h : zMem} {Q : Int32 → zMem → Prop} {a0 : Nat} (B : zO h a0 3 ∧ ∃ r2, zR h a0 0 = some r2 ∧ zO h r2 4 ∧ ((zI h r2 4) = (37 : Int32) → Q (0 : Int32) h) ∧ (¬ (zI h r2 4) = (37 : Int32) → Q (1 : Int32) h)) : zg G mX3_hasMore d 0 [.ref a0] [] h (zPI Q) := by
  refine z_aload_n 0 rfl rfl ?_
  obtain ⟨o1, B⟩ := B
  obtain ⟨r2, hr2, B⟩ := B
  refine z_getR 1 rfl lX3_12 rfl o1 hr2 ?_
  obtain ⟨o3, B⟩ := B
  refine z_getI 2 rfl lX3_46 rfl o3 ?_
  refine z_bipush (v := 37) 3 rfl (by decide) ?_
  refine z_icmp_eq 4 16 rfl (by decide) ⟨fun c4 => ?_, fun c4 => ?_⟩
  · have B := B.1 c4
    refine z_iconst (v := 0) 7 rfl (by decide) ?_
    exact z_iret 8 rfl rfl rfl ⟨rfl, rfl⟩ ⟨_, rfl, B⟩
  · have B := B.2 c4
    refine z_iconst (v := 1) 5 rfl (by decide) ?_
    refine z_goto 6 17 rfl (by decide) ?_
    exact z_iret 8 rfl rfl rfl ⟨rfl, rfl⟩ ⟨_, rfl, B⟩
theorem cn_X3_hasMore {G : zG} {d : Nat} {h : zMem} {Q : Int32 → zMem → Prop} {a0 : Nat} (B : zg G mX3_hasMore d 0 [.ref a0] [] h (zPI Q)) : zConI G mX3_hasMore d [.ref a0] h Q := zcon0 (by decide +kernel) eX3_hasMore (Nat.le_of_ble_eq_true rfl) rfl B
set_option maxRecDepth 100000 in
set_option maxHeartbeats 4000000 in
theorem sg_X3_wrong_0 {G : zG} {d : Nat} {h : zMem} {Q : Int32 → zMem → Prop} {a0 : Nat} {x1 : Int32} (B : zO h a0 3 ∧ ∃ r2, zR h a0 0 = some r2 ∧ zO h r2 4 ∧ Q (-1 : Int32) (zsI (zsI h a0 7 x1) a0 8 (zI (zsI h a0 7 x1) r2 5))) : zg G mX3_wrong d 0 [.ref a0, .int x1] [] h (zPI Q) := by
  refine z_aload_n 0 rfl rfl ?_
  refine z_iload_n 1 rfl rfl ?_
  obtain ⟨o1, B⟩ := B
  refine z_putI 2 rfl lX3_39 ⟨_, _, _, rfl, rfl⟩ rfl rfl rfl o1 ?_
  refine z_aload_n 3 rfl rfl ?_
  refine z_aload_n 4 rfl rfl ?_
  obtain ⟨r2, hr2, B⟩ := B
  refine z_getR 5 rfl lX3_12 rfl o1 hr2 ?_
  obtain ⟨o3, B⟩ := B
  refine z_getI 6 rfl lX3_51 rfl o3 ?_
  refine z_putI 7 rfl lX3_32 ⟨_, _, _, rfl, rfl⟩ rfl rfl rfl o1 ?_
  refine z_iconst (v := -1) 8 rfl (by decide) ?_
  exact z_iret 9 rfl rfl rfl ⟨rfl, rfl⟩ ⟨_, rfl, B⟩
theorem cn_X3_wrong {G : zG} {d : Nat} {h : zMem} {Q : Int32 → zMem → Prop} {a0 : Nat} {x1 : Int32} (B : zg G mX3_wrong d 0 [.ref a0, .int x1] [] h (zPI Q)) : zConI G mX3_wrong d [.ref a0, .int x1] h Q := zcon0 (by decide +kernel) eX3_wrong (Nat.le_of_ble_eq_true rfl) rfl B
theorem zsw_X3_readLine_7 {x : Int32} (z1 : ¬ x.toInt < 0) (z2 : ¬ 7 < x.toInt) (c0 : ¬ x = 0) (c1 : ¬ x = 1) (c2 : ¬ x = 2) (c3 : ¬ x = 3) (c4 : ¬ x = 4) (c5 : ¬ x = 5) (c6 : ¬ x = 6) (c7 : ¬ x = 7) : (#[45, 50, 55, 60, 65, 70, 75, 80] : Array Int)[(x.toInt - 0).toNat]? = some 85 := by
  obtain ⟨v, hv⟩ : ∃ v : Int, v = x.toInt := ⟨_, rfl⟩
  have c0 : v ≠ 0 := fun e => c0 (Int32.toInt_inj.mp (by rw [← hv, e]; decide))
  have c1 : v ≠ 1 := fun e => c1 (Int32.toInt_inj.mp (by rw [← hv, e]; decide))
  have c2 : v ≠ 2 := fun e => c2 (Int32.toInt_inj.mp (by rw [← hv, e]; decide))
  have c3 : v ≠ 3 := fun e => c3 (Int32.toInt_inj.mp (by rw [← hv, e]; decide))
  have c4 : v ≠ 4 := fun e => c4 (Int32.toInt_inj.mp (by rw [← hv, e]; decide))
  have c5 : v ≠ 5 := fun e => c5 (Int32.toInt_inj.mp (by rw [← hv, e]; decide))
  have c6 : v ≠ 6 := fun e => c6 (Int32.toInt_inj.mp (by rw [← hv, e]; decide))
  have c7 : v ≠ 7 := fun e => c7 (Int32.toInt_inj.mp (by rw [← hv, e]; decide))
  rw [← hv] at z1 z2 ⊢
  rcases (show v = 0 ∨ v = 1 ∨ v = 2 ∨ v = 3 ∨ v = 4 ∨ v = 5 ∨ v = 6 ∨ v = 7 by omega) with rfl | rfl | rfl | rfl | rfl | rfl | rfl | rfl
  all_goals first | exact absurd rfl (by assumption) | decide
set_option maxRecDepth 100000 in
set_option maxHeartbeats 4000000 in
theorem sg_X3_readLine_0 {G : zG} {d : Nat} {h : zMem} {Q : Int32 → zMem → Prop} {a0 : Nat} (B : zO h a0 3 ∧ ∃ r2, zR h a0 0 = some r2 ∧ zO h r2 4 ∧ ((zI h r2 4) = 0 → ∃ Q4 : Int32 → zMem → Prop, zConI G mX3_stuffLine d [.ref a0] h Q4 ∧ (∀ v7 h5, Q4 v7 h5 → Q v7 h5)) ∧ ((zI h r2 4) = 1 → ∃ Q8 : Int32 → zMem → Prop, zConI G mX3_dayLine d [.ref a0] h Q8 ∧ (∀ v11 h9, Q8 v11 h9 → Q v11 h9)) ∧ ((zI h r2 4) = 2 → ∃ Q12 : Int32 → zMem → Prop, zConI G mX3_mixLine d [.ref a0] h Q12 ∧ (∀ v15 h13, Q12 v15 h13 → Q v15 h13)) ∧ ((zI h r2 4) = 3 → ∃ Q16 : Int32 → zMem → Prop, zConI G mX3_roomLine d [.ref a0] h Q16 ∧ (∀ v19 h17, Q16 v19 h17 → Q v19 h17)) ∧ ((zI h r2 4) = 4 → ∃ Q20 : Int32 → zMem → Prop, zConI G mX3_monkLine d [.ref a0] h Q20 ∧ (∀ v23 h21, Q20 v23 h21 → Q v23 h21)) ∧ ((zI h r2 4) = 5 → ∃ Q24 : Int32 → zMem → Prop, zConI G mX3_lingerLine d [.ref a0] h Q24 ∧ (∀ v27 h25, Q24 v27 h25 → Q v27 h25)) ∧ ((zI h r2 4) = 6 → ∃ Q28 : Int32 → zMem → Prop, zConI G mX3_seedLine d [.ref a0] h Q28 ∧ (∀ v31 h29, Q28 v31 h29 → Q v31 h29)) ∧ ((zI h r2 4) = 7 → ∃ Q32 : Int32 → zMem → Prop, zConI G mX3_lawLine d [.ref a0] h Q32 ∧ (∀ v35 h33, Q32 v35 h33 → Q v35 h33)) ∧ (¬ (zI h r2 4) = 0 → ¬ (zI h r2 4) = 1 → ¬ (zI h r2 4) = 2 → ¬ (zI h r2 4) = 3 → ¬ (zI h r2 4) = 4 → ¬ (zI h r2 4) = 5 → ¬ (zI h r2 4) = 6 → ¬ (zI h r2 4) = 7 → ∃ Q36 : Int32 → zMem → Prop, zConI G mX3_wrong d [.ref a0, .int (1 : Int32)] h Q36 ∧ (∀ v39 h37, Q36 v39 h37 → Q v39 h37))) : zg G mX3_readLine (d + 1) 0 [.ref a0] [] h (zPI Q) := by
  refine z_aload_n 0 rfl rfl ?_
  obtain ⟨o1, B⟩ := B
  obtain ⟨r2, hr2, B⟩ := B
  refine z_getR 1 rfl lX3_12 rfl o1 hr2 ?_
  obtain ⟨o3, B⟩ := B
  refine z_getI 2 rfl lX3_46 rfl o3 ?_
  by_cases c40_0 : (zI h r2 4) = 0
  · obtain ⟨B, -⟩ := B
    refine z_tableIn 3 52 rfl 0 (by rw [c40_0]; decide) (by decide) (by decide) rfl (by decide) ?_
    have B := B c40_0
    refine z_aload_n 4 rfl rfl ?_
    obtain ⟨Q4, K6, B⟩ := B
    refine z_cVI0 (ν := mX3_stuffLine) 5 rfl rfl fX3_stuffLine gX3_54 ⟨_, rfl, rfl⟩ (by decide) o1 (Nat.le_of_ble_eq_true rfl) K6 (fun v7 h5 q => ?_)
    have B := B v7 h5 q
    exact z_iret 6 rfl rfl rfl ⟨rfl, rfl⟩ ⟨_, rfl, B⟩
  obtain ⟨-, B⟩ := B
  by_cases c40_1 : (zI h r2 4) = 1
  · obtain ⟨B, -⟩ := B
    refine z_tableIn 3 57 rfl 1 (by rw [c40_1]; decide) (by decide) (by decide) rfl (by decide) ?_
    have B := B c40_1
    refine z_aload_n 7 rfl rfl ?_
    obtain ⟨Q8, K10, B⟩ := B
    refine z_cVI0 (ν := mX3_dayLine) 8 rfl rfl fX3_dayLine gX3_58 ⟨_, rfl, rfl⟩ (by decide) o1 (Nat.le_of_ble_eq_true rfl) K10 (fun v11 h9 q => ?_)
    have B := B v11 h9 q
    exact z_iret 9 rfl rfl rfl ⟨rfl, rfl⟩ ⟨_, rfl, B⟩
  obtain ⟨-, B⟩ := B
  by_cases c40_2 : (zI h r2 4) = 2
  · obtain ⟨B, -⟩ := B
    refine z_tableIn 3 62 rfl 2 (by rw [c40_2]; decide) (by decide) (by decide) rfl (by decide) ?_
    have B := B c40_2
    refine z_aload_n 10 rfl rfl ?_
    obtain ⟨Q12, K14, B⟩ := B
    refine z_cVI0 (ν := mX3_mixLine) 11 rfl rfl fX3_mixLine gX3_61 ⟨_, rfl, rfl⟩ (by decide) o1 (Nat.le_of_ble_eq_true rfl) K14 (fun v15 h13 q => ?_)
    have B := B v15 h13 q
    exact z_iret 12 rfl rfl rfl ⟨rfl, rfl⟩ ⟨_, rfl, B⟩
  obtain ⟨-, B⟩ := B
  by_cases c40_3 : (zI h r2 4) = 3
  · obtain ⟨B, -⟩ := B
    refine z_tableIn 3 67 rfl 3 (by rw [c40_3]; decide) (by decide) (by decide) rfl (by decide) ?_
    have B := B c40_3
    refine z_aload_n 13 rfl rfl ?_
    obtain ⟨Q16, K18, B⟩ := B
    refine z_cVI0 (ν := mX3_roomLine) 14 rfl rfl fX3_roomLine gX3_64 ⟨_, rfl, rfl⟩ (by decide) o1 (Nat.le_of_ble_eq_true rfl) K18 (fun v19 h17 q => ?_)
    have B := B v19 h17 q
    exact z_iret 15 rfl rfl rfl ⟨rfl, rfl⟩ ⟨_, rfl, B⟩
  obtain ⟨-, B⟩ := B
  by_cases c40_4 : (zI h r2 4) = 4
  · obtain ⟨B, -⟩ := B
    refine z_tableIn 3 72 rfl 4 (by rw [c40_4]; decide) (by decide) (by decide) rfl (by decide) ?_
    have B := B c40_4
    refine z_aload_n 16 rfl rfl ?_
    obtain ⟨Q20, K22, B⟩ := B
    refine z_cVI0 (ν := mX3_monkLine) 17 rfl rfl fX3_monkLine gX3_67 ⟨_, rfl, rfl⟩ (by decide) o1 (Nat.le_of_ble_eq_true rfl) K22 (fun v23 h21 q => ?_)
    have B := B v23 h21 q
    exact z_iret 18 rfl rfl rfl ⟨rfl, rfl⟩ ⟨_, rfl, B⟩
  obtain ⟨-, B⟩ := B
  by_cases c40_5 : (zI h r2 4) = 5
  · obtain ⟨B, -⟩ := B
    refine z_tableIn 3 77 rfl 5 (by rw [c40_5]; decide) (by decide) (by decide) rfl (by decide) ?_
    have B := B c40_5
    refine z_aload_n 19 rfl rfl ?_
    obtain ⟨Q24, K26, B⟩ := B
    refine z_cVI0 (ν := mX3_lingerLine) 20 rfl rfl fX3_lingerLine gX3_70 ⟨_, rfl, rfl⟩ (by decide) o1 (Nat.le_of_ble_eq_true rfl) K26 (fun v27 h25 q => ?_)
    have B := B v27 h25 q
    exact z_iret 21 rfl rfl rfl ⟨rfl, rfl⟩ ⟨_, rfl, B⟩
  obtain ⟨-, B⟩ := B
  by_cases c40_6 : (zI h r2 4) = 6
  · obtain ⟨B, -⟩ := B
    refine z_tableIn 3 82 rfl 6 (by rw [c40_6]; decide) (by decide) (by decide) rfl (by decide) ?_
    have B := B c40_6
    refine z_aload_n 22 rfl rfl ?_
    obtain ⟨Q28, K30, B⟩ := B
    refine z_cVI0 (ν := mX3_seedLine) 23 rfl rfl fX3_seedLine gX3_73 ⟨_, rfl, rfl⟩ (by decide) o1 (Nat.le_of_ble_eq_true rfl) K30 (fun v31 h29 q => ?_)
    have B := B v31 h29 q
    exact z_iret 24 rfl rfl rfl ⟨rfl, rfl⟩ ⟨_, rfl, B⟩
  obtain ⟨-, B⟩ := B
  by_cases c40_7 : (zI h r2 4) = 7
  · obtain ⟨B, -⟩ := B
    refine z_tableIn 3 87 rfl 7 (by rw [c40_7]; decide) (by decide) (by decide) rfl (by decide) ?_
    have B := B c40_7
    refine z_aload_n 25 rfl rfl ?_
    obtain ⟨Q32, K34, B⟩ := B
    refine z_cVI0 (ν := mX3_lawLine) 26 rfl rfl fX3_lawLine gX3_76 ⟨_, rfl, rfl⟩ (by decide) o1 (Nat.le_of_ble_eq_true rfl) K34 (fun v35 h33 q => ?_)
    have B := B v35 h33 q
    exact z_iret 27 rfl rfl rfl ⟨rfl, rfl⟩ ⟨_, rfl, B⟩
  obtain ⟨-, B⟩ := B
  have B := B c40_0 c40_1 c40_2 c40_3 c40_4 c40_5 c40_6 c40_7
  refine z_tableD 3 92 rfl (by decide) (by
    intro z1 z2
    refine zsw_X3_readLine_7 z1 z2 c40_0 c40_1 c40_2 c40_3 c40_4 c40_5 c40_6 c40_7) ?_
  refine z_aload_n 28 rfl rfl ?_
  refine z_iconst (v := 1) 29 rfl (by decide) ?_
  obtain ⟨Q36, K38, B⟩ := B
  refine z_cVI1 (ν := mX3_wrong) 30 rfl rfl fX3_wrong gX3_79 ⟨_, rfl, rfl⟩ (by decide) o1 (Nat.le_of_ble_eq_true rfl) K38 (fun v39 h37 q => ?_)
  have B := B v39 h37 q
  exact z_iret 31 rfl rfl rfl ⟨rfl, rfl⟩ ⟨_, rfl, B⟩
theorem cn_X3_readLine {G : zG} {d : Nat} {h : zMem} {Q : Int32 → zMem → Prop} {a0 : Nat} (B : zg G mX3_readLine (d + 1) 0 [.ref a0] [] h (zPI Q)) : zConI G mX3_readLine (d + 1) [.ref a0] h Q := zcon0 (by decide +kernel) eX3_readLine (Nat.le_of_ble_eq_true rfl) rfl B
set_option maxRecDepth 100000 in
set_option maxHeartbeats 4000000 in
theorem sg_X3_stuffLine_0 {G : zG} {d : Nat} {h : zMem} {Q : Int32 → zMem → Prop} {a0 : Nat} (B : zO h a0 3 ∧ ∃ Q1 : Int32 → zMem → Prop, zConI G mX3_newName d [.ref a0, .int (0 : Int32)] h Q1 ∧ (∀ v4 h2, Q1 v4 h2 → (¬ v4 = (-1 : Int32) → zO h2 a0 3 ∧ ∃ Q6 : Int32 → zMem → Prop, zConI G mX3_readNumber d [.ref a0, .int (0 : Int32), .int (999 : Int32)] h2 Q6 ∧ (∀ v9 h7, Q6 v9 h7 → (¬ v9 = (-1 : Int32) → zO h7 a0 3 ∧ ∃ r12, zR h7 a0 6 = some r12 ∧ zO h7 r12 6 ∧ ∃ r14, zR h7 r12 2 = some r14 ∧ zO h7 r14 100 ∧ vp_in v4 (zLen h7 r14) ∧ ∃ Q17 : Int32 → zMem → Prop, zConI G mX3_readStop d [.ref a0] (zsI h7 r14 v4.toNatClampNeg v9) Q17 ∧ (∀ v20 h18, Q17 v20 h18 → Q v20 h18)) ∧ (v9 = (-1 : Int32) → Q (-1 : Int32) h7))) ∧ (v4 = (-1 : Int32) → (¬ (-1 : Int32) = (-1 : Int32) → zO h2 a0 3 ∧ ∃ r24, zR h2 a0 6 = some r24 ∧ zO h2 r24 6 ∧ ∃ r26, zR h2 r24 2 = some r26 ∧ zO h2 r26 100 ∧ vp_in v4 (zLen h2 r26) ∧ ∃ Q29 : Int32 → zMem → Prop, zConI G mX3_readStop d [.ref a0] (zsI h2 r26 v4.toNatClampNeg (-1 : Int32)) Q29 ∧ (∀ v32 h30, Q29 v32 h30 → Q v32 h30)) ∧ ((-1 : Int32) = (-1 : Int32) → Q (-1 : Int32) h2)))) : zg G mX3_stuffLine (d + 1) 0 [.ref a0, zU, zU] [] h (zPI Q) := by
  refine z_aload_n 0 rfl rfl ?_
  refine z_iconst (v := 0) 1 rfl (by decide) ?_
  obtain ⟨o33, B⟩ := B
  obtain ⟨Q1, K3, B⟩ := B
  refine z_cVI1 (ν := mX3_newName) 2 rfl rfl fX3_newName gX3_83 ⟨_, rfl, rfl⟩ (by decide) o33 (Nat.le_of_ble_eq_true rfl) K3 (fun v4 h2 q => ?_)
  have B := B v4 h2 q
  refine z_istore_n 3 rfl (by decide) rfl ?_
  refine z_iload_n 4 rfl rfl ?_
  refine z_iconst (v := -1) 5 rfl (by decide) ?_
  refine z_icmp_ne 6 15 rfl (by decide) ⟨fun c5 => ?_, fun c5 => ?_⟩
  · have B := B.1 c5
    refine z_aload_n 9 rfl rfl ?_
    refine z_iconst (v := 0) 10 rfl (by decide) ?_
    refine z_sipush (v := 999) 11 rfl (by decide) ?_
    obtain ⟨o21, B⟩ := B
    obtain ⟨Q6, K8, B⟩ := B
    refine z_cVI2 (ν := mX3_readNumber) 12 rfl rfl fX3_readNumber gX3_86 ⟨_, rfl, rfl⟩ (by decide) o21 (Nat.le_of_ble_eq_true rfl) K8 (fun v9 h7 q => ?_)
    have B := B v9 h7 q
    refine z_istore_n 13 rfl (by decide) rfl ?_
    refine z_iload_n 14 rfl rfl ?_
    refine z_iconst (v := -1) 15 rfl (by decide) ?_
    refine z_icmp_ne 16 31 rfl (by decide) ⟨fun c10 => ?_, fun c10 => ?_⟩
    · have B := B.1 c10
      refine z_aload_n 19 rfl rfl ?_
      obtain ⟨o11, B⟩ := B
      obtain ⟨r12, hr12, B⟩ := B
      refine z_getR 20 rfl lX3_28 rfl o11 hr12 ?_
      obtain ⟨o13, B⟩ := B
      obtain ⟨r14, hr14, B⟩ := B
      refine z_getR 21 rfl lX3_90 rfl o13 hr14 ?_
      refine z_iload_n 22 rfl rfl ?_
      refine z_iload_n 23 rfl rfl ?_
      obtain ⟨o15, B⟩ := B
      obtain ⟨o16, B⟩ := B
      refine z_iast 24 rfl o15 o16 ?_
      refine z_aload_n 25 rfl rfl ?_
      obtain ⟨Q17, K19, B⟩ := B
      refine z_cVI0 (ν := mX3_readStop) 26 rfl rfl fX3_readStop gX3_93 ⟨_, rfl, rfl⟩ (by decide) o11 (Nat.le_of_ble_eq_true rfl) K19 (fun v20 h18 q => ?_)
      have B := B v20 h18 q
      exact z_iret 27 rfl rfl rfl ⟨rfl, rfl⟩ ⟨_, rfl, B⟩
    · have B := B.2 c10
      refine z_iconst (v := -1) 17 rfl (by decide) ?_
      exact z_iret 18 rfl rfl rfl ⟨rfl, rfl⟩ ⟨_, rfl, B⟩
  · have B := B.2 c5
    refine z_iconst (v := -1) 7 rfl (by decide) ?_
    refine z_goto 8 23 rfl (by decide) ?_
    refine z_istore_n 13 rfl (by decide) rfl ?_
    refine z_iload_n 14 rfl rfl ?_
    refine z_iconst (v := -1) 15 rfl (by decide) ?_
    refine z_icmp_ne 16 31 rfl (by decide) ⟨fun c22 => ?_, fun c22 => ?_⟩
    · have B := B.1 c22
      refine z_aload_n 19 rfl rfl ?_
      obtain ⟨o23, B⟩ := B
      obtain ⟨r24, hr24, B⟩ := B
      refine z_getR 20 rfl lX3_28 rfl o23 hr24 ?_
      obtain ⟨o25, B⟩ := B
      obtain ⟨r26, hr26, B⟩ := B
      refine z_getR 21 rfl lX3_90 rfl o25 hr26 ?_
      refine z_iload_n 22 rfl rfl ?_
      refine z_iload_n 23 rfl rfl ?_
      obtain ⟨o27, B⟩ := B
      obtain ⟨o28, B⟩ := B
      refine z_iast 24 rfl o27 o28 ?_
      refine z_aload_n 25 rfl rfl ?_
      obtain ⟨Q29, K31, B⟩ := B
      refine z_cVI0 (ν := mX3_readStop) 26 rfl rfl fX3_readStop gX3_93 ⟨_, rfl, rfl⟩ (by decide) o23 (Nat.le_of_ble_eq_true rfl) K31 (fun v32 h30 q => ?_)
      have B := B v32 h30 q
      exact z_iret 27 rfl rfl rfl ⟨rfl, rfl⟩ ⟨_, rfl, B⟩
    · have B := B.2 c22
      refine z_iconst (v := -1) 17 rfl (by decide) ?_
      exact z_iret 18 rfl rfl rfl ⟨rfl, rfl⟩ ⟨_, rfl, B⟩
theorem cn_X3_stuffLine {G : zG} {d : Nat} {h : zMem} {Q : Int32 → zMem → Prop} {a0 : Nat} (B : zg G mX3_stuffLine (d + 1) 0 [.ref a0, zU, zU] [] h (zPI Q)) : zConI G mX3_stuffLine (d + 1) [.ref a0] h Q := zcon0 (by decide +kernel) eX3_stuffLine (Nat.le_of_ble_eq_true rfl) rfl B
set_option maxRecDepth 100000 in
set_option maxHeartbeats 4000000 in
theorem sg_X3_dayLine_0 {G : zG} {d : Nat} {h : zMem} {Q : Int32 → zMem → Prop} {a0 : Nat} (B : zO h a0 3 ∧ ∃ Q1 : Int32 → zMem → Prop, zConI G mX3_newName d [.ref a0, .int (1 : Int32)] h Q1 ∧ (∀ v4 h2, Q1 v4 h2 → (¬ v4 = (-1 : Int32) → zO h2 a0 3 ∧ ∃ r7, zR h2 a0 0 = some r7 ∧ zO h2 r7 4 ∧ (¬ (zI h2 r7 4) = (8 : Int32) → ∃ Q10 : Int32 → zMem → Prop, zConI G mX3_readStop d [.ref a0] h2 Q10 ∧ (∀ v13 h11, Q10 v13 h11 → Q v13 h11)) ∧ ((zI h2 r7 4) = (8 : Int32) → ∃ r14, zR h2 a0 6 = some r14 ∧ zO h2 r14 6 ∧ ∃ r16, zR h2 r14 3 = some r16 ∧ zO h2 r16 103 ∧ vp_in v4 (zLen h2 r16) ∧ ∃ Q19 : zMem → Prop, zConV G mX4_advance d [.ref r7] (zsI h2 r16 v4.toNatClampNeg (vp_nar .boolean (1 : Int32))) Q19 ∧ (∀ h20, Q19 h20 → zO h20 a0 3 ∧ ∃ Q22 : Int32 → zMem → Prop, zConI G mX3_readStop d [.ref a0] h20 Q22 ∧ (∀ v25 h23, Q22 v25 h23 → Q v25 h23)))) ∧ (v4 = (-1 : Int32) → Q (-1 : Int32) h2))) : zg G mX3_dayLine (d + 1) 0 [.ref a0, zU] [] h (zPI Q) := by
  refine z_aload_n 0 rfl rfl ?_
  refine z_iconst (v := 1) 1 rfl (by decide) ?_
  obtain ⟨o27, B⟩ := B
  obtain ⟨Q1, K3, B⟩ := B
  refine z_cVI1 (ν := mX3_newName) 2 rfl rfl fX3_newName gX3_83 ⟨_, rfl, rfl⟩ (by decide) o27 (Nat.le_of_ble_eq_true rfl) K3 (fun v4 h2 q => ?_)
  have B := B v4 h2 q
  refine z_istore_n 3 rfl (by decide) rfl ?_
  refine z_iload_n 4 rfl rfl ?_
  refine z_iconst (v := -1) 5 rfl (by decide) ?_
  refine z_icmp_ne 6 13 rfl (by decide) ⟨fun c5 => ?_, fun c5 => ?_⟩
  · have B := B.1 c5
    refine z_aload_n 9 rfl rfl ?_
    obtain ⟨o6, B⟩ := B
    obtain ⟨r7, hr7, B⟩ := B
    refine z_getR 10 rfl lX3_12 rfl o6 hr7 ?_
    obtain ⟨o8, B⟩ := B
    refine z_getI 11 rfl lX3_46 rfl o8 ?_
    refine z_bipush (v := 8) 12 rfl (by decide) ?_
    refine z_icmp_ne 13 42 rfl (by decide) ⟨fun c9 => ?_, fun c9 => ?_⟩
    · have B := B.1 c9
      refine z_aload_n 23 rfl rfl ?_
      obtain ⟨Q10, K12, B⟩ := B
      refine z_cVI0 (ν := mX3_readStop) 24 rfl rfl fX3_readStop gX3_93 ⟨_, rfl, rfl⟩ (by decide) o6 (Nat.le_of_ble_eq_true rfl) K12 (fun v13 h11 q => ?_)
      have B := B v13 h11 q
      exact z_iret 25 rfl rfl rfl ⟨rfl, rfl⟩ ⟨_, rfl, B⟩
    · have B := B.2 c9
      refine z_aload_n 14 rfl rfl ?_
      obtain ⟨r14, hr14, B⟩ := B
      refine z_getR 15 rfl lX3_28 rfl o6 hr14 ?_
      obtain ⟨o15, B⟩ := B
      obtain ⟨r16, hr16, B⟩ := B
      refine z_getR 16 rfl lX3_96 rfl o15 hr16 ?_
      refine z_iload_n 17 rfl rfl ?_
      refine z_iconst (v := 1) 18 rfl (by decide) ?_
      obtain ⟨o17, B⟩ := B
      obtain ⟨o18, B⟩ := B
      refine z_zast 19 rfl o17 o18 ?_
      refine z_aload_n 20 rfl rfl ?_
      refine z_getR 21 rfl lX3_12 rfl o6 hr7 ?_
      obtain ⟨Q19, K21, B⟩ := B
      refine z_cVV0 (ν := mX4_advance) 22 rfl rfl fX4_advance gX3_100 ⟨_, rfl, rfl⟩ (by decide) o8 (Nat.le_of_ble_eq_true rfl) K21 (fun h20 q => ?_)
      have B := B h20 q
      refine z_aload_n 23 rfl rfl ?_
      obtain ⟨o26, B⟩ := B
      obtain ⟨Q22, K24, B⟩ := B
      refine z_cVI0 (ν := mX3_readStop) 24 rfl rfl fX3_readStop gX3_93 ⟨_, rfl, rfl⟩ (by decide) o26 (Nat.le_of_ble_eq_true rfl) K24 (fun v25 h23 q => ?_)
      have B := B v25 h23 q
      exact z_iret 25 rfl rfl rfl ⟨rfl, rfl⟩ ⟨_, rfl, B⟩
  · have B := B.2 c5
    refine z_iconst (v := -1) 7 rfl (by decide) ?_
    exact z_iret 8 rfl rfl rfl ⟨rfl, rfl⟩ ⟨_, rfl, B⟩
theorem cn_X3_dayLine {G : zG} {d : Nat} {h : zMem} {Q : Int32 → zMem → Prop} {a0 : Nat} (B : zg G mX3_dayLine (d + 1) 0 [.ref a0, zU] [] h (zPI Q)) : zConI G mX3_dayLine (d + 1) [.ref a0] h Q := zcon0 (by decide +kernel) eX3_dayLine (Nat.le_of_ble_eq_true rfl) rfl B
set_option maxRecDepth 100000 in
set_option maxHeartbeats 4000000 in
theorem sg_X3_mixLine_0 {G : zG} {d : Nat} {h : zMem} {Q : Int32 → zMem → Prop} {a0 : Nat} (B : zO h a0 3 ∧ ∃ r2, zR h a0 6 = some r2 ∧ zO h r2 6 ∧ ((zI h r2 9) < (24 : Int32) → ∃ r5, zR h a0 0 = some r5 ∧ zO h r5 4 ∧ ∃ Q6 : zMem → Prop, zConV G mX4_advance d [.ref r5] h Q6 ∧ (∀ h7, Q6 h7 → zO h7 a0 3 ∧ ∃ Q9 : Int32 → zMem → Prop, zConI G mX3_toldName d [.ref a0, .int (1 : Int32)] h7 Q9 ∧ (∀ v12 h10, Q9 v12 h10 → (¬ v12 = (-1 : Int32) → zO h10 a0 3 ∧ ∃ r15, zR h10 a0 0 = some r15 ∧ zO h10 r15 4 ∧ ∃ Q16 : zMem → Prop, zConV G mX4_advance d [.ref r15] h10 Q16 ∧ (∀ h17, Q16 h17 → zO h17 a0 3 ∧ ∃ Q19 : Int32 → zMem → Prop, zConI G mX3_toldName d [.ref a0, .int (0 : Int32)] h17 Q19 ∧ (∀ v22 h20, Q19 v22 h20 → (¬ v22 = (-1 : Int32) → zO h20 a0 3 ∧ ∃ r25, zR h20 a0 6 = some r25 ∧ zO h20 r25 6 ∧ ∃ r27, zR h20 r25 4 = some r27 ∧ zO h20 r27 104 ∧ vp_in v12 (zLen h20 r27) ∧ ∃ r30, zR h20 r27 v12.toNatClampNeg = some r30 ∧ zO h20 r30 100 ∧ vp_in v22 (zLen h20 r30) ∧ ((zI h20 r30 v22.toNatClampNeg) ≤ 0 → ∃ r34, zR h20 a0 0 = some r34 ∧ zO h20 r34 4 ∧ ∃ Q35 : zMem → Prop, zConV G mX4_advance d [.ref r34] h20 Q35 ∧ (∀ h36, Q35 h36 → zO h36 a0 3 ∧ ∃ Q38 : Int32 → zMem → Prop, zConI G mX3_readNumber d [.ref a0, .int (1 : Int32), .int (99 : Int32)] h36 Q38 ∧ (∀ v41 h39, Q38 v41 h39 → (¬ v41 = (-1 : Int32) → zO h39 a0 3 ∧ ∃ r44, zR h39 a0 6 = some r44 ∧ zO h39 r44 6 ∧ ∃ r46, zR h39 r44 4 = some r46 ∧ zO h39 r46 104 ∧ vp_in v12 (zLen h39 r46) ∧ ∃ r49, zR h39 r46 v12.toNatClampNeg = some r49 ∧ zO h39 r49 100 ∧ vp_in v22 (zLen h39 r49) ∧ ∃ Q52 : Int32 → zMem → Prop, zConI G mX3_readStop d [.ref a0] (zsI (zsI h39 r49 v22.toNatClampNeg v41) r44 9 ((zI (zsI h39 r49 v22.toNatClampNeg v41) r44 9) + (1 : Int32))) Q52 ∧ (∀ v55 h53, Q52 v55 h53 → Q v55 h53)) ∧ (v41 = (-1 : Int32) → Q (-1 : Int32) h39)))) ∧ (¬ (zI h20 r30 v22.toNatClampNeg) ≤ 0 → ∃ Q58 : Int32 → zMem → Prop, zConI G mX3_wrong d [.ref a0, .int (3 : Int32)] h20 Q58 ∧ (∀ v61 h59, Q58 v61 h59 → Q v61 h59))) ∧ (v22 = (-1 : Int32) → Q (-1 : Int32) h20)))) ∧ (v12 = (-1 : Int32) → Q (-1 : Int32) h10)))) ∧ (¬ (zI h r2 9) < (24 : Int32) → ∃ Q66 : Int32 → zMem → Prop, zConI G mX3_wrong d [.ref a0, .int (2 : Int32)] h Q66 ∧ (∀ v69 h67, Q66 v69 h67 → Q v69 h67))) : zg G mX3_mixLine (d + 1) 0 [.ref a0, zU, zU, zU] [] h (zPI Q) := by
  refine z_aload_n 0 rfl rfl ?_
  obtain ⟨o1, B⟩ := B
  obtain ⟨r2, hr2, B⟩ := B
  refine z_getR 1 rfl lX3_28 rfl o1 hr2 ?_
  obtain ⟨o3, B⟩ := B
  refine z_getI 2 rfl lX3_103 rfl o3 ?_
  refine z_bipush (v := 24) 3 rfl (by decide) ?_
  refine z_icmp_lt 4 18 rfl (by decide) ⟨fun c4 => ?_, fun c4 => ?_⟩
  · have B := B.1 c4
    refine z_aload_n 9 rfl rfl ?_
    obtain ⟨r5, hr5, B⟩ := B
    refine z_getR 10 rfl lX3_12 rfl o1 hr5 ?_
    obtain ⟨o65, B⟩ := B
    obtain ⟨Q6, K8, B⟩ := B
    refine z_cVV0 (ν := mX4_advance) 11 rfl rfl fX4_advance gX3_100 ⟨_, rfl, rfl⟩ (by decide) o65 (Nat.le_of_ble_eq_true rfl) K8 (fun h7 q => ?_)
    have B := B h7 q
    refine z_aload_n 12 rfl rfl ?_
    refine z_iconst (v := 1) 13 rfl (by decide) ?_
    obtain ⟨o64, B⟩ := B
    obtain ⟨Q9, K11, B⟩ := B
    refine z_cVI1 (ν := mX3_toldName) 14 rfl rfl fX3_toldName gX3_106 ⟨_, rfl, rfl⟩ (by decide) o64 (Nat.le_of_ble_eq_true rfl) K11 (fun v12 h10 q => ?_)
    have B := B v12 h10 q
    refine z_istore_n 15 rfl (by decide) rfl ?_
    refine z_iload_n 16 rfl rfl ?_
    refine z_iconst (v := -1) 17 rfl (by decide) ?_
    refine z_icmp_ne 18 38 rfl (by decide) ⟨fun c13 => ?_, fun c13 => ?_⟩
    · have B := B.1 c13
      refine z_aload_n 21 rfl rfl ?_
      obtain ⟨o14, B⟩ := B
      obtain ⟨r15, hr15, B⟩ := B
      refine z_getR 22 rfl lX3_12 rfl o14 hr15 ?_
      obtain ⟨o63, B⟩ := B
      obtain ⟨Q16, K18, B⟩ := B
      refine z_cVV0 (ν := mX4_advance) 23 rfl rfl fX4_advance gX3_100 ⟨_, rfl, rfl⟩ (by decide) o63 (Nat.le_of_ble_eq_true rfl) K18 (fun h17 q => ?_)
      have B := B h17 q
      refine z_aload_n 24 rfl rfl ?_
      refine z_iconst (v := 0) 25 rfl (by decide) ?_
      obtain ⟨o62, B⟩ := B
      obtain ⟨Q19, K21, B⟩ := B
      refine z_cVI1 (ν := mX3_toldName) 26 rfl rfl fX3_toldName gX3_106 ⟨_, rfl, rfl⟩ (by decide) o62 (Nat.le_of_ble_eq_true rfl) K21 (fun v22 h20 q => ?_)
      have B := B v22 h20 q
      refine z_istore_n 27 rfl (by decide) rfl ?_
      refine z_iload_n 28 rfl rfl ?_
      refine z_iconst (v := -1) 29 rfl (by decide) ?_
      refine z_icmp_ne 30 58 rfl (by decide) ⟨fun c23 => ?_, fun c23 => ?_⟩
      · have B := B.1 c23
        refine z_aload_n 33 rfl rfl ?_
        obtain ⟨o24, B⟩ := B
        obtain ⟨r25, hr25, B⟩ := B
        refine z_getR 34 rfl lX3_28 rfl o24 hr25 ?_
        obtain ⟨o26, B⟩ := B
        obtain ⟨r27, hr27, B⟩ := B
        refine z_getR 35 rfl lX3_109 rfl o26 hr27 ?_
        refine z_iload_n 36 rfl rfl ?_
        obtain ⟨o28, B⟩ := B
        obtain ⟨o29, B⟩ := B
        obtain ⟨r30, hr30, B⟩ := B
        refine z_aald 37 rfl o28 o29 hr30 ?_
        refine z_iload_n 38 rfl rfl ?_
        obtain ⟨o31, B⟩ := B
        obtain ⟨o32, B⟩ := B
        refine z_iald 39 rfl o31 o32 ?_
        refine z_if_le 40 78 rfl (by decide) ⟨fun c33 => ?_, fun c33 => ?_⟩
        · have B := B.1 c33
          refine z_aload_n 45 rfl rfl ?_
          obtain ⟨r34, hr34, B⟩ := B
          refine z_getR 46 rfl lX3_12 rfl o24 hr34 ?_
          obtain ⟨o57, B⟩ := B
          obtain ⟨Q35, K37, B⟩ := B
          refine z_cVV0 (ν := mX4_advance) 47 rfl rfl fX4_advance gX3_100 ⟨_, rfl, rfl⟩ (by decide) o57 (Nat.le_of_ble_eq_true rfl) K37 (fun h36 q => ?_)
          have B := B h36 q
          refine z_aload_n 48 rfl rfl ?_
          refine z_iconst (v := 1) 49 rfl (by decide) ?_
          refine z_bipush (v := 99) 50 rfl (by decide) ?_
          obtain ⟨o56, B⟩ := B
          obtain ⟨Q38, K40, B⟩ := B
          refine z_cVI2 (ν := mX3_readNumber) 51 rfl rfl fX3_readNumber gX3_86 ⟨_, rfl, rfl⟩ (by decide) o56 (Nat.le_of_ble_eq_true rfl) K40 (fun v41 h39 q => ?_)
          have B := B v41 h39 q
          refine z_istore_n 52 rfl (by decide) rfl ?_
          refine z_iload_n 53 rfl rfl ?_
          refine z_iconst (v := -1) 54 rfl (by decide) ?_
          refine z_icmp_ne 55 100 rfl (by decide) ⟨fun c42 => ?_, fun c42 => ?_⟩
          · have B := B.1 c42
            refine z_aload_n 58 rfl rfl ?_
            obtain ⟨o43, B⟩ := B
            obtain ⟨r44, hr44, B⟩ := B
            refine z_getR 59 rfl lX3_28 rfl o43 hr44 ?_
            obtain ⟨o45, B⟩ := B
            obtain ⟨r46, hr46, B⟩ := B
            refine z_getR 60 rfl lX3_109 rfl o45 hr46 ?_
            refine z_iload_n 61 rfl rfl ?_
            obtain ⟨o47, B⟩ := B
            obtain ⟨o48, B⟩ := B
            obtain ⟨r49, hr49, B⟩ := B
            refine z_aald 62 rfl o47 o48 hr49 ?_
            refine z_iload_n 63 rfl rfl ?_
            refine z_iload_n 64 rfl rfl ?_
            obtain ⟨o50, B⟩ := B
            obtain ⟨o51, B⟩ := B
            refine z_iast 65 rfl o50 o51 ?_
            refine z_aload_n 66 rfl rfl ?_
            refine z_getR 67 rfl lX3_28 rfl o43 hr44 ?_
            refine z_dup 68 rfl rfl ?_
            refine z_getI 69 rfl lX3_103 rfl o45 ?_
            refine z_iconst (v := 1) 70 rfl (by decide) ?_
            refine z_iadd 71 rfl ?_
            refine z_putI 72 rfl lX3_103 ⟨_, _, _, rfl, rfl⟩ rfl rfl rfl o45 ?_
            refine z_aload_n 73 rfl rfl ?_
            obtain ⟨Q52, K54, B⟩ := B
            refine z_cVI0 (ν := mX3_readStop) 74 rfl rfl fX3_readStop gX3_93 ⟨_, rfl, rfl⟩ (by decide) o43 (Nat.le_of_ble_eq_true rfl) K54 (fun v55 h53 q => ?_)
            have B := B v55 h53 q
            exact z_iret 75 rfl rfl rfl ⟨rfl, rfl⟩ ⟨_, rfl, B⟩
          · have B := B.2 c42
            refine z_iconst (v := -1) 56 rfl (by decide) ?_
            exact z_iret 57 rfl rfl rfl ⟨rfl, rfl⟩ ⟨_, rfl, B⟩
        · have B := B.2 c33
          refine z_aload_n 41 rfl rfl ?_
          refine z_iconst (v := 3) 42 rfl (by decide) ?_
          obtain ⟨Q58, K60, B⟩ := B
          refine z_cVI1 (ν := mX3_wrong) 43 rfl rfl fX3_wrong gX3_79 ⟨_, rfl, rfl⟩ (by decide) o24 (Nat.le_of_ble_eq_true rfl) K60 (fun v61 h59 q => ?_)
          have B := B v61 h59 q
          exact z_iret 44 rfl rfl rfl ⟨rfl, rfl⟩ ⟨_, rfl, B⟩
      · have B := B.2 c23
        refine z_iconst (v := -1) 31 rfl (by decide) ?_
        exact z_iret 32 rfl rfl rfl ⟨rfl, rfl⟩ ⟨_, rfl, B⟩
    · have B := B.2 c13
      refine z_iconst (v := -1) 19 rfl (by decide) ?_
      exact z_iret 20 rfl rfl rfl ⟨rfl, rfl⟩ ⟨_, rfl, B⟩
  · have B := B.2 c4
    refine z_aload_n 5 rfl rfl ?_
    refine z_iconst (v := 2) 6 rfl (by decide) ?_
    obtain ⟨Q66, K68, B⟩ := B
    refine z_cVI1 (ν := mX3_wrong) 7 rfl rfl fX3_wrong gX3_79 ⟨_, rfl, rfl⟩ (by decide) o1 (Nat.le_of_ble_eq_true rfl) K68 (fun v69 h67 q => ?_)
    have B := B v69 h67 q
    exact z_iret 8 rfl rfl rfl ⟨rfl, rfl⟩ ⟨_, rfl, B⟩
theorem cn_X3_mixLine {G : zG} {d : Nat} {h : zMem} {Q : Int32 → zMem → Prop} {a0 : Nat} (B : zg G mX3_mixLine (d + 1) 0 [.ref a0, zU, zU, zU] [] h (zPI Q)) : zConI G mX3_mixLine (d + 1) [.ref a0] h Q := zcon0 (by decide +kernel) eX3_mixLine (Nat.le_of_ble_eq_true rfl) rfl B
set_option maxRecDepth 100000 in
set_option maxHeartbeats 4000000 in
theorem sg_X3_roomLine_0 {G : zG} {d : Nat} {h : zMem} {Q : Int32 → zMem → Prop} {a0 : Nat} (B : zO h a0 3 ∧ ∃ Q1 : Int32 → zMem → Prop, zConI G mX3_newName d [.ref a0, .int (2 : Int32)] h Q1 ∧ (∀ v4 h2, Q1 v4 h2 → (¬ v4 = (-1 : Int32) → zO h2 a0 3 ∧ ∃ Q6 : Int32 → zMem → Prop, zConI G mX3_readNumber d [.ref a0, .int (0 : Int32), .int (100 : Int32)] h2 Q6 ∧ (∀ v9 h7, Q6 v9 h7 → (¬ v9 = (-1 : Int32) → zO h7 a0 3 ∧ ∃ r12, zR h7 a0 6 = some r12 ∧ zO h7 r12 6 ∧ ∃ r14, zR h7 r12 5 = some r14 ∧ zO h7 r14 100 ∧ vp_in v4 (zLen h7 r14) ∧ ∃ Q17 : Int32 → zMem → Prop, zConI G mX3_readStop d [.ref a0] (zsI h7 r14 v4.toNatClampNeg v9) Q17 ∧ (∀ v20 h18, Q17 v20 h18 → Q v20 h18)) ∧ (v9 = (-1 : Int32) → Q (-1 : Int32) h7))) ∧ (v4 = (-1 : Int32) → (¬ (-1 : Int32) = (-1 : Int32) → zO h2 a0 3 ∧ ∃ r24, zR h2 a0 6 = some r24 ∧ zO h2 r24 6 ∧ ∃ r26, zR h2 r24 5 = some r26 ∧ zO h2 r26 100 ∧ vp_in v4 (zLen h2 r26) ∧ ∃ Q29 : Int32 → zMem → Prop, zConI G mX3_readStop d [.ref a0] (zsI h2 r26 v4.toNatClampNeg (-1 : Int32)) Q29 ∧ (∀ v32 h30, Q29 v32 h30 → Q v32 h30)) ∧ ((-1 : Int32) = (-1 : Int32) → Q (-1 : Int32) h2)))) : zg G mX3_roomLine (d + 1) 0 [.ref a0, zU, zU] [] h (zPI Q) := by
  refine z_aload_n 0 rfl rfl ?_
  refine z_iconst (v := 2) 1 rfl (by decide) ?_
  obtain ⟨o33, B⟩ := B
  obtain ⟨Q1, K3, B⟩ := B
  refine z_cVI1 (ν := mX3_newName) 2 rfl rfl fX3_newName gX3_83 ⟨_, rfl, rfl⟩ (by decide) o33 (Nat.le_of_ble_eq_true rfl) K3 (fun v4 h2 q => ?_)
  have B := B v4 h2 q
  refine z_istore_n 3 rfl (by decide) rfl ?_
  refine z_iload_n 4 rfl rfl ?_
  refine z_iconst (v := -1) 5 rfl (by decide) ?_
  refine z_icmp_ne 6 15 rfl (by decide) ⟨fun c5 => ?_, fun c5 => ?_⟩
  · have B := B.1 c5
    refine z_aload_n 9 rfl rfl ?_
    refine z_iconst (v := 0) 10 rfl (by decide) ?_
    refine z_bipush (v := 100) 11 rfl (by decide) ?_
    obtain ⟨o21, B⟩ := B
    obtain ⟨Q6, K8, B⟩ := B
    refine z_cVI2 (ν := mX3_readNumber) 12 rfl rfl fX3_readNumber gX3_86 ⟨_, rfl, rfl⟩ (by decide) o21 (Nat.le_of_ble_eq_true rfl) K8 (fun v9 h7 q => ?_)
    have B := B v9 h7 q
    refine z_istore_n 13 rfl (by decide) rfl ?_
    refine z_iload_n 14 rfl rfl ?_
    refine z_iconst (v := -1) 15 rfl (by decide) ?_
    refine z_icmp_ne 16 30 rfl (by decide) ⟨fun c10 => ?_, fun c10 => ?_⟩
    · have B := B.1 c10
      refine z_aload_n 19 rfl rfl ?_
      obtain ⟨o11, B⟩ := B
      obtain ⟨r12, hr12, B⟩ := B
      refine z_getR 20 rfl lX3_28 rfl o11 hr12 ?_
      obtain ⟨o13, B⟩ := B
      obtain ⟨r14, hr14, B⟩ := B
      refine z_getR 21 rfl lX3_113 rfl o13 hr14 ?_
      refine z_iload_n 22 rfl rfl ?_
      refine z_iload_n 23 rfl rfl ?_
      obtain ⟨o15, B⟩ := B
      obtain ⟨o16, B⟩ := B
      refine z_iast 24 rfl o15 o16 ?_
      refine z_aload_n 25 rfl rfl ?_
      obtain ⟨Q17, K19, B⟩ := B
      refine z_cVI0 (ν := mX3_readStop) 26 rfl rfl fX3_readStop gX3_93 ⟨_, rfl, rfl⟩ (by decide) o11 (Nat.le_of_ble_eq_true rfl) K19 (fun v20 h18 q => ?_)
      have B := B v20 h18 q
      exact z_iret 27 rfl rfl rfl ⟨rfl, rfl⟩ ⟨_, rfl, B⟩
    · have B := B.2 c10
      refine z_iconst (v := -1) 17 rfl (by decide) ?_
      exact z_iret 18 rfl rfl rfl ⟨rfl, rfl⟩ ⟨_, rfl, B⟩
  · have B := B.2 c5
    refine z_iconst (v := -1) 7 rfl (by decide) ?_
    refine z_goto 8 22 rfl (by decide) ?_
    refine z_istore_n 13 rfl (by decide) rfl ?_
    refine z_iload_n 14 rfl rfl ?_
    refine z_iconst (v := -1) 15 rfl (by decide) ?_
    refine z_icmp_ne 16 30 rfl (by decide) ⟨fun c22 => ?_, fun c22 => ?_⟩
    · have B := B.1 c22
      refine z_aload_n 19 rfl rfl ?_
      obtain ⟨o23, B⟩ := B
      obtain ⟨r24, hr24, B⟩ := B
      refine z_getR 20 rfl lX3_28 rfl o23 hr24 ?_
      obtain ⟨o25, B⟩ := B
      obtain ⟨r26, hr26, B⟩ := B
      refine z_getR 21 rfl lX3_113 rfl o25 hr26 ?_
      refine z_iload_n 22 rfl rfl ?_
      refine z_iload_n 23 rfl rfl ?_
      obtain ⟨o27, B⟩ := B
      obtain ⟨o28, B⟩ := B
      refine z_iast 24 rfl o27 o28 ?_
      refine z_aload_n 25 rfl rfl ?_
      obtain ⟨Q29, K31, B⟩ := B
      refine z_cVI0 (ν := mX3_readStop) 26 rfl rfl fX3_readStop gX3_93 ⟨_, rfl, rfl⟩ (by decide) o23 (Nat.le_of_ble_eq_true rfl) K31 (fun v32 h30 q => ?_)
      have B := B v32 h30 q
      exact z_iret 27 rfl rfl rfl ⟨rfl, rfl⟩ ⟨_, rfl, B⟩
    · have B := B.2 c22
      refine z_iconst (v := -1) 17 rfl (by decide) ?_
      exact z_iret 18 rfl rfl rfl ⟨rfl, rfl⟩ ⟨_, rfl, B⟩
theorem cn_X3_roomLine {G : zG} {d : Nat} {h : zMem} {Q : Int32 → zMem → Prop} {a0 : Nat} (B : zg G mX3_roomLine (d + 1) 0 [.ref a0, zU, zU] [] h (zPI Q)) : zConI G mX3_roomLine (d + 1) [.ref a0] h Q := zcon0 (by decide +kernel) eX3_roomLine (Nat.le_of_ble_eq_true rfl) rfl B
set_option maxRecDepth 100000 in
set_option maxHeartbeats 4000000 in
theorem sg_X3_monkLine_0 {G : zG} {d : Nat} {h : zMem} {Q : Int32 → zMem → Prop} {a0 : Nat} (B : zO h a0 3 ∧ ∃ Q1 : Int32 → zMem → Prop, zConI G mX3_newName d [.ref a0, .int (3 : Int32)] h Q1 ∧ (∀ v4 h2, Q1 v4 h2 → (¬ v4 = (-1 : Int32) → zO h2 a0 3 ∧ ∃ Q6 : Int32 → zMem → Prop, zConI G mX3_toldName d [.ref a0, .int (2 : Int32)] h2 Q6 ∧ (∀ v9 h7, Q6 v9 h7 → (¬ v9 = (-1 : Int32) → zO h7 a0 3 ∧ ∃ r12, zR h7 a0 0 = some r12 ∧ zO h7 r12 4 ∧ ∃ Q13 : zMem → Prop, zConV G mX4_advance d [.ref r12] h7 Q13 ∧ (∀ h14, Q13 h14 → zO h14 a0 3 ∧ ∃ Q16 : Int32 → zMem → Prop, zConI G mX3_readNumber d [.ref a0, .int (1 : Int32), .int (99 : Int32)] h14 Q16 ∧ (∀ v19 h17, Q16 v19 h17 → (¬ v19 = (-1 : Int32) → zO h17 a0 3 ∧ ∃ r22, zR h17 a0 6 = some r22 ∧ zO h17 r22 6 ∧ ∃ r24, zR h17 r22 6 = some r24 ∧ zO h17 r24 100 ∧ vp_in v4 (zLen h17 r24) ∧ ∃ r27, zR h17 r22 7 = some r27 ∧ zO h17 r27 100 ∧ vp_in v4 (zLen h17 r27) ∧ ∃ Q30 : Int32 → zMem → Prop, zConI G mX3_readStop d [.ref a0] (zsI (zsI h17 r24 v4.toNatClampNeg v9) r27 v4.toNatClampNeg v19) Q30 ∧ (∀ v33 h31, Q30 v33 h31 → Q v33 h31)) ∧ (v19 = (-1 : Int32) → Q (-1 : Int32) h17)))) ∧ (v9 = (-1 : Int32) → Q (-1 : Int32) h7))) ∧ (v4 = (-1 : Int32) → (¬ (-1 : Int32) = (-1 : Int32) → zO h2 a0 3 ∧ ∃ r39, zR h2 a0 0 = some r39 ∧ zO h2 r39 4 ∧ ∃ Q40 : zMem → Prop, zConV G mX4_advance d [.ref r39] h2 Q40 ∧ (∀ h41, Q40 h41 → zO h41 a0 3 ∧ ∃ Q43 : Int32 → zMem → Prop, zConI G mX3_readNumber d [.ref a0, .int (1 : Int32), .int (99 : Int32)] h41 Q43 ∧ (∀ v46 h44, Q43 v46 h44 → (¬ v46 = (-1 : Int32) → zO h44 a0 3 ∧ ∃ r49, zR h44 a0 6 = some r49 ∧ zO h44 r49 6 ∧ ∃ r51, zR h44 r49 6 = some r51 ∧ zO h44 r51 100 ∧ vp_in v4 (zLen h44 r51) ∧ ∃ r54, zR h44 r49 7 = some r54 ∧ zO h44 r54 100 ∧ vp_in v4 (zLen h44 r54) ∧ ∃ Q57 : Int32 → zMem → Prop, zConI G mX3_readStop d [.ref a0] (zsI (zsI h44 r51 v4.toNatClampNeg (-1 : Int32)) r54 v4.toNatClampNeg v46) Q57 ∧ (∀ v60 h58, Q57 v60 h58 → Q v60 h58)) ∧ (v46 = (-1 : Int32) → Q (-1 : Int32) h44)))) ∧ ((-1 : Int32) = (-1 : Int32) → Q (-1 : Int32) h2)))) : zg G mX3_monkLine (d + 1) 0 [.ref a0, zU, zU, zU] [] h (zPI Q) := by
  refine z_aload_n 0 rfl rfl ?_
  refine z_iconst (v := 3) 1 rfl (by decide) ?_
  obtain ⟨o63, B⟩ := B
  obtain ⟨Q1, K3, B⟩ := B
  refine z_cVI1 (ν := mX3_newName) 2 rfl rfl fX3_newName gX3_83 ⟨_, rfl, rfl⟩ (by decide) o63 (Nat.le_of_ble_eq_true rfl) K3 (fun v4 h2 q => ?_)
  have B := B v4 h2 q
  refine z_istore_n 3 rfl (by decide) rfl ?_
  refine z_iload_n 4 rfl rfl ?_
  refine z_iconst (v := -1) 5 rfl (by decide) ?_
  refine z_icmp_ne 6 15 rfl (by decide) ⟨fun c5 => ?_, fun c5 => ?_⟩
  · have B := B.1 c5
    refine z_aload_n 9 rfl rfl ?_
    refine z_iconst (v := 2) 10 rfl (by decide) ?_
    obtain ⟨o36, B⟩ := B
    obtain ⟨Q6, K8, B⟩ := B
    refine z_cVI1 (ν := mX3_toldName) 11 rfl rfl fX3_toldName gX3_106 ⟨_, rfl, rfl⟩ (by decide) o36 (Nat.le_of_ble_eq_true rfl) K8 (fun v9 h7 q => ?_)
    have B := B v9 h7 q
    refine z_istore_n 12 rfl (by decide) rfl ?_
    refine z_iload_n 13 rfl rfl ?_
    refine z_iconst (v := -1) 14 rfl (by decide) ?_
    refine z_icmp_ne 15 28 rfl (by decide) ⟨fun c10 => ?_, fun c10 => ?_⟩
    · have B := B.1 c10
      refine z_aload_n 18 rfl rfl ?_
      obtain ⟨o11, B⟩ := B
      obtain ⟨r12, hr12, B⟩ := B
      refine z_getR 19 rfl lX3_12 rfl o11 hr12 ?_
      obtain ⟨o35, B⟩ := B
      obtain ⟨Q13, K15, B⟩ := B
      refine z_cVV0 (ν := mX4_advance) 20 rfl rfl fX4_advance gX3_100 ⟨_, rfl, rfl⟩ (by decide) o35 (Nat.le_of_ble_eq_true rfl) K15 (fun h14 q => ?_)
      have B := B h14 q
      refine z_aload_n 21 rfl rfl ?_
      refine z_iconst (v := 1) 22 rfl (by decide) ?_
      refine z_bipush (v := 99) 23 rfl (by decide) ?_
      obtain ⟨o34, B⟩ := B
      obtain ⟨Q16, K18, B⟩ := B
      refine z_cVI2 (ν := mX3_readNumber) 24 rfl rfl fX3_readNumber gX3_86 ⟨_, rfl, rfl⟩ (by decide) o34 (Nat.le_of_ble_eq_true rfl) K18 (fun v19 h17 q => ?_)
      have B := B v19 h17 q
      refine z_istore_n 25 rfl (by decide) rfl ?_
      refine z_iload_n 26 rfl rfl ?_
      refine z_iconst (v := -1) 27 rfl (by decide) ?_
      refine z_icmp_ne 28 50 rfl (by decide) ⟨fun c20 => ?_, fun c20 => ?_⟩
      · have B := B.1 c20
        refine z_aload_n 31 rfl rfl ?_
        obtain ⟨o21, B⟩ := B
        obtain ⟨r22, hr22, B⟩ := B
        refine z_getR 32 rfl lX3_28 rfl o21 hr22 ?_
        obtain ⟨o23, B⟩ := B
        obtain ⟨r24, hr24, B⟩ := B
        refine z_getR 33 rfl lX3_116 rfl o23 hr24 ?_
        refine z_iload_n 34 rfl rfl ?_
        refine z_iload_n 35 rfl rfl ?_
        obtain ⟨o25, B⟩ := B
        obtain ⟨o26, B⟩ := B
        refine z_iast 36 rfl o25 o26 ?_
        refine z_aload_n 37 rfl rfl ?_
        refine z_getR 38 rfl lX3_28 rfl o21 hr22 ?_
        obtain ⟨r27, hr27, B⟩ := B
        refine z_getR 39 rfl lX3_119 rfl o23 hr27 ?_
        refine z_iload_n 40 rfl rfl ?_
        refine z_iload_n 41 rfl rfl ?_
        obtain ⟨o28, B⟩ := B
        obtain ⟨o29, B⟩ := B
        refine z_iast 42 rfl o28 o29 ?_
        refine z_aload_n 43 rfl rfl ?_
        obtain ⟨Q30, K32, B⟩ := B
        refine z_cVI0 (ν := mX3_readStop) 44 rfl rfl fX3_readStop gX3_93 ⟨_, rfl, rfl⟩ (by decide) o21 (Nat.le_of_ble_eq_true rfl) K32 (fun v33 h31 q => ?_)
        have B := B v33 h31 q
        exact z_iret 45 rfl rfl rfl ⟨rfl, rfl⟩ ⟨_, rfl, B⟩
      · have B := B.2 c20
        refine z_iconst (v := -1) 29 rfl (by decide) ?_
        exact z_iret 30 rfl rfl rfl ⟨rfl, rfl⟩ ⟨_, rfl, B⟩
    · have B := B.2 c10
      refine z_iconst (v := -1) 16 rfl (by decide) ?_
      exact z_iret 17 rfl rfl rfl ⟨rfl, rfl⟩ ⟨_, rfl, B⟩
  · have B := B.2 c5
    refine z_iconst (v := -1) 7 rfl (by decide) ?_
    refine z_goto 8 20 rfl (by decide) ?_
    refine z_istore_n 12 rfl (by decide) rfl ?_
    refine z_iload_n 13 rfl rfl ?_
    refine z_iconst (v := -1) 14 rfl (by decide) ?_
    refine z_icmp_ne 15 28 rfl (by decide) ⟨fun c37 => ?_, fun c37 => ?_⟩
    · have B := B.1 c37
      refine z_aload_n 18 rfl rfl ?_
      obtain ⟨o38, B⟩ := B
      obtain ⟨r39, hr39, B⟩ := B
      refine z_getR 19 rfl lX3_12 rfl o38 hr39 ?_
      obtain ⟨o62, B⟩ := B
      obtain ⟨Q40, K42, B⟩ := B
      refine z_cVV0 (ν := mX4_advance) 20 rfl rfl fX4_advance gX3_100 ⟨_, rfl, rfl⟩ (by decide) o62 (Nat.le_of_ble_eq_true rfl) K42 (fun h41 q => ?_)
      have B := B h41 q
      refine z_aload_n 21 rfl rfl ?_
      refine z_iconst (v := 1) 22 rfl (by decide) ?_
      refine z_bipush (v := 99) 23 rfl (by decide) ?_
      obtain ⟨o61, B⟩ := B
      obtain ⟨Q43, K45, B⟩ := B
      refine z_cVI2 (ν := mX3_readNumber) 24 rfl rfl fX3_readNumber gX3_86 ⟨_, rfl, rfl⟩ (by decide) o61 (Nat.le_of_ble_eq_true rfl) K45 (fun v46 h44 q => ?_)
      have B := B v46 h44 q
      refine z_istore_n 25 rfl (by decide) rfl ?_
      refine z_iload_n 26 rfl rfl ?_
      refine z_iconst (v := -1) 27 rfl (by decide) ?_
      refine z_icmp_ne 28 50 rfl (by decide) ⟨fun c47 => ?_, fun c47 => ?_⟩
      · have B := B.1 c47
        refine z_aload_n 31 rfl rfl ?_
        obtain ⟨o48, B⟩ := B
        obtain ⟨r49, hr49, B⟩ := B
        refine z_getR 32 rfl lX3_28 rfl o48 hr49 ?_
        obtain ⟨o50, B⟩ := B
        obtain ⟨r51, hr51, B⟩ := B
        refine z_getR 33 rfl lX3_116 rfl o50 hr51 ?_
        refine z_iload_n 34 rfl rfl ?_
        refine z_iload_n 35 rfl rfl ?_
        obtain ⟨o52, B⟩ := B
        obtain ⟨o53, B⟩ := B
        refine z_iast 36 rfl o52 o53 ?_
        refine z_aload_n 37 rfl rfl ?_
        refine z_getR 38 rfl lX3_28 rfl o48 hr49 ?_
        obtain ⟨r54, hr54, B⟩ := B
        refine z_getR 39 rfl lX3_119 rfl o50 hr54 ?_
        refine z_iload_n 40 rfl rfl ?_
        refine z_iload_n 41 rfl rfl ?_
        obtain ⟨o55, B⟩ := B
        obtain ⟨o56, B⟩ := B
        refine z_iast 42 rfl o55 o56 ?_
        refine z_aload_n 43 rfl rfl ?_
        obtain ⟨Q57, K59, B⟩ := B
        refine z_cVI0 (ν := mX3_readStop) 44 rfl rfl fX3_readStop gX3_93 ⟨_, rfl, rfl⟩ (by decide) o48 (Nat.le_of_ble_eq_true rfl) K59 (fun v60 h58 q => ?_)
        have B := B v60 h58 q
        exact z_iret 45 rfl rfl rfl ⟨rfl, rfl⟩ ⟨_, rfl, B⟩
      · have B := B.2 c47
        refine z_iconst (v := -1) 29 rfl (by decide) ?_
        exact z_iret 30 rfl rfl rfl ⟨rfl, rfl⟩ ⟨_, rfl, B⟩
    · have B := B.2 c37
      refine z_iconst (v := -1) 16 rfl (by decide) ?_
      exact z_iret 17 rfl rfl rfl ⟨rfl, rfl⟩ ⟨_, rfl, B⟩
theorem cn_X3_monkLine {G : zG} {d : Nat} {h : zMem} {Q : Int32 → zMem → Prop} {a0 : Nat} (B : zg G mX3_monkLine (d + 1) 0 [.ref a0, zU, zU, zU] [] h (zPI Q)) : zConI G mX3_monkLine (d + 1) [.ref a0] h Q := zcon0 (by decide +kernel) eX3_monkLine (Nat.le_of_ble_eq_true rfl) rfl B
set_option maxRecDepth 100000 in
set_option maxHeartbeats 4000000 in
theorem sg_X3_lingerLine_0 {G : zG} {d : Nat} {h : zMem} {Q : Int32 → zMem → Prop} {a0 : Nat} (B : zO h a0 3 ∧ ∃ r2, zR h a0 6 = some r2 ∧ zO h r2 6 ∧ ((zI h r2 11) = 0 → ∃ r5, zR h a0 0 = some r5 ∧ zO h r5 4 ∧ ∃ Q6 : zMem → Prop, zConV G mX4_advance d [.ref r5] h Q6 ∧ (∀ h7, Q6 h7 → zO h7 a0 3 ∧ ∃ r10, zR h7 a0 6 = some r10 ∧ zO h7 r10 6 ∧ ∃ Q12 : Int32 → zMem → Prop, zConI G mX3_readNumber d [.ref a0, .int (0 : Int32), .int (100 : Int32)] (zsI h7 r10 11 (1 : Int32)) Q12 ∧ (∀ v15 h13, Q12 v15 h13 → zO h13 r10 6 ∧ zO h13 a0 3 ∧ ∃ r18, zR h13 a0 6 = some r18 ∧ zO h13 r18 6 ∧ (¬ (zI (zsI h13 r10 10 v15) r18 10) = (-1 : Int32) → ∃ Q21 : Int32 → zMem → Prop, zConI G mX3_readStop d [.ref a0] (zsI h13 r10 10 v15) Q21 ∧ (∀ v24 h22, Q21 v24 h22 → Q v24 h22)) ∧ ((zI (zsI h13 r10 10 v15) r18 10) = (-1 : Int32) → Q (-1 : Int32) (zsI h13 r10 10 v15))))) ∧ (¬ (zI h r2 11) = 0 → ∃ Q26 : Int32 → zMem → Prop, zConI G mX3_wrong d [.ref a0, .int (3 : Int32)] h Q26 ∧ (∀ v29 h27, Q26 v29 h27 → Q v29 h27))) : zg G mX3_lingerLine (d + 1) 0 [.ref a0] [] h (zPI Q) := by
  refine z_aload_n 0 rfl rfl ?_
  obtain ⟨o1, B⟩ := B
  obtain ⟨r2, hr2, B⟩ := B
  refine z_getR 1 rfl lX3_28 rfl o1 hr2 ?_
  obtain ⟨o3, B⟩ := B
  refine z_getI 2 rfl lX3_122 rfl o3 ?_
  refine z_if_eq 3 16 rfl (by decide) ⟨fun c4 => ?_, fun c4 => ?_⟩
  · have B := B.1 c4
    refine z_aload_n 8 rfl rfl ?_
    obtain ⟨r5, hr5, B⟩ := B
    refine z_getR 9 rfl lX3_12 rfl o1 hr5 ?_
    obtain ⟨o25, B⟩ := B
    obtain ⟨Q6, K8, B⟩ := B
    refine z_cVV0 (ν := mX4_advance) 10 rfl rfl fX4_advance gX3_100 ⟨_, rfl, rfl⟩ (by decide) o25 (Nat.le_of_ble_eq_true rfl) K8 (fun h7 q => ?_)
    have B := B h7 q
    refine z_aload_n 11 rfl rfl ?_
    obtain ⟨o9, B⟩ := B
    obtain ⟨r10, hr10, B⟩ := B
    refine z_getR 12 rfl lX3_28 rfl o9 hr10 ?_
    refine z_iconst (v := 1) 13 rfl (by decide) ?_
    obtain ⟨o11, B⟩ := B
    refine z_putI 14 rfl lX3_122 ⟨_, _, _, rfl, rfl⟩ rfl rfl rfl o11 ?_
    refine z_aload_n 15 rfl rfl ?_
    refine z_getR 16 rfl lX3_28 rfl o9 hr10 ?_
    refine z_aload_n 17 rfl rfl ?_
    refine z_iconst (v := 0) 18 rfl (by decide) ?_
    refine z_bipush (v := 100) 19 rfl (by decide) ?_
    obtain ⟨Q12, K14, B⟩ := B
    refine z_cVI2 (ν := mX3_readNumber) 20 rfl rfl fX3_readNumber gX3_86 ⟨_, rfl, rfl⟩ (by decide) o9 (Nat.le_of_ble_eq_true rfl) K14 (fun v15 h13 q => ?_)
    have B := B v15 h13 q
    obtain ⟨o16, B⟩ := B
    refine z_putI 21 rfl lX3_126 ⟨_, _, _, rfl, rfl⟩ rfl rfl rfl o16 ?_
    refine z_aload_n 22 rfl rfl ?_
    obtain ⟨o17, B⟩ := B
    obtain ⟨r18, hr18, B⟩ := B
    refine z_getR 23 rfl lX3_28 rfl o17 hr18 ?_
    obtain ⟨o19, B⟩ := B
    refine z_getI 24 rfl lX3_126 rfl o19 ?_
    refine z_iconst (v := -1) 25 rfl (by decide) ?_
    refine z_icmp_ne 26 60 rfl (by decide) ⟨fun c20 => ?_, fun c20 => ?_⟩
    · have B := B.1 c20
      refine z_aload_n 29 rfl rfl ?_
      obtain ⟨Q21, K23, B⟩ := B
      refine z_cVI0 (ν := mX3_readStop) 30 rfl rfl fX3_readStop gX3_93 ⟨_, rfl, rfl⟩ (by decide) o17 (Nat.le_of_ble_eq_true rfl) K23 (fun v24 h22 q => ?_)
      have B := B v24 h22 q
      exact z_iret 31 rfl rfl rfl ⟨rfl, rfl⟩ ⟨_, rfl, B⟩
    · have B := B.2 c20
      refine z_iconst (v := -1) 27 rfl (by decide) ?_
      refine z_goto 28 64 rfl (by decide) ?_
      exact z_iret 31 rfl rfl rfl ⟨rfl, rfl⟩ ⟨_, rfl, B⟩
  · have B := B.2 c4
    refine z_aload_n 4 rfl rfl ?_
    refine z_iconst (v := 3) 5 rfl (by decide) ?_
    obtain ⟨Q26, K28, B⟩ := B
    refine z_cVI1 (ν := mX3_wrong) 6 rfl rfl fX3_wrong gX3_79 ⟨_, rfl, rfl⟩ (by decide) o1 (Nat.le_of_ble_eq_true rfl) K28 (fun v29 h27 q => ?_)
    have B := B v29 h27 q
    exact z_iret 7 rfl rfl rfl ⟨rfl, rfl⟩ ⟨_, rfl, B⟩
theorem cn_X3_lingerLine {G : zG} {d : Nat} {h : zMem} {Q : Int32 → zMem → Prop} {a0 : Nat} (B : zg G mX3_lingerLine (d + 1) 0 [.ref a0] [] h (zPI Q)) : zConI G mX3_lingerLine (d + 1) [.ref a0] h Q := zcon0 (by decide +kernel) eX3_lingerLine (Nat.le_of_ble_eq_true rfl) rfl B
set_option maxRecDepth 100000 in
set_option maxHeartbeats 4000000 in
theorem sg_X3_seedLine_0 {G : zG} {d : Nat} {h : zMem} {Q : Int32 → zMem → Prop} {a0 : Nat} (B : zO h a0 3 ∧ ∃ r2, zR h a0 6 = some r2 ∧ zO h r2 6 ∧ ((zI h r2 12) = 0 → ∃ r5, zR h a0 0 = some r5 ∧ zO h r5 4 ∧ ∃ Q6 : zMem → Prop, zConV G mX4_advance d [.ref r5] h Q6 ∧ (∀ h7, Q6 h7 → zO h7 a0 3 ∧ ∃ r10, zR h7 a0 6 = some r10 ∧ zO h7 r10 6 ∧ ∃ Q12 : Int32 → zMem → Prop, zConI G mX3_readNumber d [.ref a0, .int (0 : Int32), .int (99999 : Int32)] (zsI h7 r10 12 (1 : Int32)) Q12 ∧ (∀ v15 h13, Q12 v15 h13 → (¬ v15 = (-1 : Int32) → zO h13 a0 3 ∧ ∃ Q17 : Int32 → zMem → Prop, zConI G mX3_readStop d [.ref a0] h13 Q17 ∧ (∀ v20 h18, Q17 v20 h18 → Q v20 h18)) ∧ (v15 = (-1 : Int32) → Q (-1 : Int32) h13)))) ∧ (¬ (zI h r2 12) = 0 → ∃ Q23 : Int32 → zMem → Prop, zConI G mX3_wrong d [.ref a0, .int (3 : Int32)] h Q23 ∧ (∀ v26 h24, Q23 v26 h24 → Q v26 h24))) : zg G mX3_seedLine (d + 1) 0 [.ref a0] [] h (zPI Q) := by
  refine z_aload_n 0 rfl rfl ?_
  obtain ⟨o1, B⟩ := B
  obtain ⟨r2, hr2, B⟩ := B
  refine z_getR 1 rfl lX3_28 rfl o1 hr2 ?_
  obtain ⟨o3, B⟩ := B
  refine z_getI 2 rfl lX3_129 rfl o3 ?_
  refine z_if_eq 3 16 rfl (by decide) ⟨fun c4 => ?_, fun c4 => ?_⟩
  · have B := B.1 c4
    refine z_aload_n 8 rfl rfl ?_
    obtain ⟨r5, hr5, B⟩ := B
    refine z_getR 9 rfl lX3_12 rfl o1 hr5 ?_
    obtain ⟨o22, B⟩ := B
    obtain ⟨Q6, K8, B⟩ := B
    refine z_cVV0 (ν := mX4_advance) 10 rfl rfl fX4_advance gX3_100 ⟨_, rfl, rfl⟩ (by decide) o22 (Nat.le_of_ble_eq_true rfl) K8 (fun h7 q => ?_)
    have B := B h7 q
    refine z_aload_n 11 rfl rfl ?_
    obtain ⟨o9, B⟩ := B
    obtain ⟨r10, hr10, B⟩ := B
    refine z_getR 12 rfl lX3_28 rfl o9 hr10 ?_
    refine z_iconst (v := 1) 13 rfl (by decide) ?_
    obtain ⟨o11, B⟩ := B
    refine z_putI 14 rfl lX3_129 ⟨_, _, _, rfl, rfl⟩ rfl rfl rfl o11 ?_
    refine z_aload_n 15 rfl rfl ?_
    refine z_iconst (v := 0) 16 rfl (by decide) ?_
    refine z_ldc 17 rfl kX3_132 ?_
    obtain ⟨Q12, K14, B⟩ := B
    refine z_cVI2 (ν := mX3_readNumber) 18 rfl rfl fX3_readNumber gX3_86 ⟨_, rfl, rfl⟩ (by decide) o9 (Nat.le_of_ble_eq_true rfl) K14 (fun v15 h13 q => ?_)
    have B := B v15 h13 q
    refine z_iconst (v := -1) 19 rfl (by decide) ?_
    refine z_icmp_ne 20 46 rfl (by decide) ⟨fun c16 => ?_, fun c16 => ?_⟩
    · have B := B.1 c16
      refine z_aload_n 23 rfl rfl ?_
      obtain ⟨o21, B⟩ := B
      obtain ⟨Q17, K19, B⟩ := B
      refine z_cVI0 (ν := mX3_readStop) 24 rfl rfl fX3_readStop gX3_93 ⟨_, rfl, rfl⟩ (by decide) o21 (Nat.le_of_ble_eq_true rfl) K19 (fun v20 h18 q => ?_)
      have B := B v20 h18 q
      exact z_iret 25 rfl rfl rfl ⟨rfl, rfl⟩ ⟨_, rfl, B⟩
    · have B := B.2 c16
      refine z_iconst (v := -1) 21 rfl (by decide) ?_
      refine z_goto 22 50 rfl (by decide) ?_
      exact z_iret 25 rfl rfl rfl ⟨rfl, rfl⟩ ⟨_, rfl, B⟩
  · have B := B.2 c4
    refine z_aload_n 4 rfl rfl ?_
    refine z_iconst (v := 3) 5 rfl (by decide) ?_
    obtain ⟨Q23, K25, B⟩ := B
    refine z_cVI1 (ν := mX3_wrong) 6 rfl rfl fX3_wrong gX3_79 ⟨_, rfl, rfl⟩ (by decide) o1 (Nat.le_of_ble_eq_true rfl) K25 (fun v26 h24 q => ?_)
    have B := B v26 h24 q
    exact z_iret 7 rfl rfl rfl ⟨rfl, rfl⟩ ⟨_, rfl, B⟩
theorem cn_X3_seedLine {G : zG} {d : Nat} {h : zMem} {Q : Int32 → zMem → Prop} {a0 : Nat} (B : zg G mX3_seedLine (d + 1) 0 [.ref a0] [] h (zPI Q)) : zConI G mX3_seedLine (d + 1) [.ref a0] h Q := zcon0 (by decide +kernel) eX3_seedLine (Nat.le_of_ble_eq_true rfl) rfl B
set_option maxRecDepth 100000 in
set_option maxHeartbeats 4000000 in
theorem sg_X3_lawLine_0 {G : zG} {d : Nat} {h : zMem} {Q : Int32 → zMem → Prop} {a0 : Nat} (B : zO h a0 3 ∧ ∃ r2, zR h a0 0 = some r2 ∧ zO h r2 4 ∧ ∃ Q3 : zMem → Prop, zConV G mX4_advance d [.ref r2] h Q3 ∧ (∀ h4, Q3 h4 → zO h4 a0 3 ∧ ∃ r7, zR h4 a0 0 = some r7 ∧ zO h4 r7 4 ∧ ((zI h4 r7 4) < (9 : Int32) → ∃ Q10 : Int32 → zMem → Prop, zConI G mX3_wrong d [.ref a0, .int (1 : Int32)] h4 Q10 ∧ (∀ v13 h11, Q10 v13 h11 → Q v13 h11)) ∧ (¬ (zI h4 r7 4) < (9 : Int32) → ((zI h4 r7 4) ≤ (11 : Int32) → ∃ r15, zR h4 a0 6 = some r15 ∧ zO h4 r15 6 ∧ ∃ r17, zR h4 r15 8 = some r17 ∧ zO h4 r17 0 ∧ ∃ Q18 : Int32 → zMem → Prop, zConI G mX0_isTold d [.ref r17, .int ((zI h4 r7 4) - (9 : Int32))] h4 Q18 ∧ (∀ v21 h19, Q18 v21 h19 → (v21 = 0 → zO h19 a0 3 ∧ ∃ r24, zR h19 a0 0 = some r24 ∧ zO h19 r24 4 ∧ ∃ Q25 : zMem → Prop, zConV G mX4_advance d [.ref r24] h19 Q25 ∧ (∀ h26, Q25 h26 → zO h26 a0 3 ∧ ∃ r29, zR h26 a0 6 = some r29 ∧ zO h26 r29 6 ∧ ∃ r31, zR h26 r29 8 = some r31 ∧ zO h26 r31 0 ∧ ∃ Q32 : zMem → Prop, zConV G mX0_begin d [.ref r31, .int ((zI h4 r7 4) - (9 : Int32))] h26 Q32 ∧ (∀ h33, Q32 h33 → zO h33 a0 3 ∧ ∃ Q35 : Int32 → zMem → Prop, zConI G mX3_readFormula d [.ref a0] h33 Q35 ∧ (∀ v38 h36, Q35 v38 h36 → (¬ v38 = (-1 : Int32) → zO h36 a0 3 ∧ ∃ r41, zR h36 a0 6 = some r41 ∧ zO h36 r41 6 ∧ ∃ r43, zR h36 r41 8 = some r43 ∧ zO h36 r43 0 ∧ ∃ Q44 : zMem → Prop, zConV G mX0_end d [.ref r43, .int ((zI h4 r7 4) - (9 : Int32))] h36 Q44 ∧ (∀ h45, Q44 h45 → zO h45 a0 3 ∧ ∃ Q47 : Int32 → zMem → Prop, zConI G mX3_readStop d [.ref a0] h45 Q47 ∧ (∀ v50 h48, Q47 v50 h48 → Q v50 h48))) ∧ (v38 = (-1 : Int32) → Q (-1 : Int32) h36))))) ∧ (¬ v21 = 0 → zO h19 a0 3 ∧ ∃ Q56 : Int32 → zMem → Prop, zConI G mX3_wrong d [.ref a0, .int (3 : Int32)] h19 Q56 ∧ (∀ v59 h57, Q56 v59 h57 → Q v59 h57)))) ∧ (¬ (zI h4 r7 4) ≤ (11 : Int32) → ∃ Q62 : Int32 → zMem → Prop, zConI G mX3_wrong d [.ref a0, .int (1 : Int32)] h4 Q62 ∧ (∀ v65 h63, Q62 v65 h63 → Q v65 h63))))) : zg G mX3_lawLine (d + 1) 0 [.ref a0, zU] [] h (zPI Q) := by
  refine z_aload_n 0 rfl rfl ?_
  obtain ⟨o1, B⟩ := B
  obtain ⟨r2, hr2, B⟩ := B
  refine z_getR 1 rfl lX3_12 rfl o1 hr2 ?_
  obtain ⟨o66, B⟩ := B
  obtain ⟨Q3, K5, B⟩ := B
  refine z_cVV0 (ν := mX4_advance) 2 rfl rfl fX4_advance gX3_100 ⟨_, rfl, rfl⟩ (by decide) o66 (Nat.le_of_ble_eq_true rfl) K5 (fun h4 q => ?_)
  have B := B h4 q
  refine z_aload_n 3 rfl rfl ?_
  obtain ⟨o6, B⟩ := B
  obtain ⟨r7, hr7, B⟩ := B
  refine z_getR 4 rfl lX3_12 rfl o6 hr7 ?_
  obtain ⟨o8, B⟩ := B
  refine z_getI 5 rfl lX3_46 rfl o8 ?_
  refine z_bipush (v := 9) 6 rfl (by decide) ?_
  refine z_icmp_lt 7 31 rfl (by decide) ⟨fun c9 => ?_, fun c9 => ?_⟩
  · have B := B.1 c9
    refine z_aload_n 13 rfl rfl ?_
    refine z_iconst (v := 1) 14 rfl (by decide) ?_
    obtain ⟨Q10, K12, B⟩ := B
    refine z_cVI1 (ν := mX3_wrong) 15 rfl rfl fX3_wrong gX3_79 ⟨_, rfl, rfl⟩ (by decide) o6 (Nat.le_of_ble_eq_true rfl) K12 (fun v13 h11 q => ?_)
    have B := B v13 h11 q
    exact z_iret 16 rfl rfl rfl ⟨rfl, rfl⟩ ⟨_, rfl, B⟩
  · have B := B.2 c9
    refine z_aload_n 8 rfl rfl ?_
    refine z_getR 9 rfl lX3_12 rfl o6 hr7 ?_
    refine z_getI 10 rfl lX3_46 rfl o8 ?_
    refine z_bipush (v := 11) 11 rfl (by decide) ?_
    refine z_icmp_le 12 37 rfl (by decide) ⟨fun c14 => ?_, fun c14 => ?_⟩
    · have B := B.1 c14
      refine z_aload_n 17 rfl rfl ?_
      refine z_getR 18 rfl lX3_12 rfl o6 hr7 ?_
      refine z_getI 19 rfl lX3_46 rfl o8 ?_
      refine z_bipush (v := 9) 20 rfl (by decide) ?_
      refine z_isub 21 rfl ?_
      refine z_istore_n 22 rfl (by decide) rfl ?_
      refine z_aload_n 23 rfl rfl ?_
      obtain ⟨r15, hr15, B⟩ := B
      refine z_getR 24 rfl lX3_28 rfl o6 hr15 ?_
      obtain ⟨o16, B⟩ := B
      obtain ⟨r17, hr17, B⟩ := B
      refine z_getR 25 rfl lX3_133 rfl o16 hr17 ?_
      refine z_iload_n 26 rfl rfl ?_
      obtain ⟨o61, B⟩ := B
      obtain ⟨Q18, K20, B⟩ := B
      refine z_cVI1 (ν := mX0_isTold) 27 rfl rfl fX0_isTold gX3_137 ⟨_, rfl, rfl⟩ (by decide) o61 (Nat.le_of_ble_eq_true rfl) K20 (fun v21 h19 q => ?_)
      have B := B v21 h19 q
      refine z_if_eq 28 68 rfl (by decide) ⟨fun c22 => ?_, fun c22 => ?_⟩
      · have B := B.1 c22
        refine z_aload_n 33 rfl rfl ?_
        obtain ⟨o23, B⟩ := B
        obtain ⟨r24, hr24, B⟩ := B
        refine z_getR 34 rfl lX3_12 rfl o23 hr24 ?_
        obtain ⟨o55, B⟩ := B
        obtain ⟨Q25, K27, B⟩ := B
        refine z_cVV0 (ν := mX4_advance) 35 rfl rfl fX4_advance gX3_100 ⟨_, rfl, rfl⟩ (by decide) o55 (Nat.le_of_ble_eq_true rfl) K27 (fun h26 q => ?_)
        have B := B h26 q
        refine z_aload_n 36 rfl rfl ?_
        obtain ⟨o28, B⟩ := B
        obtain ⟨r29, hr29, B⟩ := B
        refine z_getR 37 rfl lX3_28 rfl o28 hr29 ?_
        obtain ⟨o30, B⟩ := B
        obtain ⟨r31, hr31, B⟩ := B
        refine z_getR 38 rfl lX3_133 rfl o30 hr31 ?_
        refine z_iload_n 39 rfl rfl ?_
        obtain ⟨o54, B⟩ := B
        obtain ⟨Q32, K34, B⟩ := B
        refine z_cVV1 (ν := mX0_begin) 40 rfl rfl fX0_begin gX3_143 ⟨_, rfl, rfl⟩ (by decide) o54 (Nat.le_of_ble_eq_true rfl) K34 (fun h33 q => ?_)
        have B := B h33 q
        refine z_aload_n 41 rfl rfl ?_
        obtain ⟨o53, B⟩ := B
        obtain ⟨Q35, K37, B⟩ := B
        refine z_cVI0 (ν := mX3_readFormula) 42 rfl rfl fX3_readFormula gX3_147 ⟨_, rfl, rfl⟩ (by decide) o53 (Nat.le_of_ble_eq_true rfl) K37 (fun v38 h36 q => ?_)
        have B := B v38 h36 q
        refine z_iconst (v := -1) 43 rfl (by decide) ?_
        refine z_icmp_ne 44 96 rfl (by decide) ⟨fun c39 => ?_, fun c39 => ?_⟩
        · have B := B.1 c39
          refine z_aload_n 47 rfl rfl ?_
          obtain ⟨o40, B⟩ := B
          obtain ⟨r41, hr41, B⟩ := B
          refine z_getR 48 rfl lX3_28 rfl o40 hr41 ?_
          obtain ⟨o42, B⟩ := B
          obtain ⟨r43, hr43, B⟩ := B
          refine z_getR 49 rfl lX3_133 rfl o42 hr43 ?_
          refine z_iload_n 50 rfl rfl ?_
          obtain ⟨o52, B⟩ := B
          obtain ⟨Q44, K46, B⟩ := B
          refine z_cVV1 (ν := mX0_end) 51 rfl rfl fX0_end gX3_150 ⟨_, rfl, rfl⟩ (by decide) o52 (Nat.le_of_ble_eq_true rfl) K46 (fun h45 q => ?_)
          have B := B h45 q
          refine z_aload_n 52 rfl rfl ?_
          obtain ⟨o51, B⟩ := B
          obtain ⟨Q47, K49, B⟩ := B
          refine z_cVI0 (ν := mX3_readStop) 53 rfl rfl fX3_readStop gX3_93 ⟨_, rfl, rfl⟩ (by decide) o51 (Nat.le_of_ble_eq_true rfl) K49 (fun v50 h48 q => ?_)
          have B := B v50 h48 q
          exact z_iret 54 rfl rfl rfl ⟨rfl, rfl⟩ ⟨_, rfl, B⟩
        · have B := B.2 c39
          refine z_iconst (v := -1) 45 rfl (by decide) ?_
          exact z_iret 46 rfl rfl rfl ⟨rfl, rfl⟩ ⟨_, rfl, B⟩
      · have B := B.2 c22
        refine z_aload_n 29 rfl rfl ?_
        refine z_iconst (v := 3) 30 rfl (by decide) ?_
        obtain ⟨o60, B⟩ := B
        obtain ⟨Q56, K58, B⟩ := B
        refine z_cVI1 (ν := mX3_wrong) 31 rfl rfl fX3_wrong gX3_79 ⟨_, rfl, rfl⟩ (by decide) o60 (Nat.le_of_ble_eq_true rfl) K58 (fun v59 h57 q => ?_)
        have B := B v59 h57 q
        exact z_iret 32 rfl rfl rfl ⟨rfl, rfl⟩ ⟨_, rfl, B⟩
    · have B := B.2 c14
      refine z_aload_n 13 rfl rfl ?_
      refine z_iconst (v := 1) 14 rfl (by decide) ?_
      obtain ⟨Q62, K64, B⟩ := B
      refine z_cVI1 (ν := mX3_wrong) 15 rfl rfl fX3_wrong gX3_79 ⟨_, rfl, rfl⟩ (by decide) o6 (Nat.le_of_ble_eq_true rfl) K64 (fun v65 h63 q => ?_)
      have B := B v65 h63 q
      exact z_iret 16 rfl rfl rfl ⟨rfl, rfl⟩ ⟨_, rfl, B⟩
theorem cn_X3_lawLine {G : zG} {d : Nat} {h : zMem} {Q : Int32 → zMem → Prop} {a0 : Nat} (B : zg G mX3_lawLine (d + 1) 0 [.ref a0, zU] [] h (zPI Q)) : zConI G mX3_lawLine (d + 1) [.ref a0] h Q := zcon0 (by decide +kernel) eX3_lawLine (Nat.le_of_ble_eq_true rfl) rfl B
set_option maxRecDepth 100000 in
set_option maxHeartbeats 4000000 in
theorem sg_X3_toldName_0 {G : zG} {d : Nat} {h : zMem} {Q : Int32 → zMem → Prop} {a0 : Nat} {x1 : Int32} (B : zO h a0 3 ∧ ∃ r2, zR h a0 0 = some r2 ∧ zO h r2 4 ∧ ((zI h r2 4) = (35 : Int32) → ∃ r5, zR h a0 6 = some r5 ∧ zO h r5 6 ∧ ∃ Q6 : Int32 → zMem → Prop, zConI G mX7_numberOf d [.ref r5, .int x1, .int (zI h r2 6)] h Q6 ∧ (∀ v9 h7, Q6 v9 h7 → (¬ v9 = (-1 : Int32) → Q v9 h7) ∧ (v9 = (-1 : Int32) → zO h7 a0 3 ∧ ∃ Q11 : Int32 → zMem → Prop, zConI G mX3_wrong d [.ref a0, .int (4 : Int32)] h7 Q11 ∧ (∀ v14 h12, Q11 v14 h12 → Q v14 h12)))) ∧ (¬ (zI h r2 4) = (35 : Int32) → ∃ Q17 : Int32 → zMem → Prop, zConI G mX3_wrong d [.ref a0, .int (1 : Int32)] h Q17 ∧ (∀ v20 h18, Q17 v20 h18 → Q v20 h18))) : zg G mX3_toldName (d + 1) 0 [.ref a0, .int x1, zU] [] h (zPI Q) := by
  refine z_aload_n 0 rfl rfl ?_
  obtain ⟨o1, B⟩ := B
  obtain ⟨r2, hr2, B⟩ := B
  refine z_getR 1 rfl lX3_12 rfl o1 hr2 ?_
  obtain ⟨o3, B⟩ := B
  refine z_getI 2 rfl lX3_46 rfl o3 ?_
  refine z_bipush (v := 35) 3 rfl (by decide) ?_
  refine z_icmp_eq 4 18 rfl (by decide) ⟨fun c4 => ?_, fun c4 => ?_⟩
  · have B := B.1 c4
    refine z_aload_n 9 rfl rfl ?_
    obtain ⟨r5, hr5, B⟩ := B
    refine z_getR 10 rfl lX3_28 rfl o1 hr5 ?_
    refine z_iload_n 11 rfl rfl ?_
    refine z_aload_n 12 rfl rfl ?_
    refine z_getR 13 rfl lX3_12 rfl o1 hr2 ?_
    refine z_getI 14 rfl lX3_159 rfl o3 ?_
    obtain ⟨o16, B⟩ := B
    obtain ⟨Q6, K8, B⟩ := B
    refine z_cVI2 (ν := mX7_numberOf) 15 rfl rfl fX7_numberOf gX3_162 ⟨_, rfl, rfl⟩ (by decide) o16 (Nat.le_of_ble_eq_true rfl) K8 (fun v9 h7 q => ?_)
    have B := B v9 h7 q
    refine z_istore_n 16 rfl (by decide) rfl ?_
    refine z_iload_n 17 rfl rfl ?_
    refine z_iconst (v := -1) 18 rfl (by decide) ?_
    refine z_icmp_ne 19 47 rfl (by decide) ⟨fun c10 => ?_, fun c10 => ?_⟩
    · have B := B.1 c10
      refine z_iload_n 24 rfl rfl ?_
      exact z_iret 25 rfl rfl rfl ⟨rfl, rfl⟩ ⟨_, rfl, B⟩
    · have B := B.2 c10
      refine z_aload_n 20 rfl rfl ?_
      refine z_iconst (v := 4) 21 rfl (by decide) ?_
      obtain ⟨o15, B⟩ := B
      obtain ⟨Q11, K13, B⟩ := B
      refine z_cVI1 (ν := mX3_wrong) 22 rfl rfl fX3_wrong gX3_79 ⟨_, rfl, rfl⟩ (by decide) o15 (Nat.le_of_ble_eq_true rfl) K13 (fun v14 h12 q => ?_)
      have B := B v14 h12 q
      refine z_goto 23 48 rfl (by decide) ?_
      exact z_iret 25 rfl rfl rfl ⟨rfl, rfl⟩ ⟨_, rfl, B⟩
  · have B := B.2 c4
    refine z_aload_n 5 rfl rfl ?_
    refine z_iconst (v := 1) 6 rfl (by decide) ?_
    obtain ⟨Q17, K19, B⟩ := B
    refine z_cVI1 (ν := mX3_wrong) 7 rfl rfl fX3_wrong gX3_79 ⟨_, rfl, rfl⟩ (by decide) o1 (Nat.le_of_ble_eq_true rfl) K19 (fun v20 h18 q => ?_)
    have B := B v20 h18 q
    exact z_iret 8 rfl rfl rfl ⟨rfl, rfl⟩ ⟨_, rfl, B⟩
theorem cn_X3_toldName {G : zG} {d : Nat} {h : zMem} {Q : Int32 → zMem → Prop} {a0 : Nat} {x1 : Int32} (B : zg G mX3_toldName (d + 1) 0 [.ref a0, .int x1, zU] [] h (zPI Q)) : zConI G mX3_toldName (d + 1) [.ref a0, .int x1] h Q := zcon0 (by decide +kernel) eX3_toldName (Nat.le_of_ble_eq_true rfl) rfl B
set_option maxRecDepth 100000 in
set_option maxHeartbeats 4000000 in
theorem sg_X3_readNumber_0 {G : zG} {d : Nat} {h : zMem} {Q : Int32 → zMem → Prop} {a0 : Nat} {x1 : Int32} {x2 : Int32} (B : zO h a0 3 ∧ ∃ r2, zR h a0 0 = some r2 ∧ zO h r2 4 ∧ ((zI h r2 4) = (36 : Int32) → ((zI h r2 7) < x1 → ∃ Q6 : Int32 → zMem → Prop, zConI G mX3_wrong d [.ref a0, .int (2 : Int32)] h Q6 ∧ (∀ v9 h7, Q6 v9 h7 → Q v9 h7)) ∧ (¬ (zI h r2 7) < x1 → ((zI h r2 7) ≤ x2 → ∃ Q11 : zMem → Prop, zConV G mX4_advance d [.ref r2] h Q11 ∧ (∀ h12, Q11 h12 → Q (zI h r2 7) h12)) ∧ (¬ (zI h r2 7) ≤ x2 → ∃ Q14 : Int32 → zMem → Prop, zConI G mX3_wrong d [.ref a0, .int (2 : Int32)] h Q14 ∧ (∀ v17 h15, Q14 v17 h15 → Q v17 h15)))) ∧ (¬ (zI h r2 4) = (36 : Int32) → ∃ Q18 : Int32 → zMem → Prop, zConI G mX3_wrong d [.ref a0, .int (1 : Int32)] h Q18 ∧ (∀ v21 h19, Q18 v21 h19 → Q v21 h19))) : zg G mX3_readNumber (d + 1) 0 [.ref a0, .int x1, .int x2, zU] [] h (zPI Q) := by
  refine z_aload_n 0 rfl rfl ?_
  obtain ⟨o1, B⟩ := B
  obtain ⟨r2, hr2, B⟩ := B
  refine z_getR 1 rfl lX3_12 rfl o1 hr2 ?_
  obtain ⟨o3, B⟩ := B
  refine z_getI 2 rfl lX3_46 rfl o3 ?_
  refine z_bipush (v := 36) 3 rfl (by decide) ?_
  refine z_icmp_eq 4 18 rfl (by decide) ⟨fun c4 => ?_, fun c4 => ?_⟩
  · have B := B.1 c4
    refine z_aload_n 9 rfl rfl ?_
    refine z_getR 10 rfl lX3_12 rfl o1 hr2 ?_
    refine z_getI 11 rfl lX3_168 rfl o3 ?_
    refine z_istore_n 12 rfl (by decide) rfl ?_
    refine z_iload_n 13 rfl rfl ?_
    refine z_iload_n 14 rfl rfl ?_
    refine z_icmp_lt 15 36 rfl (by decide) ⟨fun c5 => ?_, fun c5 => ?_⟩
    · have B := B.1 c5
      refine z_aload_n 19 rfl rfl ?_
      refine z_iconst (v := 2) 20 rfl (by decide) ?_
      obtain ⟨Q6, K8, B⟩ := B
      refine z_cVI1 (ν := mX3_wrong) 21 rfl rfl fX3_wrong gX3_79 ⟨_, rfl, rfl⟩ (by decide) o1 (Nat.le_of_ble_eq_true rfl) K8 (fun v9 h7 q => ?_)
      have B := B v9 h7 q
      exact z_iret 22 rfl rfl rfl ⟨rfl, rfl⟩ ⟨_, rfl, B⟩
    · have B := B.2 c5
      refine z_iload_n 16 rfl rfl ?_
      refine z_iload_n 17 rfl rfl ?_
      refine z_icmp_le 18 42 rfl (by decide) ⟨fun c10 => ?_, fun c10 => ?_⟩
      · have B := B.1 c10
        refine z_aload_n 23 rfl rfl ?_
        refine z_getR 24 rfl lX3_12 rfl o1 hr2 ?_
        obtain ⟨Q11, K13, B⟩ := B
        refine z_cVV0 (ν := mX4_advance) 25 rfl rfl fX4_advance gX3_100 ⟨_, rfl, rfl⟩ (by decide) o3 (Nat.le_of_ble_eq_true rfl) K13 (fun h12 q => ?_)
        have B := B h12 q
        refine z_iload_n 26 rfl rfl ?_
        exact z_iret 27 rfl rfl rfl ⟨rfl, rfl⟩ ⟨_, rfl, B⟩
      · have B := B.2 c10
        refine z_aload_n 19 rfl rfl ?_
        refine z_iconst (v := 2) 20 rfl (by decide) ?_
        obtain ⟨Q14, K16, B⟩ := B
        refine z_cVI1 (ν := mX3_wrong) 21 rfl rfl fX3_wrong gX3_79 ⟨_, rfl, rfl⟩ (by decide) o1 (Nat.le_of_ble_eq_true rfl) K16 (fun v17 h15 q => ?_)
        have B := B v17 h15 q
        exact z_iret 22 rfl rfl rfl ⟨rfl, rfl⟩ ⟨_, rfl, B⟩
  · have B := B.2 c4
    refine z_aload_n 5 rfl rfl ?_
    refine z_iconst (v := 1) 6 rfl (by decide) ?_
    obtain ⟨Q18, K20, B⟩ := B
    refine z_cVI1 (ν := mX3_wrong) 7 rfl rfl fX3_wrong gX3_79 ⟨_, rfl, rfl⟩ (by decide) o1 (Nat.le_of_ble_eq_true rfl) K20 (fun v21 h19 q => ?_)
    have B := B v21 h19 q
    exact z_iret 8 rfl rfl rfl ⟨rfl, rfl⟩ ⟨_, rfl, B⟩
theorem cn_X3_readNumber {G : zG} {d : Nat} {h : zMem} {Q : Int32 → zMem → Prop} {a0 : Nat} {x1 : Int32} {x2 : Int32} (B : zg G mX3_readNumber (d + 1) 0 [.ref a0, .int x1, .int x2, zU] [] h (zPI Q)) : zConI G mX3_readNumber (d + 1) [.ref a0, .int x1, .int x2] h Q := zcon0 (by decide +kernel) eX3_readNumber (Nat.le_of_ble_eq_true rfl) rfl B
set_option maxRecDepth 100000 in
set_option maxHeartbeats 4000000 in
theorem sg_X3_readStop_0 {G : zG} {d : Nat} {h : zMem} {Q : Int32 → zMem → Prop} {a0 : Nat} (B : zO h a0 3 ∧ ∃ r2, zR h a0 0 = some r2 ∧ zO h r2 4 ∧ ((zI h r2 4) = (34 : Int32) → ∃ Q5 : zMem → Prop, zConV G mX4_advance d [.ref r2] h Q5 ∧ (∀ h6, Q5 h6 → Q (0 : Int32) h6)) ∧ (¬ (zI h r2 4) = (34 : Int32) → ∃ Q8 : Int32 → zMem → Prop, zConI G mX3_wrong d [.ref a0, .int (1 : Int32)] h Q8 ∧ (∀ v11 h9, Q8 v11 h9 → Q v11 h9))) : zg G mX3_readStop (d + 1) 0 [.ref a0] [] h (zPI Q) := by
  refine z_aload_n 0 rfl rfl ?_
  obtain ⟨o1, B⟩ := B
  obtain ⟨r2, hr2, B⟩ := B
  refine z_getR 1 rfl lX3_12 rfl o1 hr2 ?_
  obtain ⟨o3, B⟩ := B
  refine z_getI 2 rfl lX3_46 rfl o3 ?_
  refine z_bipush (v := 34) 3 rfl (by decide) ?_
  refine z_icmp_eq 4 18 rfl (by decide) ⟨fun c4 => ?_, fun c4 => ?_⟩
  · have B := B.1 c4
    refine z_aload_n 9 rfl rfl ?_
    refine z_getR 10 rfl lX3_12 rfl o1 hr2 ?_
    obtain ⟨Q5, K7, B⟩ := B
    refine z_cVV0 (ν := mX4_advance) 11 rfl rfl fX4_advance gX3_100 ⟨_, rfl, rfl⟩ (by decide) o3 (Nat.le_of_ble_eq_true rfl) K7 (fun h6 q => ?_)
    have B := B h6 q
    refine z_iconst (v := 0) 12 rfl (by decide) ?_
    exact z_iret 13 rfl rfl rfl ⟨rfl, rfl⟩ ⟨_, rfl, B⟩
  · have B := B.2 c4
    refine z_aload_n 5 rfl rfl ?_
    refine z_iconst (v := 1) 6 rfl (by decide) ?_
    obtain ⟨Q8, K10, B⟩ := B
    refine z_cVI1 (ν := mX3_wrong) 7 rfl rfl fX3_wrong gX3_79 ⟨_, rfl, rfl⟩ (by decide) o1 (Nat.le_of_ble_eq_true rfl) K10 (fun v11 h9 q => ?_)
    have B := B v11 h9 q
    exact z_iret 8 rfl rfl rfl ⟨rfl, rfl⟩ ⟨_, rfl, B⟩
theorem cn_X3_readStop {G : zG} {d : Nat} {h : zMem} {Q : Int32 → zMem → Prop} {a0 : Nat} (B : zg G mX3_readStop (d + 1) 0 [.ref a0] [] h (zPI Q)) : zConI G mX3_readStop (d + 1) [.ref a0] h Q := zcon0 (by decide +kernel) eX3_readStop (Nat.le_of_ble_eq_true rfl) rfl B
set_option maxRecDepth 100000 in
set_option maxHeartbeats 4000000 in
theorem sg_X3_readFormula_0 {G : zG} {d : Nat} {h : zMem} {Q : Int32 → zMem → Prop} {a0 : Nat} (B : zO h a0 3 ∧ zg G mX3_readFormula (d + 1) 17 [.ref a0, .int (0 : Int32), zU] [] (zsI (zsI (zsI h a0 3 (0 : Int32)) a0 4 (0 : Int32)) a0 5 (1 : Int32)) (zPI Q)) : zg G mX3_readFormula (d + 1) 0 [.ref a0, zU, zU] [] h (zPI Q) := by
  refine z_aload_n 0 rfl rfl ?_
  refine z_iconst (v := 0) 1 rfl (by decide) ?_
  obtain ⟨o1, B⟩ := B
  refine z_putI 2 rfl lX3_171 ⟨_, _, _, rfl, rfl⟩ rfl rfl rfl o1 ?_
  refine z_aload_n 3 rfl rfl ?_
  refine z_iconst (v := 0) 4 rfl (by decide) ?_
  refine z_putI 5 rfl lX3_174 ⟨_, _, _, rfl, rfl⟩ rfl rfl rfl o1 ?_
  refine z_aload_n 6 rfl rfl ?_
  refine z_iconst (v := 1) 7 rfl (by decide) ?_
  refine z_putI 8 rfl lX3_177 ⟨_, _, _, rfl, rfl⟩ rfl rfl rfl o1 ?_
  refine z_iconst (v := 0) 9 rfl (by decide) ?_
  refine z_istore_n 10 rfl (by decide) rfl ?_
  exact B
theorem cn_X3_readFormula {G : zG} {d : Nat} {h : zMem} {Q : Int32 → zMem → Prop} {a0 : Nat} (B : zg G mX3_readFormula (d + 1) 0 [.ref a0, zU, zU] [] h (zPI Q)) : zConI G mX3_readFormula (d + 1) [.ref a0] h Q := zcon0 (by decide +kernel) eX3_readFormula (Nat.le_of_ble_eq_true rfl) rfl B
set_option maxRecDepth 100000 in
set_option maxHeartbeats 4000000 in
theorem sg_X3_readFormula_17 {G : zG} {d : Nat} {h : zMem} {Q : Int32 → zMem → Prop} {a0 : Nat} {x1 : Int32} (B : ((700 : Int32) ≤ x1 → zO h a0 3 ∧ ∃ Q2 : Int32 → zMem → Prop, zConI G mX3_wrong d [.ref a0, .int (1 : Int32)] h Q2 ∧ (∀ v5 h3, Q2 v5 h3 → Q v5 h3)) ∧ (¬ (700 : Int32) ≤ x1 → zO h a0 3 ∧ (¬ (zI h a0 5) = 0 → ((zI h a0 5) = 0 → ∃ Q10 : Int32 → zMem → Prop, zConI G mX3_readSign d [.ref a0] h Q10 ∧ (∀ v13 h11, Q10 v13 h11 → (¬ v13 = (-1 : Int32) → zO h11 a0 3 ∧ ∃ r16, zR h11 a0 0 = some r16 ∧ zO h11 r16 4 ∧ ∃ Q17 : zMem → Prop, zConV G mX4_advance d [.ref r16] h11 Q17 ∧ (∀ h18, Q17 h18 → zg G mX3_readFormula (d + 1) 17 [.ref a0, .int (x1 + 1), zU] [] h18 (zPI Q))) ∧ (v13 = (-1 : Int32) → Q (-1 : Int32) h11))) ∧ (¬ (zI h a0 5) = 0 → ∃ Q21 : Int32 → zMem → Prop, zConI G mX3_readValue d [.ref a0] h Q21 ∧ (∀ v24 h22, Q21 v24 h22 → (¬ v24 = (-1 : Int32) → zO h22 a0 3 ∧ ∃ r27, zR h22 a0 0 = some r27 ∧ zO h22 r27 4 ∧ ∃ Q28 : zMem → Prop, zConV G mX4_advance d [.ref r27] h22 Q28 ∧ (∀ h29, Q28 h29 → zg G mX3_readFormula (d + 1) 17 [.ref a0, .int (x1 + 1), zU] [] h29 (zPI Q))) ∧ (v24 = (-1 : Int32) → Q (-1 : Int32) h22)))) ∧ ((zI h a0 5) = 0 → (¬ (zI h a0 4) = 0 → ((zI h a0 5) = 0 → ∃ Q34 : Int32 → zMem → Prop, zConI G mX3_readSign d [.ref a0] h Q34 ∧ (∀ v37 h35, Q34 v37 h35 → (¬ v37 = (-1 : Int32) → zO h35 a0 3 ∧ ∃ r40, zR h35 a0 0 = some r40 ∧ zO h35 r40 4 ∧ ∃ Q41 : zMem → Prop, zConV G mX4_advance d [.ref r40] h35 Q41 ∧ (∀ h42, Q41 h42 → zg G mX3_readFormula (d + 1) 17 [.ref a0, .int (x1 + 1), zU] [] h42 (zPI Q))) ∧ (v37 = (-1 : Int32) → Q (-1 : Int32) h35))) ∧ (¬ (zI h a0 5) = 0 → ∃ Q45 : Int32 → zMem → Prop, zConI G mX3_readValue d [.ref a0] h Q45 ∧ (∀ v48 h46, Q45 v48 h46 → (¬ v48 = (-1 : Int32) → zO h46 a0 3 ∧ ∃ r51, zR h46 a0 0 = some r51 ∧ zO h46 r51 4 ∧ ∃ Q52 : zMem → Prop, zConV G mX4_advance d [.ref r51] h46 Q52 ∧ (∀ h53, Q52 h53 → zg G mX3_readFormula (d + 1) 17 [.ref a0, .int (x1 + 1), zU] [] h53 (zPI Q))) ∧ (v48 = (-1 : Int32) → Q (-1 : Int32) h46)))) ∧ ((zI h a0 4) = 0 → ∃ r56, zR h a0 0 = some r56 ∧ zO h r56 4 ∧ (¬ (zI h r56 4) = (34 : Int32) → ((zI h a0 5) = 0 → ∃ Q60 : Int32 → zMem → Prop, zConI G mX3_readSign d [.ref a0] h Q60 ∧ (∀ v63 h61, Q60 v63 h61 → (¬ v63 = (-1 : Int32) → zO h61 a0 3 ∧ ∃ r66, zR h61 a0 0 = some r66 ∧ zO h61 r66 4 ∧ ∃ Q67 : zMem → Prop, zConV G mX4_advance d [.ref r66] h61 Q67 ∧ (∀ h68, Q67 h68 → zg G mX3_readFormula (d + 1) 17 [.ref a0, .int (x1 + 1), zU] [] h68 (zPI Q))) ∧ (v63 = (-1 : Int32) → Q (-1 : Int32) h61))) ∧ (¬ (zI h a0 5) = 0 → ∃ Q71 : Int32 → zMem → Prop, zConI G mX3_readValue d [.ref a0] h Q71 ∧ (∀ v74 h72, Q71 v74 h72 → (¬ v74 = (-1 : Int32) → zO h72 a0 3 ∧ ∃ r77, zR h72 a0 0 = some r77 ∧ zO h72 r77 4 ∧ ∃ Q78 : zMem → Prop, zConV G mX4_advance d [.ref r77] h72 Q78 ∧ (∀ h79, Q78 h79 → zg G mX3_readFormula (d + 1) 17 [.ref a0, .int (x1 + 1), zU] [] h79 (zPI Q))) ∧ (v74 = (-1 : Int32) → Q (-1 : Int32) h72)))) ∧ ((zI h r56 4) = (34 : Int32) → ∃ Q82 : zMem → Prop, zConV G mX3_settle d [.ref a0, .int (1 : Int32)] h Q82 ∧ (∀ h83, Q82 h83 → Q (0 : Int32) h83)))))) : zg G mX3_readFormula (d + 1) 17 [.ref a0, .int x1, zU] [] h (zPI Q) := by
  refine z_iload_n 11 rfl rfl ?_
  refine z_sipush (v := 700) 12 rfl (by decide) ?_
  refine z_icmp_ge 13 96 rfl (by decide) ⟨fun c1 => ?_, fun c1 => ?_⟩
  · have B := B.1 c1
    refine z_aload_n 49 rfl rfl ?_
    refine z_iconst (v := 1) 50 rfl (by decide) ?_
    obtain ⟨o6, B⟩ := B
    obtain ⟨Q2, K4, B⟩ := B
    refine z_cVI1 (ν := mX3_wrong) 51 rfl rfl fX3_wrong gX3_79 ⟨_, rfl, rfl⟩ (by decide) o6 (Nat.le_of_ble_eq_true rfl) K4 (fun v5 h3 q => ?_)
    have B := B v5 h3 q
    exact z_iret 52 rfl rfl rfl ⟨rfl, rfl⟩ ⟨_, rfl, B⟩
  · have B := B.2 c1
    refine z_aload_n 14 rfl rfl ?_
    obtain ⟨o7, B⟩ := B
    refine z_getI 15 rfl lX3_177 rfl o7 ?_
    refine z_if_ne 16 57 rfl (by decide) ⟨fun c8 => ?_, fun c8 => ?_⟩
    · have B := B.1 c8
      refine z_aload_n 30 rfl rfl ?_
      refine z_getI 31 rfl lX3_177 rfl o7 ?_
      refine z_if_eq 32 71 rfl (by decide) ⟨fun c9 => ?_, fun c9 => ?_⟩
      · have B := B.1 c9
        refine z_aload_n 36 rfl rfl ?_
        obtain ⟨Q10, K12, B⟩ := B
        refine z_cVI0 (ν := mX3_readSign) 37 rfl rfl fX3_readSign gX3_186 ⟨_, rfl, rfl⟩ (by decide) o7 (Nat.le_of_ble_eq_true rfl) K12 (fun v13 h11 q => ?_)
        have B := B v13 h11 q
        refine z_istore_n 38 rfl (by decide) rfl ?_
        refine z_iload_n 39 rfl rfl ?_
        refine z_iconst (v := -1) 40 rfl (by decide) ?_
        refine z_icmp_ne 41 83 rfl (by decide) ⟨fun c14 => ?_, fun c14 => ?_⟩
        · have B := B.1 c14
          refine z_aload_n 44 rfl rfl ?_
          obtain ⟨o15, B⟩ := B
          obtain ⟨r16, hr16, B⟩ := B
          refine z_getR 45 rfl lX3_12 rfl o15 hr16 ?_
          obtain ⟨o20, B⟩ := B
          obtain ⟨Q17, K19, B⟩ := B
          refine z_cVV0 (ν := mX4_advance) 46 rfl rfl fX4_advance gX3_100 ⟨_, rfl, rfl⟩ (by decide) o20 (Nat.le_of_ble_eq_true rfl) K19 (fun h18 q => ?_)
          have B := B h18 q
          refine z_iinc (v := 1) 47 rfl rfl (by decide) (by decide) rfl ?_
          refine z_goto 48 17 rfl (by decide) ?_
          refine z_drop 2 ?_
          exact B
        · have B := B.2 c14
          refine z_iconst (v := -1) 42 rfl (by decide) ?_
          exact z_iret 43 rfl rfl rfl ⟨rfl, rfl⟩ ⟨_, rfl, B⟩
      · have B := B.2 c9
        refine z_aload_n 33 rfl rfl ?_
        obtain ⟨Q21, K23, B⟩ := B
        refine z_cVI0 (ν := mX3_readValue) 34 rfl rfl fX3_readValue gX3_183 ⟨_, rfl, rfl⟩ (by decide) o7 (Nat.le_of_ble_eq_true rfl) K23 (fun v24 h22 q => ?_)
        have B := B v24 h22 q
        refine z_goto 35 75 rfl (by decide) ?_
        refine z_istore_n 38 rfl (by decide) rfl ?_
        refine z_iload_n 39 rfl rfl ?_
        refine z_iconst (v := -1) 40 rfl (by decide) ?_
        refine z_icmp_ne 41 83 rfl (by decide) ⟨fun c25 => ?_, fun c25 => ?_⟩
        · have B := B.1 c25
          refine z_aload_n 44 rfl rfl ?_
          obtain ⟨o26, B⟩ := B
          obtain ⟨r27, hr27, B⟩ := B
          refine z_getR 45 rfl lX3_12 rfl o26 hr27 ?_
          obtain ⟨o31, B⟩ := B
          obtain ⟨Q28, K30, B⟩ := B
          refine z_cVV0 (ν := mX4_advance) 46 rfl rfl fX4_advance gX3_100 ⟨_, rfl, rfl⟩ (by decide) o31 (Nat.le_of_ble_eq_true rfl) K30 (fun h29 q => ?_)
          have B := B h29 q
          refine z_iinc (v := 1) 47 rfl rfl (by decide) (by decide) rfl ?_
          refine z_goto 48 17 rfl (by decide) ?_
          refine z_drop 2 ?_
          exact B
        · have B := B.2 c25
          refine z_iconst (v := -1) 42 rfl (by decide) ?_
          exact z_iret 43 rfl rfl rfl ⟨rfl, rfl⟩ ⟨_, rfl, B⟩
    · have B := B.2 c8
      refine z_aload_n 17 rfl rfl ?_
      refine z_getI 18 rfl lX3_174 rfl o7 ?_
      refine z_if_ne 19 57 rfl (by decide) ⟨fun c32 => ?_, fun c32 => ?_⟩
      · have B := B.1 c32
        refine z_aload_n 30 rfl rfl ?_
        refine z_getI 31 rfl lX3_177 rfl o7 ?_
        refine z_if_eq 32 71 rfl (by decide) ⟨fun c33 => ?_, fun c33 => ?_⟩
        · have B := B.1 c33
          refine z_aload_n 36 rfl rfl ?_
          obtain ⟨Q34, K36, B⟩ := B
          refine z_cVI0 (ν := mX3_readSign) 37 rfl rfl fX3_readSign gX3_186 ⟨_, rfl, rfl⟩ (by decide) o7 (Nat.le_of_ble_eq_true rfl) K36 (fun v37 h35 q => ?_)
          have B := B v37 h35 q
          refine z_istore_n 38 rfl (by decide) rfl ?_
          refine z_iload_n 39 rfl rfl ?_
          refine z_iconst (v := -1) 40 rfl (by decide) ?_
          refine z_icmp_ne 41 83 rfl (by decide) ⟨fun c38 => ?_, fun c38 => ?_⟩
          · have B := B.1 c38
            refine z_aload_n 44 rfl rfl ?_
            obtain ⟨o39, B⟩ := B
            obtain ⟨r40, hr40, B⟩ := B
            refine z_getR 45 rfl lX3_12 rfl o39 hr40 ?_
            obtain ⟨o44, B⟩ := B
            obtain ⟨Q41, K43, B⟩ := B
            refine z_cVV0 (ν := mX4_advance) 46 rfl rfl fX4_advance gX3_100 ⟨_, rfl, rfl⟩ (by decide) o44 (Nat.le_of_ble_eq_true rfl) K43 (fun h42 q => ?_)
            have B := B h42 q
            refine z_iinc (v := 1) 47 rfl rfl (by decide) (by decide) rfl ?_
            refine z_goto 48 17 rfl (by decide) ?_
            refine z_drop 2 ?_
            exact B
          · have B := B.2 c38
            refine z_iconst (v := -1) 42 rfl (by decide) ?_
            exact z_iret 43 rfl rfl rfl ⟨rfl, rfl⟩ ⟨_, rfl, B⟩
        · have B := B.2 c33
          refine z_aload_n 33 rfl rfl ?_
          obtain ⟨Q45, K47, B⟩ := B
          refine z_cVI0 (ν := mX3_readValue) 34 rfl rfl fX3_readValue gX3_183 ⟨_, rfl, rfl⟩ (by decide) o7 (Nat.le_of_ble_eq_true rfl) K47 (fun v48 h46 q => ?_)
          have B := B v48 h46 q
          refine z_goto 35 75 rfl (by decide) ?_
          refine z_istore_n 38 rfl (by decide) rfl ?_
          refine z_iload_n 39 rfl rfl ?_
          refine z_iconst (v := -1) 40 rfl (by decide) ?_
          refine z_icmp_ne 41 83 rfl (by decide) ⟨fun c49 => ?_, fun c49 => ?_⟩
          · have B := B.1 c49
            refine z_aload_n 44 rfl rfl ?_
            obtain ⟨o50, B⟩ := B
            obtain ⟨r51, hr51, B⟩ := B
            refine z_getR 45 rfl lX3_12 rfl o50 hr51 ?_
            obtain ⟨o55, B⟩ := B
            obtain ⟨Q52, K54, B⟩ := B
            refine z_cVV0 (ν := mX4_advance) 46 rfl rfl fX4_advance gX3_100 ⟨_, rfl, rfl⟩ (by decide) o55 (Nat.le_of_ble_eq_true rfl) K54 (fun h53 q => ?_)
            have B := B h53 q
            refine z_iinc (v := 1) 47 rfl rfl (by decide) (by decide) rfl ?_
            refine z_goto 48 17 rfl (by decide) ?_
            refine z_drop 2 ?_
            exact B
          · have B := B.2 c49
            refine z_iconst (v := -1) 42 rfl (by decide) ?_
            exact z_iret 43 rfl rfl rfl ⟨rfl, rfl⟩ ⟨_, rfl, B⟩
      · have B := B.2 c32
        refine z_aload_n 20 rfl rfl ?_
        obtain ⟨r56, hr56, B⟩ := B
        refine z_getR 21 rfl lX3_12 rfl o7 hr56 ?_
        obtain ⟨o57, B⟩ := B
        refine z_getI 22 rfl lX3_46 rfl o57 ?_
        refine z_bipush (v := 34) 23 rfl (by decide) ?_
        refine z_icmp_ne 24 57 rfl (by decide) ⟨fun c58 => ?_, fun c58 => ?_⟩
        · have B := B.1 c58
          refine z_aload_n 30 rfl rfl ?_
          refine z_getI 31 rfl lX3_177 rfl o7 ?_
          refine z_if_eq 32 71 rfl (by decide) ⟨fun c59 => ?_, fun c59 => ?_⟩
          · have B := B.1 c59
            refine z_aload_n 36 rfl rfl ?_
            obtain ⟨Q60, K62, B⟩ := B
            refine z_cVI0 (ν := mX3_readSign) 37 rfl rfl fX3_readSign gX3_186 ⟨_, rfl, rfl⟩ (by decide) o7 (Nat.le_of_ble_eq_true rfl) K62 (fun v63 h61 q => ?_)
            have B := B v63 h61 q
            refine z_istore_n 38 rfl (by decide) rfl ?_
            refine z_iload_n 39 rfl rfl ?_
            refine z_iconst (v := -1) 40 rfl (by decide) ?_
            refine z_icmp_ne 41 83 rfl (by decide) ⟨fun c64 => ?_, fun c64 => ?_⟩
            · have B := B.1 c64
              refine z_aload_n 44 rfl rfl ?_
              obtain ⟨o65, B⟩ := B
              obtain ⟨r66, hr66, B⟩ := B
              refine z_getR 45 rfl lX3_12 rfl o65 hr66 ?_
              obtain ⟨o70, B⟩ := B
              obtain ⟨Q67, K69, B⟩ := B
              refine z_cVV0 (ν := mX4_advance) 46 rfl rfl fX4_advance gX3_100 ⟨_, rfl, rfl⟩ (by decide) o70 (Nat.le_of_ble_eq_true rfl) K69 (fun h68 q => ?_)
              have B := B h68 q
              refine z_iinc (v := 1) 47 rfl rfl (by decide) (by decide) rfl ?_
              refine z_goto 48 17 rfl (by decide) ?_
              refine z_drop 2 ?_
              exact B
            · have B := B.2 c64
              refine z_iconst (v := -1) 42 rfl (by decide) ?_
              exact z_iret 43 rfl rfl rfl ⟨rfl, rfl⟩ ⟨_, rfl, B⟩
          · have B := B.2 c59
            refine z_aload_n 33 rfl rfl ?_
            obtain ⟨Q71, K73, B⟩ := B
            refine z_cVI0 (ν := mX3_readValue) 34 rfl rfl fX3_readValue gX3_183 ⟨_, rfl, rfl⟩ (by decide) o7 (Nat.le_of_ble_eq_true rfl) K73 (fun v74 h72 q => ?_)
            have B := B v74 h72 q
            refine z_goto 35 75 rfl (by decide) ?_
            refine z_istore_n 38 rfl (by decide) rfl ?_
            refine z_iload_n 39 rfl rfl ?_
            refine z_iconst (v := -1) 40 rfl (by decide) ?_
            refine z_icmp_ne 41 83 rfl (by decide) ⟨fun c75 => ?_, fun c75 => ?_⟩
            · have B := B.1 c75
              refine z_aload_n 44 rfl rfl ?_
              obtain ⟨o76, B⟩ := B
              obtain ⟨r77, hr77, B⟩ := B
              refine z_getR 45 rfl lX3_12 rfl o76 hr77 ?_
              obtain ⟨o81, B⟩ := B
              obtain ⟨Q78, K80, B⟩ := B
              refine z_cVV0 (ν := mX4_advance) 46 rfl rfl fX4_advance gX3_100 ⟨_, rfl, rfl⟩ (by decide) o81 (Nat.le_of_ble_eq_true rfl) K80 (fun h79 q => ?_)
              have B := B h79 q
              refine z_iinc (v := 1) 47 rfl rfl (by decide) (by decide) rfl ?_
              refine z_goto 48 17 rfl (by decide) ?_
              refine z_drop 2 ?_
              exact B
            · have B := B.2 c75
              refine z_iconst (v := -1) 42 rfl (by decide) ?_
              exact z_iret 43 rfl rfl rfl ⟨rfl, rfl⟩ ⟨_, rfl, B⟩
        · have B := B.2 c58
          refine z_aload_n 25 rfl rfl ?_
          refine z_iconst (v := 1) 26 rfl (by decide) ?_
          obtain ⟨Q82, K84, B⟩ := B
          refine z_cVV1 (ν := mX3_settle) 27 rfl rfl fX3_settle gX3_180 ⟨_, rfl, rfl⟩ (by decide) o7 (Nat.le_of_ble_eq_true rfl) K84 (fun h83 q => ?_)
          have B := B h83 q
          refine z_iconst (v := 0) 28 rfl (by decide) ?_
          exact z_iret 29 rfl rfl rfl ⟨rfl, rfl⟩ ⟨_, rfl, B⟩
