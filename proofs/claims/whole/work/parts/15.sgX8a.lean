set_option maxRecDepth 100000 in
set_option maxHeartbeats 4000000 in
theorem sg_X8_clear_0 {G : zG} {d : Nat} {h : zMem} {Q : zMem → Prop} {a0 : Nat} (B : zO h a0 7 ∧ Q (zsI h a0 3 (0 : Int32))) : zg G mX8_clear d 0 [.ref a0] [] h (zPV Q) := by
  refine z_aload_n 0 rfl rfl ?_
  refine z_iconst (v := 0) 1 rfl (by decide) ?_
  obtain ⟨o1, B⟩ := B
  refine z_putI 2 rfl lX8_21 ⟨_, _, _, rfl, rfl⟩ rfl rfl rfl o1 ?_
  exact z_vret 3 rfl rfl ⟨rfl, rfl⟩ ⟨rfl, B⟩
theorem cn_X8_clear {G : zG} {d : Nat} {h : zMem} {Q : zMem → Prop} {a0 : Nat} (B : zg G mX8_clear d 0 [.ref a0] [] h (zPV Q)) : zConV G mX8_clear d [.ref a0] h Q := zcon0 (by decide +kernel) eX8_clear (Nat.le_of_ble_eq_true rfl) rfl B
set_option maxRecDepth 100000 in
set_option maxHeartbeats 4000000 in
theorem sg_X8_add_0 {G : zG} {d : Nat} {h : zMem} {Q : zMem → Prop} {a0 : Nat} {x1 : Int32} {x2 : Int32} {x3 : Int32} (B : zO h a0 7 ∧ (¬ (zI h a0 3) = (20 : Int32) → ∃ r3, zR h a0 0 = some r3 ∧ zO h r3 100 ∧ vp_in (zI h a0 3) (zLen h r3) ∧ ∃ r6, zR h a0 1 = some r6 ∧ zO h r6 100 ∧ vp_in (zI (zsI h r3 (zI h a0 3).toNatClampNeg x1) a0 3) (zLen h r6) ∧ ∃ r9, zR h a0 2 = some r9 ∧ zO h r9 100 ∧ vp_in (zI (zsI (zsI h r3 (zI h a0 3).toNatClampNeg x1) r6 (zI (zsI h r3 (zI h a0 3).toNatClampNeg x1) a0 3).toNatClampNeg x2) a0 3) (zLen h r9) ∧ Q (zsI (zsI (zsI (zsI h r3 (zI h a0 3).toNatClampNeg x1) r6 (zI (zsI h r3 (zI h a0 3).toNatClampNeg x1) a0 3).toNatClampNeg x2) r9 (zI (zsI (zsI h r3 (zI h a0 3).toNatClampNeg x1) r6 (zI (zsI h r3 (zI h a0 3).toNatClampNeg x1) a0 3).toNatClampNeg x2) a0 3).toNatClampNeg x3) a0 3 ((zI (zsI (zsI (zsI h r3 (zI h a0 3).toNatClampNeg x1) r6 (zI (zsI h r3 (zI h a0 3).toNatClampNeg x1) a0 3).toNatClampNeg x2) r9 (zI (zsI (zsI h r3 (zI h a0 3).toNatClampNeg x1) r6 (zI (zsI h r3 (zI h a0 3).toNatClampNeg x1) a0 3).toNatClampNeg x2) a0 3).toNatClampNeg x3) a0 3) + (1 : Int32)))) ∧ ((zI h a0 3) = (20 : Int32) → ∃ Q12 : zMem → Prop, zConV G mX8_forgetOldest d [.ref a0] h Q12 ∧ (∀ h13, Q12 h13 → zO h13 a0 7 ∧ ∃ r16, zR h13 a0 0 = some r16 ∧ zO h13 r16 100 ∧ vp_in (zI h13 a0 3) (zLen h13 r16) ∧ ∃ r19, zR h13 a0 1 = some r19 ∧ zO h13 r19 100 ∧ vp_in (zI (zsI h13 r16 (zI h13 a0 3).toNatClampNeg x1) a0 3) (zLen h13 r19) ∧ ∃ r22, zR h13 a0 2 = some r22 ∧ zO h13 r22 100 ∧ vp_in (zI (zsI (zsI h13 r16 (zI h13 a0 3).toNatClampNeg x1) r19 (zI (zsI h13 r16 (zI h13 a0 3).toNatClampNeg x1) a0 3).toNatClampNeg x2) a0 3) (zLen h13 r22) ∧ Q (zsI (zsI (zsI (zsI h13 r16 (zI h13 a0 3).toNatClampNeg x1) r19 (zI (zsI h13 r16 (zI h13 a0 3).toNatClampNeg x1) a0 3).toNatClampNeg x2) r22 (zI (zsI (zsI h13 r16 (zI h13 a0 3).toNatClampNeg x1) r19 (zI (zsI h13 r16 (zI h13 a0 3).toNatClampNeg x1) a0 3).toNatClampNeg x2) a0 3).toNatClampNeg x3) a0 3 ((zI (zsI (zsI (zsI h13 r16 (zI h13 a0 3).toNatClampNeg x1) r19 (zI (zsI h13 r16 (zI h13 a0 3).toNatClampNeg x1) a0 3).toNatClampNeg x2) r22 (zI (zsI (zsI h13 r16 (zI h13 a0 3).toNatClampNeg x1) r19 (zI (zsI h13 r16 (zI h13 a0 3).toNatClampNeg x1) a0 3).toNatClampNeg x2) a0 3).toNatClampNeg x3) a0 3) + (1 : Int32)))))) : zg G mX8_add (d + 1) 0 [.ref a0, .int x1, .int x2, .int x3] [] h (zPV Q) := by
  refine z_aload_n 0 rfl rfl ?_
  obtain ⟨o1, B⟩ := B
  refine z_getI 1 rfl lX8_21 rfl o1 ?_
  refine z_bipush (v := 20) 2 rfl (by decide) ?_
  refine z_icmp_ne 3 13 rfl (by decide) ⟨fun c2 => ?_, fun c2 => ?_⟩
  · have B := B.1 c2
    refine z_aload_n 6 rfl rfl ?_
    obtain ⟨r3, hr3, B⟩ := B
    refine z_getR 7 rfl lX8_9 rfl o1 hr3 ?_
    refine z_aload_n 8 rfl rfl ?_
    refine z_getI 9 rfl lX8_21 rfl o1 ?_
    refine z_iload_n 10 rfl rfl ?_
    obtain ⟨o4, B⟩ := B
    obtain ⟨o5, B⟩ := B
    refine z_iast 11 rfl o4 o5 ?_
    refine z_aload_n 12 rfl rfl ?_
    obtain ⟨r6, hr6, B⟩ := B
    refine z_getR 13 rfl lX8_15 rfl o1 hr6 ?_
    refine z_aload_n 14 rfl rfl ?_
    refine z_getI 15 rfl lX8_21 rfl o1 ?_
    refine z_iload_n 16 rfl rfl ?_
    obtain ⟨o7, B⟩ := B
    obtain ⟨o8, B⟩ := B
    refine z_iast 17 rfl o7 o8 ?_
    refine z_aload_n 18 rfl rfl ?_
    obtain ⟨r9, hr9, B⟩ := B
    refine z_getR 19 rfl lX8_18 rfl o1 hr9 ?_
    refine z_aload_n 20 rfl rfl ?_
    refine z_getI 21 rfl lX8_21 rfl o1 ?_
    refine z_iload_n 22 rfl rfl ?_
    obtain ⟨o10, B⟩ := B
    obtain ⟨o11, B⟩ := B
    refine z_iast 23 rfl o10 o11 ?_
    refine z_aload_n 24 rfl rfl ?_
    refine z_dup 25 rfl rfl ?_
    refine z_getI 26 rfl lX8_21 rfl o1 ?_
    refine z_iconst (v := 1) 27 rfl (by decide) ?_
    refine z_iadd 28 rfl ?_
    refine z_putI 29 rfl lX8_21 ⟨_, _, _, rfl, rfl⟩ rfl rfl rfl o1 ?_
    exact z_vret 30 rfl rfl ⟨rfl, rfl⟩ ⟨rfl, B⟩
  · have B := B.2 c2
    refine z_aload_n 4 rfl rfl ?_
    obtain ⟨Q12, K14, B⟩ := B
    refine z_cVV0 (ν := mX8_forgetOldest) 5 rfl rfl fX8_forgetOldest gX8_25 ⟨_, rfl, rfl⟩ (by decide) o1 (Nat.le_of_ble_eq_true rfl) K14 (fun h13 q => ?_)
    have B := B h13 q
    refine z_aload_n 6 rfl rfl ?_
    obtain ⟨o15, B⟩ := B
    obtain ⟨r16, hr16, B⟩ := B
    refine z_getR 7 rfl lX8_9 rfl o15 hr16 ?_
    refine z_aload_n 8 rfl rfl ?_
    refine z_getI 9 rfl lX8_21 rfl o15 ?_
    refine z_iload_n 10 rfl rfl ?_
    obtain ⟨o17, B⟩ := B
    obtain ⟨o18, B⟩ := B
    refine z_iast 11 rfl o17 o18 ?_
    refine z_aload_n 12 rfl rfl ?_
    obtain ⟨r19, hr19, B⟩ := B
    refine z_getR 13 rfl lX8_15 rfl o15 hr19 ?_
    refine z_aload_n 14 rfl rfl ?_
    refine z_getI 15 rfl lX8_21 rfl o15 ?_
    refine z_iload_n 16 rfl rfl ?_
    obtain ⟨o20, B⟩ := B
    obtain ⟨o21, B⟩ := B
    refine z_iast 17 rfl o20 o21 ?_
    refine z_aload_n 18 rfl rfl ?_
    obtain ⟨r22, hr22, B⟩ := B
    refine z_getR 19 rfl lX8_18 rfl o15 hr22 ?_
    refine z_aload_n 20 rfl rfl ?_
    refine z_getI 21 rfl lX8_21 rfl o15 ?_
    refine z_iload_n 22 rfl rfl ?_
    obtain ⟨o23, B⟩ := B
    obtain ⟨o24, B⟩ := B
    refine z_iast 23 rfl o23 o24 ?_
    refine z_aload_n 24 rfl rfl ?_
    refine z_dup 25 rfl rfl ?_
    refine z_getI 26 rfl lX8_21 rfl o15 ?_
    refine z_iconst (v := 1) 27 rfl (by decide) ?_
    refine z_iadd 28 rfl ?_
    refine z_putI 29 rfl lX8_21 ⟨_, _, _, rfl, rfl⟩ rfl rfl rfl o15 ?_
    exact z_vret 30 rfl rfl ⟨rfl, rfl⟩ ⟨rfl, B⟩
theorem cn_X8_add {G : zG} {d : Nat} {h : zMem} {Q : zMem → Prop} {a0 : Nat} {x1 : Int32} {x2 : Int32} {x3 : Int32} (B : zg G mX8_add (d + 1) 0 [.ref a0, .int x1, .int x2, .int x3] [] h (zPV Q)) : zConV G mX8_add (d + 1) [.ref a0, .int x1, .int x2, .int x3] h Q := zcon0 (by decide +kernel) eX8_add (Nat.le_of_ble_eq_true rfl) rfl B
set_option maxRecDepth 100000 in
set_option maxHeartbeats 4000000 in
theorem sg_X8_forgetOldest_0 {G : zG} {d : Nat} {h : zMem} {Q : zMem → Prop} {a0 : Nat} (B : zg G mX8_forgetOldest d 2 [.ref a0, .int (1 : Int32)] [] h (zPV Q)) : zg G mX8_forgetOldest d 0 [.ref a0, zU] [] h (zPV Q) := by
  refine z_iconst (v := 1) 0 rfl (by decide) ?_
  refine z_istore_n 1 rfl (by decide) rfl ?_
  exact B
theorem cn_X8_forgetOldest {G : zG} {d : Nat} {h : zMem} {Q : zMem → Prop} {a0 : Nat} (B : zg G mX8_forgetOldest d 0 [.ref a0, zU] [] h (zPV Q)) : zConV G mX8_forgetOldest d [.ref a0] h Q := zcon0 (by decide +kernel) eX8_forgetOldest (Nat.le_of_ble_eq_true rfl) rfl B
set_option maxRecDepth 100000 in
set_option maxHeartbeats 4000000 in
theorem sg_X8_forgetOldest_2 {G : zG} {d : Nat} {h : zMem} {Q : zMem → Prop} {a0 : Nat} {x1 : Int32} (B : zO h a0 7 ∧ ((zI h a0 3) ≤ x1 → Q (zsI h a0 3 ((zI h a0 3) - (1 : Int32)))) ∧ (¬ (zI h a0 3) ≤ x1 → ∃ r3, zR h a0 0 = some r3 ∧ zO h r3 100 ∧ vp_in x1 (zLen h r3) ∧ vp_in (x1 - (1 : Int32)) (zLen h r3) ∧ ∃ r7, zR h a0 1 = some r7 ∧ zO h r7 100 ∧ vp_in x1 (zLen h r7) ∧ vp_in (x1 - (1 : Int32)) (zLen h r7) ∧ ∃ r11, zR h a0 2 = some r11 ∧ zO h r11 100 ∧ vp_in x1 (zLen h r11) ∧ vp_in (x1 - (1 : Int32)) (zLen h r11) ∧ zg G mX8_forgetOldest d 2 [.ref a0, .int (x1 + 1)] [] (zsI (zsI (zsI h r3 (x1 - (1 : Int32)).toNatClampNeg (zI h r3 x1.toNatClampNeg)) r7 (x1 - (1 : Int32)).toNatClampNeg (zI (zsI h r3 (x1 - (1 : Int32)).toNatClampNeg (zI h r3 x1.toNatClampNeg)) r7 x1.toNatClampNeg)) r11 (x1 - (1 : Int32)).toNatClampNeg (zI (zsI (zsI h r3 (x1 - (1 : Int32)).toNatClampNeg (zI h r3 x1.toNatClampNeg)) r7 (x1 - (1 : Int32)).toNatClampNeg (zI (zsI h r3 (x1 - (1 : Int32)).toNatClampNeg (zI h r3 x1.toNatClampNeg)) r7 x1.toNatClampNeg)) r11 x1.toNatClampNeg)) (zPV Q))) : zg G mX8_forgetOldest d 2 [.ref a0, .int x1] [] h (zPV Q) := by
  refine z_iload_n 2 rfl rfl ?_
  refine z_aload_n 3 rfl rfl ?_
  obtain ⟨o1, B⟩ := B
  refine z_getI 4 rfl lX8_21 rfl o1 ?_
  refine z_icmp_ge 5 58 rfl (by decide) ⟨fun c2 => ?_, fun c2 => ?_⟩
  · have B := B.1 c2
    refine z_aload_n 38 rfl rfl ?_
    refine z_dup 39 rfl rfl ?_
    refine z_getI 40 rfl lX8_21 rfl o1 ?_
    refine z_iconst (v := 1) 41 rfl (by decide) ?_
    refine z_isub 42 rfl ?_
    refine z_putI 43 rfl lX8_21 ⟨_, _, _, rfl, rfl⟩ rfl rfl rfl o1 ?_
    exact z_vret 44 rfl rfl ⟨rfl, rfl⟩ ⟨rfl, B⟩
  · have B := B.2 c2
    refine z_aload_n 6 rfl rfl ?_
    obtain ⟨r3, hr3, B⟩ := B
    refine z_getR 7 rfl lX8_9 rfl o1 hr3 ?_
    refine z_iload_n 8 rfl rfl ?_
    refine z_iconst (v := 1) 9 rfl (by decide) ?_
    refine z_isub 10 rfl ?_
    refine z_aload_n 11 rfl rfl ?_
    refine z_getR 12 rfl lX8_9 rfl o1 hr3 ?_
    refine z_iload_n 13 rfl rfl ?_
    obtain ⟨o4, B⟩ := B
    obtain ⟨o5, B⟩ := B
    refine z_iald 14 rfl o4 o5 ?_
    obtain ⟨o6, B⟩ := B
    refine z_iast 15 rfl o4 o6 ?_
    refine z_aload_n 16 rfl rfl ?_
    obtain ⟨r7, hr7, B⟩ := B
    refine z_getR 17 rfl lX8_15 rfl o1 hr7 ?_
    refine z_iload_n 18 rfl rfl ?_
    refine z_iconst (v := 1) 19 rfl (by decide) ?_
    refine z_isub 20 rfl ?_
    refine z_aload_n 21 rfl rfl ?_
    refine z_getR 22 rfl lX8_15 rfl o1 hr7 ?_
    refine z_iload_n 23 rfl rfl ?_
    obtain ⟨o8, B⟩ := B
    obtain ⟨o9, B⟩ := B
    refine z_iald 24 rfl o8 o9 ?_
    obtain ⟨o10, B⟩ := B
    refine z_iast 25 rfl o8 o10 ?_
    refine z_aload_n 26 rfl rfl ?_
    obtain ⟨r11, hr11, B⟩ := B
    refine z_getR 27 rfl lX8_18 rfl o1 hr11 ?_
    refine z_iload_n 28 rfl rfl ?_
    refine z_iconst (v := 1) 29 rfl (by decide) ?_
    refine z_isub 30 rfl ?_
    refine z_aload_n 31 rfl rfl ?_
    refine z_getR 32 rfl lX8_18 rfl o1 hr11 ?_
    refine z_iload_n 33 rfl rfl ?_
    obtain ⟨o12, B⟩ := B
    obtain ⟨o13, B⟩ := B
    refine z_iald 34 rfl o12 o13 ?_
    obtain ⟨o14, B⟩ := B
    refine z_iast 35 rfl o12 o14 ?_
    refine z_iinc (v := 1) 36 rfl rfl (by decide) (by decide) rfl ?_
    refine z_goto 37 2 rfl (by decide) ?_
    exact B
theorem zsw_X8_takeBack_38 {x : Int32} (z1 : ¬ x.toInt < 0) (z2 : ¬ 2 < x.toInt) (c0 : ¬ x = 0) (c1 : ¬ x = 1) (c2 : ¬ x = 2) : (#[26, 44, 62] : Array Int)[(x.toInt - 0).toNat]? = some 80 := by
  obtain ⟨v, hv⟩ : ∃ v : Int, v = x.toInt := ⟨_, rfl⟩
  have c0 : v ≠ 0 := fun e => c0 (Int32.toInt_inj.mp (by rw [← hv, e]; decide))
  have c1 : v ≠ 1 := fun e => c1 (Int32.toInt_inj.mp (by rw [← hv, e]; decide))
  have c2 : v ≠ 2 := fun e => c2 (Int32.toInt_inj.mp (by rw [← hv, e]; decide))
  rw [← hv] at z1 z2 ⊢
  rcases (show v = 0 ∨ v = 1 ∨ v = 2 by omega) with rfl | rfl | rfl
  all_goals first | exact absurd rfl (by assumption) | decide
set_option maxRecDepth 100000 in
set_option maxHeartbeats 4000000 in
theorem sg_X8_takeBack_0 {G : zG} {d : Nat} {h : zMem} {Q : Int32 → zMem → Prop} {a0 : Nat} {a1 : Nat} (B : zO h a0 7 ∧ (¬ (zI h a0 3) = 0 → ∃ r3, zR h a0 1 = some r3 ∧ zO h r3 100 ∧ vp_in (zI (zsI h a0 3 ((zI h a0 3) - (1 : Int32))) a0 3) (zLen h r3) ∧ ∃ r6, zR h a0 0 = some r6 ∧ zO h r6 100 ∧ vp_in (zI (zsI h a0 3 ((zI h a0 3) - (1 : Int32))) a0 3) (zLen h r6) ∧ ((zI (zsI h a0 3 ((zI h a0 3) - (1 : Int32))) r6 (zI (zsI h a0 3 ((zI h a0 3) - (1 : Int32))) a0 3).toNatClampNeg) = 0 → zO h a1 5 ∧ ∃ r10, zR h a1 5 = some r10 ∧ ∃ r11, zR h a0 2 = some r11 ∧ zO h r11 100 ∧ vp_in (zI (zsI h a0 3 ((zI h a0 3) - (1 : Int32))) a0 3) (zLen h r11) ∧ zO h r10 100 ∧ vp_in (zI (zsI h a0 3 ((zI h a0 3) - (1 : Int32))) r3 (zI (zsI h a0 3 ((zI h a0 3) - (1 : Int32))) a0 3).toNatClampNeg) (zLen h r10) ∧ Q (zI (zsI (zsI h a0 3 ((zI h a0 3) - (1 : Int32))) r10 (zI (zsI h a0 3 ((zI h a0 3) - (1 : Int32))) r3 (zI (zsI h a0 3 ((zI h a0 3) - (1 : Int32))) a0 3).toNatClampNeg).toNatClampNeg (zI (zsI h a0 3 ((zI h a0 3) - (1 : Int32))) r11 (zI (zsI h a0 3 ((zI h a0 3) - (1 : Int32))) a0 3).toNatClampNeg)) a0 3) (zsI (zsI h a0 3 ((zI h a0 3) - (1 : Int32))) r10 (zI (zsI h a0 3 ((zI h a0 3) - (1 : Int32))) r3 (zI (zsI h a0 3 ((zI h a0 3) - (1 : Int32))) a0 3).toNatClampNeg).toNatClampNeg (zI (zsI h a0 3 ((zI h a0 3) - (1 : Int32))) r11 (zI (zsI h a0 3 ((zI h a0 3) - (1 : Int32))) a0 3).toNatClampNeg))) ∧ ((zI (zsI h a0 3 ((zI h a0 3) - (1 : Int32))) r6 (zI (zsI h a0 3 ((zI h a0 3) - (1 : Int32))) a0 3).toNatClampNeg) = 1 → zO h a1 5 ∧ ∃ r17, zR h a1 1 = some r17 ∧ ∃ r18, zR h a0 2 = some r18 ∧ zO h r18 100 ∧ vp_in (zI (zsI h a0 3 ((zI h a0 3) - (1 : Int32))) a0 3) (zLen h r18) ∧ zO h r17 100 ∧ vp_in (zI (zsI h a0 3 ((zI h a0 3) - (1 : Int32))) r3 (zI (zsI h a0 3 ((zI h a0 3) - (1 : Int32))) a0 3).toNatClampNeg) (zLen h r17) ∧ Q (zI (zsI (zsI h a0 3 ((zI h a0 3) - (1 : Int32))) r17 (zI (zsI h a0 3 ((zI h a0 3) - (1 : Int32))) r3 (zI (zsI h a0 3 ((zI h a0 3) - (1 : Int32))) a0 3).toNatClampNeg).toNatClampNeg (zI (zsI h a0 3 ((zI h a0 3) - (1 : Int32))) r18 (zI (zsI h a0 3 ((zI h a0 3) - (1 : Int32))) a0 3).toNatClampNeg)) a0 3) (zsI (zsI h a0 3 ((zI h a0 3) - (1 : Int32))) r17 (zI (zsI h a0 3 ((zI h a0 3) - (1 : Int32))) r3 (zI (zsI h a0 3 ((zI h a0 3) - (1 : Int32))) a0 3).toNatClampNeg).toNatClampNeg (zI (zsI h a0 3 ((zI h a0 3) - (1 : Int32))) r18 (zI (zsI h a0 3 ((zI h a0 3) - (1 : Int32))) a0 3).toNatClampNeg))) ∧ ((zI (zsI h a0 3 ((zI h a0 3) - (1 : Int32))) r6 (zI (zsI h a0 3 ((zI h a0 3) - (1 : Int32))) a0 3).toNatClampNeg) = 2 → zO h a1 5 ∧ ∃ r24, zR h a1 0 = some r24 ∧ ∃ r25, zR h a0 2 = some r25 ∧ zO h r25 100 ∧ vp_in (zI (zsI h a0 3 ((zI h a0 3) - (1 : Int32))) a0 3) (zLen h r25) ∧ zO h r24 100 ∧ vp_in (zI (zsI h a0 3 ((zI h a0 3) - (1 : Int32))) r3 (zI (zsI h a0 3 ((zI h a0 3) - (1 : Int32))) a0 3).toNatClampNeg) (zLen h r24) ∧ Q (zI (zsI (zsI h a0 3 ((zI h a0 3) - (1 : Int32))) r24 (zI (zsI h a0 3 ((zI h a0 3) - (1 : Int32))) r3 (zI (zsI h a0 3 ((zI h a0 3) - (1 : Int32))) a0 3).toNatClampNeg).toNatClampNeg (zI (zsI h a0 3 ((zI h a0 3) - (1 : Int32))) r25 (zI (zsI h a0 3 ((zI h a0 3) - (1 : Int32))) a0 3).toNatClampNeg)) a0 3) (zsI (zsI h a0 3 ((zI h a0 3) - (1 : Int32))) r24 (zI (zsI h a0 3 ((zI h a0 3) - (1 : Int32))) r3 (zI (zsI h a0 3 ((zI h a0 3) - (1 : Int32))) a0 3).toNatClampNeg).toNatClampNeg (zI (zsI h a0 3 ((zI h a0 3) - (1 : Int32))) r25 (zI (zsI h a0 3 ((zI h a0 3) - (1 : Int32))) a0 3).toNatClampNeg))) ∧ (¬ (zI (zsI h a0 3 ((zI h a0 3) - (1 : Int32))) r6 (zI (zsI h a0 3 ((zI h a0 3) - (1 : Int32))) a0 3).toNatClampNeg) = 0 → ¬ (zI (zsI h a0 3 ((zI h a0 3) - (1 : Int32))) r6 (zI (zsI h a0 3 ((zI h a0 3) - (1 : Int32))) a0 3).toNatClampNeg) = 1 → ¬ (zI (zsI h a0 3 ((zI h a0 3) - (1 : Int32))) r6 (zI (zsI h a0 3 ((zI h a0 3) - (1 : Int32))) a0 3).toNatClampNeg) = 2 → zO h a1 5 ∧ ∃ r31, zR h a1 4 = some r31 ∧ ∃ r32, zR h a0 2 = some r32 ∧ zO h r32 100 ∧ vp_in (zI (zsI h a0 3 ((zI h a0 3) - (1 : Int32))) a0 3) (zLen h r32) ∧ zO h r31 100 ∧ vp_in (zI (zsI h a0 3 ((zI h a0 3) - (1 : Int32))) r3 (zI (zsI h a0 3 ((zI h a0 3) - (1 : Int32))) a0 3).toNatClampNeg) (zLen h r31) ∧ Q (zI (zsI (zsI h a0 3 ((zI h a0 3) - (1 : Int32))) r31 (zI (zsI h a0 3 ((zI h a0 3) - (1 : Int32))) r3 (zI (zsI h a0 3 ((zI h a0 3) - (1 : Int32))) a0 3).toNatClampNeg).toNatClampNeg (zI (zsI h a0 3 ((zI h a0 3) - (1 : Int32))) r32 (zI (zsI h a0 3 ((zI h a0 3) - (1 : Int32))) a0 3).toNatClampNeg)) a0 3) (zsI (zsI h a0 3 ((zI h a0 3) - (1 : Int32))) r31 (zI (zsI h a0 3 ((zI h a0 3) - (1 : Int32))) r3 (zI (zsI h a0 3 ((zI h a0 3) - (1 : Int32))) a0 3).toNatClampNeg).toNatClampNeg (zI (zsI h a0 3 ((zI h a0 3) - (1 : Int32))) r32 (zI (zsI h a0 3 ((zI h a0 3) - (1 : Int32))) a0 3).toNatClampNeg)))) ∧ ((zI h a0 3) = 0 → Q (-1 : Int32) h)) : zg G mX8_takeBack d 0 [.ref a0, .ref a1, zU] [] h (zPI Q) := by
  refine z_aload_n 0 rfl rfl ?_
  obtain ⟨o1, B⟩ := B
  refine z_getI 1 rfl lX8_21 rfl o1 ?_
  refine z_if_ne 2 9 rfl (by decide) ⟨fun c2 => ?_, fun c2 => ?_⟩
  · have B := B.1 c2
    refine z_aload_n 5 rfl rfl ?_
    refine z_dup 6 rfl rfl ?_
    refine z_getI 7 rfl lX8_21 rfl o1 ?_
    refine z_iconst (v := 1) 8 rfl (by decide) ?_
    refine z_isub 9 rfl ?_
    refine z_putI 10 rfl lX8_21 ⟨_, _, _, rfl, rfl⟩ rfl rfl rfl o1 ?_
    refine z_aload_n 11 rfl rfl ?_
    obtain ⟨r3, hr3, B⟩ := B
    refine z_getR 12 rfl lX8_15 rfl o1 hr3 ?_
    refine z_aload_n 13 rfl rfl ?_
    refine z_getI 14 rfl lX8_21 rfl o1 ?_
    obtain ⟨o4, B⟩ := B
    obtain ⟨o5, B⟩ := B
    refine z_iald 15 rfl o4 o5 ?_
    refine z_istore_n 16 rfl (by decide) rfl ?_
    refine z_aload_n 17 rfl rfl ?_
    obtain ⟨r6, hr6, B⟩ := B
    refine z_getR 18 rfl lX8_9 rfl o1 hr6 ?_
    refine z_aload_n 19 rfl rfl ?_
    refine z_getI 20 rfl lX8_21 rfl o1 ?_
    obtain ⟨o7, B⟩ := B
    obtain ⟨o8, B⟩ := B
    refine z_iald 21 rfl o7 o8 ?_
    by_cases c37_0 : (zI (zsI h a0 3 ((zI h a0 3) - (1 : Int32))) r6 (zI (zsI h a0 3 ((zI h a0 3) - (1 : Int32))) a0 3).toNatClampNeg) = 0
    · obtain ⟨B, -⟩ := B
      refine z_tableIn 22 64 rfl 0 (by rw [c37_0]; decide) (by decide) (by decide) rfl (by decide) ?_
      have B := B c37_0
      refine z_aload_n 23 rfl rfl ?_
      obtain ⟨o9, B⟩ := B
      obtain ⟨r10, hr10, B⟩ := B
      refine z_getR 24 rfl lX8_28 rfl o9 hr10 ?_
      refine z_iload_n 25 rfl rfl ?_
      refine z_aload_n 26 rfl rfl ?_
      obtain ⟨r11, hr11, B⟩ := B
      refine z_getR 27 rfl lX8_18 rfl o1 hr11 ?_
      refine z_aload_n 28 rfl rfl ?_
      refine z_getI 29 rfl lX8_21 rfl o1 ?_
      obtain ⟨o12, B⟩ := B
      obtain ⟨o13, B⟩ := B
      refine z_iald 30 rfl o12 o13 ?_
      obtain ⟨o14, B⟩ := B
      obtain ⟨o15, B⟩ := B
      refine z_iast 31 rfl o14 o15 ?_
      refine z_goto 32 133 rfl (by decide) ?_
      refine z_aload_n 62 rfl rfl ?_
      refine z_getI 63 rfl lX8_21 rfl o1 ?_
      exact z_iret 64 rfl rfl rfl ⟨rfl, rfl⟩ ⟨_, rfl, B⟩
    obtain ⟨-, B⟩ := B
    by_cases c37_1 : (zI (zsI h a0 3 ((zI h a0 3) - (1 : Int32))) r6 (zI (zsI h a0 3 ((zI h a0 3) - (1 : Int32))) a0 3).toNatClampNeg) = 1
    · obtain ⟨B, -⟩ := B
      refine z_tableIn 22 82 rfl 1 (by rw [c37_1]; decide) (by decide) (by decide) rfl (by decide) ?_
      have B := B c37_1
      refine z_aload_n 33 rfl rfl ?_
      obtain ⟨o16, B⟩ := B
      obtain ⟨r17, hr17, B⟩ := B
      refine z_getR 34 rfl lX8_33 rfl o16 hr17 ?_
      refine z_iload_n 35 rfl rfl ?_
      refine z_aload_n 36 rfl rfl ?_
      obtain ⟨r18, hr18, B⟩ := B
      refine z_getR 37 rfl lX8_18 rfl o1 hr18 ?_
      refine z_aload_n 38 rfl rfl ?_
      refine z_getI 39 rfl lX8_21 rfl o1 ?_
      obtain ⟨o19, B⟩ := B
      obtain ⟨o20, B⟩ := B
      refine z_iald 40 rfl o19 o20 ?_
      obtain ⟨o21, B⟩ := B
      obtain ⟨o22, B⟩ := B
      refine z_iast 41 rfl o21 o22 ?_
      refine z_goto 42 133 rfl (by decide) ?_
      refine z_aload_n 62 rfl rfl ?_
      refine z_getI 63 rfl lX8_21 rfl o1 ?_
      exact z_iret 64 rfl rfl rfl ⟨rfl, rfl⟩ ⟨_, rfl, B⟩
    obtain ⟨-, B⟩ := B
    by_cases c37_2 : (zI (zsI h a0 3 ((zI h a0 3) - (1 : Int32))) r6 (zI (zsI h a0 3 ((zI h a0 3) - (1 : Int32))) a0 3).toNatClampNeg) = 2
    · obtain ⟨B, -⟩ := B
      refine z_tableIn 22 100 rfl 2 (by rw [c37_2]; decide) (by decide) (by decide) rfl (by decide) ?_
      have B := B c37_2
      refine z_aload_n 43 rfl rfl ?_
      obtain ⟨o23, B⟩ := B
      obtain ⟨r24, hr24, B⟩ := B
      refine z_getR 44 rfl lX8_36 rfl o23 hr24 ?_
      refine z_iload_n 45 rfl rfl ?_
      refine z_aload_n 46 rfl rfl ?_
      obtain ⟨r25, hr25, B⟩ := B
      refine z_getR 47 rfl lX8_18 rfl o1 hr25 ?_
      refine z_aload_n 48 rfl rfl ?_
      refine z_getI 49 rfl lX8_21 rfl o1 ?_
      obtain ⟨o26, B⟩ := B
      obtain ⟨o27, B⟩ := B
      refine z_iald 50 rfl o26 o27 ?_
      obtain ⟨o28, B⟩ := B
      obtain ⟨o29, B⟩ := B
      refine z_iast 51 rfl o28 o29 ?_
      refine z_goto 52 133 rfl (by decide) ?_
      refine z_aload_n 62 rfl rfl ?_
      refine z_getI 63 rfl lX8_21 rfl o1 ?_
      exact z_iret 64 rfl rfl rfl ⟨rfl, rfl⟩ ⟨_, rfl, B⟩
    obtain ⟨-, B⟩ := B
    have B := B c37_0 c37_1 c37_2
    refine z_tableD 22 118 rfl (by decide) (by
      intro z1 z2
      refine zsw_X8_takeBack_38 z1 z2 c37_0 c37_1 c37_2) ?_
    refine z_aload_n 53 rfl rfl ?_
    obtain ⟨o30, B⟩ := B
    obtain ⟨r31, hr31, B⟩ := B
    refine z_getR 54 rfl lX8_39 rfl o30 hr31 ?_
    refine z_iload_n 55 rfl rfl ?_
    refine z_aload_n 56 rfl rfl ?_
    obtain ⟨r32, hr32, B⟩ := B
    refine z_getR 57 rfl lX8_18 rfl o1 hr32 ?_
    refine z_aload_n 58 rfl rfl ?_
    refine z_getI 59 rfl lX8_21 rfl o1 ?_
    obtain ⟨o33, B⟩ := B
    obtain ⟨o34, B⟩ := B
    refine z_iald 60 rfl o33 o34 ?_
    obtain ⟨o35, B⟩ := B
    obtain ⟨o36, B⟩ := B
    refine z_iast 61 rfl o35 o36 ?_
    refine z_aload_n 62 rfl rfl ?_
    refine z_getI 63 rfl lX8_21 rfl o1 ?_
    exact z_iret 64 rfl rfl rfl ⟨rfl, rfl⟩ ⟨_, rfl, B⟩
  · have B := B.2 c2
    refine z_iconst (v := -1) 3 rfl (by decide) ?_
    exact z_iret 4 rfl rfl rfl ⟨rfl, rfl⟩ ⟨_, rfl, B⟩
theorem cn_X8_takeBack {G : zG} {d : Nat} {h : zMem} {Q : Int32 → zMem → Prop} {a0 : Nat} {a1 : Nat} (B : zg G mX8_takeBack d 0 [.ref a0, .ref a1, zU] [] h (zPI Q)) : zConI G mX8_takeBack d [.ref a0, .ref a1] h Q := zcon0 (by decide +kernel) eX8_takeBack (Nat.le_of_ble_eq_true rfl) rfl B
