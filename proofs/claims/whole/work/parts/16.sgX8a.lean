set_option maxRecDepth 100000 in
set_option maxHeartbeats 4000000 in
theorem sg_X8_clear_0 {G : zG} {d : Nat} {h : zMem} {Q : zMem → Prop} {t : Nat}  (hS : zSh1 h t)  (B : Q (zsI h 44 3 (0 : Int32))) : zg G mX8_clear d 0 [.ref 44] [] h (zPV Q) := by
  refine z_aload_n 0 rfl rfl ?_
  refine z_iconst (v := 0) 1 rfl (by decide) ?_
  refine z_putI 2 rfl lX8_21 ⟨_, _, _, rfl, rfl⟩ rfl rfl rfl (hS.1.o 44 7 rfl rfl rfl) ?_
  exact z_vret 3 rfl rfl ⟨rfl, rfl⟩ ⟨rfl, B⟩
theorem cn_X8_clear {G : zG} {d : Nat} {h : zMem} {Q : zMem → Prop}  (B : zg G mX8_clear d 0 [.ref 44] [] h (zPV Q)) : zConV G mX8_clear d [.ref 44] h Q := zcon0 (by decide +kernel) eX8_clear (Nat.le_of_ble_eq_true rfl) rfl B
set_option maxRecDepth 100000 in
set_option maxHeartbeats 4000000 in
theorem sg_X8_add_0 {G : zG} {d : Nat} {h : zMem} {Q : zMem → Prop} {t : Nat} {x1 : Int32} {x2 : Int32} {x3 : Int32} (hS : zSh1 h t)  (B : (¬ (zI h 44 3) = (20 : Int32) → vp_in (zI h 44 3) 20 ∧ vp_in (zI (zsI h 45 (zI h 44 3).toNatClampNeg x1) 44 3) 20 ∧ vp_in (zI (zsI (zsI h 45 (zI h 44 3).toNatClampNeg x1) 46 (zI (zsI h 45 (zI h 44 3).toNatClampNeg x1) 44 3).toNatClampNeg x2) 44 3) 20 ∧ Q (zsI (zsI (zsI (zsI h 45 (zI h 44 3).toNatClampNeg x1) 46 (zI (zsI h 45 (zI h 44 3).toNatClampNeg x1) 44 3).toNatClampNeg x2) 47 (zI (zsI (zsI h 45 (zI h 44 3).toNatClampNeg x1) 46 (zI (zsI h 45 (zI h 44 3).toNatClampNeg x1) 44 3).toNatClampNeg x2) 44 3).toNatClampNeg x3) 44 3 ((zI (zsI (zsI (zsI h 45 (zI h 44 3).toNatClampNeg x1) 46 (zI (zsI h 45 (zI h 44 3).toNatClampNeg x1) 44 3).toNatClampNeg x2) 47 (zI (zsI (zsI h 45 (zI h 44 3).toNatClampNeg x1) 46 (zI (zsI h 45 (zI h 44 3).toNatClampNeg x1) 44 3).toNatClampNeg x2) 44 3).toNatClampNeg x3) 44 3) + (1 : Int32)))) ∧ ((zI h 44 3) = (20 : Int32) → ∃ Q5 : zMem → Prop, zConV G mX8_forgetOldest d [.ref 44] h Q5 ∧ (∀ h6, Q5 h6 → zSh1 h6 t ∧ vp_in (zI h6 44 3) 20 ∧ vp_in (zI (zsI h6 45 (zI h6 44 3).toNatClampNeg x1) 44 3) 20 ∧ vp_in (zI (zsI (zsI h6 45 (zI h6 44 3).toNatClampNeg x1) 46 (zI (zsI h6 45 (zI h6 44 3).toNatClampNeg x1) 44 3).toNatClampNeg x2) 44 3) 20 ∧ Q (zsI (zsI (zsI (zsI h6 45 (zI h6 44 3).toNatClampNeg x1) 46 (zI (zsI h6 45 (zI h6 44 3).toNatClampNeg x1) 44 3).toNatClampNeg x2) 47 (zI (zsI (zsI h6 45 (zI h6 44 3).toNatClampNeg x1) 46 (zI (zsI h6 45 (zI h6 44 3).toNatClampNeg x1) 44 3).toNatClampNeg x2) 44 3).toNatClampNeg x3) 44 3 ((zI (zsI (zsI (zsI h6 45 (zI h6 44 3).toNatClampNeg x1) 46 (zI (zsI h6 45 (zI h6 44 3).toNatClampNeg x1) 44 3).toNatClampNeg x2) 47 (zI (zsI (zsI h6 45 (zI h6 44 3).toNatClampNeg x1) 46 (zI (zsI h6 45 (zI h6 44 3).toNatClampNeg x1) 44 3).toNatClampNeg x2) 44 3).toNatClampNeg x3) 44 3) + (1 : Int32)))))) : zg G mX8_add (d + 1) 0 [.ref 44, .int x1, .int x2, .int x3] [] h (zPV Q) := by
  refine z_aload_n 0 rfl rfl ?_
  refine z_getI 1 rfl lX8_21 rfl (hS.1.o 44 7 rfl rfl rfl) ?_
  refine z_bipush (v := 20) 2 rfl (by decide) ?_
  refine z_icmp_ne 3 13 rfl (by decide) ⟨fun c1 => ?_, fun c1 => ?_⟩
  · have B := B.1 c1
    refine z_aload_n 6 rfl rfl ?_
    refine z_getR 7 rfl lX8_9 rfl (hS.1.o 44 7 rfl rfl rfl) (hS.1.r 44 0 45 rfl rfl rfl) ?_
    refine z_aload_n 8 rfl rfl ?_
    refine z_getI 9 rfl lX8_21 rfl (hS.1.o 44 7 rfl rfl rfl) ?_
    refine z_iload_n 10 rfl rfl ?_
    obtain ⟨o2, B⟩ := B
    refine z_iast 11 rfl (hS.1.o 45 100 rfl rfl rfl) (zin (hS.1.l 45 20 rfl rfl rfl) o2) ?_
    refine z_aload_n 12 rfl rfl ?_
    refine z_getR 13 rfl lX8_15 rfl (hS.1.o 44 7 rfl rfl rfl) (hS.1.r 44 1 46 rfl rfl rfl) ?_
    refine z_aload_n 14 rfl rfl ?_
    refine z_getI 15 rfl lX8_21 rfl (hS.1.o 44 7 rfl rfl rfl) ?_
    refine z_iload_n 16 rfl rfl ?_
    obtain ⟨o3, B⟩ := B
    refine z_iast 17 rfl (hS.1.o 46 100 rfl rfl rfl) (zin (hS.1.l 46 20 rfl rfl rfl) o3) ?_
    refine z_aload_n 18 rfl rfl ?_
    refine z_getR 19 rfl lX8_18 rfl (hS.1.o 44 7 rfl rfl rfl) (hS.1.r 44 2 47 rfl rfl rfl) ?_
    refine z_aload_n 20 rfl rfl ?_
    refine z_getI 21 rfl lX8_21 rfl (hS.1.o 44 7 rfl rfl rfl) ?_
    refine z_iload_n 22 rfl rfl ?_
    obtain ⟨o4, B⟩ := B
    refine z_iast 23 rfl (hS.1.o 47 100 rfl rfl rfl) (zin (hS.1.l 47 20 rfl rfl rfl) o4) ?_
    refine z_aload_n 24 rfl rfl ?_
    refine z_dup 25 rfl rfl ?_
    refine z_getI 26 rfl lX8_21 rfl (hS.1.o 44 7 rfl rfl rfl) ?_
    refine z_iconst (v := 1) 27 rfl (by decide) ?_
    refine z_iadd 28 rfl ?_
    refine z_putI 29 rfl lX8_21 ⟨_, _, _, rfl, rfl⟩ rfl rfl rfl (hS.1.o 44 7 rfl rfl rfl) ?_
    exact z_vret 30 rfl rfl ⟨rfl, rfl⟩ ⟨rfl, B⟩
  · have B := B.2 c1
    refine z_aload_n 4 rfl rfl ?_
    obtain ⟨Q5, K7, B⟩ := B
    refine z_cVV0 (ν := mX8_forgetOldest) 5 rfl rfl fX8_forgetOldest gX8_25 ⟨_, rfl, rfl⟩ (by decide) (hS.1.o 44 7 rfl rfl rfl) (Nat.le_of_ble_eq_true rfl) K7 (fun h6 q => ?_)
    obtain ⟨hSh6, B⟩ := B h6 q
    refine z_aload_n 6 rfl rfl ?_
    refine z_getR 7 rfl lX8_9 rfl (hSh6.1.o 44 7 rfl rfl rfl) (hSh6.1.r 44 0 45 rfl rfl rfl) ?_
    refine z_aload_n 8 rfl rfl ?_
    refine z_getI 9 rfl lX8_21 rfl (hSh6.1.o 44 7 rfl rfl rfl) ?_
    refine z_iload_n 10 rfl rfl ?_
    obtain ⟨o8, B⟩ := B
    refine z_iast 11 rfl (hSh6.1.o 45 100 rfl rfl rfl) (zin (hSh6.1.l 45 20 rfl rfl rfl) o8) ?_
    refine z_aload_n 12 rfl rfl ?_
    refine z_getR 13 rfl lX8_15 rfl (hSh6.1.o 44 7 rfl rfl rfl) (hSh6.1.r 44 1 46 rfl rfl rfl) ?_
    refine z_aload_n 14 rfl rfl ?_
    refine z_getI 15 rfl lX8_21 rfl (hSh6.1.o 44 7 rfl rfl rfl) ?_
    refine z_iload_n 16 rfl rfl ?_
    obtain ⟨o9, B⟩ := B
    refine z_iast 17 rfl (hSh6.1.o 46 100 rfl rfl rfl) (zin (hSh6.1.l 46 20 rfl rfl rfl) o9) ?_
    refine z_aload_n 18 rfl rfl ?_
    refine z_getR 19 rfl lX8_18 rfl (hSh6.1.o 44 7 rfl rfl rfl) (hSh6.1.r 44 2 47 rfl rfl rfl) ?_
    refine z_aload_n 20 rfl rfl ?_
    refine z_getI 21 rfl lX8_21 rfl (hSh6.1.o 44 7 rfl rfl rfl) ?_
    refine z_iload_n 22 rfl rfl ?_
    obtain ⟨o10, B⟩ := B
    refine z_iast 23 rfl (hSh6.1.o 47 100 rfl rfl rfl) (zin (hSh6.1.l 47 20 rfl rfl rfl) o10) ?_
    refine z_aload_n 24 rfl rfl ?_
    refine z_dup 25 rfl rfl ?_
    refine z_getI 26 rfl lX8_21 rfl (hSh6.1.o 44 7 rfl rfl rfl) ?_
    refine z_iconst (v := 1) 27 rfl (by decide) ?_
    refine z_iadd 28 rfl ?_
    refine z_putI 29 rfl lX8_21 ⟨_, _, _, rfl, rfl⟩ rfl rfl rfl (hSh6.1.o 44 7 rfl rfl rfl) ?_
    exact z_vret 30 rfl rfl ⟨rfl, rfl⟩ ⟨rfl, B⟩
theorem cn_X8_add {G : zG} {d : Nat} {h : zMem} {Q : zMem → Prop} {x1 : Int32} {x2 : Int32} {x3 : Int32} (B : zg G mX8_add (d + 1) 0 [.ref 44, .int x1, .int x2, .int x3] [] h (zPV Q)) : zConV G mX8_add (d + 1) [.ref 44, .int x1, .int x2, .int x3] h Q := zcon0 (by decide +kernel) eX8_add (Nat.le_of_ble_eq_true rfl) rfl B
set_option maxRecDepth 100000 in
set_option maxHeartbeats 4000000 in
theorem sg_X8_forgetOldest_0 {G : zG} {d : Nat} {h : zMem} {Q : zMem → Prop} {t : Nat}  (hS : zSh1 h t)  (B : zg G mX8_forgetOldest d 2 [.ref 44, .int (1 : Int32)] [] h (zPV Q)) : zg G mX8_forgetOldest d 0 [.ref 44, zU] [] h (zPV Q) := by
  refine z_iconst (v := 1) 0 rfl (by decide) ?_
  refine z_istore_n 1 rfl (by decide) rfl ?_
  exact B
theorem cn_X8_forgetOldest {G : zG} {d : Nat} {h : zMem} {Q : zMem → Prop}  (B : zg G mX8_forgetOldest d 0 [.ref 44, zU] [] h (zPV Q)) : zConV G mX8_forgetOldest d [.ref 44] h Q := zcon0 (by decide +kernel) eX8_forgetOldest (Nat.le_of_ble_eq_true rfl) rfl B
set_option maxRecDepth 100000 in
set_option maxHeartbeats 4000000 in
theorem sg_X8_forgetOldest_2 {G : zG} {d : Nat} {h : zMem} {Q : zMem → Prop} {t : Nat} {x1 : Int32} (hS : zSh1 h t)  (B : ((zI h 44 3) ≤ x1 → Q (zsI h 44 3 ((zI h 44 3) - (1 : Int32)))) ∧ (¬ (zI h 44 3) ≤ x1 → vp_in x1 20 ∧ vp_in (x1 - (1 : Int32)) 20 ∧ zg G mX8_forgetOldest d 2 [.ref 44, .int (x1 + 1)] [] (zsI (zsI (zsI h 45 (x1 - (1 : Int32)).toNatClampNeg (zI h 45 x1.toNatClampNeg)) 46 (x1 - (1 : Int32)).toNatClampNeg (zI (zsI h 45 (x1 - (1 : Int32)).toNatClampNeg (zI h 45 x1.toNatClampNeg)) 46 x1.toNatClampNeg)) 47 (x1 - (1 : Int32)).toNatClampNeg (zI (zsI (zsI h 45 (x1 - (1 : Int32)).toNatClampNeg (zI h 45 x1.toNatClampNeg)) 46 (x1 - (1 : Int32)).toNatClampNeg (zI (zsI h 45 (x1 - (1 : Int32)).toNatClampNeg (zI h 45 x1.toNatClampNeg)) 46 x1.toNatClampNeg)) 47 x1.toNatClampNeg)) (zPV Q))) : zg G mX8_forgetOldest d 2 [.ref 44, .int x1] [] h (zPV Q) := by
  refine z_iload_n 2 rfl rfl ?_
  refine z_aload_n 3 rfl rfl ?_
  refine z_getI 4 rfl lX8_21 rfl (hS.1.o 44 7 rfl rfl rfl) ?_
  refine z_icmp_ge 5 58 rfl (by decide) ⟨fun c1 => ?_, fun c1 => ?_⟩
  · have B := B.1 c1
    refine z_aload_n 38 rfl rfl ?_
    refine z_dup 39 rfl rfl ?_
    refine z_getI 40 rfl lX8_21 rfl (hS.1.o 44 7 rfl rfl rfl) ?_
    refine z_iconst (v := 1) 41 rfl (by decide) ?_
    refine z_isub 42 rfl ?_
    refine z_putI 43 rfl lX8_21 ⟨_, _, _, rfl, rfl⟩ rfl rfl rfl (hS.1.o 44 7 rfl rfl rfl) ?_
    exact z_vret 44 rfl rfl ⟨rfl, rfl⟩ ⟨rfl, B⟩
  · have B := B.2 c1
    refine z_aload_n 6 rfl rfl ?_
    refine z_getR 7 rfl lX8_9 rfl (hS.1.o 44 7 rfl rfl rfl) (hS.1.r 44 0 45 rfl rfl rfl) ?_
    refine z_iload_n 8 rfl rfl ?_
    refine z_iconst (v := 1) 9 rfl (by decide) ?_
    refine z_isub 10 rfl ?_
    refine z_aload_n 11 rfl rfl ?_
    refine z_getR 12 rfl lX8_9 rfl (hS.1.o 44 7 rfl rfl rfl) (hS.1.r 44 0 45 rfl rfl rfl) ?_
    refine z_iload_n 13 rfl rfl ?_
    obtain ⟨o2, B⟩ := B
    refine z_iald 14 rfl (hS.1.o 45 100 rfl rfl rfl) (zin (hS.1.l 45 20 rfl rfl rfl) o2) ?_
    obtain ⟨o3, B⟩ := B
    refine z_iast 15 rfl (hS.1.o 45 100 rfl rfl rfl) (zin (hS.1.l 45 20 rfl rfl rfl) o3) ?_
    refine z_aload_n 16 rfl rfl ?_
    refine z_getR 17 rfl lX8_15 rfl (hS.1.o 44 7 rfl rfl rfl) (hS.1.r 44 1 46 rfl rfl rfl) ?_
    refine z_iload_n 18 rfl rfl ?_
    refine z_iconst (v := 1) 19 rfl (by decide) ?_
    refine z_isub 20 rfl ?_
    refine z_aload_n 21 rfl rfl ?_
    refine z_getR 22 rfl lX8_15 rfl (hS.1.o 44 7 rfl rfl rfl) (hS.1.r 44 1 46 rfl rfl rfl) ?_
    refine z_iload_n 23 rfl rfl ?_
    refine z_iald 24 rfl (hS.1.o 46 100 rfl rfl rfl) (zin (hS.1.l 46 20 rfl rfl rfl) o2) ?_
    refine z_iast 25 rfl (hS.1.o 46 100 rfl rfl rfl) (zin (hS.1.l 46 20 rfl rfl rfl) o3) ?_
    refine z_aload_n 26 rfl rfl ?_
    refine z_getR 27 rfl lX8_18 rfl (hS.1.o 44 7 rfl rfl rfl) (hS.1.r 44 2 47 rfl rfl rfl) ?_
    refine z_iload_n 28 rfl rfl ?_
    refine z_iconst (v := 1) 29 rfl (by decide) ?_
    refine z_isub 30 rfl ?_
    refine z_aload_n 31 rfl rfl ?_
    refine z_getR 32 rfl lX8_18 rfl (hS.1.o 44 7 rfl rfl rfl) (hS.1.r 44 2 47 rfl rfl rfl) ?_
    refine z_iload_n 33 rfl rfl ?_
    refine z_iald 34 rfl (hS.1.o 47 100 rfl rfl rfl) (zin (hS.1.l 47 20 rfl rfl rfl) o2) ?_
    refine z_iast 35 rfl (hS.1.o 47 100 rfl rfl rfl) (zin (hS.1.l 47 20 rfl rfl rfl) o3) ?_
    refine z_iinc (v := 1) 36 rfl rfl (by decide) (by decide) rfl ?_
    refine z_goto 37 2 rfl (by decide) ?_
    exact B
theorem zsw_X8_takeBack_38 {x : Int32} (z1 : ¬ x.toInt < 0) (z2 : ¬ 2 < x.toInt) (c0 : ¬ x = 0) (c1 : ¬ x = 1) (c2 : ¬ x = 2) : (#[26, 44, 62] : Array Int)[(x.toInt - 0).toNat]? = some 80 := by
  obtain ⟨v, hv⟩ : ∃ v : Int, v = x.toInt := ⟨_, rfl⟩
  have c0 : v ≠ 0 := fun e => c0 (Int32.toInt_inj.mp (by rw [← hv, e]; decide))
  have c1 : v ≠ 1 := fun e => c1 (Int32.toInt_inj.mp (by rw [← hv, e]; decide))
  have c2 : v ≠ 2 := fun e => c2 (Int32.toInt_inj.mp (by rw [← hv, e]; decide))
  rw [← hv] at z1 z2 ⊢
  rcases (show v = 0 ∨ v = 1 ∨ v = 2 by omega) with rfl | rfl | rfl
  all_goals first | exact absurd rfl (by assumption) | decide
set_option maxRecDepth 100000 in
set_option maxHeartbeats 4000000 in
theorem sg_X8_takeBack_0 {G : zG} {d : Nat} {h : zMem} {Q : Int32 → zMem → Prop} {t : Nat} {a1 : Nat} (hS : zSh1 h t) (hs1 : isSt a1) (B : (¬ (zI h 44 3) = 0 → vp_in (zI (zsI h 44 3 ((zI h 44 3) - (1 : Int32))) 44 3) 20 ∧ ((zI (zsI h 44 3 ((zI h 44 3) - (1 : Int32))) 45 (zI (zsI h 44 3 ((zI h 44 3) - (1 : Int32))) 44 3).toNatClampNeg) = 0 → vp_in (zI (zsI h 44 3 ((zI h 44 3) - (1 : Int32))) 46 (zI (zsI h 44 3 ((zI h 44 3) - (1 : Int32))) 44 3).toNatClampNeg) 5 ∧ Q (zI (zsI (zsI h 44 3 ((zI h 44 3) - (1 : Int32))) (a1 + 12) (zI (zsI h 44 3 ((zI h 44 3) - (1 : Int32))) 46 (zI (zsI h 44 3 ((zI h 44 3) - (1 : Int32))) 44 3).toNatClampNeg).toNatClampNeg (zI (zsI h 44 3 ((zI h 44 3) - (1 : Int32))) 47 (zI (zsI h 44 3 ((zI h 44 3) - (1 : Int32))) 44 3).toNatClampNeg)) 44 3) (zsI (zsI h 44 3 ((zI h 44 3) - (1 : Int32))) (a1 + 12) (zI (zsI h 44 3 ((zI h 44 3) - (1 : Int32))) 46 (zI (zsI h 44 3 ((zI h 44 3) - (1 : Int32))) 44 3).toNatClampNeg).toNatClampNeg (zI (zsI h 44 3 ((zI h 44 3) - (1 : Int32))) 47 (zI (zsI h 44 3 ((zI h 44 3) - (1 : Int32))) 44 3).toNatClampNeg))) ∧ ((zI (zsI h 44 3 ((zI h 44 3) - (1 : Int32))) 45 (zI (zsI h 44 3 ((zI h 44 3) - (1 : Int32))) 44 3).toNatClampNeg) = 1 → vp_in (zI (zsI h 44 3 ((zI h 44 3) - (1 : Int32))) 46 (zI (zsI h 44 3 ((zI h 44 3) - (1 : Int32))) 44 3).toNatClampNeg) 6 ∧ Q (zI (zsI (zsI h 44 3 ((zI h 44 3) - (1 : Int32))) (a1 + 2) (zI (zsI h 44 3 ((zI h 44 3) - (1 : Int32))) 46 (zI (zsI h 44 3 ((zI h 44 3) - (1 : Int32))) 44 3).toNatClampNeg).toNatClampNeg (zI (zsI h 44 3 ((zI h 44 3) - (1 : Int32))) 47 (zI (zsI h 44 3 ((zI h 44 3) - (1 : Int32))) 44 3).toNatClampNeg)) 44 3) (zsI (zsI h 44 3 ((zI h 44 3) - (1 : Int32))) (a1 + 2) (zI (zsI h 44 3 ((zI h 44 3) - (1 : Int32))) 46 (zI (zsI h 44 3 ((zI h 44 3) - (1 : Int32))) 44 3).toNatClampNeg).toNatClampNeg (zI (zsI h 44 3 ((zI h 44 3) - (1 : Int32))) 47 (zI (zsI h 44 3 ((zI h 44 3) - (1 : Int32))) 44 3).toNatClampNeg))) ∧ ((zI (zsI h 44 3 ((zI h 44 3) - (1 : Int32))) 45 (zI (zsI h 44 3 ((zI h 44 3) - (1 : Int32))) 44 3).toNatClampNeg) = 2 → vp_in (zI (zsI h 44 3 ((zI h 44 3) - (1 : Int32))) 46 (zI (zsI h 44 3 ((zI h 44 3) - (1 : Int32))) 44 3).toNatClampNeg) 6 ∧ Q (zI (zsI (zsI h 44 3 ((zI h 44 3) - (1 : Int32))) (a1 + 1) (zI (zsI h 44 3 ((zI h 44 3) - (1 : Int32))) 46 (zI (zsI h 44 3 ((zI h 44 3) - (1 : Int32))) 44 3).toNatClampNeg).toNatClampNeg (zI (zsI h 44 3 ((zI h 44 3) - (1 : Int32))) 47 (zI (zsI h 44 3 ((zI h 44 3) - (1 : Int32))) 44 3).toNatClampNeg)) 44 3) (zsI (zsI h 44 3 ((zI h 44 3) - (1 : Int32))) (a1 + 1) (zI (zsI h 44 3 ((zI h 44 3) - (1 : Int32))) 46 (zI (zsI h 44 3 ((zI h 44 3) - (1 : Int32))) 44 3).toNatClampNeg).toNatClampNeg (zI (zsI h 44 3 ((zI h 44 3) - (1 : Int32))) 47 (zI (zsI h 44 3 ((zI h 44 3) - (1 : Int32))) 44 3).toNatClampNeg))) ∧ (¬ (zI (zsI h 44 3 ((zI h 44 3) - (1 : Int32))) 45 (zI (zsI h 44 3 ((zI h 44 3) - (1 : Int32))) 44 3).toNatClampNeg) = 0 → ¬ (zI (zsI h 44 3 ((zI h 44 3) - (1 : Int32))) 45 (zI (zsI h 44 3 ((zI h 44 3) - (1 : Int32))) 44 3).toNatClampNeg) = 1 → ¬ (zI (zsI h 44 3 ((zI h 44 3) - (1 : Int32))) 45 (zI (zsI h 44 3 ((zI h 44 3) - (1 : Int32))) 44 3).toNatClampNeg) = 2 → vp_in (zI (zsI h 44 3 ((zI h 44 3) - (1 : Int32))) 46 (zI (zsI h 44 3 ((zI h 44 3) - (1 : Int32))) 44 3).toNatClampNeg) 5 ∧ Q (zI (zsI (zsI h 44 3 ((zI h 44 3) - (1 : Int32))) (a1 + 11) (zI (zsI h 44 3 ((zI h 44 3) - (1 : Int32))) 46 (zI (zsI h 44 3 ((zI h 44 3) - (1 : Int32))) 44 3).toNatClampNeg).toNatClampNeg (zI (zsI h 44 3 ((zI h 44 3) - (1 : Int32))) 47 (zI (zsI h 44 3 ((zI h 44 3) - (1 : Int32))) 44 3).toNatClampNeg)) 44 3) (zsI (zsI h 44 3 ((zI h 44 3) - (1 : Int32))) (a1 + 11) (zI (zsI h 44 3 ((zI h 44 3) - (1 : Int32))) 46 (zI (zsI h 44 3 ((zI h 44 3) - (1 : Int32))) 44 3).toNatClampNeg).toNatClampNeg (zI (zsI h 44 3 ((zI h 44 3) - (1 : Int32))) 47 (zI (zsI h 44 3 ((zI h 44 3) - (1 : Int32))) 44 3).toNatClampNeg)))) ∧ ((zI h 44 3) = 0 → Q (-1 : Int32) h)) : zg G mX8_takeBack d 0 [.ref 44, .ref a1, zU] [] h (zPI Q) := by
  refine z_aload_n 0 rfl rfl ?_
  refine z_getI 1 rfl lX8_21 rfl (hS.1.o 44 7 rfl rfl rfl) ?_
  refine z_if_ne 2 9 rfl (by decide) ⟨fun c1 => ?_, fun c1 => ?_⟩
  · have B := B.1 c1
    refine z_aload_n 5 rfl rfl ?_
    refine z_dup 6 rfl rfl ?_
    refine z_getI 7 rfl lX8_21 rfl (hS.1.o 44 7 rfl rfl rfl) ?_
    refine z_iconst (v := 1) 8 rfl (by decide) ?_
    refine z_isub 9 rfl ?_
    refine z_putI 10 rfl lX8_21 ⟨_, _, _, rfl, rfl⟩ rfl rfl rfl (hS.1.o 44 7 rfl rfl rfl) ?_
    refine z_aload_n 11 rfl rfl ?_
    refine z_getR 12 rfl lX8_15 rfl (hS.1.o 44 7 rfl rfl rfl) (hS.1.r 44 1 46 rfl rfl rfl) ?_
    refine z_aload_n 13 rfl rfl ?_
    refine z_getI 14 rfl lX8_21 rfl (hS.1.o 44 7 rfl rfl rfl) ?_
    obtain ⟨o2, B⟩ := B
    refine z_iald 15 rfl (hS.1.o 46 100 rfl rfl rfl) (zin (hS.1.l 46 20 rfl rfl rfl) o2) ?_
    refine z_istore_n 16 rfl (by decide) rfl ?_
    refine z_aload_n 17 rfl rfl ?_
    refine z_getR 18 rfl lX8_9 rfl (hS.1.o 44 7 rfl rfl rfl) (hS.1.r 44 0 45 rfl rfl rfl) ?_
    refine z_aload_n 19 rfl rfl ?_
    refine z_getI 20 rfl lX8_21 rfl (hS.1.o 44 7 rfl rfl rfl) ?_
    refine z_iald 21 rfl (hS.1.o 45 100 rfl rfl rfl) (zin (hS.1.l 45 20 rfl rfl rfl) o2) ?_
    by_cases c7_0 : (zI (zsI h 44 3 ((zI h 44 3) - (1 : Int32))) 45 (zI (zsI h 44 3 ((zI h 44 3) - (1 : Int32))) 44 3).toNatClampNeg) = 0
    · obtain ⟨B, -⟩ := B
      refine z_tableIn 22 64 rfl 0 (by rw [c7_0]; decide) (by decide) (by decide) rfl (by decide) ?_
      have B := B c7_0
      refine z_aload_n 23 rfl rfl ?_
      refine z_getR 24 rfl lX8_28 rfl (zS_so hS hs1 0 5 rfl rfl) (zS_sr hS hs1 0 5 12 rfl rfl rfl) ?_
      refine z_iload_n 25 rfl rfl ?_
      refine z_aload_n 26 rfl rfl ?_
      refine z_getR 27 rfl lX8_18 rfl (hS.1.o 44 7 rfl rfl rfl) (hS.1.r 44 2 47 rfl rfl rfl) ?_
      refine z_aload_n 28 rfl rfl ?_
      refine z_getI 29 rfl lX8_21 rfl (hS.1.o 44 7 rfl rfl rfl) ?_
      refine z_iald 30 rfl (hS.1.o 47 100 rfl rfl rfl) (zin (hS.1.l 47 20 rfl rfl rfl) o2) ?_
      obtain ⟨o3, B⟩ := B
      refine z_iast 31 rfl (zS_so hS hs1 12 100 rfl rfl) (zin (zS_sl hS hs1 12 5 rfl rfl) o3) ?_
      refine z_goto 32 133 rfl (by decide) ?_
      refine z_aload_n 62 rfl rfl ?_
      refine z_getI 63 rfl lX8_21 rfl (hS.1.o 44 7 rfl rfl rfl) ?_
      exact z_iret 64 rfl rfl rfl ⟨rfl, rfl⟩ ⟨_, rfl, B⟩
    obtain ⟨-, B⟩ := B
    by_cases c7_1 : (zI (zsI h 44 3 ((zI h 44 3) - (1 : Int32))) 45 (zI (zsI h 44 3 ((zI h 44 3) - (1 : Int32))) 44 3).toNatClampNeg) = 1
    · obtain ⟨B, -⟩ := B
      refine z_tableIn 22 82 rfl 1 (by rw [c7_1]; decide) (by decide) (by decide) rfl (by decide) ?_
      have B := B c7_1
      refine z_aload_n 33 rfl rfl ?_
      refine z_getR 34 rfl lX8_33 rfl (zS_so hS hs1 0 5 rfl rfl) (zS_sr hS hs1 0 1 2 rfl rfl rfl) ?_
      refine z_iload_n 35 rfl rfl ?_
      refine z_aload_n 36 rfl rfl ?_
      refine z_getR 37 rfl lX8_18 rfl (hS.1.o 44 7 rfl rfl rfl) (hS.1.r 44 2 47 rfl rfl rfl) ?_
      refine z_aload_n 38 rfl rfl ?_
      refine z_getI 39 rfl lX8_21 rfl (hS.1.o 44 7 rfl rfl rfl) ?_
      refine z_iald 40 rfl (hS.1.o 47 100 rfl rfl rfl) (zin (hS.1.l 47 20 rfl rfl rfl) o2) ?_
      obtain ⟨o4, B⟩ := B
      refine z_iast 41 rfl (zS_so hS hs1 2 100 rfl rfl) (zin (zS_sl hS hs1 2 6 rfl rfl) o4) ?_
      refine z_goto 42 133 rfl (by decide) ?_
      refine z_aload_n 62 rfl rfl ?_
      refine z_getI 63 rfl lX8_21 rfl (hS.1.o 44 7 rfl rfl rfl) ?_
      exact z_iret 64 rfl rfl rfl ⟨rfl, rfl⟩ ⟨_, rfl, B⟩
    obtain ⟨-, B⟩ := B
    by_cases c7_2 : (zI (zsI h 44 3 ((zI h 44 3) - (1 : Int32))) 45 (zI (zsI h 44 3 ((zI h 44 3) - (1 : Int32))) 44 3).toNatClampNeg) = 2
    · obtain ⟨B, -⟩ := B
      refine z_tableIn 22 100 rfl 2 (by rw [c7_2]; decide) (by decide) (by decide) rfl (by decide) ?_
      have B := B c7_2
      refine z_aload_n 43 rfl rfl ?_
      refine z_getR 44 rfl lX8_36 rfl (zS_so hS hs1 0 5 rfl rfl) (zS_sr hS hs1 0 0 1 rfl rfl rfl) ?_
      refine z_iload_n 45 rfl rfl ?_
      refine z_aload_n 46 rfl rfl ?_
      refine z_getR 47 rfl lX8_18 rfl (hS.1.o 44 7 rfl rfl rfl) (hS.1.r 44 2 47 rfl rfl rfl) ?_
      refine z_aload_n 48 rfl rfl ?_
      refine z_getI 49 rfl lX8_21 rfl (hS.1.o 44 7 rfl rfl rfl) ?_
      refine z_iald 50 rfl (hS.1.o 47 100 rfl rfl rfl) (zin (hS.1.l 47 20 rfl rfl rfl) o2) ?_
      obtain ⟨o5, B⟩ := B
      refine z_iast 51 rfl (zS_so hS hs1 1 100 rfl rfl) (zin (zS_sl hS hs1 1 6 rfl rfl) o5) ?_
      refine z_goto 52 133 rfl (by decide) ?_
      refine z_aload_n 62 rfl rfl ?_
      refine z_getI 63 rfl lX8_21 rfl (hS.1.o 44 7 rfl rfl rfl) ?_
      exact z_iret 64 rfl rfl rfl ⟨rfl, rfl⟩ ⟨_, rfl, B⟩
    obtain ⟨-, B⟩ := B
    have B := B c7_0 c7_1 c7_2
    refine z_tableD 22 118 rfl (by decide) (by
      intro z1 z2
      refine zsw_X8_takeBack_38 z1 z2 c7_0 c7_1 c7_2) ?_
    refine z_aload_n 53 rfl rfl ?_
    refine z_getR 54 rfl lX8_39 rfl (zS_so hS hs1 0 5 rfl rfl) (zS_sr hS hs1 0 4 11 rfl rfl rfl) ?_
    refine z_iload_n 55 rfl rfl ?_
    refine z_aload_n 56 rfl rfl ?_
    refine z_getR 57 rfl lX8_18 rfl (hS.1.o 44 7 rfl rfl rfl) (hS.1.r 44 2 47 rfl rfl rfl) ?_
    refine z_aload_n 58 rfl rfl ?_
    refine z_getI 59 rfl lX8_21 rfl (hS.1.o 44 7 rfl rfl rfl) ?_
    refine z_iald 60 rfl (hS.1.o 47 100 rfl rfl rfl) (zin (hS.1.l 47 20 rfl rfl rfl) o2) ?_
    obtain ⟨o6, B⟩ := B
    refine z_iast 61 rfl (zS_so hS hs1 11 100 rfl rfl) (zin (zS_sl hS hs1 11 5 rfl rfl) o6) ?_
    refine z_aload_n 62 rfl rfl ?_
    refine z_getI 63 rfl lX8_21 rfl (hS.1.o 44 7 rfl rfl rfl) ?_
    exact z_iret 64 rfl rfl rfl ⟨rfl, rfl⟩ ⟨_, rfl, B⟩
  · have B := B.2 c1
    refine z_iconst (v := -1) 3 rfl (by decide) ?_
    exact z_iret 4 rfl rfl rfl ⟨rfl, rfl⟩ ⟨_, rfl, B⟩
theorem cn_X8_takeBack {G : zG} {d : Nat} {h : zMem} {Q : Int32 → zMem → Prop} {a1 : Nat} (B : zg G mX8_takeBack d 0 [.ref 44, .ref a1, zU] [] h (zPI Q)) : zConI G mX8_takeBack d [.ref 44, .ref a1] h Q := zcon0 (by decide +kernel) eX8_takeBack (Nat.le_of_ble_eq_true rfl) rfl B
