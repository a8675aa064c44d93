set_option maxRecDepth 100000 in
set_option maxHeartbeats 4000000 in
theorem sg_X5_begin_0 {G : zG} {d : Nat} {h : zMem} {Q : zMem → Prop} {t : Nat} {a0 : Nat} {a1 : Nat} (hS : zSh1 h t) (hs0 : isSt a0) (ht1 : isTd a1) (B : zg G mX5_begin (d + 1) 2 [.ref a0, .ref a1, .int (0 : Int32)] [] h (zPV Q)) : zg G mX5_begin (d + 1) 0 [.ref a0, .ref a1, zU] [] h (zPV Q) := by
  refine z_iconst (v := 0) 0 rfl (by decide) ?_
  refine z_istore_n 1 rfl (by decide) rfl ?_
  exact B
theorem cn_X5_begin {G : zG} {d : Nat} {h : zMem} {Q : zMem → Prop} {a0 : Nat} {a1 : Nat} (B : zg G mX5_begin (d + 1) 0 [.ref a0, .ref a1, zU] [] h (zPV Q)) : zConV G mX5_begin (d + 1) [.ref a0, .ref a1] h Q := zcon0 (by decide +kernel) eX5_begin (Nat.le_of_ble_eq_true rfl) rfl B
set_option maxRecDepth 100000 in
set_option maxHeartbeats 4000000 in
theorem sg_X5_begin_2 {G : zG} {d : Nat} {h : zMem} {Q : zMem → Prop} {t : Nat} {a0 : Nat} {a1 : Nat} {x2 : Int32} (hS : zSh1 h t) (hs0 : isSt a0) (ht1 : isTd a1) (B : ((6 : Int32) ≤ x2 → zg G mX5_begin (d + 1) 35 [.ref a0, .ref a1, .int (0 : Int32)] [] h (zPV Q)) ∧ (¬ (6 : Int32) ≤ x2 → vp_in x2 6 ∧ zg G mX5_begin (d + 1) 2 [.ref a0, .ref a1, .int (x2 + 1)] [] (zsI (zsI h (a0 + 1) x2.toNatClampNeg (zI h (a1 + 7) x2.toNatClampNeg)) (a0 + 2) x2.toNatClampNeg (0 : Int32)) (zPV Q))) : zg G mX5_begin (d + 1) 2 [.ref a0, .ref a1, .int x2] [] h (zPV Q) := by
  refine z_iload_n 2 rfl rfl ?_
  refine z_bipush (v := 6) 3 rfl (by decide) ?_
  refine z_icmp_ge 4 33 rfl (by decide) ⟨fun c1 => ?_, fun c1 => ?_⟩
  · have B := B.1 c1
    refine z_iconst (v := 0) 20 rfl (by decide) ?_
    refine z_istore_n 21 rfl (by decide) rfl ?_
    exact B
  · have B := B.2 c1
    refine z_aload_n 5 rfl rfl ?_
    refine z_getR 6 rfl lX5_9 rfl (zS_so hS hs0 0 5 rfl rfl) (zS_sr hS hs0 0 0 1 rfl rfl rfl) ?_
    refine z_iload_n 7 rfl rfl ?_
    refine z_aload_n 8 rfl rfl ?_
    refine z_getR 9 rfl lX5_44 rfl (zS_to hS ht1 0 6 rfl rfl) (zS_tr hS ht1 0 2 7 rfl rfl rfl) ?_
    refine z_iload_n 10 rfl rfl ?_
    obtain ⟨o2, B⟩ := B
    refine z_iald 11 rfl (zS_to hS ht1 7 100 rfl rfl) (zin (zS_tl hS ht1 7 6 rfl rfl) o2) ?_
    refine z_iast 12 rfl (zS_so hS hs0 1 100 rfl rfl) (zin (zS_sl hS hs0 1 6 rfl rfl) o2) ?_
    refine z_aload_n 13 rfl rfl ?_
    refine z_getR 14 rfl lX5_15 rfl (zS_so hS hs0 0 5 rfl rfl) (zS_sr hS hs0 0 1 2 rfl rfl rfl) ?_
    refine z_iload_n 15 rfl rfl ?_
    refine z_iconst (v := 0) 16 rfl (by decide) ?_
    refine z_iast 17 rfl (zS_so hS hs0 2 100 rfl rfl) (zin (zS_sl hS hs0 2 6 rfl rfl) o2) ?_
    refine z_iinc (v := 1) 18 rfl rfl (by decide) (by decide) rfl ?_
    refine z_goto 19 2 rfl (by decide) ?_
    exact B
set_option maxRecDepth 100000 in
set_option maxHeartbeats 4000000 in
theorem sg_X5_begin_35 {G : zG} {d : Nat} {h : zMem} {Q : zMem → Prop} {t : Nat} {a0 : Nat} {a1 : Nat} {x2 : Int32} (hS : zSh1 h t) (hs0 : isSt a0) (ht1 : isTd a1) (B : ((6 : Int32) ≤ x2 → zg G mX5_begin (d + 1) 61 [.ref a0, .ref a1, .int (0 : Int32)] [] h (zPV Q)) ∧ (¬ (6 : Int32) ≤ x2 → vp_in x2 6 ∧ zg G mX5_begin (d + 1) 35 [.ref a0, .ref a1, .int (x2 + 1)] [] (zsI h (a0 + 3) x2.toNatClampNeg (zI h (a1 + 18) x2.toNatClampNeg)) (zPV Q))) : zg G mX5_begin (d + 1) 35 [.ref a0, .ref a1, .int x2] [] h (zPV Q) := by
  refine z_iload_n 22 rfl rfl ?_
  refine z_bipush (v := 6) 23 rfl (by decide) ?_
  refine z_icmp_ge 24 59 rfl (by decide) ⟨fun c1 => ?_, fun c1 => ?_⟩
  · have B := B.1 c1
    refine z_iconst (v := 0) 35 rfl (by decide) ?_
    refine z_istore_n 36 rfl (by decide) rfl ?_
    exact B
  · have B := B.2 c1
    refine z_aload_n 25 rfl rfl ?_
    refine z_getR 26 rfl lX5_18 rfl (zS_so hS hs0 0 5 rfl rfl) (zS_sr hS hs0 0 2 3 rfl rfl rfl) ?_
    refine z_iload_n 27 rfl rfl ?_
    refine z_aload_n 28 rfl rfl ?_
    refine z_getR 29 rfl lX5_47 rfl (zS_to hS ht1 0 6 rfl rfl) (zS_tr hS ht1 0 5 18 rfl rfl rfl) ?_
    refine z_iload_n 30 rfl rfl ?_
    obtain ⟨o2, B⟩ := B
    refine z_iald 31 rfl (zS_to hS ht1 18 100 rfl rfl) (zin (zS_tl hS ht1 18 6 rfl rfl) o2) ?_
    refine z_iast 32 rfl (zS_so hS hs0 3 100 rfl rfl) (zin (zS_sl hS hs0 3 6 rfl rfl) o2) ?_
    refine z_iinc (v := 1) 33 rfl rfl (by decide) (by decide) rfl ?_
    refine z_goto 34 35 rfl (by decide) ?_
    exact B
set_option maxRecDepth 100000 in
set_option maxHeartbeats 4000000 in
theorem sg_X5_begin_61 {G : zG} {d : Nat} {h : zMem} {Q : zMem → Prop} {t : Nat} {a0 : Nat} {a1 : Nat} {x2 : Int32} (hS : zSh1 h t) (hs0 : isSt a0) (ht1 : isTd a1) (B : ((5 : Int32) ≤ x2 → ∃ Q2 : zMem → Prop, zConV G mX5_clearAir d [.ref a0] h Q2 ∧ (∀ h3, Q2 h3 → zSh1 h3 t ∧ Q (zsI (zsI (zsI (zsI (zsI h3 a0 10 (0 : Int32)) a0 11 (-1 : Int32)) a0 12 (0 : Int32)) a0 13 (0 : Int32)) a0 14 (-1 : Int32)))) ∧ (¬ (5 : Int32) ≤ x2 → vp_in x2 5 ∧ zg G mX5_begin (d + 1) 61 [.ref a0, .ref a1, .int (x2 + 1)] [] (zsI (zsI (zsI (zsI h (a0 + 11) x2.toNatClampNeg (zI h (a1 + 19) x2.toNatClampNeg)) (a0 + 12) x2.toNatClampNeg (0 : Int32)) (a0 + 13) x2.toNatClampNeg (0 : Int32)) (a0 + 14) x2.toNatClampNeg ((zI (zsI (zsI (zsI h (a0 + 11) x2.toNatClampNeg (zI h (a1 + 19) x2.toNatClampNeg)) (a0 + 12) x2.toNatClampNeg (0 : Int32)) (a0 + 13) x2.toNatClampNeg (0 : Int32)) (a1 + 1) 1) - (1 : Int32))) (zPV Q))) : zg G mX5_begin (d + 1) 61 [.ref a0, .ref a1, .int x2] [] h (zPV Q) := by
  refine z_iload_n 37 rfl rfl ?_
  refine z_iconst (v := 5) 38 rfl (by decide) ?_
  refine z_icmp_ge 39 112 rfl (by decide) ⟨fun c1 => ?_, fun c1 => ?_⟩
  · have B := B.1 c1
    refine z_aload_n 70 rfl rfl ?_
    obtain ⟨Q2, K4, B⟩ := B
    refine z_cVV0 (ν := mX5_clearAir) 71 rfl rfl fX5_clearAir gX5_52 ⟨_, rfl, rfl⟩ (by decide) (zS_so hS hs0 0 5 rfl rfl) (Nat.le_of_ble_eq_true rfl) K4 (fun h3 q => ?_)
    obtain ⟨hSh3, B⟩ := B h3 q
    refine z_aload_n 72 rfl rfl ?_
    refine z_iconst (v := 0) 73 rfl (by decide) ?_
    refine z_putI 74 rfl lX5_55 ⟨_, _, _, rfl, rfl⟩ rfl rfl rfl (zS_so hSh3 hs0 0 5 rfl rfl) ?_
    refine z_aload_n 75 rfl rfl ?_
    refine z_iconst (v := -1) 76 rfl (by decide) ?_
    refine z_putI 77 rfl lX5_59 ⟨_, _, _, rfl, rfl⟩ rfl rfl rfl (zS_so hSh3 hs0 0 5 rfl rfl) ?_
    refine z_aload_n 78 rfl rfl ?_
    refine z_iconst (v := 0) 79 rfl (by decide) ?_
    refine z_putI 80 rfl lX5_62 ⟨_, _, _, rfl, rfl⟩ rfl rfl rfl (zS_so hSh3 hs0 0 5 rfl rfl) ?_
    refine z_aload_n 81 rfl rfl ?_
    refine z_iconst (v := 0) 82 rfl (by decide) ?_
    refine z_putI 83 rfl lX5_65 ⟨_, _, _, rfl, rfl⟩ rfl rfl rfl (zS_so hSh3 hs0 0 5 rfl rfl) ?_
    refine z_aload_n 84 rfl rfl ?_
    refine z_iconst (v := -1) 85 rfl (by decide) ?_
    refine z_putI 86 rfl lX5_68 ⟨_, _, _, rfl, rfl⟩ rfl rfl rfl (zS_so hSh3 hs0 0 5 rfl rfl) ?_
    exact z_vret 87 rfl rfl ⟨rfl, rfl⟩ ⟨rfl, B⟩
  · have B := B.2 c1
    refine z_aload_n 40 rfl rfl ?_
    refine z_getR 41 rfl lX5_26 rfl (zS_so hS hs0 0 5 rfl rfl) (zS_sr hS hs0 0 4 11 rfl rfl rfl) ?_
    refine z_iload_n 42 rfl rfl ?_
    refine z_aload_n 43 rfl rfl ?_
    refine z_getR 44 rfl lX5_48 rfl (zS_to hS ht1 0 6 rfl rfl) (zS_tr hS ht1 0 6 19 rfl rfl rfl) ?_
    refine z_iload_n 45 rfl rfl ?_
    obtain ⟨o5, B⟩ := B
    refine z_iald 46 rfl (zS_to hS ht1 19 100 rfl rfl) (zin (zS_tl hS ht1 19 5 rfl rfl) o5) ?_
    refine z_iast 47 rfl (zS_so hS hs0 11 100 rfl rfl) (zin (zS_sl hS hs0 11 5 rfl rfl) o5) ?_
    refine z_aload_n 48 rfl rfl ?_
    refine z_getR 49 rfl lX5_29 rfl (zS_so hS hs0 0 5 rfl rfl) (zS_sr hS hs0 0 5 12 rfl rfl rfl) ?_
    refine z_iload_n 50 rfl rfl ?_
    refine z_iconst (v := 0) 51 rfl (by decide) ?_
    refine z_iast 52 rfl (zS_so hS hs0 12 100 rfl rfl) (zin (zS_sl hS hs0 12 5 rfl rfl) o5) ?_
    refine z_aload_n 53 rfl rfl ?_
    refine z_getR 54 rfl lX5_32 rfl (zS_so hS hs0 0 5 rfl rfl) (zS_sr hS hs0 0 6 13 rfl rfl rfl) ?_
    refine z_iload_n 55 rfl rfl ?_
    refine z_iconst (v := 0) 56 rfl (by decide) ?_
    refine z_iast 57 rfl (zS_so hS hs0 13 100 rfl rfl) (zin (zS_sl hS hs0 13 5 rfl rfl) o5) ?_
    refine z_aload_n 58 rfl rfl ?_
    refine z_getR 59 rfl lX5_35 rfl (zS_so hS hs0 0 5 rfl rfl) (zS_sr hS hs0 0 7 14 rfl rfl rfl) ?_
    refine z_iload_n 60 rfl rfl ?_
    refine z_aload_n 61 rfl rfl ?_
    refine z_getR 62 rfl lX5_49 rfl (zS_to hS ht1 0 6 rfl rfl) (zS_tr hS ht1 0 0 1 rfl rfl rfl) ?_
    refine z_iconst (v := 1) 63 rfl (by decide) ?_
    refine z_iald_c 64 1 rfl (by decide) (zS_to hS ht1 1 100 rfl rfl) (zin (zS_tl hS ht1 1 4 rfl rfl) (zvp (by decide))) ?_
    refine z_iconst (v := 1) 65 rfl (by decide) ?_
    refine z_isub 66 rfl ?_
    refine z_iast 67 rfl (zS_so hS hs0 14 100 rfl rfl) (zin (zS_sl hS hs0 14 5 rfl rfl) o5) ?_
    refine z_iinc (v := 1) 68 rfl rfl (by decide) (by decide) rfl ?_
    refine z_goto 69 61 rfl (by decide) ?_
    exact B
set_option maxRecDepth 100000 in
set_option maxHeartbeats 4000000 in
theorem sg_X5_copy_0 {G : zG} {d : Nat} {h : zMem} {Q : zMem → Prop} {t : Nat} {a0 : Nat} {a1 : Nat} (hS : zSh1 h t) (hs0 : isSt a0) (hs1 : isSt a1) (B : zg G mX5_copy (d + 1) 47 [.ref a0, .ref a1, .int (0 : Int32)] [] (zcp (zcp (zcp h (a1 + 1) 0 (a0 + 1) 0 6) (a1 + 2) 0 (a0 + 2) 0 6) (a1 + 3) 0 (a0 + 3) 0 6) (zPV Q)) : zg G mX5_copy (d + 1) 0 [.ref a0, .ref a1, zU] [] h (zPV Q) := by
  refine z_aload_n 0 rfl rfl ?_
  refine z_getR 1 rfl lX5_9 rfl (zS_so hS hs1 0 5 rfl rfl) (zS_sr hS hs1 0 0 1 rfl rfl rfl) ?_
  refine z_iconst (v := 0) 2 rfl (by decide) ?_
  refine z_aload_n 3 rfl rfl ?_
  refine z_getR 4 rfl lX5_9 rfl (zS_so hS hs0 0 5 rfl rfl) (zS_sr hS hs0 0 0 1 rfl rfl rfl) ?_
  refine z_iconst (v := 0) 5 rfl (by decide) ?_
  refine z_bipush (v := 6) 6 rfl (by decide) ?_
  refine z_acopy_c 7 0 0 6 rfl gacX5 (zS_so hS hs1 1 100 rfl rfl) (zS_so hS hs0 1 100 rfl rfl) (zcpok_of (zS_sl hS hs1 1 6 rfl rfl) (zS_sl hS hs0 1 6 rfl rfl) (by decide)) (Nat.le_of_ble_eq_true rfl) (by decide) (by decide) (by decide) ?_
  refine z_aload_n 8 rfl rfl ?_
  refine z_getR 9 rfl lX5_15 rfl (zS_so hS hs1 0 5 rfl rfl) (zS_sr hS hs1 0 1 2 rfl rfl rfl) ?_
  refine z_iconst (v := 0) 10 rfl (by decide) ?_
  refine z_aload_n 11 rfl rfl ?_
  refine z_getR 12 rfl lX5_15 rfl (zS_so hS hs0 0 5 rfl rfl) (zS_sr hS hs0 0 1 2 rfl rfl rfl) ?_
  refine z_iconst (v := 0) 13 rfl (by decide) ?_
  refine z_bipush (v := 6) 14 rfl (by decide) ?_
  refine z_acopy_c 15 0 0 6 rfl gacX5 (zS_so hS hs1 2 100 rfl rfl) (zS_so hS hs0 2 100 rfl rfl) (zcpok_of (zS_sl hS hs1 2 6 rfl rfl) (zS_sl hS hs0 2 6 rfl rfl) (by decide)) (Nat.le_of_ble_eq_true rfl) (by decide) (by decide) (by decide) ?_
  refine z_aload_n 16 rfl rfl ?_
  refine z_getR 17 rfl lX5_18 rfl (zS_so hS hs1 0 5 rfl rfl) (zS_sr hS hs1 0 2 3 rfl rfl rfl) ?_
  refine z_iconst (v := 0) 18 rfl (by decide) ?_
  refine z_aload_n 19 rfl rfl ?_
  refine z_getR 20 rfl lX5_18 rfl (zS_so hS hs0 0 5 rfl rfl) (zS_sr hS hs0 0 2 3 rfl rfl rfl) ?_
  refine z_iconst (v := 0) 21 rfl (by decide) ?_
  refine z_bipush (v := 6) 22 rfl (by decide) ?_
  refine z_acopy_c 23 0 0 6 rfl gacX5 (zS_so hS hs1 3 100 rfl rfl) (zS_so hS hs0 3 100 rfl rfl) (zcpok_of (zS_sl hS hs1 3 6 rfl rfl) (zS_sl hS hs0 3 6 rfl rfl) (by decide)) (Nat.le_of_ble_eq_true rfl) (by decide) (by decide) (by decide) ?_
  refine z_iconst (v := 0) 24 rfl (by decide) ?_
  refine z_istore_n 25 rfl (by decide) rfl ?_
  exact B
theorem cn_X5_copy {G : zG} {d : Nat} {h : zMem} {Q : zMem → Prop} {a0 : Nat} {a1 : Nat} (B : zg G mX5_copy (d + 1) 0 [.ref a0, .ref a1, zU] [] h (zPV Q)) : zConV G mX5_copy (d + 1) [.ref a0, .ref a1] h Q := zcon0 (by decide +kernel) eX5_copy (Nat.le_of_ble_eq_true rfl) rfl B
set_option maxRecDepth 100000 in
set_option maxHeartbeats 4000000 in
theorem sg_X5_copy_47 {G : zG} {d : Nat} {h : zMem} {Q : zMem → Prop} {t : Nat} {a0 : Nat} {a1 : Nat} {x2 : Int32} (hS : zSh1 h t) (hs0 : isSt a0) (hs1 : isSt a1) (B : ((6 : Int32) ≤ x2 → Q (zsI (zsI (zsI (zsI (zsI (zcp (zcp (zcp (zcp h (a1 + 11) 0 (a0 + 11) 0 5) (a1 + 12) 0 (a0 + 12) 0 5) (a1 + 13) 0 (a0 + 13) 0 5) (a1 + 14) 0 (a0 + 14) 0 5) a0 10 (zI (zcp (zcp (zcp (zcp h (a1 + 11) 0 (a0 + 11) 0 5) (a1 + 12) 0 (a0 + 12) 0 5) (a1 + 13) 0 (a0 + 13) 0 5) (a1 + 14) 0 (a0 + 14) 0 5) a1 10)) a0 11 (zI (zsI (zcp (zcp (zcp (zcp h (a1 + 11) 0 (a0 + 11) 0 5) (a1 + 12) 0 (a0 + 12) 0 5) (a1 + 13) 0 (a0 + 13) 0 5) (a1 + 14) 0 (a0 + 14) 0 5) a0 10 (zI (zcp (zcp (zcp (zcp h (a1 + 11) 0 (a0 + 11) 0 5) (a1 + 12) 0 (a0 + 12) 0 5) (a1 + 13) 0 (a0 + 13) 0 5) (a1 + 14) 0 (a0 + 14) 0 5) a1 10)) a1 11)) a0 12 (zI (zsI (zsI (zcp (zcp (zcp (zcp h (a1 + 11) 0 (a0 + 11) 0 5) (a1 + 12) 0 (a0 + 12) 0 5) (a1 + 13) 0 (a0 + 13) 0 5) (a1 + 14) 0 (a0 + 14) 0 5) a0 10 (zI (zcp (zcp (zcp (zcp h (a1 + 11) 0 (a0 + 11) 0 5) (a1 + 12) 0 (a0 + 12) 0 5) (a1 + 13) 0 (a0 + 13) 0 5) (a1 + 14) 0 (a0 + 14) 0 5) a1 10)) a0 11 (zI (zsI (zcp (zcp (zcp (zcp h (a1 + 11) 0 (a0 + 11) 0 5) (a1 + 12) 0 (a0 + 12) 0 5) (a1 + 13) 0 (a0 + 13) 0 5) (a1 + 14) 0 (a0 + 14) 0 5) a0 10 (zI (zcp (zcp (zcp (zcp h (a1 + 11) 0 (a0 + 11) 0 5) (a1 + 12) 0 (a0 + 12) 0 5) (a1 + 13) 0 (a0 + 13) 0 5) (a1 + 14) 0 (a0 + 14) 0 5) a1 10)) a1 11)) a1 12)) a0 13 (zI (zsI (zsI (zsI (zcp (zcp (zcp (zcp h (a1 + 11) 0 (a0 + 11) 0 5) (a1 + 12) 0 (a0 + 12) 0 5) (a1 + 13) 0 (a0 + 13) 0 5) (a1 + 14) 0 (a0 + 14) 0 5) a0 10 (zI (zcp (zcp (zcp (zcp h (a1 + 11) 0 (a0 + 11) 0 5) (a1 + 12) 0 (a0 + 12) 0 5) (a1 + 13) 0 (a0 + 13) 0 5) (a1 + 14) 0 (a0 + 14) 0 5) a1 10)) a0 11 (zI (zsI (zcp (zcp (zcp (zcp h (a1 + 11) 0 (a0 + 11) 0 5) (a1 + 12) 0 (a0 + 12) 0 5) (a1 + 13) 0 (a0 + 13) 0 5) (a1 + 14) 0 (a0 + 14) 0 5) a0 10 (zI (zcp (zcp (zcp (zcp h (a1 + 11) 0 (a0 + 11) 0 5) (a1 + 12) 0 (a0 + 12) 0 5) (a1 + 13) 0 (a0 + 13) 0 5) (a1 + 14) 0 (a0 + 14) 0 5) a1 10)) a1 11)) a0 12 (zI (zsI (zsI (zcp (zcp (zcp (zcp h (a1 + 11) 0 (a0 + 11) 0 5) (a1 + 12) 0 (a0 + 12) 0 5) (a1 + 13) 0 (a0 + 13) 0 5) (a1 + 14) 0 (a0 + 14) 0 5) a0 10 (zI (zcp (zcp (zcp (zcp h (a1 + 11) 0 (a0 + 11) 0 5) (a1 + 12) 0 (a0 + 12) 0 5) (a1 + 13) 0 (a0 + 13) 0 5) (a1 + 14) 0 (a0 + 14) 0 5) a1 10)) a0 11 (zI (zsI (zcp (zcp (zcp (zcp h (a1 + 11) 0 (a0 + 11) 0 5) (a1 + 12) 0 (a0 + 12) 0 5) (a1 + 13) 0 (a0 + 13) 0 5) (a1 + 14) 0 (a0 + 14) 0 5) a0 10 (zI (zcp (zcp (zcp (zcp h (a1 + 11) 0 (a0 + 11) 0 5) (a1 + 12) 0 (a0 + 12) 0 5) (a1 + 13) 0 (a0 + 13) 0 5) (a1 + 14) 0 (a0 + 14) 0 5) a1 10)) a1 11)) a1 12)) a1 13)) a0 14 (zI (zsI (zsI (zsI (zsI (zcp (zcp (zcp (zcp h (a1 + 11) 0 (a0 + 11) 0 5) (a1 + 12) 0 (a0 + 12) 0 5) (a1 + 13) 0 (a0 + 13) 0 5) (a1 + 14) 0 (a0 + 14) 0 5) a0 10 (zI (zcp (zcp (zcp (zcp h (a1 + 11) 0 (a0 + 11) 0 5) (a1 + 12) 0 (a0 + 12) 0 5) (a1 + 13) 0 (a0 + 13) 0 5) (a1 + 14) 0 (a0 + 14) 0 5) a1 10)) a0 11 (zI (zsI (zcp (zcp (zcp (zcp h (a1 + 11) 0 (a0 + 11) 0 5) (a1 + 12) 0 (a0 + 12) 0 5) (a1 + 13) 0 (a0 + 13) 0 5) (a1 + 14) 0 (a0 + 14) 0 5) a0 10 (zI (zcp (zcp (zcp (zcp h (a1 + 11) 0 (a0 + 11) 0 5) (a1 + 12) 0 (a0 + 12) 0 5) (a1 + 13) 0 (a0 + 13) 0 5) (a1 + 14) 0 (a0 + 14) 0 5) a1 10)) a1 11)) a0 12 (zI (zsI (zsI (zcp (zcp (zcp (zcp h (a1 + 11) 0 (a0 + 11) 0 5) (a1 + 12) 0 (a0 + 12) 0 5) (a1 + 13) 0 (a0 + 13) 0 5) (a1 + 14) 0 (a0 + 14) 0 5) a0 10 (zI (zcp (zcp (zcp (zcp h (a1 + 11) 0 (a0 + 11) 0 5) (a1 + 12) 0 (a0 + 12) 0 5) (a1 + 13) 0 (a0 + 13) 0 5) (a1 + 14) 0 (a0 + 14) 0 5) a1 10)) a0 11 (zI (zsI (zcp (zcp (zcp (zcp h (a1 + 11) 0 (a0 + 11) 0 5) (a1 + 12) 0 (a0 + 12) 0 5) (a1 + 13) 0 (a0 + 13) 0 5) (a1 + 14) 0 (a0 + 14) 0 5) a0 10 (zI (zcp (zcp (zcp (zcp h (a1 + 11) 0 (a0 + 11) 0 5) (a1 + 12) 0 (a0 + 12) 0 5) (a1 + 13) 0 (a0 + 13) 0 5) (a1 + 14) 0 (a0 + 14) 0 5) a1 10)) a1 11)) a1 12)) a0 13 (zI (zsI (zsI (zsI (zcp (zcp (zcp (zcp h (a1 + 11) 0 (a0 + 11) 0 5) (a1 + 12) 0 (a0 + 12) 0 5) (a1 + 13) 0 (a0 + 13) 0 5) (a1 + 14) 0 (a0 + 14) 0 5) a0 10 (zI (zcp (zcp (zcp (zcp h (a1 + 11) 0 (a0 + 11) 0 5) (a1 + 12) 0 (a0 + 12) 0 5) (a1 + 13) 0 (a0 + 13) 0 5) (a1 + 14) 0 (a0 + 14) 0 5) a1 10)) a0 11 (zI (zsI (zcp (zcp (zcp (zcp h (a1 + 11) 0 (a0 + 11) 0 5) (a1 + 12) 0 (a0 + 12) 0 5) (a1 + 13) 0 (a0 + 13) 0 5) (a1 + 14) 0 (a0 + 14) 0 5) a0 10 (zI (zcp (zcp (zcp (zcp h (a1 + 11) 0 (a0 + 11) 0 5) (a1 + 12) 0 (a0 + 12) 0 5) (a1 + 13) 0 (a0 + 13) 0 5) (a1 + 14) 0 (a0 + 14) 0 5) a1 10)) a1 11)) a0 12 (zI (zsI (zsI (zcp (zcp (zcp (zcp h (a1 + 11) 0 (a0 + 11) 0 5) (a1 + 12) 0 (a0 + 12) 0 5) (a1 + 13) 0 (a0 + 13) 0 5) (a1 + 14) 0 (a0 + 14) 0 5) a0 10 (zI (zcp (zcp (zcp (zcp h (a1 + 11) 0 (a0 + 11) 0 5) (a1 + 12) 0 (a0 + 12) 0 5) (a1 + 13) 0 (a0 + 13) 0 5) (a1 + 14) 0 (a0 + 14) 0 5) a1 10)) a0 11 (zI (zsI (zcp (zcp (zcp (zcp h (a1 + 11) 0 (a0 + 11) 0 5) (a1 + 12) 0 (a0 + 12) 0 5) (a1 + 13) 0 (a0 + 13) 0 5) (a1 + 14) 0 (a0 + 14) 0 5) a0 10 (zI (zcp (zcp (zcp (zcp h (a1 + 11) 0 (a0 + 11) 0 5) (a1 + 12) 0 (a0 + 12) 0 5) (a1 + 13) 0 (a0 + 13) 0 5) (a1 + 14) 0 (a0 + 14) 0 5) a1 10)) a1 11)) a1 12)) a1 13)) a1 14))) ∧ (¬ (6 : Int32) ≤ x2 → vp_in x2 6 ∧ zg G mX5_copy (d + 1) 47 [.ref a0, .ref a1, .int (x2 + 1)] [] (zcp h (a1 + 4 + 1 + x2.toNatClampNeg) 0 (a0 + 4 + 1 + x2.toNatClampNeg) 0 6) (zPV Q))) : zg G mX5_copy (d + 1) 47 [.ref a0, .ref a1, .int x2] [] h (zPV Q) := by
  refine z_iload_n 26 rfl rfl ?_
  refine z_bipush (v := 6) 27 rfl (by decide) ?_
  refine z_icmp_ge 28 78 rfl (by decide) ⟨fun c1 => ?_, fun c1 => ?_⟩
  · have B := B.1 c1
    refine z_aload_n 43 rfl rfl ?_
    refine z_getR 44 rfl lX5_26 rfl (zS_so hS hs1 0 5 rfl rfl) (zS_sr hS hs1 0 4 11 rfl rfl rfl) ?_
    refine z_iconst (v := 0) 45 rfl (by decide) ?_
    refine z_aload_n 46 rfl rfl ?_
    refine z_getR 47 rfl lX5_26 rfl (zS_so hS hs0 0 5 rfl rfl) (zS_sr hS hs0 0 4 11 rfl rfl rfl) ?_
    refine z_iconst (v := 0) 48 rfl (by decide) ?_
    refine z_iconst (v := 5) 49 rfl (by decide) ?_
    refine z_acopy_c 50 0 0 5 rfl gacX5 (zS_so hS hs1 11 100 rfl rfl) (zS_so hS hs0 11 100 rfl rfl) (zcpok_of (zS_sl hS hs1 11 5 rfl rfl) (zS_sl hS hs0 11 5 rfl rfl) (by decide)) (Nat.le_of_ble_eq_true rfl) (by decide) (by decide) (by decide) ?_
    refine z_aload_n 51 rfl rfl ?_
    refine z_getR 52 rfl lX5_29 rfl (zS_so hS hs1 0 5 rfl rfl) (zS_sr hS hs1 0 5 12 rfl rfl rfl) ?_
    refine z_iconst (v := 0) 53 rfl (by decide) ?_
    refine z_aload_n 54 rfl rfl ?_
    refine z_getR 55 rfl lX5_29 rfl (zS_so hS hs0 0 5 rfl rfl) (zS_sr hS hs0 0 5 12 rfl rfl rfl) ?_
    refine z_iconst (v := 0) 56 rfl (by decide) ?_
    refine z_iconst (v := 5) 57 rfl (by decide) ?_
    refine z_acopy_c 58 0 0 5 rfl gacX5 (zS_so hS hs1 12 100 rfl rfl) (zS_so hS hs0 12 100 rfl rfl) (zcpok_of (zS_sl hS hs1 12 5 rfl rfl) (zS_sl hS hs0 12 5 rfl rfl) (by decide)) (Nat.le_of_ble_eq_true rfl) (by decide) (by decide) (by decide) ?_
    refine z_aload_n 59 rfl rfl ?_
    refine z_getR 60 rfl lX5_32 rfl (zS_so hS hs1 0 5 rfl rfl) (zS_sr hS hs1 0 6 13 rfl rfl rfl) ?_
    refine z_iconst (v := 0) 61 rfl (by decide) ?_
    refine z_aload_n 62 rfl rfl ?_
    refine z_getR 63 rfl lX5_32 rfl (zS_so hS hs0 0 5 rfl rfl) (zS_sr hS hs0 0 6 13 rfl rfl rfl) ?_
    refine z_iconst (v := 0) 64 rfl (by decide) ?_
    refine z_iconst (v := 5) 65 rfl (by decide) ?_
    refine z_acopy_c 66 0 0 5 rfl gacX5 (zS_so hS hs1 13 100 rfl rfl) (zS_so hS hs0 13 100 rfl rfl) (zcpok_of (zS_sl hS hs1 13 5 rfl rfl) (zS_sl hS hs0 13 5 rfl rfl) (by decide)) (Nat.le_of_ble_eq_true rfl) (by decide) (by decide) (by decide) ?_
    refine z_aload_n 67 rfl rfl ?_
    refine z_getR 68 rfl lX5_35 rfl (zS_so hS hs1 0 5 rfl rfl) (zS_sr hS hs1 0 7 14 rfl rfl rfl) ?_
    refine z_iconst (v := 0) 69 rfl (by decide) ?_
    refine z_aload_n 70 rfl rfl ?_
    refine z_getR 71 rfl lX5_35 rfl (zS_so hS hs0 0 5 rfl rfl) (zS_sr hS hs0 0 7 14 rfl rfl rfl) ?_
    refine z_iconst (v := 0) 72 rfl (by decide) ?_
    refine z_iconst (v := 5) 73 rfl (by decide) ?_
    refine z_acopy_c 74 0 0 5 rfl gacX5 (zS_so hS hs1 14 100 rfl rfl) (zS_so hS hs0 14 100 rfl rfl) (zcpok_of (zS_sl hS hs1 14 5 rfl rfl) (zS_sl hS hs0 14 5 rfl rfl) (by decide)) (Nat.le_of_ble_eq_true rfl) (by decide) (by decide) (by decide) ?_
    refine z_aload_n 75 rfl rfl ?_
    refine z_aload_n 76 rfl rfl ?_
    refine z_getI 77 rfl lX5_55 rfl (zS_so hS hs1 0 5 rfl rfl) ?_
    refine z_putI 78 rfl lX5_55 ⟨_, _, _, rfl, rfl⟩ rfl rfl rfl (zS_so hS hs0 0 5 rfl rfl) ?_
    refine z_aload_n 79 rfl rfl ?_
    refine z_aload_n 80 rfl rfl ?_
    refine z_getI 81 rfl lX5_59 rfl (zS_so hS hs1 0 5 rfl rfl) ?_
    refine z_putI 82 rfl lX5_59 ⟨_, _, _, rfl, rfl⟩ rfl rfl rfl (zS_so hS hs0 0 5 rfl rfl) ?_
    refine z_aload_n 83 rfl rfl ?_
    refine z_aload_n 84 rfl rfl ?_
    refine z_getI 85 rfl lX5_62 rfl (zS_so hS hs1 0 5 rfl rfl) ?_
    refine z_putI 86 rfl lX5_62 ⟨_, _, _, rfl, rfl⟩ rfl rfl rfl (zS_so hS hs0 0 5 rfl rfl) ?_
    refine z_aload_n 87 rfl rfl ?_
    refine z_aload_n 88 rfl rfl ?_
    refine z_getI 89 rfl lX5_65 rfl (zS_so hS hs1 0 5 rfl rfl) ?_
    refine z_putI 90 rfl lX5_65 ⟨_, _, _, rfl, rfl⟩ rfl rfl rfl (zS_so hS hs0 0 5 rfl rfl) ?_
    refine z_aload_n 91 rfl rfl ?_
    refine z_aload_n 92 rfl rfl ?_
    refine z_getI 93 rfl lX5_68 rfl (zS_so hS hs1 0 5 rfl rfl) ?_
    refine z_putI 94 rfl lX5_68 ⟨_, _, _, rfl, rfl⟩ rfl rfl rfl (zS_so hS hs0 0 5 rfl rfl) ?_
    exact z_vret 95 rfl rfl ⟨rfl, rfl⟩ ⟨rfl, B⟩
  · have B := B.2 c1
    refine z_aload_n 29 rfl rfl ?_
    refine z_getR 30 rfl lX5_23 rfl (zS_so hS hs1 0 5 rfl rfl) (zS_sr hS hs1 0 3 4 rfl rfl rfl) ?_
    refine z_iload_n 31 rfl rfl ?_
    obtain ⟨o2, B⟩ := B
    refine z_aald 32 rfl (zS_so hS hs1 4 104 rfl rfl) (zin (zS_sl hS hs1 4 6 rfl rfl) o2) (zS_srow hS hs1 4 6 6 rfl rfl rfl o2).1 ?_
    refine z_iconst (v := 0) 33 rfl (by decide) ?_
    refine z_aload_n 34 rfl rfl ?_
    refine z_getR 35 rfl lX5_23 rfl (zS_so hS hs0 0 5 rfl rfl) (zS_sr hS hs0 0 3 4 rfl rfl rfl) ?_
    refine z_iload_n 36 rfl rfl ?_
    refine z_aald 37 rfl (zS_so hS hs0 4 104 rfl rfl) (zin (zS_sl hS hs0 4 6 rfl rfl) o2) (zS_srow hS hs0 4 6 6 rfl rfl rfl o2).1 ?_
    refine z_iconst (v := 0) 38 rfl (by decide) ?_
    refine z_bipush (v := 6) 39 rfl (by decide) ?_
    refine z_acopy_c 40 0 0 6 rfl gacX5 (zS_srow hS hs1 4 6 6 rfl rfl rfl o2).2.1 (zS_srow hS hs0 4 6 6 rfl rfl rfl o2).2.1 (zcpok_of (zS_srow hS hs1 4 6 6 rfl rfl rfl o2).2.2 (zS_srow hS hs0 4 6 6 rfl rfl rfl o2).2.2 (by decide)) (Nat.le_of_ble_eq_true rfl) (by decide) (by decide) (by decide) ?_
    refine z_iinc (v := 1) 41 rfl rfl (by decide) (by decide) rfl ?_
    refine z_goto 42 47 rfl (by decide) ?_
    exact B
set_option maxRecDepth 100000 in
set_option maxHeartbeats 4000000 in
theorem sg_X5_clearAir_0 {G : zG} {d : Nat} {h : zMem} {Q : zMem → Prop} {t : Nat} {a0 : Nat} (hS : zSh1 h t) (hs0 : isSt a0) (B : zg G mX5_clearAir d 2 [.ref a0, .int (0 : Int32), zU] [] h (zPV Q)) : zg G mX5_clearAir d 0 [.ref a0, zU, zU] [] h (zPV Q) := by
  refine z_iconst (v := 0) 0 rfl (by decide) ?_
  refine z_istore_n 1 rfl (by decide) rfl ?_
  exact B
theorem cn_X5_clearAir {G : zG} {d : Nat} {h : zMem} {Q : zMem → Prop} {a0 : Nat} (B : zg G mX5_clearAir d 0 [.ref a0, zU, zU] [] h (zPV Q)) : zConV G mX5_clearAir d [.ref a0] h Q := zcon0 (by decide +kernel) eX5_clearAir (Nat.le_of_ble_eq_true rfl) rfl B
set_option maxRecDepth 100000 in
set_option maxHeartbeats 4000000 in
theorem sg_X5_clearAir_2 {G : zG} {d : Nat} {h : zMem} {Q : zMem → Prop} {t : Nat} {a0 : Nat} {x1 : Int32} (hS : zSh1 h t) (hs0 : isSt a0) (B : ((6 : Int32) ≤ x1 → Q h) ∧ (¬ (6 : Int32) ≤ x1 → zg G mX5_clearAir d 10 [.ref a0, .int x1, .int (0 : Int32)] [] h (zPV Q))) : zg G mX5_clearAir d 2 [.ref a0, .int x1, zU] [] h (zPV Q) := by
  refine z_iload_n 2 rfl rfl ?_
  refine z_bipush (v := 6) 3 rfl (by decide) ?_
  refine z_icmp_ge 4 37 rfl (by decide) ⟨fun c1 => ?_, fun c1 => ?_⟩
  · have B := B.1 c1
    exact z_vret 21 rfl rfl ⟨rfl, rfl⟩ ⟨rfl, B⟩
  · have B := B.2 c1
    refine z_iconst (v := 0) 5 rfl (by decide) ?_
    refine z_istore_n 6 rfl (by decide) rfl ?_
    exact B
set_option maxRecDepth 100000 in
set_option maxHeartbeats 4000000 in
theorem sg_X5_clearAir_10 {G : zG} {d : Nat} {h : zMem} {Q : zMem → Prop} {t : Nat} {a0 : Nat} {x1 : Int32} {x2 : Int32} (hS : zSh1 h t) (hs0 : isSt a0) (B : ((6 : Int32) ≤ x2 → zg G mX5_clearAir d 2 [.ref a0, .int (x1 + 1), zU] [] h (zPV Q)) ∧ (¬ (6 : Int32) ≤ x2 → vp_in x1 6 ∧ vp_in x2 6 ∧ zg G mX5_clearAir d 10 [.ref a0, .int x1, .int (x2 + 1)] [] (zsI h (a0 + 4 + 1 + x1.toNatClampNeg) x2.toNatClampNeg (0 : Int32)) (zPV Q))) : zg G mX5_clearAir d 10 [.ref a0, .int x1, .int x2] [] h (zPV Q) := by
  refine z_iload_n 7 rfl rfl ?_
  refine z_bipush (v := 6) 8 rfl (by decide) ?_
  refine z_icmp_ge 9 31 rfl (by decide) ⟨fun c1 => ?_, fun c1 => ?_⟩
  · have B := B.1 c1
    refine z_iinc (v := 1) 19 rfl rfl (by decide) (by decide) rfl ?_
    refine z_goto 20 2 rfl (by decide) ?_
    refine z_drop 2 ?_
    exact B
  · have B := B.2 c1
    refine z_aload_n 10 rfl rfl ?_
    refine z_getR 11 rfl lX5_23 rfl (zS_so hS hs0 0 5 rfl rfl) (zS_sr hS hs0 0 3 4 rfl rfl rfl) ?_
    refine z_iload_n 12 rfl rfl ?_
    obtain ⟨o2, B⟩ := B
    refine z_aald 13 rfl (zS_so hS hs0 4 104 rfl rfl) (zin (zS_sl hS hs0 4 6 rfl rfl) o2) (zS_srow hS hs0 4 6 6 rfl rfl rfl o2).1 ?_
    refine z_iload_n 14 rfl rfl ?_
    refine z_iconst (v := 0) 15 rfl (by decide) ?_
    obtain ⟨o3, B⟩ := B
    refine z_iast 16 rfl (zS_srow hS hs0 4 6 6 rfl rfl rfl o2).2.1 (zin (zS_srow hS hs0 4 6 6 rfl rfl rfl o2).2.2 o3) ?_
    refine z_iinc (v := 1) 17 rfl rfl (by decide) (by decide) rfl ?_
    refine z_goto 18 10 rfl (by decide) ?_
    exact B
set_option maxRecDepth 100000 in
set_option maxHeartbeats 4000000 in
theorem sg_X5_goThroughMorning_0 {G : zG} {d : Nat} {h : zMem} {Q : zMem → Prop} {t : Nat} {a0 : Nat} {a1 : Nat} (hS : zSh1 h t) (hs0 : isSt a0) (ht1 : isTd a1) (B : ∃ Q1 : zMem → Prop, zConV G mX5_takeOut d [.ref a0, .ref a1] h Q1 ∧ (∀ h2, Q1 h2 → zSh1 h2 t ∧ ∃ Q4 : zMem → Prop, zConV G mX5_drift d [.ref a0, .ref a1] h2 Q4 ∧ (∀ h5, Q4 h5 → zSh1 h5 t ∧ zg G mX5_goThroughMorning (d + 1) 12 [.ref a0, .ref a1, .int (0 : Int32)] [] h5 (zPV Q)))) : zg G mX5_goThroughMorning (d + 1) 0 [.ref a0, .ref a1, zU] [] h (zPV Q) := by
  refine z_aload_n 0 rfl rfl ?_
  refine z_aload_n 1 rfl rfl ?_
  obtain ⟨Q1, K3, B⟩ := B
  refine z_cVV1 (ν := mX5_takeOut) 2 rfl rfl fX5_takeOut gX5_77 ⟨_, rfl, rfl⟩ (by decide) (zS_so hS hs0 0 5 rfl rfl) (Nat.le_of_ble_eq_true rfl) K3 (fun h2 q => ?_)
  obtain ⟨hSh2, B⟩ := B h2 q
  refine z_aload_n 3 rfl rfl ?_
  refine z_aload_n 4 rfl rfl ?_
  obtain ⟨Q4, K6, B⟩ := B
  refine z_cVV1 (ν := mX5_drift) 5 rfl rfl fX5_drift gX5_81 ⟨_, rfl, rfl⟩ (by decide) (zS_so hSh2 hs0 0 5 rfl rfl) (Nat.le_of_ble_eq_true rfl) K6 (fun h5 q => ?_)
  obtain ⟨hSh5, B⟩ := B h5 q
  refine z_iconst (v := 0) 6 rfl (by decide) ?_
  refine z_istore_n 7 rfl (by decide) rfl ?_
  exact B
theorem cn_X5_goThroughMorning {G : zG} {d : Nat} {h : zMem} {Q : zMem → Prop} {a0 : Nat} {a1 : Nat} (B : zg G mX5_goThroughMorning (d + 1) 0 [.ref a0, .ref a1, zU] [] h (zPV Q)) : zConV G mX5_goThroughMorning (d + 1) [.ref a0, .ref a1] h Q := zcon0 (by decide +kernel) eX5_goThroughMorning (Nat.le_of_ble_eq_true rfl) rfl B
set_option maxRecDepth 100000 in
set_option maxHeartbeats 4000000 in
theorem sg_X5_goThroughMorning_12 {G : zG} {d : Nat} {h : zMem} {Q : zMem → Prop} {t : Nat} {a0 : Nat} {a1 : Nat} {x2 : Int32} (hS : zSh1 h t) (hs0 : isSt a0) (ht1 : isTd a1) (B : ((zI h (a1 + 1) 3) ≤ x2 → ∃ Q2 : zMem → Prop, zConV G mX5_vote d [.ref a0, .ref a1] h Q2 ∧ (∀ h3, Q2 h3 → zSh1 h3 t ∧ zg G mX5_goThroughMorning (d + 1) 53 [.ref a0, .ref a1, .int (0 : Int32)] [] h3 (zPV Q))) ∧ (¬ (zI h (a1 + 1) 3) ≤ x2 → vp_in x2 5 ∧ ∃ Q6 : Int32 → zMem → Prop, zConI G mX5_keenOf d [.ref a0, .ref a1, .int x2, .int (zI h (a0 + 11) x2.toNatClampNeg)] h Q6 ∧ (∀ v9 h7, Q6 v9 h7 → zSh1 h7 t ∧ ∃ Q10 : zMem → Prop, zConV G mX5_smellAndThink d [.ref a0, .ref a1, .int x2, .int v9] h7 Q10 ∧ (∀ h11, Q10 h11 → zSh1 h11 t ∧ zg G mX5_goThroughMorning (d + 1) 12 [.ref a0, .ref a1, .int (x2 + 1)] [] h11 (zPV Q))))) : zg G mX5_goThroughMorning (d + 1) 12 [.ref a0, .ref a1, .int x2] [] h (zPV Q) := by
  refine z_iload_n 8 rfl rfl ?_
  refine z_aload_n 9 rfl rfl ?_
  refine z_getR 10 rfl lX5_49 rfl (zS_to hS ht1 0 6 rfl rfl) (zS_tr hS ht1 0 0 1 rfl rfl rfl) ?_
  refine z_iconst (v := 3) 11 rfl (by decide) ?_
  refine z_iald_c 12 3 rfl (by decide) (zS_to hS ht1 1 100 rfl rfl) (zin (zS_tl hS ht1 1 4 rfl rfl) (zvp (by decide))) ?_
  refine z_icmp_ge 13 46 rfl (by decide) ⟨fun c1 => ?_, fun c1 => ?_⟩
  · have B := B.1 c1
    refine z_aload_n 28 rfl rfl ?_
    refine z_aload_n 29 rfl rfl ?_
    obtain ⟨Q2, K4, B⟩ := B
    refine z_cVV1 (ν := mX5_vote) 30 rfl rfl fX5_vote gX5_92 ⟨_, rfl, rfl⟩ (by decide) (zS_so hS hs0 0 5 rfl rfl) (Nat.le_of_ble_eq_true rfl) K4 (fun h3 q => ?_)
    obtain ⟨hSh3, B⟩ := B h3 q
    refine z_iconst (v := 0) 31 rfl (by decide) ?_
    refine z_istore_n 32 rfl (by decide) rfl ?_
    exact B
  · have B := B.2 c1
    refine z_aload_n 14 rfl rfl ?_
    refine z_aload_n 15 rfl rfl ?_
    refine z_iload_n 16 rfl rfl ?_
    refine z_aload_n 17 rfl rfl ?_
    refine z_aload_n 18 rfl rfl ?_
    refine z_iload_n 19 rfl rfl ?_
    refine z_aload_n 20 rfl rfl ?_
    refine z_getR 21 rfl lX5_26 rfl (zS_so hS hs0 0 5 rfl rfl) (zS_sr hS hs0 0 4 11 rfl rfl rfl) ?_
    refine z_iload_n 22 rfl rfl ?_
    obtain ⟨o5, B⟩ := B
    refine z_iald 23 rfl (zS_so hS hs0 11 100 rfl rfl) (zin (zS_sl hS hs0 11 5 rfl rfl) o5) ?_
    obtain ⟨Q6, K8, B⟩ := B
    refine z_cVI3 (ν := mX5_keenOf) 24 rfl rfl fX5_keenOf gX5_84 ⟨_, rfl, rfl⟩ (by decide) (zS_so hS hs0 0 5 rfl rfl) (Nat.le_of_ble_eq_true rfl) K8 (fun v9 h7 q => ?_)
    obtain ⟨hSh7, B⟩ := B v9 h7 q
    obtain ⟨Q10, K12, B⟩ := B
    refine z_cVV3 (ν := mX5_smellAndThink) 25 rfl rfl fX5_smellAndThink gX5_88 ⟨_, rfl, rfl⟩ (by decide) (zS_so hSh7 hs0 0 5 rfl rfl) (Nat.le_of_ble_eq_true rfl) K12 (fun h11 q => ?_)
    obtain ⟨hSh11, B⟩ := B h11 q
    refine z_iinc (v := 1) 26 rfl rfl (by decide) (by decide) rfl ?_
    refine z_goto 27 12 rfl (by decide) ?_
    exact B
set_option maxRecDepth 100000 in
set_option maxHeartbeats 4000000 in
theorem sg_X5_goThroughMorning_53 {G : zG} {d : Nat} {h : zMem} {Q : zMem → Prop} {t : Nat} {a0 : Nat} {a1 : Nat} {x2 : Int32} (hS : zSh1 h t) (hs0 : isSt a0) (ht1 : isTd a1) (B : ((6 : Int32) ≤ x2 → Q (zsI h a0 10 ((zI h a0 10) + (1 : Int32)))) ∧ (¬ (6 : Int32) ≤ x2 → vp_in x2 6 ∧ zg G mX5_goThroughMorning (d + 1) 53 [.ref a0, .ref a1, .int (x2 + 1)] [] (zsI h (a0 + 2) x2.toNatClampNeg (0 : Int32)) (zPV Q))) : zg G mX5_goThroughMorning (d + 1) 53 [.ref a0, .ref a1, .int x2] [] h (zPV Q) := by
  refine z_iload_n 33 rfl rfl ?_
  refine z_bipush (v := 6) 34 rfl (by decide) ?_
  refine z_icmp_ge 35 72 rfl (by decide) ⟨fun c1 => ?_, fun c1 => ?_⟩
  · have B := B.1 c1
    refine z_aload_n 43 rfl rfl ?_
    refine z_dup 44 rfl rfl ?_
    refine z_getI 45 rfl lX5_55 rfl (zS_so hS hs0 0 5 rfl rfl) ?_
    refine z_iconst (v := 1) 46 rfl (by decide) ?_
    refine z_iadd 47 rfl ?_
    refine z_putI 48 rfl lX5_55 ⟨_, _, _, rfl, rfl⟩ rfl rfl rfl (zS_so hS hs0 0 5 rfl rfl) ?_
    exact z_vret 49 rfl rfl ⟨rfl, rfl⟩ ⟨rfl, B⟩
  · have B := B.2 c1
    refine z_aload_n 36 rfl rfl ?_
    refine z_getR 37 rfl lX5_15 rfl (zS_so hS hs0 0 5 rfl rfl) (zS_sr hS hs0 0 1 2 rfl rfl rfl) ?_
    refine z_iload_n 38 rfl rfl ?_
    refine z_iconst (v := 0) 39 rfl (by decide) ?_
    obtain ⟨o2, B⟩ := B
    refine z_iast 40 rfl (zS_so hS hs0 2 100 rfl rfl) (zin (zS_sl hS hs0 2 6 rfl rfl) o2) ?_
    refine z_iinc (v := 1) 41 rfl rfl (by decide) (by decide) rfl ?_
    refine z_goto 42 53 rfl (by decide) ?_
    exact B
set_option maxRecDepth 100000 in
set_option maxHeartbeats 4000000 in
theorem sg_X5_firstShort_0 {G : zG} {d : Nat} {h : zMem} {Q : Int32 → zMem → Prop} {t : Nat} {a0 : Nat} {a1 : Nat} (hS : zSh1 h t) (hs0 : isSt a0) (ht1 : isTd a1) (B : zg G mX5_firstShort (d + 1) 2 [.ref a0, .ref a1, .int (0 : Int32)] [] h (zPI Q)) : zg G mX5_firstShort (d + 1) 0 [.ref a0, .ref a1, zU] [] h (zPI Q) := by
  refine z_iconst (v := 0) 0 rfl (by decide) ?_
  refine z_istore_n 1 rfl (by decide) rfl ?_
  exact B
theorem cn_X5_firstShort {G : zG} {d : Nat} {h : zMem} {Q : Int32 → zMem → Prop} {a0 : Nat} {a1 : Nat} (B : zg G mX5_firstShort (d + 1) 0 [.ref a0, .ref a1, zU] [] h (zPI Q)) : zConI G mX5_firstShort (d + 1) [.ref a0, .ref a1] h Q := zcon0 (by decide +kernel) eX5_firstShort (Nat.le_of_ble_eq_true rfl) rfl B
set_option maxRecDepth 100000 in
set_option maxHeartbeats 4000000 in
theorem sg_X5_firstShort_2 {G : zG} {d : Nat} {h : zMem} {Q : Int32 → zMem → Prop} {t : Nat} {a0 : Nat} {a1 : Nat} {x2 : Int32} (hS : zSh1 h t) (hs0 : isSt a0) (ht1 : isTd a1) (B : ((zI h (a1 + 1) 0) ≤ x2 → Q (-1 : Int32) h) ∧ (¬ (zI h (a1 + 1) 0) ≤ x2 → ∃ Q2 : Int32 → zMem → Prop, zConI G mX7_mixedOn d [.ref a1, .int (zI h a0 10), .int x2] h Q2 ∧ (∀ v5 h3, Q2 v5 h3 → zSh1 h3 t ∧ vp_in x2 6 ∧ (v5 ≤ (zI h3 (a0 + 1) x2.toNatClampNeg) → zg G mX5_firstShort (d + 1) 2 [.ref a0, .ref a1, .int (x2 + 1)] [] h3 (zPI Q)) ∧ (¬ v5 ≤ (zI h3 (a0 + 1) x2.toNatClampNeg) → Q x2 h3)))) : zg G mX5_firstShort (d + 1) 2 [.ref a0, .ref a1, .int x2] [] h (zPI Q) := by
  refine z_iload_n 2 rfl rfl ?_
  refine z_aload_n 3 rfl rfl ?_
  refine z_getR 4 rfl lX5_49 rfl (zS_to hS ht1 0 6 rfl rfl) (zS_tr hS ht1 0 0 1 rfl rfl rfl) ?_
  refine z_iconst (v := 0) 5 rfl (by decide) ?_
  refine z_iald_c 6 0 rfl (by decide) (zS_to hS ht1 1 100 rfl rfl) (zin (zS_tl hS ht1 1 4 rfl rfl) (zvp (by decide))) ?_
  refine z_icmp_ge 7 38 rfl (by decide) ⟨fun c1 => ?_, fun c1 => ?_⟩
  · have B := B.1 c1
    refine z_iconst (v := -1) 22 rfl (by decide) ?_
    exact z_iret 23 rfl rfl rfl ⟨rfl, rfl⟩ ⟨_, rfl, B⟩
  · have B := B.2 c1
    refine z_aload_n 8 rfl rfl ?_
    refine z_aload_n 9 rfl rfl ?_
    refine z_getI 10 rfl lX5_55 rfl (zS_so hS hs0 0 5 rfl rfl) ?_
    refine z_iload_n 11 rfl rfl ?_
    obtain ⟨Q2, K4, B⟩ := B
    refine z_cVI2 (ν := mX7_mixedOn) 12 rfl rfl fX7_mixedOn gX5_95 ⟨_, rfl, rfl⟩ (by decide) (zS_to hS ht1 0 6 rfl rfl) (Nat.le_of_ble_eq_true rfl) K4 (fun v5 h3 q => ?_)
    obtain ⟨hSh3, B⟩ := B v5 h3 q
    refine z_aload_n 13 rfl rfl ?_
    refine z_getR 14 rfl lX5_9 rfl (zS_so hSh3 hs0 0 5 rfl rfl) (zS_sr hSh3 hs0 0 0 1 rfl rfl rfl) ?_
    refine z_iload_n 15 rfl rfl ?_
    obtain ⟨o6, B⟩ := B
    refine z_iald 16 rfl (zS_so hSh3 hs0 1 100 rfl rfl) (zin (zS_sl hSh3 hs0 1 6 rfl rfl) o6) ?_
    refine z_icmp_le 17 32 rfl (by decide) ⟨fun c7 => ?_, fun c7 => ?_⟩
    · have B := B.1 c7
      refine z_iinc (v := 1) 20 rfl rfl (by decide) (by decide) rfl ?_
      refine z_goto 21 2 rfl (by decide) ?_
      exact B
    · have B := B.2 c7
      refine z_iload_n 18 rfl rfl ?_
      exact z_iret 19 rfl rfl rfl ⟨rfl, rfl⟩ ⟨_, rfl, B⟩
set_option maxRecDepth 100000 in
set_option maxHeartbeats 4000000 in
theorem sg_X5_takeOut_0 {G : zG} {d : Nat} {h : zMem} {Q : zMem → Prop} {t : Nat} {a0 : Nat} {a1 : Nat} (hS : zSh1 h t) (hs0 : isSt a0) (ht1 : isTd a1) (B : zg G mX5_takeOut (d + 1) 2 [.ref a0, .ref a1, .int (0 : Int32)] [] h (zPV Q)) : zg G mX5_takeOut (d + 1) 0 [.ref a0, .ref a1, zU] [] h (zPV Q) := by
  refine z_iconst (v := 0) 0 rfl (by decide) ?_
  refine z_istore_n 1 rfl (by decide) rfl ?_
  exact B
theorem cn_X5_takeOut {G : zG} {d : Nat} {h : zMem} {Q : zMem → Prop} {a0 : Nat} {a1 : Nat} (B : zg G mX5_takeOut (d + 1) 0 [.ref a0, .ref a1, zU] [] h (zPV Q)) : zConV G mX5_takeOut (d + 1) [.ref a0, .ref a1] h Q := zcon0 (by decide +kernel) eX5_takeOut (Nat.le_of_ble_eq_true rfl) rfl B
set_option maxRecDepth 100000 in
set_option maxHeartbeats 4000000 in
theorem sg_X5_takeOut_2 {G : zG} {d : Nat} {h : zMem} {Q : zMem → Prop} {t : Nat} {a0 : Nat} {a1 : Nat} {x2 : Int32} (hS : zSh1 h t) (hs0 : isSt a0) (ht1 : isTd a1) (B : ((zI h (a1 + 1) 0) ≤ x2 → Q h) ∧ (¬ (zI h (a1 + 1) 0) ≤ x2 → ∃ Q2 : Int32 → zMem → Prop, zConI G mX7_mixedOn d [.ref a1, .int (zI h a0 10), .int x2] h Q2 ∧ (∀ v5 h3, Q2 v5 h3 → zSh1 h3 t ∧ vp_in x2 6 ∧ zg G mX5_takeOut (d + 1) 2 [.ref a0, .ref a1, .int (x2 + 1)] [] (zsI (zsI h3 (a0 + 15) x2.toNatClampNeg (if (zI h3 (a0 + 1) x2.toNatClampNeg) < v5 then (zI h3 (a0 + 1) x2.toNatClampNeg) else v5)) (a0 + 1) x2.toNatClampNeg ((zI (zsI h3 (a0 + 15) x2.toNatClampNeg (if (zI h3 (a0 + 1) x2.toNatClampNeg) < v5 then (zI h3 (a0 + 1) x2.toNatClampNeg) else v5)) (a0 + 1) x2.toNatClampNeg) - (zI (zsI h3 (a0 + 15) x2.toNatClampNeg (if (zI h3 (a0 + 1) x2.toNatClampNeg) < v5 then (zI h3 (a0 + 1) x2.toNatClampNeg) else v5)) (a0 + 15) x2.toNatClampNeg))) (zPV Q)))) : zg G mX5_takeOut (d + 1) 2 [.ref a0, .ref a1, .int x2] [] h (zPV Q) := by
  refine z_iload_n 2 rfl rfl ?_
  refine z_aload_n 3 rfl rfl ?_
  refine z_getR 4 rfl lX5_49 rfl (zS_to hS ht1 0 6 rfl rfl) (zS_tr hS ht1 0 0 1 rfl rfl rfl) ?_
  refine z_iconst (v := 0) 5 rfl (by decide) ?_
  refine z_iald_c 6 0 rfl (by decide) (zS_to hS ht1 1 100 rfl rfl) (zin (zS_tl hS ht1 1 4 rfl rfl) (zvp (by decide))) ?_
  refine z_icmp_ge 7 57 rfl (by decide) ⟨fun c1 => ?_, fun c1 => ?_⟩
  · have B := B.1 c1
    exact z_vret 35 rfl rfl ⟨rfl, rfl⟩ ⟨rfl, B⟩
  · have B := B.2 c1
    refine z_aload_n 8 rfl rfl ?_
    refine z_getR 9 rfl lX5_38 rfl (zS_so hS hs0 0 5 rfl rfl) (zS_sr hS hs0 0 8 15 rfl rfl rfl) ?_
    refine z_iload_n 10 rfl rfl ?_
    refine z_aload_n 11 rfl rfl ?_
    refine z_aload_n 12 rfl rfl ?_
    refine z_getI 13 rfl lX5_55 rfl (zS_so hS hs0 0 5 rfl rfl) ?_
    refine z_iload_n 14 rfl rfl ?_
    obtain ⟨Q2, K4, B⟩ := B
    refine z_cVI2 (ν := mX7_mixedOn) 15 rfl rfl fX7_mixedOn gX5_95 ⟨_, rfl, rfl⟩ (by decide) (zS_to hS ht1 0 6 rfl rfl) (Nat.le_of_ble_eq_true rfl) K4 (fun v5 h3 q => ?_)
    obtain ⟨hSh3, B⟩ := B v5 h3 q
    refine z_aload_n 16 rfl rfl ?_
    refine z_getR 17 rfl lX5_9 rfl (zS_so hSh3 hs0 0 5 rfl rfl) (zS_sr hSh3 hs0 0 0 1 rfl rfl rfl) ?_
    refine z_iload_n 18 rfl rfl ?_
    obtain ⟨o6, B⟩ := B
    refine z_iald 19 rfl (zS_so hSh3 hs0 1 100 rfl rfl) (zin (zS_sl hSh3 hs0 1 6 rfl rfl) o6) ?_
    refine z_mmin 20 rfl rfl gmX5_99 (Nat.le_of_ble_eq_true rfl) ?_
    refine z_iast 21 rfl (zS_so hSh3 hs0 15 100 rfl rfl) (zin (zS_sl hSh3 hs0 15 6 rfl rfl) o6) ?_
    refine z_aload_n 22 rfl rfl ?_
    refine z_getR 23 rfl lX5_9 rfl (zS_so hSh3 hs0 0 5 rfl rfl) (zS_sr hSh3 hs0 0 0 1 rfl rfl rfl) ?_
    refine z_iload_n 24 rfl rfl ?_
    refine z_dup2 25 rfl rfl rfl ?_
    refine z_iald 26 rfl (zS_so hSh3 hs0 1 100 rfl rfl) (zin (zS_sl hSh3 hs0 1 6 rfl rfl) o6) ?_
    refine z_aload_n 27 rfl rfl ?_
    refine z_getR 28 rfl lX5_38 rfl (zS_so hSh3 hs0 0 5 rfl rfl) (zS_sr hSh3 hs0 0 8 15 rfl rfl rfl) ?_
    refine z_iload_n 29 rfl rfl ?_
    refine z_iald 30 rfl (zS_so hSh3 hs0 15 100 rfl rfl) (zin (zS_sl hSh3 hs0 15 6 rfl rfl) o6) ?_
    refine z_isub 31 rfl ?_
    refine z_iast 32 rfl (zS_so hSh3 hs0 1 100 rfl rfl) (zin (zS_sl hSh3 hs0 1 6 rfl rfl) o6) ?_
    refine z_iinc (v := 1) 33 rfl rfl (by decide) (by decide) rfl ?_
    refine z_goto 34 2 rfl (by decide) ?_
    exact B
set_option maxRecDepth 100000 in
set_option maxHeartbeats 4000000 in
theorem sg_X5_drift_0 {G : zG} {d : Nat} {h : zMem} {Q : zMem → Prop} {t : Nat} {a0 : Nat} {a1 : Nat} (hS : zSh1 h t) (hs0 : isSt a0) (ht1 : isTd a1) (B : zg G mX5_drift (d + 1) 2 [.ref a0, .ref a1, .int (0 : Int32), zU, zU, zU, zU] [] h (zPV Q)) : zg G mX5_drift (d + 1) 0 [.ref a0, .ref a1, zU, zU, zU, zU, zU] [] h (zPV Q) := by
  refine z_iconst (v := 0) 0 rfl (by decide) ?_
  refine z_istore_n 1 rfl (by decide) rfl ?_
  exact B
theorem cn_X5_drift {G : zG} {d : Nat} {h : zMem} {Q : zMem → Prop} {a0 : Nat} {a1 : Nat} (B : zg G mX5_drift (d + 1) 0 [.ref a0, .ref a1, zU, zU, zU, zU, zU] [] h (zPV Q)) : zConV G mX5_drift (d + 1) [.ref a0, .ref a1] h Q := zcon0 (by decide +kernel) eX5_drift (Nat.le_of_ble_eq_true rfl) rfl B
set_option maxRecDepth 100000 in
set_option maxHeartbeats 4000000 in
theorem sg_X5_drift_2 {G : zG} {d : Nat} {h : zMem} {Q : zMem → Prop} {t : Nat} {a0 : Nat} {a1 : Nat} {x2 : Int32} (hS : zSh1 h t) (hs0 : isSt a0) (ht1 : isTd a1) (B : ((zI h (a1 + 1) 2) ≤ x2 → Q h) ∧ (¬ (zI h (a1 + 1) 2) ≤ x2 → zg G mX5_drift (d + 1) 14 [.ref a0, .ref a1, .int x2, .int (0 : Int32), zU, zU, zU] [] h (zPV Q))) : zg G mX5_drift (d + 1) 2 [.ref a0, .ref a1, .int x2, zU, zU, zU, zU] [] h (zPV Q) := by
  refine z_iload_n 2 rfl rfl ?_
  refine z_aload_n 3 rfl rfl ?_
  refine z_getR 4 rfl lX5_49 rfl (zS_to hS ht1 0 6 rfl rfl) (zS_tr hS ht1 0 0 1 rfl rfl rfl) ?_
  refine z_iconst (v := 2) 5 rfl (by decide) ?_
  refine z_iald_c 6 2 rfl (by decide) (zS_to hS ht1 1 100 rfl rfl) (zin (zS_tl hS ht1 1 4 rfl rfl) (zvp (by decide))) ?_
  refine z_icmp_ge 7 124 rfl (by decide) ⟨fun c1 => ?_, fun c1 => ?_⟩
  · have B := B.1 c1
    exact z_vret 75 rfl rfl ⟨rfl, rfl⟩ ⟨rfl, B⟩
  · have B := B.2 c1
    refine z_iconst (v := 0) 8 rfl (by decide) ?_
    refine z_istore_n 9 rfl (by decide) rfl ?_
    exact B
set_option maxRecDepth 100000 in
set_option maxHeartbeats 4000000 in
theorem sg_X5_drift_14 {G : zG} {d : Nat} {h : zMem} {Q : zMem → Prop} {t : Nat} {a0 : Nat} {a1 : Nat} {x2 : Int32} {x3 : Int32} (hS : zSh1 h t) (hs0 : isSt a0) (ht1 : isTd a1) (B : ((zI h (a1 + 1) 0) ≤ x3 → zg G mX5_drift (d + 1) 2 [.ref a0, .ref a1, .int (x2 + 1), zU, zU, zU, zU] [] h (zPV Q)) ∧ (¬ (zI h (a1 + 1) 0) ≤ x3 → vp_in x3 6 ∧ ∃ Q3 : Int64 → zMem → Prop, zConL G mX5_airLaw d [.ref a0, .ref a1, .int x2, .int x3, .int (zI h (a0 + 15) x3.toNatClampNeg)] h Q3 ∧ (∀ v6 h4, Q3 v6 h4 → zSh1 h4 t ∧ vp_in x2 6 ∧ (¬ (lg_cmp v6 (-9223372036854775808 : Int64)) = 0 → ∃ Q9 : Int32 → zMem → Prop, zConI G mX5_within d [.long v6, .int (0 : Int32), .int (9999 : Int32)] h4 Q9 ∧ (∀ v12 h10, Q9 v12 h10 → zSh1 h10 t ∧ zg G mX5_drift (d + 1) 14 [.ref a0, .ref a1, .int x2, .int (x3 + 1), zU, zU, zU] [] (zsI h10 (a0 + 4 + 1 + x2.toNatClampNeg) x3.toNatClampNeg v12) (zPV Q))) ∧ ((lg_cmp v6 (-9223372036854775808 : Int64)) = 0 → zg G mX5_drift (d + 1) 14 [.ref a0, .ref a1, .int x2, .int (x3 + 1), zU, zU, zU] [] (zsI h4 (a0 + 4 + 1 + x2.toNatClampNeg) x3.toNatClampNeg (((((zI h4 (a0 + 15) x3.toNatClampNeg) * (zI h4 (a0 + 3) x2.toNatClampNeg)) / (100 : Int32)) + (((zI h4 (a0 + 4 + 1 + x2.toNatClampNeg) x3.toNatClampNeg) * (zI h4 a1 10)) / (100 : Int32))) + (zI h4 (a0 + 2) x3.toNatClampNeg))) (zPV Q))))) : zg G mX5_drift (d + 1) 14 [.ref a0, .ref a1, .int x2, .int x3, zU, zU, zU] [] h (zPV Q) := by
  refine z_iload_n 10 rfl rfl ?_
  refine z_aload_n 11 rfl rfl ?_
  refine z_getR 12 rfl lX5_49 rfl (zS_to hS ht1 0 6 rfl rfl) (zS_tr hS ht1 0 0 1 rfl rfl rfl) ?_
  refine z_iconst (v := 0) 13 rfl (by decide) ?_
  refine z_iald_c 14 0 rfl (by decide) (zS_to hS ht1 1 100 rfl rfl) (zin (zS_tl hS ht1 1 4 rfl rfl) (zvp (by decide))) ?_
  refine z_icmp_ge 15 118 rfl (by decide) ⟨fun c1 => ?_, fun c1 => ?_⟩
  · have B := B.1 c1
    refine z_iinc (v := 1) 73 rfl rfl (by decide) (by decide) rfl ?_
    refine z_goto 74 2 rfl (by decide) ?_
    refine z_drop 3 ?_
    exact B
  · have B := B.2 c1
    refine z_aload_n 16 rfl rfl ?_
    refine z_aload_n 17 rfl rfl ?_
    refine z_iload_n 18 rfl rfl ?_
    refine z_iload_n 19 rfl rfl ?_
    refine z_aload_n 20 rfl rfl ?_
    refine z_getR 21 rfl lX5_38 rfl (zS_so hS hs0 0 5 rfl rfl) (zS_sr hS hs0 0 8 15 rfl rfl rfl) ?_
    refine z_iload_n 22 rfl rfl ?_
    obtain ⟨o2, B⟩ := B
    refine z_iald 23 rfl (zS_so hS hs0 15 100 rfl rfl) (zin (zS_sl hS hs0 15 6 rfl rfl) o2) ?_
    obtain ⟨Q3, K5, B⟩ := B
    refine z_cVL4 (ν := mX5_airLaw) 24 rfl rfl fX5_airLaw gX5_104 ⟨_, rfl, rfl⟩ (by decide) (zS_so hS hs0 0 5 rfl rfl) (Nat.le_of_ble_eq_true rfl) K5 (fun v6 h4 q => ?_)
    obtain ⟨hSh4, B⟩ := B v6 h4 q
    refine z_lstore 25 rfl (by decide) rfl ?_
    refine z_aload_n 26 rfl rfl ?_
    refine z_getR 27 rfl lX5_23 rfl (zS_so hSh4 hs0 0 5 rfl rfl) (zS_sr hSh4 hs0 0 3 4 rfl rfl rfl) ?_
    refine z_iload_n 28 rfl rfl ?_
    obtain ⟨o7, B⟩ := B
    refine z_aald 29 rfl (zS_so hSh4 hs0 4 104 rfl rfl) (zin (zS_sl hSh4 hs0 4 6 rfl rfl) o7) (zS_srow hSh4 hs0 4 6 6 rfl rfl rfl o7).1 ?_
    refine z_iload_n 30 rfl rfl ?_
    refine z_iald 31 rfl (zS_srow hSh4 hs0 4 6 6 rfl rfl rfl o7).2.1 (zin (zS_srow hSh4 hs0 4 6 6 rfl rfl rfl o7).2.2 o2) ?_
    refine z_aload_n 32 rfl rfl ?_
    refine z_getI 33 rfl lX5_108 rfl (zS_to hSh4 ht1 0 6 rfl rfl) ?_
    refine z_imul 34 rfl ?_
    refine z_bipush (v := 100) 35 rfl (by decide) ?_
    refine z_idiv 36 rfl (by decide) ?_
    refine z_istore 37 rfl (by decide) rfl ?_
    refine z_aload_n 38 rfl rfl ?_
    refine z_getR 39 rfl lX5_23 rfl (zS_so hSh4 hs0 0 5 rfl rfl) (zS_sr hSh4 hs0 0 3 4 rfl rfl rfl) ?_
    refine z_iload_n 40 rfl rfl ?_
    refine z_aald 41 rfl (zS_so hSh4 hs0 4 104 rfl rfl) (zin (zS_sl hSh4 hs0 4 6 rfl rfl) o7) (zS_srow hSh4 hs0 4 6 6 rfl rfl rfl o7).1 ?_
    refine z_iload_n 42 rfl rfl ?_
    refine z_lload 43 rfl rfl ?_
    refine z_ldc2 44 rfl kX5_111 ?_
    refine z_lcmp 45 rfl ?_
    refine z_if_ne 46 102 rfl (by decide) ⟨fun c8 => ?_, fun c8 => ?_⟩
    · have B := B.1 c8
      refine z_lload 66 rfl rfl ?_
      refine z_iconst (v := 0) 67 rfl (by decide) ?_
      refine z_sipush (v := 9999) 68 rfl (by decide) ?_
      obtain ⟨Q9, K11, B⟩ := B
      refine z_cSI3 (ν := mX5_within) 69 rfl rfl fX5_within gX5_113 (Nat.le_of_ble_eq_true rfl) K11 (fun v12 h10 q => ?_)
      obtain ⟨hSh10, B⟩ := B v12 h10 q
      refine z_iast 70 rfl (zS_srow hSh10 hs0 4 6 6 rfl rfl rfl o7).2.1 (zin (zS_srow hSh10 hs0 4 6 6 rfl rfl rfl o7).2.2 o2) ?_
      refine z_iinc (v := 1) 71 rfl rfl (by decide) (by decide) rfl ?_
      refine z_goto 72 14 rfl (by decide) ?_
      refine z_drop 4 ?_
      refine z_drop 6 ?_
      exact B
    · have B := B.2 c8
      refine z_aload_n 47 rfl rfl ?_
      refine z_getR 48 rfl lX5_38 rfl (zS_so hSh4 hs0 0 5 rfl rfl) (zS_sr hSh4 hs0 0 8 15 rfl rfl rfl) ?_
      refine z_iload_n 49 rfl rfl ?_
      refine z_iald 50 rfl (zS_so hSh4 hs0 15 100 rfl rfl) (zin (zS_sl hSh4 hs0 15 6 rfl rfl) o2) ?_
      refine z_aload_n 51 rfl rfl ?_
      refine z_getR 52 rfl lX5_18 rfl (zS_so hSh4 hs0 0 5 rfl rfl) (zS_sr hSh4 hs0 0 2 3 rfl rfl rfl) ?_
      refine z_iload_n 53 rfl rfl ?_
      refine z_iald 54 rfl (zS_so hSh4 hs0 3 100 rfl rfl) (zin (zS_sl hSh4 hs0 3 6 rfl rfl) o7) ?_
      refine z_imul 55 rfl ?_
      refine z_bipush (v := 100) 56 rfl (by decide) ?_
      refine z_idiv 57 rfl (by decide) ?_
      refine z_iload 58 rfl rfl ?_
      refine z_iadd 59 rfl ?_
      refine z_aload_n 60 rfl rfl ?_
      refine z_getR 61 rfl lX5_15 rfl (zS_so hSh4 hs0 0 5 rfl rfl) (zS_sr hSh4 hs0 0 1 2 rfl rfl rfl) ?_
      refine z_iload_n 62 rfl rfl ?_
      refine z_iald 63 rfl (zS_so hSh4 hs0 2 100 rfl rfl) (zin (zS_sl hSh4 hs0 2 6 rfl rfl) o2) ?_
      refine z_iadd 64 rfl ?_
      refine z_goto 65 111 rfl (by decide) ?_
      refine z_iast 70 rfl (zS_srow hSh4 hs0 4 6 6 rfl rfl rfl o7).2.1 (zin (zS_srow hSh4 hs0 4 6 6 rfl rfl rfl o7).2.2 o2) ?_
      refine z_iinc (v := 1) 71 rfl rfl (by decide) (by decide) rfl ?_
      refine z_goto 72 14 rfl (by decide) ?_
      refine z_drop 4 ?_
      refine z_drop 6 ?_
      exact B
set_option maxRecDepth 100000 in
set_option maxHeartbeats 4000000 in
theorem sg_X5_smellAndThink_0 {G : zG} {d : Nat} {h : zMem} {Q : zMem → Prop} {t : Nat} {a0 : Nat} {a1 : Nat} {x2 : Int32} {x3 : Int32} (hS : zSh1 h t) (hs0 : isSt a0) (ht1 : isTd a1) (B : vp_in x2 5 ∧ vp_in (zI h (a0 + 11) x2.toNatClampNeg) 6 ∧ ∃ Q3 : Int32 → zMem → Prop, zConI G mX7_smelt d [.ref a1, .ref (a0 + 4 + 1 + (zI h (a0 + 11) x2.toNatClampNeg).toNatClampNeg), .int (100 : Int32), .int x3, .int (zI h (a0 + 12) x2.toNatClampNeg)] h Q3 ∧ (∀ v6 h4, Q3 v6 h4 → zSh1 h4 t ∧ zg G mX5_smellAndThink (d + 1) 41 [.ref a0, .ref a1, .int x2, .int x3, .int (zI (zsI h4 (a0 + 13) x2.toNatClampNeg v6) (a1 + 1) 1), .int (1 : Int32), zU] [] (zsI h4 (a0 + 13) x2.toNatClampNeg v6) (zPV Q))) : zg G mX5_smellAndThink (d + 1) 0 [.ref a0, .ref a1, .int x2, .int x3, zU, zU, zU] [] h (zPV Q) := by
  refine z_aload_n 0 rfl rfl ?_
  refine z_getR 1 rfl lX5_32 rfl (zS_so hS hs0 0 5 rfl rfl) (zS_sr hS hs0 0 6 13 rfl rfl rfl) ?_
  refine z_iload_n 2 rfl rfl ?_
  refine z_aload_n 3 rfl rfl ?_
  refine z_aload_n 4 rfl rfl ?_
  refine z_getR 5 rfl lX5_23 rfl (zS_so hS hs0 0 5 rfl rfl) (zS_sr hS hs0 0 3 4 rfl rfl rfl) ?_
  refine z_aload_n 6 rfl rfl ?_
  refine z_getR 7 rfl lX5_26 rfl (zS_so hS hs0 0 5 rfl rfl) (zS_sr hS hs0 0 4 11 rfl rfl rfl) ?_
  refine z_iload_n 8 rfl rfl ?_
  obtain ⟨o1, B⟩ := B
  refine z_iald 9 rfl (zS_so hS hs0 11 100 rfl rfl) (zin (zS_sl hS hs0 11 5 rfl rfl) o1) ?_
  obtain ⟨o2, B⟩ := B
  refine z_aald 10 rfl (zS_so hS hs0 4 104 rfl rfl) (zin (zS_sl hS hs0 4 6 rfl rfl) o2) (zS_srow hS hs0 4 6 6 rfl rfl rfl o2).1 ?_
  refine z_bipush (v := 100) 11 rfl (by decide) ?_
  refine z_iload_n 12 rfl rfl ?_
  refine z_aload_n 13 rfl rfl ?_
  refine z_getR 14 rfl lX5_29 rfl (zS_so hS hs0 0 5 rfl rfl) (zS_sr hS hs0 0 5 12 rfl rfl rfl) ?_
  refine z_iload_n 15 rfl rfl ?_
  refine z_iald 16 rfl (zS_so hS hs0 12 100 rfl rfl) (zin (zS_sl hS hs0 12 5 rfl rfl) o1) ?_
  obtain ⟨Q3, K5, B⟩ := B
  refine z_cVI4 (ν := mX7_smelt) 17 rfl rfl fX7_smelt gX5_117 ⟨_, rfl, rfl⟩ (by decide) (zS_to hS ht1 0 6 rfl rfl) (Nat.le_of_ble_eq_true rfl) K5 (fun v6 h4 q => ?_)
  obtain ⟨hSh4, B⟩ := B v6 h4 q
  refine z_iast 18 rfl (zS_so hSh4 hs0 13 100 rfl rfl) (zin (zS_sl hSh4 hs0 13 5 rfl rfl) o1) ?_
  refine z_aload_n 19 rfl rfl ?_
  refine z_getR 20 rfl lX5_49 rfl (zS_to hSh4 ht1 0 6 rfl rfl) (zS_tr hSh4 ht1 0 0 1 rfl rfl rfl) ?_
  refine z_iconst (v := 1) 21 rfl (by decide) ?_
  refine z_iald_c 22 1 rfl (by decide) (zS_to hSh4 ht1 1 100 rfl rfl) (zin (zS_tl hSh4 ht1 1 4 rfl rfl) (zvp (by decide))) ?_
  refine z_istore 23 rfl (by decide) rfl ?_
  refine z_iconst (v := 1) 24 rfl (by decide) ?_
  refine z_istore 25 rfl (by decide) rfl ?_
  exact B
theorem cn_X5_smellAndThink {G : zG} {d : Nat} {h : zMem} {Q : zMem → Prop} {a0 : Nat} {a1 : Nat} {x2 : Int32} {x3 : Int32} (B : zg G mX5_smellAndThink (d + 1) 0 [.ref a0, .ref a1, .int x2, .int x3, zU, zU, zU] [] h (zPV Q)) : zConV G mX5_smellAndThink (d + 1) [.ref a0, .ref a1, .int x2, .int x3] h Q := zcon0 (by decide +kernel) eX5_smellAndThink (Nat.le_of_ble_eq_true rfl) rfl B
set_option maxRecDepth 100000 in
set_option maxHeartbeats 4000000 in
theorem sg_X5_smellAndThink_41 {G : zG} {d : Nat} {h : zMem} {Q : zMem → Prop} {t : Nat} {a0 : Nat} {a1 : Nat} {x2 : Int32} {x3 : Int32} {x4 : Int32} {x5 : Int32} (hS : zSh1 h t) (hs0 : isSt a0) (ht1 : isTd a1) (B : (x4 < x5 → (x4 ≤ 0 → Q h) ∧ (¬ x4 ≤ 0 → vp_in x2 5 ∧ ¬ x4 = 0 ∧ Q (zsI h (a0 + 14) x2.toNatClampNeg (((zI h (a0 + 14) x2.toNatClampNeg) + (1 : Int32)) - ((zI h (a0 + 14) x2.toNatClampNeg) + (1 : Int32)) / x4 * x4)))) ∧ (¬ x4 < x5 → vp_in x2 5 ∧ ¬ x4 = 0 ∧ ∃ Q7 : Int32 → zMem → Prop, zConI G mX5_markOf d [.ref a0, .ref a1, .int x2, .int (((zI h (a0 + 14) x2.toNatClampNeg) + x5) - ((zI h (a0 + 14) x2.toNatClampNeg) + x5) / x4 * x4), .int x3] h Q7 ∧ (∀ v10 h8, Q7 v10 h8 → zSh1 h8 t ∧ (¬ v10 = (zI h8 (a0 + 13) x2.toNatClampNeg) → zg G mX5_smellAndThink (d + 1) 41 [.ref a0, .ref a1, .int x2, .int x3, .int x4, .int (x5 + 1), zU] [] h8 (zPV Q)) ∧ (v10 = (zI h8 (a0 + 13) x2.toNatClampNeg) → Q (zsI h8 (a0 + 14) x2.toNatClampNeg (((zI h (a0 + 14) x2.toNatClampNeg) + x5) - ((zI h (a0 + 14) x2.toNatClampNeg) + x5) / x4 * x4)))))) : zg G mX5_smellAndThink (d + 1) 41 [.ref a0, .ref a1, .int x2, .int x3, .int x4, .int x5, zU] [] h (zPV Q) := by
  refine z_iload 26 rfl rfl ?_
  refine z_iload 27 rfl rfl ?_
  refine z_icmp_gt 28 95 rfl (by decide) ⟨fun c1 => ?_, fun c1 => ?_⟩
  · have B := B.1 c1
    refine z_iload 57 rfl rfl ?_
    refine z_if_le 58 117 rfl (by decide) ⟨fun c2 => ?_, fun c2 => ?_⟩
    · have B := B.1 c2
      exact z_vret 71 rfl rfl ⟨rfl, rfl⟩ ⟨rfl, B⟩
    · have B := B.2 c2
      refine z_aload_n 59 rfl rfl ?_
      refine z_getR 60 rfl lX5_35 rfl (zS_so hS hs0 0 5 rfl rfl) (zS_sr hS hs0 0 7 14 rfl rfl rfl) ?_
      refine z_iload_n 61 rfl rfl ?_
      refine z_aload_n 62 rfl rfl ?_
      refine z_getR 63 rfl lX5_35 rfl (zS_so hS hs0 0 5 rfl rfl) (zS_sr hS hs0 0 7 14 rfl rfl rfl) ?_
      refine z_iload_n 64 rfl rfl ?_
      obtain ⟨o3, B⟩ := B
      refine z_iald 65 rfl (zS_so hS hs0 14 100 rfl rfl) (zin (zS_sl hS hs0 14 5 rfl rfl) o3) ?_
      refine z_iconst (v := 1) 66 rfl (by decide) ?_
      refine z_iadd 67 rfl ?_
      refine z_iload 68 rfl rfl ?_
      obtain ⟨o4, B⟩ := B
      refine z_irem 69 rfl o4 ?_
      refine z_iast 70 rfl (zS_so hS hs0 14 100 rfl rfl) (zin (zS_sl hS hs0 14 5 rfl rfl) o3) ?_
      exact z_vret 71 rfl rfl ⟨rfl, rfl⟩ ⟨rfl, B⟩
  · have B := B.2 c1
    refine z_aload_n 29 rfl rfl ?_
    refine z_getR 30 rfl lX5_35 rfl (zS_so hS hs0 0 5 rfl rfl) (zS_sr hS hs0 0 7 14 rfl rfl rfl) ?_
    refine z_iload_n 31 rfl rfl ?_
    obtain ⟨o5, B⟩ := B
    refine z_iald 32 rfl (zS_so hS hs0 14 100 rfl rfl) (zin (zS_sl hS hs0 14 5 rfl rfl) o5) ?_
    refine z_iload 33 rfl rfl ?_
    refine z_iadd 34 rfl ?_
    refine z_iload 35 rfl rfl ?_
    obtain ⟨o6, B⟩ := B
    refine z_irem 36 rfl o6 ?_
    refine z_istore 37 rfl (by decide) rfl ?_
    refine z_aload_n 38 rfl rfl ?_
    refine z_aload_n 39 rfl rfl ?_
    refine z_iload_n 40 rfl rfl ?_
    refine z_iload 41 rfl rfl ?_
    refine z_iload_n 42 rfl rfl ?_
    obtain ⟨Q7, K9, B⟩ := B
    refine z_cVI4 (ν := mX5_markOf) 43 rfl rfl fX5_markOf gX5_121 ⟨_, rfl, rfl⟩ (by decide) (zS_so hS hs0 0 5 rfl rfl) (Nat.le_of_ble_eq_true rfl) K9 (fun v10 h8 q => ?_)
    obtain ⟨hSh8, B⟩ := B v10 h8 q
    refine z_aload_n 44 rfl rfl ?_
    refine z_getR 45 rfl lX5_32 rfl (zS_so hSh8 hs0 0 5 rfl rfl) (zS_sr hSh8 hs0 0 6 13 rfl rfl rfl) ?_
    refine z_iload_n 46 rfl rfl ?_
    refine z_iald 47 rfl (zS_so hSh8 hs0 13 100 rfl rfl) (zin (zS_sl hSh8 hs0 13 5 rfl rfl) o5) ?_
    refine z_icmp_ne 48 89 rfl (by decide) ⟨fun c11 => ?_, fun c11 => ?_⟩
    · have B := B.1 c11
      refine z_iinc (v := 1) 55 rfl rfl (by decide) (by decide) rfl ?_
      refine z_goto 56 41 rfl (by decide) ?_
      refine z_drop 6 ?_
      exact B
    · have B := B.2 c11
      refine z_aload_n 49 rfl rfl ?_
      refine z_getR 50 rfl lX5_35 rfl (zS_so hSh8 hs0 0 5 rfl rfl) (zS_sr hSh8 hs0 0 7 14 rfl rfl rfl) ?_
      refine z_iload_n 51 rfl rfl ?_
      refine z_iload 52 rfl rfl ?_
      refine z_iast 53 rfl (zS_so hSh8 hs0 14 100 rfl rfl) (zin (zS_sl hSh8 hs0 14 5 rfl rfl) o5) ?_
      exact z_vret 54 rfl rfl ⟨rfl, rfl⟩ ⟨rfl, B⟩
set_option maxRecDepth 100000 in
set_option maxHeartbeats 4000000 in
theorem sg_X5_vote_0 {G : zG} {d : Nat} {h : zMem} {Q : zMem → Prop} {t : Nat} {a0 : Nat} {a1 : Nat} (hS : zSh1 h t) (hs0 : isSt a0) (ht1 : isTd a1) (B : (¬ (zI h (a1 + 1) 1) = 0 → ¬ (zI h (a1 + 1) 1) = 0 ∧ ∃ Q3 : Int32 → zMem → Prop, zConI G mX5_mostThought d [.ref a0, .ref a1, .int ((zI h a0 10) - (zI h a0 10) / (zI h (a1 + 1) 1) * (zI h (a1 + 1) 1))] h Q3 ∧ (∀ v6 h4, Q3 v6 h4 → zSh1 h4 t ∧ (¬ (zI (zsI h4 a0 11 v6) a0 11) = ((zI h a0 10) - (zI h a0 10) / (zI h (a1 + 1) 1) * (zI h (a1 + 1) 1)) → vp_in (zI (zsI h4 a0 11 v6) a0 11) 8 ∧ vp_in ((zI h a0 10) - (zI h a0 10) / (zI h (a1 + 1) 1) * (zI h (a1 + 1) 1)) 8 ∧ ((zI (zsI h4 a0 11 v6) (a1 + 8) (zI (zsI h4 a0 11 v6) a0 11).toNatClampNeg) = (zI (zsI h4 a0 11 v6) (a1 + 8) ((zI h a0 10) - (zI h a0 10) / (zI h (a1 + 1) 1) * (zI h (a1 + 1) 1)).toNatClampNeg) → Q (zsI h4 a0 11 v6)) ∧ (¬ (zI (zsI h4 a0 11 v6) (a1 + 8) (zI (zsI h4 a0 11 v6) a0 11).toNatClampNeg) = (zI (zsI h4 a0 11 v6) (a1 + 8) ((zI h a0 10) - (zI h a0 10) / (zI h (a1 + 1) 1) * (zI h (a1 + 1) 1)).toNatClampNeg) → Q (zsI (zsI h4 a0 11 v6) a0 13 ((zI (zsI h4 a0 11 v6) a0 13) + (1 : Int32))))) ∧ ((zI (zsI h4 a0 11 v6) a0 11) = ((zI h a0 10) - (zI h a0 10) / (zI h (a1 + 1) 1) * (zI h (a1 + 1) 1)) → vp_in (zI (zsI (zsI h4 a0 11 v6) a0 12 ((zI (zsI h4 a0 11 v6) a0 12) + (1 : Int32))) a0 11) 8 ∧ vp_in ((zI h a0 10) - (zI h a0 10) / (zI h (a1 + 1) 1) * (zI h (a1 + 1) 1)) 8 ∧ ((zI (zsI (zsI h4 a0 11 v6) a0 12 ((zI (zsI h4 a0 11 v6) a0 12) + (1 : Int32))) (a1 + 8) (zI (zsI (zsI h4 a0 11 v6) a0 12 ((zI (zsI h4 a0 11 v6) a0 12) + (1 : Int32))) a0 11).toNatClampNeg) = (zI (zsI (zsI h4 a0 11 v6) a0 12 ((zI (zsI h4 a0 11 v6) a0 12) + (1 : Int32))) (a1 + 8) ((zI h a0 10) - (zI h a0 10) / (zI h (a1 + 1) 1) * (zI h (a1 + 1) 1)).toNatClampNeg) → Q (zsI (zsI h4 a0 11 v6) a0 12 ((zI (zsI h4 a0 11 v6) a0 12) + (1 : Int32)))) ∧ (¬ (zI (zsI (zsI h4 a0 11 v6) a0 12 ((zI (zsI h4 a0 11 v6) a0 12) + (1 : Int32))) (a1 + 8) (zI (zsI (zsI h4 a0 11 v6) a0 12 ((zI (zsI h4 a0 11 v6) a0 12) + (1 : Int32))) a0 11).toNatClampNeg) = (zI (zsI (zsI h4 a0 11 v6) a0 12 ((zI (zsI h4 a0 11 v6) a0 12) + (1 : Int32))) (a1 + 8) ((zI h a0 10) - (zI h a0 10) / (zI h (a1 + 1) 1) * (zI h (a1 + 1) 1)).toNatClampNeg) → Q (zsI (zsI (zsI h4 a0 11 v6) a0 12 ((zI (zsI h4 a0 11 v6) a0 12) + (1 : Int32))) a0 13 ((zI (zsI (zsI h4 a0 11 v6) a0 12 ((zI (zsI h4 a0 11 v6) a0 12) + (1 : Int32))) a0 13) + (1 : Int32))))))) ∧ ((zI h (a1 + 1) 1) = 0 → Q h)) : zg G mX5_vote (d + 1) 0 [.ref a0, .ref a1, zU, zU] [] h (zPV Q) := by
  refine z_aload_n 0 rfl rfl ?_
  refine z_getR 1 rfl lX5_49 rfl (zS_to hS ht1 0 6 rfl rfl) (zS_tr hS ht1 0 0 1 rfl rfl rfl) ?_
  refine z_iconst (v := 1) 2 rfl (by decide) ?_
  refine z_iald_c 3 1 rfl (by decide) (zS_to hS ht1 1 100 rfl rfl) (zin (zS_tl hS ht1 1 4 rfl rfl) (zvp (by decide))) ?_
  refine z_istore_n 4 rfl (by decide) rfl ?_
  refine z_iload_n 5 rfl rfl ?_
  refine z_if_ne 6 12 rfl (by decide) ⟨fun c1 => ?_, fun c1 => ?_⟩
  · have B := B.1 c1
    refine z_aload_n 8 rfl rfl ?_
    refine z_getI 9 rfl lX5_55 rfl (zS_so hS hs0 0 5 rfl rfl) ?_
    refine z_iload_n 10 rfl rfl ?_
    obtain ⟨o2, B⟩ := B
    refine z_irem 11 rfl o2 ?_
    refine z_istore_n 12 rfl (by decide) rfl ?_
    refine z_aload_n 13 rfl rfl ?_
    refine z_aload_n 14 rfl rfl ?_
    refine z_aload_n 15 rfl rfl ?_
    refine z_iload_n 16 rfl rfl ?_
    obtain ⟨Q3, K5, B⟩ := B
    refine z_cVI2 (ν := mX5_mostThought) 17 rfl rfl fX5_mostThought gX5_125 ⟨_, rfl, rfl⟩ (by decide) (zS_so hS hs0 0 5 rfl rfl) (Nat.le_of_ble_eq_true rfl) K5 (fun v6 h4 q => ?_)
    obtain ⟨hSh4, B⟩ := B v6 h4 q
    refine z_putI 18 rfl lX5_59 ⟨_, _, _, rfl, rfl⟩ rfl rfl rfl (zS_so hSh4 hs0 0 5 rfl rfl) ?_
    refine z_aload_n 19 rfl rfl ?_
    refine z_getI 20 rfl lX5_59 rfl (zS_so hSh4 hs0 0 5 rfl rfl) ?_
    refine z_iload_n 21 rfl rfl ?_
    refine z_icmp_ne 22 47 rfl (by decide) ⟨fun c7 => ?_, fun c7 => ?_⟩
    · have B := B.1 c7
      refine z_aload_n 29 rfl rfl ?_
      refine z_getR 30 rfl lX5_129 rfl (zS_to hSh4 ht1 0 6 rfl rfl) (zS_tr hSh4 ht1 0 3 8 rfl rfl rfl) ?_
      refine z_aload_n 31 rfl rfl ?_
      refine z_getI 32 rfl lX5_59 rfl (zS_so hSh4 hs0 0 5 rfl rfl) ?_
      obtain ⟨o8, B⟩ := B
      refine z_zald 33 rfl (zS_to hSh4 ht1 8 103 rfl rfl) (zin (zS_tl hSh4 ht1 8 8 rfl rfl) o8) ?_
      refine z_aload_n 34 rfl rfl ?_
      refine z_getR 35 rfl lX5_129 rfl (zS_to hSh4 ht1 0 6 rfl rfl) (zS_tr hSh4 ht1 0 3 8 rfl rfl rfl) ?_
      refine z_iload_n 36 rfl rfl ?_
      obtain ⟨o9, B⟩ := B
      refine z_zald 37 rfl (zS_to hSh4 ht1 8 103 rfl rfl) (zin (zS_tl hSh4 ht1 8 8 rfl rfl) o9) ?_
      refine z_icmp_eq 38 75 rfl (by decide) ⟨fun c10 => ?_, fun c10 => ?_⟩
      · have B := B.1 c10
        exact z_vret 45 rfl rfl ⟨rfl, rfl⟩ ⟨rfl, B⟩
      · have B := B.2 c10
        refine z_aload_n 39 rfl rfl ?_
        refine z_dup 40 rfl rfl ?_
        refine z_getI 41 rfl lX5_65 rfl (zS_so hSh4 hs0 0 5 rfl rfl) ?_
        refine z_iconst (v := 1) 42 rfl (by decide) ?_
        refine z_iadd 43 rfl ?_
        refine z_putI 44 rfl lX5_65 ⟨_, _, _, rfl, rfl⟩ rfl rfl rfl (zS_so hSh4 hs0 0 5 rfl rfl) ?_
        exact z_vret 45 rfl rfl ⟨rfl, rfl⟩ ⟨rfl, B⟩
    · have B := B.2 c7
      refine z_aload_n 23 rfl rfl ?_
      refine z_dup 24 rfl rfl ?_
      refine z_getI 25 rfl lX5_62 rfl (zS_so hSh4 hs0 0 5 rfl rfl) ?_
      refine z_iconst (v := 1) 26 rfl (by decide) ?_
      refine z_iadd 27 rfl ?_
      refine z_putI 28 rfl lX5_62 ⟨_, _, _, rfl, rfl⟩ rfl rfl rfl (zS_so hSh4 hs0 0 5 rfl rfl) ?_
      refine z_aload_n 29 rfl rfl ?_
      refine z_getR 30 rfl lX5_129 rfl (zS_to hSh4 ht1 0 6 rfl rfl) (zS_tr hSh4 ht1 0 3 8 rfl rfl rfl) ?_
      refine z_aload_n 31 rfl rfl ?_
      refine z_getI 32 rfl lX5_59 rfl (zS_so hSh4 hs0 0 5 rfl rfl) ?_
      obtain ⟨o11, B⟩ := B
      refine z_zald 33 rfl (zS_to hSh4 ht1 8 103 rfl rfl) (zin (zS_tl hSh4 ht1 8 8 rfl rfl) o11) ?_
      refine z_aload_n 34 rfl rfl ?_
      refine z_getR 35 rfl lX5_129 rfl (zS_to hSh4 ht1 0 6 rfl rfl) (zS_tr hSh4 ht1 0 3 8 rfl rfl rfl) ?_
      refine z_iload_n 36 rfl rfl ?_
      obtain ⟨o12, B⟩ := B
      refine z_zald 37 rfl (zS_to hSh4 ht1 8 103 rfl rfl) (zin (zS_tl hSh4 ht1 8 8 rfl rfl) o12) ?_
      refine z_icmp_eq 38 75 rfl (by decide) ⟨fun c13 => ?_, fun c13 => ?_⟩
      · have B := B.1 c13
        exact z_vret 45 rfl rfl ⟨rfl, rfl⟩ ⟨rfl, B⟩
      · have B := B.2 c13
        refine z_aload_n 39 rfl rfl ?_
        refine z_dup 40 rfl rfl ?_
        refine z_getI 41 rfl lX5_65 rfl (zS_so hSh4 hs0 0 5 rfl rfl) ?_
        refine z_iconst (v := 1) 42 rfl (by decide) ?_
        refine z_iadd 43 rfl ?_
        refine z_putI 44 rfl lX5_65 ⟨_, _, _, rfl, rfl⟩ rfl rfl rfl (zS_so hSh4 hs0 0 5 rfl rfl) ?_
        exact z_vret 45 rfl rfl ⟨rfl, rfl⟩ ⟨rfl, B⟩
  · have B := B.2 c1
    exact z_vret 7 rfl rfl ⟨rfl, rfl⟩ ⟨rfl, B⟩
theorem cn_X5_vote {G : zG} {d : Nat} {h : zMem} {Q : zMem → Prop} {a0 : Nat} {a1 : Nat} (B : zg G mX5_vote (d + 1) 0 [.ref a0, .ref a1, zU, zU] [] h (zPV Q)) : zConV G mX5_vote (d + 1) [.ref a0, .ref a1] h Q := zcon0 (by decide +kernel) eX5_vote (Nat.le_of_ble_eq_true rfl) rfl B
set_option maxRecDepth 100000 in
set_option maxHeartbeats 4000000 in
theorem sg_X5_mostThought_0 {G : zG} {d : Nat} {h : zMem} {Q : Int32 → zMem → Prop} {t : Nat} {a0 : Nat} {a1 : Nat} {x2 : Int32} (hS : zSh1 h t) (hs0 : isSt a0) (ht1 : isTd a1) (B : zg G mX5_mostThought d 2 [.ref a0, .ref a1, .int x2, .int (0 : Int32), zU, zU] [] h (zPI Q)) : zg G mX5_mostThought d 0 [.ref a0, .ref a1, .int x2, zU, zU, zU] [] h (zPI Q) := by
  refine z_iconst (v := 0) 0 rfl (by decide) ?_
  refine z_istore_n 1 rfl (by decide) rfl ?_
  exact B
theorem cn_X5_mostThought {G : zG} {d : Nat} {h : zMem} {Q : Int32 → zMem → Prop} {a0 : Nat} {a1 : Nat} {x2 : Int32} (B : zg G mX5_mostThought d 0 [.ref a0, .ref a1, .int x2, zU, zU, zU] [] h (zPI Q)) : zConI G mX5_mostThought d [.ref a0, .ref a1, .int x2] h Q := zcon0 (by decide +kernel) eX5_mostThought (Nat.le_of_ble_eq_true rfl) rfl B
set_option maxRecDepth 100000 in
set_option maxHeartbeats 4000000 in
theorem sg_X5_mostThought_2 {G : zG} {d : Nat} {h : zMem} {Q : Int32 → zMem → Prop} {t : Nat} {a0 : Nat} {a1 : Nat} {x2 : Int32} {x3 : Int32} (hS : zSh1 h t) (hs0 : isSt a0) (ht1 : isTd a1) (B : ((8 : Int32) ≤ x3 → zg G mX5_mostThought d 23 [.ref a0, .ref a1, .int x2, .int (0 : Int32), zU, zU] [] h (zPI Q)) ∧ (¬ (8 : Int32) ≤ x3 → vp_in x3 8 ∧ zg G mX5_mostThought d 2 [.ref a0, .ref a1, .int x2, .int (x3 + 1), zU, zU] [] (zsI h (a0 + 16) x3.toNatClampNeg (0 : Int32)) (zPI Q))) : zg G mX5_mostThought d 2 [.ref a0, .ref a1, .int x2, .int x3, zU, zU] [] h (zPI Q) := by
  refine z_iload_n 2 rfl rfl ?_
  refine z_bipush (v := 8) 3 rfl (by decide) ?_
  refine z_icmp_ge 4 21 rfl (by decide) ⟨fun c1 => ?_, fun c1 => ?_⟩
  · have B := B.1 c1
    refine z_iconst (v := 0) 12 rfl (by decide) ?_
    refine z_istore_n 13 rfl (by decide) rfl ?_
    exact B
  · have B := B.2 c1
    refine z_aload_n 5 rfl rfl ?_
    refine z_getR 6 rfl lX5_41 rfl (zS_so hS hs0 0 5 rfl rfl) (zS_sr hS hs0 0 9 16 rfl rfl rfl) ?_
    refine z_iload_n 7 rfl rfl ?_
    refine z_iconst (v := 0) 8 rfl (by decide) ?_
    obtain ⟨o2, B⟩ := B
    refine z_iast 9 rfl (zS_so hS hs0 16 100 rfl rfl) (zin (zS_sl hS hs0 16 8 rfl rfl) o2) ?_
    refine z_iinc (v := 1) 10 rfl rfl (by decide) (by decide) rfl ?_
    refine z_goto 11 2 rfl (by decide) ?_
    exact B
set_option maxRecDepth 100000 in
set_option maxHeartbeats 4000000 in
theorem sg_X5_mostThought_23 {G : zG} {d : Nat} {h : zMem} {Q : Int32 → zMem → Prop} {t : Nat} {a0 : Nat} {a1 : Nat} {x2 : Int32} {x3 : Int32} (hS : zSh1 h t) (hs0 : isSt a0) (ht1 : isTd a1) (B : ((zI h (a1 + 1) 3) ≤ x3 → zg G mX5_mostThought d 70 [.ref a0, .ref a1, .int x2, .int x2, .int (0 : Int32), .int (0 : Int32)] [] h (zPI Q)) ∧ (¬ (zI h (a1 + 1) 3) ≤ x3 → (x3 = (zI h a0 14) → zg G mX5_mostThought d 23 [.ref a0, .ref a1, .int x2, .int (x3 + 1), zU, zU] [] h (zPI Q)) ∧ (¬ x3 = (zI h a0 14) → vp_in x3 5 ∧ vp_in (zI h (a0 + 14) x3.toNatClampNeg) 8 ∧ zg G mX5_mostThought d 23 [.ref a0, .ref a1, .int x2, .int (x3 + 1), zU, zU] [] (zsI h (a0 + 16) (zI h (a0 + 14) x3.toNatClampNeg).toNatClampNeg ((zI h (a0 + 16) (zI h (a0 + 14) x3.toNatClampNeg).toNatClampNeg) + (1 : Int32))) (zPI Q)))) : zg G mX5_mostThought d 23 [.ref a0, .ref a1, .int x2, .int x3, zU, zU] [] h (zPI Q) := by
  refine z_iload_n 14 rfl rfl ?_
  refine z_aload_n 15 rfl rfl ?_
  refine z_getR 16 rfl lX5_49 rfl (zS_to hS ht1 0 6 rfl rfl) (zS_tr hS ht1 0 0 1 rfl rfl rfl) ?_
  refine z_iconst (v := 3) 17 rfl (by decide) ?_
  refine z_iald_c 18 3 rfl (by decide) (zS_to hS ht1 1 100 rfl rfl) (zin (zS_tl hS ht1 1 4 rfl rfl) (zvp (by decide))) ?_
  refine z_icmp_ge 19 62 rfl (by decide) ⟨fun c1 => ?_, fun c1 => ?_⟩
  · have B := B.1 c1
    refine z_iload_n 37 rfl rfl ?_
    refine z_istore_n 38 rfl (by decide) rfl ?_
    refine z_iconst (v := 0) 39 rfl (by decide) ?_
    refine z_istore 40 rfl (by decide) rfl ?_
    refine z_iconst (v := 0) 41 rfl (by decide) ?_
    refine z_istore 42 rfl (by decide) rfl ?_
    exact B
  · have B := B.2 c1
    refine z_iload_n 20 rfl rfl ?_
    refine z_aload_n 21 rfl rfl ?_
    refine z_getI 22 rfl lX5_68 rfl (zS_so hS hs0 0 5 rfl rfl) ?_
    refine z_icmp_eq 23 56 rfl (by decide) ⟨fun c2 => ?_, fun c2 => ?_⟩
    · have B := B.1 c2
      refine z_iinc (v := 1) 35 rfl rfl (by decide) (by decide) rfl ?_
      refine z_goto 36 23 rfl (by decide) ?_
      exact B
    · have B := B.2 c2
      refine z_aload_n 24 rfl rfl ?_
      refine z_getR 25 rfl lX5_41 rfl (zS_so hS hs0 0 5 rfl rfl) (zS_sr hS hs0 0 9 16 rfl rfl rfl) ?_
      refine z_aload_n 26 rfl rfl ?_
      refine z_getR 27 rfl lX5_35 rfl (zS_so hS hs0 0 5 rfl rfl) (zS_sr hS hs0 0 7 14 rfl rfl rfl) ?_
      refine z_iload_n 28 rfl rfl ?_
      obtain ⟨o3, B⟩ := B
      refine z_iald 29 rfl (zS_so hS hs0 14 100 rfl rfl) (zin (zS_sl hS hs0 14 5 rfl rfl) o3) ?_
      refine z_dup2 30 rfl rfl rfl ?_
      obtain ⟨o4, B⟩ := B
      refine z_iald 31 rfl (zS_so hS hs0 16 100 rfl rfl) (zin (zS_sl hS hs0 16 8 rfl rfl) o4) ?_
      refine z_iconst (v := 1) 32 rfl (by decide) ?_
      refine z_iadd 33 rfl ?_
      refine z_iast 34 rfl (zS_so hS hs0 16 100 rfl rfl) (zin (zS_sl hS hs0 16 8 rfl rfl) o4) ?_
      refine z_iinc (v := 1) 35 rfl rfl (by decide) (by decide) rfl ?_
      refine z_goto 36 23 rfl (by decide) ?_
      exact B
set_option maxRecDepth 100000 in
set_option maxHeartbeats 4000000 in
theorem sg_X5_mostThought_70 {G : zG} {d : Nat} {h : zMem} {Q : Int32 → zMem → Prop} {t : Nat} {a0 : Nat} {a1 : Nat} {x2 : Int32} {x3 : Int32} {x4 : Int32} {x5 : Int32} (hS : zSh1 h t) (hs0 : isSt a0) (ht1 : isTd a1) (B : ((zI h (a1 + 1) 1) ≤ x5 → Q x3 h) ∧ (¬ (zI h (a1 + 1) 1) ≤ x5 → vp_in x5 8 ∧ ((zI h (a0 + 16) x5.toNatClampNeg) ≤ x4 → zg G mX5_mostThought d 70 [.ref a0, .ref a1, .int x2, .int x3, .int x4, .int (x5 + 1)] [] h (zPI Q)) ∧ (¬ (zI h (a0 + 16) x5.toNatClampNeg) ≤ x4 → zg G mX5_mostThought d 70 [.ref a0, .ref a1, .int x2, .int x5, .int (zI h (a0 + 16) x5.toNatClampNeg), .int (x5 + 1)] [] h (zPI Q)))) : zg G mX5_mostThought d 70 [.ref a0, .ref a1, .int x2, .int x3, .int x4, .int x5] [] h (zPI Q) := by
  refine z_iload 43 rfl rfl ?_
  refine z_aload_n 44 rfl rfl ?_
  refine z_getR 45 rfl lX5_49 rfl (zS_to hS ht1 0 6 rfl rfl) (zS_tr hS ht1 0 0 1 rfl rfl rfl) ?_
  refine z_iconst (v := 1) 46 rfl (by decide) ?_
  refine z_iald_c 47 1 rfl (by decide) (zS_to hS ht1 1 100 rfl rfl) (zin (zS_tl hS ht1 1 4 rfl rfl) (zvp (by decide))) ?_
  refine z_icmp_ge 48 111 rfl (by decide) ⟨fun c1 => ?_, fun c1 => ?_⟩
  · have B := B.1 c1
    refine z_iload_n 64 rfl rfl ?_
    exact z_iret 65 rfl rfl rfl ⟨rfl, rfl⟩ ⟨_, rfl, B⟩
  · have B := B.2 c1
    refine z_aload_n 49 rfl rfl ?_
    refine z_getR 50 rfl lX5_41 rfl (zS_so hS hs0 0 5 rfl rfl) (zS_sr hS hs0 0 9 16 rfl rfl rfl) ?_
    refine z_iload 51 rfl rfl ?_
    obtain ⟨o2, B⟩ := B
    refine z_iald 52 rfl (zS_so hS hs0 16 100 rfl rfl) (zin (zS_sl hS hs0 16 8 rfl rfl) o2) ?_
    refine z_iload 53 rfl rfl ?_
    refine z_icmp_le 54 105 rfl (by decide) ⟨fun c3 => ?_, fun c3 => ?_⟩
    · have B := B.1 c3
      refine z_iinc (v := 1) 62 rfl rfl (by decide) (by decide) rfl ?_
      refine z_goto 63 70 rfl (by decide) ?_
      exact B
    · have B := B.2 c3
      refine z_aload_n 55 rfl rfl ?_
      refine z_getR 56 rfl lX5_41 rfl (zS_so hS hs0 0 5 rfl rfl) (zS_sr hS hs0 0 9 16 rfl rfl rfl) ?_
      refine z_iload 57 rfl rfl ?_
      refine z_iald 58 rfl (zS_so hS hs0 16 100 rfl rfl) (zin (zS_sl hS hs0 16 8 rfl rfl) o2) ?_
      refine z_istore 59 rfl (by decide) rfl ?_
      refine z_iload 60 rfl rfl ?_
      refine z_istore_n 61 rfl (by decide) rfl ?_
      refine z_iinc (v := 1) 62 rfl rfl (by decide) (by decide) rfl ?_
      refine z_goto 63 70 rfl (by decide) ?_
      exact B
set_option maxRecDepth 100000 in
set_option maxHeartbeats 4000000 in
theorem sg_X5_feastThinkers_0 {G : zG} {d : Nat} {h : zMem} {Q : Int32 → zMem → Prop} {t : Nat} {a0 : Nat} {a1 : Nat} (hS : zSh1 h t) (hs0 : isSt a0) (ht1 : isTd a1) (B : zg G mX5_feastThinkers d 4 [.ref a0, .ref a1, .int (0 : Int32), .int (0 : Int32), zU] [] h (zPI Q)) : zg G mX5_feastThinkers d 0 [.ref a0, .ref a1, zU, zU, zU] [] h (zPI Q) := by
  refine z_iconst (v := 0) 0 rfl (by decide) ?_
  refine z_istore_n 1 rfl (by decide) rfl ?_
  refine z_iconst (v := 0) 2 rfl (by decide) ?_
  refine z_istore_n 3 rfl (by decide) rfl ?_
  exact B
theorem cn_X5_feastThinkers {G : zG} {d : Nat} {h : zMem} {Q : Int32 → zMem → Prop} {a0 : Nat} {a1 : Nat} (B : zg G mX5_feastThinkers d 0 [.ref a0, .ref a1, zU, zU, zU] [] h (zPI Q)) : zConI G mX5_feastThinkers d [.ref a0, .ref a1] h Q := zcon0 (by decide +kernel) eX5_feastThinkers (Nat.le_of_ble_eq_true rfl) rfl B
set_option maxRecDepth 100000 in
set_option maxHeartbeats 4000000 in
theorem sg_X5_feastThinkers_4 {G : zG} {d : Nat} {h : zMem} {Q : Int32 → zMem → Prop} {t : Nat} {a0 : Nat} {a1 : Nat} {x2 : Int32} {x3 : Int32} (hS : zSh1 h t) (hs0 : isSt a0) (ht1 : isTd a1) (B : ((zI h (a1 + 1) 3) ≤ x3 → Q x2 h) ∧ (¬ (zI h (a1 + 1) 3) ≤ x3 → vp_in x3 5 ∧ ((zI h (a0 + 14) x3.toNatClampNeg) < 0 → zg G mX5_feastThinkers d 4 [.ref a0, .ref a1, .int x2, .int (x3 + 1), zU] [] h (zPI Q)) ∧ (¬ (zI h (a0 + 14) x3.toNatClampNeg) < 0 → vp_in (zI h (a0 + 14) x3.toNatClampNeg) 8 ∧ ((zI h (a1 + 8) (zI h (a0 + 14) x3.toNatClampNeg).toNatClampNeg) = 0 → zg G mX5_feastThinkers d 4 [.ref a0, .ref a1, .int x2, .int (x3 + 1), zU] [] h (zPI Q)) ∧ (¬ (zI h (a1 + 8) (zI h (a0 + 14) x3.toNatClampNeg).toNatClampNeg) = 0 → zg G mX5_feastThinkers d 4 [.ref a0, .ref a1, .int (x2 + 1), .int (x3 + 1), zU] [] h (zPI Q))))) : zg G mX5_feastThinkers d 4 [.ref a0, .ref a1, .int x2, .int x3, zU] [] h (zPI Q) := by
  refine z_iload_n 4 rfl rfl ?_
  refine z_aload_n 5 rfl rfl ?_
  refine z_getR 6 rfl lX5_49 rfl (zS_to hS ht1 0 6 rfl rfl) (zS_tr hS ht1 0 0 1 rfl rfl rfl) ?_
  refine z_iconst (v := 3) 7 rfl (by decide) ?_
  refine z_iald_c 8 3 rfl (by decide) (zS_to hS ht1 1 100 rfl rfl) (zin (zS_tl hS ht1 1 4 rfl rfl) (zvp (by decide))) ?_
  refine z_icmp_ge 9 46 rfl (by decide) ⟨fun c1 => ?_, fun c1 => ?_⟩
  · have B := B.1 c1
    refine z_iload_n 25 rfl rfl ?_
    exact z_iret 26 rfl rfl rfl ⟨rfl, rfl⟩ ⟨_, rfl, B⟩
  · have B := B.2 c1
    refine z_aload_n 10 rfl rfl ?_
    refine z_getR 11 rfl lX5_35 rfl (zS_so hS hs0 0 5 rfl rfl) (zS_sr hS hs0 0 7 14 rfl rfl rfl) ?_
    refine z_iload_n 12 rfl rfl ?_
    obtain ⟨o2, B⟩ := B
    refine z_iald 13 rfl (zS_so hS hs0 14 100 rfl rfl) (zin (zS_sl hS hs0 14 5 rfl rfl) o2) ?_
    refine z_istore 14 rfl (by decide) rfl ?_
    refine z_iload 15 rfl rfl ?_
    refine z_if_lt 16 40 rfl (by decide) ⟨fun c3 => ?_, fun c3 => ?_⟩
    · have B := B.1 c3
      refine z_iinc (v := 1) 23 rfl rfl (by decide) (by decide) rfl ?_
      refine z_goto 24 4 rfl (by decide) ?_
      refine z_drop 4 ?_
      exact B
    · have B := B.2 c3
      refine z_aload_n 17 rfl rfl ?_
      refine z_getR 18 rfl lX5_129 rfl (zS_to hS ht1 0 6 rfl rfl) (zS_tr hS ht1 0 3 8 rfl rfl rfl) ?_
      refine z_iload 19 rfl rfl ?_
      obtain ⟨o4, B⟩ := B
      refine z_zald 20 rfl (zS_to hS ht1 8 103 rfl rfl) (zin (zS_tl hS ht1 8 8 rfl rfl) o4) ?_
      refine z_if_eq 21 40 rfl (by decide) ⟨fun c5 => ?_, fun c5 => ?_⟩
      · have B := B.1 c5
        refine z_iinc (v := 1) 23 rfl rfl (by decide) (by decide) rfl ?_
        refine z_goto 24 4 rfl (by decide) ?_
        refine z_drop 4 ?_
        exact B
      · have B := B.2 c5
        refine z_iinc (v := 1) 22 rfl rfl (by decide) (by decide) rfl ?_
        refine z_iinc (v := 1) 23 rfl rfl (by decide) (by decide) rfl ?_
        refine z_goto 24 4 rfl (by decide) ?_
        refine z_drop 4 ?_
        exact B
set_option maxRecDepth 100000 in
set_option maxHeartbeats 4000000 in
theorem sg_X5_markOf_0 {G : zG} {d : Nat} {h : zMem} {Q : Int32 → zMem → Prop} {t : Nat} {a0 : Nat} {a1 : Nat} {x2 : Int32} {x3 : Int32} {x4 : Int32} (hS : zSh1 h t) (hs0 : isSt a0) (ht1 : isTd a1) (B : vp_in x3 8 ∧ vp_in x2 5 ∧ vp_in (zI h (a0 + 11) x2.toNatClampNeg) 6 ∧ ∃ Q4 : Int32 → zMem → Prop, zConI G mX7_smelt d [.ref a1, .ref (a1 + 9 + 1 + x3.toNatClampNeg), .int (zI h (a0 + 3) (zI h (a0 + 11) x2.toNatClampNeg).toNatClampNeg), .int x4, .int (zI h (a0 + 12) x2.toNatClampNeg)] h Q4 ∧ (∀ v7 h5, Q4 v7 h5 → zSh1 h5 t ∧ Q v7 h5)) : zg G mX5_markOf (d + 1) 0 [.ref a0, .ref a1, .int x2, .int x3, .int x4] [] h (zPI Q) := by
  refine z_aload_n 0 rfl rfl ?_
  refine z_aload_n 1 rfl rfl ?_
  refine z_getR 2 rfl lX5_133 rfl (zS_to hS ht1 0 6 rfl rfl) (zS_tr hS ht1 0 4 9 rfl rfl rfl) ?_
  refine z_iload_n 3 rfl rfl ?_
  obtain ⟨o1, B⟩ := B
  refine z_aald 4 rfl (zS_to hS ht1 9 104 rfl rfl) (zin (zS_tl hS ht1 9 8 rfl rfl) o1) (zS_trow hS ht1 9 8 6 rfl rfl rfl o1).1 ?_
  refine z_aload_n 5 rfl rfl ?_
  refine z_getR 6 rfl lX5_18 rfl (zS_so hS hs0 0 5 rfl rfl) (zS_sr hS hs0 0 2 3 rfl rfl rfl) ?_
  refine z_aload_n 7 rfl rfl ?_
  refine z_getR 8 rfl lX5_26 rfl (zS_so hS hs0 0 5 rfl rfl) (zS_sr hS hs0 0 4 11 rfl rfl rfl) ?_
  refine z_iload_n 9 rfl rfl ?_
  obtain ⟨o2, B⟩ := B
  refine z_iald 10 rfl (zS_so hS hs0 11 100 rfl rfl) (zin (zS_sl hS hs0 11 5 rfl rfl) o2) ?_
  obtain ⟨o3, B⟩ := B
  refine z_iald 11 rfl (zS_so hS hs0 3 100 rfl rfl) (zin (zS_sl hS hs0 3 6 rfl rfl) o3) ?_
  refine z_iload 12 rfl rfl ?_
  refine z_aload_n 13 rfl rfl ?_
  refine z_getR 14 rfl lX5_29 rfl (zS_so hS hs0 0 5 rfl rfl) (zS_sr hS hs0 0 5 12 rfl rfl rfl) ?_
  refine z_iload_n 15 rfl rfl ?_
  refine z_iald 16 rfl (zS_so hS hs0 12 100 rfl rfl) (zin (zS_sl hS hs0 12 5 rfl rfl) o2) ?_
  obtain ⟨Q4, K6, B⟩ := B
  refine z_cVI4 (ν := mX7_smelt) 17 rfl rfl fX7_smelt gX5_117 ⟨_, rfl, rfl⟩ (by decide) (zS_to hS ht1 0 6 rfl rfl) (Nat.le_of_ble_eq_true rfl) K6 (fun v7 h5 q => ?_)
  obtain ⟨hSh5, B⟩ := B v7 h5 q
  exact z_iret 18 rfl rfl rfl ⟨rfl, rfl⟩ ⟨_, rfl, B⟩
theorem cn_X5_markOf {G : zG} {d : Nat} {h : zMem} {Q : Int32 → zMem → Prop} {a0 : Nat} {a1 : Nat} {x2 : Int32} {x3 : Int32} {x4 : Int32} (B : zg G mX5_markOf (d + 1) 0 [.ref a0, .ref a1, .int x2, .int x3, .int x4] [] h (zPI Q)) : zConI G mX5_markOf (d + 1) [.ref a0, .ref a1, .int x2, .int x3, .int x4] h Q := zcon0 (by decide +kernel) eX5_markOf (Nat.le_of_ble_eq_true rfl) rfl B
set_option maxRecDepth 100000 in
set_option maxHeartbeats 4000000 in
theorem sg_X5_airLaw_0 {G : zG} {d : Nat} {h : zMem} {Q : Int64 → zMem → Prop} {t : Nat} {a0 : Nat} {a1 : Nat} {x2 : Int32} {x3 : Int32} {x4 : Int32} (hS : zSh1 h t) (hs0 : isSt a0) (ht1 : isTd a1) (B : vp_in x2 6 ∧ vp_in x3 6 ∧ ∃ Q3 : zMem → Prop, zConV G mX0_setNames d [.ref (a1 + 21), .int x4, .int (zI h (a0 + 3) x2.toNatClampNeg), .int (zI h (a0 + 4 + 1 + x2.toNatClampNeg) x3.toNatClampNeg), .int (zI h (a0 + 2) x3.toNatClampNeg), .int (zI h a0 10), .int x2, .int (0 : Int32)] h Q3 ∧ (∀ h4, Q3 h4 → zSh1 h4 t ∧ ∃ Q6 : Int64 → zMem → Prop, zConL G mX0_workOut d [.ref (a1 + 21), .int (0 : Int32)] h4 Q6 ∧ (∀ v9 h7, Q6 v9 h7 → zSh1 h7 t ∧ Q v9 h7))) : zg G mX5_airLaw (d + 1) 0 [.ref a0, .ref a1, .int x2, .int x3, .int x4] [] h (zPL Q) := by
  refine z_aload_n 0 rfl rfl ?_
  refine z_getR 1 rfl lX5_136 rfl (zS_to hS ht1 0 6 rfl rfl) (zS_tr hS ht1 0 8 21 rfl rfl rfl) ?_
  refine z_iload 2 rfl rfl ?_
  refine z_aload_n 3 rfl rfl ?_
  refine z_getR 4 rfl lX5_18 rfl (zS_so hS hs0 0 5 rfl rfl) (zS_sr hS hs0 0 2 3 rfl rfl rfl) ?_
  refine z_iload_n 5 rfl rfl ?_
  obtain ⟨o1, B⟩ := B
  refine z_iald 6 rfl (zS_so hS hs0 3 100 rfl rfl) (zin (zS_sl hS hs0 3 6 rfl rfl) o1) ?_
  refine z_aload_n 7 rfl rfl ?_
  refine z_getR 8 rfl lX5_23 rfl (zS_so hS hs0 0 5 rfl rfl) (zS_sr hS hs0 0 3 4 rfl rfl rfl) ?_
  refine z_iload_n 9 rfl rfl ?_
  refine z_aald 10 rfl (zS_so hS hs0 4 104 rfl rfl) (zin (zS_sl hS hs0 4 6 rfl rfl) o1) (zS_srow hS hs0 4 6 6 rfl rfl rfl o1).1 ?_
  refine z_iload_n 11 rfl rfl ?_
  obtain ⟨o2, B⟩ := B
  refine z_iald 12 rfl (zS_srow hS hs0 4 6 6 rfl rfl rfl o1).2.1 (zin (zS_srow hS hs0 4 6 6 rfl rfl rfl o1).2.2 o2) ?_
  refine z_aload_n 13 rfl rfl ?_
  refine z_getR 14 rfl lX5_15 rfl (zS_so hS hs0 0 5 rfl rfl) (zS_sr hS hs0 0 1 2 rfl rfl rfl) ?_
  refine z_iload_n 15 rfl rfl ?_
  refine z_iald 16 rfl (zS_so hS hs0 2 100 rfl rfl) (zin (zS_sl hS hs0 2 6 rfl rfl) o2) ?_
  refine z_aload_n 17 rfl rfl ?_
  refine z_getI 18 rfl lX5_55 rfl (zS_so hS hs0 0 5 rfl rfl) ?_
  refine z_iload_n 19 rfl rfl ?_
  refine z_iconst (v := 0) 20 rfl (by decide) ?_
  obtain ⟨Q3, K5, B⟩ := B
  refine z_cVV7 (ν := mX0_setNames) 21 rfl rfl fX0_setNames gX5_140 ⟨_, rfl, rfl⟩ (by decide) (zS_to hS ht1 21 0 rfl rfl) (Nat.le_of_ble_eq_true rfl) K5 (fun h4 q => ?_)
  obtain ⟨hSh4, B⟩ := B h4 q
  refine z_aload_n 22 rfl rfl ?_
  refine z_getR 23 rfl lX5_136 rfl (zS_to hSh4 ht1 0 6 rfl rfl) (zS_tr hSh4 ht1 0 8 21 rfl rfl rfl) ?_
  refine z_iconst (v := 0) 24 rfl (by decide) ?_
  obtain ⟨Q6, K8, B⟩ := B
  refine z_cVL1 (ν := mX0_workOut) 25 rfl rfl fX0_workOut gX5_146 ⟨_, rfl, rfl⟩ (by decide) (zS_to hSh4 ht1 21 0 rfl rfl) (Nat.le_of_ble_eq_true rfl) K8 (fun v9 h7 q => ?_)
  obtain ⟨hSh7, B⟩ := B v9 h7 q
  exact z_lret 26 rfl rfl ⟨rfl, rfl⟩ ⟨_, rfl, B⟩
theorem cn_X5_airLaw {G : zG} {d : Nat} {h : zMem} {Q : Int64 → zMem → Prop} {a0 : Nat} {a1 : Nat} {x2 : Int32} {x3 : Int32} {x4 : Int32} (B : zg G mX5_airLaw (d + 1) 0 [.ref a0, .ref a1, .int x2, .int x3, .int x4] [] h (zPL Q)) : zConL G mX5_airLaw (d + 1) [.ref a0, .ref a1, .int x2, .int x3, .int x4] h Q := zcon0 (by decide +kernel) eX5_airLaw (Nat.le_of_ble_eq_true rfl) rfl B
set_option maxRecDepth 100000 in
set_option maxHeartbeats 4000000 in
theorem sg_X5_keenLaw_0 {G : zG} {d : Nat} {h : zMem} {Q : Int64 → zMem → Prop} {t : Nat} {a0 : Nat} {a1 : Nat} {x2 : Int32} {x3 : Int32} (hS : zSh1 h t) (hs0 : isSt a0) (ht1 : isTd a1) (B : vp_in x3 6 ∧ vp_in x2 5 ∧ ∃ Q3 : zMem → Prop, zConV G mX0_setNames d [.ref (a1 + 21), .int (0 : Int32), .int (zI h (a0 + 3) x3.toNatClampNeg), .int (0 : Int32), .int (0 : Int32), .int (zI h a0 10), .int x3, .int (zI h (a1 + 20) x2.toNatClampNeg)] h Q3 ∧ (∀ h4, Q3 h4 → zSh1 h4 t ∧ ∃ Q6 : Int64 → zMem → Prop, zConL G mX0_workOut d [.ref (a1 + 21), .int (1 : Int32)] h4 Q6 ∧ (∀ v9 h7, Q6 v9 h7 → zSh1 h7 t ∧ Q v9 h7))) : zg G mX5_keenLaw (d + 1) 0 [.ref a0, .ref a1, .int x2, .int x3] [] h (zPL Q) := by
  refine z_aload_n 0 rfl rfl ?_
  refine z_getR 1 rfl lX5_136 rfl (zS_to hS ht1 0 6 rfl rfl) (zS_tr hS ht1 0 8 21 rfl rfl rfl) ?_
  refine z_iconst (v := 0) 2 rfl (by decide) ?_
  refine z_aload_n 3 rfl rfl ?_
  refine z_getR 4 rfl lX5_18 rfl (zS_so hS hs0 0 5 rfl rfl) (zS_sr hS hs0 0 2 3 rfl rfl rfl) ?_
  refine z_iload_n 5 rfl rfl ?_
  obtain ⟨o1, B⟩ := B
  refine z_iald 6 rfl (zS_so hS hs0 3 100 rfl rfl) (zin (zS_sl hS hs0 3 6 rfl rfl) o1) ?_
  refine z_iconst (v := 0) 7 rfl (by decide) ?_
  refine z_iconst (v := 0) 8 rfl (by decide) ?_
  refine z_aload_n 9 rfl rfl ?_
  refine z_getI 10 rfl lX5_55 rfl (zS_so hS hs0 0 5 rfl rfl) ?_
  refine z_iload_n 11 rfl rfl ?_
  refine z_aload_n 12 rfl rfl ?_
  refine z_getR 13 rfl lX5_150 rfl (zS_to hS ht1 0 6 rfl rfl) (zS_tr hS ht1 0 7 20 rfl rfl rfl) ?_
  refine z_iload_n 14 rfl rfl ?_
  obtain ⟨o2, B⟩ := B
  refine z_iald 15 rfl (zS_to hS ht1 20 100 rfl rfl) (zin (zS_tl hS ht1 20 5 rfl rfl) o2) ?_
  obtain ⟨Q3, K5, B⟩ := B
  refine z_cVV7 (ν := mX0_setNames) 16 rfl rfl fX0_setNames gX5_140 ⟨_, rfl, rfl⟩ (by decide) (zS_to hS ht1 21 0 rfl rfl) (Nat.le_of_ble_eq_true rfl) K5 (fun h4 q => ?_)
  obtain ⟨hSh4, B⟩ := B h4 q
  refine z_aload_n 17 rfl rfl ?_
  refine z_getR 18 rfl lX5_136 rfl (zS_to hSh4 ht1 0 6 rfl rfl) (zS_tr hSh4 ht1 0 8 21 rfl rfl rfl) ?_
  refine z_iconst (v := 1) 19 rfl (by decide) ?_
  obtain ⟨Q6, K8, B⟩ := B
  refine z_cVL1 (ν := mX0_workOut) 20 rfl rfl fX0_workOut gX5_146 ⟨_, rfl, rfl⟩ (by decide) (zS_to hSh4 ht1 21 0 rfl rfl) (Nat.le_of_ble_eq_true rfl) K8 (fun v9 h7 q => ?_)
  obtain ⟨hSh7, B⟩ := B v9 h7 q
  exact z_lret 21 rfl rfl ⟨rfl, rfl⟩ ⟨_, rfl, B⟩
theorem cn_X5_keenLaw {G : zG} {d : Nat} {h : zMem} {Q : Int64 → zMem → Prop} {a0 : Nat} {a1 : Nat} {x2 : Int32} {x3 : Int32} (B : zg G mX5_keenLaw (d + 1) 0 [.ref a0, .ref a1, .int x2, .int x3] [] h (zPL Q)) : zConL G mX5_keenLaw (d + 1) [.ref a0, .ref a1, .int x2, .int x3] h Q := zcon0 (by decide +kernel) eX5_keenLaw (Nat.le_of_ble_eq_true rfl) rfl B
set_option maxRecDepth 100000 in
set_option maxHeartbeats 4000000 in
theorem sg_X5_worthLaw_0 {G : zG} {d : Nat} {h : zMem} {Q : Int64 → zMem → Prop} {t : Nat} {a0 : Nat} {a1 : Nat} {x2 : Int32} (hS : zSh1 h t) (hs0 : isSt a0) (ht1 : isTd a1) (B : vp_in x2 6 ∧ ∃ Q2 : zMem → Prop, zConV G mX0_setNames d [.ref (a1 + 21), .int (zI h (a0 + 1) x2.toNatClampNeg), .int (0 : Int32), .int (0 : Int32), .int (0 : Int32), .int (zI h a0 10), .int (0 : Int32), .int (0 : Int32)] h Q2 ∧ (∀ h3, Q2 h3 → zSh1 h3 t ∧ ∃ Q5 : Int64 → zMem → Prop, zConL G mX0_workOut d [.ref (a1 + 21), .int (2 : Int32)] h3 Q5 ∧ (∀ v8 h6, Q5 v8 h6 → zSh1 h6 t ∧ Q v8 h6))) : zg G mX5_worthLaw (d + 1) 0 [.ref a0, .ref a1, .int x2] [] h (zPL Q) := by
  refine z_aload_n 0 rfl rfl ?_
  refine z_getR 1 rfl lX5_136 rfl (zS_to hS ht1 0 6 rfl rfl) (zS_tr hS ht1 0 8 21 rfl rfl rfl) ?_
  refine z_aload_n 2 rfl rfl ?_
  refine z_getR 3 rfl lX5_9 rfl (zS_so hS hs0 0 5 rfl rfl) (zS_sr hS hs0 0 0 1 rfl rfl rfl) ?_
  refine z_iload_n 4 rfl rfl ?_
  obtain ⟨o1, B⟩ := B
  refine z_iald 5 rfl (zS_so hS hs0 1 100 rfl rfl) (zin (zS_sl hS hs0 1 6 rfl rfl) o1) ?_
  refine z_iconst (v := 0) 6 rfl (by decide) ?_
  refine z_iconst (v := 0) 7 rfl (by decide) ?_
  refine z_iconst (v := 0) 8 rfl (by decide) ?_
  refine z_aload_n 9 rfl rfl ?_
  refine z_getI 10 rfl lX5_55 rfl (zS_so hS hs0 0 5 rfl rfl) ?_
  refine z_iconst (v := 0) 11 rfl (by decide) ?_
  refine z_iconst (v := 0) 12 rfl (by decide) ?_
  obtain ⟨Q2, K4, B⟩ := B
  refine z_cVV7 (ν := mX0_setNames) 13 rfl rfl fX0_setNames gX5_140 ⟨_, rfl, rfl⟩ (by decide) (zS_to hS ht1 21 0 rfl rfl) (Nat.le_of_ble_eq_true rfl) K4 (fun h3 q => ?_)
  obtain ⟨hSh3, B⟩ := B h3 q
  refine z_aload_n 14 rfl rfl ?_
  refine z_getR 15 rfl lX5_136 rfl (zS_to hSh3 ht1 0 6 rfl rfl) (zS_tr hSh3 ht1 0 8 21 rfl rfl rfl) ?_
  refine z_iconst (v := 2) 16 rfl (by decide) ?_
  obtain ⟨Q5, K7, B⟩ := B
  refine z_cVL1 (ν := mX0_workOut) 17 rfl rfl fX0_workOut gX5_146 ⟨_, rfl, rfl⟩ (by decide) (zS_to hSh3 ht1 21 0 rfl rfl) (Nat.le_of_ble_eq_true rfl) K7 (fun v8 h6 q => ?_)
  obtain ⟨hSh6, B⟩ := B v8 h6 q
  exact z_lret 18 rfl rfl ⟨rfl, rfl⟩ ⟨_, rfl, B⟩
theorem cn_X5_worthLaw {G : zG} {d : Nat} {h : zMem} {Q : Int64 → zMem → Prop} {a0 : Nat} {a1 : Nat} {x2 : Int32} (B : zg G mX5_worthLaw (d + 1) 0 [.ref a0, .ref a1, .int x2] [] h (zPL Q)) : zConL G mX5_worthLaw (d + 1) [.ref a0, .ref a1, .int x2] h Q := zcon0 (by decide +kernel) eX5_worthLaw (Nat.le_of_ble_eq_true rfl) rfl B
set_option maxRecDepth 100000 in
set_option maxHeartbeats 4000000 in
theorem sg_X5_keenOf_0 {G : zG} {d : Nat} {h : zMem} {Q : Int32 → zMem → Prop} {t : Nat} {a0 : Nat} {a1 : Nat} {x2 : Int32} {x3 : Int32} (hS : zSh1 h t) (hs0 : isSt a0) (ht1 : isTd a1) (B : ∃ Q1 : Int64 → zMem → Prop, zConL G mX5_keenLaw d [.ref a0, .ref a1, .int x2, .int x3] h Q1 ∧ (∀ v4 h2, Q1 v4 h2 → zSh1 h2 t ∧ (¬ (lg_cmp v4 (-9223372036854775808 : Int64)) = 0 → ∃ Q6 : Int32 → zMem → Prop, zConI G mX5_within d [.long v4, .int (1 : Int32), .int (99 : Int32)] h2 Q6 ∧ (∀ v9 h7, Q6 v9 h7 → zSh1 h7 t ∧ Q v9 h7)) ∧ ((lg_cmp v4 (-9223372036854775808 : Int64)) = 0 → vp_in x2 5 ∧ Q (zI h2 (a1 + 20) x2.toNatClampNeg) h2))) : zg G mX5_keenOf (d + 1) 0 [.ref a0, .ref a1, .int x2, .int x3, zU, zU] [] h (zPI Q) := by
  refine z_aload_n 0 rfl rfl ?_
  refine z_aload_n 1 rfl rfl ?_
  refine z_iload_n 2 rfl rfl ?_
  refine z_iload_n 3 rfl rfl ?_
  obtain ⟨Q1, K3, B⟩ := B
  refine z_cVL3 (ν := mX5_keenLaw) 4 rfl rfl fX5_keenLaw gX5_153 ⟨_, rfl, rfl⟩ (by decide) (zS_so hS hs0 0 5 rfl rfl) (Nat.le_of_ble_eq_true rfl) K3 (fun v4 h2 q => ?_)
  obtain ⟨hSh2, B⟩ := B v4 h2 q
  refine z_lstore 5 rfl (by decide) rfl ?_
  refine z_lload 6 rfl rfl ?_
  refine z_ldc2 7 rfl kX5_111 ?_
  refine z_lcmp 8 rfl ?_
  refine z_if_ne 9 27 rfl (by decide) ⟨fun c5 => ?_, fun c5 => ?_⟩
  · have B := B.1 c5
    refine z_lload 15 rfl rfl ?_
    refine z_iconst (v := 1) 16 rfl (by decide) ?_
    refine z_bipush (v := 99) 17 rfl (by decide) ?_
    obtain ⟨Q6, K8, B⟩ := B
    refine z_cSI3 (ν := mX5_within) 18 rfl rfl fX5_within gX5_113 (Nat.le_of_ble_eq_true rfl) K8 (fun v9 h7 q => ?_)
    obtain ⟨hSh7, B⟩ := B v9 h7 q
    exact z_iret 19 rfl rfl rfl ⟨rfl, rfl⟩ ⟨_, rfl, B⟩
  · have B := B.2 c5
    refine z_aload_n 10 rfl rfl ?_
    refine z_getR 11 rfl lX5_150 rfl (zS_to hSh2 ht1 0 6 rfl rfl) (zS_tr hSh2 ht1 0 7 20 rfl rfl rfl) ?_
    refine z_iload_n 12 rfl rfl ?_
    obtain ⟨o10, B⟩ := B
    refine z_iald 13 rfl (zS_to hSh2 ht1 20 100 rfl rfl) (zin (zS_tl hSh2 ht1 20 5 rfl rfl) o10) ?_
    refine z_goto 14 35 rfl (by decide) ?_
    exact z_iret 19 rfl rfl rfl ⟨rfl, rfl⟩ ⟨_, rfl, B⟩
theorem cn_X5_keenOf {G : zG} {d : Nat} {h : zMem} {Q : Int32 → zMem → Prop} {a0 : Nat} {a1 : Nat} {x2 : Int32} {x3 : Int32} (B : zg G mX5_keenOf (d + 1) 0 [.ref a0, .ref a1, .int x2, .int x3, zU, zU] [] h (zPI Q)) : zConI G mX5_keenOf (d + 1) [.ref a0, .ref a1, .int x2, .int x3] h Q := zcon0 (by decide +kernel) eX5_keenOf (Nat.le_of_ble_eq_true rfl) rfl B
set_option maxRecDepth 100000 in
set_option maxHeartbeats 4000000 in
theorem sg_X5_worthOf_0 {G : zG} {d : Nat} {h : zMem} {Q : Int32 → zMem → Prop} {t : Nat} {a0 : Nat} {a1 : Nat} {x2 : Int32} (hS : zSh1 h t) (hs0 : isSt a0) (ht1 : isTd a1) (B : ∃ Q1 : Int64 → zMem → Prop, zConL G mX5_worthLaw d [.ref a0, .ref a1, .int x2] h Q1 ∧ (∀ v4 h2, Q1 v4 h2 → zSh1 h2 t ∧ (¬ (lg_cmp v4 (-9223372036854775808 : Int64)) = 0 → ∃ Q6 : Int32 → zMem → Prop, zConI G mX5_within d [.long v4, .int (0 : Int32), .int (999 : Int32)] h2 Q6 ∧ (∀ v9 h7, Q6 v9 h7 → zSh1 h7 t ∧ Q v9 h7)) ∧ ((lg_cmp v4 (-9223372036854775808 : Int64)) = 0 → Q (1 : Int32) h2))) : zg G mX5_worthOf (d + 1) 0 [.ref a0, .ref a1, .int x2, zU, zU] [] h (zPI Q) := by
  refine z_aload_n 0 rfl rfl ?_
  refine z_aload_n 1 rfl rfl ?_
  refine z_iload_n 2 rfl rfl ?_
  obtain ⟨Q1, K3, B⟩ := B
  refine z_cVL2 (ν := mX5_worthLaw) 3 rfl rfl fX5_worthLaw gX5_157 ⟨_, rfl, rfl⟩ (by decide) (zS_so hS hs0 0 5 rfl rfl) (Nat.le_of_ble_eq_true rfl) K3 (fun v4 h2 q => ?_)
  obtain ⟨hSh2, B⟩ := B v4 h2 q
  refine z_lstore_n 4 rfl (by decide) rfl ?_
  refine z_lload_n 5 rfl rfl ?_
  refine z_ldc2 6 rfl kX5_111 ?_
  refine z_lcmp 7 rfl ?_
  refine z_if_ne 8 19 rfl (by decide) ⟨fun c5 => ?_, fun c5 => ?_⟩
  · have B := B.1 c5
    refine z_lload_n 11 rfl rfl ?_
    refine z_iconst (v := 0) 12 rfl (by decide) ?_
    refine z_sipush (v := 999) 13 rfl (by decide) ?_
    obtain ⟨Q6, K8, B⟩ := B
    refine z_cSI3 (ν := mX5_within) 14 rfl rfl fX5_within gX5_113 (Nat.le_of_ble_eq_true rfl) K8 (fun v9 h7 q => ?_)
    obtain ⟨hSh7, B⟩ := B v9 h7 q
    exact z_iret 15 rfl rfl rfl ⟨rfl, rfl⟩ ⟨_, rfl, B⟩
  · have B := B.2 c5
    refine z_iconst (v := 1) 9 rfl (by decide) ?_
    refine z_goto 10 27 rfl (by decide) ?_
    exact z_iret 15 rfl rfl rfl ⟨rfl, rfl⟩ ⟨_, rfl, B⟩
theorem cn_X5_worthOf {G : zG} {d : Nat} {h : zMem} {Q : Int32 → zMem → Prop} {a0 : Nat} {a1 : Nat} {x2 : Int32} (B : zg G mX5_worthOf (d + 1) 0 [.ref a0, .ref a1, .int x2, zU, zU] [] h (zPI Q)) : zConI G mX5_worthOf (d + 1) [.ref a0, .ref a1, .int x2] h Q := zcon0 (by decide +kernel) eX5_worthOf (Nat.le_of_ble_eq_true rfl) rfl B
set_option maxRecDepth 100000 in
set_option maxHeartbeats 4000000 in
theorem sg_X5_within_0 {G : zG} {d : Nat} {h : zMem} {Q : Int32 → zMem → Prop} {t : Nat} {y0 : Int64} {x2 : Int32} {x3 : Int32} (hS : zSh1 h t)  (B : Q ((if (if y0 < x3.toInt64 then y0 else x3.toInt64) < x2.toInt64 then x2.toInt64 else (if y0 < x3.toInt64 then y0 else x3.toInt64)).toInt32) h) : zg G mX5_within (d + 1) 0 [.long y0, zU, .int x2, .int x3] [] h (zPI Q) := by
  refine z_iload_n 0 rfl rfl ?_
  refine z_i2l 1 rfl ?_
  refine z_iload_n 2 rfl rfl ?_
  refine z_i2l 3 rfl ?_
  refine z_lload_n 4 rfl rfl ?_
  refine z_lmin 5 rfl rfl gmX5_161 (Nat.le_of_ble_eq_true rfl) ?_
  refine z_lmax 6 rfl rfl gmX5_164 (Nat.le_of_ble_eq_true rfl) ?_
  refine z_l2i 7 rfl ?_
  exact z_iret 8 rfl rfl rfl ⟨rfl, rfl⟩ ⟨_, rfl, B⟩
theorem cn_X5_within {G : zG} {d : Nat} {h : zMem} {Q : Int32 → zMem → Prop} {y0 : Int64} {x2 : Int32} {x3 : Int32} (B : zg G mX5_within (d + 1) 0 [.long y0, zU, .int x2, .int x3] [] h (zPI Q)) : zConI G mX5_within (d + 1) [.long y0, .int x2, .int x3] h Q := zcon0 (by decide +kernel) eX5_within (Nat.le_of_ble_eq_true rfl) rfl B
