set_option maxRecDepth 100000 in
set_option maxHeartbeats 4000000 in
theorem sg_X7_clear_0 {G : zG} {d : Nat} {h : zMem} {Q : zMem → Prop} {t : Nat} {a0 : Nat} (hS : zSh1 h t) (ht0 : isTd a0) (B : zg G mX7_clear (d + 1) 2 [.ref a0, .int (0 : Int32), zU] [] h (zPV Q)) : zg G mX7_clear (d + 1) 0 [.ref a0, zU, zU] [] h (zPV Q) := by
  refine z_iconst (v := 0) 0 rfl (by decide) ?_
  refine z_istore_n 1 rfl (by decide) rfl ?_
  exact B
theorem cn_X7_clear {G : zG} {d : Nat} {h : zMem} {Q : zMem → Prop} {a0 : Nat} (B : zg G mX7_clear (d + 1) 0 [.ref a0, zU, zU] [] h (zPV Q)) : zConV G mX7_clear (d + 1) [.ref a0] h Q := zcon0 (by decide +kernel) eX7_clear (Nat.le_of_ble_eq_true rfl) rfl B
set_option maxRecDepth 100000 in
set_option maxHeartbeats 4000000 in
theorem sg_X7_clear_2 {G : zG} {d : Nat} {h : zMem} {Q : zMem → Prop} {t : Nat} {a0 : Nat} {x1 : Int32} (hS : zSh1 h t) (ht0 : isTd a0) (B : ((nI 4) ≤ x1 → zg G mX7_clear (d + 1) 26 [.ref a0, .int (0 : Int32), zU] [] h (zPV Q)) ∧ (¬ (nI 4) ≤ x1 → vp_in x1 4 ∧ zg G mX7_clear (d + 1) 2 [.ref a0, .int (x1 + 1), zU] [] (zsI h (a0 + 1) x1.toNatClampNeg (0 : Int32)) (zPV Q))) : zg G mX7_clear (d + 1) 2 [.ref a0, .int x1, zU] [] h (zPV Q) := by
  refine z_iload_n 2 rfl rfl ?_
  refine z_aload_n 3 rfl rfl ?_
  refine z_getR 4 rfl lX7_9 rfl (zS_to hS ht0 0 6 rfl rfl) (zS_tr hS ht0 0 0 1 rfl rfl rfl) ?_
  refine z_alen 5 rfl (zS_to hS ht0 1 100 rfl rfl) (Or.inl rfl) ?_
  rw [(zS_tl hS ht0 1 4 rfl rfl)]
  refine z_icmp_ge 6 24 rfl (by decide) ⟨fun c1 => ?_, fun c1 => ?_⟩
  · have B := B.1 c1
    refine z_iconst (v := 0) 14 rfl (by decide) ?_
    refine z_istore_n 15 rfl (by decide) rfl ?_
    exact B
  · have B := B.2 c1
    refine z_aload_n 7 rfl rfl ?_
    refine z_getR 8 rfl lX7_9 rfl (zS_to hS ht0 0 6 rfl rfl) (zS_tr hS ht0 0 0 1 rfl rfl rfl) ?_
    refine z_iload_n 9 rfl rfl ?_
    refine z_iconst (v := 0) 10 rfl (by decide) ?_
    obtain ⟨o2, B⟩ := B
    refine z_iast 11 rfl (zS_to hS ht0 1 100 rfl rfl) (zin (zS_tl hS ht0 1 4 rfl rfl) o2) ?_
    refine z_iinc (v := 1) 12 rfl rfl (by decide) (by decide) rfl ?_
    refine z_goto 13 2 rfl (by decide) ?_
    exact B
set_option maxRecDepth 100000 in
set_option maxHeartbeats 4000000 in
theorem sg_X7_clear_26 {G : zG} {d : Nat} {h : zMem} {Q : zMem → Prop} {t : Nat} {a0 : Nat} {x1 : Int32} (hS : zSh1 h t) (ht0 : isTd a0) (B : ((8 : Int32) ≤ x1 → ∃ Q2 : zMem → Prop, zConV G mX0_clear d [.ref (a0 + 21)] h Q2 ∧ (∀ h3, Q2 h3 → zSh1 h3 t ∧ Q (zsI (zsI (zsI (zsI h3 a0 9 (0 : Int32)) a0 10 (0 : Int32)) a0 11 (0 : Int32)) a0 12 (0 : Int32)))) ∧ (¬ (8 : Int32) ≤ x1 → vp_in x1 8 ∧ zg G mX7_clear (d + 1) 41 [.ref a0, .int x1, .int (0 : Int32)] [] (zsI h (a0 + 8) x1.toNatClampNeg (vp_nar .boolean (0 : Int32))) (zPV Q))) : zg G mX7_clear (d + 1) 26 [.ref a0, .int x1, zU] [] h (zPV Q) := by
  refine z_iload_n 16 rfl rfl ?_
  refine z_bipush (v := 8) 17 rfl (by decide) ?_
  refine z_icmp_ge 18 68 rfl (by decide) ⟨fun c1 => ?_, fun c1 => ?_⟩
  · have B := B.1 c1
    refine z_aload_n 40 rfl rfl ?_
    refine z_getR 41 rfl lX7_42 rfl (zS_to hS ht0 0 6 rfl rfl) (zS_tr hS ht0 0 8 21 rfl rfl rfl) ?_
    obtain ⟨Q2, K4, B⟩ := B
    refine z_cVV0 (ν := mX0_clear) 42 rfl rfl fX0_clear gX7_46 ⟨_, rfl, rfl⟩ (by decide) (zS_to hS ht0 21 0 rfl rfl) (Nat.le_of_ble_eq_true rfl) K4 (fun h3 q => ?_)
    obtain ⟨hSh3, B⟩ := B h3 q
    refine z_aload_n 43 rfl rfl ?_
    refine z_iconst (v := 0) 44 rfl (by decide) ?_
    refine z_putI 45 rfl lX7_49 ⟨_, _, _, rfl, rfl⟩ rfl rfl rfl (zS_to hSh3 ht0 0 6 rfl rfl) ?_
    refine z_aload_n 46 rfl rfl ?_
    refine z_iconst (v := 0) 47 rfl (by decide) ?_
    refine z_putI 48 rfl lX7_53 ⟨_, _, _, rfl, rfl⟩ rfl rfl rfl (zS_to hSh3 ht0 0 6 rfl rfl) ?_
    refine z_aload_n 49 rfl rfl ?_
    refine z_iconst (v := 0) 50 rfl (by decide) ?_
    refine z_putI 51 rfl lX7_56 ⟨_, _, _, rfl, rfl⟩ rfl rfl rfl (zS_to hSh3 ht0 0 6 rfl rfl) ?_
    refine z_aload_n 52 rfl rfl ?_
    refine z_iconst (v := 0) 53 rfl (by decide) ?_
    refine z_putI 54 rfl lX7_60 ⟨_, _, _, rfl, rfl⟩ rfl rfl rfl (zS_to hSh3 ht0 0 6 rfl rfl) ?_
    exact z_vret 55 rfl rfl ⟨rfl, rfl⟩ ⟨rfl, B⟩
  · have B := B.2 c1
    refine z_aload_n 19 rfl rfl ?_
    refine z_getR 20 rfl lX7_23 rfl (zS_to hS ht0 0 6 rfl rfl) (zS_tr hS ht0 0 3 8 rfl rfl rfl) ?_
    refine z_iload_n 21 rfl rfl ?_
    refine z_iconst (v := 0) 22 rfl (by decide) ?_
    obtain ⟨o5, B⟩ := B
    refine z_zast 23 rfl (zS_to hS ht0 8 103 rfl rfl) (zin (zS_tl hS ht0 8 8 rfl rfl) o5) ?_
    refine z_iconst (v := 0) 24 rfl (by decide) ?_
    refine z_istore_n 25 rfl (by decide) rfl ?_
    exact B
set_option maxRecDepth 100000 in
set_option maxHeartbeats 4000000 in
theorem sg_X7_clear_41 {G : zG} {d : Nat} {h : zMem} {Q : zMem → Prop} {t : Nat} {a0 : Nat} {x1 : Int32} {x2 : Int32} (hS : zSh1 h t) (ht0 : isTd a0) (B : ((6 : Int32) ≤ x2 → zg G mX7_clear (d + 1) 26 [.ref a0, .int (x1 + 1), zU] [] h (zPV Q)) ∧ (¬ (6 : Int32) ≤ x2 → vp_in x1 8 ∧ vp_in x2 6 ∧ zg G mX7_clear (d + 1) 41 [.ref a0, .int x1, .int (x2 + 1)] [] (zsI h (a0 + 9 + 1 + x1.toNatClampNeg) x2.toNatClampNeg (0 : Int32)) (zPV Q))) : zg G mX7_clear (d + 1) 41 [.ref a0, .int x1, .int x2] [] h (zPV Q) := by
  refine z_iload_n 26 rfl rfl ?_
  refine z_bipush (v := 6) 27 rfl (by decide) ?_
  refine z_icmp_ge 28 62 rfl (by decide) ⟨fun c1 => ?_, fun c1 => ?_⟩
  · have B := B.1 c1
    refine z_iinc (v := 1) 38 rfl rfl (by decide) (by decide) rfl ?_
    refine z_goto 39 26 rfl (by decide) ?_
    refine z_drop 2 ?_
    exact B
  · have B := B.2 c1
    refine z_aload_n 29 rfl rfl ?_
    refine z_getR 30 rfl lX7_27 rfl (zS_to hS ht0 0 6 rfl rfl) (zS_tr hS ht0 0 4 9 rfl rfl rfl) ?_
    refine z_iload_n 31 rfl rfl ?_
    obtain ⟨o2, B⟩ := B
    refine z_aald 32 rfl (zS_to hS ht0 9 104 rfl rfl) (zin (zS_tl hS ht0 9 8 rfl rfl) o2) (zS_trow hS ht0 9 8 6 rfl rfl rfl o2).1 ?_
    refine z_iload_n 33 rfl rfl ?_
    refine z_iconst (v := 0) 34 rfl (by decide) ?_
    obtain ⟨o3, B⟩ := B
    refine z_iast 35 rfl (zS_trow hS ht0 9 8 6 rfl rfl rfl o2).2.1 (zin (zS_trow hS ht0 9 8 6 rfl rfl rfl o2).2.2 o3) ?_
    refine z_iinc (v := 1) 36 rfl rfl (by decide) (by decide) rfl ?_
    refine z_goto 37 41 rfl (by decide) ?_
    exact B
set_option maxRecDepth 100000 in
set_option maxHeartbeats 4000000 in
theorem sg_X7_numberOf_0 {G : zG} {d : Nat} {h : zMem} {Q : Int32 → zMem → Prop} {t : Nat} {a0 : Nat} {x1 : Int32} {x2 : Int32} (hS : zSh1 h t) (ht0 : isTd a0) (B : zg G mX7_numberOf d 2 [.ref a0, .int x1, .int x2, .int (0 : Int32)] [] h (zPI Q)) : zg G mX7_numberOf d 0 [.ref a0, .int x1, .int x2, zU] [] h (zPI Q) := by
  refine z_iconst (v := 0) 0 rfl (by decide) ?_
  refine z_istore_n 1 rfl (by decide) rfl ?_
  exact B
theorem cn_X7_numberOf {G : zG} {d : Nat} {h : zMem} {Q : Int32 → zMem → Prop} {a0 : Nat} {x1 : Int32} {x2 : Int32} (B : zg G mX7_numberOf d 0 [.ref a0, .int x1, .int x2, zU] [] h (zPI Q)) : zConI G mX7_numberOf d [.ref a0, .int x1, .int x2] h Q := zcon0 (by decide +kernel) eX7_numberOf (Nat.le_of_ble_eq_true rfl) rfl B
set_option maxRecDepth 100000 in
set_option maxHeartbeats 4000000 in
theorem sg_X7_numberOf_2 {G : zG} {d : Nat} {h : zMem} {Q : Int32 → zMem → Prop} {t : Nat} {a0 : Nat} {x1 : Int32} {x2 : Int32} {x3 : Int32} (hS : zSh1 h t) (ht0 : isTd a0) (B : vp_in x1 4 ∧ ((zI h (a0 + 1) x1.toNatClampNeg) ≤ x3 → Q (-1 : Int32) h) ∧ (¬ (zI h (a0 + 1) x1.toNatClampNeg) ≤ x3 → vp_in x3 8 ∧ (¬ (zI h (a0 + 2 + 1 + x1.toNatClampNeg) x3.toNatClampNeg) = x2 → zg G mX7_numberOf d 2 [.ref a0, .int x1, .int x2, .int (x3 + 1)] [] h (zPI Q)) ∧ ((zI h (a0 + 2 + 1 + x1.toNatClampNeg) x3.toNatClampNeg) = x2 → Q x3 h))) : zg G mX7_numberOf d 2 [.ref a0, .int x1, .int x2, .int x3] [] h (zPI Q) := by
  refine z_iload_n 2 rfl rfl ?_
  refine z_aload_n 3 rfl rfl ?_
  refine z_getR 4 rfl lX7_9 rfl (zS_to hS ht0 0 6 rfl rfl) (zS_tr hS ht0 0 0 1 rfl rfl rfl) ?_
  refine z_iload_n 5 rfl rfl ?_
  obtain ⟨o1, B⟩ := B
  refine z_iald 6 rfl (zS_to hS ht0 1 100 rfl rfl) (zin (zS_tl hS ht0 1 4 rfl rfl) o1) ?_
  refine z_icmp_ge 7 32 rfl (by decide) ⟨fun c2 => ?_, fun c2 => ?_⟩
  · have B := B.1 c2
    refine z_iconst (v := -1) 20 rfl (by decide) ?_
    exact z_iret 21 rfl rfl rfl ⟨rfl, rfl⟩ ⟨_, rfl, B⟩
  · have B := B.2 c2
    refine z_aload_n 8 rfl rfl ?_
    refine z_getR 9 rfl lX7_17 rfl (zS_to hS ht0 0 6 rfl rfl) (zS_tr hS ht0 0 1 2 rfl rfl rfl) ?_
    refine z_iload_n 10 rfl rfl ?_
    refine z_aald 11 rfl (zS_to hS ht0 2 104 rfl rfl) (zin (zS_tl hS ht0 2 4 rfl rfl) o1) (zS_trow hS ht0 2 4 8 rfl rfl rfl o1).1 ?_
    refine z_iload_n 12 rfl rfl ?_
    obtain ⟨o3, B⟩ := B
    refine z_iald 13 rfl (zS_trow hS ht0 2 4 8 rfl rfl rfl o1).2.1 (zin (zS_trow hS ht0 2 4 8 rfl rfl rfl o1).2.2 o3) ?_
    refine z_iload_n 14 rfl rfl ?_
    refine z_icmp_ne 15 26 rfl (by decide) ⟨fun c4 => ?_, fun c4 => ?_⟩
    · have B := B.1 c4
      refine z_iinc (v := 1) 18 rfl rfl (by decide) (by decide) rfl ?_
      refine z_goto 19 2 rfl (by decide) ?_
      exact B
    · have B := B.2 c4
      refine z_iload_n 16 rfl rfl ?_
      exact z_iret 17 rfl rfl rfl ⟨rfl, rfl⟩ ⟨_, rfl, B⟩
set_option maxRecDepth 100000 in
set_option maxHeartbeats 4000000 in
theorem sg_X7_mixedOn_0 {G : zG} {d : Nat} {h : zMem} {Q : Int32 → zMem → Prop} {t : Nat} {a0 : Nat} {x1 : Int32} {x2 : Int32} (hS : zSh1 h t) (ht0 : isTd a0) (B : ((zI h (a0 + 1) 1) ≤ 0 → Q (0 : Int32) h) ∧ (¬ (zI h (a0 + 1) 1) ≤ 0 → ¬ (zI h (a0 + 1) 1) = 0 ∧ vp_in (x1 - x1 / (zI h (a0 + 1) 1) * (zI h (a0 + 1) 1)) 8 ∧ vp_in x2 6 ∧ Q (zI h (a0 + 9 + 1 + (x1 - x1 / (zI h (a0 + 1) 1) * (zI h (a0 + 1) 1)).toNatClampNeg) x2.toNatClampNeg) h)) : zg G mX7_mixedOn d 0 [.ref a0, .int x1, .int x2, zU] [] h (zPI Q) := by
  refine z_aload_n 0 rfl rfl ?_
  refine z_getR 1 rfl lX7_9 rfl (zS_to hS ht0 0 6 rfl rfl) (zS_tr hS ht0 0 0 1 rfl rfl rfl) ?_
  refine z_iconst (v := 1) 2 rfl (by decide) ?_
  refine z_iald_c 3 1 rfl (by decide) (zS_to hS ht0 1 100 rfl rfl) (zin (zS_tl hS ht0 1 4 rfl rfl) (zvp (by decide))) ?_
  refine z_istore_n 4 rfl (by decide) rfl ?_
  refine z_iload_n 5 rfl rfl ?_
  refine z_if_le 6 24 rfl (by decide) ⟨fun c1 => ?_, fun c1 => ?_⟩
  · have B := B.1 c1
    refine z_iconst (v := 0) 16 rfl (by decide) ?_
    exact z_iret 17 rfl rfl rfl ⟨rfl, rfl⟩ ⟨_, rfl, B⟩
  · have B := B.2 c1
    refine z_aload_n 7 rfl rfl ?_
    refine z_getR 8 rfl lX7_27 rfl (zS_to hS ht0 0 6 rfl rfl) (zS_tr hS ht0 0 4 9 rfl rfl rfl) ?_
    refine z_iload_n 9 rfl rfl ?_
    refine z_iload_n 10 rfl rfl ?_
    obtain ⟨o2, B⟩ := B
    refine z_irem 11 rfl o2 ?_
    obtain ⟨o3, B⟩ := B
    refine z_aald 12 rfl (zS_to hS ht0 9 104 rfl rfl) (zin (zS_tl hS ht0 9 8 rfl rfl) o3) (zS_trow hS ht0 9 8 6 rfl rfl rfl o3).1 ?_
    refine z_iload_n 13 rfl rfl ?_
    obtain ⟨o4, B⟩ := B
    refine z_iald 14 rfl (zS_trow hS ht0 9 8 6 rfl rfl rfl o3).2.1 (zin (zS_trow hS ht0 9 8 6 rfl rfl rfl o3).2.2 o4) ?_
    refine z_goto 15 25 rfl (by decide) ?_
    exact z_iret 17 rfl rfl rfl ⟨rfl, rfl⟩ ⟨_, rfl, B⟩
theorem cn_X7_mixedOn {G : zG} {d : Nat} {h : zMem} {Q : Int32 → zMem → Prop} {a0 : Nat} {x1 : Int32} {x2 : Int32} (B : zg G mX7_mixedOn d 0 [.ref a0, .int x1, .int x2, zU] [] h (zPI Q)) : zConI G mX7_mixedOn d [.ref a0, .int x1, .int x2] h Q := zcon0 (by decide +kernel) eX7_mixedOn (Nat.le_of_ble_eq_true rfl) rfl B
set_option maxRecDepth 100000 in
set_option maxHeartbeats 4000000 in
theorem sg_X7_smelt_0 {G : zG} {d : Nat} {h : zMem} {Q : Int32 → zMem → Prop} {t : Nat} {a0 : Nat} {a1 : Nat} {x2 : Int32} {x3 : Int32} {x4 : Int32} (hS : zSh1 h t) (ht0 : isTd a0) (B : zg G mX7_smelt d 6 [.ref a0, .ref a1, .int x2, .int x3, .int x4, .int (0 : Int32), .int (0 : Int32)] [] h (zPI Q)) : zg G mX7_smelt d 0 [.ref a0, .ref a1, .int x2, .int x3, .int x4, zU, zU] [] h (zPI Q) := by
  refine z_iconst (v := 0) 0 rfl (by decide) ?_
  refine z_istore 1 rfl (by decide) rfl ?_
  refine z_iconst (v := 0) 2 rfl (by decide) ?_
  refine z_istore 3 rfl (by decide) rfl ?_
  exact B
theorem cn_X7_smelt {G : zG} {d : Nat} {h : zMem} {Q : Int32 → zMem → Prop} {a0 : Nat} {a1 : Nat} {x2 : Int32} {x3 : Int32} {x4 : Int32} (B : zg G mX7_smelt d 0 [.ref a0, .ref a1, .int x2, .int x3, .int x4, zU, zU] [] h (zPI Q)) : zConI G mX7_smelt d [.ref a0, .ref a1, .int x2, .int x3, .int x4] h Q := zcon0 (by decide +kernel) eX7_smelt (Nat.le_of_ble_eq_true rfl) rfl B
set_option maxRecDepth 100000 in
set_option maxHeartbeats 4000000 in
theorem sg_X7_smelt_6 {G : zG} {d : Nat} {h : zMem} {Q : Int32 → zMem → Prop} {t : Nat} {a0 : Nat} {a1 : Nat} {x2 : Int32} {x3 : Int32} {x4 : Int32} {x5 : Int32} {x6 : Int32} (hS : zSh1 h t) (ht0 : isTd a0) (B : ((zI h (a0 + 1) 0) ≤ x6 → Q (x5 &&& (x4 ^^^ (-1 : Int32))) h) ∧ (¬ (zI h (a0 + 1) 0) ≤ x6 → zO h a1 100 ∧ vp_in x6 (zLen h a1) ∧ ((((zI h a1 x6.toNatClampNeg) * x2) / (100 : Int32)) < x3 → zg G mX7_smelt d 6 [.ref a0, .ref a1, .int x2, .int x3, .int x4, .int x5, .int (x6 + 1)] [] h (zPI Q)) ∧ (¬ (((zI h a1 x6.toNatClampNeg) * x2) / (100 : Int32)) < x3 → zg G mX7_smelt d 6 [.ref a0, .ref a1, .int x2, .int x3, .int x4, .int (x5 ||| ((1 : Int32) <<< (x6 &&& 31))), .int (x6 + 1)] [] h (zPI Q)))) : zg G mX7_smelt d 6 [.ref a0, .ref a1, .int x2, .int x3, .int x4, .int x5, .int x6] [] h (zPI Q) := by
  refine z_iload 4 rfl rfl ?_
  refine z_aload_n 5 rfl rfl ?_
  refine z_getR 6 rfl lX7_9 rfl (zS_to hS ht0 0 6 rfl rfl) (zS_tr hS ht0 0 0 1 rfl rfl rfl) ?_
  refine z_iconst (v := 0) 7 rfl (by decide) ?_
  refine z_iald_c 8 0 rfl (by decide) (zS_to hS ht0 1 100 rfl rfl) (zin (zS_tl hS ht0 1 4 rfl rfl) (zvp (by decide))) ?_
  refine z_icmp_ge 9 45 rfl (by decide) ⟨fun c1 => ?_, fun c1 => ?_⟩
  · have B := B.1 c1
    refine z_iload 27 rfl rfl ?_
    refine z_iload 28 rfl rfl ?_
    refine z_iconst (v := -1) 29 rfl (by decide) ?_
    refine z_ixor 30 rfl ?_
    refine z_iand 31 rfl ?_
    exact z_iret 32 rfl rfl rfl ⟨rfl, rfl⟩ ⟨_, rfl, B⟩
  · have B := B.2 c1
    refine z_aload_n 10 rfl rfl ?_
    refine z_iload 11 rfl rfl ?_
    obtain ⟨o2, B⟩ := B
    obtain ⟨o3, B⟩ := B
    refine z_iald 12 rfl o2 o3 ?_
    refine z_iload_n 13 rfl rfl ?_
    refine z_imul 14 rfl ?_
    refine z_bipush (v := 100) 15 rfl (by decide) ?_
    refine z_idiv 16 rfl (by decide) ?_
    refine z_iload_n 17 rfl rfl ?_
    refine z_icmp_lt 18 39 rfl (by decide) ⟨fun c4 => ?_, fun c4 => ?_⟩
    · have B := B.1 c4
      refine z_iinc (v := 1) 25 rfl rfl (by decide) (by decide) rfl ?_
      refine z_goto 26 6 rfl (by decide) ?_
      exact B
    · have B := B.2 c4
      refine z_iload 19 rfl rfl ?_
      refine z_iconst (v := 1) 20 rfl (by decide) ?_
      refine z_iload 21 rfl rfl ?_
      refine z_ishl 22 rfl ?_
      refine z_ior 23 rfl ?_
      refine z_istore 24 rfl (by decide) rfl ?_
      refine z_iinc (v := 1) 25 rfl rfl (by decide) (by decide) rfl ?_
      refine z_goto 26 6 rfl (by decide) ?_
      exact B
