set_option maxRecDepth 100000 in
set_option maxHeartbeats 4000000 in
theorem sg_X10_markBy_0 {G : zG} {d : Nat} {h : zMem} {Q : Int32 → zMem → Prop} {x1 : Int32} {x2 : Int32} {x3 : Int32} {x4 : Int32} (hS : zSh2 h)  (B : zg G mX10_markBy (d + 1) 6 [.ref 132, .int x1, .int x2, .int x3, .int x4, .int (0 : Int32), .int (0 : Int32), zU] [] h (zPI Q)) : zg G mX10_markBy (d + 1) 0 [.ref 132, .int x1, .int x2, .int x3, .int x4, zU, zU, zU] [] h (zPI Q) := by
  refine z_iconst (v := 0) 0 rfl (by decide) ?_
  refine z_istore 1 rfl (by decide) rfl ?_
  refine z_iconst (v := 0) 2 rfl (by decide) ?_
  refine z_istore 3 rfl (by decide) rfl ?_
  exact B
theorem cn_X10_markBy {G : zG} {d : Nat} {h : zMem} {Q : Int32 → zMem → Prop} {x1 : Int32} {x2 : Int32} {x3 : Int32} {x4 : Int32} (B : zg G mX10_markBy (d + 1) 0 [.ref 132, .int x1, .int x2, .int x3, .int x4, zU, zU, zU] [] h (zPI Q)) : zConI G mX10_markBy (d + 1) [.ref 132, .int x1, .int x2, .int x3, .int x4] h Q := zcon0 (by decide +kernel) eX10_markBy (Nat.le_of_ble_eq_true rfl) rfl B
set_option maxRecDepth 100000 in
set_option maxHeartbeats 4000000 in
theorem sg_X10_markBy_6 {G : zG} {d : Nat} {h : zMem} {Q : Int32 → zMem → Prop} {x1 : Int32} {x2 : Int32} {x3 : Int32} {x4 : Int32} {x5 : Int32} {x6 : Int32} (hS : zSh2 h)  (B : ((zI h 134 0) ≤ x6 → Q (x5 &&& (x4 ^^^ (-1 : Int32))) h) ∧ (¬ (zI h 134 0) ≤ x6 → ∃ Q2 : Int32 → zMem → Prop, zConI G mX10_mixOf d [.ref 132, .int x1, .int x6] h Q2 ∧ (∀ v5 h3, Q2 v5 h3 → zSh2 h3 ∧ (v5 ≤ 0 → zg G mX10_markBy (d + 1) 6 [.ref 132, .int x1, .int x2, .int x3, .int x4, .int (x5 ||| (0 : Int32)), .int (x6 + 1), zU] [] h3 (zPI Q)) ∧ (¬ v5 ≤ 0 → ∃ Q7 : Int32 → zMem → Prop, zConI G mX10_partIn d [.ref 132, .int x2] h3 Q7 ∧ (∀ v10 h8, Q7 v10 h8 → zSh2 h8 ∧ (((v5 * v10) / (100 : Int32)) < x3 → zg G mX10_markBy (d + 1) 6 [.ref 132, .int x1, .int x2, .int x3, .int x4, .int (x5 ||| (0 : Int32)), .int (x6 + 1), zU] [] h8 (zPI Q)) ∧ (¬ ((v5 * v10) / (100 : Int32)) < x3 → zg G mX10_markBy (d + 1) 6 [.ref 132, .int x1, .int x2, .int x3, .int x4, .int (x5 ||| ((1 : Int32) <<< (x6 &&& 31))), .int (x6 + 1), zU] [] h8 (zPI Q))))))) : zg G mX10_markBy (d + 1) 6 [.ref 132, .int x1, .int x2, .int x3, .int x4, .int x5, .int x6, zU] [] h (zPI Q) := by
  refine z_iload 4 rfl rfl ?_
  refine z_aload_n 5 rfl rfl ?_
  refine z_getR 6 rfl lX10_13 rfl (zcl1.o hS 132 9 rfl rfl rfl) (zcl1.r hS 132 3 134 rfl rfl rfl) ?_
  refine z_iconst (v := 0) 7 rfl (by decide) ?_
  refine z_iald_c 8 0 rfl (by decide) (zcl1.o hS 134 100 rfl rfl rfl) (zin (zcl1.l hS 134 16 rfl rfl rfl) (zvp (by decide))) ?_
  refine z_icmp_ge 9 65 rfl (by decide) ⟨fun c1 => ?_, fun c1 => ?_⟩
  · have B := B.1 c1
    refine z_iload 36 rfl rfl ?_
    refine z_iload 37 rfl rfl ?_
    refine z_iconst (v := -1) 38 rfl (by decide) ?_
    refine z_ixor 39 rfl ?_
    refine z_iand 40 rfl ?_
    exact z_iret 41 rfl rfl rfl ⟨rfl, rfl⟩ ⟨_, rfl, B⟩
  · have B := B.2 c1
    refine z_aload_n 10 rfl rfl ?_
    refine z_iload_n 11 rfl rfl ?_
    refine z_iload 12 rfl rfl ?_
    obtain ⟨Q2, K4, B⟩ := B
    refine z_cVI2 (ν := mX10_mixOf) 13 rfl rfl fX10_mixOf gX10_383 ⟨_, rfl, rfl⟩ (by decide) (zcl1.o hS 132 9 rfl rfl rfl) (Nat.le_of_ble_eq_true rfl) K4 (fun v5 h3 q => ?_)
    obtain ⟨hSh3, B⟩ := B v5 h3 q
    refine z_istore 14 rfl (by decide) rfl ?_
    refine z_iload 15 rfl rfl ?_
    refine z_iload 16 rfl rfl ?_
    refine z_if_le 17 55 rfl (by decide) ⟨fun c6 => ?_, fun c6 => ?_⟩
    · have B := B.1 c6
      refine z_iconst (v := 0) 31 rfl (by decide) ?_
      refine z_ior 32 rfl ?_
      refine z_istore 33 rfl (by decide) rfl ?_
      refine z_iinc (v := 1) 34 rfl rfl (by decide) (by decide) rfl ?_
      refine z_goto 35 6 rfl (by decide) ?_
      refine z_drop 7 ?_
      exact B
    · have B := B.2 c6
      refine z_iload 18 rfl rfl ?_
      refine z_aload_n 19 rfl rfl ?_
      refine z_iload_n 20 rfl rfl ?_
      obtain ⟨Q7, K9, B⟩ := B
      refine z_cVI1 (ν := mX10_partIn) 21 rfl rfl fX10_partIn gX10_368 ⟨_, rfl, rfl⟩ (by decide) (zcl1.o hSh3 132 9 rfl rfl rfl) (Nat.le_of_ble_eq_true rfl) K9 (fun v10 h8 q => ?_)
      obtain ⟨hSh8, B⟩ := B v10 h8 q
      refine z_imul 22 rfl ?_
      refine z_bipush (v := 100) 23 rfl (by decide) ?_
      refine z_idiv 24 rfl (by decide) ?_
      refine z_iload_n 25 rfl rfl ?_
      refine z_icmp_lt 26 55 rfl (by decide) ⟨fun c11 => ?_, fun c11 => ?_⟩
      · have B := B.1 c11
        refine z_iconst (v := 0) 31 rfl (by decide) ?_
        refine z_ior 32 rfl ?_
        refine z_istore 33 rfl (by decide) rfl ?_
        refine z_iinc (v := 1) 34 rfl rfl (by decide) (by decide) rfl ?_
        refine z_goto 35 6 rfl (by decide) ?_
        refine z_drop 7 ?_
        exact B
      · have B := B.2 c11
        refine z_iconst (v := 1) 27 rfl (by decide) ?_
        refine z_iload 28 rfl rfl ?_
        refine z_ishl 29 rfl ?_
        refine z_goto 30 56 rfl (by decide) ?_
        refine z_ior 32 rfl ?_
        refine z_istore 33 rfl (by decide) rfl ?_
        refine z_iinc (v := 1) 34 rfl rfl (by decide) (by decide) rfl ?_
        refine z_goto 35 6 rfl (by decide) ?_
        refine z_drop 7 ?_
        exact B
set_option maxRecDepth 100000 in
set_option maxHeartbeats 4000000 in
theorem sg_X10_markOf_0 {G : zG} {d : Nat} {h : zMem} {Q : Int32 → zMem → Prop} {x1 : Int32} {x2 : Int32} {x3 : Int32} (hS : zSh2 h)  (B : vp_in (((5 : Int32) * x1) + x2) 115 ∧ ∃ Q2 : Int32 → zMem → Prop, zConI G mX10_keenOf d [.ref 132, .int x1, .int x2] h Q2 ∧ (∀ v5 h3, Q2 v5 h3 → zSh2 h3 ∧ ∃ Q6 : Int32 → zMem → Prop, zConI G mX10_coldsOf d [.ref 132, .int x1, .int x2] h3 Q6 ∧ (∀ v9 h7, Q6 v9 h7 → zSh2 h7 ∧ ∃ Q10 : Int32 → zMem → Prop, zConI G mX10_markBy d [.ref 132, .int x3, .int (zI h 159 (((5 : Int32) * x1) + x2).toNatClampNeg), .int v5, .int v9] h7 Q10 ∧ (∀ v13 h11, Q10 v13 h11 → zSh2 h11 ∧ Q v13 h11)))) : zg G mX10_markOf (d + 1) 0 [.ref 132, .int x1, .int x2, .int x3] [] h (zPI Q) := by
  refine z_aload_n 0 rfl rfl ?_
  refine z_iload_n 1 rfl rfl ?_
  refine z_aload_n 2 rfl rfl ?_
  refine z_getR 3 rfl lX10_93 rfl (zcl1.o hS 132 9 rfl rfl rfl) (zcl1.r hS 132 42 159 rfl rfl rfl) ?_
  refine z_iconst (v := 5) 4 rfl (by decide) ?_
  refine z_iload_n 5 rfl rfl ?_
  refine z_imul 6 rfl ?_
  refine z_iload_n 7 rfl rfl ?_
  refine z_iadd 8 rfl ?_
  obtain ⟨o1, B⟩ := B
  refine z_iald 9 rfl (zcl1.o hS 159 100 rfl rfl rfl) (zin (zcl1.l hS 159 115 rfl rfl rfl) o1) ?_
  refine z_aload_n 10 rfl rfl ?_
  refine z_iload_n 11 rfl rfl ?_
  refine z_iload_n 12 rfl rfl ?_
  obtain ⟨Q2, K4, B⟩ := B
  refine z_cVI2 (ν := mX10_keenOf) 13 rfl rfl fX10_keenOf gX10_386 ⟨_, rfl, rfl⟩ (by decide) (zcl1.o hS 132 9 rfl rfl rfl) (Nat.le_of_ble_eq_true rfl) K4 (fun v5 h3 q => ?_)
  obtain ⟨hSh3, B⟩ := B v5 h3 q
  refine z_aload_n 14 rfl rfl ?_
  refine z_iload_n 15 rfl rfl ?_
  refine z_iload_n 16 rfl rfl ?_
  obtain ⟨Q6, K8, B⟩ := B
  refine z_cVI2 (ν := mX10_coldsOf) 17 rfl rfl fX10_coldsOf gX10_389 ⟨_, rfl, rfl⟩ (by decide) (zcl1.o hSh3 132 9 rfl rfl rfl) (Nat.le_of_ble_eq_true rfl) K8 (fun v9 h7 q => ?_)
  obtain ⟨hSh7, B⟩ := B v9 h7 q
  obtain ⟨Q10, K12, B⟩ := B
  refine z_cVI4 (ν := mX10_markBy) 18 rfl rfl fX10_markBy gX10_392 ⟨_, rfl, rfl⟩ (by decide) (zcl1.o hSh7 132 9 rfl rfl rfl) (Nat.le_of_ble_eq_true rfl) K12 (fun v13 h11 q => ?_)
  obtain ⟨hSh11, B⟩ := B v13 h11 q
  exact z_iret 19 rfl rfl rfl ⟨rfl, rfl⟩ ⟨_, rfl, B⟩
theorem cn_X10_markOf {G : zG} {d : Nat} {h : zMem} {Q : Int32 → zMem → Prop} {x1 : Int32} {x2 : Int32} {x3 : Int32} (B : zg G mX10_markOf (d + 1) 0 [.ref 132, .int x1, .int x2, .int x3] [] h (zPI Q)) : zConI G mX10_markOf (d + 1) [.ref 132, .int x1, .int x2, .int x3] h Q := zcon0 (by decide +kernel) eX10_markOf (Nat.le_of_ble_eq_true rfl) rfl B
set_option maxRecDepth 100000 in
set_option maxHeartbeats 4000000 in
theorem sg_X10_mixes_0 {G : zG} {d : Nat} {h : zMem} {Q : zMem → Prop} {x1 : Int32} (hS : zSh2 h)  (B : zg G mX10_mixes (d + 1) 2 [.ref 132, .int x1, .int (0 : Int32), zU] [] h (zPV Q)) : zg G mX10_mixes (d + 1) 0 [.ref 132, .int x1, zU, zU] [] h (zPV Q) := by
  refine z_iconst (v := 0) 0 rfl (by decide) ?_
  refine z_istore_n 1 rfl (by decide) rfl ?_
  exact B
theorem cn_X10_mixes {G : zG} {d : Nat} {h : zMem} {Q : zMem → Prop} {x1 : Int32} (B : zg G mX10_mixes (d + 1) 0 [.ref 132, .int x1, zU, zU] [] h (zPV Q)) : zConV G mX10_mixes (d + 1) [.ref 132, .int x1] h Q := zcon0 (by decide +kernel) eX10_mixes (Nat.le_of_ble_eq_true rfl) rfl B
set_option maxRecDepth 100000 in
set_option maxHeartbeats 4000000 in
theorem sg_X10_mixes_2 {G : zG} {d : Nat} {h : zMem} {Q : zMem → Prop} {x1 : Int32} {x2 : Int32} (hS : zSh2 h)  (B : ((zI h 134 0) ≤ x2 → Q h) ∧ (¬ (zI h 134 0) ≤ x2 → (¬ (zI h 134 1) = 0 → vp_in x1 23 ∧ ¬ (zI h 134 1) = 0 ∧ ∃ Q5 : Int32 → zMem → Prop, zConI G mX10_mixOf d [.ref 132, .int ((zI h 151 x1.toNatClampNeg) - (zI h 151 x1.toNatClampNeg) / (zI h 134 1) * (zI h 134 1)), .int x2] h Q5 ∧ (∀ v8 h6, Q5 v8 h6 → zSh2 h6 ∧ ((zI h6 132 48) = (4 : Int32) → vp_in x2 6 ∧ zg G mX10_mixes (d + 1) 2 [.ref 132, .int x1, .int (x2 + 1), zU] [] (zsI h6 164 x2.toNatClampNeg v8) (zPV Q)) ∧ (¬ (zI h6 132 48) = (4 : Int32) → vp_in (((6 : Int32) * x1) + x2) 138 ∧ vp_in x2 6 ∧ zg G mX10_mixes (d + 1) 2 [.ref 132, .int x1, .int (x2 + 1), zU] [] (zsI (zsI h6 156 (((6 : Int32) * x1) + x2).toNatClampNeg ((zI h6 156 (((6 : Int32) * x1) + x2).toNatClampNeg) - (if (zI h6 156 (((6 : Int32) * x1) + x2).toNatClampNeg) < v8 then (zI h6 156 (((6 : Int32) * x1) + x2).toNatClampNeg) else v8))) 164 x2.toNatClampNeg (if (zI h6 156 (((6 : Int32) * x1) + x2).toNatClampNeg) < v8 then (zI h6 156 (((6 : Int32) * x1) + x2).toNatClampNeg) else v8)) (zPV Q)))) ∧ ((zI h 134 1) = 0 → ((zI h 132 48) = (4 : Int32) → vp_in x2 6 ∧ zg G mX10_mixes (d + 1) 2 [.ref 132, .int x1, .int (x2 + 1), zU] [] (zsI h 164 x2.toNatClampNeg (0 : Int32)) (zPV Q)) ∧ (¬ (zI h 132 48) = (4 : Int32) → vp_in (((6 : Int32) * x1) + x2) 138 ∧ vp_in x2 6 ∧ zg G mX10_mixes (d + 1) 2 [.ref 132, .int x1, .int (x2 + 1), zU] [] (zsI (zsI h 156 (((6 : Int32) * x1) + x2).toNatClampNeg ((zI h 156 (((6 : Int32) * x1) + x2).toNatClampNeg) - (if (zI h 156 (((6 : Int32) * x1) + x2).toNatClampNeg) < (0 : Int32) then (zI h 156 (((6 : Int32) * x1) + x2).toNatClampNeg) else (0 : Int32)))) 164 x2.toNatClampNeg (if (zI h 156 (((6 : Int32) * x1) + x2).toNatClampNeg) < (0 : Int32) then (zI h 156 (((6 : Int32) * x1) + x2).toNatClampNeg) else (0 : Int32))) (zPV Q))))) : zg G mX10_mixes (d + 1) 2 [.ref 132, .int x1, .int x2, zU] [] h (zPV Q) := by
  refine z_iload_n 2 rfl rfl ?_
  refine z_aload_n 3 rfl rfl ?_
  refine z_getR 4 rfl lX10_13 rfl (zcl1.o hS 132 9 rfl rfl rfl) (zcl1.r hS 132 3 134 rfl rfl rfl) ?_
  refine z_iconst (v := 0) 5 rfl (by decide) ?_
  refine z_iald_c 6 0 rfl (by decide) (zcl1.o hS 134 100 rfl rfl rfl) (zin (zcl1.l hS 134 16 rfl rfl rfl) (zvp (by decide))) ?_
  refine z_icmp_ge 7 96 rfl (by decide) ⟨fun c1 => ?_, fun c1 => ?_⟩
  · have B := B.1 c1
    exact z_vret 62 rfl rfl ⟨rfl, rfl⟩ ⟨rfl, B⟩
  · have B := B.2 c1
    refine z_aload_n 8 rfl rfl ?_
    refine z_getR 9 rfl lX10_13 rfl (zcl1.o hS 132 9 rfl rfl rfl) (zcl1.r hS 132 3 134 rfl rfl rfl) ?_
    refine z_iconst (v := 1) 10 rfl (by decide) ?_
    refine z_iald_c 11 1 rfl (by decide) (zcl1.o hS 134 100 rfl rfl rfl) (zin (zcl1.l hS 134 16 rfl rfl rfl) (zvp (by decide))) ?_
    refine z_if_ne 12 25 rfl (by decide) ⟨fun c2 => ?_, fun c2 => ?_⟩
    · have B := B.1 c2
      refine z_aload_n 15 rfl rfl ?_
      refine z_aload_n 16 rfl rfl ?_
      refine z_getR 17 rfl lX10_69 rfl (zcl1.o hS 132 9 rfl rfl rfl) (zcl1.r hS 132 34 151 rfl rfl rfl) ?_
      refine z_iload_n 18 rfl rfl ?_
      obtain ⟨o3, B⟩ := B
      refine z_iald 19 rfl (zcl1.o hS 151 100 rfl rfl rfl) (zin (zcl1.l hS 151 23 rfl rfl rfl) o3) ?_
      refine z_aload_n 20 rfl rfl ?_
      refine z_getR 21 rfl lX10_13 rfl (zcl1.o hS 132 9 rfl rfl rfl) (zcl1.r hS 132 3 134 rfl rfl rfl) ?_
      refine z_iconst (v := 1) 22 rfl (by decide) ?_
      refine z_iald_c 23 1 rfl (by decide) (zcl1.o hS 134 100 rfl rfl rfl) (zin (zcl1.l hS 134 16 rfl rfl rfl) (zvp (by decide))) ?_
      obtain ⟨o4, B⟩ := B
      refine z_irem 24 rfl o4 ?_
      refine z_iload_n 25 rfl rfl ?_
      obtain ⟨Q5, K7, B⟩ := B
      refine z_cVI2 (ν := mX10_mixOf) 26 rfl rfl fX10_mixOf gX10_383 ⟨_, rfl, rfl⟩ (by decide) (zcl1.o hS 132 9 rfl rfl rfl) (Nat.le_of_ble_eq_true rfl) K7 (fun v8 h6 q => ?_)
      obtain ⟨hSh6, B⟩ := B v8 h6 q
      refine z_istore_n 27 rfl (by decide) rfl ?_
      refine z_aload_n 28 rfl rfl ?_
      refine z_getI 29 rfl lX10_349 rfl (zcl1.o hSh6 132 9 rfl rfl rfl) ?_
      refine z_iconst (v := 4) 30 rfl (by decide) ?_
      refine z_icmp_eq 31 83 rfl (by decide) ⟨fun c9 => ?_, fun c9 => ?_⟩
      · have B := B.1 c9
        refine z_aload_n 55 rfl rfl ?_
        refine z_getR 56 rfl lX10_123 rfl (zcl1.o hSh6 132 9 rfl rfl rfl) (zcl1.r hSh6 132 56 164 rfl rfl rfl) ?_
        refine z_iload_n 57 rfl rfl ?_
        refine z_iload_n 58 rfl rfl ?_
        obtain ⟨o10, B⟩ := B
        refine z_iast 59 rfl (zcl1.o hSh6 164 100 rfl rfl rfl) (zin (zcl1.l hSh6 164 6 rfl rfl rfl) o10) ?_
        refine z_iinc (v := 1) 60 rfl rfl (by decide) (by decide) rfl ?_
        refine z_goto 61 2 rfl (by decide) ?_
        refine z_drop 3 ?_
        exact B
      · have B := B.2 c9
        refine z_iload_n 32 rfl rfl ?_
        refine z_aload_n 33 rfl rfl ?_
        refine z_getR 34 rfl lX10_84 rfl (zcl1.o hSh6 132 9 rfl rfl rfl) (zcl1.r hSh6 132 39 156 rfl rfl rfl) ?_
        refine z_bipush (v := 6) 35 rfl (by decide) ?_
        refine z_iload_n 36 rfl rfl ?_
        refine z_imul 37 rfl ?_
        refine z_iload_n 38 rfl rfl ?_
        refine z_iadd 39 rfl ?_
        obtain ⟨o11, B⟩ := B
        refine z_iald 40 rfl (zcl1.o hSh6 156 100 rfl rfl rfl) (zin (zcl1.l hSh6 156 138 rfl rfl rfl) o11) ?_
        refine z_mmin 41 rfl rfl gmX10_395 (Nat.le_of_ble_eq_true rfl) ?_
        refine z_istore_n 42 rfl (by decide) rfl ?_
        refine z_aload_n 43 rfl rfl ?_
        refine z_getR 44 rfl lX10_84 rfl (zcl1.o hSh6 132 9 rfl rfl rfl) (zcl1.r hSh6 132 39 156 rfl rfl rfl) ?_
        refine z_bipush (v := 6) 45 rfl (by decide) ?_
        refine z_iload_n 46 rfl rfl ?_
        refine z_imul 47 rfl ?_
        refine z_iload_n 48 rfl rfl ?_
        refine z_iadd 49 rfl ?_
        refine z_dup2 50 rfl rfl rfl ?_
        refine z_iald 51 rfl (zcl1.o hSh6 156 100 rfl rfl rfl) (zin (zcl1.l hSh6 156 138 rfl rfl rfl) o11) ?_
        refine z_iload_n 52 rfl rfl ?_
        refine z_isub 53 rfl ?_
        refine z_iast 54 rfl (zcl1.o hSh6 156 100 rfl rfl rfl) (zin (zcl1.l hSh6 156 138 rfl rfl rfl) o11) ?_
        refine z_aload_n 55 rfl rfl ?_
        refine z_getR 56 rfl lX10_123 rfl (zcl1.o hSh6 132 9 rfl rfl rfl) (zcl1.r hSh6 132 56 164 rfl rfl rfl) ?_
        refine z_iload_n 57 rfl rfl ?_
        refine z_iload_n 58 rfl rfl ?_
        obtain ⟨o12, B⟩ := B
        refine z_iast 59 rfl (zcl1.o hSh6 164 100 rfl rfl rfl) (zin (zcl1.l hSh6 164 6 rfl rfl rfl) o12) ?_
        refine z_iinc (v := 1) 60 rfl rfl (by decide) (by decide) rfl ?_
        refine z_goto 61 2 rfl (by decide) ?_
        refine z_drop 3 ?_
        exact B
    · have B := B.2 c2
      refine z_iconst (v := 0) 13 rfl (by decide) ?_
      refine z_goto 14 43 rfl (by decide) ?_
      refine z_istore_n 27 rfl (by decide) rfl ?_
      refine z_aload_n 28 rfl rfl ?_
      refine z_getI 29 rfl lX10_349 rfl (zcl1.o hS 132 9 rfl rfl rfl) ?_
      refine z_iconst (v := 4) 30 rfl (by decide) ?_
      refine z_icmp_eq 31 83 rfl (by decide) ⟨fun c13 => ?_, fun c13 => ?_⟩
      · have B := B.1 c13
        refine z_aload_n 55 rfl rfl ?_
        refine z_getR 56 rfl lX10_123 rfl (zcl1.o hS 132 9 rfl rfl rfl) (zcl1.r hS 132 56 164 rfl rfl rfl) ?_
        refine z_iload_n 57 rfl rfl ?_
        refine z_iload_n 58 rfl rfl ?_
        obtain ⟨o14, B⟩ := B
        refine z_iast 59 rfl (zcl1.o hS 164 100 rfl rfl rfl) (zin (zcl1.l hS 164 6 rfl rfl rfl) o14) ?_
        refine z_iinc (v := 1) 60 rfl rfl (by decide) (by decide) rfl ?_
        refine z_goto 61 2 rfl (by decide) ?_
        refine z_drop 3 ?_
        exact B
      · have B := B.2 c13
        refine z_iload_n 32 rfl rfl ?_
        refine z_aload_n 33 rfl rfl ?_
        refine z_getR 34 rfl lX10_84 rfl (zcl1.o hS 132 9 rfl rfl rfl) (zcl1.r hS 132 39 156 rfl rfl rfl) ?_
        refine z_bipush (v := 6) 35 rfl (by decide) ?_
        refine z_iload_n 36 rfl rfl ?_
        refine z_imul 37 rfl ?_
        refine z_iload_n 38 rfl rfl ?_
        refine z_iadd 39 rfl ?_
        obtain ⟨o15, B⟩ := B
        refine z_iald 40 rfl (zcl1.o hS 156 100 rfl rfl rfl) (zin (zcl1.l hS 156 138 rfl rfl rfl) o15) ?_
        refine z_mmin 41 rfl rfl gmX10_395 (Nat.le_of_ble_eq_true rfl) ?_
        refine z_istore_n 42 rfl (by decide) rfl ?_
        refine z_aload_n 43 rfl rfl ?_
        refine z_getR 44 rfl lX10_84 rfl (zcl1.o hS 132 9 rfl rfl rfl) (zcl1.r hS 132 39 156 rfl rfl rfl) ?_
        refine z_bipush (v := 6) 45 rfl (by decide) ?_
        refine z_iload_n 46 rfl rfl ?_
        refine z_imul 47 rfl ?_
        refine z_iload_n 48 rfl rfl ?_
        refine z_iadd 49 rfl ?_
        refine z_dup2 50 rfl rfl rfl ?_
        refine z_iald 51 rfl (zcl1.o hS 156 100 rfl rfl rfl) (zin (zcl1.l hS 156 138 rfl rfl rfl) o15) ?_
        refine z_iload_n 52 rfl rfl ?_
        refine z_isub 53 rfl ?_
        refine z_iast 54 rfl (zcl1.o hS 156 100 rfl rfl rfl) (zin (zcl1.l hS 156 138 rfl rfl rfl) o15) ?_
        refine z_aload_n 55 rfl rfl ?_
        refine z_getR 56 rfl lX10_123 rfl (zcl1.o hS 132 9 rfl rfl rfl) (zcl1.r hS 132 56 164 rfl rfl rfl) ?_
        refine z_iload_n 57 rfl rfl ?_
        refine z_iload_n 58 rfl rfl ?_
        obtain ⟨o16, B⟩ := B
        refine z_iast 59 rfl (zcl1.o hS 164 100 rfl rfl rfl) (zin (zcl1.l hS 164 6 rfl rfl rfl) o16) ?_
        refine z_iinc (v := 1) 60 rfl rfl (by decide) (by decide) rfl ?_
        refine z_goto 61 2 rfl (by decide) ?_
        refine z_drop 3 ?_
        exact B
set_option maxRecDepth 100000 in
set_option maxHeartbeats 4000000 in
theorem sg_X10_drifts_0 {G : zG} {d : Nat} {h : zMem} {Q : zMem → Prop} {x1 : Int32} (hS : zSh2 h)  (B : zg G mX10_drifts (d + 1) 2 [.ref 132, .int x1, .int (0 : Int32), zU, zU, zU, zU] [] h (zPV Q)) : zg G mX10_drifts (d + 1) 0 [.ref 132, .int x1, zU, zU, zU, zU, zU] [] h (zPV Q) := by
  refine z_iconst (v := 0) 0 rfl (by decide) ?_
  refine z_istore_n 1 rfl (by decide) rfl ?_
  exact B
theorem cn_X10_drifts {G : zG} {d : Nat} {h : zMem} {Q : zMem → Prop} {x1 : Int32} (B : zg G mX10_drifts (d + 1) 0 [.ref 132, .int x1, zU, zU, zU, zU, zU] [] h (zPV Q)) : zConV G mX10_drifts (d + 1) [.ref 132, .int x1] h Q := zcon0 (by decide +kernel) eX10_drifts (Nat.le_of_ble_eq_true rfl) rfl B
set_option maxRecDepth 100000 in
set_option maxHeartbeats 4000000 in
theorem sg_X10_drifts_2 {G : zG} {d : Nat} {h : zMem} {Q : zMem → Prop} {x1 : Int32} {x2 : Int32} (hS : zSh2 h)  (B : ((zI h 134 3) ≤ x2 → zg G mX10_drifts (d + 1) 154 [.ref 132, .int x1, .int (0 : Int32), zU, zU, zU, zU] [] h (zPV Q)) ∧ (¬ (zI h 134 3) ≤ x2 → zg G mX10_drifts (d + 1) 14 [.ref 132, .int x1, .int x2, .int (0 : Int32), zU, zU, zU] [] h (zPV Q))) : zg G mX10_drifts (d + 1) 2 [.ref 132, .int x1, .int x2, zU, zU, zU, zU] [] h (zPV Q) := by
  refine z_iload_n 2 rfl rfl ?_
  refine z_aload_n 3 rfl rfl ?_
  refine z_getR 4 rfl lX10_13 rfl (zcl1.o hS 132 9 rfl rfl rfl) (zcl1.r hS 132 3 134 rfl rfl rfl) ?_
  refine z_iconst (v := 3) 5 rfl (by decide) ?_
  refine z_iald_c 6 3 rfl (by decide) (zcl1.o hS 134 100 rfl rfl rfl) (zin (zcl1.l hS 134 16 rfl rfl rfl) (zvp (by decide))) ?_
  refine z_icmp_ge 7 152 rfl (by decide) ⟨fun c1 => ?_, fun c1 => ?_⟩
  · have B := B.1 c1
    refine z_iconst (v := 0) 94 rfl (by decide) ?_
    refine z_istore_n 95 rfl (by decide) rfl ?_
    exact B
  · have B := B.2 c1
    refine z_iconst (v := 0) 8 rfl (by decide) ?_
    refine z_istore_n 9 rfl (by decide) rfl ?_
    exact B
set_option maxRecDepth 100000 in
set_option maxHeartbeats 4000000 in
theorem sg_X10_drifts_14 {G : zG} {d : Nat} {h : zMem} {Q : zMem → Prop} {x1 : Int32} {x2 : Int32} {x3 : Int32} (hS : zSh2 h)  (B : ((zI h 134 0) ≤ x3 → zg G mX10_drifts (d + 1) 2 [.ref 132, .int x1, .int (x2 + 1), zU, zU, zU, zU] [] h (zPV Q)) ∧ (¬ (zI h 134 0) ≤ x3 → (¬ (zI h 132 48) = (1 : Int32) → vp_in ((((36 : Int32) * x1) + ((6 : Int32) * x2)) + x3) 828 ∧ vp_in (((6 : Int32) * x1) + x3) 138 ∧ vp_in x3 6 ∧ ∃ Q6 : Int32 → zMem → Prop, zConI G mX10_partIn d [.ref 132, .int x2] h Q6 ∧ (∀ v9 h7, Q6 v9 h7 → zSh2 h7 ∧ ∃ Q10 : zMem → Prop, zConV G mX10_calls d [.ref 132, .int x1, .int (zI h 164 x3.toNatClampNeg), .int v9, .int (zI h 158 ((((36 : Int32) * x1) + ((6 : Int32) * x2)) + x3).toNatClampNeg), .int (zI h 157 (((6 : Int32) * x1) + x3).toNatClampNeg), .int x2, .int (0 : Int32)] h7 Q10 ∧ (∀ h11, Q10 h11 → zSh2 h11 ∧ ∃ Q13 : Int32 → zMem → Prop, zConI G mX10_partIn d [.ref 132, .int x2] h11 Q13 ∧ (∀ v16 h14, Q13 v16 h14 → zSh2 h14 ∧ ∃ Q17 : Int32 → zMem → Prop, zConI G mX10_within d [.ref 132, .int (0 : Int32), .int (0 : Int32), .int (9999 : Int32), .int (((((zI h11 164 x3.toNatClampNeg) * v16) / (100 : Int32)) + (((zI h 158 ((((36 : Int32) * x1) + ((6 : Int32) * x2)) + x3).toNatClampNeg) * (zI h14 134 5)) / (100 : Int32))) + (zI h 157 (((6 : Int32) * x1) + x3).toNatClampNeg))] h14 Q17 ∧ (∀ v20 h18, Q17 v20 h18 → zSh2 h18 ∧ zg G mX10_drifts (d + 1) 14 [.ref 132, .int x1, .int x2, .int (x3 + 1), zU, zU, zU] [] (zsI h18 158 ((((36 : Int32) * x1) + ((6 : Int32) * x2)) + x3).toNatClampNeg v20) (zPV Q)))))) ∧ ((zI h 132 48) = (1 : Int32) → vp_in (((6 : Int32) * x1) + x3) 138 ∧ vp_in x3 6 ∧ ∃ Q23 : Int32 → zMem → Prop, zConI G mX10_partIn d [.ref 132, .int x2] h Q23 ∧ (∀ v26 h24, Q23 v26 h24 → zSh2 h24 ∧ ∃ Q27 : zMem → Prop, zConV G mX10_calls d [.ref 132, .int x1, .int (zI h 164 x3.toNatClampNeg), .int v26, .int (0 : Int32), .int (zI h 157 (((6 : Int32) * x1) + x3).toNatClampNeg), .int x2, .int (0 : Int32)] h24 Q27 ∧ (∀ h28, Q27 h28 → zSh2 h28 ∧ ∃ Q30 : Int32 → zMem → Prop, zConI G mX10_partIn d [.ref 132, .int x2] h28 Q30 ∧ (∀ v33 h31, Q30 v33 h31 → zSh2 h31 ∧ ∃ Q34 : Int32 → zMem → Prop, zConI G mX10_within d [.ref 132, .int (0 : Int32), .int (0 : Int32), .int (9999 : Int32), .int (((((zI h28 164 x3.toNatClampNeg) * v33) / (100 : Int32)) + (((0 : Int32) * (zI h31 134 5)) / (100 : Int32))) + (zI h 157 (((6 : Int32) * x1) + x3).toNatClampNeg))] h31 Q34 ∧ (∀ v37 h35, Q34 v37 h35 → zSh2 h35 ∧ vp_in ((((36 : Int32) * x1) + ((6 : Int32) * x2)) + x3) 828 ∧ zg G mX10_drifts (d + 1) 14 [.ref 132, .int x1, .int x2, .int (x3 + 1), zU, zU, zU] [] (zsI h35 158 ((((36 : Int32) * x1) + ((6 : Int32) * x2)) + x3).toNatClampNeg v37) (zPV Q)))))))) : zg G mX10_drifts (d + 1) 14 [.ref 132, .int x1, .int x2, .int x3, zU, zU, zU] [] h (zPV Q) := by
  refine z_iload_n 10 rfl rfl ?_
  refine z_aload_n 11 rfl rfl ?_
  refine z_getR 12 rfl lX10_13 rfl (zcl1.o hS 132 9 rfl rfl rfl) (zcl1.r hS 132 3 134 rfl rfl rfl) ?_
  refine z_iconst (v := 0) 13 rfl (by decide) ?_
  refine z_iald_c 14 0 rfl (by decide) (zcl1.o hS 134 100 rfl rfl rfl) (zin (zcl1.l hS 134 16 rfl rfl rfl) (zvp (by decide))) ?_
  refine z_icmp_ge 15 146 rfl (by decide) ⟨fun c1 => ?_, fun c1 => ?_⟩
  · have B := B.1 c1
    refine z_iinc (v := 1) 92 rfl rfl (by decide) (by decide) rfl ?_
    refine z_goto 93 2 rfl (by decide) ?_
    refine z_drop 3 ?_
    exact B
  · have B := B.2 c1
    refine z_bipush (v := 36) 16 rfl (by decide) ?_
    refine z_iload_n 17 rfl rfl ?_
    refine z_imul 18 rfl ?_
    refine z_bipush (v := 6) 19 rfl (by decide) ?_
    refine z_iload_n 20 rfl rfl ?_
    refine z_imul 21 rfl ?_
    refine z_iadd 22 rfl ?_
    refine z_iload_n 23 rfl rfl ?_
    refine z_iadd 24 rfl ?_
    refine z_istore 25 rfl (by decide) rfl ?_
    refine z_aload_n 26 rfl rfl ?_
    refine z_getI 27 rfl lX10_349 rfl (zcl1.o hS 132 9 rfl rfl rfl) ?_
    refine z_iconst (v := 1) 28 rfl (by decide) ?_
    refine z_icmp_ne 29 49 rfl (by decide) ⟨fun c2 => ?_, fun c2 => ?_⟩
    · have B := B.1 c2
      refine z_aload_n 32 rfl rfl ?_
      refine z_getR 33 rfl lX10_90 rfl (zcl1.o hS 132 9 rfl rfl rfl) (zcl1.r hS 132 41 158 rfl rfl rfl) ?_
      refine z_iload 34 rfl rfl ?_
      obtain ⟨o3, B⟩ := B
      refine z_iald 35 rfl (zcl1.o hS 158 100 rfl rfl rfl) (zin (zcl1.l hS 158 828 rfl rfl rfl) o3) ?_
      refine z_istore 36 rfl (by decide) rfl ?_
      refine z_aload_n 37 rfl rfl ?_
      refine z_getR 38 rfl lX10_87 rfl (zcl1.o hS 132 9 rfl rfl rfl) (zcl1.r hS 132 40 157 rfl rfl rfl) ?_
      refine z_bipush (v := 6) 39 rfl (by decide) ?_
      refine z_iload_n 40 rfl rfl ?_
      refine z_imul 41 rfl ?_
      refine z_iload_n 42 rfl rfl ?_
      refine z_iadd 43 rfl ?_
      obtain ⟨o4, B⟩ := B
      refine z_iald 44 rfl (zcl1.o hS 157 100 rfl rfl rfl) (zin (zcl1.l hS 157 138 rfl rfl rfl) o4) ?_
      refine z_istore 45 rfl (by decide) rfl ?_
      refine z_aload_n 46 rfl rfl ?_
      refine z_iload_n 47 rfl rfl ?_
      refine z_aload_n 48 rfl rfl ?_
      refine z_getR 49 rfl lX10_123 rfl (zcl1.o hS 132 9 rfl rfl rfl) (zcl1.r hS 132 56 164 rfl rfl rfl) ?_
      refine z_iload_n 50 rfl rfl ?_
      obtain ⟨o5, B⟩ := B
      refine z_iald 51 rfl (zcl1.o hS 164 100 rfl rfl rfl) (zin (zcl1.l hS 164 6 rfl rfl rfl) o5) ?_
      refine z_aload_n 52 rfl rfl ?_
      refine z_iload_n 53 rfl rfl ?_
      obtain ⟨Q6, K8, B⟩ := B
      refine z_cVI1 (ν := mX10_partIn) 54 rfl rfl fX10_partIn gX10_368 ⟨_, rfl, rfl⟩ (by decide) (zcl1.o hS 132 9 rfl rfl rfl) (Nat.le_of_ble_eq_true rfl) K8 (fun v9 h7 q => ?_)
      obtain ⟨hSh7, B⟩ := B v9 h7 q
      refine z_iload 55 rfl rfl ?_
      refine z_iload 56 rfl rfl ?_
      refine z_iload_n 57 rfl rfl ?_
      refine z_iconst (v := 0) 58 rfl (by decide) ?_
      obtain ⟨Q10, K12, B⟩ := B
      refine z_cVV7 (ν := mX10_calls) 59 rfl rfl fX10_calls gX10_371 ⟨_, rfl, rfl⟩ (by decide) (zcl1.o hSh7 132 9 rfl rfl rfl) (Nat.le_of_ble_eq_true rfl) K12 (fun h11 q => ?_)
      obtain ⟨hSh11, B⟩ := B h11 q
      refine z_aload_n 60 rfl rfl ?_
      refine z_getR 61 rfl lX10_90 rfl (zcl1.o hSh11 132 9 rfl rfl rfl) (zcl1.r hSh11 132 41 158 rfl rfl rfl) ?_
      refine z_iload 62 rfl rfl ?_
      refine z_aload_n 63 rfl rfl ?_
      refine z_iconst (v := 0) 64 rfl (by decide) ?_
      refine z_iconst (v := 0) 65 rfl (by decide) ?_
      refine z_sipush (v := 9999) 66 rfl (by decide) ?_
      refine z_aload_n 67 rfl rfl ?_
      refine z_getR 68 rfl lX10_123 rfl (zcl1.o hSh11 132 9 rfl rfl rfl) (zcl1.r hSh11 132 56 164 rfl rfl rfl) ?_
      refine z_iload_n 69 rfl rfl ?_
      refine z_iald 70 rfl (zcl1.o hSh11 164 100 rfl rfl rfl) (zin (zcl1.l hSh11 164 6 rfl rfl rfl) o5) ?_
      refine z_aload_n 71 rfl rfl ?_
      refine z_iload_n 72 rfl rfl ?_
      obtain ⟨Q13, K15, B⟩ := B
      refine z_cVI1 (ν := mX10_partIn) 73 rfl rfl fX10_partIn gX10_368 ⟨_, rfl, rfl⟩ (by decide) (zcl1.o hSh11 132 9 rfl rfl rfl) (Nat.le_of_ble_eq_true rfl) K15 (fun v16 h14 q => ?_)
      obtain ⟨hSh14, B⟩ := B v16 h14 q
      refine z_imul 74 rfl ?_
      refine z_bipush (v := 100) 75 rfl (by decide) ?_
      refine z_idiv 76 rfl (by decide) ?_
      refine z_iload 77 rfl rfl ?_
      refine z_aload_n 78 rfl rfl ?_
      refine z_getR 79 rfl lX10_13 rfl (zcl1.o hSh14 132 9 rfl rfl rfl) (zcl1.r hSh14 132 3 134 rfl rfl rfl) ?_
      refine z_iconst (v := 5) 80 rfl (by decide) ?_
      refine z_iald_c 81 5 rfl (by decide) (zcl1.o hSh14 134 100 rfl rfl rfl) (zin (zcl1.l hSh14 134 16 rfl rfl rfl) (zvp (by decide))) ?_
      refine z_imul 82 rfl ?_
      refine z_bipush (v := 100) 83 rfl (by decide) ?_
      refine z_idiv 84 rfl (by decide) ?_
      refine z_iadd 85 rfl ?_
      refine z_iload 86 rfl rfl ?_
      refine z_iadd 87 rfl ?_
      obtain ⟨Q17, K19, B⟩ := B
      refine z_cVI4 (ν := mX10_within) 88 rfl rfl fX10_within gX10_375 ⟨_, rfl, rfl⟩ (by decide) (zcl1.o hSh14 132 9 rfl rfl rfl) (Nat.le_of_ble_eq_true rfl) K19 (fun v20 h18 q => ?_)
      obtain ⟨hSh18, B⟩ := B v20 h18 q
      refine z_iast 89 rfl (zcl1.o hSh18 158 100 rfl rfl rfl) (zin (zcl1.l hSh18 158 828 rfl rfl rfl) o3) ?_
      refine z_iinc (v := 1) 90 rfl rfl (by decide) (by decide) rfl ?_
      refine z_goto 91 14 rfl (by decide) ?_
      refine z_drop 4 ?_
      refine z_drop 5 ?_
      refine z_drop 6 ?_
      exact B
    · have B := B.2 c2
      refine z_iconst (v := 0) 30 rfl (by decide) ?_
      refine z_goto 31 56 rfl (by decide) ?_
      refine z_istore 36 rfl (by decide) rfl ?_
      refine z_aload_n 37 rfl rfl ?_
      refine z_getR 38 rfl lX10_87 rfl (zcl1.o hS 132 9 rfl rfl rfl) (zcl1.r hS 132 40 157 rfl rfl rfl) ?_
      refine z_bipush (v := 6) 39 rfl (by decide) ?_
      refine z_iload_n 40 rfl rfl ?_
      refine z_imul 41 rfl ?_
      refine z_iload_n 42 rfl rfl ?_
      refine z_iadd 43 rfl ?_
      obtain ⟨o21, B⟩ := B
      refine z_iald 44 rfl (zcl1.o hS 157 100 rfl rfl rfl) (zin (zcl1.l hS 157 138 rfl rfl rfl) o21) ?_
      refine z_istore 45 rfl (by decide) rfl ?_
      refine z_aload_n 46 rfl rfl ?_
      refine z_iload_n 47 rfl rfl ?_
      refine z_aload_n 48 rfl rfl ?_
      refine z_getR 49 rfl lX10_123 rfl (zcl1.o hS 132 9 rfl rfl rfl) (zcl1.r hS 132 56 164 rfl rfl rfl) ?_
      refine z_iload_n 50 rfl rfl ?_
      obtain ⟨o22, B⟩ := B
      refine z_iald 51 rfl (zcl1.o hS 164 100 rfl rfl rfl) (zin (zcl1.l hS 164 6 rfl rfl rfl) o22) ?_
      refine z_aload_n 52 rfl rfl ?_
      refine z_iload_n 53 rfl rfl ?_
      obtain ⟨Q23, K25, B⟩ := B
      refine z_cVI1 (ν := mX10_partIn) 54 rfl rfl fX10_partIn gX10_368 ⟨_, rfl, rfl⟩ (by decide) (zcl1.o hS 132 9 rfl rfl rfl) (Nat.le_of_ble_eq_true rfl) K25 (fun v26 h24 q => ?_)
      obtain ⟨hSh24, B⟩ := B v26 h24 q
      refine z_iload 55 rfl rfl ?_
      refine z_iload 56 rfl rfl ?_
      refine z_iload_n 57 rfl rfl ?_
      refine z_iconst (v := 0) 58 rfl (by decide) ?_
      obtain ⟨Q27, K29, B⟩ := B
      refine z_cVV7 (ν := mX10_calls) 59 rfl rfl fX10_calls gX10_371 ⟨_, rfl, rfl⟩ (by decide) (zcl1.o hSh24 132 9 rfl rfl rfl) (Nat.le_of_ble_eq_true rfl) K29 (fun h28 q => ?_)
      obtain ⟨hSh28, B⟩ := B h28 q
      refine z_aload_n 60 rfl rfl ?_
      refine z_getR 61 rfl lX10_90 rfl (zcl1.o hSh28 132 9 rfl rfl rfl) (zcl1.r hSh28 132 41 158 rfl rfl rfl) ?_
      refine z_iload 62 rfl rfl ?_
      refine z_aload_n 63 rfl rfl ?_
      refine z_iconst (v := 0) 64 rfl (by decide) ?_
      refine z_iconst (v := 0) 65 rfl (by decide) ?_
      refine z_sipush (v := 9999) 66 rfl (by decide) ?_
      refine z_aload_n 67 rfl rfl ?_
      refine z_getR 68 rfl lX10_123 rfl (zcl1.o hSh28 132 9 rfl rfl rfl) (zcl1.r hSh28 132 56 164 rfl rfl rfl) ?_
      refine z_iload_n 69 rfl rfl ?_
      refine z_iald 70 rfl (zcl1.o hSh28 164 100 rfl rfl rfl) (zin (zcl1.l hSh28 164 6 rfl rfl rfl) o22) ?_
      refine z_aload_n 71 rfl rfl ?_
      refine z_iload_n 72 rfl rfl ?_
      obtain ⟨Q30, K32, B⟩ := B
      refine z_cVI1 (ν := mX10_partIn) 73 rfl rfl fX10_partIn gX10_368 ⟨_, rfl, rfl⟩ (by decide) (zcl1.o hSh28 132 9 rfl rfl rfl) (Nat.le_of_ble_eq_true rfl) K32 (fun v33 h31 q => ?_)
      obtain ⟨hSh31, B⟩ := B v33 h31 q
      refine z_imul 74 rfl ?_
      refine z_bipush (v := 100) 75 rfl (by decide) ?_
      refine z_idiv 76 rfl (by decide) ?_
      refine z_iload 77 rfl rfl ?_
      refine z_aload_n 78 rfl rfl ?_
      refine z_getR 79 rfl lX10_13 rfl (zcl1.o hSh31 132 9 rfl rfl rfl) (zcl1.r hSh31 132 3 134 rfl rfl rfl) ?_
      refine z_iconst (v := 5) 80 rfl (by decide) ?_
      refine z_iald_c 81 5 rfl (by decide) (zcl1.o hSh31 134 100 rfl rfl rfl) (zin (zcl1.l hSh31 134 16 rfl rfl rfl) (zvp (by decide))) ?_
      refine z_imul 82 rfl ?_
      refine z_bipush (v := 100) 83 rfl (by decide) ?_
      refine z_idiv 84 rfl (by decide) ?_
      refine z_iadd 85 rfl ?_
      refine z_iload 86 rfl rfl ?_
      refine z_iadd 87 rfl ?_
      obtain ⟨Q34, K36, B⟩ := B
      refine z_cVI4 (ν := mX10_within) 88 rfl rfl fX10_within gX10_375 ⟨_, rfl, rfl⟩ (by decide) (zcl1.o hSh31 132 9 rfl rfl rfl) (Nat.le_of_ble_eq_true rfl) K36 (fun v37 h35 q => ?_)
      obtain ⟨hSh35, B⟩ := B v37 h35 q
      obtain ⟨o38, B⟩ := B
      refine z_iast 89 rfl (zcl1.o hSh35 158 100 rfl rfl rfl) (zin (zcl1.l hSh35 158 828 rfl rfl rfl) o38) ?_
      refine z_iinc (v := 1) 90 rfl rfl (by decide) (by decide) rfl ?_
      refine z_goto 91 14 rfl (by decide) ?_
      refine z_drop 4 ?_
      refine z_drop 5 ?_
      refine z_drop 6 ?_
      exact B
set_option maxRecDepth 100000 in
set_option maxHeartbeats 4000000 in
theorem sg_X10_drifts_154 {G : zG} {d : Nat} {h : zMem} {Q : zMem → Prop} {x1 : Int32} {x2 : Int32} (hS : zSh2 h)  (B : ((6 : Int32) ≤ x2 → Q h) ∧ (¬ (6 : Int32) ≤ x2 → vp_in (((6 : Int32) * x1) + x2) 138 ∧ zg G mX10_drifts (d + 1) 154 [.ref 132, .int x1, .int (x2 + 1), zU, zU, zU, zU] [] (zsI h 157 (((6 : Int32) * x1) + x2).toNatClampNeg (0 : Int32)) (zPV Q))) : zg G mX10_drifts (d + 1) 154 [.ref 132, .int x1, .int x2, zU, zU, zU, zU] [] h (zPV Q) := by
  refine z_iload_n 96 rfl rfl ?_
  refine z_bipush (v := 6) 97 rfl (by decide) ?_
  refine z_icmp_ge 98 178 rfl (by decide) ⟨fun c1 => ?_, fun c1 => ?_⟩
  · have B := B.1 c1
    exact z_vret 110 rfl rfl ⟨rfl, rfl⟩ ⟨rfl, B⟩
  · have B := B.2 c1
    refine z_aload_n 99 rfl rfl ?_
    refine z_getR 100 rfl lX10_87 rfl (zcl1.o hS 132 9 rfl rfl rfl) (zcl1.r hS 132 40 157 rfl rfl rfl) ?_
    refine z_bipush (v := 6) 101 rfl (by decide) ?_
    refine z_iload_n 102 rfl rfl ?_
    refine z_imul 103 rfl ?_
    refine z_iload_n 104 rfl rfl ?_
    refine z_iadd 105 rfl ?_
    refine z_iconst (v := 0) 106 rfl (by decide) ?_
    obtain ⟨o2, B⟩ := B
    refine z_iast 107 rfl (zcl1.o hS 157 100 rfl rfl rfl) (zin (zcl1.l hS 157 138 rfl rfl rfl) o2) ?_
    refine z_iinc (v := 1) 108 rfl rfl (by decide) (by decide) rfl ?_
    refine z_goto 109 154 rfl (by decide) ?_
    exact B
set_option maxRecDepth 100000 in
set_option maxHeartbeats 4000000 in
theorem sg_X10_smells_0 {G : zG} {d : Nat} {h : zMem} {Q : Int32 → zMem → Prop} {x1 : Int32} {x2 : Int32} (hS : zSh2 h)  (B : ∃ Q1 : Int32 → zMem → Prop, zConI G mX10_keenOf d [.ref 132, .int x1, .int x2] h Q1 ∧ (∀ v4 h2, Q1 v4 h2 → zSh2 h2 ∧ zg G mX10_smells (d + 1) 13 [.ref 132, .int x1, .int x2, .int v4, .int (0 : Int32), .int (0 : Int32)] [] h2 (zPI Q))) : zg G mX10_smells (d + 1) 0 [.ref 132, .int x1, .int x2, zU, zU, zU] [] h (zPI Q) := by
  refine z_aload_n 0 rfl rfl ?_
  refine z_iload_n 1 rfl rfl ?_
  refine z_iload_n 2 rfl rfl ?_
  obtain ⟨Q1, K3, B⟩ := B
  refine z_cVI2 (ν := mX10_keenOf) 3 rfl rfl fX10_keenOf gX10_386 ⟨_, rfl, rfl⟩ (by decide) (zcl1.o hS 132 9 rfl rfl rfl) (Nat.le_of_ble_eq_true rfl) K3 (fun v4 h2 q => ?_)
  obtain ⟨hSh2, B⟩ := B v4 h2 q
  refine z_istore_n 4 rfl (by decide) rfl ?_
  refine z_iconst (v := 0) 5 rfl (by decide) ?_
  refine z_istore 6 rfl (by decide) rfl ?_
  refine z_iconst (v := 0) 7 rfl (by decide) ?_
  refine z_istore 8 rfl (by decide) rfl ?_
  exact B
theorem cn_X10_smells {G : zG} {d : Nat} {h : zMem} {Q : Int32 → zMem → Prop} {x1 : Int32} {x2 : Int32} (B : zg G mX10_smells (d + 1) 0 [.ref 132, .int x1, .int x2, zU, zU, zU] [] h (zPI Q)) : zConI G mX10_smells (d + 1) [.ref 132, .int x1, .int x2] h Q := zcon0 (by decide +kernel) eX10_smells (Nat.le_of_ble_eq_true rfl) rfl B
set_option maxRecDepth 100000 in
set_option maxHeartbeats 4000000 in
theorem sg_X10_smells_13 {G : zG} {d : Nat} {h : zMem} {Q : Int32 → zMem → Prop} {x1 : Int32} {x2 : Int32} {x3 : Int32} {x4 : Int32} {x5 : Int32} (hS : zSh2 h)  (B : ((zI h 134 0) ≤ x5 → ∃ Q2 : Int32 → zMem → Prop, zConI G mX10_coldsOf d [.ref 132, .int x1, .int x2] h Q2 ∧ (∀ v5 h3, Q2 v5 h3 → zSh2 h3 ∧ Q (x4 &&& (v5 ^^^ (-1 : Int32))) h3)) ∧ (¬ (zI h 134 0) ≤ x5 → vp_in (((5 : Int32) * x1) + x2) 115 ∧ vp_in ((((36 : Int32) * x1) + ((6 : Int32) * (zI h 159 (((5 : Int32) * x1) + x2).toNatClampNeg))) + x5) 828 ∧ ((zI h 158 ((((36 : Int32) * x1) + ((6 : Int32) * (zI h 159 (((5 : Int32) * x1) + x2).toNatClampNeg))) + x5).toNatClampNeg) < x3 → zg G mX10_smells (d + 1) 13 [.ref 132, .int x1, .int x2, .int x3, .int (x4 ||| (0 : Int32)), .int (x5 + 1)] [] h (zPI Q)) ∧ (¬ (zI h 158 ((((36 : Int32) * x1) + ((6 : Int32) * (zI h 159 (((5 : Int32) * x1) + x2).toNatClampNeg))) + x5).toNatClampNeg) < x3 → zg G mX10_smells (d + 1) 13 [.ref 132, .int x1, .int x2, .int x3, .int (x4 ||| ((1 : Int32) <<< (x5 &&& 31))), .int (x5 + 1)] [] h (zPI Q)))) : zg G mX10_smells (d + 1) 13 [.ref 132, .int x1, .int x2, .int x3, .int x4, .int x5] [] h (zPI Q) := by
  refine z_iload 9 rfl rfl ?_
  refine z_aload_n 10 rfl rfl ?_
  refine z_getR 11 rfl lX10_13 rfl (zcl1.o hS 132 9 rfl rfl rfl) (zcl1.r hS 132 3 134 rfl rfl rfl) ?_
  refine z_iconst (v := 0) 12 rfl (by decide) ?_
  refine z_iald_c 13 0 rfl (by decide) (zcl1.o hS 134 100 rfl rfl rfl) (zin (zcl1.l hS 134 16 rfl rfl rfl) (zvp (by decide))) ?_
  refine z_icmp_ge 14 73 rfl (by decide) ⟨fun c1 => ?_, fun c1 => ?_⟩
  · have B := B.1 c1
    refine z_iload 46 rfl rfl ?_
    refine z_aload_n 47 rfl rfl ?_
    refine z_iload_n 48 rfl rfl ?_
    refine z_iload_n 49 rfl rfl ?_
    obtain ⟨Q2, K4, B⟩ := B
    refine z_cVI2 (ν := mX10_coldsOf) 50 rfl rfl fX10_coldsOf gX10_389 ⟨_, rfl, rfl⟩ (by decide) (zcl1.o hS 132 9 rfl rfl rfl) (Nat.le_of_ble_eq_true rfl) K4 (fun v5 h3 q => ?_)
    obtain ⟨hSh3, B⟩ := B v5 h3 q
    refine z_iconst (v := -1) 51 rfl (by decide) ?_
    refine z_ixor 52 rfl ?_
    refine z_iand 53 rfl ?_
    exact z_iret 54 rfl rfl rfl ⟨rfl, rfl⟩ ⟨_, rfl, B⟩
  · have B := B.2 c1
    refine z_iload 15 rfl rfl ?_
    refine z_aload_n 16 rfl rfl ?_
    refine z_getR 17 rfl lX10_90 rfl (zcl1.o hS 132 9 rfl rfl rfl) (zcl1.r hS 132 41 158 rfl rfl rfl) ?_
    refine z_bipush (v := 36) 18 rfl (by decide) ?_
    refine z_iload_n 19 rfl rfl ?_
    refine z_imul 20 rfl ?_
    refine z_bipush (v := 6) 21 rfl (by decide) ?_
    refine z_aload_n 22 rfl rfl ?_
    refine z_getR 23 rfl lX10_93 rfl (zcl1.o hS 132 9 rfl rfl rfl) (zcl1.r hS 132 42 159 rfl rfl rfl) ?_
    refine z_iconst (v := 5) 24 rfl (by decide) ?_
    refine z_iload_n 25 rfl rfl ?_
    refine z_imul 26 rfl ?_
    refine z_iload_n 27 rfl rfl ?_
    refine z_iadd 28 rfl ?_
    obtain ⟨o6, B⟩ := B
    refine z_iald 29 rfl (zcl1.o hS 159 100 rfl rfl rfl) (zin (zcl1.l hS 159 115 rfl rfl rfl) o6) ?_
    refine z_imul 30 rfl ?_
    refine z_iadd 31 rfl ?_
    refine z_iload 32 rfl rfl ?_
    refine z_iadd 33 rfl ?_
    obtain ⟨o7, B⟩ := B
    refine z_iald 34 rfl (zcl1.o hS 158 100 rfl rfl rfl) (zin (zcl1.l hS 158 828 rfl rfl rfl) o7) ?_
    refine z_iload_n 35 rfl rfl ?_
    refine z_icmp_lt 36 63 rfl (by decide) ⟨fun c8 => ?_, fun c8 => ?_⟩
    · have B := B.1 c8
      refine z_iconst (v := 0) 41 rfl (by decide) ?_
      refine z_ior 42 rfl ?_
      refine z_istore 43 rfl (by decide) rfl ?_
      refine z_iinc (v := 1) 44 rfl rfl (by decide) (by decide) rfl ?_
      refine z_goto 45 13 rfl (by decide) ?_
      exact B
    · have B := B.2 c8
      refine z_iconst (v := 1) 37 rfl (by decide) ?_
      refine z_iload 38 rfl rfl ?_
      refine z_ishl 39 rfl ?_
      refine z_goto 40 64 rfl (by decide) ?_
      refine z_ior 42 rfl ?_
      refine z_istore 43 rfl (by decide) rfl ?_
      refine z_iinc (v := 1) 44 rfl rfl (by decide) (by decide) rfl ?_
      refine z_goto 45 13 rfl (by decide) ?_
      exact B
set_option maxRecDepth 100000 in
set_option maxHeartbeats 4000000 in
theorem sg_X10_thinks_0 {G : zG} {d : Nat} {h : zMem} {Q : Int32 → zMem → Prop} {x1 : Int32} {x2 : Int32} (hS : zSh2 h)  (B : vp_in (((5 : Int32) * x1) + x2) 115 ∧ ¬ (zI h 134 1) = 0 ∧ zg G mX10_thinks (d + 1) 26 [.ref 132, .int x1, .int x2, .int (zI h 134 1), .int (((zI h 162 (((5 : Int32) * x1) + x2).toNatClampNeg) + (1 : Int32)) - ((zI h 162 (((5 : Int32) * x1) + x2).toNatClampNeg) + (1 : Int32)) / (zI h 134 1) * (zI h 134 1)), .int (0 : Int32), zU] [] h (zPI Q)) : zg G mX10_thinks (d + 1) 0 [.ref 132, .int x1, .int x2, zU, zU, zU, zU] [] h (zPI Q) := by
  refine z_aload_n 0 rfl rfl ?_
  refine z_getR 1 rfl lX10_13 rfl (zcl1.o hS 132 9 rfl rfl rfl) (zcl1.r hS 132 3 134 rfl rfl rfl) ?_
  refine z_iconst (v := 1) 2 rfl (by decide) ?_
  refine z_iald_c 3 1 rfl (by decide) (zcl1.o hS 134 100 rfl rfl rfl) (zin (zcl1.l hS 134 16 rfl rfl rfl) (zvp (by decide))) ?_
  refine z_istore_n 4 rfl (by decide) rfl ?_
  refine z_aload_n 5 rfl rfl ?_
  refine z_getR 6 rfl lX10_102 rfl (zcl1.o hS 132 9 rfl rfl rfl) (zcl1.r hS 132 45 162 rfl rfl rfl) ?_
  refine z_iconst (v := 5) 7 rfl (by decide) ?_
  refine z_iload_n 8 rfl rfl ?_
  refine z_imul 9 rfl ?_
  refine z_iload_n 10 rfl rfl ?_
  refine z_iadd 11 rfl ?_
  obtain ⟨o1, B⟩ := B
  refine z_iald 12 rfl (zcl1.o hS 162 100 rfl rfl rfl) (zin (zcl1.l hS 162 115 rfl rfl rfl) o1) ?_
  refine z_iconst (v := 1) 13 rfl (by decide) ?_
  refine z_iadd 14 rfl ?_
  refine z_iload_n 15 rfl rfl ?_
  obtain ⟨o2, B⟩ := B
  refine z_irem 16 rfl o2 ?_
  refine z_istore 17 rfl (by decide) rfl ?_
  refine z_iconst (v := 0) 18 rfl (by decide) ?_
  refine z_istore 19 rfl (by decide) rfl ?_
  exact B
theorem cn_X10_thinks {G : zG} {d : Nat} {h : zMem} {Q : Int32 → zMem → Prop} {x1 : Int32} {x2 : Int32} (B : zg G mX10_thinks (d + 1) 0 [.ref 132, .int x1, .int x2, zU, zU, zU, zU] [] h (zPI Q)) : zConI G mX10_thinks (d + 1) [.ref 132, .int x1, .int x2] h Q := zcon0 (by decide +kernel) eX10_thinks (Nat.le_of_ble_eq_true rfl) rfl B
set_option maxRecDepth 100000 in
set_option maxHeartbeats 4000000 in
theorem sg_X10_thinks_26 {G : zG} {d : Nat} {h : zMem} {Q : Int32 → zMem → Prop} {x1 : Int32} {x2 : Int32} {x3 : Int32} {x4 : Int32} {x5 : Int32} (hS : zSh2 h)  (B : (x3 ≤ x5 → Q x4 h) ∧ (¬ x3 ≤ x5 → ¬ x3 = 0 ∧ ∃ Q3 : Int32 → zMem → Prop, zConI G mX10_markOf d [.ref 132, .int x1, .int x2, .int ((x4 + x5) - (x4 + x5) / x3 * x3)] h Q3 ∧ (∀ v6 h4, Q3 v6 h4 → zSh2 h4 ∧ vp_in (((5 : Int32) * x1) + x2) 115 ∧ (¬ v6 = (zI h4 161 (((5 : Int32) * x1) + x2).toNatClampNeg) → zg G mX10_thinks (d + 1) 26 [.ref 132, .int x1, .int x2, .int x3, .int x4, .int (x5 + 1), zU] [] h4 (zPI Q)) ∧ (v6 = (zI h4 161 (((5 : Int32) * x1) + x2).toNatClampNeg) → Q ((x4 + x5) - (x4 + x5) / x3 * x3) h4)))) : zg G mX10_thinks (d + 1) 26 [.ref 132, .int x1, .int x2, .int x3, .int x4, .int x5, zU] [] h (zPI Q) := by
  refine z_iload 20 rfl rfl ?_
  refine z_iload_n 21 rfl rfl ?_
  refine z_icmp_ge 22 71 rfl (by decide) ⟨fun c1 => ?_, fun c1 => ?_⟩
  · have B := B.1 c1
    refine z_iload 47 rfl rfl ?_
    exact z_iret 48 rfl rfl rfl ⟨rfl, rfl⟩ ⟨_, rfl, B⟩
  · have B := B.2 c1
    refine z_iload 23 rfl rfl ?_
    refine z_iload 24 rfl rfl ?_
    refine z_iadd 25 rfl ?_
    refine z_iload_n 26 rfl rfl ?_
    obtain ⟨o2, B⟩ := B
    refine z_irem 27 rfl o2 ?_
    refine z_istore 28 rfl (by decide) rfl ?_
    refine z_aload_n 29 rfl rfl ?_
    refine z_iload_n 30 rfl rfl ?_
    refine z_iload_n 31 rfl rfl ?_
    refine z_iload 32 rfl rfl ?_
    obtain ⟨Q3, K5, B⟩ := B
    refine z_cVI3 (ν := mX10_markOf) 33 rfl rfl fX10_markOf gX10_397 ⟨_, rfl, rfl⟩ (by decide) (zcl1.o hS 132 9 rfl rfl rfl) (Nat.le_of_ble_eq_true rfl) K5 (fun v6 h4 q => ?_)
    obtain ⟨hSh4, B⟩ := B v6 h4 q
    refine z_aload_n 34 rfl rfl ?_
    refine z_getR 35 rfl lX10_99 rfl (zcl1.o hSh4 132 9 rfl rfl rfl) (zcl1.r hSh4 132 44 161 rfl rfl rfl) ?_
    refine z_iconst (v := 5) 36 rfl (by decide) ?_
    refine z_iload_n 37 rfl rfl ?_
    refine z_imul 38 rfl ?_
    refine z_iload_n 39 rfl rfl ?_
    refine z_iadd 40 rfl ?_
    obtain ⟨o7, B⟩ := B
    refine z_iald 41 rfl (zcl1.o hSh4 161 100 rfl rfl rfl) (zin (zcl1.l hSh4 161 115 rfl rfl rfl) o7) ?_
    refine z_icmp_ne 42 65 rfl (by decide) ⟨fun c8 => ?_, fun c8 => ?_⟩
    · have B := B.1 c8
      refine z_iinc (v := 1) 45 rfl rfl (by decide) (by decide) rfl ?_
      refine z_goto 46 26 rfl (by decide) ?_
      refine z_drop 6 ?_
      exact B
    · have B := B.2 c8
      refine z_iload 43 rfl rfl ?_
      exact z_iret 44 rfl rfl rfl ⟨rfl, rfl⟩ ⟨_, rfl, B⟩
set_option maxRecDepth 100000 in
set_option maxHeartbeats 4000000 in
theorem sg_X10_keepsHouse_0 {G : zG} {d : Nat} {h : zMem} {Q : zMem → Prop} {x1 : Int32} (hS : zSh2 h)  (B : vp_in x1 23 ∧ ¬ (zI h 134 1) = 0 ∧ zg G mX10_keepsHouse d 19 [.ref 132, .int x1, .int ((zI h 151 x1.toNatClampNeg) - (zI h 151 x1.toNatClampNeg) / (zI h 134 1) * (zI h 134 1)), .int (0 : Int32), .int (0 : Int32), zU] [] h (zPV Q)) : zg G mX10_keepsHouse d 0 [.ref 132, .int x1, zU, zU, zU, zU] [] h (zPV Q) := by
  refine z_aload_n 0 rfl rfl ?_
  refine z_getR 1 rfl lX10_69 rfl (zcl1.o hS 132 9 rfl rfl rfl) (zcl1.r hS 132 34 151 rfl rfl rfl) ?_
  refine z_iload_n 2 rfl rfl ?_
  obtain ⟨o1, B⟩ := B
  refine z_iald 3 rfl (zcl1.o hS 151 100 rfl rfl rfl) (zin (zcl1.l hS 151 23 rfl rfl rfl) o1) ?_
  refine z_aload_n 4 rfl rfl ?_
  refine z_getR 5 rfl lX10_13 rfl (zcl1.o hS 132 9 rfl rfl rfl) (zcl1.r hS 132 3 134 rfl rfl rfl) ?_
  refine z_iconst (v := 1) 6 rfl (by decide) ?_
  refine z_iald_c 7 1 rfl (by decide) (zcl1.o hS 134 100 rfl rfl rfl) (zin (zcl1.l hS 134 16 rfl rfl rfl) (zvp (by decide))) ?_
  obtain ⟨o2, B⟩ := B
  refine z_irem 8 rfl o2 ?_
  refine z_istore_n 9 rfl (by decide) rfl ?_
  refine z_iconst (v := 0) 10 rfl (by decide) ?_
  refine z_istore_n 11 rfl (by decide) rfl ?_
  refine z_iconst (v := 0) 12 rfl (by decide) ?_
  refine z_istore 13 rfl (by decide) rfl ?_
  exact B
theorem cn_X10_keepsHouse {G : zG} {d : Nat} {h : zMem} {Q : zMem → Prop} {x1 : Int32} (B : zg G mX10_keepsHouse d 0 [.ref 132, .int x1, zU, zU, zU, zU] [] h (zPV Q)) : zConV G mX10_keepsHouse d [.ref 132, .int x1] h Q := zcon0 (by decide +kernel) eX10_keepsHouse (Nat.le_of_ble_eq_true rfl) rfl B
set_option maxRecDepth 100000 in
set_option maxHeartbeats 4000000 in
theorem sg_X10_keepsHouse_19 {G : zG} {d : Nat} {h : zMem} {Q : zMem → Prop} {x1 : Int32} {x2 : Int32} {x3 : Int32} {x4 : Int32} (hS : zSh2 h)  (B : ((8 : Int32) ≤ x4 → zg G mX10_keepsHouse d 43 [.ref 132, .int x1, .int x2, .int x3, .int (0 : Int32), zU] [] h (zPV Q)) ∧ (¬ (8 : Int32) ≤ x4 → vp_in x4 8 ∧ zg G mX10_keepsHouse d 19 [.ref 132, .int x1, .int x2, .int x3, .int (x4 + 1), zU] [] (zsI h 163 x4.toNatClampNeg (0 : Int32)) (zPV Q))) : zg G mX10_keepsHouse d 19 [.ref 132, .int x1, .int x2, .int x3, .int x4, zU] [] h (zPV Q) := by
  refine z_iload 14 rfl rfl ?_
  refine z_bipush (v := 8) 15 rfl (by decide) ?_
  refine z_icmp_ge 16 40 rfl (by decide) ⟨fun c1 => ?_, fun c1 => ?_⟩
  · have B := B.1 c1
    refine z_iconst (v := 0) 24 rfl (by decide) ?_
    refine z_istore 25 rfl (by decide) rfl ?_
    exact B
  · have B := B.2 c1
    refine z_aload_n 17 rfl rfl ?_
    refine z_getR 18 rfl lX10_120 rfl (zcl1.o hS 132 9 rfl rfl rfl) (zcl1.r hS 132 55 163 rfl rfl rfl) ?_
    refine z_iload 19 rfl rfl ?_
    refine z_iconst (v := 0) 20 rfl (by decide) ?_
    obtain ⟨o2, B⟩ := B
    refine z_iast 21 rfl (zcl1.o hS 163 100 rfl rfl rfl) (zin (zcl1.l hS 163 8 rfl rfl rfl) o2) ?_
    refine z_iinc (v := 1) 22 rfl rfl (by decide) (by decide) rfl ?_
    refine z_goto 23 19 rfl (by decide) ?_
    exact B
set_option maxRecDepth 100000 in
set_option maxHeartbeats 4000000 in
theorem sg_X10_keepsHouse_43 {G : zG} {d : Nat} {h : zMem} {Q : zMem → Prop} {x1 : Int32} {x2 : Int32} {x3 : Int32} {x4 : Int32} (hS : zSh2 h)  (B : ((zI h 134 4) ≤ x4 → zg G mX10_keepsHouse d 109 [.ref 132, .int x1, .int x2, .int x3, .int (0 : Int32), .int (1 : Int32)] [] h (zPV Q)) ∧ (¬ (zI h 134 4) ≤ x4 → (¬ (zI h 132 48) = (3 : Int32) → vp_in (((5 : Int32) * x1) + x4) 115 ∧ vp_in (zI h 162 (((5 : Int32) * x1) + x4).toNatClampNeg) 8 ∧ zg G mX10_keepsHouse d 43 [.ref 132, .int x1, .int x2, .int (x3 + 1), .int (x4 + 1), zU] [] (zsI h 163 (zI h 162 (((5 : Int32) * x1) + x4).toNatClampNeg).toNatClampNeg ((zI h 163 (zI h 162 (((5 : Int32) * x1) + x4).toNatClampNeg).toNatClampNeg) + (1 : Int32))) (zPV Q)) ∧ ((zI h 132 48) = (3 : Int32) → (¬ x4 = (zI h 132 49) → vp_in (((5 : Int32) * x1) + x4) 115 ∧ vp_in (zI h 162 (((5 : Int32) * x1) + x4).toNatClampNeg) 8 ∧ zg G mX10_keepsHouse d 43 [.ref 132, .int x1, .int x2, .int (x3 + 1), .int (x4 + 1), zU] [] (zsI h 163 (zI h 162 (((5 : Int32) * x1) + x4).toNatClampNeg).toNatClampNeg ((zI h 163 (zI h 162 (((5 : Int32) * x1) + x4).toNatClampNeg).toNatClampNeg) + (1 : Int32))) (zPV Q)) ∧ (x4 = (zI h 132 49) → zg G mX10_keepsHouse d 43 [.ref 132, .int x1, .int x2, .int x3, .int (x4 + 1), zU] [] h (zPV Q))))) : zg G mX10_keepsHouse d 43 [.ref 132, .int x1, .int x2, .int x3, .int x4, zU] [] h (zPV Q) := by
  refine z_iload 26 rfl rfl ?_
  refine z_aload_n 27 rfl rfl ?_
  refine z_getR 28 rfl lX10_13 rfl (zcl1.o hS 132 9 rfl rfl rfl) (zcl1.r hS 132 3 134 rfl rfl rfl) ?_
  refine z_iconst (v := 4) 29 rfl (by decide) ?_
  refine z_iald_c 30 4 rfl (by decide) (zcl1.o hS 134 100 rfl rfl rfl) (zin (zcl1.l hS 134 16 rfl rfl rfl) (zvp (by decide))) ?_
  refine z_icmp_ge 31 103 rfl (by decide) ⟨fun c1 => ?_, fun c1 => ?_⟩
  · have B := B.1 c1
    refine z_iconst (v := 0) 59 rfl (by decide) ?_
    refine z_istore 60 rfl (by decide) rfl ?_
    refine z_iconst (v := 1) 61 rfl (by decide) ?_
    refine z_istore 62 rfl (by decide) rfl ?_
    exact B
  · have B := B.2 c1
    refine z_aload_n 32 rfl rfl ?_
    refine z_getI 33 rfl lX10_349 rfl (zcl1.o hS 132 9 rfl rfl rfl) ?_
    refine z_iconst (v := 3) 34 rfl (by decide) ?_
    refine z_icmp_ne 35 74 rfl (by decide) ⟨fun c2 => ?_, fun c2 => ?_⟩
    · have B := B.1 c2
      refine z_aload_n 41 rfl rfl ?_
      refine z_getR 42 rfl lX10_120 rfl (zcl1.o hS 132 9 rfl rfl rfl) (zcl1.r hS 132 55 163 rfl rfl rfl) ?_
      refine z_aload_n 43 rfl rfl ?_
      refine z_getR 44 rfl lX10_102 rfl (zcl1.o hS 132 9 rfl rfl rfl) (zcl1.r hS 132 45 162 rfl rfl rfl) ?_
      refine z_iconst (v := 5) 45 rfl (by decide) ?_
      refine z_iload_n 46 rfl rfl ?_
      refine z_imul 47 rfl ?_
      refine z_iload 48 rfl rfl ?_
      refine z_iadd 49 rfl ?_
      obtain ⟨o3, B⟩ := B
      refine z_iald 50 rfl (zcl1.o hS 162 100 rfl rfl rfl) (zin (zcl1.l hS 162 115 rfl rfl rfl) o3) ?_
      refine z_dup2 51 rfl rfl rfl ?_
      obtain ⟨o4, B⟩ := B
      refine z_iald 52 rfl (zcl1.o hS 163 100 rfl rfl rfl) (zin (zcl1.l hS 163 8 rfl rfl rfl) o4) ?_
      refine z_iconst (v := 1) 53 rfl (by decide) ?_
      refine z_iadd 54 rfl ?_
      refine z_iast 55 rfl (zcl1.o hS 163 100 rfl rfl rfl) (zin (zcl1.l hS 163 8 rfl rfl rfl) o4) ?_
      refine z_iinc (v := 1) 56 rfl rfl (by decide) (by decide) rfl ?_
      refine z_iinc (v := 1) 57 rfl rfl (by decide) (by decide) rfl ?_
      refine z_goto 58 43 rfl (by decide) ?_
      exact B
    · have B := B.2 c2
      refine z_iload 36 rfl rfl ?_
      refine z_aload_n 37 rfl rfl ?_
      refine z_getI 38 rfl lX10_105 rfl (zcl1.o hS 132 9 rfl rfl rfl) ?_
      refine z_icmp_ne 39 74 rfl (by decide) ⟨fun c5 => ?_, fun c5 => ?_⟩
      · have B := B.1 c5
        refine z_aload_n 41 rfl rfl ?_
        refine z_getR 42 rfl lX10_120 rfl (zcl1.o hS 132 9 rfl rfl rfl) (zcl1.r hS 132 55 163 rfl rfl rfl) ?_
        refine z_aload_n 43 rfl rfl ?_
        refine z_getR 44 rfl lX10_102 rfl (zcl1.o hS 132 9 rfl rfl rfl) (zcl1.r hS 132 45 162 rfl rfl rfl) ?_
        refine z_iconst (v := 5) 45 rfl (by decide) ?_
        refine z_iload_n 46 rfl rfl ?_
        refine z_imul 47 rfl ?_
        refine z_iload 48 rfl rfl ?_
        refine z_iadd 49 rfl ?_
        obtain ⟨o6, B⟩ := B
        refine z_iald 50 rfl (zcl1.o hS 162 100 rfl rfl rfl) (zin (zcl1.l hS 162 115 rfl rfl rfl) o6) ?_
        refine z_dup2 51 rfl rfl rfl ?_
        obtain ⟨o7, B⟩ := B
        refine z_iald 52 rfl (zcl1.o hS 163 100 rfl rfl rfl) (zin (zcl1.l hS 163 8 rfl rfl rfl) o7) ?_
        refine z_iconst (v := 1) 53 rfl (by decide) ?_
        refine z_iadd 54 rfl ?_
        refine z_iast 55 rfl (zcl1.o hS 163 100 rfl rfl rfl) (zin (zcl1.l hS 163 8 rfl rfl rfl) o7) ?_
        refine z_iinc (v := 1) 56 rfl rfl (by decide) (by decide) rfl ?_
        refine z_iinc (v := 1) 57 rfl rfl (by decide) (by decide) rfl ?_
        refine z_goto 58 43 rfl (by decide) ?_
        exact B
      · have B := B.2 c5
        refine z_goto 40 97 rfl (by decide) ?_
        refine z_iinc (v := 1) 57 rfl rfl (by decide) (by decide) rfl ?_
        refine z_goto 58 43 rfl (by decide) ?_
        exact B
set_option maxRecDepth 100000 in
set_option maxHeartbeats 4000000 in
theorem sg_X10_keepsHouse_109 {G : zG} {d : Nat} {h : zMem} {Q : zMem → Prop} {x1 : Int32} {x2 : Int32} {x3 : Int32} {x4 : Int32} {x5 : Int32} (hS : zSh2 h)  (B : ((zI h 134 1) ≤ x5 → (¬ x3 = 0 → vp_in x1 23 ∧ (¬ (zI (zsI h 152 x1.toNatClampNeg x4) 152 x1.toNatClampNeg) = x2 → vp_in (zI (zsI (zsI h 152 x1.toNatClampNeg x4) 153 x1.toNatClampNeg ((zI (zsI h 152 x1.toNatClampNeg x4) 153 x1.toNatClampNeg) + (0 : Int32))) 152 x1.toNatClampNeg) 16 ∧ vp_in x2 16 ∧ ((zI (zsI (zsI h 152 x1.toNatClampNeg x4) 153 x1.toNatClampNeg ((zI (zsI h 152 x1.toNatClampNeg x4) 153 x1.toNatClampNeg) + (0 : Int32))) 138 (zI (zsI (zsI h 152 x1.toNatClampNeg x4) 153 x1.toNatClampNeg ((zI (zsI h 152 x1.toNatClampNeg x4) 153 x1.toNatClampNeg) + (0 : Int32))) 152 x1.toNatClampNeg).toNatClampNeg) = (zI (zsI (zsI h 152 x1.toNatClampNeg x4) 153 x1.toNatClampNeg ((zI (zsI h 152 x1.toNatClampNeg x4) 153 x1.toNatClampNeg) + (0 : Int32))) 138 x2.toNatClampNeg) → Q (zsI (zsI (zsI h 152 x1.toNatClampNeg x4) 153 x1.toNatClampNeg ((zI (zsI h 152 x1.toNatClampNeg x4) 153 x1.toNatClampNeg) + (0 : Int32))) 154 x1.toNatClampNeg ((zI (zsI (zsI h 152 x1.toNatClampNeg x4) 153 x1.toNatClampNeg ((zI (zsI h 152 x1.toNatClampNeg x4) 153 x1.toNatClampNeg) + (0 : Int32))) 154 x1.toNatClampNeg) + (0 : Int32)))) ∧ (¬ (zI (zsI (zsI h 152 x1.toNatClampNeg x4) 153 x1.toNatClampNeg ((zI (zsI h 152 x1.toNatClampNeg x4) 153 x1.toNatClampNeg) + (0 : Int32))) 138 (zI (zsI (zsI h 152 x1.toNatClampNeg x4) 153 x1.toNatClampNeg ((zI (zsI h 152 x1.toNatClampNeg x4) 153 x1.toNatClampNeg) + (0 : Int32))) 152 x1.toNatClampNeg).toNatClampNeg) = (zI (zsI (zsI h 152 x1.toNatClampNeg x4) 153 x1.toNatClampNeg ((zI (zsI h 152 x1.toNatClampNeg x4) 153 x1.toNatClampNeg) + (0 : Int32))) 138 x2.toNatClampNeg) → Q (zsI (zsI (zsI h 152 x1.toNatClampNeg x4) 153 x1.toNatClampNeg ((zI (zsI h 152 x1.toNatClampNeg x4) 153 x1.toNatClampNeg) + (0 : Int32))) 154 x1.toNatClampNeg ((zI (zsI (zsI h 152 x1.toNatClampNeg x4) 153 x1.toNatClampNeg ((zI (zsI h 152 x1.toNatClampNeg x4) 153 x1.toNatClampNeg) + (0 : Int32))) 154 x1.toNatClampNeg) + (1 : Int32))))) ∧ ((zI (zsI h 152 x1.toNatClampNeg x4) 152 x1.toNatClampNeg) = x2 → vp_in (zI (zsI (zsI h 152 x1.toNatClampNeg x4) 153 x1.toNatClampNeg ((zI (zsI h 152 x1.toNatClampNeg x4) 153 x1.toNatClampNeg) + (1 : Int32))) 152 x1.toNatClampNeg) 16 ∧ vp_in x2 16 ∧ ((zI (zsI (zsI h 152 x1.toNatClampNeg x4) 153 x1.toNatClampNeg ((zI (zsI h 152 x1.toNatClampNeg x4) 153 x1.toNatClampNeg) + (1 : Int32))) 138 (zI (zsI (zsI h 152 x1.toNatClampNeg x4) 153 x1.toNatClampNeg ((zI (zsI h 152 x1.toNatClampNeg x4) 153 x1.toNatClampNeg) + (1 : Int32))) 152 x1.toNatClampNeg).toNatClampNeg) = (zI (zsI (zsI h 152 x1.toNatClampNeg x4) 153 x1.toNatClampNeg ((zI (zsI h 152 x1.toNatClampNeg x4) 153 x1.toNatClampNeg) + (1 : Int32))) 138 x2.toNatClampNeg) → Q (zsI (zsI (zsI h 152 x1.toNatClampNeg x4) 153 x1.toNatClampNeg ((zI (zsI h 152 x1.toNatClampNeg x4) 153 x1.toNatClampNeg) + (1 : Int32))) 154 x1.toNatClampNeg ((zI (zsI (zsI h 152 x1.toNatClampNeg x4) 153 x1.toNatClampNeg ((zI (zsI h 152 x1.toNatClampNeg x4) 153 x1.toNatClampNeg) + (1 : Int32))) 154 x1.toNatClampNeg) + (0 : Int32)))) ∧ (¬ (zI (zsI (zsI h 152 x1.toNatClampNeg x4) 153 x1.toNatClampNeg ((zI (zsI h 152 x1.toNatClampNeg x4) 153 x1.toNatClampNeg) + (1 : Int32))) 138 (zI (zsI (zsI h 152 x1.toNatClampNeg x4) 153 x1.toNatClampNeg ((zI (zsI h 152 x1.toNatClampNeg x4) 153 x1.toNatClampNeg) + (1 : Int32))) 152 x1.toNatClampNeg).toNatClampNeg) = (zI (zsI (zsI h 152 x1.toNatClampNeg x4) 153 x1.toNatClampNeg ((zI (zsI h 152 x1.toNatClampNeg x4) 153 x1.toNatClampNeg) + (1 : Int32))) 138 x2.toNatClampNeg) → Q (zsI (zsI (zsI h 152 x1.toNatClampNeg x4) 153 x1.toNatClampNeg ((zI (zsI h 152 x1.toNatClampNeg x4) 153 x1.toNatClampNeg) + (1 : Int32))) 154 x1.toNatClampNeg ((zI (zsI (zsI h 152 x1.toNatClampNeg x4) 153 x1.toNatClampNeg ((zI (zsI h 152 x1.toNatClampNeg x4) 153 x1.toNatClampNeg) + (1 : Int32))) 154 x1.toNatClampNeg) + (1 : Int32)))))) ∧ (x3 = 0 → vp_in x1 23 ∧ (¬ (zI (zsI h 152 x1.toNatClampNeg x2) 152 x1.toNatClampNeg) = x2 → vp_in (zI (zsI (zsI h 152 x1.toNatClampNeg x2) 153 x1.toNatClampNeg ((zI (zsI h 152 x1.toNatClampNeg x2) 153 x1.toNatClampNeg) + (0 : Int32))) 152 x1.toNatClampNeg) 16 ∧ vp_in x2 16 ∧ ((zI (zsI (zsI h 152 x1.toNatClampNeg x2) 153 x1.toNatClampNeg ((zI (zsI h 152 x1.toNatClampNeg x2) 153 x1.toNatClampNeg) + (0 : Int32))) 138 (zI (zsI (zsI h 152 x1.toNatClampNeg x2) 153 x1.toNatClampNeg ((zI (zsI h 152 x1.toNatClampNeg x2) 153 x1.toNatClampNeg) + (0 : Int32))) 152 x1.toNatClampNeg).toNatClampNeg) = (zI (zsI (zsI h 152 x1.toNatClampNeg x2) 153 x1.toNatClampNeg ((zI (zsI h 152 x1.toNatClampNeg x2) 153 x1.toNatClampNeg) + (0 : Int32))) 138 x2.toNatClampNeg) → Q (zsI (zsI (zsI h 152 x1.toNatClampNeg x2) 153 x1.toNatClampNeg ((zI (zsI h 152 x1.toNatClampNeg x2) 153 x1.toNatClampNeg) + (0 : Int32))) 154 x1.toNatClampNeg ((zI (zsI (zsI h 152 x1.toNatClampNeg x2) 153 x1.toNatClampNeg ((zI (zsI h 152 x1.toNatClampNeg x2) 153 x1.toNatClampNeg) + (0 : Int32))) 154 x1.toNatClampNeg) + (0 : Int32)))) ∧ (¬ (zI (zsI (zsI h 152 x1.toNatClampNeg x2) 153 x1.toNatClampNeg ((zI (zsI h 152 x1.toNatClampNeg x2) 153 x1.toNatClampNeg) + (0 : Int32))) 138 (zI (zsI (zsI h 152 x1.toNatClampNeg x2) 153 x1.toNatClampNeg ((zI (zsI h 152 x1.toNatClampNeg x2) 153 x1.toNatClampNeg) + (0 : Int32))) 152 x1.toNatClampNeg).toNatClampNeg) = (zI (zsI (zsI h 152 x1.toNatClampNeg x2) 153 x1.toNatClampNeg ((zI (zsI h 152 x1.toNatClampNeg x2) 153 x1.toNatClampNeg) + (0 : Int32))) 138 x2.toNatClampNeg) → Q (zsI (zsI (zsI h 152 x1.toNatClampNeg x2) 153 x1.toNatClampNeg ((zI (zsI h 152 x1.toNatClampNeg x2) 153 x1.toNatClampNeg) + (0 : Int32))) 154 x1.toNatClampNeg ((zI (zsI (zsI h 152 x1.toNatClampNeg x2) 153 x1.toNatClampNeg ((zI (zsI h 152 x1.toNatClampNeg x2) 153 x1.toNatClampNeg) + (0 : Int32))) 154 x1.toNatClampNeg) + (1 : Int32))))) ∧ ((zI (zsI h 152 x1.toNatClampNeg x2) 152 x1.toNatClampNeg) = x2 → vp_in (zI (zsI (zsI h 152 x1.toNatClampNeg x2) 153 x1.toNatClampNeg ((zI (zsI h 152 x1.toNatClampNeg x2) 153 x1.toNatClampNeg) + (1 : Int32))) 152 x1.toNatClampNeg) 16 ∧ vp_in x2 16 ∧ ((zI (zsI (zsI h 152 x1.toNatClampNeg x2) 153 x1.toNatClampNeg ((zI (zsI h 152 x1.toNatClampNeg x2) 153 x1.toNatClampNeg) + (1 : Int32))) 138 (zI (zsI (zsI h 152 x1.toNatClampNeg x2) 153 x1.toNatClampNeg ((zI (zsI h 152 x1.toNatClampNeg x2) 153 x1.toNatClampNeg) + (1 : Int32))) 152 x1.toNatClampNeg).toNatClampNeg) = (zI (zsI (zsI h 152 x1.toNatClampNeg x2) 153 x1.toNatClampNeg ((zI (zsI h 152 x1.toNatClampNeg x2) 153 x1.toNatClampNeg) + (1 : Int32))) 138 x2.toNatClampNeg) → Q (zsI (zsI (zsI h 152 x1.toNatClampNeg x2) 153 x1.toNatClampNeg ((zI (zsI h 152 x1.toNatClampNeg x2) 153 x1.toNatClampNeg) + (1 : Int32))) 154 x1.toNatClampNeg ((zI (zsI (zsI h 152 x1.toNatClampNeg x2) 153 x1.toNatClampNeg ((zI (zsI h 152 x1.toNatClampNeg x2) 153 x1.toNatClampNeg) + (1 : Int32))) 154 x1.toNatClampNeg) + (0 : Int32)))) ∧ (¬ (zI (zsI (zsI h 152 x1.toNatClampNeg x2) 153 x1.toNatClampNeg ((zI (zsI h 152 x1.toNatClampNeg x2) 153 x1.toNatClampNeg) + (1 : Int32))) 138 (zI (zsI (zsI h 152 x1.toNatClampNeg x2) 153 x1.toNatClampNeg ((zI (zsI h 152 x1.toNatClampNeg x2) 153 x1.toNatClampNeg) + (1 : Int32))) 152 x1.toNatClampNeg).toNatClampNeg) = (zI (zsI (zsI h 152 x1.toNatClampNeg x2) 153 x1.toNatClampNeg ((zI (zsI h 152 x1.toNatClampNeg x2) 153 x1.toNatClampNeg) + (1 : Int32))) 138 x2.toNatClampNeg) → Q (zsI (zsI (zsI h 152 x1.toNatClampNeg x2) 153 x1.toNatClampNeg ((zI (zsI h 152 x1.toNatClampNeg x2) 153 x1.toNatClampNeg) + (1 : Int32))) 154 x1.toNatClampNeg ((zI (zsI (zsI h 152 x1.toNatClampNeg x2) 153 x1.toNatClampNeg ((zI (zsI h 152 x1.toNatClampNeg x2) 153 x1.toNatClampNeg) + (1 : Int32))) 154 x1.toNatClampNeg) + (1 : Int32))))))) ∧ (¬ (zI h 134 1) ≤ x5 → vp_in x5 8 ∧ vp_in x4 8 ∧ ((zI h 163 x5.toNatClampNeg) ≤ (zI h 163 x4.toNatClampNeg) → zg G mX10_keepsHouse d 109 [.ref 132, .int x1, .int x2, .int x3, .int x4, .int (x5 + 1)] [] h (zPV Q)) ∧ (¬ (zI h 163 x5.toNatClampNeg) ≤ (zI h 163 x4.toNatClampNeg) → zg G mX10_keepsHouse d 109 [.ref 132, .int x1, .int x2, .int x3, .int x5, .int (x5 + 1)] [] h (zPV Q)))) : zg G mX10_keepsHouse d 109 [.ref 132, .int x1, .int x2, .int x3, .int x4, .int x5] [] h (zPV Q) := by
  refine z_iload 63 rfl rfl ?_
  refine z_aload_n 64 rfl rfl ?_
  refine z_getR 65 rfl lX10_13 rfl (zcl1.o hS 132 9 rfl rfl rfl) (zcl1.r hS 132 3 134 rfl rfl rfl) ?_
  refine z_iconst (v := 1) 66 rfl (by decide) ?_
  refine z_iald_c 67 1 rfl (by decide) (zcl1.o hS 134 100 rfl rfl rfl) (zin (zcl1.l hS 134 16 rfl rfl rfl) (zvp (by decide))) ?_
  refine z_icmp_ge 68 147 rfl (by decide) ⟨fun c1 => ?_, fun c1 => ?_⟩
  · have B := B.1 c1
    refine z_aload_n 82 rfl rfl ?_
    refine z_getR 83 rfl lX10_72 rfl (zcl1.o hS 132 9 rfl rfl rfl) (zcl1.r hS 132 35 152 rfl rfl rfl) ?_
    refine z_iload_n 84 rfl rfl ?_
    refine z_iload_n 85 rfl rfl ?_
    refine z_if_ne 86 160 rfl (by decide) ⟨fun c2 => ?_, fun c2 => ?_⟩
    · have B := B.1 c2
      refine z_iload 89 rfl rfl ?_
      obtain ⟨o3, B⟩ := B
      refine z_iast 90 rfl (zcl1.o hS 152 100 rfl rfl rfl) (zin (zcl1.l hS 152 23 rfl rfl rfl) o3) ?_
      refine z_aload_n 91 rfl rfl ?_
      refine z_getR 92 rfl lX10_75 rfl (zcl1.o hS 132 9 rfl rfl rfl) (zcl1.r hS 132 36 153 rfl rfl rfl) ?_
      refine z_iload_n 93 rfl rfl ?_
      refine z_dup2 94 rfl rfl rfl ?_
      refine z_iald 95 rfl (zcl1.o hS 153 100 rfl rfl rfl) (zin (zcl1.l hS 153 23 rfl rfl rfl) o3) ?_
      refine z_aload_n 96 rfl rfl ?_
      refine z_getR 97 rfl lX10_72 rfl (zcl1.o hS 132 9 rfl rfl rfl) (zcl1.r hS 132 35 152 rfl rfl rfl) ?_
      refine z_iload_n 98 rfl rfl ?_
      refine z_iald 99 rfl (zcl1.o hS 152 100 rfl rfl rfl) (zin (zcl1.l hS 152 23 rfl rfl rfl) o3) ?_
      refine z_iload_n 100 rfl rfl ?_
      refine z_icmp_ne 101 184 rfl (by decide) ⟨fun c4 => ?_, fun c4 => ?_⟩
      · have B := B.1 c4
        refine z_iconst (v := 0) 104 rfl (by decide) ?_
        refine z_iadd 105 rfl ?_
        refine z_iast 106 rfl (zcl1.o hS 153 100 rfl rfl rfl) (zin (zcl1.l hS 153 23 rfl rfl rfl) o3) ?_
        refine z_aload_n 107 rfl rfl ?_
        refine z_getR 108 rfl lX10_78 rfl (zcl1.o hS 132 9 rfl rfl rfl) (zcl1.r hS 132 37 154 rfl rfl rfl) ?_
        refine z_iload_n 109 rfl rfl ?_
        refine z_dup2 110 rfl rfl rfl ?_
        refine z_iald 111 rfl (zcl1.o hS 154 100 rfl rfl rfl) (zin (zcl1.l hS 154 23 rfl rfl rfl) o3) ?_
        refine z_aload_n 112 rfl rfl ?_
        refine z_getR 113 rfl lX10_25 rfl (zcl1.o hS 132 9 rfl rfl rfl) (zcl1.r hS 132 7 138 rfl rfl rfl) ?_
        refine z_aload_n 114 rfl rfl ?_
        refine z_getR 115 rfl lX10_72 rfl (zcl1.o hS 132 9 rfl rfl rfl) (zcl1.r hS 132 35 152 rfl rfl rfl) ?_
        refine z_iload_n 116 rfl rfl ?_
        refine z_iald 117 rfl (zcl1.o hS 152 100 rfl rfl rfl) (zin (zcl1.l hS 152 23 rfl rfl rfl) o3) ?_
        obtain ⟨o5, B⟩ := B
        refine z_iald 118 rfl (zcl1.o hS 138 100 rfl rfl rfl) (zin (zcl1.l hS 138 16 rfl rfl rfl) o5) ?_
        refine z_aload_n 119 rfl rfl ?_
        refine z_getR 120 rfl lX10_25 rfl (zcl1.o hS 132 9 rfl rfl rfl) (zcl1.r hS 132 7 138 rfl rfl rfl) ?_
        refine z_iload_n 121 rfl rfl ?_
        obtain ⟨o6, B⟩ := B
        refine z_iald 122 rfl (zcl1.o hS 138 100 rfl rfl rfl) (zin (zcl1.l hS 138 16 rfl rfl rfl) o6) ?_
        refine z_icmp_eq 123 218 rfl (by decide) ⟨fun c7 => ?_, fun c7 => ?_⟩
        · have B := B.1 c7
          refine z_iconst (v := 0) 126 rfl (by decide) ?_
          refine z_iadd 127 rfl ?_
          refine z_iast 128 rfl (zcl1.o hS 154 100 rfl rfl rfl) (zin (zcl1.l hS 154 23 rfl rfl rfl) o3) ?_
          exact z_vret 129 rfl rfl ⟨rfl, rfl⟩ ⟨rfl, B⟩
        · have B := B.2 c7
          refine z_iconst (v := 1) 124 rfl (by decide) ?_
          refine z_goto 125 219 rfl (by decide) ?_
          refine z_iadd 127 rfl ?_
          refine z_iast 128 rfl (zcl1.o hS 154 100 rfl rfl rfl) (zin (zcl1.l hS 154 23 rfl rfl rfl) o3) ?_
          exact z_vret 129 rfl rfl ⟨rfl, rfl⟩ ⟨rfl, B⟩
      · have B := B.2 c4
        refine z_iconst (v := 1) 102 rfl (by decide) ?_
        refine z_goto 103 185 rfl (by decide) ?_
        refine z_iadd 105 rfl ?_
        refine z_iast 106 rfl (zcl1.o hS 153 100 rfl rfl rfl) (zin (zcl1.l hS 153 23 rfl rfl rfl) o3) ?_
        refine z_aload_n 107 rfl rfl ?_
        refine z_getR 108 rfl lX10_78 rfl (zcl1.o hS 132 9 rfl rfl rfl) (zcl1.r hS 132 37 154 rfl rfl rfl) ?_
        refine z_iload_n 109 rfl rfl ?_
        refine z_dup2 110 rfl rfl rfl ?_
        refine z_iald 111 rfl (zcl1.o hS 154 100 rfl rfl rfl) (zin (zcl1.l hS 154 23 rfl rfl rfl) o3) ?_
        refine z_aload_n 112 rfl rfl ?_
        refine z_getR 113 rfl lX10_25 rfl (zcl1.o hS 132 9 rfl rfl rfl) (zcl1.r hS 132 7 138 rfl rfl rfl) ?_
        refine z_aload_n 114 rfl rfl ?_
        refine z_getR 115 rfl lX10_72 rfl (zcl1.o hS 132 9 rfl rfl rfl) (zcl1.r hS 132 35 152 rfl rfl rfl) ?_
        refine z_iload_n 116 rfl rfl ?_
        refine z_iald 117 rfl (zcl1.o hS 152 100 rfl rfl rfl) (zin (zcl1.l hS 152 23 rfl rfl rfl) o3) ?_
        obtain ⟨o8, B⟩ := B
        refine z_iald 118 rfl (zcl1.o hS 138 100 rfl rfl rfl) (zin (zcl1.l hS 138 16 rfl rfl rfl) o8) ?_
        refine z_aload_n 119 rfl rfl ?_
        refine z_getR 120 rfl lX10_25 rfl (zcl1.o hS 132 9 rfl rfl rfl) (zcl1.r hS 132 7 138 rfl rfl rfl) ?_
        refine z_iload_n 121 rfl rfl ?_
        obtain ⟨o9, B⟩ := B
        refine z_iald 122 rfl (zcl1.o hS 138 100 rfl rfl rfl) (zin (zcl1.l hS 138 16 rfl rfl rfl) o9) ?_
        refine z_icmp_eq 123 218 rfl (by decide) ⟨fun c10 => ?_, fun c10 => ?_⟩
        · have B := B.1 c10
          refine z_iconst (v := 0) 126 rfl (by decide) ?_
          refine z_iadd 127 rfl ?_
          refine z_iast 128 rfl (zcl1.o hS 154 100 rfl rfl rfl) (zin (zcl1.l hS 154 23 rfl rfl rfl) o3) ?_
          exact z_vret 129 rfl rfl ⟨rfl, rfl⟩ ⟨rfl, B⟩
        · have B := B.2 c10
          refine z_iconst (v := 1) 124 rfl (by decide) ?_
          refine z_goto 125 219 rfl (by decide) ?_
          refine z_iadd 127 rfl ?_
          refine z_iast 128 rfl (zcl1.o hS 154 100 rfl rfl rfl) (zin (zcl1.l hS 154 23 rfl rfl rfl) o3) ?_
          exact z_vret 129 rfl rfl ⟨rfl, rfl⟩ ⟨rfl, B⟩
    · have B := B.2 c2
      refine z_iload_n 87 rfl rfl ?_
      refine z_goto 88 162 rfl (by decide) ?_
      obtain ⟨o11, B⟩ := B
      refine z_iast 90 rfl (zcl1.o hS 152 100 rfl rfl rfl) (zin (zcl1.l hS 152 23 rfl rfl rfl) o11) ?_
      refine z_aload_n 91 rfl rfl ?_
      refine z_getR 92 rfl lX10_75 rfl (zcl1.o hS 132 9 rfl rfl rfl) (zcl1.r hS 132 36 153 rfl rfl rfl) ?_
      refine z_iload_n 93 rfl rfl ?_
      refine z_dup2 94 rfl rfl rfl ?_
      refine z_iald 95 rfl (zcl1.o hS 153 100 rfl rfl rfl) (zin (zcl1.l hS 153 23 rfl rfl rfl) o11) ?_
      refine z_aload_n 96 rfl rfl ?_
      refine z_getR 97 rfl lX10_72 rfl (zcl1.o hS 132 9 rfl rfl rfl) (zcl1.r hS 132 35 152 rfl rfl rfl) ?_
      refine z_iload_n 98 rfl rfl ?_
      refine z_iald 99 rfl (zcl1.o hS 152 100 rfl rfl rfl) (zin (zcl1.l hS 152 23 rfl rfl rfl) o11) ?_
      refine z_iload_n 100 rfl rfl ?_
      refine z_icmp_ne 101 184 rfl (by decide) ⟨fun c12 => ?_, fun c12 => ?_⟩
      · have B := B.1 c12
        refine z_iconst (v := 0) 104 rfl (by decide) ?_
        refine z_iadd 105 rfl ?_
        refine z_iast 106 rfl (zcl1.o hS 153 100 rfl rfl rfl) (zin (zcl1.l hS 153 23 rfl rfl rfl) o11) ?_
        refine z_aload_n 107 rfl rfl ?_
        refine z_getR 108 rfl lX10_78 rfl (zcl1.o hS 132 9 rfl rfl rfl) (zcl1.r hS 132 37 154 rfl rfl rfl) ?_
        refine z_iload_n 109 rfl rfl ?_
        refine z_dup2 110 rfl rfl rfl ?_
        refine z_iald 111 rfl (zcl1.o hS 154 100 rfl rfl rfl) (zin (zcl1.l hS 154 23 rfl rfl rfl) o11) ?_
        refine z_aload_n 112 rfl rfl ?_
        refine z_getR 113 rfl lX10_25 rfl (zcl1.o hS 132 9 rfl rfl rfl) (zcl1.r hS 132 7 138 rfl rfl rfl) ?_
        refine z_aload_n 114 rfl rfl ?_
        refine z_getR 115 rfl lX10_72 rfl (zcl1.o hS 132 9 rfl rfl rfl) (zcl1.r hS 132 35 152 rfl rfl rfl) ?_
        refine z_iload_n 116 rfl rfl ?_
        refine z_iald 117 rfl (zcl1.o hS 152 100 rfl rfl rfl) (zin (zcl1.l hS 152 23 rfl rfl rfl) o11) ?_
        obtain ⟨o13, B⟩ := B
        refine z_iald 118 rfl (zcl1.o hS 138 100 rfl rfl rfl) (zin (zcl1.l hS 138 16 rfl rfl rfl) o13) ?_
        refine z_aload_n 119 rfl rfl ?_
        refine z_getR 120 rfl lX10_25 rfl (zcl1.o hS 132 9 rfl rfl rfl) (zcl1.r hS 132 7 138 rfl rfl rfl) ?_
        refine z_iload_n 121 rfl rfl ?_
        obtain ⟨o14, B⟩ := B
        refine z_iald 122 rfl (zcl1.o hS 138 100 rfl rfl rfl) (zin (zcl1.l hS 138 16 rfl rfl rfl) o14) ?_
        refine z_icmp_eq 123 218 rfl (by decide) ⟨fun c15 => ?_, fun c15 => ?_⟩
        · have B := B.1 c15
          refine z_iconst (v := 0) 126 rfl (by decide) ?_
          refine z_iadd 127 rfl ?_
          refine z_iast 128 rfl (zcl1.o hS 154 100 rfl rfl rfl) (zin (zcl1.l hS 154 23 rfl rfl rfl) o11) ?_
          exact z_vret 129 rfl rfl ⟨rfl, rfl⟩ ⟨rfl, B⟩
        · have B := B.2 c15
          refine z_iconst (v := 1) 124 rfl (by decide) ?_
          refine z_goto 125 219 rfl (by decide) ?_
          refine z_iadd 127 rfl ?_
          refine z_iast 128 rfl (zcl1.o hS 154 100 rfl rfl rfl) (zin (zcl1.l hS 154 23 rfl rfl rfl) o11) ?_
          exact z_vret 129 rfl rfl ⟨rfl, rfl⟩ ⟨rfl, B⟩
      · have B := B.2 c12
        refine z_iconst (v := 1) 102 rfl (by decide) ?_
        refine z_goto 103 185 rfl (by decide) ?_
        refine z_iadd 105 rfl ?_
        refine z_iast 106 rfl (zcl1.o hS 153 100 rfl rfl rfl) (zin (zcl1.l hS 153 23 rfl rfl rfl) o11) ?_
        refine z_aload_n 107 rfl rfl ?_
        refine z_getR 108 rfl lX10_78 rfl (zcl1.o hS 132 9 rfl rfl rfl) (zcl1.r hS 132 37 154 rfl rfl rfl) ?_
        refine z_iload_n 109 rfl rfl ?_
        refine z_dup2 110 rfl rfl rfl ?_
        refine z_iald 111 rfl (zcl1.o hS 154 100 rfl rfl rfl) (zin (zcl1.l hS 154 23 rfl rfl rfl) o11) ?_
        refine z_aload_n 112 rfl rfl ?_
        refine z_getR 113 rfl lX10_25 rfl (zcl1.o hS 132 9 rfl rfl rfl) (zcl1.r hS 132 7 138 rfl rfl rfl) ?_
        refine z_aload_n 114 rfl rfl ?_
        refine z_getR 115 rfl lX10_72 rfl (zcl1.o hS 132 9 rfl rfl rfl) (zcl1.r hS 132 35 152 rfl rfl rfl) ?_
        refine z_iload_n 116 rfl rfl ?_
        refine z_iald 117 rfl (zcl1.o hS 152 100 rfl rfl rfl) (zin (zcl1.l hS 152 23 rfl rfl rfl) o11) ?_
        obtain ⟨o16, B⟩ := B
        refine z_iald 118 rfl (zcl1.o hS 138 100 rfl rfl rfl) (zin (zcl1.l hS 138 16 rfl rfl rfl) o16) ?_
        refine z_aload_n 119 rfl rfl ?_
        refine z_getR 120 rfl lX10_25 rfl (zcl1.o hS 132 9 rfl rfl rfl) (zcl1.r hS 132 7 138 rfl rfl rfl) ?_
        refine z_iload_n 121 rfl rfl ?_
        obtain ⟨o17, B⟩ := B
        refine z_iald 122 rfl (zcl1.o hS 138 100 rfl rfl rfl) (zin (zcl1.l hS 138 16 rfl rfl rfl) o17) ?_
        refine z_icmp_eq 123 218 rfl (by decide) ⟨fun c18 => ?_, fun c18 => ?_⟩
        · have B := B.1 c18
          refine z_iconst (v := 0) 126 rfl (by decide) ?_
          refine z_iadd 127 rfl ?_
          refine z_iast 128 rfl (zcl1.o hS 154 100 rfl rfl rfl) (zin (zcl1.l hS 154 23 rfl rfl rfl) o11) ?_
          exact z_vret 129 rfl rfl ⟨rfl, rfl⟩ ⟨rfl, B⟩
        · have B := B.2 c18
          refine z_iconst (v := 1) 124 rfl (by decide) ?_
          refine z_goto 125 219 rfl (by decide) ?_
          refine z_iadd 127 rfl ?_
          refine z_iast 128 rfl (zcl1.o hS 154 100 rfl rfl rfl) (zin (zcl1.l hS 154 23 rfl rfl rfl) o11) ?_
          exact z_vret 129 rfl rfl ⟨rfl, rfl⟩ ⟨rfl, B⟩
  · have B := B.2 c1
    refine z_aload_n 69 rfl rfl ?_
    refine z_getR 70 rfl lX10_120 rfl (zcl1.o hS 132 9 rfl rfl rfl) (zcl1.r hS 132 55 163 rfl rfl rfl) ?_
    refine z_iload 71 rfl rfl ?_
    obtain ⟨o19, B⟩ := B
    refine z_iald 72 rfl (zcl1.o hS 163 100 rfl rfl rfl) (zin (zcl1.l hS 163 8 rfl rfl rfl) o19) ?_
    refine z_aload_n 73 rfl rfl ?_
    refine z_getR 74 rfl lX10_120 rfl (zcl1.o hS 132 9 rfl rfl rfl) (zcl1.r hS 132 55 163 rfl rfl rfl) ?_
    refine z_iload 75 rfl rfl ?_
    obtain ⟨o20, B⟩ := B
    refine z_iald 76 rfl (zcl1.o hS 163 100 rfl rfl rfl) (zin (zcl1.l hS 163 8 rfl rfl rfl) o20) ?_
    refine z_icmp_le 77 141 rfl (by decide) ⟨fun c21 => ?_, fun c21 => ?_⟩
    · have B := B.1 c21
      refine z_iinc (v := 1) 80 rfl rfl (by decide) (by decide) rfl ?_
      refine z_goto 81 109 rfl (by decide) ?_
      exact B
    · have B := B.2 c21
      refine z_iload 78 rfl rfl ?_
      refine z_istore 79 rfl (by decide) rfl ?_
      refine z_iinc (v := 1) 80 rfl rfl (by decide) (by decide) rfl ?_
      refine z_goto 81 109 rfl (by decide) ?_
      exact B
set_option maxRecDepth 100000 in
set_option maxHeartbeats 4000000 in
theorem sg_X10_passes_0 {G : zG} {d : Nat} {h : zMem} {Q : zMem → Prop} {x1 : Int32} (hS : zSh2 h)  (B : ∃ Q1 : zMem → Prop, zConV G mX10_mixes d [.ref 132, .int x1] h Q1 ∧ (∀ h2, Q1 h2 → zSh2 h2 ∧ ∃ Q4 : zMem → Prop, zConV G mX10_drifts d [.ref 132, .int x1] h2 Q4 ∧ (∀ h5, Q4 h5 → zSh2 h5 ∧ zg G mX10_passes (d + 1) 12 [.ref 132, .int x1, .int (0 : Int32)] [] h5 (zPV Q)))) : zg G mX10_passes (d + 1) 0 [.ref 132, .int x1, zU] [] h (zPV Q) := by
  refine z_aload_n 0 rfl rfl ?_
  refine z_iload_n 1 rfl rfl ?_
  obtain ⟨Q1, K3, B⟩ := B
  refine z_cVV1 (ν := mX10_mixes) 2 rfl rfl fX10_mixes gX10_400 ⟨_, rfl, rfl⟩ (by decide) (zcl1.o hS 132 9 rfl rfl rfl) (Nat.le_of_ble_eq_true rfl) K3 (fun h2 q => ?_)
  obtain ⟨hSh2, B⟩ := B h2 q
  refine z_aload_n 3 rfl rfl ?_
  refine z_iload_n 4 rfl rfl ?_
  obtain ⟨Q4, K6, B⟩ := B
  refine z_cVV1 (ν := mX10_drifts) 5 rfl rfl fX10_drifts gX10_403 ⟨_, rfl, rfl⟩ (by decide) (zcl1.o hSh2 132 9 rfl rfl rfl) (Nat.le_of_ble_eq_true rfl) K6 (fun h5 q => ?_)
  obtain ⟨hSh5, B⟩ := B h5 q
  refine z_iconst (v := 0) 6 rfl (by decide) ?_
  refine z_istore_n 7 rfl (by decide) rfl ?_
  exact B
theorem cn_X10_passes {G : zG} {d : Nat} {h : zMem} {Q : zMem → Prop} {x1 : Int32} (B : zg G mX10_passes (d + 1) 0 [.ref 132, .int x1, zU] [] h (zPV Q)) : zConV G mX10_passes (d + 1) [.ref 132, .int x1] h Q := zcon0 (by decide +kernel) eX10_passes (Nat.le_of_ble_eq_true rfl) rfl B
set_option maxRecDepth 100000 in
set_option maxHeartbeats 4000000 in
theorem sg_X10_passes_12 {G : zG} {d : Nat} {h : zMem} {Q : zMem → Prop} {x1 : Int32} {x2 : Int32} (hS : zSh2 h)  (B : ((zI h 134 4) ≤ x2 → ((zI h 134 1) ≤ 0 → vp_in x1 23 ∧ Q (zsI h 151 x1.toNatClampNeg ((zI h 151 x1.toNatClampNeg) + (1 : Int32)))) ∧ (¬ (zI h 134 1) ≤ 0 → ∃ Q4 : zMem → Prop, zConV G mX10_keepsHouse d [.ref 132, .int x1] h Q4 ∧ (∀ h5, Q4 h5 → zSh2 h5 ∧ vp_in x1 23 ∧ Q (zsI h5 151 x1.toNatClampNeg ((zI h5 151 x1.toNatClampNeg) + (1 : Int32)))))) ∧ (¬ (zI h 134 4) ≤ x2 → ∃ Q8 : Int32 → zMem → Prop, zConI G mX10_smells d [.ref 132, .int x1, .int x2] h Q8 ∧ (∀ v11 h9, Q8 v11 h9 → zSh2 h9 ∧ vp_in (((5 : Int32) * x1) + x2) 115 ∧ ((zI (zsI h9 161 (((5 : Int32) * x1) + x2).toNatClampNeg v11) 134 1) ≤ 0 → zg G mX10_passes (d + 1) 12 [.ref 132, .int x1, .int (x2 + 1)] [] (zsI h9 161 (((5 : Int32) * x1) + x2).toNatClampNeg v11) (zPV Q)) ∧ (¬ (zI (zsI h9 161 (((5 : Int32) * x1) + x2).toNatClampNeg v11) 134 1) ≤ 0 → ∃ Q14 : Int32 → zMem → Prop, zConI G mX10_thinks d [.ref 132, .int x1, .int x2] (zsI h9 161 (((5 : Int32) * x1) + x2).toNatClampNeg v11) Q14 ∧ (∀ v17 h15, Q14 v17 h15 → zSh2 h15 ∧ zg G mX10_passes (d + 1) 12 [.ref 132, .int x1, .int (x2 + 1)] [] (zsI h15 162 (((5 : Int32) * x1) + x2).toNatClampNeg v17) (zPV Q)))))) : zg G mX10_passes (d + 1) 12 [.ref 132, .int x1, .int x2] [] h (zPV Q) := by
  refine z_iload_n 8 rfl rfl ?_
  refine z_aload_n 9 rfl rfl ?_
  refine z_getR 10 rfl lX10_13 rfl (zcl1.o hS 132 9 rfl rfl rfl) (zcl1.r hS 132 3 134 rfl rfl rfl) ?_
  refine z_iconst (v := 4) 11 rfl (by decide) ?_
  refine z_iald_c 12 4 rfl (by decide) (zcl1.o hS 134 100 rfl rfl rfl) (zin (zcl1.l hS 134 16 rfl rfl rfl) (zvp (by decide))) ?_
  refine z_icmp_ge 13 69 rfl (by decide) ⟨fun c1 => ?_, fun c1 => ?_⟩
  · have B := B.1 c1
    refine z_aload_n 45 rfl rfl ?_
    refine z_getR 46 rfl lX10_13 rfl (zcl1.o hS 132 9 rfl rfl rfl) (zcl1.r hS 132 3 134 rfl rfl rfl) ?_
    refine z_iconst (v := 1) 47 rfl (by decide) ?_
    refine z_iald_c 48 1 rfl (by decide) (zcl1.o hS 134 100 rfl rfl rfl) (zin (zcl1.l hS 134 16 rfl rfl rfl) (zvp (by decide))) ?_
    refine z_if_le 49 83 rfl (by decide) ⟨fun c2 => ?_, fun c2 => ?_⟩
    · have B := B.1 c2
      refine z_aload_n 53 rfl rfl ?_
      refine z_getR 54 rfl lX10_69 rfl (zcl1.o hS 132 9 rfl rfl rfl) (zcl1.r hS 132 34 151 rfl rfl rfl) ?_
      refine z_iload_n 55 rfl rfl ?_
      refine z_dup2 56 rfl rfl rfl ?_
      obtain ⟨o3, B⟩ := B
      refine z_iald 57 rfl (zcl1.o hS 151 100 rfl rfl rfl) (zin (zcl1.l hS 151 23 rfl rfl rfl) o3) ?_
      refine z_iconst (v := 1) 58 rfl (by decide) ?_
      refine z_iadd 59 rfl ?_
      refine z_iast 60 rfl (zcl1.o hS 151 100 rfl rfl rfl) (zin (zcl1.l hS 151 23 rfl rfl rfl) o3) ?_
      exact z_vret 61 rfl rfl ⟨rfl, rfl⟩ ⟨rfl, B⟩
    · have B := B.2 c2
      refine z_aload_n 50 rfl rfl ?_
      refine z_iload_n 51 rfl rfl ?_
      obtain ⟨Q4, K6, B⟩ := B
      refine z_cVV1 (ν := mX10_keepsHouse) 52 rfl rfl fX10_keepsHouse gX10_412 ⟨_, rfl, rfl⟩ (by decide) (zcl1.o hS 132 9 rfl rfl rfl) (Nat.le_of_ble_eq_true rfl) K6 (fun h5 q => ?_)
      obtain ⟨hSh5, B⟩ := B h5 q
      refine z_aload_n 53 rfl rfl ?_
      refine z_getR 54 rfl lX10_69 rfl (zcl1.o hSh5 132 9 rfl rfl rfl) (zcl1.r hSh5 132 34 151 rfl rfl rfl) ?_
      refine z_iload_n 55 rfl rfl ?_
      refine z_dup2 56 rfl rfl rfl ?_
      obtain ⟨o7, B⟩ := B
      refine z_iald 57 rfl (zcl1.o hSh5 151 100 rfl rfl rfl) (zin (zcl1.l hSh5 151 23 rfl rfl rfl) o7) ?_
      refine z_iconst (v := 1) 58 rfl (by decide) ?_
      refine z_iadd 59 rfl ?_
      refine z_iast 60 rfl (zcl1.o hSh5 151 100 rfl rfl rfl) (zin (zcl1.l hSh5 151 23 rfl rfl rfl) o7) ?_
      exact z_vret 61 rfl rfl ⟨rfl, rfl⟩ ⟨rfl, B⟩
  · have B := B.2 c1
    refine z_aload_n 14 rfl rfl ?_
    refine z_getR 15 rfl lX10_99 rfl (zcl1.o hS 132 9 rfl rfl rfl) (zcl1.r hS 132 44 161 rfl rfl rfl) ?_
    refine z_iconst (v := 5) 16 rfl (by decide) ?_
    refine z_iload_n 17 rfl rfl ?_
    refine z_imul 18 rfl ?_
    refine z_iload_n 19 rfl rfl ?_
    refine z_iadd 20 rfl ?_
    refine z_aload_n 21 rfl rfl ?_
    refine z_iload_n 22 rfl rfl ?_
    refine z_iload_n 23 rfl rfl ?_
    obtain ⟨Q8, K10, B⟩ := B
    refine z_cVI2 (ν := mX10_smells) 24 rfl rfl fX10_smells gX10_406 ⟨_, rfl, rfl⟩ (by decide) (zcl1.o hS 132 9 rfl rfl rfl) (Nat.le_of_ble_eq_true rfl) K10 (fun v11 h9 q => ?_)
    obtain ⟨hSh9, B⟩ := B v11 h9 q
    obtain ⟨o12, B⟩ := B
    refine z_iast 25 rfl (zcl1.o hSh9 161 100 rfl rfl rfl) (zin (zcl1.l hSh9 161 115 rfl rfl rfl) o12) ?_
    refine z_aload_n 26 rfl rfl ?_
    refine z_getR 27 rfl lX10_13 rfl (zcl1.o hSh9 132 9 rfl rfl rfl) (zcl1.r hSh9 132 3 134 rfl rfl rfl) ?_
    refine z_iconst (v := 1) 28 rfl (by decide) ?_
    refine z_iald_c 29 1 rfl (by decide) (zcl1.o hSh9 134 100 rfl rfl rfl) (zin (zcl1.l hSh9 134 16 rfl rfl rfl) (zvp (by decide))) ?_
    refine z_if_le 30 63 rfl (by decide) ⟨fun c13 => ?_, fun c13 => ?_⟩
    · have B := B.1 c13
      refine z_iinc (v := 1) 43 rfl rfl (by decide) (by decide) rfl ?_
      refine z_goto 44 12 rfl (by decide) ?_
      exact B
    · have B := B.2 c13
      refine z_aload_n 31 rfl rfl ?_
      refine z_getR 32 rfl lX10_102 rfl (zcl1.o hSh9 132 9 rfl rfl rfl) (zcl1.r hSh9 132 45 162 rfl rfl rfl) ?_
      refine z_iconst (v := 5) 33 rfl (by decide) ?_
      refine z_iload_n 34 rfl rfl ?_
      refine z_imul 35 rfl ?_
      refine z_iload_n 36 rfl rfl ?_
      refine z_iadd 37 rfl ?_
      refine z_aload_n 38 rfl rfl ?_
      refine z_iload_n 39 rfl rfl ?_
      refine z_iload_n 40 rfl rfl ?_
      obtain ⟨Q14, K16, B⟩ := B
      refine z_cVI2 (ν := mX10_thinks) 41 rfl rfl fX10_thinks gX10_409 ⟨_, rfl, rfl⟩ (by decide) (zcl1.o hSh9 132 9 rfl rfl rfl) (Nat.le_of_ble_eq_true rfl) K16 (fun v17 h15 q => ?_)
      obtain ⟨hSh15, B⟩ := B v17 h15 q
      refine z_iast 42 rfl (zcl1.o hSh15 162 100 rfl rfl rfl) (zin (zcl1.l hSh15 162 115 rfl rfl rfl) o12) ?_
      refine z_iinc (v := 1) 43 rfl rfl (by decide) (by decide) rfl ?_
      refine z_goto 44 12 rfl (by decide) ?_
      exact B
theorem zsw_X10_monk_40 {x : Int32} (z1 : ¬ x.toInt < 0) (z2 : ¬ 3 < x.toInt) (c0 : ¬ x = 0) (c1 : ¬ x = 1) (c2 : ¬ x = 2) (c3 : ¬ x = 3) : (#[32, 39, 46, 53] : Array Int)[(x.toInt - 0).toNat]? = some 60 := by
  obtain ⟨v, hv⟩ : ∃ v : Int, v = x.toInt := ⟨_, rfl⟩
  have c0 : v ≠ 0 := fun e => c0 (Int32.toInt_inj.mp (by rw [← hv, e]; decide))
  have c1 : v ≠ 1 := fun e => c1 (Int32.toInt_inj.mp (by rw [← hv, e]; decide))
  have c2 : v ≠ 2 := fun e => c2 (Int32.toInt_inj.mp (by rw [← hv, e]; decide))
  have c3 : v ≠ 3 := fun e => c3 (Int32.toInt_inj.mp (by rw [← hv, e]; decide))
  rw [← hv] at z1 z2 ⊢
  rcases (show v = 0 ∨ v = 1 ∨ v = 2 ∨ v = 3 by omega) with rfl | rfl | rfl | rfl
  all_goals first | exact absurd rfl (by assumption) | decide
set_option maxRecDepth 100000 in
set_option maxHeartbeats 4000000 in
theorem sg_X10_monk_0 {G : zG} {d : Nat} {h : zMem} {Q : Int32 → zMem → Prop} {x1 : Int32} {x2 : Int32} (hS : zSh2 h)  (B : ∃ Q1 : Int32 → zMem → Prop, zConI G mX10_isMonk d [.ref 132, .int x1] h Q1 ∧ (∀ v4 h2, Q1 v4 h2 → zSh2 h2 ∧ (¬ v4 = 0 → (x2 < 0 → zg G mX10_monk (d + 1) 27 [.ref 132, .int x1, .int x2] [.int (2 : Int32), .ref 132] h2 (zPI Q)) ∧ (¬ x2 < 0 → (x2 ≤ (4 : Int32) → zg G mX10_monk (d + 1) 27 [.ref 132, .int x1, .int x2] [.int (0 : Int32), .ref 132] h2 (zPI Q)) ∧ (¬ x2 ≤ (4 : Int32) → zg G mX10_monk (d + 1) 27 [.ref 132, .int x1, .int x2] [.int (2 : Int32), .ref 132] h2 (zPI Q)))) ∧ (v4 = 0 → zg G mX10_monk (d + 1) 27 [.ref 132, .int x1, .int x2] [.int (1 : Int32), .ref 132] h2 (zPI Q)))) : zg G mX10_monk (d + 1) 0 [.ref 132, .int x1, .int x2] [] h (zPI Q) := by
  refine z_aload_n 0 rfl rfl ?_
  refine z_aload_n 1 rfl rfl ?_
  refine z_iload_n 2 rfl rfl ?_
  obtain ⟨Q1, K3, B⟩ := B
  refine z_cVI1 (ν := mX10_isMonk) 3 rfl rfl fX10_isMonk gX10_415 ⟨_, rfl, rfl⟩ (by decide) (zcl1.o hS 132 9 rfl rfl rfl) (Nat.le_of_ble_eq_true rfl) K3 (fun v4 h2 q => ?_)
  obtain ⟨hSh2, B⟩ := B v4 h2 q
  refine z_if_ne 4 13 rfl (by decide) ⟨fun c5 => ?_, fun c5 => ?_⟩
  · have B := B.1 c5
    refine z_iload_n 7 rfl rfl ?_
    refine z_if_lt 8 22 rfl (by decide) ⟨fun c6 => ?_, fun c6 => ?_⟩
    · have B := B.1 c6
      refine z_iconst (v := 2) 12 rfl (by decide) ?_
      refine z_goto 13 27 rfl (by decide) ?_
      exact B
    · have B := B.2 c6
      refine z_iload_n 9 rfl rfl ?_
      refine z_iconst (v := 4) 10 rfl (by decide) ?_
      refine z_icmp_le 11 26 rfl (by decide) ⟨fun c7 => ?_, fun c7 => ?_⟩
      · have B := B.1 c7
        refine z_iconst (v := 0) 14 rfl (by decide) ?_
        exact B
      · have B := B.2 c7
        refine z_iconst (v := 2) 12 rfl (by decide) ?_
        refine z_goto 13 27 rfl (by decide) ?_
        exact B
  · have B := B.2 c5
    refine z_iconst (v := 1) 5 rfl (by decide) ?_
    refine z_goto 6 27 rfl (by decide) ?_
    exact B
theorem cn_X10_monk {G : zG} {d : Nat} {h : zMem} {Q : Int32 → zMem → Prop} {x1 : Int32} {x2 : Int32} (B : zg G mX10_monk (d + 1) 0 [.ref 132, .int x1, .int x2] [] h (zPI Q)) : zConI G mX10_monk (d + 1) [.ref 132, .int x1, .int x2] h Q := zcon0 (by decide +kernel) eX10_monk (Nat.le_of_ble_eq_true rfl) rfl B
set_option maxRecDepth 100000 in
set_option maxHeartbeats 4000000 in
theorem sg_X10_monk_27 {G : zG} {d : Nat} {h : zMem} {Q : Int32 → zMem → Prop} {x1 : Int32} {x2 : Int32} {xs0 : Int32} {as1 : Nat} (hS : zSh2 h)  (B : zO h as1 9 ∧ ((zI (zsI h as1 0 xs0) 132 0) = 0 → (x2 = 0 → vp_in x1 115 ∧ Q (zI (zsI h as1 0 xs0) 159 x1.toNatClampNeg) (zsI h as1 0 xs0)) ∧ (x2 = 1 → vp_in x1 10 ∧ Q (zI (zsI h as1 0 xs0) 144 x1.toNatClampNeg) (zsI h as1 0 xs0)) ∧ (x2 = 2 → vp_in x1 115 ∧ Q (zI (zsI h as1 0 xs0) 160 x1.toNatClampNeg) (zsI h as1 0 xs0)) ∧ (x2 = 3 → vp_in x1 115 ∧ Q (zI (zsI h as1 0 xs0) 161 x1.toNatClampNeg) (zsI h as1 0 xs0)) ∧ (¬ x2 = 0 → ¬ x2 = 1 → ¬ x2 = 2 → ¬ x2 = 3 → vp_in x1 115 ∧ Q (zI (zsI h as1 0 xs0) 162 x1.toNatClampNeg) (zsI h as1 0 xs0))) ∧ (¬ (zI (zsI h as1 0 xs0) 132 0) = 0 → Q (0 : Int32) (zsI h as1 0 xs0))) : zg G mX10_monk (d + 1) 27 [.ref 132, .int x1, .int x2] [.int xs0, .ref as1] h (zPI Q) := by
  obtain ⟨o1, B⟩ := B
  refine z_putI 15 rfl lX10_160 ⟨_, _, _, rfl, rfl⟩ rfl rfl rfl o1 ?_
  refine z_aload_n 16 rfl rfl ?_
  refine z_getI 17 rfl lX10_160 rfl (zcl1.o hS 132 9 rfl rfl rfl) ?_
  refine z_if_eq 18 39 rfl (by decide) ⟨fun c2 => ?_, fun c2 => ?_⟩
  · have B := B.1 c2
    refine z_iload_n 21 rfl rfl ?_
    by_cases c8_0 : x2 = 0
    · obtain ⟨B, -⟩ := B
      refine z_tableIn 22 72 rfl 0 (by rw [c8_0]; decide) (by decide) (by decide) rfl (by decide) ?_
      have B := B c8_0
      refine z_aload_n 23 rfl rfl ?_
      refine z_getR 24 rfl lX10_93 rfl (zcl1.o hS 132 9 rfl rfl rfl) (zcl1.r hS 132 42 159 rfl rfl rfl) ?_
      refine z_iload_n 25 rfl rfl ?_
      obtain ⟨o3, B⟩ := B
      refine z_iald 26 rfl (zcl1.o hS 159 100 rfl rfl rfl) (zin (zcl1.l hS 159 115 rfl rfl rfl) o3) ?_
      exact z_iret 27 rfl rfl rfl ⟨rfl, rfl⟩ ⟨_, rfl, B⟩
    obtain ⟨-, B⟩ := B
    by_cases c8_1 : x2 = 1
    · obtain ⟨B, -⟩ := B
      refine z_tableIn 22 79 rfl 1 (by rw [c8_1]; decide) (by decide) (by decide) rfl (by decide) ?_
      have B := B c8_1
      refine z_aload_n 28 rfl rfl ?_
      refine z_getR 29 rfl lX10_43 rfl (zcl1.o hS 132 9 rfl rfl rfl) (zcl1.r hS 132 13 144 rfl rfl rfl) ?_
      refine z_iload_n 30 rfl rfl ?_
      obtain ⟨o4, B⟩ := B
      refine z_iald 31 rfl (zcl1.o hS 144 100 rfl rfl rfl) (zin (zcl1.l hS 144 10 rfl rfl rfl) o4) ?_
      exact z_iret 32 rfl rfl rfl ⟨rfl, rfl⟩ ⟨_, rfl, B⟩
    obtain ⟨-, B⟩ := B
    by_cases c8_2 : x2 = 2
    · obtain ⟨B, -⟩ := B
      refine z_tableIn 22 86 rfl 2 (by rw [c8_2]; decide) (by decide) (by decide) rfl (by decide) ?_
      have B := B c8_2
      refine z_aload_n 33 rfl rfl ?_
      refine z_getR 34 rfl lX10_96 rfl (zcl1.o hS 132 9 rfl rfl rfl) (zcl1.r hS 132 43 160 rfl rfl rfl) ?_
      refine z_iload_n 35 rfl rfl ?_
      obtain ⟨o5, B⟩ := B
      refine z_iald 36 rfl (zcl1.o hS 160 100 rfl rfl rfl) (zin (zcl1.l hS 160 115 rfl rfl rfl) o5) ?_
      exact z_iret 37 rfl rfl rfl ⟨rfl, rfl⟩ ⟨_, rfl, B⟩
    obtain ⟨-, B⟩ := B
    by_cases c8_3 : x2 = 3
    · obtain ⟨B, -⟩ := B
      refine z_tableIn 22 93 rfl 3 (by rw [c8_3]; decide) (by decide) (by decide) rfl (by decide) ?_
      have B := B c8_3
      refine z_aload_n 38 rfl rfl ?_
      refine z_getR 39 rfl lX10_99 rfl (zcl1.o hS 132 9 rfl rfl rfl) (zcl1.r hS 132 44 161 rfl rfl rfl) ?_
      refine z_iload_n 40 rfl rfl ?_
      obtain ⟨o6, B⟩ := B
      refine z_iald 41 rfl (zcl1.o hS 161 100 rfl rfl rfl) (zin (zcl1.l hS 161 115 rfl rfl rfl) o6) ?_
      exact z_iret 42 rfl rfl rfl ⟨rfl, rfl⟩ ⟨_, rfl, B⟩
    obtain ⟨-, B⟩ := B
    have B := B c8_0 c8_1 c8_2 c8_3
    refine z_tableD 22 100 rfl (by decide) (by
      intro z1 z2
      refine zsw_X10_monk_40 z1 z2 c8_0 c8_1 c8_2 c8_3) ?_
    refine z_aload_n 43 rfl rfl ?_
    refine z_getR 44 rfl lX10_102 rfl (zcl1.o hS 132 9 rfl rfl rfl) (zcl1.r hS 132 45 162 rfl rfl rfl) ?_
    refine z_iload_n 45 rfl rfl ?_
    obtain ⟨o7, B⟩ := B
    refine z_iald 46 rfl (zcl1.o hS 162 100 rfl rfl rfl) (zin (zcl1.l hS 162 115 rfl rfl rfl) o7) ?_
    exact z_iret 47 rfl rfl rfl ⟨rfl, rfl⟩ ⟨_, rfl, B⟩
  · have B := B.2 c2
    refine z_iconst (v := 0) 19 rfl (by decide) ?_
    exact z_iret 20 rfl rfl rfl ⟨rfl, rfl⟩ ⟨_, rfl, B⟩
set_option maxRecDepth 100000 in
set_option maxHeartbeats 4000000 in
theorem sg_X10_stuff_0 {G : zG} {d : Nat} {h : zMem} {Q : Int32 → zMem → Prop} {x1 : Int32} {x2 : Int32} (hS : zSh2 h)  (B : ∃ Q1 : Int32 → zMem → Prop, zConI G mX10_isStuff d [.ref 132, .int x1] (zsI h 132 0 (0 : Int32)) Q1 ∧ (∀ v4 h2, Q1 v4 h2 → zSh2 h2 ∧ (¬ v4 = 0 → (¬ x2 = 0 → (¬ x2 = (1 : Int32) → (¬ x2 = (2 : Int32) → Q (-1 : Int32) h2) ∧ (x2 = (2 : Int32) → vp_in x1 138 ∧ Q (zI h2 157 x1.toNatClampNeg) h2)) ∧ (x2 = (1 : Int32) → ∃ Q10 : Int32 → zMem → Prop, zConI G mX10_worthOf d [.ref 132, .int (0 : Int32), .int x1] h2 Q10 ∧ (∀ v13 h11, Q10 v13 h11 → zSh2 h11 ∧ Q v13 h11))) ∧ (x2 = 0 → vp_in x1 138 ∧ Q (zI h2 156 x1.toNatClampNeg) h2)) ∧ (v4 = 0 → Q (-1 : Int32) h2))) : zg G mX10_stuff (d + 1) 0 [.ref 132, .int x1, .int x2] [] h (zPI Q) := by
  refine z_aload_n 0 rfl rfl ?_
  refine z_iconst (v := 0) 1 rfl (by decide) ?_
  refine z_putI 2 rfl lX10_160 ⟨_, _, _, rfl, rfl⟩ rfl rfl rfl (zcl1.o hS 132 9 rfl rfl rfl) ?_
  refine z_aload_n 3 rfl rfl ?_
  refine z_iload_n 4 rfl rfl ?_
  obtain ⟨Q1, K3, B⟩ := B
  refine z_cVI1 (ν := mX10_isStuff) 5 rfl rfl fX10_isStuff gX10_418 ⟨_, rfl, rfl⟩ (by decide) (zcl1.o hS 132 9 rfl rfl rfl) (Nat.le_of_ble_eq_true rfl) K3 (fun v4 h2 q => ?_)
  obtain ⟨hSh2, B⟩ := B v4 h2 q
  refine z_if_ne 6 15 rfl (by decide) ⟨fun c5 => ?_, fun c5 => ?_⟩
  · have B := B.1 c5
    refine z_iload_n 9 rfl rfl ?_
    refine z_if_ne 10 28 rfl (by decide) ⟨fun c6 => ?_, fun c6 => ?_⟩
    · have B := B.1 c6
      refine z_iload_n 16 rfl rfl ?_
      refine z_iconst (v := 1) 17 rfl (by decide) ?_
      refine z_icmp_ne 18 42 rfl (by decide) ⟨fun c7 => ?_, fun c7 => ?_⟩
      · have B := B.1 c7
        refine z_iload_n 24 rfl rfl ?_
        refine z_iconst (v := 2) 25 rfl (by decide) ?_
        refine z_icmp_ne 26 56 rfl (by decide) ⟨fun c8 => ?_, fun c8 => ?_⟩
        · have B := B.1 c8
          refine z_iconst (v := -1) 32 rfl (by decide) ?_
          exact z_iret 33 rfl rfl rfl ⟨rfl, rfl⟩ ⟨_, rfl, B⟩
        · have B := B.2 c8
          refine z_aload_n 27 rfl rfl ?_
          refine z_getR 28 rfl lX10_87 rfl (zcl1.o hSh2 132 9 rfl rfl rfl) (zcl1.r hSh2 132 40 157 rfl rfl rfl) ?_
          refine z_iload_n 29 rfl rfl ?_
          obtain ⟨o9, B⟩ := B
          refine z_iald 30 rfl (zcl1.o hSh2 157 100 rfl rfl rfl) (zin (zcl1.l hSh2 157 138 rfl rfl rfl) o9) ?_
          refine z_goto 31 57 rfl (by decide) ?_
          exact z_iret 33 rfl rfl rfl ⟨rfl, rfl⟩ ⟨_, rfl, B⟩
      · have B := B.2 c7
        refine z_aload_n 19 rfl rfl ?_
        refine z_iconst (v := 0) 20 rfl (by decide) ?_
        refine z_iload_n 21 rfl rfl ?_
        obtain ⟨Q10, K12, B⟩ := B
        refine z_cVI2 (ν := mX10_worthOf) 22 rfl rfl fX10_worthOf gX10_421 ⟨_, rfl, rfl⟩ (by decide) (zcl1.o hSh2 132 9 rfl rfl rfl) (Nat.le_of_ble_eq_true rfl) K12 (fun v13 h11 q => ?_)
        obtain ⟨hSh11, B⟩ := B v13 h11 q
        refine z_goto 23 57 rfl (by decide) ?_
        exact z_iret 33 rfl rfl rfl ⟨rfl, rfl⟩ ⟨_, rfl, B⟩
    · have B := B.2 c6
      refine z_aload_n 11 rfl rfl ?_
      refine z_getR 12 rfl lX10_84 rfl (zcl1.o hSh2 132 9 rfl rfl rfl) (zcl1.r hSh2 132 39 156 rfl rfl rfl) ?_
      refine z_iload_n 13 rfl rfl ?_
      obtain ⟨o14, B⟩ := B
      refine z_iald 14 rfl (zcl1.o hSh2 156 100 rfl rfl rfl) (zin (zcl1.l hSh2 156 138 rfl rfl rfl) o14) ?_
      refine z_goto 15 57 rfl (by decide) ?_
      exact z_iret 33 rfl rfl rfl ⟨rfl, rfl⟩ ⟨_, rfl, B⟩
  · have B := B.2 c5
    refine z_iconst (v := -1) 7 rfl (by decide) ?_
    exact z_iret 8 rfl rfl rfl ⟨rfl, rfl⟩ ⟨_, rfl, B⟩
theorem cn_X10_stuff {G : zG} {d : Nat} {h : zMem} {Q : Int32 → zMem → Prop} {x1 : Int32} {x2 : Int32} (B : zg G mX10_stuff (d + 1) 0 [.ref 132, .int x1, .int x2] [] h (zPI Q)) : zConI G mX10_stuff (d + 1) [.ref 132, .int x1, .int x2] h Q := zcon0 (by decide +kernel) eX10_stuff (Nat.le_of_ble_eq_true rfl) rfl B
set_option maxRecDepth 100000 in
set_option maxHeartbeats 4000000 in
theorem sg_X10_mix_0 {G : zG} {d : Nat} {h : zMem} {Q : Int32 → zMem → Prop} {x1 : Int32} {x2 : Int32} (hS : zSh2 h)  (B : ∃ Q1 : Int32 → zMem → Prop, zConI G mX10_isDay d [.ref 132, .int x1] (zsI h 132 0 (0 : Int32)) Q1 ∧ (∀ v4 h2, Q1 v4 h2 → zSh2 h2 ∧ (v4 = 0 → Q (-1 : Int32) h2) ∧ (¬ v4 = 0 → ∃ Q6 : Int32 → zMem → Prop, zConI G mX10_isStuff d [.ref 132, .int x2] h2 Q6 ∧ (∀ v9 h7, Q6 v9 h7 → zSh2 h7 ∧ (v9 = 0 → Q (-1 : Int32) h7) ∧ (¬ v9 = 0 → vp_in (((6 : Int32) * x1) + x2) 96 ∧ Q (zI h7 139 (((6 : Int32) * x1) + x2).toNatClampNeg) h7))))) : zg G mX10_mix (d + 1) 0 [.ref 132, .int x1, .int x2] [] h (zPI Q) := by
  refine z_aload_n 0 rfl rfl ?_
  refine z_iconst (v := 0) 1 rfl (by decide) ?_
  refine z_putI 2 rfl lX10_160 ⟨_, _, _, rfl, rfl⟩ rfl rfl rfl (zcl1.o hS 132 9 rfl rfl rfl) ?_
  refine z_aload_n 3 rfl rfl ?_
  refine z_iload_n 4 rfl rfl ?_
  obtain ⟨Q1, K3, B⟩ := B
  refine z_cVI1 (ν := mX10_isDay) 5 rfl rfl fX10_isDay gX10_424 ⟨_, rfl, rfl⟩ (by decide) (zcl1.o hS 132 9 rfl rfl rfl) (Nat.le_of_ble_eq_true rfl) K3 (fun v4 h2 q => ?_)
  obtain ⟨hSh2, B⟩ := B v4 h2 q
  refine z_if_eq 6 35 rfl (by decide) ⟨fun c5 => ?_, fun c5 => ?_⟩
  · have B := B.1 c5
    refine z_iconst (v := -1) 20 rfl (by decide) ?_
    exact z_iret 21 rfl rfl rfl ⟨rfl, rfl⟩ ⟨_, rfl, B⟩
  · have B := B.2 c5
    refine z_aload_n 7 rfl rfl ?_
    refine z_iload_n 8 rfl rfl ?_
    obtain ⟨Q6, K8, B⟩ := B
    refine z_cVI1 (ν := mX10_isStuff) 9 rfl rfl fX10_isStuff gX10_418 ⟨_, rfl, rfl⟩ (by decide) (zcl1.o hSh2 132 9 rfl rfl rfl) (Nat.le_of_ble_eq_true rfl) K8 (fun v9 h7 q => ?_)
    obtain ⟨hSh7, B⟩ := B v9 h7 q
    refine z_if_eq 10 35 rfl (by decide) ⟨fun c10 => ?_, fun c10 => ?_⟩
    · have B := B.1 c10
      refine z_iconst (v := -1) 20 rfl (by decide) ?_
      exact z_iret 21 rfl rfl rfl ⟨rfl, rfl⟩ ⟨_, rfl, B⟩
    · have B := B.2 c10
      refine z_aload_n 11 rfl rfl ?_
      refine z_getR 12 rfl lX10_28 rfl (zcl1.o hSh7 132 9 rfl rfl rfl) (zcl1.r hSh7 132 8 139 rfl rfl rfl) ?_
      refine z_bipush (v := 6) 13 rfl (by decide) ?_
      refine z_iload_n 14 rfl rfl ?_
      refine z_imul 15 rfl ?_
      refine z_iload_n 16 rfl rfl ?_
      refine z_iadd 17 rfl ?_
      obtain ⟨o11, B⟩ := B
      refine z_iald 18 rfl (zcl1.o hSh7 139 100 rfl rfl rfl) (zin (zcl1.l hSh7 139 96 rfl rfl rfl) o11) ?_
      refine z_goto 19 36 rfl (by decide) ?_
      exact z_iret 21 rfl rfl rfl ⟨rfl, rfl⟩ ⟨_, rfl, B⟩
theorem cn_X10_mix {G : zG} {d : Nat} {h : zMem} {Q : Int32 → zMem → Prop} {x1 : Int32} {x2 : Int32} (B : zg G mX10_mix (d + 1) 0 [.ref 132, .int x1, .int x2] [] h (zPI Q)) : zConI G mX10_mix (d + 1) [.ref 132, .int x1, .int x2] h Q := zcon0 (by decide +kernel) eX10_mix (Nat.le_of_ble_eq_true rfl) rfl B
set_option maxRecDepth 100000 in
set_option maxHeartbeats 4000000 in
theorem sg_X10_feast_0 {G : zG} {d : Nat} {h : zMem} {Q : Int32 → zMem → Prop} {x1 : Int32} (hS : zSh2 h)  (B : ∃ Q1 : Int32 → zMem → Prop, zConI G mX10_isDay d [.ref 132, .int x1] (zsI h 132 0 (0 : Int32)) Q1 ∧ (∀ v4 h2, Q1 v4 h2 → zSh2 h2 ∧ (v4 = 0 → Q (-1 : Int32) h2) ∧ (¬ v4 = 0 → vp_in x1 16 ∧ Q (zI h2 138 x1.toNatClampNeg) h2))) : zg G mX10_feast (d + 1) 0 [.ref 132, .int x1] [] h (zPI Q) := by
  refine z_aload_n 0 rfl rfl ?_
  refine z_iconst (v := 0) 1 rfl (by decide) ?_
  refine z_putI 2 rfl lX10_160 ⟨_, _, _, rfl, rfl⟩ rfl rfl rfl (zcl1.o hS 132 9 rfl rfl rfl) ?_
  refine z_aload_n 3 rfl rfl ?_
  refine z_iload_n 4 rfl rfl ?_
  obtain ⟨Q1, K3, B⟩ := B
  refine z_cVI1 (ν := mX10_isDay) 5 rfl rfl fX10_isDay gX10_424 ⟨_, rfl, rfl⟩ (by decide) (zcl1.o hS 132 9 rfl rfl rfl) (Nat.le_of_ble_eq_true rfl) K3 (fun v4 h2 q => ?_)
  obtain ⟨hSh2, B⟩ := B v4 h2 q
  refine z_if_eq 6 22 rfl (by decide) ⟨fun c5 => ?_, fun c5 => ?_⟩
  · have B := B.1 c5
    refine z_iconst (v := -1) 12 rfl (by decide) ?_
    exact z_iret 13 rfl rfl rfl ⟨rfl, rfl⟩ ⟨_, rfl, B⟩
  · have B := B.2 c5
    refine z_aload_n 7 rfl rfl ?_
    refine z_getR 8 rfl lX10_25 rfl (zcl1.o hSh2 132 9 rfl rfl rfl) (zcl1.r hSh2 132 7 138 rfl rfl rfl) ?_
    refine z_iload_n 9 rfl rfl ?_
    obtain ⟨o6, B⟩ := B
    refine z_iald 10 rfl (zcl1.o hSh2 138 100 rfl rfl rfl) (zin (zcl1.l hSh2 138 16 rfl rfl rfl) o6) ?_
    refine z_goto 11 23 rfl (by decide) ?_
    exact z_iret 13 rfl rfl rfl ⟨rfl, rfl⟩ ⟨_, rfl, B⟩
theorem cn_X10_feast {G : zG} {d : Nat} {h : zMem} {Q : Int32 → zMem → Prop} {x1 : Int32} (B : zg G mX10_feast (d + 1) 0 [.ref 132, .int x1] [] h (zPI Q)) : zConI G mX10_feast (d + 1) [.ref 132, .int x1] h Q := zcon0 (by decide +kernel) eX10_feast (Nat.le_of_ble_eq_true rfl) rfl B
set_option maxRecDepth 100000 in
set_option maxHeartbeats 4000000 in
theorem sg_X10_air_0 {G : zG} {d : Nat} {h : zMem} {Q : Int32 → zMem → Prop} {x1 : Int32} {x2 : Int32} (hS : zSh2 h)  (B : ∃ Q1 : Int32 → zMem → Prop, zConI G mX10_isRoom d [.ref 132, .int x1] (zsI h 132 0 (0 : Int32)) Q1 ∧ (∀ v4 h2, Q1 v4 h2 → zSh2 h2 ∧ (v4 = 0 → Q (-1 : Int32) h2) ∧ (¬ v4 = 0 → ∃ Q6 : Int32 → zMem → Prop, zConI G mX10_isStuff d [.ref 132, .int x2] h2 Q6 ∧ (∀ v9 h7, Q6 v9 h7 → zSh2 h7 ∧ (v9 = 0 → Q (-1 : Int32) h7) ∧ (¬ v9 = 0 → vp_in (((6 : Int32) * x1) + x2) 828 ∧ Q (zI h7 158 (((6 : Int32) * x1) + x2).toNatClampNeg) h7))))) : zg G mX10_air (d + 1) 0 [.ref 132, .int x1, .int x2] [] h (zPI Q) := by
  refine z_aload_n 0 rfl rfl ?_
  refine z_iconst (v := 0) 1 rfl (by decide) ?_
  refine z_putI 2 rfl lX10_160 ⟨_, _, _, rfl, rfl⟩ rfl rfl rfl (zcl1.o hS 132 9 rfl rfl rfl) ?_
  refine z_aload_n 3 rfl rfl ?_
  refine z_iload_n 4 rfl rfl ?_
  obtain ⟨Q1, K3, B⟩ := B
  refine z_cVI1 (ν := mX10_isRoom) 5 rfl rfl fX10_isRoom gX10_427 ⟨_, rfl, rfl⟩ (by decide) (zcl1.o hS 132 9 rfl rfl rfl) (Nat.le_of_ble_eq_true rfl) K3 (fun v4 h2 q => ?_)
  obtain ⟨hSh2, B⟩ := B v4 h2 q
  refine z_if_eq 6 35 rfl (by decide) ⟨fun c5 => ?_, fun c5 => ?_⟩
  · have B := B.1 c5
    refine z_iconst (v := -1) 20 rfl (by decide) ?_
    exact z_iret 21 rfl rfl rfl ⟨rfl, rfl⟩ ⟨_, rfl, B⟩
  · have B := B.2 c5
    refine z_aload_n 7 rfl rfl ?_
    refine z_iload_n 8 rfl rfl ?_
    obtain ⟨Q6, K8, B⟩ := B
    refine z_cVI1 (ν := mX10_isStuff) 9 rfl rfl fX10_isStuff gX10_418 ⟨_, rfl, rfl⟩ (by decide) (zcl1.o hSh2 132 9 rfl rfl rfl) (Nat.le_of_ble_eq_true rfl) K8 (fun v9 h7 q => ?_)
    obtain ⟨hSh7, B⟩ := B v9 h7 q
    refine z_if_eq 10 35 rfl (by decide) ⟨fun c10 => ?_, fun c10 => ?_⟩
    · have B := B.1 c10
      refine z_iconst (v := -1) 20 rfl (by decide) ?_
      exact z_iret 21 rfl rfl rfl ⟨rfl, rfl⟩ ⟨_, rfl, B⟩
    · have B := B.2 c10
      refine z_aload_n 11 rfl rfl ?_
      refine z_getR 12 rfl lX10_90 rfl (zcl1.o hSh7 132 9 rfl rfl rfl) (zcl1.r hSh7 132 41 158 rfl rfl rfl) ?_
      refine z_bipush (v := 6) 13 rfl (by decide) ?_
      refine z_iload_n 14 rfl rfl ?_
      refine z_imul 15 rfl ?_
      refine z_iload_n 16 rfl rfl ?_
      refine z_iadd 17 rfl ?_
      obtain ⟨o11, B⟩ := B
      refine z_iald 18 rfl (zcl1.o hSh7 158 100 rfl rfl rfl) (zin (zcl1.l hSh7 158 828 rfl rfl rfl) o11) ?_
      refine z_goto 19 36 rfl (by decide) ?_
      exact z_iret 21 rfl rfl rfl ⟨rfl, rfl⟩ ⟨_, rfl, B⟩
theorem cn_X10_air {G : zG} {d : Nat} {h : zMem} {Q : Int32 → zMem → Prop} {x1 : Int32} {x2 : Int32} (B : zg G mX10_air (d + 1) 0 [.ref 132, .int x1, .int x2] [] h (zPI Q)) : zConI G mX10_air (d + 1) [.ref 132, .int x1, .int x2] h Q := zcon0 (by decide +kernel) eX10_air (Nat.le_of_ble_eq_true rfl) rfl B
set_option maxRecDepth 100000 in
set_option maxHeartbeats 4000000 in
theorem sg_X10_mark_0 {G : zG} {d : Nat} {h : zMem} {Q : Int32 → zMem → Prop} {x1 : Int32} {x2 : Int32} (hS : zSh2 h)  (B : ∃ Q1 : Int32 → zMem → Prop, zConI G mX10_isMonk d [.ref 132, .int x1] (zsI h 132 0 (0 : Int32)) Q1 ∧ (∀ v4 h2, Q1 v4 h2 → zSh2 h2 ∧ (v4 = 0 → Q (-1 : Int32) h2) ∧ (¬ v4 = 0 → ∃ Q6 : Int32 → zMem → Prop, zConI G mX10_isDay d [.ref 132, .int x2] h2 Q6 ∧ (∀ v9 h7, Q6 v9 h7 → zSh2 h7 ∧ (v9 = 0 → Q (-1 : Int32) h7) ∧ (¬ v9 = 0 → ∃ Q11 : Int32 → zMem → Prop, zConI G mX10_markOf d [.ref 132, .int (0 : Int32), .int x1, .int x2] h7 Q11 ∧ (∀ v14 h12, Q11 v14 h12 → zSh2 h12 ∧ Q v14 h12)))))) : zg G mX10_mark (d + 1) 0 [.ref 132, .int x1, .int x2] [] h (zPI Q) := by
  refine z_aload_n 0 rfl rfl ?_
  refine z_iconst (v := 0) 1 rfl (by decide) ?_
  refine z_putI 2 rfl lX10_160 ⟨_, _, _, rfl, rfl⟩ rfl rfl rfl (zcl1.o hS 132 9 rfl rfl rfl) ?_
  refine z_aload_n 3 rfl rfl ?_
  refine z_iload_n 4 rfl rfl ?_
  obtain ⟨Q1, K3, B⟩ := B
  refine z_cVI1 (ν := mX10_isMonk) 5 rfl rfl fX10_isMonk gX10_415 ⟨_, rfl, rfl⟩ (by decide) (zcl1.o hS 132 9 rfl rfl rfl) (Nat.le_of_ble_eq_true rfl) K3 (fun v4 h2 q => ?_)
  obtain ⟨hSh2, B⟩ := B v4 h2 q
  refine z_if_eq 6 31 rfl (by decide) ⟨fun c5 => ?_, fun c5 => ?_⟩
  · have B := B.1 c5
    refine z_iconst (v := -1) 17 rfl (by decide) ?_
    exact z_iret 18 rfl rfl rfl ⟨rfl, rfl⟩ ⟨_, rfl, B⟩
  · have B := B.2 c5
    refine z_aload_n 7 rfl rfl ?_
    refine z_iload_n 8 rfl rfl ?_
    obtain ⟨Q6, K8, B⟩ := B
    refine z_cVI1 (ν := mX10_isDay) 9 rfl rfl fX10_isDay gX10_424 ⟨_, rfl, rfl⟩ (by decide) (zcl1.o hSh2 132 9 rfl rfl rfl) (Nat.le_of_ble_eq_true rfl) K8 (fun v9 h7 q => ?_)
    obtain ⟨hSh7, B⟩ := B v9 h7 q
    refine z_if_eq 10 31 rfl (by decide) ⟨fun c10 => ?_, fun c10 => ?_⟩
    · have B := B.1 c10
      refine z_iconst (v := -1) 17 rfl (by decide) ?_
      exact z_iret 18 rfl rfl rfl ⟨rfl, rfl⟩ ⟨_, rfl, B⟩
    · have B := B.2 c10
      refine z_aload_n 11 rfl rfl ?_
      refine z_iconst (v := 0) 12 rfl (by decide) ?_
      refine z_iload_n 13 rfl rfl ?_
      refine z_iload_n 14 rfl rfl ?_
      obtain ⟨Q11, K13, B⟩ := B
      refine z_cVI3 (ν := mX10_markOf) 15 rfl rfl fX10_markOf gX10_397 ⟨_, rfl, rfl⟩ (by decide) (zcl1.o hSh7 132 9 rfl rfl rfl) (Nat.le_of_ble_eq_true rfl) K13 (fun v14 h12 q => ?_)
      obtain ⟨hSh12, B⟩ := B v14 h12 q
      refine z_goto 16 32 rfl (by decide) ?_
      exact z_iret 18 rfl rfl rfl ⟨rfl, rfl⟩ ⟨_, rfl, B⟩
theorem cn_X10_mark {G : zG} {d : Nat} {h : zMem} {Q : Int32 → zMem → Prop} {x1 : Int32} {x2 : Int32} (B : zg G mX10_mark (d + 1) 0 [.ref 132, .int x1, .int x2] [] h (zPI Q)) : zConI G mX10_mark (d + 1) [.ref 132, .int x1, .int x2] h Q := zcon0 (by decide +kernel) eX10_mark (Nat.le_of_ble_eq_true rfl) rfl B
