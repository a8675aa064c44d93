set_option maxRecDepth 100000 in
set_option maxHeartbeats 4000000 in
theorem sg_X10_fitsCold_0 {G : zG} {d : Nat} {h : zMem} {Q : Int32 → zMem → Prop} {x1 : Int32} {x2 : Int32} {x3 : Int32} (hS : zSh2 h)  (B : ∃ Q1 : zMem → Prop, zConV G mX10_starts d [.ref 132, .int (1 : Int32)] h Q1 ∧ (∀ h2, Q1 h2 → zSh2 h2 ∧ vp_in ((5 : Int32) + x1) 115 ∧ zg G mX10_fitsCold (d + 1) 17 [.ref 132, .int x1, .int x2, .int x3, .int (1 : Int32)] [] (zsI h2 160 ((5 : Int32) + x1).toNatClampNeg x2) (zPI Q))) : zg G mX10_fitsCold (d + 1) 0 [.ref 132, .int x1, .int x2, .int x3, zU] [] h (zPI Q) := by
  refine z_aload_n 0 rfl rfl ?_
  refine z_iconst (v := 1) 1 rfl (by decide) ?_
  obtain ⟨Q1, K3, B⟩ := B
  refine z_cVV1 (ν := mX10_starts) 2 rfl rfl fX10_starts gX10_346 ⟨_, rfl, rfl⟩ (by decide) (zcl1.o hS 132 9 rfl rfl rfl) (Nat.le_of_ble_eq_true rfl) K3 (fun h2 q => ?_)
  obtain ⟨hSh2, B⟩ := B h2 q
  refine z_aload_n 3 rfl rfl ?_
  refine z_getR 4 rfl lX10_96 rfl (zcl1.o hSh2 132 9 rfl rfl rfl) (zcl1.r hSh2 132 43 160 rfl rfl rfl) ?_
  refine z_iconst (v := 5) 5 rfl (by decide) ?_
  refine z_iload_n 6 rfl rfl ?_
  refine z_iadd 7 rfl ?_
  refine z_iload_n 8 rfl rfl ?_
  obtain ⟨o4, B⟩ := B
  refine z_iast 9 rfl (zcl1.o hSh2 160 100 rfl rfl rfl) (zin (zcl1.l hSh2 160 115 rfl rfl rfl) o4) ?_
  refine z_iconst (v := 1) 10 rfl (by decide) ?_
  refine z_istore 11 rfl (by decide) rfl ?_
  exact B
theorem cn_X10_fitsCold {G : zG} {d : Nat} {h : zMem} {Q : Int32 → zMem → Prop} {x1 : Int32} {x2 : Int32} {x3 : Int32} (B : zg G mX10_fitsCold (d + 1) 0 [.ref 132, .int x1, .int x2, .int x3, zU] [] h (zPI Q)) : zConI G mX10_fitsCold (d + 1) [.ref 132, .int x1, .int x2, .int x3] h Q := zcon0 (by decide +kernel) eX10_fitsCold (Nat.le_of_ble_eq_true rfl) rfl B
set_option maxRecDepth 100000 in
set_option maxHeartbeats 4000000 in
theorem sg_X10_fitsCold_17 {G : zG} {d : Nat} {h : zMem} {Q : Int32 → zMem → Prop} {x1 : Int32} {x2 : Int32} {x3 : Int32} {x4 : Int32} (hS : zSh2 h)  (B : (x3 < x4 → Q (1 : Int32) h) ∧ (¬ x3 < x4 → ∃ Q2 : zMem → Prop, zConV G mX10_passes d [.ref 132, .int (1 : Int32)] h Q2 ∧ (∀ h3, Q2 h3 → zSh2 h3 ∧ ∃ Q5 : Int32 → zMem → Prop, zConI G mX10_isSo d [.ref 132, .int x4] h3 Q5 ∧ (∀ v8 h6, Q5 v8 h6 → zSh2 h6 ∧ (¬ v8 = 0 → zg G mX10_fitsCold (d + 1) 17 [.ref 132, .int x1, .int x2, .int x3, .int (x4 + 1)] [] h6 (zPI Q)) ∧ (v8 = 0 → Q (0 : Int32) h6))))) : zg G mX10_fitsCold (d + 1) 17 [.ref 132, .int x1, .int x2, .int x3, .int x4] [] h (zPI Q) := by
  refine z_iload 12 rfl rfl ?_
  refine z_iload_n 13 rfl rfl ?_
  refine z_icmp_gt 14 45 rfl (by decide) ⟨fun c1 => ?_, fun c1 => ?_⟩
  · have B := B.1 c1
    refine z_iconst (v := 1) 26 rfl (by decide) ?_
    exact z_iret 27 rfl rfl rfl ⟨rfl, rfl⟩ ⟨_, rfl, B⟩
  · have B := B.2 c1
    refine z_aload_n 15 rfl rfl ?_
    refine z_iconst (v := 1) 16 rfl (by decide) ?_
    obtain ⟨Q2, K4, B⟩ := B
    refine z_cVV1 (ν := mX10_passes) 17 rfl rfl fX10_passes gX10_440 ⟨_, rfl, rfl⟩ (by decide) (zcl1.o hS 132 9 rfl rfl rfl) (Nat.le_of_ble_eq_true rfl) K4 (fun h3 q => ?_)
    obtain ⟨hSh3, B⟩ := B h3 q
    refine z_aload_n 18 rfl rfl ?_
    refine z_iload 19 rfl rfl ?_
    obtain ⟨Q5, K7, B⟩ := B
    refine z_cVI1 (ν := mX10_isSo) 20 rfl rfl fX10_isSo gX10_467 ⟨_, rfl, rfl⟩ (by decide) (zcl1.o hSh3 132 9 rfl rfl rfl) (Nat.le_of_ble_eq_true rfl) K7 (fun v8 h6 q => ?_)
    obtain ⟨hSh6, B⟩ := B v8 h6 q
    refine z_if_ne 21 39 rfl (by decide) ⟨fun c9 => ?_, fun c9 => ?_⟩
    · have B := B.1 c9
      refine z_iinc (v := 1) 24 rfl rfl (by decide) (by decide) rfl ?_
      refine z_goto 25 17 rfl (by decide) ?_
      exact B
    · have B := B.2 c9
      refine z_iconst (v := 0) 22 rfl (by decide) ?_
      exact z_iret 23 rfl rfl rfl ⟨rfl, rfl⟩ ⟨_, rfl, B⟩
set_option maxRecDepth 100000 in
set_option maxHeartbeats 4000000 in
theorem sg_X10_colds_0 {G : zG} {d : Nat} {h : zMem} {Q : Int32 → zMem → Prop} {x1 : Int32} (hS : zSh2 h)  (B : ∃ Q1 : Int32 → zMem → Prop, zConI G mX10_isMonk d [.ref 132, .int x1] (zsI h 132 0 (0 : Int32)) Q1 ∧ (∀ v4 h2, Q1 v4 h2 → zSh2 h2 ∧ (¬ v4 = 0 → zg G mX10_colds (d + 1) 19 [.ref 132, .int x1, .int (0 : Int32), .int (0 : Int32), zU] [] h2 (zPI Q)) ∧ (v4 = 0 → Q (-1 : Int32) h2))) : zg G mX10_colds (d + 1) 0 [.ref 132, .int x1, zU, zU, zU] [] h (zPI Q) := by
  refine z_aload_n 0 rfl rfl ?_
  refine z_iconst (v := 0) 1 rfl (by decide) ?_
  refine z_putI 2 rfl lX10_160 ⟨_, _, _, rfl, rfl⟩ rfl rfl rfl (zcl1.o hS 132 9 rfl rfl rfl) ?_
  refine z_aload_n 3 rfl rfl ?_
  refine z_iload_n 4 rfl rfl ?_
  obtain ⟨Q1, K3, B⟩ := B
  refine z_cVI1 (ν := mX10_isMonk) 5 rfl rfl fX10_isMonk gX10_415 ⟨_, rfl, rfl⟩ (by decide) (zcl1.o hS 132 9 rfl rfl rfl) (Nat.le_of_ble_eq_true rfl) K3 (fun v4 h2 q => ?_)
  obtain ⟨hSh2, B⟩ := B v4 h2 q
  refine z_if_ne 6 15 rfl (by decide) ⟨fun c5 => ?_, fun c5 => ?_⟩
  · have B := B.1 c5
    refine z_iconst (v := 0) 9 rfl (by decide) ?_
    refine z_istore_n 10 rfl (by decide) rfl ?_
    refine z_iconst (v := 0) 11 rfl (by decide) ?_
    refine z_istore_n 12 rfl (by decide) rfl ?_
    exact B
  · have B := B.2 c5
    refine z_iconst (v := -1) 7 rfl (by decide) ?_
    exact z_iret 8 rfl rfl rfl ⟨rfl, rfl⟩ ⟨_, rfl, B⟩
theorem cn_X10_colds {G : zG} {d : Nat} {h : zMem} {Q : Int32 → zMem → Prop} {x1 : Int32} (B : zg G mX10_colds (d + 1) 0 [.ref 132, .int x1, zU, zU, zU] [] h (zPI Q)) : zConI G mX10_colds (d + 1) [.ref 132, .int x1] h Q := zcon0 (by decide +kernel) eX10_colds (Nat.le_of_ble_eq_true rfl) rfl B
set_option maxRecDepth 100000 in
set_option maxHeartbeats 4000000 in
theorem sg_X10_colds_19 {G : zG} {d : Nat} {h : zMem} {Q : Int32 → zMem → Prop} {x1 : Int32} {x2 : Int32} {x3 : Int32} (hS : zSh2 h)  (B : ∃ Q1 : Int32 → zMem → Prop, zConI G mX10_knownMany d [.ref 132] h Q1 ∧ (∀ v4 h2, Q1 v4 h2 → zSh2 h2 ∧ (v4 ≤ x3 → ∃ Q6 : Int32 → zMem → Prop, zConI G mX10_knownMany d [.ref 132] h2 Q6 ∧ (∀ v9 h7, Q6 v9 h7 → zSh2 h7 ∧ zg G mX10_colds (d + 1) 47 [.ref 132, .int x1, .int x2, .int (v9 - (1 : Int32)), zU] [] h7 (zPI Q))) ∧ (¬ v4 ≤ x3 → vp_in x3 24 ∧ zg G mX10_colds (d + 1) 19 [.ref 132, .int x1, .int x2, .int (x3 + 1), zU] [] (zsI h2 173 x3.toNatClampNeg (vp_nar .boolean (0 : Int32))) (zPI Q)))) : zg G mX10_colds (d + 1) 19 [.ref 132, .int x1, .int x2, .int x3, zU] [] h (zPI Q) := by
  refine z_iload_n 13 rfl rfl ?_
  refine z_aload_n 14 rfl rfl ?_
  obtain ⟨Q1, K3, B⟩ := B
  refine z_cVI0 (ν := mX10_knownMany) 15 rfl rfl fX10_knownMany gX10_464 ⟨_, rfl, rfl⟩ (by decide) (zcl1.o hS 132 9 rfl rfl rfl) (Nat.le_of_ble_eq_true rfl) K3 (fun v4 h2 q => ?_)
  obtain ⟨hSh2, B⟩ := B v4 h2 q
  refine z_icmp_ge 16 40 rfl (by decide) ⟨fun c5 => ?_, fun c5 => ?_⟩
  · have B := B.1 c5
    refine z_aload_n 24 rfl rfl ?_
    obtain ⟨Q6, K8, B⟩ := B
    refine z_cVI0 (ν := mX10_knownMany) 25 rfl rfl fX10_knownMany gX10_464 ⟨_, rfl, rfl⟩ (by decide) (zcl1.o hSh2 132 9 rfl rfl rfl) (Nat.le_of_ble_eq_true rfl) K8 (fun v9 h7 q => ?_)
    obtain ⟨hSh7, B⟩ := B v9 h7 q
    refine z_iconst (v := 1) 26 rfl (by decide) ?_
    refine z_isub 27 rfl ?_
    refine z_istore_n 28 rfl (by decide) rfl ?_
    exact B
  · have B := B.2 c5
    refine z_aload_n 17 rfl rfl ?_
    refine z_getR 18 rfl lX10_154 rfl (zcl1.o hSh2 132 9 rfl rfl rfl) (zcl1.r hSh2 132 67 173 rfl rfl rfl) ?_
    refine z_iload_n 19 rfl rfl ?_
    refine z_iconst (v := 0) 20 rfl (by decide) ?_
    obtain ⟨o10, B⟩ := B
    refine z_zast 21 rfl (zcl1.o hSh2 173 103 rfl rfl rfl) (zin (zcl1.l hSh2 173 24 rfl rfl rfl) o10) ?_
    refine z_iinc (v := 1) 22 rfl rfl (by decide) (by decide) rfl ?_
    refine z_goto 23 19 rfl (by decide) ?_
    exact B
set_option maxRecDepth 100000 in
set_option maxHeartbeats 4000000 in
theorem sg_X10_colds_47 {G : zG} {d : Nat} {h : zMem} {Q : Int32 → zMem → Prop} {x1 : Int32} {x2 : Int32} {x3 : Int32} (hS : zSh2 h)  (B : (x3 < 0 → zg G mX10_colds (d + 1) 90 [.ref 132, .int x1, .int x2, .int (0 : Int32), zU] [] h (zPI Q)) ∧ (¬ x3 < 0 → vp_in x3 24 ∧ (¬ (zI h 173 x3.toNatClampNeg) = 0 → zg G mX10_colds (d + 1) 47 [.ref 132, .int x1, .int x2, .int (x3 + (-1)), zU] [] h (zPI Q)) ∧ ((zI h 173 x3.toNatClampNeg) = 0 → ((zI h 172 x3.toNatClampNeg) = (-1 : Int32) → zg G mX10_colds (d + 1) 47 [.ref 132, .int x1, .int x2, .int (x3 + (-1)), zU] [] h (zPI Q)) ∧ (¬ (zI h 172 x3.toNatClampNeg) = (-1 : Int32) → vp_in (zI h 172 x3.toNatClampNeg) 24 ∧ zg G mX10_colds (d + 1) 47 [.ref 132, .int x1, .int x2, .int (x3 + (-1)), zU] [] (zsI h 173 (zI h 172 x3.toNatClampNeg).toNatClampNeg (vp_nar .boolean (1 : Int32))) (zPI Q))))) : zg G mX10_colds (d + 1) 47 [.ref 132, .int x1, .int x2, .int x3, zU] [] h (zPI Q) := by
  refine z_iload_n 29 rfl rfl ?_
  refine z_if_lt 30 88 rfl (by decide) ⟨fun c1 => ?_, fun c1 => ?_⟩
  · have B := B.1 c1
    refine z_iconst (v := 0) 52 rfl (by decide) ?_
    refine z_istore_n 53 rfl (by decide) rfl ?_
    exact B
  · have B := B.2 c1
    refine z_aload_n 31 rfl rfl ?_
    refine z_getR 32 rfl lX10_154 rfl (zcl1.o hS 132 9 rfl rfl rfl) (zcl1.r hS 132 67 173 rfl rfl rfl) ?_
    refine z_iload_n 33 rfl rfl ?_
    obtain ⟨o2, B⟩ := B
    refine z_zald 34 rfl (zcl1.o hS 173 103 rfl rfl rfl) (zin (zcl1.l hS 173 24 rfl rfl rfl) o2) ?_
    refine z_if_ne 35 82 rfl (by decide) ⟨fun c3 => ?_, fun c3 => ?_⟩
    · have B := B.1 c3
      refine z_iinc (v := -1) 50 rfl rfl (by decide) (by decide) rfl ?_
      refine z_goto 51 47 rfl (by decide) ?_
      exact B
    · have B := B.2 c3
      refine z_aload_n 36 rfl rfl ?_
      refine z_getR 37 rfl lX10_151 rfl (zcl1.o hS 132 9 rfl rfl rfl) (zcl1.r hS 132 66 172 rfl rfl rfl) ?_
      refine z_iload_n 38 rfl rfl ?_
      refine z_iald 39 rfl (zcl1.o hS 172 100 rfl rfl rfl) (zin (zcl1.l hS 172 24 rfl rfl rfl) o2) ?_
      refine z_iconst (v := -1) 40 rfl (by decide) ?_
      refine z_icmp_eq 41 82 rfl (by decide) ⟨fun c4 => ?_, fun c4 => ?_⟩
      · have B := B.1 c4
        refine z_iinc (v := -1) 50 rfl rfl (by decide) (by decide) rfl ?_
        refine z_goto 51 47 rfl (by decide) ?_
        exact B
      · have B := B.2 c4
        refine z_aload_n 42 rfl rfl ?_
        refine z_getR 43 rfl lX10_154 rfl (zcl1.o hS 132 9 rfl rfl rfl) (zcl1.r hS 132 67 173 rfl rfl rfl) ?_
        refine z_aload_n 44 rfl rfl ?_
        refine z_getR 45 rfl lX10_151 rfl (zcl1.o hS 132 9 rfl rfl rfl) (zcl1.r hS 132 66 172 rfl rfl rfl) ?_
        refine z_iload_n 46 rfl rfl ?_
        refine z_iald 47 rfl (zcl1.o hS 172 100 rfl rfl rfl) (zin (zcl1.l hS 172 24 rfl rfl rfl) o2) ?_
        refine z_iconst (v := 1) 48 rfl (by decide) ?_
        obtain ⟨o5, B⟩ := B
        refine z_zast 49 rfl (zcl1.o hS 173 103 rfl rfl rfl) (zin (zcl1.l hS 173 24 rfl rfl rfl) o5) ?_
        refine z_iinc (v := -1) 50 rfl rfl (by decide) (by decide) rfl ?_
        refine z_goto 51 47 rfl (by decide) ?_
        exact B
set_option maxRecDepth 100000 in
set_option maxHeartbeats 4000000 in
theorem sg_X10_colds_90 {G : zG} {d : Nat} {h : zMem} {Q : Int32 → zMem → Prop} {x1 : Int32} {x2 : Int32} {x3 : Int32} (hS : zSh2 h)  (B : ∃ Q1 : Int32 → zMem → Prop, zConI G mX10_knownMany d [.ref 132] h Q1 ∧ (∀ v4 h2, Q1 v4 h2 → zSh2 h2 ∧ (v4 ≤ x3 → zg G mX10_colds (d + 1) 139 [.ref 132, .int x1, .int x2, .int (0 : Int32), .int (0 : Int32)] [] h2 (zPI Q)) ∧ (¬ v4 ≤ x3 → vp_in x3 24 ∧ (¬ (zI h2 173 x3.toNatClampNeg) = 0 → zg G mX10_colds (d + 1) 90 [.ref 132, .int x1, .int x2, .int (x3 + 1), zU] [] h2 (zPI Q)) ∧ ((zI h2 173 x3.toNatClampNeg) = 0 → (¬ (zI h2 172 x3.toNatClampNeg) = (-1 : Int32) → zg G mX10_colds (d + 1) 90 [.ref 132, .int x1, .int x2, .int (x3 + 1), zU] [] h2 (zPI Q)) ∧ ((zI h2 172 x3.toNatClampNeg) = (-1 : Int32) → zg G mX10_colds (d + 1) 90 [.ref 132, .int x1, .int (if x2 < (zI h2 168 x3.toNatClampNeg) then (zI h2 168 x3.toNatClampNeg) else x2), .int (x3 + 1), zU] [] h2 (zPI Q)))))) : zg G mX10_colds (d + 1) 90 [.ref 132, .int x1, .int x2, .int x3, zU] [] h (zPI Q) := by
  refine z_iload_n 54 rfl rfl ?_
  refine z_aload_n 55 rfl rfl ?_
  obtain ⟨Q1, K3, B⟩ := B
  refine z_cVI0 (ν := mX10_knownMany) 56 rfl rfl fX10_knownMany gX10_464 ⟨_, rfl, rfl⟩ (by decide) (zcl1.o hS 132 9 rfl rfl rfl) (Nat.le_of_ble_eq_true rfl) K3 (fun v4 h2 q => ?_)
  obtain ⟨hSh2, B⟩ := B v4 h2 q
  refine z_icmp_ge 57 134 rfl (by decide) ⟨fun c5 => ?_, fun c5 => ?_⟩
  · have B := B.1 c5
    refine z_iconst (v := 0) 78 rfl (by decide) ?_
    refine z_istore_n 79 rfl (by decide) rfl ?_
    refine z_iconst (v := 0) 80 rfl (by decide) ?_
    refine z_istore 81 rfl (by decide) rfl ?_
    exact B
  · have B := B.2 c5
    refine z_aload_n 58 rfl rfl ?_
    refine z_getR 59 rfl lX10_154 rfl (zcl1.o hSh2 132 9 rfl rfl rfl) (zcl1.r hSh2 132 67 173 rfl rfl rfl) ?_
    refine z_iload_n 60 rfl rfl ?_
    obtain ⟨o6, B⟩ := B
    refine z_zald 61 rfl (zcl1.o hSh2 173 103 rfl rfl rfl) (zin (zcl1.l hSh2 173 24 rfl rfl rfl) o6) ?_
    refine z_if_ne 62 128 rfl (by decide) ⟨fun c7 => ?_, fun c7 => ?_⟩
    · have B := B.1 c7
      refine z_iinc (v := 1) 76 rfl rfl (by decide) (by decide) rfl ?_
      refine z_goto 77 90 rfl (by decide) ?_
      exact B
    · have B := B.2 c7
      refine z_aload_n 63 rfl rfl ?_
      refine z_getR 64 rfl lX10_151 rfl (zcl1.o hSh2 132 9 rfl rfl rfl) (zcl1.r hSh2 132 66 172 rfl rfl rfl) ?_
      refine z_iload_n 65 rfl rfl ?_
      refine z_iald 66 rfl (zcl1.o hSh2 172 100 rfl rfl rfl) (zin (zcl1.l hSh2 172 24 rfl rfl rfl) o6) ?_
      refine z_iconst (v := -1) 67 rfl (by decide) ?_
      refine z_icmp_ne 68 128 rfl (by decide) ⟨fun c8 => ?_, fun c8 => ?_⟩
      · have B := B.1 c8
        refine z_iinc (v := 1) 76 rfl rfl (by decide) (by decide) rfl ?_
        refine z_goto 77 90 rfl (by decide) ?_
        exact B
      · have B := B.2 c8
        refine z_iload_n 69 rfl rfl ?_
        refine z_aload_n 70 rfl rfl ?_
        refine z_getR 71 rfl lX10_138 rfl (zcl1.o hSh2 132 9 rfl rfl rfl) (zcl1.r hSh2 132 62 168 rfl rfl rfl) ?_
        refine z_iload_n 72 rfl rfl ?_
        refine z_iald 73 rfl (zcl1.o hSh2 168 100 rfl rfl rfl) (zin (zcl1.l hSh2 168 24 rfl rfl rfl) o6) ?_
        refine z_mmax 74 rfl rfl gmX10_449 (Nat.le_of_ble_eq_true rfl) ?_
        refine z_istore_n 75 rfl (by decide) rfl ?_
        refine z_iinc (v := 1) 76 rfl rfl (by decide) (by decide) rfl ?_
        refine z_goto 77 90 rfl (by decide) ?_
        exact B
set_option maxRecDepth 100000 in
set_option maxHeartbeats 4000000 in
theorem sg_X10_colds_139 {G : zG} {d : Nat} {h : zMem} {Q : Int32 → zMem → Prop} {x1 : Int32} {x2 : Int32} {x3 : Int32} {x4 : Int32} (hS : zSh2 h)  (B : ((zI h 134 0) < x4 → Q x3 h) ∧ (¬ (zI h 134 0) < x4 → ((zI h 134 0) ≤ x4 → ∃ Q3 : Int32 → zMem → Prop, zConI G mX10_fitsCold d [.ref 132, .int x1, .int (0 : Int32), .int x2] h Q3 ∧ (∀ v6 h4, Q3 v6 h4 → zSh2 h4 ∧ (v6 = 0 → zg G mX10_colds (d + 1) 139 [.ref 132, .int x1, .int x2, .int (x3 ||| (0 : Int32)), .int (x4 + 1)] [] h4 (zPI Q)) ∧ (¬ v6 = 0 → zg G mX10_colds (d + 1) 139 [.ref 132, .int x1, .int x2, .int (x3 ||| ((1 : Int32) <<< (x4 &&& 31))), .int (x4 + 1)] [] h4 (zPI Q)))) ∧ (¬ (zI h 134 0) ≤ x4 → ∃ Q8 : Int32 → zMem → Prop, zConI G mX10_fitsCold d [.ref 132, .int x1, .int ((1 : Int32) <<< (x4 &&& 31)), .int x2] h Q8 ∧ (∀ v11 h9, Q8 v11 h9 → zSh2 h9 ∧ (v11 = 0 → zg G mX10_colds (d + 1) 139 [.ref 132, .int x1, .int x2, .int (x3 ||| (0 : Int32)), .int (x4 + 1)] [] h9 (zPI Q)) ∧ (¬ v11 = 0 → zg G mX10_colds (d + 1) 139 [.ref 132, .int x1, .int x2, .int (x3 ||| ((1 : Int32) <<< (x4 &&& 31))), .int (x4 + 1)] [] h9 (zPI Q)))))) : zg G mX10_colds (d + 1) 139 [.ref 132, .int x1, .int x2, .int x3, .int x4] [] h (zPI Q) := by
  refine z_iload 82 rfl rfl ?_
  refine z_aload_n 83 rfl rfl ?_
  refine z_getR 84 rfl lX10_13 rfl (zcl1.o hS 132 9 rfl rfl rfl) (zcl1.r hS 132 3 134 rfl rfl rfl) ?_
  refine z_iconst (v := 0) 85 rfl (by decide) ?_
  refine z_iald_c 86 0 rfl (by decide) (zcl1.o hS 134 100 rfl rfl rfl) (zin (zcl1.l hS 134 16 rfl rfl rfl) (zvp (by decide))) ?_
  refine z_icmp_gt 87 195 rfl (by decide) ⟨fun c1 => ?_, fun c1 => ?_⟩
  · have B := B.1 c1
    refine z_iload_n 114 rfl rfl ?_
    exact z_iret 115 rfl rfl rfl ⟨rfl, rfl⟩ ⟨_, rfl, B⟩
  · have B := B.2 c1
    refine z_iload_n 88 rfl rfl ?_
    refine z_aload_n 89 rfl rfl ?_
    refine z_iload_n 90 rfl rfl ?_
    refine z_iload 91 rfl rfl ?_
    refine z_aload_n 92 rfl rfl ?_
    refine z_getR 93 rfl lX10_13 rfl (zcl1.o hS 132 9 rfl rfl rfl) (zcl1.r hS 132 3 134 rfl rfl rfl) ?_
    refine z_iconst (v := 0) 94 rfl (by decide) ?_
    refine z_iald_c 95 0 rfl (by decide) (zcl1.o hS 134 100 rfl rfl rfl) (zin (zcl1.l hS 134 16 rfl rfl rfl) (zvp (by decide))) ?_
    refine z_icmp_ge 96 171 rfl (by decide) ⟨fun c2 => ?_, fun c2 => ?_⟩
    · have B := B.1 c2
      refine z_iconst (v := 0) 101 rfl (by decide) ?_
      refine z_iload_n 102 rfl rfl ?_
      obtain ⟨Q3, K5, B⟩ := B
      refine z_cVI3 (ν := mX10_fitsCold) 103 rfl rfl fX10_fitsCold gX10_470 ⟨_, rfl, rfl⟩ (by decide) (zcl1.o hS 132 9 rfl rfl rfl) (Nat.le_of_ble_eq_true rfl) K5 (fun v6 h4 q => ?_)
      obtain ⟨hSh4, B⟩ := B v6 h4 q
      refine z_if_eq 104 186 rfl (by decide) ⟨fun c7 => ?_, fun c7 => ?_⟩
      · have B := B.1 c7
        refine z_iconst (v := 0) 109 rfl (by decide) ?_
        refine z_ior 110 rfl ?_
        refine z_istore_n 111 rfl (by decide) rfl ?_
        refine z_iinc (v := 1) 112 rfl rfl (by decide) (by decide) rfl ?_
        refine z_goto 113 139 rfl (by decide) ?_
        exact B
      · have B := B.2 c7
        refine z_iconst (v := 1) 105 rfl (by decide) ?_
        refine z_iload 106 rfl rfl ?_
        refine z_ishl 107 rfl ?_
        refine z_goto 108 187 rfl (by decide) ?_
        refine z_ior 110 rfl ?_
        refine z_istore_n 111 rfl (by decide) rfl ?_
        refine z_iinc (v := 1) 112 rfl rfl (by decide) (by decide) rfl ?_
        refine z_goto 113 139 rfl (by decide) ?_
        exact B
    · have B := B.2 c2
      refine z_iconst (v := 1) 97 rfl (by decide) ?_
      refine z_iload 98 rfl rfl ?_
      refine z_ishl 99 rfl ?_
      refine z_goto 100 172 rfl (by decide) ?_
      refine z_iload_n 102 rfl rfl ?_
      obtain ⟨Q8, K10, B⟩ := B
      refine z_cVI3 (ν := mX10_fitsCold) 103 rfl rfl fX10_fitsCold gX10_470 ⟨_, rfl, rfl⟩ (by decide) (zcl1.o hS 132 9 rfl rfl rfl) (Nat.le_of_ble_eq_true rfl) K10 (fun v11 h9 q => ?_)
      obtain ⟨hSh9, B⟩ := B v11 h9 q
      refine z_if_eq 104 186 rfl (by decide) ⟨fun c12 => ?_, fun c12 => ?_⟩
      · have B := B.1 c12
        refine z_iconst (v := 0) 109 rfl (by decide) ?_
        refine z_ior 110 rfl ?_
        refine z_istore_n 111 rfl (by decide) rfl ?_
        refine z_iinc (v := 1) 112 rfl rfl (by decide) (by decide) rfl ?_
        refine z_goto 113 139 rfl (by decide) ?_
        exact B
      · have B := B.2 c12
        refine z_iconst (v := 1) 105 rfl (by decide) ?_
        refine z_iload 106 rfl rfl ?_
        refine z_ishl 107 rfl ?_
        refine z_goto 108 187 rfl (by decide) ?_
        refine z_ior 110 rfl ?_
        refine z_istore_n 111 rfl (by decide) rfl ?_
        refine z_iinc (v := 1) 112 rfl rfl (by decide) (by decide) rfl ?_
        refine z_goto 113 139 rfl (by decide) ?_
        exact B
set_option maxRecDepth 100000 in
set_option maxHeartbeats 4000000 in
theorem sg_X10_draw_0 {G : zG} {d : Nat} {h : zMem} {Q : Int32 → zMem → Prop} {x1 : Int32} (hS : zSh2 h)  (B : ¬ x1 = 0 ∧ Q (((zI (zsI h 155 1 ((((zI h 155 1) * (1103515245 : Int32)) + (12345 : Int32)) &&& (2147483647 : Int32))) 155 1) >>> ((16 : Int32) &&& 31)) - ((zI (zsI h 155 1 ((((zI h 155 1) * (1103515245 : Int32)) + (12345 : Int32)) &&& (2147483647 : Int32))) 155 1) >>> ((16 : Int32) &&& 31)) / x1 * x1) (zsI h 155 1 ((((zI h 155 1) * (1103515245 : Int32)) + (12345 : Int32)) &&& (2147483647 : Int32)))) : zg G mX10_draw d 0 [.ref 132, .int x1] [] h (zPI Q) := by
  refine z_aload_n 0 rfl rfl ?_
  refine z_getR 1 rfl lX10_81 rfl (zcl1.o hS 132 9 rfl rfl rfl) (zcl1.r hS 132 38 155 rfl rfl rfl) ?_
  refine z_iconst (v := 1) 2 rfl (by decide) ?_
  refine z_aload_n 3 rfl rfl ?_
  refine z_getR 4 rfl lX10_81 rfl (zcl1.o hS 132 9 rfl rfl rfl) (zcl1.r hS 132 38 155 rfl rfl rfl) ?_
  refine z_iconst (v := 1) 5 rfl (by decide) ?_
  refine z_iald_c 6 1 rfl (by decide) (zcl1.o hS 155 100 rfl rfl rfl) (zin (zcl1.l hS 155 23 rfl rfl rfl) (zvp (by decide))) ?_
  refine z_ldcw 7 rfl kX10_474 ?_
  refine z_imul 8 rfl ?_
  refine z_sipush (v := 12345) 9 rfl (by decide) ?_
  refine z_iadd 10 rfl ?_
  refine z_ldcw 11 rfl kX10_477 ?_
  refine z_iand 12 rfl ?_
  refine z_iast_c 13 1 rfl (by decide) (zcl1.o hS 155 100 rfl rfl rfl) (zin (zcl1.l hS 155 23 rfl rfl rfl) (zvp (by decide))) ?_
  refine z_aload_n 14 rfl rfl ?_
  refine z_getR 15 rfl lX10_81 rfl (zcl1.o hS 132 9 rfl rfl rfl) (zcl1.r hS 132 38 155 rfl rfl rfl) ?_
  refine z_iconst (v := 1) 16 rfl (by decide) ?_
  refine z_iald_c 17 1 rfl (by decide) (zcl1.o hS 155 100 rfl rfl rfl) (zin (zcl1.l hS 155 23 rfl rfl rfl) (zvp (by decide))) ?_
  refine z_bipush (v := 16) 18 rfl (by decide) ?_
  refine z_ishr 19 rfl ?_
  refine z_iload_n 20 rfl rfl ?_
  obtain ⟨o1, B⟩ := B
  refine z_irem 21 rfl o1 ?_
  exact z_iret 22 rfl rfl rfl ⟨rfl, rfl⟩ ⟨_, rfl, B⟩
theorem cn_X10_draw {G : zG} {d : Nat} {h : zMem} {Q : Int32 → zMem → Prop} {x1 : Int32} (B : zg G mX10_draw d 0 [.ref 132, .int x1] [] h (zPI Q)) : zConI G mX10_draw d [.ref 132, .int x1] h Q := zcon0 (by decide +kernel) eX10_draw (Nat.le_of_ble_eq_true rfl) rfl B
set_option maxRecDepth 100000 in
set_option maxHeartbeats 4000000 in
theorem sg_X10_chance_0 {G : zG} {d : Nat} {h : zMem} {Q : Int32 → zMem → Prop} {x1 : Int32} {x2 : Int32} {x3 : Int32} (hS : zSh2 h)  (B : (x1 < 0 → Q (-1 : Int32) (zsI h 132 0 (0 : Int32))) ∧ (¬ x1 < 0 → (x2 < (1 : Int32) → Q (-1 : Int32) (zsI h 132 0 (0 : Int32))) ∧ (¬ x2 < (1 : Int32) → ((40 : Int32) < x2 → Q (-1 : Int32) (zsI h 132 0 (0 : Int32))) ∧ (¬ (40 : Int32) < x2 → (x3 < 0 → Q (-1 : Int32) (zsI h 132 0 (0 : Int32))) ∧ (¬ x3 < 0 → ((40 : Int32) < x3 → Q (-1 : Int32) (zsI h 132 0 (0 : Int32))) ∧ (¬ (40 : Int32) < x3 → (¬ (zI (zsI h 132 0 (0 : Int32)) 134 0) = 0 → zg G mX10_chance (d + 1) 50 [.ref 132, .int x1, .int x2, .int x3, .int x1, .int (0 : Int32), .int (0 : Int32), zU] [] (zsI h 132 0 (0 : Int32)) (zPI Q)) ∧ ((zI (zsI h 132 0 (0 : Int32)) 134 0) = 0 → Q (-1 : Int32) (zsI h 132 0 (0 : Int32))))))))) : zg G mX10_chance (d + 1) 0 [.ref 132, .int x1, .int x2, .int x3, zU, zU, zU, zU] [] h (zPI Q) := by
  refine z_aload_n 0 rfl rfl ?_
  refine z_iconst (v := 0) 1 rfl (by decide) ?_
  refine z_putI 2 rfl lX10_160 ⟨_, _, _, rfl, rfl⟩ rfl rfl rfl (zcl1.o hS 132 9 rfl rfl rfl) ?_
  refine z_iload_n 3 rfl rfl ?_
  refine z_if_lt 4 39 rfl (by decide) ⟨fun c1 => ?_, fun c1 => ?_⟩
  · have B := B.1 c1
    refine z_iconst (v := -1) 21 rfl (by decide) ?_
    exact z_iret 22 rfl rfl rfl ⟨rfl, rfl⟩ ⟨_, rfl, B⟩
  · have B := B.2 c1
    refine z_iload_n 5 rfl rfl ?_
    refine z_iconst (v := 1) 6 rfl (by decide) ?_
    refine z_icmp_lt 7 39 rfl (by decide) ⟨fun c2 => ?_, fun c2 => ?_⟩
    · have B := B.1 c2
      refine z_iconst (v := -1) 21 rfl (by decide) ?_
      exact z_iret 22 rfl rfl rfl ⟨rfl, rfl⟩ ⟨_, rfl, B⟩
    · have B := B.2 c2
      refine z_iload_n 8 rfl rfl ?_
      refine z_bipush (v := 40) 9 rfl (by decide) ?_
      refine z_icmp_gt 10 39 rfl (by decide) ⟨fun c3 => ?_, fun c3 => ?_⟩
      · have B := B.1 c3
        refine z_iconst (v := -1) 21 rfl (by decide) ?_
        exact z_iret 22 rfl rfl rfl ⟨rfl, rfl⟩ ⟨_, rfl, B⟩
      · have B := B.2 c3
        refine z_iload_n 11 rfl rfl ?_
        refine z_if_lt 12 39 rfl (by decide) ⟨fun c4 => ?_, fun c4 => ?_⟩
        · have B := B.1 c4
          refine z_iconst (v := -1) 21 rfl (by decide) ?_
          exact z_iret 22 rfl rfl rfl ⟨rfl, rfl⟩ ⟨_, rfl, B⟩
        · have B := B.2 c4
          refine z_iload_n 13 rfl rfl ?_
          refine z_bipush (v := 40) 14 rfl (by decide) ?_
          refine z_icmp_gt 15 39 rfl (by decide) ⟨fun c5 => ?_, fun c5 => ?_⟩
          · have B := B.1 c5
            refine z_iconst (v := -1) 21 rfl (by decide) ?_
            exact z_iret 22 rfl rfl rfl ⟨rfl, rfl⟩ ⟨_, rfl, B⟩
          · have B := B.2 c5
            refine z_aload_n 16 rfl rfl ?_
            refine z_getR 17 rfl lX10_13 rfl (zcl1.o hS 132 9 rfl rfl rfl) (zcl1.r hS 132 3 134 rfl rfl rfl) ?_
            refine z_iconst (v := 0) 18 rfl (by decide) ?_
            refine z_iald_c 19 0 rfl (by decide) (zcl1.o hS 134 100 rfl rfl rfl) (zin (zcl1.l hS 134 16 rfl rfl rfl) (zvp (by decide))) ?_
            refine z_if_ne 20 41 rfl (by decide) ⟨fun c6 => ?_, fun c6 => ?_⟩
            · have B := B.1 c6
              refine z_iload_n 23 rfl rfl ?_
              refine z_istore 24 rfl (by decide) rfl ?_
              refine z_iconst (v := 0) 25 rfl (by decide) ?_
              refine z_istore 26 rfl (by decide) rfl ?_
              refine z_iconst (v := 0) 27 rfl (by decide) ?_
              refine z_istore 28 rfl (by decide) rfl ?_
              exact B
            · have B := B.2 c6
              refine z_iconst (v := -1) 21 rfl (by decide) ?_
              exact z_iret 22 rfl rfl rfl ⟨rfl, rfl⟩ ⟨_, rfl, B⟩
theorem cn_X10_chance {G : zG} {d : Nat} {h : zMem} {Q : Int32 → zMem → Prop} {x1 : Int32} {x2 : Int32} {x3 : Int32} (B : zg G mX10_chance (d + 1) 0 [.ref 132, .int x1, .int x2, .int x3, zU, zU, zU, zU] [] h (zPI Q)) : zConI G mX10_chance (d + 1) [.ref 132, .int x1, .int x2, .int x3] h Q := zcon0 (by decide +kernel) eX10_chance (Nat.le_of_ble_eq_true rfl) rfl B
set_option maxRecDepth 100000 in
set_option maxHeartbeats 4000000 in
theorem sg_X10_chance_50 {G : zG} {d : Nat} {h : zMem} {Q : Int32 → zMem → Prop} {x1 : Int32} {x2 : Int32} {x3 : Int32} {x4 : Int32} {x5 : Int32} {x6 : Int32} (hS : zSh2 h)  (B : ((10 : Int32) ≤ x6 → Q x5 h) ∧ (¬ (10 : Int32) ≤ x6 → ∃ Q2 : zMem → Prop, zConV G mX10_copies d [.ref 132, .int (1 : Int32), .int (0 : Int32)] h Q2 ∧ (∀ h3, Q2 h3 → zSh2 h3 ∧ zg G mX10_chance (d + 1) 74 [.ref 132, .int x1, .int x2, .int x3, .int x4, .int x5, .int x6, .int (0 : Int32)] [] (zsI h3 155 1 x4) (zPI Q)))) : zg G mX10_chance (d + 1) 50 [.ref 132, .int x1, .int x2, .int x3, .int x4, .int x5, .int x6, zU] [] h (zPI Q) := by
  refine z_iload 29 rfl rfl ?_
  refine z_bipush (v := 10) 30 rfl (by decide) ?_
  refine z_icmp_ge 31 160 rfl (by decide) ⟨fun c1 => ?_, fun c1 => ?_⟩
  · have B := B.1 c1
    refine z_iload 91 rfl rfl ?_
    exact z_iret 92 rfl rfl rfl ⟨rfl, rfl⟩ ⟨_, rfl, B⟩
  · have B := B.2 c1
    refine z_aload_n 32 rfl rfl ?_
    refine z_iconst (v := 1) 33 rfl (by decide) ?_
    refine z_iconst (v := 0) 34 rfl (by decide) ?_
    obtain ⟨Q2, K4, B⟩ := B
    refine z_cVV2 (ν := mX10_copies) 35 rfl rfl fX10_copies gX10_434 ⟨_, rfl, rfl⟩ (by decide) (zcl1.o hS 132 9 rfl rfl rfl) (Nat.le_of_ble_eq_true rfl) K4 (fun h3 q => ?_)
    obtain ⟨hSh3, B⟩ := B h3 q
    refine z_aload_n 36 rfl rfl ?_
    refine z_getR 37 rfl lX10_81 rfl (zcl1.o hSh3 132 9 rfl rfl rfl) (zcl1.r hSh3 132 38 155 rfl rfl rfl) ?_
    refine z_iconst (v := 1) 38 rfl (by decide) ?_
    refine z_iload 39 rfl rfl ?_
    refine z_iast_c 40 1 rfl (by decide) (zcl1.o hSh3 155 100 rfl rfl rfl) (zin (zcl1.l hSh3 155 23 rfl rfl rfl) (zvp (by decide))) ?_
    refine z_iconst (v := 0) 41 rfl (by decide) ?_
    refine z_istore 42 rfl (by decide) rfl ?_
    exact B
set_option maxRecDepth 100000 in
set_option maxHeartbeats 4000000 in
theorem sg_X10_chance_74 {G : zG} {d : Nat} {h : zMem} {Q : Int32 → zMem → Prop} {x1 : Int32} {x2 : Int32} {x3 : Int32} {x4 : Int32} {x5 : Int32} {x6 : Int32} {x7 : Int32} (hS : zSh2 h)  (B : (x2 ≤ x7 → (((zI h 153 1) - (zI h 153 0)) < x3 → zg G mX10_chance (d + 1) 50 [.ref 132, .int x1, .int x2, .int x3, .int (zI h 155 1), .int (x5 + (0 : Int32)), .int (x6 + 1), zU] [] h (zPI Q)) ∧ (¬ ((zI h 153 1) - (zI h 153 0)) < x3 → zg G mX10_chance (d + 1) 50 [.ref 132, .int x1, .int x2, .int x3, .int (zI h 155 1), .int (x5 + (1 : Int32)), .int (x6 + 1), zU] [] h (zPI Q))) ∧ (¬ x2 ≤ x7 → ∃ Q3 : Int32 → zMem → Prop, zConI G mX10_draw d [.ref 132, .int (4 : Int32)] h Q3 ∧ (∀ v6 h4, Q3 v6 h4 → zSh2 h4 ∧ (¬ v6 = 0 → ∃ Q8 : zMem → Prop, zConV G mX10_passes d [.ref 132, .int (1 : Int32)] h4 Q8 ∧ (∀ h9, Q8 h9 → zSh2 h9 ∧ zg G mX10_chance (d + 1) 74 [.ref 132, .int x1, .int x2, .int x3, .int x4, .int x5, .int x6, .int (x7 + 1)] [] h9 (zPI Q))) ∧ (v6 = 0 → ∃ Q11 : Int32 → zMem → Prop, zConI G mX10_draw d [.ref 132, .int (zI h4 134 0)] h4 Q11 ∧ (∀ v14 h12, Q11 v14 h12 → zSh2 h12 ∧ vp_in ((6 : Int32) + v14) 138 ∧ ∃ Q16 : zMem → Prop, zConV G mX10_passes d [.ref 132, .int (1 : Int32)] (zsI h12 157 ((6 : Int32) + v14).toNatClampNeg (9 : Int32)) Q16 ∧ (∀ h17, Q16 h17 → zSh2 h17 ∧ zg G mX10_chance (d + 1) 74 [.ref 132, .int x1, .int x2, .int x3, .int x4, .int x5, .int x6, .int (x7 + 1)] [] h17 (zPI Q))))))) : zg G mX10_chance (d + 1) 74 [.ref 132, .int x1, .int x2, .int x3, .int x4, .int x5, .int x6, .int x7] [] h (zPI Q) := by
  refine z_iload 43 rfl rfl ?_
  refine z_iload_n 44 rfl rfl ?_
  refine z_icmp_ge 45 119 rfl (by decide) ⟨fun c1 => ?_, fun c1 => ?_⟩
  · have B := B.1 c1
    refine z_aload_n 67 rfl rfl ?_
    refine z_getR 68 rfl lX10_81 rfl (zcl1.o hS 132 9 rfl rfl rfl) (zcl1.r hS 132 38 155 rfl rfl rfl) ?_
    refine z_iconst (v := 1) 69 rfl (by decide) ?_
    refine z_iald_c 70 1 rfl (by decide) (zcl1.o hS 155 100 rfl rfl rfl) (zin (zcl1.l hS 155 23 rfl rfl rfl) (zvp (by decide))) ?_
    refine z_istore 71 rfl (by decide) rfl ?_
    refine z_iload 72 rfl rfl ?_
    refine z_aload_n 73 rfl rfl ?_
    refine z_getR 74 rfl lX10_75 rfl (zcl1.o hS 132 9 rfl rfl rfl) (zcl1.r hS 132 36 153 rfl rfl rfl) ?_
    refine z_iconst (v := 1) 75 rfl (by decide) ?_
    refine z_iald_c 76 1 rfl (by decide) (zcl1.o hS 153 100 rfl rfl rfl) (zin (zcl1.l hS 153 23 rfl rfl rfl) (zvp (by decide))) ?_
    refine z_aload_n 77 rfl rfl ?_
    refine z_getR 78 rfl lX10_75 rfl (zcl1.o hS 132 9 rfl rfl rfl) (zcl1.r hS 132 36 153 rfl rfl rfl) ?_
    refine z_iconst (v := 0) 79 rfl (by decide) ?_
    refine z_iald_c 80 0 rfl (by decide) (zcl1.o hS 153 100 rfl rfl rfl) (zin (zcl1.l hS 153 23 rfl rfl rfl) (zvp (by decide))) ?_
    refine z_isub 81 rfl ?_
    refine z_iload_n 82 rfl rfl ?_
    refine z_icmp_lt 83 150 rfl (by decide) ⟨fun c2 => ?_, fun c2 => ?_⟩
    · have B := B.1 c2
      refine z_iconst (v := 0) 86 rfl (by decide) ?_
      refine z_iadd 87 rfl ?_
      refine z_istore 88 rfl (by decide) rfl ?_
      refine z_iinc (v := 1) 89 rfl rfl (by decide) (by decide) rfl ?_
      refine z_goto 90 50 rfl (by decide) ?_
      refine z_drop 7 ?_
      exact B
    · have B := B.2 c2
      refine z_iconst (v := 1) 84 rfl (by decide) ?_
      refine z_goto 85 151 rfl (by decide) ?_
      refine z_iadd 87 rfl ?_
      refine z_istore 88 rfl (by decide) rfl ?_
      refine z_iinc (v := 1) 89 rfl rfl (by decide) (by decide) rfl ?_
      refine z_goto 90 50 rfl (by decide) ?_
      refine z_drop 7 ?_
      exact B
  · have B := B.2 c1
    refine z_aload_n 46 rfl rfl ?_
    refine z_iconst (v := 4) 47 rfl (by decide) ?_
    obtain ⟨Q3, K5, B⟩ := B
    refine z_cVI1 (ν := mX10_draw) 48 rfl rfl fX10_draw gX10_478 ⟨_, rfl, rfl⟩ (by decide) (zcl1.o hS 132 9 rfl rfl rfl) (Nat.le_of_ble_eq_true rfl) K5 (fun v6 h4 q => ?_)
    obtain ⟨hSh4, B⟩ := B v6 h4 q
    refine z_if_ne 49 108 rfl (by decide) ⟨fun c7 => ?_, fun c7 => ?_⟩
    · have B := B.1 c7
      refine z_aload_n 62 rfl rfl ?_
      refine z_iconst (v := 1) 63 rfl (by decide) ?_
      obtain ⟨Q8, K10, B⟩ := B
      refine z_cVV1 (ν := mX10_passes) 64 rfl rfl fX10_passes gX10_440 ⟨_, rfl, rfl⟩ (by decide) (zcl1.o hSh4 132 9 rfl rfl rfl) (Nat.le_of_ble_eq_true rfl) K10 (fun h9 q => ?_)
      obtain ⟨hSh9, B⟩ := B h9 q
      refine z_iinc (v := 1) 65 rfl rfl (by decide) (by decide) rfl ?_
      refine z_goto 66 74 rfl (by decide) ?_
      exact B
    · have B := B.2 c7
      refine z_aload_n 50 rfl rfl ?_
      refine z_getR 51 rfl lX10_87 rfl (zcl1.o hSh4 132 9 rfl rfl rfl) (zcl1.r hSh4 132 40 157 rfl rfl rfl) ?_
      refine z_bipush (v := 6) 52 rfl (by decide) ?_
      refine z_aload_n 53 rfl rfl ?_
      refine z_aload_n 54 rfl rfl ?_
      refine z_getR 55 rfl lX10_13 rfl (zcl1.o hSh4 132 9 rfl rfl rfl) (zcl1.r hSh4 132 3 134 rfl rfl rfl) ?_
      refine z_iconst (v := 0) 56 rfl (by decide) ?_
      refine z_iald_c 57 0 rfl (by decide) (zcl1.o hSh4 134 100 rfl rfl rfl) (zin (zcl1.l hSh4 134 16 rfl rfl rfl) (zvp (by decide))) ?_
      obtain ⟨Q11, K13, B⟩ := B
      refine z_cVI1 (ν := mX10_draw) 58 rfl rfl fX10_draw gX10_478 ⟨_, rfl, rfl⟩ (by decide) (zcl1.o hSh4 132 9 rfl rfl rfl) (Nat.le_of_ble_eq_true rfl) K13 (fun v14 h12 q => ?_)
      obtain ⟨hSh12, B⟩ := B v14 h12 q
      refine z_iadd 59 rfl ?_
      refine z_bipush (v := 9) 60 rfl (by decide) ?_
      obtain ⟨o15, B⟩ := B
      refine z_iast 61 rfl (zcl1.o hSh12 157 100 rfl rfl rfl) (zin (zcl1.l hSh12 157 138 rfl rfl rfl) o15) ?_
      refine z_aload_n 62 rfl rfl ?_
      refine z_iconst (v := 1) 63 rfl (by decide) ?_
      obtain ⟨Q16, K18, B⟩ := B
      refine z_cVV1 (ν := mX10_passes) 64 rfl rfl fX10_passes gX10_440 ⟨_, rfl, rfl⟩ (by decide) (zcl1.o hSh12 132 9 rfl rfl rfl) (Nat.le_of_ble_eq_true rfl) K18 (fun h17 q => ?_)
      obtain ⟨hSh17, B⟩ := B h17 q
      refine z_iinc (v := 1) 65 rfl rfl (by decide) (by decide) rfl ?_
      refine z_goto 66 74 rfl (by decide) ?_
      exact B
set_option maxRecDepth 100000 in
set_option maxHeartbeats 4000000 in
theorem sg_X10_tried_0 {G : zG} {d : Nat} {h : zMem} {Q : Int32 → zMem → Prop} {x1 : Int32} {x2 : Int32} {x3 : Int32} (hS : zSh2 h)  (B : (¬ x1 = (3 : Int32) → (x1 < 0 → zg G mX10_tried (d + 1) 36 [.ref 132, .int x1, .int x2, .int x3, zU, zU] [.int (0 : Int32)] (zsI h 132 0 (0 : Int32)) (zPI Q)) ∧ (¬ x1 < 0 → ((5 : Int32) < x1 → zg G mX10_tried (d + 1) 36 [.ref 132, .int x1, .int x2, .int x3, zU, zU] [.int (0 : Int32)] (zsI h 132 0 (0 : Int32)) (zPI Q)) ∧ (¬ (5 : Int32) < x1 → (¬ x2 = 0 → zg G mX10_tried (d + 1) 36 [.ref 132, .int x1, .int x2, .int x3, zU, zU] [.int (0 : Int32)] (zsI h 132 0 (0 : Int32)) (zPI Q)) ∧ (x2 = 0 → zg G mX10_tried (d + 1) 36 [.ref 132, .int x1, .int x2, .int x3, zU, zU] [.int (1 : Int32)] (zsI h 132 0 (0 : Int32)) (zPI Q))))) ∧ (x1 = (3 : Int32) → ∃ Q5 : Int32 → zMem → Prop, zConI G mX10_isMonk d [.ref 132, .int x2] (zsI h 132 0 (0 : Int32)) Q5 ∧ (∀ v8 h6, Q5 v8 h6 → zSh2 h6 ∧ zg G mX10_tried (d + 1) 36 [.ref 132, .int x1, .int x2, .int x3, zU, zU] [.int v8] h6 (zPI Q)))) : zg G mX10_tried (d + 1) 0 [.ref 132, .int x1, .int x2, .int x3, zU, zU] [] h (zPI Q) := by
  refine z_aload_n 0 rfl rfl ?_
  refine z_iconst (v := 0) 1 rfl (by decide) ?_
  refine z_putI 2 rfl lX10_160 ⟨_, _, _, rfl, rfl⟩ rfl rfl rfl (zcl1.o hS 132 9 rfl rfl rfl) ?_
  refine z_iload_n 3 rfl rfl ?_
  refine z_iconst (v := 3) 4 rfl (by decide) ?_
  refine z_icmp_ne 5 18 rfl (by decide) ⟨fun c1 => ?_, fun c1 => ?_⟩
  · have B := B.1 c1
    refine z_iload_n 10 rfl rfl ?_
    refine z_if_lt 11 35 rfl (by decide) ⟨fun c2 => ?_, fun c2 => ?_⟩
    · have B := B.1 c2
      refine z_iconst (v := 0) 19 rfl (by decide) ?_
      exact B
    · have B := B.2 c2
      refine z_iload_n 12 rfl rfl ?_
      refine z_iconst (v := 5) 13 rfl (by decide) ?_
      refine z_icmp_gt 14 35 rfl (by decide) ⟨fun c3 => ?_, fun c3 => ?_⟩
      · have B := B.1 c3
        refine z_iconst (v := 0) 19 rfl (by decide) ?_
        exact B
      · have B := B.2 c3
        refine z_iload_n 15 rfl rfl ?_
        refine z_if_ne 16 35 rfl (by decide) ⟨fun c4 => ?_, fun c4 => ?_⟩
        · have B := B.1 c4
          refine z_iconst (v := 0) 19 rfl (by decide) ?_
          exact B
        · have B := B.2 c4
          refine z_iconst (v := 1) 17 rfl (by decide) ?_
          refine z_goto 18 36 rfl (by decide) ?_
          exact B
  · have B := B.2 c1
    refine z_aload_n 6 rfl rfl ?_
    refine z_iload_n 7 rfl rfl ?_
    obtain ⟨Q5, K7, B⟩ := B
    refine z_cVI1 (ν := mX10_isMonk) 8 rfl rfl fX10_isMonk gX10_415 ⟨_, rfl, rfl⟩ (by decide) (zcl1.o hS 132 9 rfl rfl rfl) (Nat.le_of_ble_eq_true rfl) K7 (fun v8 h6 q => ?_)
    obtain ⟨hSh6, B⟩ := B v8 h6 q
    refine z_goto 9 36 rfl (by decide) ?_
    exact B
theorem cn_X10_tried {G : zG} {d : Nat} {h : zMem} {Q : Int32 → zMem → Prop} {x1 : Int32} {x2 : Int32} {x3 : Int32} (B : zg G mX10_tried (d + 1) 0 [.ref 132, .int x1, .int x2, .int x3, zU, zU] [] h (zPI Q)) : zConI G mX10_tried (d + 1) [.ref 132, .int x1, .int x2, .int x3] h Q := zcon0 (by decide +kernel) eX10_tried (Nat.le_of_ble_eq_true rfl) rfl B
set_option maxRecDepth 100000 in
set_option maxHeartbeats 4000000 in
theorem sg_X10_tried_36 {G : zG} {d : Nat} {h : zMem} {Q : Int32 → zMem → Prop} {x1 : Int32} {x2 : Int32} {x3 : Int32} {xs0 : Int32} (hS : zSh2 h)  (B : (xs0 = 0 → Q (-1 : Int32) h) ∧ (¬ xs0 = 0 → (x3 < 0 → Q (-1 : Int32) h) ∧ (¬ x3 < 0 → (x3 ≤ (99 : Int32) → ∃ Q4 : zMem → Prop, zConV G mX10_copies d [.ref 132, .int (1 : Int32), .int (0 : Int32)] (zsI (zsI h 132 48 x1) 132 49 x2) Q4 ∧ (∀ h5, Q4 h5 → zSh2 h5 ∧ zg G mX10_tried (d + 1) 74 [.ref 132, .int x1, .int x2, .int x3, .int xs0, .int (0 : Int32)] [] h5 (zPI Q))) ∧ (¬ x3 ≤ (99 : Int32) → Q (-1 : Int32) h)))) : zg G mX10_tried (d + 1) 36 [.ref 132, .int x1, .int x2, .int x3, zU, zU] [.int xs0] h (zPI Q) := by
  refine z_istore 20 rfl (by decide) rfl ?_
  refine z_iload 21 rfl rfl ?_
  refine z_if_eq 22 53 rfl (by decide) ⟨fun c1 => ?_, fun c1 => ?_⟩
  · have B := B.1 c1
    refine z_iconst (v := -1) 28 rfl (by decide) ?_
    exact z_iret 29 rfl rfl rfl ⟨rfl, rfl⟩ ⟨_, rfl, B⟩
  · have B := B.2 c1
    refine z_iload_n 23 rfl rfl ?_
    refine z_if_lt 24 53 rfl (by decide) ⟨fun c2 => ?_, fun c2 => ?_⟩
    · have B := B.1 c2
      refine z_iconst (v := -1) 28 rfl (by decide) ?_
      exact z_iret 29 rfl rfl rfl ⟨rfl, rfl⟩ ⟨_, rfl, B⟩
    · have B := B.2 c2
      refine z_iload_n 25 rfl rfl ?_
      refine z_bipush (v := 99) 26 rfl (by decide) ?_
      refine z_icmp_le 27 55 rfl (by decide) ⟨fun c3 => ?_, fun c3 => ?_⟩
      · have B := B.1 c3
        refine z_aload_n 30 rfl rfl ?_
        refine z_iload_n 31 rfl rfl ?_
        refine z_putI 32 rfl lX10_349 ⟨_, _, _, rfl, rfl⟩ rfl rfl rfl (zcl1.o hS 132 9 rfl rfl rfl) ?_
        refine z_aload_n 33 rfl rfl ?_
        refine z_iload_n 34 rfl rfl ?_
        refine z_putI 35 rfl lX10_105 ⟨_, _, _, rfl, rfl⟩ rfl rfl rfl (zcl1.o hS 132 9 rfl rfl rfl) ?_
        refine z_aload_n 36 rfl rfl ?_
        refine z_iconst (v := 1) 37 rfl (by decide) ?_
        refine z_iconst (v := 0) 38 rfl (by decide) ?_
        obtain ⟨Q4, K6, B⟩ := B
        refine z_cVV2 (ν := mX10_copies) 39 rfl rfl fX10_copies gX10_434 ⟨_, rfl, rfl⟩ (by decide) (zcl1.o hS 132 9 rfl rfl rfl) (Nat.le_of_ble_eq_true rfl) K6 (fun h5 q => ?_)
        obtain ⟨hSh5, B⟩ := B h5 q
        refine z_iconst (v := 0) 40 rfl (by decide) ?_
        refine z_istore 41 rfl (by decide) rfl ?_
        exact B
      · have B := B.2 c3
        refine z_iconst (v := -1) 28 rfl (by decide) ?_
        exact z_iret 29 rfl rfl rfl ⟨rfl, rfl⟩ ⟨_, rfl, B⟩
set_option maxRecDepth 100000 in
set_option maxHeartbeats 4000000 in
theorem sg_X10_tried_74 {G : zG} {d : Nat} {h : zMem} {Q : Int32 → zMem → Prop} {x1 : Int32} {x2 : Int32} {x3 : Int32} {x4 : Int32} {x5 : Int32} (hS : zSh2 h)  (B : (x3 ≤ x5 → Q ((zI (zsI (zsI h 132 48 (0 : Int32)) 132 49 (-1 : Int32)) 153 1) - (zI (zsI (zsI h 132 48 (0 : Int32)) 132 49 (-1 : Int32)) 153 0)) (zsI (zsI h 132 48 (0 : Int32)) 132 49 (-1 : Int32))) ∧ (¬ x3 ≤ x5 → ∃ Q2 : zMem → Prop, zConV G mX10_passes d [.ref 132, .int (1 : Int32)] h Q2 ∧ (∀ h3, Q2 h3 → zSh2 h3 ∧ zg G mX10_tried (d + 1) 74 [.ref 132, .int x1, .int x2, .int x3, .int x4, .int (x5 + 1)] [] h3 (zPI Q)))) : zg G mX10_tried (d + 1) 74 [.ref 132, .int x1, .int x2, .int x3, .int x4, .int x5] [] h (zPI Q) := by
  refine z_iload 42 rfl rfl ?_
  refine z_iload_n 43 rfl rfl ?_
  refine z_icmp_ge 44 91 rfl (by decide) ⟨fun c1 => ?_, fun c1 => ?_⟩
  · have B := B.1 c1
    refine z_aload_n 50 rfl rfl ?_
    refine z_iconst (v := 0) 51 rfl (by decide) ?_
    refine z_putI 52 rfl lX10_349 ⟨_, _, _, rfl, rfl⟩ rfl rfl rfl (zcl1.o hS 132 9 rfl rfl rfl) ?_
    refine z_aload_n 53 rfl rfl ?_
    refine z_iconst (v := -1) 54 rfl (by decide) ?_
    refine z_putI 55 rfl lX10_105 ⟨_, _, _, rfl, rfl⟩ rfl rfl rfl (zcl1.o hS 132 9 rfl rfl rfl) ?_
    refine z_aload_n 56 rfl rfl ?_
    refine z_getR 57 rfl lX10_75 rfl (zcl1.o hS 132 9 rfl rfl rfl) (zcl1.r hS 132 36 153 rfl rfl rfl) ?_
    refine z_iconst (v := 1) 58 rfl (by decide) ?_
    refine z_iald_c 59 1 rfl (by decide) (zcl1.o hS 153 100 rfl rfl rfl) (zin (zcl1.l hS 153 23 rfl rfl rfl) (zvp (by decide))) ?_
    refine z_aload_n 60 rfl rfl ?_
    refine z_getR 61 rfl lX10_75 rfl (zcl1.o hS 132 9 rfl rfl rfl) (zcl1.r hS 132 36 153 rfl rfl rfl) ?_
    refine z_iconst (v := 0) 62 rfl (by decide) ?_
    refine z_iald_c 63 0 rfl (by decide) (zcl1.o hS 153 100 rfl rfl rfl) (zin (zcl1.l hS 153 23 rfl rfl rfl) (zvp (by decide))) ?_
    refine z_isub 64 rfl ?_
    exact z_iret 65 rfl rfl rfl ⟨rfl, rfl⟩ ⟨_, rfl, B⟩
  · have B := B.2 c1
    refine z_aload_n 45 rfl rfl ?_
    refine z_iconst (v := 1) 46 rfl (by decide) ?_
    obtain ⟨Q2, K4, B⟩ := B
    refine z_cVV1 (ν := mX10_passes) 47 rfl rfl fX10_passes gX10_440 ⟨_, rfl, rfl⟩ (by decide) (zcl1.o hS 132 9 rfl rfl rfl) (Nat.le_of_ble_eq_true rfl) K4 (fun h3 q => ?_)
    obtain ⟨hSh3, B⟩ := B h3 q
    refine z_iinc (v := 1) 48 rfl rfl (by decide) (by decide) rfl ?_
    refine z_goto 49 74 rfl (by decide) ?_
    exact B
set_option maxRecDepth 100000 in
set_option maxHeartbeats 4000000 in
theorem sg_X10_undo_0 {G : zG} {d : Nat} {h : zMem} {Q : Int32 → zMem → Prop}  (hS : zSh2 h)  (B : (¬ (zI (zsI h 132 0 (0 : Int32)) 132 47) = 0 → ∃ Q2 : zMem → Prop, zConV G mX10_copies d [.ref 132, .int (0 : Int32), .int ((3 : Int32) + (zI (zsI (zsI h 132 0 (0 : Int32)) 132 47 ((zI (zsI h 132 0 (0 : Int32)) 132 47) - (1 : Int32))) 132 47))] (zsI (zsI h 132 0 (0 : Int32)) 132 47 ((zI (zsI h 132 0 (0 : Int32)) 132 47) - (1 : Int32))) Q2 ∧ (∀ h3, Q2 h3 → zSh2 h3 ∧ Q (zI h3 132 47) h3)) ∧ ((zI (zsI h 132 0 (0 : Int32)) 132 47) = 0 → Q (-1 : Int32) (zsI h 132 0 (0 : Int32)))) : zg G mX10_undo (d + 1) 0 [.ref 132] [] h (zPI Q) := by
  refine z_aload_n 0 rfl rfl ?_
  refine z_iconst (v := 0) 1 rfl (by decide) ?_
  refine z_putI 2 rfl lX10_160 ⟨_, _, _, rfl, rfl⟩ rfl rfl rfl (zcl1.o hS 132 9 rfl rfl rfl) ?_
  refine z_aload_n 3 rfl rfl ?_
  refine z_getI 4 rfl lX10_323 rfl (zcl1.o hS 132 9 rfl rfl rfl) ?_
  refine z_if_ne 5 14 rfl (by decide) ⟨fun c1 => ?_, fun c1 => ?_⟩
  · have B := B.1 c1
    refine z_aload_n 8 rfl rfl ?_
    refine z_dup 9 rfl rfl ?_
    refine z_getI 10 rfl lX10_323 rfl (zcl1.o hS 132 9 rfl rfl rfl) ?_
    refine z_iconst (v := 1) 11 rfl (by decide) ?_
    refine z_isub 12 rfl ?_
    refine z_putI 13 rfl lX10_323 ⟨_, _, _, rfl, rfl⟩ rfl rfl rfl (zcl1.o hS 132 9 rfl rfl rfl) ?_
    refine z_aload_n 14 rfl rfl ?_
    refine z_iconst (v := 0) 15 rfl (by decide) ?_
    refine z_iconst (v := 3) 16 rfl (by decide) ?_
    refine z_aload_n 17 rfl rfl ?_
    refine z_getI 18 rfl lX10_323 rfl (zcl1.o hS 132 9 rfl rfl rfl) ?_
    refine z_iadd 19 rfl ?_
    obtain ⟨Q2, K4, B⟩ := B
    refine z_cVV2 (ν := mX10_copies) 20 rfl rfl fX10_copies gX10_434 ⟨_, rfl, rfl⟩ (by decide) (zcl1.o hS 132 9 rfl rfl rfl) (Nat.le_of_ble_eq_true rfl) K4 (fun h3 q => ?_)
    obtain ⟨hSh3, B⟩ := B h3 q
    refine z_aload_n 21 rfl rfl ?_
    refine z_getI 22 rfl lX10_323 rfl (zcl1.o hSh3 132 9 rfl rfl rfl) ?_
    exact z_iret 23 rfl rfl rfl ⟨rfl, rfl⟩ ⟨_, rfl, B⟩
  · have B := B.2 c1
    refine z_iconst (v := -1) 6 rfl (by decide) ?_
    exact z_iret 7 rfl rfl rfl ⟨rfl, rfl⟩ ⟨_, rfl, B⟩
theorem cn_X10_undo {G : zG} {d : Nat} {h : zMem} {Q : Int32 → zMem → Prop}  (B : zg G mX10_undo (d + 1) 0 [.ref 132] [] h (zPI Q)) : zConI G mX10_undo (d + 1) [.ref 132] h Q := zcon0 (by decide +kernel) eX10_undo (Nat.le_of_ble_eq_true rfl) rfl B
set_option maxRecDepth 100000 in
set_option maxHeartbeats 4000000 in
theorem sg_X10_keep_0 {G : zG} {d : Nat} {h : zMem} {Q : Int32 → zMem → Prop}  (hS : zSh2 h)  (B : ∃ Q1 : zMem → Prop, zConV G mX10_copies d [.ref 132, .int (2 : Int32), .int (0 : Int32)] (zsI h 132 0 (0 : Int32)) Q1 ∧ (∀ h2, Q1 h2 → zSh2 h2 ∧ Q (zI (zsI h2 132 46 (1 : Int32)) 151 0) (zsI h2 132 46 (1 : Int32)))) : zg G mX10_keep (d + 1) 0 [.ref 132] [] h (zPI Q) := by
  refine z_aload_n 0 rfl rfl ?_
  refine z_iconst (v := 0) 1 rfl (by decide) ?_
  refine z_putI 2 rfl lX10_160 ⟨_, _, _, rfl, rfl⟩ rfl rfl rfl (zcl1.o hS 132 9 rfl rfl rfl) ?_
  refine z_aload_n 3 rfl rfl ?_
  refine z_iconst (v := 2) 4 rfl (by decide) ?_
  refine z_iconst (v := 0) 5 rfl (by decide) ?_
  obtain ⟨Q1, K3, B⟩ := B
  refine z_cVV2 (ν := mX10_copies) 6 rfl rfl fX10_copies gX10_434 ⟨_, rfl, rfl⟩ (by decide) (zcl1.o hS 132 9 rfl rfl rfl) (Nat.le_of_ble_eq_true rfl) K3 (fun h2 q => ?_)
  obtain ⟨hSh2, B⟩ := B h2 q
  refine z_aload_n 7 rfl rfl ?_
  refine z_iconst (v := 1) 8 rfl (by decide) ?_
  refine z_putI 9 rfl lX10_319 ⟨_, _, _, rfl, rfl⟩ rfl rfl rfl (zcl1.o hSh2 132 9 rfl rfl rfl) ?_
  refine z_aload_n 10 rfl rfl ?_
  refine z_getR 11 rfl lX10_69 rfl (zcl1.o hSh2 132 9 rfl rfl rfl) (zcl1.r hSh2 132 34 151 rfl rfl rfl) ?_
  refine z_iconst (v := 0) 12 rfl (by decide) ?_
  refine z_iald_c 13 0 rfl (by decide) (zcl1.o hSh2 151 100 rfl rfl rfl) (zin (zcl1.l hSh2 151 23 rfl rfl rfl) (zvp (by decide))) ?_
  exact z_iret 14 rfl rfl rfl ⟨rfl, rfl⟩ ⟨_, rfl, B⟩
theorem cn_X10_keep {G : zG} {d : Nat} {h : zMem} {Q : Int32 → zMem → Prop}  (B : zg G mX10_keep (d + 1) 0 [.ref 132] [] h (zPI Q)) : zConI G mX10_keep (d + 1) [.ref 132] h Q := zcon0 (by decide +kernel) eX10_keep (Nat.le_of_ble_eq_true rfl) rfl B
set_option maxRecDepth 100000 in
set_option maxHeartbeats 4000000 in
theorem sg_X10_back_0 {G : zG} {d : Nat} {h : zMem} {Q : Int32 → zMem → Prop}  (hS : zSh2 h)  (B : (¬ (zI (zsI h 132 0 (0 : Int32)) 132 46) = 0 → ∃ Q2 : zMem → Prop, zConV G mX10_copies d [.ref 132, .int (0 : Int32), .int (2 : Int32)] (zsI h 132 0 (0 : Int32)) Q2 ∧ (∀ h3, Q2 h3 → zSh2 h3 ∧ Q (zI (zsI h3 132 47 (0 : Int32)) 151 0) (zsI h3 132 47 (0 : Int32)))) ∧ ((zI (zsI h 132 0 (0 : Int32)) 132 46) = 0 → Q (-1 : Int32) (zsI h 132 0 (0 : Int32)))) : zg G mX10_back (d + 1) 0 [.ref 132] [] h (zPI Q) := by
  refine z_aload_n 0 rfl rfl ?_
  refine z_iconst (v := 0) 1 rfl (by decide) ?_
  refine z_putI 2 rfl lX10_160 ⟨_, _, _, rfl, rfl⟩ rfl rfl rfl (zcl1.o hS 132 9 rfl rfl rfl) ?_
  refine z_aload_n 3 rfl rfl ?_
  refine z_getI 4 rfl lX10_319 rfl (zcl1.o hS 132 9 rfl rfl rfl) ?_
  refine z_if_ne 5 14 rfl (by decide) ⟨fun c1 => ?_, fun c1 => ?_⟩
  · have B := B.1 c1
    refine z_aload_n 8 rfl rfl ?_
    refine z_iconst (v := 0) 9 rfl (by decide) ?_
    refine z_iconst (v := 2) 10 rfl (by decide) ?_
    obtain ⟨Q2, K4, B⟩ := B
    refine z_cVV2 (ν := mX10_copies) 11 rfl rfl fX10_copies gX10_434 ⟨_, rfl, rfl⟩ (by decide) (zcl1.o hS 132 9 rfl rfl rfl) (Nat.le_of_ble_eq_true rfl) K4 (fun h3 q => ?_)
    obtain ⟨hSh3, B⟩ := B h3 q
    refine z_aload_n 12 rfl rfl ?_
    refine z_iconst (v := 0) 13 rfl (by decide) ?_
    refine z_putI 14 rfl lX10_323 ⟨_, _, _, rfl, rfl⟩ rfl rfl rfl (zcl1.o hSh3 132 9 rfl rfl rfl) ?_
    refine z_aload_n 15 rfl rfl ?_
    refine z_getR 16 rfl lX10_69 rfl (zcl1.o hSh3 132 9 rfl rfl rfl) (zcl1.r hSh3 132 34 151 rfl rfl rfl) ?_
    refine z_iconst (v := 0) 17 rfl (by decide) ?_
    refine z_iald_c 18 0 rfl (by decide) (zcl1.o hSh3 151 100 rfl rfl rfl) (zin (zcl1.l hSh3 151 23 rfl rfl rfl) (zvp (by decide))) ?_
    exact z_iret 19 rfl rfl rfl ⟨rfl, rfl⟩ ⟨_, rfl, B⟩
  · have B := B.2 c1
    refine z_iconst (v := -1) 6 rfl (by decide) ?_
    exact z_iret 7 rfl rfl rfl ⟨rfl, rfl⟩ ⟨_, rfl, B⟩
theorem cn_X10_back {G : zG} {d : Nat} {h : zMem} {Q : Int32 → zMem → Prop}  (B : zg G mX10_back (d + 1) 0 [.ref 132] [] h (zPI Q)) : zConI G mX10_back (d + 1) [.ref 132] h Q := zcon0 (by decide +kernel) eX10_back (Nat.le_of_ble_eq_true rfl) rfl B
theorem zsw_X10_count_8 {x : Int32} (z1 : ¬ x.toInt < 0) (z2 : ¬ 13 < x.toInt) (c0 : ¬ x = 0) (c1 : ¬ x = 1) (c2 : ¬ x = 2) (c3 : ¬ x = 3) (c4 : ¬ x = 4) (c5 : ¬ x = 5) (c6 : ¬ x = 6) (c7 : ¬ x = 7) (c8 : ¬ x = 8) (c9 : ¬ x = 9) (c10 : ¬ x = 10) (c11 : ¬ x = 11) (c12 : ¬ x = 12) (c13 : ¬ x = 13) : (#[72, 79, 86, 93, 100, 107, 115, 122, 129, 136, 143, 172, 177, 182] : Array Int)[(x.toInt - 0).toNat]? = some 187 := by
  obtain ⟨v, hv⟩ : ∃ v : Int, v = x.toInt := ⟨_, rfl⟩
  have c0 : v ≠ 0 := fun e => c0 (Int32.toInt_inj.mp (by rw [← hv, e]; decide))
  have c1 : v ≠ 1 := fun e => c1 (Int32.toInt_inj.mp (by rw [← hv, e]; decide))
  have c2 : v ≠ 2 := fun e => c2 (Int32.toInt_inj.mp (by rw [← hv, e]; decide))
  have c3 : v ≠ 3 := fun e => c3 (Int32.toInt_inj.mp (by rw [← hv, e]; decide))
  have c4 : v ≠ 4 := fun e => c4 (Int32.toInt_inj.mp (by rw [← hv, e]; decide))
  have c5 : v ≠ 5 := fun e => c5 (Int32.toInt_inj.mp (by rw [← hv, e]; decide))
  have c6 : v ≠ 6 := fun e => c6 (Int32.toInt_inj.mp (by rw [← hv, e]; decide))
  have c7 : v ≠ 7 := fun e => c7 (Int32.toInt_inj.mp (by rw [← hv, e]; decide))
  have c8 : v ≠ 8 := fun e => c8 (Int32.toInt_inj.mp (by rw [← hv, e]; decide))
  have c9 : v ≠ 9 := fun e => c9 (Int32.toInt_inj.mp (by rw [← hv, e]; decide))
  have c10 : v ≠ 10 := fun e => c10 (Int32.toInt_inj.mp (by rw [← hv, e]; decide))
  have c11 : v ≠ 11 := fun e => c11 (Int32.toInt_inj.mp (by rw [← hv, e]; decide))
  have c12 : v ≠ 12 := fun e => c12 (Int32.toInt_inj.mp (by rw [← hv, e]; decide))
  have c13 : v ≠ 13 := fun e => c13 (Int32.toInt_inj.mp (by rw [← hv, e]; decide))
  rw [← hv] at z1 z2 ⊢
  rcases (show v = 0 ∨ v = 1 ∨ v = 2 ∨ v = 3 ∨ v = 4 ∨ v = 5 ∨ v = 6 ∨ v = 7 ∨ v = 8 ∨ v = 9 ∨ v = 10 ∨ v = 11 ∨ v = 12 ∨ v = 13 by omega) with rfl | rfl | rfl | rfl | rfl | rfl | rfl | rfl | rfl | rfl | rfl | rfl | rfl | rfl
  all_goals first | exact absurd rfl (by assumption) | decide
set_option maxRecDepth 100000 in
set_option maxHeartbeats 4000000 in
theorem sg_X10_count_0 {G : zG} {d : Nat} {h : zMem} {Q : Int32 → zMem → Prop} {x1 : Int32} (hS : zSh2 h)  (B : (x1 = 0 → Q (zI (zsI h 132 0 (0 : Int32)) 134 0) (zsI h 132 0 (0 : Int32))) ∧ (x1 = 1 → Q (zI (zsI h 132 0 (0 : Int32)) 134 1) (zsI h 132 0 (0 : Int32))) ∧ (x1 = 2 → Q (zI (zsI h 132 0 (0 : Int32)) 134 3) (zsI h 132 0 (0 : Int32))) ∧ (x1 = 3 → Q (zI (zsI h 132 0 (0 : Int32)) 134 4) (zsI h 132 0 (0 : Int32))) ∧ (x1 = 4 → Q (zI (zsI h 132 0 (0 : Int32)) 134 2) (zsI h 132 0 (0 : Int32))) ∧ (x1 = 5 → Q (zI (zsI h 132 0 (0 : Int32)) 134 7) (zsI h 132 0 (0 : Int32))) ∧ (x1 = 6 → Q (zI (zsI h 132 0 (0 : Int32)) 151 0) (zsI h 132 0 (0 : Int32))) ∧ (x1 = 7 → Q (zI (zsI h 132 0 (0 : Int32)) 152 0) (zsI h 132 0 (0 : Int32))) ∧ (x1 = 8 → Q (zI (zsI h 132 0 (0 : Int32)) 153 0) (zsI h 132 0 (0 : Int32))) ∧ (x1 = 9 → Q (zI (zsI h 132 0 (0 : Int32)) 154 0) (zsI h 132 0 (0 : Int32))) ∧ (x1 = 10 → zg G mX10_count (d + 1) 153 [.ref 132, .int x1, .int (0 : Int32), .int (0 : Int32)] [] (zsI h 132 0 (0 : Int32)) (zPI Q)) ∧ (x1 = 11 → Q (zI (zsI h 132 0 (0 : Int32)) 132 60) (zsI h 132 0 (0 : Int32))) ∧ (x1 = 12 → ∃ Q1 : Int32 → zMem → Prop, zConI G mX10_knownMany d [.ref 132] (zsI h 132 0 (0 : Int32)) Q1 ∧ (∀ v4 h2, Q1 v4 h2 → zSh2 h2 ∧ Q v4 h2)) ∧ (x1 = 13 → Q (zI (zsI h 132 0 (0 : Int32)) 132 47) (zsI h 132 0 (0 : Int32))) ∧ (¬ x1 = 0 → ¬ x1 = 1 → ¬ x1 = 2 → ¬ x1 = 3 → ¬ x1 = 4 → ¬ x1 = 5 → ¬ x1 = 6 → ¬ x1 = 7 → ¬ x1 = 8 → ¬ x1 = 9 → ¬ x1 = 10 → ¬ x1 = 11 → ¬ x1 = 12 → ¬ x1 = 13 → Q (-1 : Int32) (zsI h 132 0 (0 : Int32)))) : zg G mX10_count (d + 1) 0 [.ref 132, .int x1, zU, zU] [] h (zPI Q) := by
  refine z_aload_n 0 rfl rfl ?_
  refine z_iconst (v := 0) 1 rfl (by decide) ?_
  refine z_putI 2 rfl lX10_160 ⟨_, _, _, rfl, rfl⟩ rfl rfl rfl (zcl1.o hS 132 9 rfl rfl rfl) ?_
  refine z_iconst (v := 0) 3 rfl (by decide) ?_
  refine z_istore_n 4 rfl (by decide) rfl ?_
  refine z_iload_n 5 rfl rfl ?_
  by_cases c5_0 : x1 = 0
  · obtain ⟨B, -⟩ := B
    refine z_tableIn 6 80 rfl 0 (by rw [c5_0]; decide) (by decide) (by decide) rfl (by decide) ?_
    have B := B c5_0
    refine z_aload_n 7 rfl rfl ?_
    refine z_getR 8 rfl lX10_13 rfl (zcl1.o hS 132 9 rfl rfl rfl) (zcl1.r hS 132 3 134 rfl rfl rfl) ?_
    refine z_iconst (v := 0) 9 rfl (by decide) ?_
    refine z_iald_c 10 0 rfl (by decide) (zcl1.o hS 134 100 rfl rfl rfl) (zin (zcl1.l hS 134 16 rfl rfl rfl) (zvp (by decide))) ?_
    exact z_iret 11 rfl rfl rfl ⟨rfl, rfl⟩ ⟨_, rfl, B⟩
  obtain ⟨-, B⟩ := B
  by_cases c5_1 : x1 = 1
  · obtain ⟨B, -⟩ := B
    refine z_tableIn 6 87 rfl 1 (by rw [c5_1]; decide) (by decide) (by decide) rfl (by decide) ?_
    have B := B c5_1
    refine z_aload_n 12 rfl rfl ?_
    refine z_getR 13 rfl lX10_13 rfl (zcl1.o hS 132 9 rfl rfl rfl) (zcl1.r hS 132 3 134 rfl rfl rfl) ?_
    refine z_iconst (v := 1) 14 rfl (by decide) ?_
    refine z_iald_c 15 1 rfl (by decide) (zcl1.o hS 134 100 rfl rfl rfl) (zin (zcl1.l hS 134 16 rfl rfl rfl) (zvp (by decide))) ?_
    exact z_iret 16 rfl rfl rfl ⟨rfl, rfl⟩ ⟨_, rfl, B⟩
  obtain ⟨-, B⟩ := B
  by_cases c5_2 : x1 = 2
  · obtain ⟨B, -⟩ := B
    refine z_tableIn 6 94 rfl 2 (by rw [c5_2]; decide) (by decide) (by decide) rfl (by decide) ?_
    have B := B c5_2
    refine z_aload_n 17 rfl rfl ?_
    refine z_getR 18 rfl lX10_13 rfl (zcl1.o hS 132 9 rfl rfl rfl) (zcl1.r hS 132 3 134 rfl rfl rfl) ?_
    refine z_iconst (v := 3) 19 rfl (by decide) ?_
    refine z_iald_c 20 3 rfl (by decide) (zcl1.o hS 134 100 rfl rfl rfl) (zin (zcl1.l hS 134 16 rfl rfl rfl) (zvp (by decide))) ?_
    exact z_iret 21 rfl rfl rfl ⟨rfl, rfl⟩ ⟨_, rfl, B⟩
  obtain ⟨-, B⟩ := B
  by_cases c5_3 : x1 = 3
  · obtain ⟨B, -⟩ := B
    refine z_tableIn 6 101 rfl 3 (by rw [c5_3]; decide) (by decide) (by decide) rfl (by decide) ?_
    have B := B c5_3
    refine z_aload_n 22 rfl rfl ?_
    refine z_getR 23 rfl lX10_13 rfl (zcl1.o hS 132 9 rfl rfl rfl) (zcl1.r hS 132 3 134 rfl rfl rfl) ?_
    refine z_iconst (v := 4) 24 rfl (by decide) ?_
    refine z_iald_c 25 4 rfl (by decide) (zcl1.o hS 134 100 rfl rfl rfl) (zin (zcl1.l hS 134 16 rfl rfl rfl) (zvp (by decide))) ?_
    exact z_iret 26 rfl rfl rfl ⟨rfl, rfl⟩ ⟨_, rfl, B⟩
  obtain ⟨-, B⟩ := B
  by_cases c5_4 : x1 = 4
  · obtain ⟨B, -⟩ := B
    refine z_tableIn 6 108 rfl 4 (by rw [c5_4]; decide) (by decide) (by decide) rfl (by decide) ?_
    have B := B c5_4
    refine z_aload_n 27 rfl rfl ?_
    refine z_getR 28 rfl lX10_13 rfl (zcl1.o hS 132 9 rfl rfl rfl) (zcl1.r hS 132 3 134 rfl rfl rfl) ?_
    refine z_iconst (v := 2) 29 rfl (by decide) ?_
    refine z_iald_c 30 2 rfl (by decide) (zcl1.o hS 134 100 rfl rfl rfl) (zin (zcl1.l hS 134 16 rfl rfl rfl) (zvp (by decide))) ?_
    exact z_iret 31 rfl rfl rfl ⟨rfl, rfl⟩ ⟨_, rfl, B⟩
  obtain ⟨-, B⟩ := B
  by_cases c5_5 : x1 = 5
  · obtain ⟨B, -⟩ := B
    refine z_tableIn 6 115 rfl 5 (by rw [c5_5]; decide) (by decide) (by decide) rfl (by decide) ?_
    have B := B c5_5
    refine z_aload_n 32 rfl rfl ?_
    refine z_getR 33 rfl lX10_13 rfl (zcl1.o hS 132 9 rfl rfl rfl) (zcl1.r hS 132 3 134 rfl rfl rfl) ?_
    refine z_bipush (v := 7) 34 rfl (by decide) ?_
    refine z_iald_c 35 7 rfl (by decide) (zcl1.o hS 134 100 rfl rfl rfl) (zin (zcl1.l hS 134 16 rfl rfl rfl) (zvp (by decide))) ?_
    exact z_iret 36 rfl rfl rfl ⟨rfl, rfl⟩ ⟨_, rfl, B⟩
  obtain ⟨-, B⟩ := B
  by_cases c5_6 : x1 = 6
  · obtain ⟨B, -⟩ := B
    refine z_tableIn 6 123 rfl 6 (by rw [c5_6]; decide) (by decide) (by decide) rfl (by decide) ?_
    have B := B c5_6
    refine z_aload_n 37 rfl rfl ?_
    refine z_getR 38 rfl lX10_69 rfl (zcl1.o hS 132 9 rfl rfl rfl) (zcl1.r hS 132 34 151 rfl rfl rfl) ?_
    refine z_iconst (v := 0) 39 rfl (by decide) ?_
    refine z_iald_c 40 0 rfl (by decide) (zcl1.o hS 151 100 rfl rfl rfl) (zin (zcl1.l hS 151 23 rfl rfl rfl) (zvp (by decide))) ?_
    exact z_iret 41 rfl rfl rfl ⟨rfl, rfl⟩ ⟨_, rfl, B⟩
  obtain ⟨-, B⟩ := B
  by_cases c5_7 : x1 = 7
  · obtain ⟨B, -⟩ := B
    refine z_tableIn 6 130 rfl 7 (by rw [c5_7]; decide) (by decide) (by decide) rfl (by decide) ?_
    have B := B c5_7
    refine z_aload_n 42 rfl rfl ?_
    refine z_getR 43 rfl lX10_72 rfl (zcl1.o hS 132 9 rfl rfl rfl) (zcl1.r hS 132 35 152 rfl rfl rfl) ?_
    refine z_iconst (v := 0) 44 rfl (by decide) ?_
    refine z_iald_c 45 0 rfl (by decide) (zcl1.o hS 152 100 rfl rfl rfl) (zin (zcl1.l hS 152 23 rfl rfl rfl) (zvp (by decide))) ?_
    exact z_iret 46 rfl rfl rfl ⟨rfl, rfl⟩ ⟨_, rfl, B⟩
  obtain ⟨-, B⟩ := B
  by_cases c5_8 : x1 = 8
  · obtain ⟨B, -⟩ := B
    refine z_tableIn 6 137 rfl 8 (by rw [c5_8]; decide) (by decide) (by decide) rfl (by decide) ?_
    have B := B c5_8
    refine z_aload_n 47 rfl rfl ?_
    refine z_getR 48 rfl lX10_75 rfl (zcl1.o hS 132 9 rfl rfl rfl) (zcl1.r hS 132 36 153 rfl rfl rfl) ?_
    refine z_iconst (v := 0) 49 rfl (by decide) ?_
    refine z_iald_c 50 0 rfl (by decide) (zcl1.o hS 153 100 rfl rfl rfl) (zin (zcl1.l hS 153 23 rfl rfl rfl) (zvp (by decide))) ?_
    exact z_iret 51 rfl rfl rfl ⟨rfl, rfl⟩ ⟨_, rfl, B⟩
  obtain ⟨-, B⟩ := B
  by_cases c5_9 : x1 = 9
  · obtain ⟨B, -⟩ := B
    refine z_tableIn 6 144 rfl 9 (by rw [c5_9]; decide) (by decide) (by decide) rfl (by decide) ?_
    have B := B c5_9
    refine z_aload_n 52 rfl rfl ?_
    refine z_getR 53 rfl lX10_78 rfl (zcl1.o hS 132 9 rfl rfl rfl) (zcl1.r hS 132 37 154 rfl rfl rfl) ?_
    refine z_iconst (v := 0) 54 rfl (by decide) ?_
    refine z_iald_c 55 0 rfl (by decide) (zcl1.o hS 154 100 rfl rfl rfl) (zin (zcl1.l hS 154 23 rfl rfl rfl) (zvp (by decide))) ?_
    exact z_iret 56 rfl rfl rfl ⟨rfl, rfl⟩ ⟨_, rfl, B⟩
  obtain ⟨-, B⟩ := B
  by_cases c5_10 : x1 = 10
  · obtain ⟨B, -⟩ := B
    refine z_tableIn 6 151 rfl 10 (by rw [c5_10]; decide) (by decide) (by decide) rfl (by decide) ?_
    have B := B c5_10
    refine z_iconst (v := 0) 57 rfl (by decide) ?_
    refine z_istore_n 58 rfl (by decide) rfl ?_
    exact B
  obtain ⟨-, B⟩ := B
  by_cases c5_11 : x1 = 11
  · obtain ⟨B, -⟩ := B
    refine z_tableIn 6 180 rfl 11 (by rw [c5_11]; decide) (by decide) (by decide) rfl (by decide) ?_
    have B := B c5_11
    refine z_aload_n 76 rfl rfl ?_
    refine z_getI 77 rfl lX10_316 rfl (zcl1.o hS 132 9 rfl rfl rfl) ?_
    exact z_iret 78 rfl rfl rfl ⟨rfl, rfl⟩ ⟨_, rfl, B⟩
  obtain ⟨-, B⟩ := B
  by_cases c5_12 : x1 = 12
  · obtain ⟨B, -⟩ := B
    refine z_tableIn 6 185 rfl 12 (by rw [c5_12]; decide) (by decide) (by decide) rfl (by decide) ?_
    have B := B c5_12
    refine z_aload_n 79 rfl rfl ?_
    obtain ⟨Q1, K3, B⟩ := B
    refine z_cVI0 (ν := mX10_knownMany) 80 rfl rfl fX10_knownMany gX10_464 ⟨_, rfl, rfl⟩ (by decide) (zcl1.o hS 132 9 rfl rfl rfl) (Nat.le_of_ble_eq_true rfl) K3 (fun v4 h2 q => ?_)
    obtain ⟨hSh2, B⟩ := B v4 h2 q
    exact z_iret 81 rfl rfl rfl ⟨rfl, rfl⟩ ⟨_, rfl, B⟩
  obtain ⟨-, B⟩ := B
  by_cases c5_13 : x1 = 13
  · obtain ⟨B, -⟩ := B
    refine z_tableIn 6 190 rfl 13 (by rw [c5_13]; decide) (by decide) (by decide) rfl (by decide) ?_
    have B := B c5_13
    refine z_aload_n 82 rfl rfl ?_
    refine z_getI 83 rfl lX10_323 rfl (zcl1.o hS 132 9 rfl rfl rfl) ?_
    exact z_iret 84 rfl rfl rfl ⟨rfl, rfl⟩ ⟨_, rfl, B⟩
  obtain ⟨-, B⟩ := B
  have B := B c5_0 c5_1 c5_2 c5_3 c5_4 c5_5 c5_6 c5_7 c5_8 c5_9 c5_10 c5_11 c5_12 c5_13
  refine z_tableD 6 195 rfl (by decide) (by
    intro z1 z2
    refine zsw_X10_count_8 z1 z2 c5_0 c5_1 c5_2 c5_3 c5_4 c5_5 c5_6 c5_7 c5_8 c5_9 c5_10 c5_11 c5_12 c5_13) ?_
  refine z_iconst (v := -1) 85 rfl (by decide) ?_
  exact z_iret 86 rfl rfl rfl ⟨rfl, rfl⟩ ⟨_, rfl, B⟩
theorem cn_X10_count {G : zG} {d : Nat} {h : zMem} {Q : Int32 → zMem → Prop} {x1 : Int32} (B : zg G mX10_count (d + 1) 0 [.ref 132, .int x1, zU, zU] [] h (zPI Q)) : zConI G mX10_count (d + 1) [.ref 132, .int x1] h Q := zcon0 (by decide +kernel) eX10_count (Nat.le_of_ble_eq_true rfl) rfl B
set_option maxRecDepth 100000 in
set_option maxHeartbeats 4000000 in
theorem sg_X10_count_153 {G : zG} {d : Nat} {h : zMem} {Q : Int32 → zMem → Prop} {x1 : Int32} {x2 : Int32} {x3 : Int32} (hS : zSh2 h)  (B : ((zI h 134 0) ≤ x3 → Q x2 h) ∧ (¬ (zI h 134 0) ≤ x3 → vp_in x3 138 ∧ zg G mX10_count (d + 1) 153 [.ref 132, .int x1, .int (x2 + (zI h 156 x3.toNatClampNeg)), .int (x3 + 1)] [] h (zPI Q))) : zg G mX10_count (d + 1) 153 [.ref 132, .int x1, .int x2, .int x3] [] h (zPI Q) := by
  refine z_iload_n 59 rfl rfl ?_
  refine z_aload_n 60 rfl rfl ?_
  refine z_getR 61 rfl lX10_13 rfl (zcl1.o hS 132 9 rfl rfl rfl) (zcl1.r hS 132 3 134 rfl rfl rfl) ?_
  refine z_iconst (v := 0) 62 rfl (by decide) ?_
  refine z_iald_c 63 0 rfl (by decide) (zcl1.o hS 134 100 rfl rfl rfl) (zin (zcl1.l hS 134 16 rfl rfl rfl) (zvp (by decide))) ?_
  refine z_icmp_ge 64 178 rfl (by decide) ⟨fun c1 => ?_, fun c1 => ?_⟩
  · have B := B.1 c1
    refine z_iload_n 74 rfl rfl ?_
    exact z_iret 75 rfl rfl rfl ⟨rfl, rfl⟩ ⟨_, rfl, B⟩
  · have B := B.2 c1
    refine z_iload_n 65 rfl rfl ?_
    refine z_aload_n 66 rfl rfl ?_
    refine z_getR 67 rfl lX10_84 rfl (zcl1.o hS 132 9 rfl rfl rfl) (zcl1.r hS 132 39 156 rfl rfl rfl) ?_
    refine z_iload_n 68 rfl rfl ?_
    obtain ⟨o2, B⟩ := B
    refine z_iald 69 rfl (zcl1.o hS 156 100 rfl rfl rfl) (zin (zcl1.l hS 156 138 rfl rfl rfl) o2) ?_
    refine z_iadd 70 rfl ?_
    refine z_istore_n 71 rfl (by decide) rfl ?_
    refine z_iinc (v := 1) 72 rfl rfl (by decide) (by decide) rfl ?_
    refine z_goto 73 153 rfl (by decide) ?_
    exact B
