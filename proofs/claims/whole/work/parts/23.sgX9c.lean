set_option maxRecDepth 100000 in
set_option maxHeartbeats 4000000 in
theorem sg_X9_chance_0 {G : zG} {d : Nat} {h : zMem} {Q : Int32 → zMem → Prop} {t : Nat} {x1 : Int32} {x2 : Int32} {x3 : Int32} (hS : zSh1 h t)  (B : (x1 < 0 → Q (-1 : Int32) h) ∧ (¬ x1 < 0 → (x2 < (1 : Int32) → Q (-1 : Int32) h) ∧ (¬ x2 < (1 : Int32) → ((40 : Int32) < x2 → Q (-1 : Int32) h) ∧ (¬ (40 : Int32) < x2 → (x3 < 0 → Q (-1 : Int32) h) ∧ (¬ x3 < 0 → ((40 : Int32) < x3 → Q (-1 : Int32) h) ∧ (¬ (40 : Int32) < x3 → (¬ (zI h (t + 1) 0) = 0 → ∃ Q7 : zMem → Prop, zConV G mX2_begin d [.ref 99, .int x1] h Q7 ∧ (∀ h8, Q7 h8 → zSh1 h8 t ∧ zg G mX9_chance (d + 1) 53 [.ref 0, .int x1, .int x2, .int x3, .int (0 : Int32), .int (0 : Int32), zU] [] h8 (zPI Q))) ∧ ((zI h (t + 1) 0) = 0 → Q (-1 : Int32) h))))))) : zg G mX9_chance (d + 1) 0 [.ref 0, .int x1, .int x2, .int x3, zU, zU, zU] [] h (zPI Q) := by
  refine z_iload_n 0 rfl rfl ?_
  refine z_if_lt 1 37 rfl (by decide) ⟨fun c1 => ?_, fun c1 => ?_⟩
  · have B := B.1 c1
    refine z_iconst (v := -1) 19 rfl (by decide) ?_
    exact z_iret 20 rfl rfl rfl ⟨rfl, rfl⟩ ⟨_, rfl, B⟩
  · have B := B.2 c1
    refine z_iload_n 2 rfl rfl ?_
    refine z_iconst (v := 1) 3 rfl (by decide) ?_
    refine z_icmp_lt 4 37 rfl (by decide) ⟨fun c2 => ?_, fun c2 => ?_⟩
    · have B := B.1 c2
      refine z_iconst (v := -1) 19 rfl (by decide) ?_
      exact z_iret 20 rfl rfl rfl ⟨rfl, rfl⟩ ⟨_, rfl, B⟩
    · have B := B.2 c2
      refine z_iload_n 5 rfl rfl ?_
      refine z_bipush (v := 40) 6 rfl (by decide) ?_
      refine z_icmp_gt 7 37 rfl (by decide) ⟨fun c3 => ?_, fun c3 => ?_⟩
      · have B := B.1 c3
        refine z_iconst (v := -1) 19 rfl (by decide) ?_
        exact z_iret 20 rfl rfl rfl ⟨rfl, rfl⟩ ⟨_, rfl, B⟩
      · have B := B.2 c3
        refine z_iload_n 8 rfl rfl ?_
        refine z_if_lt 9 37 rfl (by decide) ⟨fun c4 => ?_, fun c4 => ?_⟩
        · have B := B.1 c4
          refine z_iconst (v := -1) 19 rfl (by decide) ?_
          exact z_iret 20 rfl rfl rfl ⟨rfl, rfl⟩ ⟨_, rfl, B⟩
        · have B := B.2 c4
          refine z_iload_n 10 rfl rfl ?_
          refine z_bipush (v := 40) 11 rfl (by decide) ?_
          refine z_icmp_gt 12 37 rfl (by decide) ⟨fun c5 => ?_, fun c5 => ?_⟩
          · have B := B.1 c5
            refine z_iconst (v := -1) 19 rfl (by decide) ?_
            exact z_iret 20 rfl rfl rfl ⟨rfl, rfl⟩ ⟨_, rfl, B⟩
          · have B := B.2 c5
            refine z_aload_n 13 rfl rfl ?_
            refine z_getR 14 rfl lX9_67 rfl (hS.1.o 0 8 rfl rfl rfl) hS.2.2.1 ?_
            refine z_getR 15 rfl lX9_208 rfl (zS_to hS hS.2.1 0 6 rfl rfl) (zS_tr hS hS.2.1 0 0 1 rfl rfl rfl) ?_
            refine z_iconst (v := 0) 16 rfl (by decide) ?_
            refine z_iald_c 17 0 rfl (by decide) (zS_to hS hS.2.1 1 100 rfl rfl) (zin (zS_tl hS hS.2.1 1 4 rfl rfl) (zvp (by decide))) ?_
            refine z_if_ne 18 39 rfl (by decide) ⟨fun c6 => ?_, fun c6 => ?_⟩
            · have B := B.1 c6
              refine z_aload_n 21 rfl rfl ?_
              refine z_getR 22 rfl lX9_50 rfl (hS.1.o 0 8 rfl rfl rfl) (hS.1.r 0 7 99 rfl rfl rfl) ?_
              refine z_iload_n 23 rfl rfl ?_
              obtain ⟨Q7, K9, B⟩ := B
              refine z_cVV1 (ν := mX2_begin) 24 rfl rfl fX2_begin gX9_293 ⟨_, rfl, rfl⟩ (by decide) (hS.1.o 99 2 rfl rfl rfl) (Nat.le_of_ble_eq_true rfl) K9 (fun h8 q => ?_)
              obtain ⟨hSh8, B⟩ := B h8 q
              refine z_iconst (v := 0) 25 rfl (by decide) ?_
              refine z_istore 26 rfl (by decide) rfl ?_
              refine z_iconst (v := 0) 27 rfl (by decide) ?_
              refine z_istore 28 rfl (by decide) rfl ?_
              exact B
            · have B := B.2 c6
              refine z_iconst (v := -1) 19 rfl (by decide) ?_
              exact z_iret 20 rfl rfl rfl ⟨rfl, rfl⟩ ⟨_, rfl, B⟩
theorem cn_X9_chance {G : zG} {d : Nat} {h : zMem} {Q : Int32 → zMem → Prop} {x1 : Int32} {x2 : Int32} {x3 : Int32} (B : zg G mX9_chance (d + 1) 0 [.ref 0, .int x1, .int x2, .int x3, zU, zU, zU] [] h (zPI Q)) : zConI G mX9_chance (d + 1) [.ref 0, .int x1, .int x2, .int x3] h Q := zcon0 (by decide +kernel) eX9_chance (Nat.le_of_ble_eq_true rfl) rfl B
set_option maxRecDepth 100000 in
set_option maxHeartbeats 4000000 in
theorem sg_X9_chance_53 {G : zG} {d : Nat} {h : zMem} {Q : Int32 → zMem → Prop} {t : Nat} {x1 : Int32} {x2 : Int32} {x3 : Int32} {x4 : Int32} {x5 : Int32} (hS : zSh1 h t)  (B : ((10 : Int32) ≤ x5 → Q x4 h) ∧ (¬ (10 : Int32) ≤ x5 → ∃ Q2 : zMem → Prop, zConV G mX5_copy d [.ref 82, .ref 48] h Q2 ∧ (∀ h3, Q2 h3 → zSh1 h3 t ∧ zg G mX9_chance (d + 1) 74 [.ref 0, .int x1, .int x2, .int x3, .int x4, .int x5, .int (0 : Int32)] [] h3 (zPI Q)))) : zg G mX9_chance (d + 1) 53 [.ref 0, .int x1, .int x2, .int x3, .int x4, .int x5, zU] [] h (zPI Q) := by
  refine z_iload 29 rfl rfl ?_
  refine z_bipush (v := 10) 30 rfl (by decide) ?_
  refine z_icmp_ge 31 129 rfl (by decide) ⟨fun c1 => ?_, fun c1 => ?_⟩
  · have B := B.1 c1
    refine z_iload 63 rfl rfl ?_
    exact z_iret 64 rfl rfl rfl ⟨rfl, rfl⟩ ⟨_, rfl, B⟩
  · have B := B.2 c1
    refine z_aload_n 32 rfl rfl ?_
    refine z_getR 33 rfl lX9_44 rfl (hS.1.o 0 8 rfl rfl rfl) (hS.1.r 0 6 82 rfl rfl rfl) ?_
    refine z_aload_n 34 rfl rfl ?_
    refine z_getR 35 rfl lX9_37 rfl (hS.1.o 0 8 rfl rfl rfl) (hS.1.r 0 4 48 rfl rfl rfl) ?_
    obtain ⟨Q2, K4, B⟩ := B
    refine z_cVV1 (ν := mX5_copy) 36 rfl rfl fX5_copy gX9_226 ⟨_, rfl, rfl⟩ (by decide) (hS.1.o 82 5 rfl rfl rfl) (Nat.le_of_ble_eq_true rfl) K4 (fun h3 q => ?_)
    obtain ⟨hSh3, B⟩ := B h3 q
    refine z_iconst (v := 0) 37 rfl (by decide) ?_
    refine z_istore 38 rfl (by decide) rfl ?_
    exact B
set_option maxRecDepth 100000 in
set_option maxHeartbeats 4000000 in
theorem sg_X9_chance_74 {G : zG} {d : Nat} {h : zMem} {Q : Int32 → zMem → Prop} {t : Nat} {x1 : Int32} {x2 : Int32} {x3 : Int32} {x4 : Int32} {x5 : Int32} {x6 : Int32} (hS : zSh1 h t)  (B : (x2 ≤ x6 → (((zI h 82 12) - (zI h 48 12)) < x3 → zg G mX9_chance (d + 1) 53 [.ref 0, .int x1, .int x2, .int x3, .int x4, .int (x5 + 1), zU] [] h (zPI Q)) ∧ (¬ ((zI h 82 12) - (zI h 48 12)) < x3 → zg G mX9_chance (d + 1) 53 [.ref 0, .int x1, .int x2, .int x3, .int (x4 + 1), .int (x5 + 1), zU] [] h (zPI Q))) ∧ (¬ x2 ≤ x6 → ∃ Q3 : zMem → Prop, zConV G mX9_blowByChance d [.ref 0] h Q3 ∧ (∀ h4, Q3 h4 → zSh1 h4 t ∧ ∃ Q6 : zMem → Prop, zConV G mX5_goThroughMorning d [.ref 82, .ref t] h4 Q6 ∧ (∀ h7, Q6 h7 → zSh1 h7 t ∧ zg G mX9_chance (d + 1) 74 [.ref 0, .int x1, .int x2, .int x3, .int x4, .int x5, .int (x6 + 1)] [] h7 (zPI Q))))) : zg G mX9_chance (d + 1) 74 [.ref 0, .int x1, .int x2, .int x3, .int x4, .int x5, .int x6] [] h (zPI Q) := by
  refine z_iload 39 rfl rfl ?_
  refine z_iload_n 40 rfl rfl ?_
  refine z_icmp_ge 41 101 rfl (by decide) ⟨fun c1 => ?_, fun c1 => ?_⟩
  · have B := B.1 c1
    refine z_aload_n 51 rfl rfl ?_
    refine z_getR 52 rfl lX9_44 rfl (hS.1.o 0 8 rfl rfl rfl) (hS.1.r 0 6 82 rfl rfl rfl) ?_
    refine z_getI 53 rfl lX9_298 rfl (hS.1.o 82 5 rfl rfl rfl) ?_
    refine z_aload_n 54 rfl rfl ?_
    refine z_getR 55 rfl lX9_37 rfl (hS.1.o 0 8 rfl rfl rfl) (hS.1.r 0 4 48 rfl rfl rfl) ?_
    refine z_getI 56 rfl lX9_298 rfl (hS.1.o 48 5 rfl rfl rfl) ?_
    refine z_isub 57 rfl ?_
    refine z_iload_n 58 rfl rfl ?_
    refine z_icmp_lt 59 123 rfl (by decide) ⟨fun c2 => ?_, fun c2 => ?_⟩
    · have B := B.1 c2
      refine z_iinc (v := 1) 61 rfl rfl (by decide) (by decide) rfl ?_
      refine z_goto 62 53 rfl (by decide) ?_
      refine z_drop 6 ?_
      exact B
    · have B := B.2 c2
      refine z_iinc (v := 1) 60 rfl rfl (by decide) (by decide) rfl ?_
      refine z_iinc (v := 1) 61 rfl rfl (by decide) (by decide) rfl ?_
      refine z_goto 62 53 rfl (by decide) ?_
      refine z_drop 6 ?_
      exact B
  · have B := B.2 c1
    refine z_aload_n 42 rfl rfl ?_
    obtain ⟨Q3, K5, B⟩ := B
    refine z_cVV0 (ν := mX9_blowByChance) 43 rfl rfl fX9_blowByChance gX9_295 ⟨_, rfl, rfl⟩ (by decide) (hS.1.o 0 8 rfl rfl rfl) (Nat.le_of_ble_eq_true rfl) K5 (fun h4 q => ?_)
    obtain ⟨hSh4, B⟩ := B h4 q
    refine z_aload_n 44 rfl rfl ?_
    refine z_getR 45 rfl lX9_44 rfl (hSh4.1.o 0 8 rfl rfl rfl) (hSh4.1.r 0 6 82 rfl rfl rfl) ?_
    refine z_aload_n 46 rfl rfl ?_
    refine z_getR 47 rfl lX9_67 rfl (hSh4.1.o 0 8 rfl rfl rfl) hSh4.2.2.1 ?_
    obtain ⟨Q6, K8, B⟩ := B
    refine z_cVV1 (ν := mX5_goThroughMorning) 48 rfl rfl fX5_goThroughMorning gX9_198 ⟨_, rfl, rfl⟩ (by decide) (hSh4.1.o 82 5 rfl rfl rfl) (Nat.le_of_ble_eq_true rfl) K8 (fun h7 q => ?_)
    obtain ⟨hSh7, B⟩ := B h7 q
    refine z_iinc (v := 1) 49 rfl rfl (by decide) (by decide) rfl ?_
    refine z_goto 50 74 rfl (by decide) ?_
    exact B
set_option maxRecDepth 100000 in
set_option maxHeartbeats 4000000 in
theorem sg_X9_blowByChance_0 {G : zG} {d : Nat} {h : zMem} {Q : zMem → Prop} {t : Nat}  (hS : zSh1 h t)  (B : ∃ Q1 : Int32 → zMem → Prop, zConI G mX2_draw d [.ref 99] h Q1 ∧ (∀ v4 h2, Q1 v4 h2 → zSh1 h2 t ∧ (¬ (v4 - v4 / (4 : Int32) * (4 : Int32)) = 0 → Q h2) ∧ ((v4 - v4 / (4 : Int32) * (4 : Int32)) = 0 → ((zI h (t + 1) 0) ≤ 0 → Q h2) ∧ (¬ (zI h (t + 1) 0) ≤ 0 → ∃ Q7 : Int32 → zMem → Prop, zConI G mX2_draw d [.ref 99] h2 Q7 ∧ (∀ v10 h8, Q7 v10 h8 → zSh1 h8 t ∧ ¬ (zI h (t + 1) 0) = 0 ∧ vp_in (v10 - v10 / (zI h (t + 1) 0) * (zI h (t + 1) 0)) 6 ∧ Q (zsI h8 84 (v10 - v10 / (zI h (t + 1) 0) * (zI h (t + 1) 0)).toNatClampNeg (9 : Int32))))))) : zg G mX9_blowByChance (d + 1) 0 [.ref 0, zU] [] h (zPV Q) := by
  refine z_aload_n 0 rfl rfl ?_
  refine z_getR 1 rfl lX9_67 rfl (hS.1.o 0 8 rfl rfl rfl) hS.2.2.1 ?_
  refine z_getR 2 rfl lX9_208 rfl (zS_to hS hS.2.1 0 6 rfl rfl) (zS_tr hS hS.2.1 0 0 1 rfl rfl rfl) ?_
  refine z_iconst (v := 0) 3 rfl (by decide) ?_
  refine z_iald_c 4 0 rfl (by decide) (zS_to hS hS.2.1 1 100 rfl rfl) (zin (zS_tl hS hS.2.1 1 4 rfl rfl) (zvp (by decide))) ?_
  refine z_istore_n 5 rfl (by decide) rfl ?_
  refine z_aload_n 6 rfl rfl ?_
  refine z_getR 7 rfl lX9_50 rfl (hS.1.o 0 8 rfl rfl rfl) (hS.1.r 0 7 99 rfl rfl rfl) ?_
  obtain ⟨Q1, K3, B⟩ := B
  refine z_cVI0 (ν := mX2_draw) 8 rfl rfl fX2_draw gX9_301 ⟨_, rfl, rfl⟩ (by decide) (hS.1.o 99 2 rfl rfl rfl) (Nat.le_of_ble_eq_true rfl) K3 (fun v4 h2 q => ?_)
  obtain ⟨hSh2, B⟩ := B v4 h2 q
  refine z_iconst (v := 4) 9 rfl (by decide) ?_
  refine z_irem 10 rfl (by decide) ?_
  refine z_if_ne 11 45 rfl (by decide) ⟨fun c5 => ?_, fun c5 => ?_⟩
  · have B := B.1 c5
    exact z_vret 24 rfl rfl ⟨rfl, rfl⟩ ⟨rfl, B⟩
  · have B := B.2 c5
    refine z_iload_n 12 rfl rfl ?_
    refine z_if_le 13 45 rfl (by decide) ⟨fun c6 => ?_, fun c6 => ?_⟩
    · have B := B.1 c6
      exact z_vret 24 rfl rfl ⟨rfl, rfl⟩ ⟨rfl, B⟩
    · have B := B.2 c6
      refine z_aload_n 14 rfl rfl ?_
      refine z_getR 15 rfl lX9_44 rfl (hSh2.1.o 0 8 rfl rfl rfl) (hSh2.1.r 0 6 82 rfl rfl rfl) ?_
      refine z_getR 16 rfl lX9_155 rfl (hSh2.1.o 82 5 rfl rfl rfl) (hSh2.1.r 82 1 84 rfl rfl rfl) ?_
      refine z_aload_n 17 rfl rfl ?_
      refine z_getR 18 rfl lX9_50 rfl (hSh2.1.o 0 8 rfl rfl rfl) (hSh2.1.r 0 7 99 rfl rfl rfl) ?_
      obtain ⟨Q7, K9, B⟩ := B
      refine z_cVI0 (ν := mX2_draw) 19 rfl rfl fX2_draw gX9_301 ⟨_, rfl, rfl⟩ (by decide) (hSh2.1.o 99 2 rfl rfl rfl) (Nat.le_of_ble_eq_true rfl) K9 (fun v10 h8 q => ?_)
      obtain ⟨hSh8, B⟩ := B v10 h8 q
      refine z_iload_n 20 rfl rfl ?_
      obtain ⟨o11, B⟩ := B
      refine z_irem 21 rfl o11 ?_
      refine z_bipush (v := 9) 22 rfl (by decide) ?_
      obtain ⟨o12, B⟩ := B
      refine z_iast 23 rfl (hSh8.1.o 84 100 rfl rfl rfl) (zin (hSh8.1.l 84 6 rfl rfl rfl) o12) ?_
      exact z_vret 24 rfl rfl ⟨rfl, rfl⟩ ⟨rfl, B⟩
theorem cn_X9_blowByChance {G : zG} {d : Nat} {h : zMem} {Q : zMem → Prop}  (B : zg G mX9_blowByChance (d + 1) 0 [.ref 0, zU] [] h (zPV Q)) : zConV G mX9_blowByChance (d + 1) [.ref 0] h Q := zcon0 (by decide +kernel) eX9_blowByChance (Nat.le_of_ble_eq_true rfl) rfl B
set_option maxRecDepth 100000 in
set_option maxHeartbeats 4000000 in
theorem sg_X9_tried_0 {G : zG} {d : Nat} {h : zMem} {Q : Int32 → zMem → Prop} {t : Nat} {x1 : Int32} {x2 : Int32} {x3 : Int32} (hS : zSh1 h t)  (B : (¬ x1 = (3 : Int32) → (¬ x2 = 0 → zg G mX9_tried (d + 1) 23 [.ref 0, .int x1, .int x2, .int x3, zU, zU] [.int (0 : Int32)] h (zPI Q)) ∧ (x2 = 0 → zg G mX9_tried (d + 1) 23 [.ref 0, .int x1, .int x2, .int x3, zU, zU] [.int (1 : Int32)] h (zPI Q))) ∧ (x1 = (3 : Int32) → ∃ Q3 : Int32 → zMem → Prop, zConI G mX9_has d [.ref 0, .int (3 : Int32), .int x2] h Q3 ∧ (∀ v6 h4, Q3 v6 h4 → zSh1 h4 t ∧ zg G mX9_tried (d + 1) 23 [.ref 0, .int x1, .int x2, .int x3, zU, zU] [.int v6] h4 (zPI Q)))) : zg G mX9_tried (d + 1) 0 [.ref 0, .int x1, .int x2, .int x3, zU, zU] [] h (zPI Q) := by
  refine z_iload_n 0 rfl rfl ?_
  refine z_iconst (v := 3) 1 rfl (by decide) ?_
  refine z_icmp_ne 2 14 rfl (by decide) ⟨fun c1 => ?_, fun c1 => ?_⟩
  · have B := B.1 c1
    refine z_iload_n 8 rfl rfl ?_
    refine z_if_ne 9 22 rfl (by decide) ⟨fun c2 => ?_, fun c2 => ?_⟩
    · have B := B.1 c2
      refine z_iconst (v := 0) 12 rfl (by decide) ?_
      exact B
    · have B := B.2 c2
      refine z_iconst (v := 1) 10 rfl (by decide) ?_
      refine z_goto 11 23 rfl (by decide) ?_
      exact B
  · have B := B.2 c1
    refine z_aload_n 3 rfl rfl ?_
    refine z_iconst (v := 3) 4 rfl (by decide) ?_
    refine z_iload_n 5 rfl rfl ?_
    obtain ⟨Q3, K5, B⟩ := B
    refine z_cVI2 (ν := mX9_has) 6 rfl rfl fX9_has gX9_117 ⟨_, rfl, rfl⟩ (by decide) (hS.1.o 0 8 rfl rfl rfl) (Nat.le_of_ble_eq_true rfl) K5 (fun v6 h4 q => ?_)
    obtain ⟨hSh4, B⟩ := B v6 h4 q
    refine z_goto 7 23 rfl (by decide) ?_
    exact B
theorem cn_X9_tried {G : zG} {d : Nat} {h : zMem} {Q : Int32 → zMem → Prop} {x1 : Int32} {x2 : Int32} {x3 : Int32} (B : zg G mX9_tried (d + 1) 0 [.ref 0, .int x1, .int x2, .int x3, zU, zU] [] h (zPI Q)) : zConI G mX9_tried (d + 1) [.ref 0, .int x1, .int x2, .int x3] h Q := zcon0 (by decide +kernel) eX9_tried (Nat.le_of_ble_eq_true rfl) rfl B
set_option maxRecDepth 100000 in
set_option maxHeartbeats 4000000 in
theorem sg_X9_tried_23 {G : zG} {d : Nat} {h : zMem} {Q : Int32 → zMem → Prop} {t : Nat} {x1 : Int32} {x2 : Int32} {x3 : Int32} {xs0 : Int32} (hS : zSh1 h t)  (B : (x1 < 0 → Q (-1 : Int32) h) ∧ (¬ x1 < 0 → ((5 : Int32) < x1 → Q (-1 : Int32) h) ∧ (¬ (5 : Int32) < x1 → (xs0 = 0 → Q (-1 : Int32) h) ∧ (¬ xs0 = 0 → (x3 < 0 → Q (-1 : Int32) h) ∧ (¬ x3 < 0 → (x3 ≤ (99 : Int32) → ∃ Q6 : zMem → Prop, zConV G mX5_copy d [.ref 82, .ref 48] h Q6 ∧ (∀ h7, Q6 h7 → zSh1 h7 t ∧ ∃ Q9 : zMem → Prop, zConV G mX9_changeTrial d [.ref 0, .int x1, .int x2] h7 Q9 ∧ (∀ h10, Q9 h10 → zSh1 h10 t ∧ zg G mX9_tried (d + 1) 71 [.ref 0, .int x1, .int x2, .int x3, .int xs0, .int (0 : Int32)] [] h10 (zPI Q)))) ∧ (¬ x3 ≤ (99 : Int32) → Q (-1 : Int32) h)))))) : zg G mX9_tried (d + 1) 23 [.ref 0, .int x1, .int x2, .int x3, zU, zU] [.int xs0] h (zPI Q) := by
  refine z_istore 13 rfl (by decide) rfl ?_
  refine z_iload_n 14 rfl rfl ?_
  refine z_if_lt 15 49 rfl (by decide) ⟨fun c1 => ?_, fun c1 => ?_⟩
  · have B := B.1 c1
    refine z_iconst (v := -1) 26 rfl (by decide) ?_
    exact z_iret 27 rfl rfl rfl ⟨rfl, rfl⟩ ⟨_, rfl, B⟩
  · have B := B.2 c1
    refine z_iload_n 16 rfl rfl ?_
    refine z_iconst (v := 5) 17 rfl (by decide) ?_
    refine z_icmp_gt 18 49 rfl (by decide) ⟨fun c2 => ?_, fun c2 => ?_⟩
    · have B := B.1 c2
      refine z_iconst (v := -1) 26 rfl (by decide) ?_
      exact z_iret 27 rfl rfl rfl ⟨rfl, rfl⟩ ⟨_, rfl, B⟩
    · have B := B.2 c2
      refine z_iload 19 rfl rfl ?_
      refine z_if_eq 20 49 rfl (by decide) ⟨fun c3 => ?_, fun c3 => ?_⟩
      · have B := B.1 c3
        refine z_iconst (v := -1) 26 rfl (by decide) ?_
        exact z_iret 27 rfl rfl rfl ⟨rfl, rfl⟩ ⟨_, rfl, B⟩
      · have B := B.2 c3
        refine z_iload_n 21 rfl rfl ?_
        refine z_if_lt 22 49 rfl (by decide) ⟨fun c4 => ?_, fun c4 => ?_⟩
        · have B := B.1 c4
          refine z_iconst (v := -1) 26 rfl (by decide) ?_
          exact z_iret 27 rfl rfl rfl ⟨rfl, rfl⟩ ⟨_, rfl, B⟩
        · have B := B.2 c4
          refine z_iload_n 23 rfl rfl ?_
          refine z_bipush (v := 99) 24 rfl (by decide) ?_
          refine z_icmp_le 25 51 rfl (by decide) ⟨fun c5 => ?_, fun c5 => ?_⟩
          · have B := B.1 c5
            refine z_aload_n 28 rfl rfl ?_
            refine z_getR 29 rfl lX9_44 rfl (hS.1.o 0 8 rfl rfl rfl) (hS.1.r 0 6 82 rfl rfl rfl) ?_
            refine z_aload_n 30 rfl rfl ?_
            refine z_getR 31 rfl lX9_37 rfl (hS.1.o 0 8 rfl rfl rfl) (hS.1.r 0 4 48 rfl rfl rfl) ?_
            obtain ⟨Q6, K8, B⟩ := B
            refine z_cVV1 (ν := mX5_copy) 32 rfl rfl fX5_copy gX9_226 ⟨_, rfl, rfl⟩ (by decide) (hS.1.o 82 5 rfl rfl rfl) (Nat.le_of_ble_eq_true rfl) K8 (fun h7 q => ?_)
            obtain ⟨hSh7, B⟩ := B h7 q
            refine z_aload_n 33 rfl rfl ?_
            refine z_iload_n 34 rfl rfl ?_
            refine z_iload_n 35 rfl rfl ?_
            obtain ⟨Q9, K11, B⟩ := B
            refine z_cVV2 (ν := mX9_changeTrial) 36 rfl rfl fX9_changeTrial gX9_304 ⟨_, rfl, rfl⟩ (by decide) (hSh7.1.o 0 8 rfl rfl rfl) (Nat.le_of_ble_eq_true rfl) K11 (fun h10 q => ?_)
            obtain ⟨hSh10, B⟩ := B h10 q
            refine z_iconst (v := 0) 37 rfl (by decide) ?_
            refine z_istore 38 rfl (by decide) rfl ?_
            exact B
          · have B := B.2 c5
            refine z_iconst (v := -1) 26 rfl (by decide) ?_
            exact z_iret 27 rfl rfl rfl ⟨rfl, rfl⟩ ⟨_, rfl, B⟩
set_option maxRecDepth 100000 in
set_option maxHeartbeats 4000000 in
theorem sg_X9_tried_71 {G : zG} {d : Nat} {h : zMem} {Q : Int32 → zMem → Prop} {t : Nat} {x1 : Int32} {x2 : Int32} {x3 : Int32} {x4 : Int32} {x5 : Int32} (hS : zSh1 h t)  (B : (x3 ≤ x5 → Q ((zI h 82 12) - (zI h 48 12)) h) ∧ (¬ x3 ≤ x5 → (¬ x1 = (1 : Int32) → ∃ Q3 : zMem → Prop, zConV G mX5_goThroughMorning d [.ref 82, .ref t] h Q3 ∧ (∀ h4, Q3 h4 → zSh1 h4 t ∧ zg G mX9_tried (d + 1) 71 [.ref 0, .int x1, .int x2, .int x3, .int x4, .int (x5 + 1)] [] h4 (zPI Q))) ∧ (x1 = (1 : Int32) → ∃ Q6 : zMem → Prop, zConV G mX5_clearAir d [.ref 82] h Q6 ∧ (∀ h7, Q6 h7 → zSh1 h7 t ∧ ∃ Q9 : zMem → Prop, zConV G mX5_goThroughMorning d [.ref 82, .ref t] h7 Q9 ∧ (∀ h10, Q9 h10 → zSh1 h10 t ∧ zg G mX9_tried (d + 1) 71 [.ref 0, .int x1, .int x2, .int x3, .int x4, .int (x5 + 1)] [] h10 (zPI Q)))))) : zg G mX9_tried (d + 1) 71 [.ref 0, .int x1, .int x2, .int x3, .int x4, .int x5] [] h (zPI Q) := by
  refine z_iload 39 rfl rfl ?_
  refine z_iload_n 40 rfl rfl ?_
  refine z_icmp_ge 41 106 rfl (by decide) ⟨fun c1 => ?_, fun c1 => ?_⟩
  · have B := B.1 c1
    refine z_aload_n 55 rfl rfl ?_
    refine z_getR 56 rfl lX9_44 rfl (hS.1.o 0 8 rfl rfl rfl) (hS.1.r 0 6 82 rfl rfl rfl) ?_
    refine z_getI 57 rfl lX9_298 rfl (hS.1.o 82 5 rfl rfl rfl) ?_
    refine z_aload_n 58 rfl rfl ?_
    refine z_getR 59 rfl lX9_37 rfl (hS.1.o 0 8 rfl rfl rfl) (hS.1.r 0 4 48 rfl rfl rfl) ?_
    refine z_getI 60 rfl lX9_298 rfl (hS.1.o 48 5 rfl rfl rfl) ?_
    refine z_isub 61 rfl ?_
    exact z_iret 62 rfl rfl rfl ⟨rfl, rfl⟩ ⟨_, rfl, B⟩
  · have B := B.2 c1
    refine z_iload_n 42 rfl rfl ?_
    refine z_iconst (v := 1) 43 rfl (by decide) ?_
    refine z_icmp_ne 44 89 rfl (by decide) ⟨fun c2 => ?_, fun c2 => ?_⟩
    · have B := B.1 c2
      refine z_aload_n 48 rfl rfl ?_
      refine z_getR 49 rfl lX9_44 rfl (hS.1.o 0 8 rfl rfl rfl) (hS.1.r 0 6 82 rfl rfl rfl) ?_
      refine z_aload_n 50 rfl rfl ?_
      refine z_getR 51 rfl lX9_67 rfl (hS.1.o 0 8 rfl rfl rfl) hS.2.2.1 ?_
      obtain ⟨Q3, K5, B⟩ := B
      refine z_cVV1 (ν := mX5_goThroughMorning) 52 rfl rfl fX5_goThroughMorning gX9_198 ⟨_, rfl, rfl⟩ (by decide) (hS.1.o 82 5 rfl rfl rfl) (Nat.le_of_ble_eq_true rfl) K5 (fun h4 q => ?_)
      obtain ⟨hSh4, B⟩ := B h4 q
      refine z_iinc (v := 1) 53 rfl rfl (by decide) (by decide) rfl ?_
      refine z_goto 54 71 rfl (by decide) ?_
      exact B
    · have B := B.2 c2
      refine z_aload_n 45 rfl rfl ?_
      refine z_getR 46 rfl lX9_44 rfl (hS.1.o 0 8 rfl rfl rfl) (hS.1.r 0 6 82 rfl rfl rfl) ?_
      obtain ⟨Q6, K8, B⟩ := B
      refine z_cVV0 (ν := mX5_clearAir) 47 rfl rfl fX5_clearAir gX9_307 ⟨_, rfl, rfl⟩ (by decide) (hS.1.o 82 5 rfl rfl rfl) (Nat.le_of_ble_eq_true rfl) K8 (fun h7 q => ?_)
      obtain ⟨hSh7, B⟩ := B h7 q
      refine z_aload_n 48 rfl rfl ?_
      refine z_getR 49 rfl lX9_44 rfl (hSh7.1.o 0 8 rfl rfl rfl) (hSh7.1.r 0 6 82 rfl rfl rfl) ?_
      refine z_aload_n 50 rfl rfl ?_
      refine z_getR 51 rfl lX9_67 rfl (hSh7.1.o 0 8 rfl rfl rfl) hSh7.2.2.1 ?_
      obtain ⟨Q9, K11, B⟩ := B
      refine z_cVV1 (ν := mX5_goThroughMorning) 52 rfl rfl fX5_goThroughMorning gX9_198 ⟨_, rfl, rfl⟩ (by decide) (hSh7.1.o 82 5 rfl rfl rfl) (Nat.le_of_ble_eq_true rfl) K11 (fun h10 q => ?_)
      obtain ⟨hSh10, B⟩ := B h10 q
      refine z_iinc (v := 1) 53 rfl rfl (by decide) (by decide) rfl ?_
      refine z_goto 54 71 rfl (by decide) ?_
      exact B
set_option maxRecDepth 100000 in
set_option maxHeartbeats 4000000 in
theorem sg_X9_changeTrial_0 {G : zG} {d : Nat} {h : zMem} {Q : zMem → Prop} {t : Nat} {x1 : Int32} {x2 : Int32} (hS : zSh1 h t)  (B : zg G mX9_changeTrial d 2 [.ref 0, .int x1, .int x2, .int (0 : Int32)] [] h (zPV Q)) : zg G mX9_changeTrial d 0 [.ref 0, .int x1, .int x2, zU] [] h (zPV Q) := by
  refine z_iconst (v := 0) 0 rfl (by decide) ?_
  refine z_istore_n 1 rfl (by decide) rfl ?_
  exact B
theorem cn_X9_changeTrial {G : zG} {d : Nat} {h : zMem} {Q : zMem → Prop} {x1 : Int32} {x2 : Int32} (B : zg G mX9_changeTrial d 0 [.ref 0, .int x1, .int x2, zU] [] h (zPV Q)) : zConV G mX9_changeTrial d [.ref 0, .int x1, .int x2] h Q := zcon0 (by decide +kernel) eX9_changeTrial (Nat.le_of_ble_eq_true rfl) rfl B
set_option maxRecDepth 100000 in
set_option maxHeartbeats 4000000 in
theorem sg_X9_changeTrial_2 {G : zG} {d : Nat} {h : zMem} {Q : zMem → Prop} {t : Nat} {x1 : Int32} {x2 : Int32} {x3 : Int32} (hS : zSh1 h t)  (B : (¬ x1 = (2 : Int32) → (¬ x1 = (3 : Int32) → zg G mX9_changeTrial d 43 [.ref 0, .int x1, .int x2, .int (0 : Int32)] [] h (zPV Q)) ∧ (x1 = (3 : Int32) → zg G mX9_changeTrial d 43 [.ref 0, .int x1, .int x2, .int (0 : Int32)] [] (zsI h 82 14 x2) (zPV Q))) ∧ (x1 = (2 : Int32) → ((5 : Int32) ≤ x3 → (¬ x1 = (3 : Int32) → zg G mX9_changeTrial d 43 [.ref 0, .int x1, .int x2, .int (0 : Int32)] [] h (zPV Q)) ∧ (x1 = (3 : Int32) → zg G mX9_changeTrial d 43 [.ref 0, .int x1, .int x2, .int (0 : Int32)] [] (zsI h 82 14 x2) (zPV Q))) ∧ (¬ (5 : Int32) ≤ x3 → vp_in x3 5 ∧ zg G mX9_changeTrial d 2 [.ref 0, .int x1, .int x2, .int (x3 + 1)] [] (zsI h 94 x3.toNatClampNeg (0 : Int32)) (zPV Q)))) : zg G mX9_changeTrial d 2 [.ref 0, .int x1, .int x2, .int x3] [] h (zPV Q) := by
  refine z_iload_n 2 rfl rfl ?_
  refine z_iconst (v := 2) 3 rfl (by decide) ?_
  refine z_icmp_ne 4 28 rfl (by decide) ⟨fun c1 => ?_, fun c1 => ?_⟩
  · have B := B.1 c1
    refine z_iload_n 16 rfl rfl ?_
    refine z_iconst (v := 3) 17 rfl (by decide) ?_
    refine z_icmp_ne 18 41 rfl (by decide) ⟨fun c2 => ?_, fun c2 => ?_⟩
    · have B := B.1 c2
      refine z_iconst (v := 0) 23 rfl (by decide) ?_
      refine z_istore_n 24 rfl (by decide) rfl ?_
      exact B
    · have B := B.2 c2
      refine z_aload_n 19 rfl rfl ?_
      refine z_getR 20 rfl lX9_44 rfl (hS.1.o 0 8 rfl rfl rfl) (hS.1.r 0 6 82 rfl rfl rfl) ?_
      refine z_iload_n 21 rfl rfl ?_
      refine z_putI 22 rfl lX9_310 ⟨_, _, _, rfl, rfl⟩ rfl rfl rfl (hS.1.o 82 5 rfl rfl rfl) ?_
      refine z_iconst (v := 0) 23 rfl (by decide) ?_
      refine z_istore_n 24 rfl (by decide) rfl ?_
      exact B
  · have B := B.2 c1
    refine z_iload_n 5 rfl rfl ?_
    refine z_iconst (v := 5) 6 rfl (by decide) ?_
    refine z_icmp_ge 7 28 rfl (by decide) ⟨fun c3 => ?_, fun c3 => ?_⟩
    · have B := B.1 c3
      refine z_iload_n 16 rfl rfl ?_
      refine z_iconst (v := 3) 17 rfl (by decide) ?_
      refine z_icmp_ne 18 41 rfl (by decide) ⟨fun c4 => ?_, fun c4 => ?_⟩
      · have B := B.1 c4
        refine z_iconst (v := 0) 23 rfl (by decide) ?_
        refine z_istore_n 24 rfl (by decide) rfl ?_
        exact B
      · have B := B.2 c4
        refine z_aload_n 19 rfl rfl ?_
        refine z_getR 20 rfl lX9_44 rfl (hS.1.o 0 8 rfl rfl rfl) (hS.1.r 0 6 82 rfl rfl rfl) ?_
        refine z_iload_n 21 rfl rfl ?_
        refine z_putI 22 rfl lX9_310 ⟨_, _, _, rfl, rfl⟩ rfl rfl rfl (hS.1.o 82 5 rfl rfl rfl) ?_
        refine z_iconst (v := 0) 23 rfl (by decide) ?_
        refine z_istore_n 24 rfl (by decide) rfl ?_
        exact B
    · have B := B.2 c3
      refine z_aload_n 8 rfl rfl ?_
      refine z_getR 9 rfl lX9_44 rfl (hS.1.o 0 8 rfl rfl rfl) (hS.1.r 0 6 82 rfl rfl rfl) ?_
      refine z_getR 10 rfl lX9_134 rfl (hS.1.o 82 5 rfl rfl rfl) (hS.1.r 82 5 94 rfl rfl rfl) ?_
      refine z_iload_n 11 rfl rfl ?_
      refine z_iconst (v := 0) 12 rfl (by decide) ?_
      obtain ⟨o5, B⟩ := B
      refine z_iast 13 rfl (hS.1.o 94 100 rfl rfl rfl) (zin (hS.1.l 94 5 rfl rfl rfl) o5) ?_
      refine z_iinc (v := 1) 14 rfl rfl (by decide) (by decide) rfl ?_
      refine z_goto 15 2 rfl (by decide) ?_
      exact B
set_option maxRecDepth 100000 in
set_option maxHeartbeats 4000000 in
theorem sg_X9_changeTrial_43 {G : zG} {d : Nat} {h : zMem} {Q : zMem → Prop} {t : Nat} {x1 : Int32} {x2 : Int32} {x3 : Int32} (hS : zSh1 h t)  (B : (¬ x1 = (4 : Int32) → zg G mX9_changeTrial d 74 [.ref 0, .int x1, .int x2, .int (0 : Int32)] [] h (zPV Q)) ∧ (x1 = (4 : Int32) → ((6 : Int32) ≤ x3 → zg G mX9_changeTrial d 74 [.ref 0, .int x1, .int x2, .int (0 : Int32)] [] h (zPV Q)) ∧ (¬ (6 : Int32) ≤ x3 → vp_in x3 6 ∧ zg G mX9_changeTrial d 43 [.ref 0, .int x1, .int x2, .int (x3 + 1)] [] (zsI h 83 x3.toNatClampNeg (1000000 : Int32)) (zPV Q)))) : zg G mX9_changeTrial d 43 [.ref 0, .int x1, .int x2, .int x3] [] h (zPV Q) := by
  refine z_iload_n 25 rfl rfl ?_
  refine z_iconst (v := 4) 26 rfl (by decide) ?_
  refine z_icmp_ne 27 72 rfl (by decide) ⟨fun c1 => ?_, fun c1 => ?_⟩
  · have B := B.1 c1
    refine z_iconst (v := 0) 39 rfl (by decide) ?_
    refine z_istore_n 40 rfl (by decide) rfl ?_
    exact B
  · have B := B.2 c1
    refine z_iload_n 28 rfl rfl ?_
    refine z_bipush (v := 6) 29 rfl (by decide) ?_
    refine z_icmp_ge 30 72 rfl (by decide) ⟨fun c2 => ?_, fun c2 => ?_⟩
    · have B := B.1 c2
      refine z_iconst (v := 0) 39 rfl (by decide) ?_
      refine z_istore_n 40 rfl (by decide) rfl ?_
      exact B
    · have B := B.2 c2
      refine z_aload_n 31 rfl rfl ?_
      refine z_getR 32 rfl lX9_44 rfl (hS.1.o 0 8 rfl rfl rfl) (hS.1.r 0 6 82 rfl rfl rfl) ?_
      refine z_getR 33 rfl lX9_148 rfl (hS.1.o 82 5 rfl rfl rfl) (hS.1.r 82 0 83 rfl rfl rfl) ?_
      refine z_iload_n 34 rfl rfl ?_
      refine z_ldcw 35 rfl kX9_313 ?_
      obtain ⟨o3, B⟩ := B
      refine z_iast 36 rfl (hS.1.o 83 100 rfl rfl rfl) (zin (hS.1.l 83 6 rfl rfl rfl) o3) ?_
      refine z_iinc (v := 1) 37 rfl rfl (by decide) (by decide) rfl ?_
      refine z_goto 38 43 rfl (by decide) ?_
      exact B
set_option maxRecDepth 100000 in
set_option maxHeartbeats 4000000 in
theorem sg_X9_changeTrial_74 {G : zG} {d : Nat} {h : zMem} {Q : zMem → Prop} {t : Nat} {x1 : Int32} {x2 : Int32} {x3 : Int32} (hS : zSh1 h t)  (B : (¬ x1 = (5 : Int32) → Q h) ∧ (x1 = (5 : Int32) → ((6 : Int32) ≤ x3 → Q h) ∧ (¬ (6 : Int32) ≤ x3 → vp_in x3 6 ∧ zg G mX9_changeTrial d 74 [.ref 0, .int x1, .int x2, .int (x3 + 1)] [] (zsI h 85 x3.toNatClampNeg (100 : Int32)) (zPV Q)))) : zg G mX9_changeTrial d 74 [.ref 0, .int x1, .int x2, .int x3] [] h (zPV Q) := by
  refine z_iload_n 41 rfl rfl ?_
  refine z_iconst (v := 5) 42 rfl (by decide) ?_
  refine z_icmp_ne 43 102 rfl (by decide) ⟨fun c1 => ?_, fun c1 => ?_⟩
  · have B := B.1 c1
    exact z_vret 55 rfl rfl ⟨rfl, rfl⟩ ⟨rfl, B⟩
  · have B := B.2 c1
    refine z_iload_n 44 rfl rfl ?_
    refine z_bipush (v := 6) 45 rfl (by decide) ?_
    refine z_icmp_ge 46 102 rfl (by decide) ⟨fun c2 => ?_, fun c2 => ?_⟩
    · have B := B.1 c2
      exact z_vret 55 rfl rfl ⟨rfl, rfl⟩ ⟨rfl, B⟩
    · have B := B.2 c2
      refine z_aload_n 47 rfl rfl ?_
      refine z_getR 48 rfl lX9_44 rfl (hS.1.o 0 8 rfl rfl rfl) (hS.1.r 0 6 82 rfl rfl rfl) ?_
      refine z_getR 49 rfl lX9_220 rfl (hS.1.o 82 5 rfl rfl rfl) (hS.1.r 82 2 85 rfl rfl rfl) ?_
      refine z_iload_n 50 rfl rfl ?_
      refine z_bipush (v := 100) 51 rfl (by decide) ?_
      obtain ⟨o3, B⟩ := B
      refine z_iast 52 rfl (hS.1.o 85 100 rfl rfl rfl) (zin (hS.1.l 85 6 rfl rfl rfl) o3) ?_
      refine z_iinc (v := 1) 53 rfl rfl (by decide) (by decide) rfl ?_
      refine z_goto 54 74 rfl (by decide) ?_
      exact B
set_option maxRecDepth 100000 in
set_option maxHeartbeats 4000000 in
theorem sg_X9_undo_0 {G : zG} {d : Nat} {h : zMem} {Q : Int32 → zMem → Prop} {t : Nat}  (hS : zSh1 h t)  (B : ∃ Q1 : Int32 → zMem → Prop, zConI G mX8_takeBack d [.ref 44, .ref 48] h Q1 ∧ (∀ v4 h2, Q1 v4 h2 → zSh1 h2 t ∧ Q v4 h2)) : zg G mX9_undo (d + 1) 0 [.ref 0] [] h (zPI Q) := by
  refine z_aload_n 0 rfl rfl ?_
  refine z_getR 1 rfl lX9_30 rfl (hS.1.o 0 8 rfl rfl rfl) (hS.1.r 0 3 44 rfl rfl rfl) ?_
  refine z_aload_n 2 rfl rfl ?_
  refine z_getR 3 rfl lX9_37 rfl (hS.1.o 0 8 rfl rfl rfl) (hS.1.r 0 4 48 rfl rfl rfl) ?_
  obtain ⟨Q1, K3, B⟩ := B
  refine z_cVI1 (ν := mX8_takeBack) 4 rfl rfl fX8_takeBack gX9_314 ⟨_, rfl, rfl⟩ (by decide) (hS.1.o 44 7 rfl rfl rfl) (Nat.le_of_ble_eq_true rfl) K3 (fun v4 h2 q => ?_)
  obtain ⟨hSh2, B⟩ := B v4 h2 q
  exact z_iret 5 rfl rfl rfl ⟨rfl, rfl⟩ ⟨_, rfl, B⟩
theorem cn_X9_undo {G : zG} {d : Nat} {h : zMem} {Q : Int32 → zMem → Prop}  (B : zg G mX9_undo (d + 1) 0 [.ref 0] [] h (zPI Q)) : zConI G mX9_undo (d + 1) [.ref 0] h Q := zcon0 (by decide +kernel) eX9_undo (Nat.le_of_ble_eq_true rfl) rfl B
set_option maxRecDepth 100000 in
set_option maxHeartbeats 4000000 in
theorem sg_X9_keep_0 {G : zG} {d : Nat} {h : zMem} {Q : Int32 → zMem → Prop} {t : Nat}  (hS : zSh1 h t)  (B : ∃ Q1 : zMem → Prop, zConV G mX5_copy d [.ref 65, .ref 48] h Q1 ∧ (∀ h2, Q1 h2 → zSh1 h2 t ∧ Q (zI (zsI h2 0 13 (1 : Int32)) 48 10) (zsI h2 0 13 (1 : Int32)))) : zg G mX9_keep (d + 1) 0 [.ref 0] [] h (zPI Q) := by
  refine z_aload_n 0 rfl rfl ?_
  refine z_getR 1 rfl lX9_41 rfl (hS.1.o 0 8 rfl rfl rfl) (hS.1.r 0 5 65 rfl rfl rfl) ?_
  refine z_aload_n 2 rfl rfl ?_
  refine z_getR 3 rfl lX9_37 rfl (hS.1.o 0 8 rfl rfl rfl) (hS.1.r 0 4 48 rfl rfl rfl) ?_
  obtain ⟨Q1, K3, B⟩ := B
  refine z_cVV1 (ν := mX5_copy) 4 rfl rfl fX5_copy gX9_226 ⟨_, rfl, rfl⟩ (by decide) (hS.1.o 65 5 rfl rfl rfl) (Nat.le_of_ble_eq_true rfl) K3 (fun h2 q => ?_)
  obtain ⟨hSh2, B⟩ := B h2 q
  refine z_aload_n 5 rfl rfl ?_
  refine z_iconst (v := 1) 6 rfl (by decide) ?_
  refine z_putI 7 rfl lX9_103 ⟨_, _, _, rfl, rfl⟩ rfl rfl rfl (hSh2.1.o 0 8 rfl rfl rfl) ?_
  refine z_aload_n 8 rfl rfl ?_
  refine z_getR 9 rfl lX9_37 rfl (hSh2.1.o 0 8 rfl rfl rfl) (hSh2.1.r 0 4 48 rfl rfl rfl) ?_
  refine z_getI 10 rfl lX9_195 rfl (hSh2.1.o 48 5 rfl rfl rfl) ?_
  exact z_iret 11 rfl rfl rfl ⟨rfl, rfl⟩ ⟨_, rfl, B⟩
theorem cn_X9_keep {G : zG} {d : Nat} {h : zMem} {Q : Int32 → zMem → Prop}  (B : zg G mX9_keep (d + 1) 0 [.ref 0] [] h (zPI Q)) : zConI G mX9_keep (d + 1) [.ref 0] h Q := zcon0 (by decide +kernel) eX9_keep (Nat.le_of_ble_eq_true rfl) rfl B
set_option maxRecDepth 100000 in
set_option maxHeartbeats 4000000 in
theorem sg_X9_back_0 {G : zG} {d : Nat} {h : zMem} {Q : Int32 → zMem → Prop} {t : Nat}  (hS : zSh1 h t)  (B : (¬ (zI h 0 13) = 0 → ∃ Q2 : zMem → Prop, zConV G mX5_copy d [.ref 48, .ref 65] h Q2 ∧ (∀ h3, Q2 h3 → zSh1 h3 t ∧ ∃ Q5 : zMem → Prop, zConV G mX8_clear d [.ref 44] h3 Q5 ∧ (∀ h6, Q5 h6 → zSh1 h6 t ∧ Q (zI h6 48 10) h6))) ∧ ((zI h 0 13) = 0 → Q (-1 : Int32) h)) : zg G mX9_back (d + 1) 0 [.ref 0] [] h (zPI Q) := by
  refine z_aload_n 0 rfl rfl ?_
  refine z_getI 1 rfl lX9_103 rfl (hS.1.o 0 8 rfl rfl rfl) ?_
  refine z_if_ne 2 9 rfl (by decide) ⟨fun c1 => ?_, fun c1 => ?_⟩
  · have B := B.1 c1
    refine z_aload_n 5 rfl rfl ?_
    refine z_getR 6 rfl lX9_37 rfl (hS.1.o 0 8 rfl rfl rfl) (hS.1.r 0 4 48 rfl rfl rfl) ?_
    refine z_aload_n 7 rfl rfl ?_
    refine z_getR 8 rfl lX9_41 rfl (hS.1.o 0 8 rfl rfl rfl) (hS.1.r 0 5 65 rfl rfl rfl) ?_
    obtain ⟨Q2, K4, B⟩ := B
    refine z_cVV1 (ν := mX5_copy) 9 rfl rfl fX5_copy gX9_226 ⟨_, rfl, rfl⟩ (by decide) (hS.1.o 48 5 rfl rfl rfl) (Nat.le_of_ble_eq_true rfl) K4 (fun h3 q => ?_)
    obtain ⟨hSh3, B⟩ := B h3 q
    refine z_aload_n 10 rfl rfl ?_
    refine z_getR 11 rfl lX9_30 rfl (hSh3.1.o 0 8 rfl rfl rfl) (hSh3.1.r 0 3 44 rfl rfl rfl) ?_
    obtain ⟨Q5, K7, B⟩ := B
    refine z_cVV0 (ν := mX8_clear) 12 rfl rfl fX8_clear gX9_102 ⟨_, rfl, rfl⟩ (by decide) (hSh3.1.o 44 7 rfl rfl rfl) (Nat.le_of_ble_eq_true rfl) K7 (fun h6 q => ?_)
    obtain ⟨hSh6, B⟩ := B h6 q
    refine z_aload_n 13 rfl rfl ?_
    refine z_getR 14 rfl lX9_37 rfl (hSh6.1.o 0 8 rfl rfl rfl) (hSh6.1.r 0 4 48 rfl rfl rfl) ?_
    refine z_getI 15 rfl lX9_195 rfl (hSh6.1.o 48 5 rfl rfl rfl) ?_
    exact z_iret 16 rfl rfl rfl ⟨rfl, rfl⟩ ⟨_, rfl, B⟩
  · have B := B.2 c1
    refine z_iconst (v := -1) 3 rfl (by decide) ?_
    exact z_iret 4 rfl rfl rfl ⟨rfl, rfl⟩ ⟨_, rfl, B⟩
theorem cn_X9_back {G : zG} {d : Nat} {h : zMem} {Q : Int32 → zMem → Prop}  (B : zg G mX9_back (d + 1) 0 [.ref 0] [] h (zPI Q)) : zConI G mX9_back (d + 1) [.ref 0] h Q := zcon0 (by decide +kernel) eX9_back (Nat.le_of_ble_eq_true rfl) rfl B
theorem zsw_X9_count_20 {x : Int32} (z1 : ¬ x.toInt < 4) (z2 : ¬ 13 < x.toInt) (c4 : ¬ x = 4) (c5 : ¬ x = 5) (c6 : ¬ x = 6) (c7 : ¬ x = 7) (c8 : ¬ x = 8) (c9 : ¬ x = 9) (c10 : ¬ x = 10) (c11 : ¬ x = 11) (c12 : ¬ x = 12) (c13 : ¬ x = 13) : (#[56, 64, 75, 83, 91, 99, 107, 112, 120, 128] : Array Int)[(x.toInt - 4).toNat]? = some 136 := by
  obtain ⟨v, hv⟩ : ∃ v : Int, v = x.toInt := ⟨_, rfl⟩
  have c4 : v ≠ 4 := fun e => c4 (Int32.toInt_inj.mp (by rw [← hv, e]; decide))
  have c5 : v ≠ 5 := fun e => c5 (Int32.toInt_inj.mp (by rw [← hv, e]; decide))
  have c6 : v ≠ 6 := fun e => c6 (Int32.toInt_inj.mp (by rw [← hv, e]; decide))
  have c7 : v ≠ 7 := fun e => c7 (Int32.toInt_inj.mp (by rw [← hv, e]; decide))
  have c8 : v ≠ 8 := fun e => c8 (Int32.toInt_inj.mp (by rw [← hv, e]; decide))
  have c9 : v ≠ 9 := fun e => c9 (Int32.toInt_inj.mp (by rw [← hv, e]; decide))
  have c10 : v ≠ 10 := fun e => c10 (Int32.toInt_inj.mp (by rw [← hv, e]; decide))
  have c11 : v ≠ 11 := fun e => c11 (Int32.toInt_inj.mp (by rw [← hv, e]; decide))
  have c12 : v ≠ 12 := fun e => c12 (Int32.toInt_inj.mp (by rw [← hv, e]; decide))
  have c13 : v ≠ 13 := fun e => c13 (Int32.toInt_inj.mp (by rw [← hv, e]; decide))
  rw [← hv] at z1 z2 ⊢
  rcases (show v = 4 ∨ v = 5 ∨ v = 6 ∨ v = 7 ∨ v = 8 ∨ v = 9 ∨ v = 10 ∨ v = 11 ∨ v = 12 ∨ v = 13 by omega) with rfl | rfl | rfl | rfl | rfl | rfl | rfl | rfl | rfl | rfl
  all_goals first | exact absurd rfl (by assumption) | decide
set_option maxRecDepth 100000 in
set_option maxHeartbeats 4000000 in
theorem sg_X9_count_0 {G : zG} {d : Nat} {h : zMem} {Q : Int32 → zMem → Prop} {t : Nat} {x1 : Int32} (hS : zSh1 h t)  (B : (x1 < 0 → (x1 = 4 → Q (zI h t 9) h) ∧ (x1 = 5 → Q (zI h (t + 21) 8) h) ∧ (x1 = 6 → Q (zI h 48 10) h) ∧ (x1 = 7 → Q (zI h 48 11) h) ∧ (x1 = 8 → Q (zI h 48 12) h) ∧ (x1 = 9 → Q (zI h 48 13) h) ∧ (x1 = 10 → ∃ Q2 : Int32 → zMem → Prop, zConI G mX9_allStores d [.ref 0] h Q2 ∧ (∀ v5 h3, Q2 v5 h3 → zSh1 h3 t ∧ Q v5 h3)) ∧ (x1 = 11 → Q (zI h 37 6) h) ∧ (x1 = 12 → ∃ Q6 : Int32 → zMem → Prop, zConI G mX1_considered d [.ref 37] h Q6 ∧ (∀ v9 h7, Q6 v9 h7 → zSh1 h7 t ∧ Q v9 h7)) ∧ (x1 = 13 → Q (zI h 44 3) h) ∧ (¬ x1 = 4 → ¬ x1 = 5 → ¬ x1 = 6 → ¬ x1 = 7 → ¬ x1 = 8 → ¬ x1 = 9 → ¬ x1 = 10 → ¬ x1 = 11 → ¬ x1 = 12 → ¬ x1 = 13 → Q (-1 : Int32) h)) ∧ (¬ x1 < 0 → ((3 : Int32) < x1 → (x1 = 4 → Q (zI h t 9) h) ∧ (x1 = 5 → Q (zI h (t + 21) 8) h) ∧ (x1 = 6 → Q (zI h 48 10) h) ∧ (x1 = 7 → Q (zI h 48 11) h) ∧ (x1 = 8 → Q (zI h 48 12) h) ∧ (x1 = 9 → Q (zI h 48 13) h) ∧ (x1 = 10 → ∃ Q12 : Int32 → zMem → Prop, zConI G mX9_allStores d [.ref 0] h Q12 ∧ (∀ v15 h13, Q12 v15 h13 → zSh1 h13 t ∧ Q v15 h13)) ∧ (x1 = 11 → Q (zI h 37 6) h) ∧ (x1 = 12 → ∃ Q16 : Int32 → zMem → Prop, zConI G mX1_considered d [.ref 37] h Q16 ∧ (∀ v19 h17, Q16 v19 h17 → zSh1 h17 t ∧ Q v19 h17)) ∧ (x1 = 13 → Q (zI h 44 3) h) ∧ (¬ x1 = 4 → ¬ x1 = 5 → ¬ x1 = 6 → ¬ x1 = 7 → ¬ x1 = 8 → ¬ x1 = 9 → ¬ x1 = 10 → ¬ x1 = 11 → ¬ x1 = 12 → ¬ x1 = 13 → Q (-1 : Int32) h)) ∧ (¬ (3 : Int32) < x1 → vp_in x1 4 ∧ Q (zI h (t + 1) x1.toNatClampNeg) h))) : zg G mX9_count (d + 1) 0 [.ref 0, .int x1] [] h (zPI Q) := by
  refine z_iload_n 0 rfl rfl ?_
  refine z_if_lt 1 19 rfl (by decide) ⟨fun c1 => ?_, fun c1 => ?_⟩
  · have B := B.1 c1
    refine z_iload_n 11 rfl rfl ?_
    by_cases c10_4 : x1 = 4
    · obtain ⟨B, -⟩ := B
      refine z_tableIn 12 76 rfl 4 (by rw [c10_4]; decide) (by decide) (by decide) rfl (by decide) ?_
      have B := B c10_4
      refine z_aload_n 13 rfl rfl ?_
      refine z_getR 14 rfl lX9_67 rfl (hS.1.o 0 8 rfl rfl rfl) hS.2.2.1 ?_
      refine z_getI 15 rfl lX9_318 rfl (zS_to hS hS.2.1 0 6 rfl rfl) ?_
      exact z_iret 16 rfl rfl rfl ⟨rfl, rfl⟩ ⟨_, rfl, B⟩
    obtain ⟨-, B⟩ := B
    by_cases c10_5 : x1 = 5
    · obtain ⟨B, -⟩ := B
      refine z_tableIn 12 84 rfl 5 (by rw [c10_5]; decide) (by decide) (by decide) rfl (by decide) ?_
      have B := B c10_5
      refine z_aload_n 17 rfl rfl ?_
      refine z_getR 18 rfl lX9_67 rfl (hS.1.o 0 8 rfl rfl rfl) hS.2.2.1 ?_
      refine z_getR 19 rfl lX9_321 rfl (zS_to hS hS.2.1 0 6 rfl rfl) (zS_tr hS hS.2.1 0 8 21 rfl rfl rfl) ?_
      refine z_getI 20 rfl lX9_325 rfl (zS_to hS hS.2.1 21 0 rfl rfl) ?_
      exact z_iret 21 rfl rfl rfl ⟨rfl, rfl⟩ ⟨_, rfl, B⟩
    obtain ⟨-, B⟩ := B
    by_cases c10_6 : x1 = 6
    · obtain ⟨B, -⟩ := B
      refine z_tableIn 12 95 rfl 6 (by rw [c10_6]; decide) (by decide) (by decide) rfl (by decide) ?_
      have B := B c10_6
      refine z_aload_n 22 rfl rfl ?_
      refine z_getR 23 rfl lX9_37 rfl (hS.1.o 0 8 rfl rfl rfl) (hS.1.r 0 4 48 rfl rfl rfl) ?_
      refine z_getI 24 rfl lX9_195 rfl (hS.1.o 48 5 rfl rfl rfl) ?_
      exact z_iret 25 rfl rfl rfl ⟨rfl, rfl⟩ ⟨_, rfl, B⟩
    obtain ⟨-, B⟩ := B
    by_cases c10_7 : x1 = 7
    · obtain ⟨B, -⟩ := B
      refine z_tableIn 12 103 rfl 7 (by rw [c10_7]; decide) (by decide) (by decide) rfl (by decide) ?_
      have B := B c10_7
      refine z_aload_n 26 rfl rfl ?_
      refine z_getR 27 rfl lX9_37 rfl (hS.1.o 0 8 rfl rfl rfl) (hS.1.r 0 4 48 rfl rfl rfl) ?_
      refine z_getI 28 rfl lX9_330 rfl (hS.1.o 48 5 rfl rfl rfl) ?_
      exact z_iret 29 rfl rfl rfl ⟨rfl, rfl⟩ ⟨_, rfl, B⟩
    obtain ⟨-, B⟩ := B
    by_cases c10_8 : x1 = 8
    · obtain ⟨B, -⟩ := B
      refine z_tableIn 12 111 rfl 8 (by rw [c10_8]; decide) (by decide) (by decide) rfl (by decide) ?_
      have B := B c10_8
      refine z_aload_n 30 rfl rfl ?_
      refine z_getR 31 rfl lX9_37 rfl (hS.1.o 0 8 rfl rfl rfl) (hS.1.r 0 4 48 rfl rfl rfl) ?_
      refine z_getI 32 rfl lX9_298 rfl (hS.1.o 48 5 rfl rfl rfl) ?_
      exact z_iret 33 rfl rfl rfl ⟨rfl, rfl⟩ ⟨_, rfl, B⟩
    obtain ⟨-, B⟩ := B
    by_cases c10_9 : x1 = 9
    · obtain ⟨B, -⟩ := B
      refine z_tableIn 12 119 rfl 9 (by rw [c10_9]; decide) (by decide) (by decide) rfl (by decide) ?_
      have B := B c10_9
      refine z_aload_n 34 rfl rfl ?_
      refine z_getR 35 rfl lX9_37 rfl (hS.1.o 0 8 rfl rfl rfl) (hS.1.r 0 4 48 rfl rfl rfl) ?_
      refine z_getI 36 rfl lX9_253 rfl (hS.1.o 48 5 rfl rfl rfl) ?_
      exact z_iret 37 rfl rfl rfl ⟨rfl, rfl⟩ ⟨_, rfl, B⟩
    obtain ⟨-, B⟩ := B
    by_cases c10_10 : x1 = 10
    · obtain ⟨B, -⟩ := B
      refine z_tableIn 12 127 rfl 10 (by rw [c10_10]; decide) (by decide) (by decide) rfl (by decide) ?_
      have B := B c10_10
      refine z_aload_n 38 rfl rfl ?_
      obtain ⟨Q2, K4, B⟩ := B
      refine z_cVI0 (ν := mX9_allStores) 39 rfl rfl fX9_allStores gX9_333 ⟨_, rfl, rfl⟩ (by decide) (hS.1.o 0 8 rfl rfl rfl) (Nat.le_of_ble_eq_true rfl) K4 (fun v5 h3 q => ?_)
      obtain ⟨hSh3, B⟩ := B v5 h3 q
      exact z_iret 40 rfl rfl rfl ⟨rfl, rfl⟩ ⟨_, rfl, B⟩
    obtain ⟨-, B⟩ := B
    by_cases c10_11 : x1 = 11
    · obtain ⟨B, -⟩ := B
      refine z_tableIn 12 132 rfl 11 (by rw [c10_11]; decide) (by decide) (by decide) rfl (by decide) ?_
      have B := B c10_11
      refine z_aload_n 41 rfl rfl ?_
      refine z_getR 42 rfl lX9_23 rfl (hS.1.o 0 8 rfl rfl rfl) (hS.1.r 0 2 37 rfl rfl rfl) ?_
      refine z_getI 43 rfl lX9_274 rfl (hS.1.o 37 1 rfl rfl rfl) ?_
      exact z_iret 44 rfl rfl rfl ⟨rfl, rfl⟩ ⟨_, rfl, B⟩
    obtain ⟨-, B⟩ := B
    by_cases c10_12 : x1 = 12
    · obtain ⟨B, -⟩ := B
      refine z_tableIn 12 140 rfl 12 (by rw [c10_12]; decide) (by decide) (by decide) rfl (by decide) ?_
      have B := B c10_12
      refine z_aload_n 45 rfl rfl ?_
      refine z_getR 46 rfl lX9_23 rfl (hS.1.o 0 8 rfl rfl rfl) (hS.1.r 0 2 37 rfl rfl rfl) ?_
      obtain ⟨Q6, K8, B⟩ := B
      refine z_cVI0 (ν := mX1_considered) 47 rfl rfl fX1_considered gX9_336 ⟨_, rfl, rfl⟩ (by decide) (hS.1.o 37 1 rfl rfl rfl) (Nat.le_of_ble_eq_true rfl) K8 (fun v9 h7 q => ?_)
      obtain ⟨hSh7, B⟩ := B v9 h7 q
      exact z_iret 48 rfl rfl rfl ⟨rfl, rfl⟩ ⟨_, rfl, B⟩
    obtain ⟨-, B⟩ := B
    by_cases c10_13 : x1 = 13
    · obtain ⟨B, -⟩ := B
      refine z_tableIn 12 148 rfl 13 (by rw [c10_13]; decide) (by decide) (by decide) rfl (by decide) ?_
      have B := B c10_13
      refine z_aload_n 49 rfl rfl ?_
      refine z_getR 50 rfl lX9_30 rfl (hS.1.o 0 8 rfl rfl rfl) (hS.1.r 0 3 44 rfl rfl rfl) ?_
      refine z_getI 51 rfl lX9_339 rfl (hS.1.o 44 7 rfl rfl rfl) ?_
      exact z_iret 52 rfl rfl rfl ⟨rfl, rfl⟩ ⟨_, rfl, B⟩
    obtain ⟨-, B⟩ := B
    have B := B c10_4 c10_5 c10_6 c10_7 c10_8 c10_9 c10_10 c10_11 c10_12 c10_13
    refine z_tableD 12 156 rfl (by decide) (by
      intro z1 z2
      refine zsw_X9_count_20 z1 z2 c10_4 c10_5 c10_6 c10_7 c10_8 c10_9 c10_10 c10_11 c10_12 c10_13) ?_
    refine z_iconst (v := -1) 53 rfl (by decide) ?_
    exact z_iret 54 rfl rfl rfl ⟨rfl, rfl⟩ ⟨_, rfl, B⟩
  · have B := B.2 c1
    refine z_iload_n 2 rfl rfl ?_
    refine z_iconst (v := 3) 3 rfl (by decide) ?_
    refine z_icmp_gt 4 19 rfl (by decide) ⟨fun c11 => ?_, fun c11 => ?_⟩
    · have B := B.1 c11
      refine z_iload_n 11 rfl rfl ?_
      by_cases c20_4 : x1 = 4
      · obtain ⟨B, -⟩ := B
        refine z_tableIn 12 76 rfl 4 (by rw [c20_4]; decide) (by decide) (by decide) rfl (by decide) ?_
        have B := B c20_4
        refine z_aload_n 13 rfl rfl ?_
        refine z_getR 14 rfl lX9_67 rfl (hS.1.o 0 8 rfl rfl rfl) hS.2.2.1 ?_
        refine z_getI 15 rfl lX9_318 rfl (zS_to hS hS.2.1 0 6 rfl rfl) ?_
        exact z_iret 16 rfl rfl rfl ⟨rfl, rfl⟩ ⟨_, rfl, B⟩
      obtain ⟨-, B⟩ := B
      by_cases c20_5 : x1 = 5
      · obtain ⟨B, -⟩ := B
        refine z_tableIn 12 84 rfl 5 (by rw [c20_5]; decide) (by decide) (by decide) rfl (by decide) ?_
        have B := B c20_5
        refine z_aload_n 17 rfl rfl ?_
        refine z_getR 18 rfl lX9_67 rfl (hS.1.o 0 8 rfl rfl rfl) hS.2.2.1 ?_
        refine z_getR 19 rfl lX9_321 rfl (zS_to hS hS.2.1 0 6 rfl rfl) (zS_tr hS hS.2.1 0 8 21 rfl rfl rfl) ?_
        refine z_getI 20 rfl lX9_325 rfl (zS_to hS hS.2.1 21 0 rfl rfl) ?_
        exact z_iret 21 rfl rfl rfl ⟨rfl, rfl⟩ ⟨_, rfl, B⟩
      obtain ⟨-, B⟩ := B
      by_cases c20_6 : x1 = 6
      · obtain ⟨B, -⟩ := B
        refine z_tableIn 12 95 rfl 6 (by rw [c20_6]; decide) (by decide) (by decide) rfl (by decide) ?_
        have B := B c20_6
        refine z_aload_n 22 rfl rfl ?_
        refine z_getR 23 rfl lX9_37 rfl (hS.1.o 0 8 rfl rfl rfl) (hS.1.r 0 4 48 rfl rfl rfl) ?_
        refine z_getI 24 rfl lX9_195 rfl (hS.1.o 48 5 rfl rfl rfl) ?_
        exact z_iret 25 rfl rfl rfl ⟨rfl, rfl⟩ ⟨_, rfl, B⟩
      obtain ⟨-, B⟩ := B
      by_cases c20_7 : x1 = 7
      · obtain ⟨B, -⟩ := B
        refine z_tableIn 12 103 rfl 7 (by rw [c20_7]; decide) (by decide) (by decide) rfl (by decide) ?_
        have B := B c20_7
        refine z_aload_n 26 rfl rfl ?_
        refine z_getR 27 rfl lX9_37 rfl (hS.1.o 0 8 rfl rfl rfl) (hS.1.r 0 4 48 rfl rfl rfl) ?_
        refine z_getI 28 rfl lX9_330 rfl (hS.1.o 48 5 rfl rfl rfl) ?_
        exact z_iret 29 rfl rfl rfl ⟨rfl, rfl⟩ ⟨_, rfl, B⟩
      obtain ⟨-, B⟩ := B
      by_cases c20_8 : x1 = 8
      · obtain ⟨B, -⟩ := B
        refine z_tableIn 12 111 rfl 8 (by rw [c20_8]; decide) (by decide) (by decide) rfl (by decide) ?_
        have B := B c20_8
        refine z_aload_n 30 rfl rfl ?_
        refine z_getR 31 rfl lX9_37 rfl (hS.1.o 0 8 rfl rfl rfl) (hS.1.r 0 4 48 rfl rfl rfl) ?_
        refine z_getI 32 rfl lX9_298 rfl (hS.1.o 48 5 rfl rfl rfl) ?_
        exact z_iret 33 rfl rfl rfl ⟨rfl, rfl⟩ ⟨_, rfl, B⟩
      obtain ⟨-, B⟩ := B
      by_cases c20_9 : x1 = 9
      · obtain ⟨B, -⟩ := B
        refine z_tableIn 12 119 rfl 9 (by rw [c20_9]; decide) (by decide) (by decide) rfl (by decide) ?_
        have B := B c20_9
        refine z_aload_n 34 rfl rfl ?_
        refine z_getR 35 rfl lX9_37 rfl (hS.1.o 0 8 rfl rfl rfl) (hS.1.r 0 4 48 rfl rfl rfl) ?_
        refine z_getI 36 rfl lX9_253 rfl (hS.1.o 48 5 rfl rfl rfl) ?_
        exact z_iret 37 rfl rfl rfl ⟨rfl, rfl⟩ ⟨_, rfl, B⟩
      obtain ⟨-, B⟩ := B
      by_cases c20_10 : x1 = 10
      · obtain ⟨B, -⟩ := B
        refine z_tableIn 12 127 rfl 10 (by rw [c20_10]; decide) (by decide) (by decide) rfl (by decide) ?_
        have B := B c20_10
        refine z_aload_n 38 rfl rfl ?_
        obtain ⟨Q12, K14, B⟩ := B
        refine z_cVI0 (ν := mX9_allStores) 39 rfl rfl fX9_allStores gX9_333 ⟨_, rfl, rfl⟩ (by decide) (hS.1.o 0 8 rfl rfl rfl) (Nat.le_of_ble_eq_true rfl) K14 (fun v15 h13 q => ?_)
        obtain ⟨hSh13, B⟩ := B v15 h13 q
        exact z_iret 40 rfl rfl rfl ⟨rfl, rfl⟩ ⟨_, rfl, B⟩
      obtain ⟨-, B⟩ := B
      by_cases c20_11 : x1 = 11
      · obtain ⟨B, -⟩ := B
        refine z_tableIn 12 132 rfl 11 (by rw [c20_11]; decide) (by decide) (by decide) rfl (by decide) ?_
        have B := B c20_11
        refine z_aload_n 41 rfl rfl ?_
        refine z_getR 42 rfl lX9_23 rfl (hS.1.o 0 8 rfl rfl rfl) (hS.1.r 0 2 37 rfl rfl rfl) ?_
        refine z_getI 43 rfl lX9_274 rfl (hS.1.o 37 1 rfl rfl rfl) ?_
        exact z_iret 44 rfl rfl rfl ⟨rfl, rfl⟩ ⟨_, rfl, B⟩
      obtain ⟨-, B⟩ := B
      by_cases c20_12 : x1 = 12
      · obtain ⟨B, -⟩ := B
        refine z_tableIn 12 140 rfl 12 (by rw [c20_12]; decide) (by decide) (by decide) rfl (by decide) ?_
        have B := B c20_12
        refine z_aload_n 45 rfl rfl ?_
        refine z_getR 46 rfl lX9_23 rfl (hS.1.o 0 8 rfl rfl rfl) (hS.1.r 0 2 37 rfl rfl rfl) ?_
        obtain ⟨Q16, K18, B⟩ := B
        refine z_cVI0 (ν := mX1_considered) 47 rfl rfl fX1_considered gX9_336 ⟨_, rfl, rfl⟩ (by decide) (hS.1.o 37 1 rfl rfl rfl) (Nat.le_of_ble_eq_true rfl) K18 (fun v19 h17 q => ?_)
        obtain ⟨hSh17, B⟩ := B v19 h17 q
        exact z_iret 48 rfl rfl rfl ⟨rfl, rfl⟩ ⟨_, rfl, B⟩
      obtain ⟨-, B⟩ := B
      by_cases c20_13 : x1 = 13
      · obtain ⟨B, -⟩ := B
        refine z_tableIn 12 148 rfl 13 (by rw [c20_13]; decide) (by decide) (by decide) rfl (by decide) ?_
        have B := B c20_13
        refine z_aload_n 49 rfl rfl ?_
        refine z_getR 50 rfl lX9_30 rfl (hS.1.o 0 8 rfl rfl rfl) (hS.1.r 0 3 44 rfl rfl rfl) ?_
        refine z_getI 51 rfl lX9_339 rfl (hS.1.o 44 7 rfl rfl rfl) ?_
        exact z_iret 52 rfl rfl rfl ⟨rfl, rfl⟩ ⟨_, rfl, B⟩
      obtain ⟨-, B⟩ := B
      have B := B c20_4 c20_5 c20_6 c20_7 c20_8 c20_9 c20_10 c20_11 c20_12 c20_13
      refine z_tableD 12 156 rfl (by decide) (by
        intro z1 z2
        refine zsw_X9_count_20 z1 z2 c20_4 c20_5 c20_6 c20_7 c20_8 c20_9 c20_10 c20_11 c20_12 c20_13) ?_
      refine z_iconst (v := -1) 53 rfl (by decide) ?_
      exact z_iret 54 rfl rfl rfl ⟨rfl, rfl⟩ ⟨_, rfl, B⟩
    · have B := B.2 c11
      refine z_aload_n 5 rfl rfl ?_
      refine z_getR 6 rfl lX9_67 rfl (hS.1.o 0 8 rfl rfl rfl) hS.2.2.1 ?_
      refine z_getR 7 rfl lX9_208 rfl (zS_to hS hS.2.1 0 6 rfl rfl) (zS_tr hS hS.2.1 0 0 1 rfl rfl rfl) ?_
      refine z_iload_n 8 rfl rfl ?_
      obtain ⟨o21, B⟩ := B
      refine z_iald 9 rfl (zS_to hS hS.2.1 1 100 rfl rfl) (zin (zS_tl hS hS.2.1 1 4 rfl rfl) o21) ?_
      exact z_iret 10 rfl rfl rfl ⟨rfl, rfl⟩ ⟨_, rfl, B⟩
theorem cn_X9_count {G : zG} {d : Nat} {h : zMem} {Q : Int32 → zMem → Prop} {x1 : Int32} (B : zg G mX9_count (d + 1) 0 [.ref 0, .int x1] [] h (zPI Q)) : zConI G mX9_count (d + 1) [.ref 0, .int x1] h Q := zcon0 (by decide +kernel) eX9_count (Nat.le_of_ble_eq_true rfl) rfl B
set_option maxRecDepth 100000 in
set_option maxHeartbeats 4000000 in
theorem sg_X9_allStores_0 {G : zG} {d : Nat} {h : zMem} {Q : Int32 → zMem → Prop} {t : Nat}  (hS : zSh1 h t)  (B : zg G mX9_allStores d 4 [.ref 0, .int (0 : Int32), .int (0 : Int32)] [] h (zPI Q)) : zg G mX9_allStores d 0 [.ref 0, zU, zU] [] h (zPI Q) := by
  refine z_iconst (v := 0) 0 rfl (by decide) ?_
  refine z_istore_n 1 rfl (by decide) rfl ?_
  refine z_iconst (v := 0) 2 rfl (by decide) ?_
  refine z_istore_n 3 rfl (by decide) rfl ?_
  exact B
theorem cn_X9_allStores {G : zG} {d : Nat} {h : zMem} {Q : Int32 → zMem → Prop}  (B : zg G mX9_allStores d 0 [.ref 0, zU, zU] [] h (zPI Q)) : zConI G mX9_allStores d [.ref 0] h Q := zcon0 (by decide +kernel) eX9_allStores (Nat.le_of_ble_eq_true rfl) rfl B
set_option maxRecDepth 100000 in
set_option maxHeartbeats 4000000 in
theorem sg_X9_allStores_4 {G : zG} {d : Nat} {h : zMem} {Q : Int32 → zMem → Prop} {t : Nat} {x1 : Int32} {x2 : Int32} (hS : zSh1 h t)  (B : ((zI h (t + 1) 0) ≤ x2 → Q x1 h) ∧ (¬ (zI h (t + 1) 0) ≤ x2 → vp_in x2 6 ∧ zg G mX9_allStores d 4 [.ref 0, .int (x1 + (zI h 49 x2.toNatClampNeg)), .int (x2 + 1)] [] h (zPI Q))) : zg G mX9_allStores d 4 [.ref 0, .int x1, .int x2] [] h (zPI Q) := by
  refine z_iload_n 4 rfl rfl ?_
  refine z_aload_n 5 rfl rfl ?_
  refine z_getR 6 rfl lX9_67 rfl (hS.1.o 0 8 rfl rfl rfl) hS.2.2.1 ?_
  refine z_getR 7 rfl lX9_208 rfl (zS_to hS hS.2.1 0 6 rfl rfl) (zS_tr hS hS.2.1 0 0 1 rfl rfl rfl) ?_
  refine z_iconst (v := 0) 8 rfl (by decide) ?_
  refine z_iald_c 9 0 rfl (by decide) (zS_to hS hS.2.1 1 100 rfl rfl) (zin (zS_tl hS hS.2.1 1 4 rfl rfl) (zvp (by decide))) ?_
  refine z_icmp_ge 10 35 rfl (by decide) ⟨fun c1 => ?_, fun c1 => ?_⟩
  · have B := B.1 c1
    refine z_iload_n 21 rfl rfl ?_
    exact z_iret 22 rfl rfl rfl ⟨rfl, rfl⟩ ⟨_, rfl, B⟩
  · have B := B.2 c1
    refine z_iload_n 11 rfl rfl ?_
    refine z_aload_n 12 rfl rfl ?_
    refine z_getR 13 rfl lX9_37 rfl (hS.1.o 0 8 rfl rfl rfl) (hS.1.r 0 4 48 rfl rfl rfl) ?_
    refine z_getR 14 rfl lX9_148 rfl (hS.1.o 48 5 rfl rfl rfl) (hS.1.r 48 0 49 rfl rfl rfl) ?_
    refine z_iload_n 15 rfl rfl ?_
    obtain ⟨o2, B⟩ := B
    refine z_iald 16 rfl (hS.1.o 49 100 rfl rfl rfl) (zin (hS.1.l 49 6 rfl rfl rfl) o2) ?_
    refine z_iadd 17 rfl ?_
    refine z_istore_n 18 rfl (by decide) rfl ?_
    refine z_iinc (v := 1) 19 rfl rfl (by decide) (by decide) rfl ?_
    refine z_goto 20 4 rfl (by decide) ?_
    exact B
set_option maxRecDepth 100000 in
set_option maxHeartbeats 4000000 in
theorem sg_X9_has_0 {G : zG} {d : Nat} {h : zMem} {Q : Int32 → zMem → Prop} {t : Nat} {x1 : Int32} {x2 : Int32} (hS : zSh1 h t)  (B : (x2 < 0 → Q (0 : Int32) h) ∧ (¬ x2 < 0 → vp_in x1 4 ∧ ((zI h (t + 1) x1.toNatClampNeg) ≤ x2 → Q (0 : Int32) h) ∧ (¬ (zI h (t + 1) x1.toNatClampNeg) ≤ x2 → Q (1 : Int32) h))) : zg G mX9_has d 0 [.ref 0, .int x1, .int x2] [] h (zPI Q) := by
  refine z_iload_n 0 rfl rfl ?_
  refine z_if_lt 1 21 rfl (by decide) ⟨fun c1 => ?_, fun c1 => ?_⟩
  · have B := B.1 c1
    refine z_iconst (v := 0) 11 rfl (by decide) ?_
    exact z_iret 12 rfl rfl rfl ⟨rfl, rfl⟩ ⟨_, rfl, B⟩
  · have B := B.2 c1
    refine z_iload_n 2 rfl rfl ?_
    refine z_aload_n 3 rfl rfl ?_
    refine z_getR 4 rfl lX9_67 rfl (hS.1.o 0 8 rfl rfl rfl) hS.2.2.1 ?_
    refine z_getR 5 rfl lX9_208 rfl (zS_to hS hS.2.1 0 6 rfl rfl) (zS_tr hS hS.2.1 0 0 1 rfl rfl rfl) ?_
    refine z_iload_n 6 rfl rfl ?_
    obtain ⟨o2, B⟩ := B
    refine z_iald 7 rfl (zS_to hS hS.2.1 1 100 rfl rfl) (zin (zS_tl hS hS.2.1 1 4 rfl rfl) o2) ?_
    refine z_icmp_ge 8 21 rfl (by decide) ⟨fun c3 => ?_, fun c3 => ?_⟩
    · have B := B.1 c3
      refine z_iconst (v := 0) 11 rfl (by decide) ?_
      exact z_iret 12 rfl rfl rfl ⟨rfl, rfl⟩ ⟨_, rfl, B⟩
    · have B := B.2 c3
      refine z_iconst (v := 1) 9 rfl (by decide) ?_
      refine z_goto 10 22 rfl (by decide) ?_
      exact z_iret 12 rfl rfl rfl ⟨rfl, rfl⟩ ⟨_, rfl, B⟩
theorem cn_X9_has {G : zG} {d : Nat} {h : zMem} {Q : Int32 → zMem → Prop} {x1 : Int32} {x2 : Int32} (B : zg G mX9_has d 0 [.ref 0, .int x1, .int x2] [] h (zPI Q)) : zConI G mX9_has d [.ref 0, .int x1, .int x2] h Q := zcon0 (by decide +kernel) eX9_has (Nat.le_of_ble_eq_true rfl) rfl B
set_option maxRecDepth 100000 in
set_option maxHeartbeats 4000000 in
theorem sg_X9_keenNow_0 {G : zG} {d : Nat} {h : zMem} {Q : Int32 → zMem → Prop} {t : Nat} {x1 : Int32} (hS : zSh1 h t)  (B : vp_in x1 5 ∧ ∃ Q2 : Int32 → zMem → Prop, zConI G mX5_keenOf d [.ref 48, .ref t, .int x1, .int (zI h 59 x1.toNatClampNeg)] h Q2 ∧ (∀ v5 h3, Q2 v5 h3 → zSh1 h3 t ∧ Q v5 h3)) : zg G mX9_keenNow (d + 1) 0 [.ref 0, .int x1] [] h (zPI Q) := by
  refine z_aload_n 0 rfl rfl ?_
  refine z_getR 1 rfl lX9_37 rfl (hS.1.o 0 8 rfl rfl rfl) (hS.1.r 0 4 48 rfl rfl rfl) ?_
  refine z_aload_n 2 rfl rfl ?_
  refine z_getR 3 rfl lX9_67 rfl (hS.1.o 0 8 rfl rfl rfl) hS.2.2.1 ?_
  refine z_iload_n 4 rfl rfl ?_
  refine z_aload_n 5 rfl rfl ?_
  refine z_getR 6 rfl lX9_37 rfl (hS.1.o 0 8 rfl rfl rfl) (hS.1.r 0 4 48 rfl rfl rfl) ?_
  refine z_getR 7 rfl lX9_128 rfl (hS.1.o 48 5 rfl rfl rfl) (hS.1.r 48 4 59 rfl rfl rfl) ?_
  refine z_iload_n 8 rfl rfl ?_
  obtain ⟨o1, B⟩ := B
  refine z_iald 9 rfl (hS.1.o 59 100 rfl rfl rfl) (zin (hS.1.l 59 5 rfl rfl rfl) o1) ?_
  obtain ⟨Q2, K4, B⟩ := B
  refine z_cVI3 (ν := mX5_keenOf) 10 rfl rfl fX5_keenOf gX9_340 ⟨_, rfl, rfl⟩ (by decide) (hS.1.o 48 5 rfl rfl rfl) (Nat.le_of_ble_eq_true rfl) K4 (fun v5 h3 q => ?_)
  obtain ⟨hSh3, B⟩ := B v5 h3 q
  exact z_iret 11 rfl rfl rfl ⟨rfl, rfl⟩ ⟨_, rfl, B⟩
theorem cn_X9_keenNow {G : zG} {d : Nat} {h : zMem} {Q : Int32 → zMem → Prop} {x1 : Int32} (B : zg G mX9_keenNow (d + 1) 0 [.ref 0, .int x1] [] h (zPI Q)) : zConI G mX9_keenNow (d + 1) [.ref 0, .int x1] h Q := zcon0 (by decide +kernel) eX9_keenNow (Nat.le_of_ble_eq_true rfl) rfl B
set_option maxRecDepth 100000 in
set_option maxHeartbeats 4000000 in
theorem sg_X9_markDays_0 {G : zG} {d : Nat} {h : zMem} {Q : zMem → Prop} {t : Nat} {x1 : Int32} {x2 : Int32} (hS : zSh1 h t)  (B : ∃ Q1 : Int32 → zMem → Prop, zConI G mX5_keenOf d [.ref 48, .ref t, .int x1, .int x2] h Q1 ∧ (∀ v4 h2, Q1 v4 h2 → zSh1 h2 t ∧ zg G mX9_markDays (d + 1) 17 [.ref 0, .int x1, .int x2, .int v4, .int (0 : Int32)] [] h2 (zPV Q))) : zg G mX9_markDays (d + 1) 0 [.ref 0, .int x1, .int x2, zU, zU] [] h (zPV Q) := by
  refine z_aload_n 0 rfl rfl ?_
  refine z_getR 1 rfl lX9_37 rfl (hS.1.o 0 8 rfl rfl rfl) (hS.1.r 0 4 48 rfl rfl rfl) ?_
  refine z_aload_n 2 rfl rfl ?_
  refine z_getR 3 rfl lX9_67 rfl (hS.1.o 0 8 rfl rfl rfl) hS.2.2.1 ?_
  refine z_iload_n 4 rfl rfl ?_
  refine z_iload_n 5 rfl rfl ?_
  obtain ⟨Q1, K3, B⟩ := B
  refine z_cVI3 (ν := mX5_keenOf) 6 rfl rfl fX5_keenOf gX9_340 ⟨_, rfl, rfl⟩ (by decide) (hS.1.o 48 5 rfl rfl rfl) (Nat.le_of_ble_eq_true rfl) K3 (fun v4 h2 q => ?_)
  obtain ⟨hSh2, B⟩ := B v4 h2 q
  refine z_istore_n 7 rfl (by decide) rfl ?_
  refine z_iconst (v := 0) 8 rfl (by decide) ?_
  refine z_istore 9 rfl (by decide) rfl ?_
  exact B
theorem cn_X9_markDays {G : zG} {d : Nat} {h : zMem} {Q : zMem → Prop} {x1 : Int32} {x2 : Int32} (B : zg G mX9_markDays (d + 1) 0 [.ref 0, .int x1, .int x2, zU, zU] [] h (zPV Q)) : zConV G mX9_markDays (d + 1) [.ref 0, .int x1, .int x2] h Q := zcon0 (by decide +kernel) eX9_markDays (Nat.le_of_ble_eq_true rfl) rfl B
set_option maxRecDepth 100000 in
set_option maxHeartbeats 4000000 in
theorem sg_X9_markDays_17 {G : zG} {d : Nat} {h : zMem} {Q : zMem → Prop} {t : Nat} {x1 : Int32} {x2 : Int32} {x3 : Int32} {x4 : Int32} (hS : zSh1 h t)  (B : ((zI h (t + 1) 1) ≤ x4 → Q h) ∧ (¬ (zI h (t + 1) 1) ≤ x4 → vp_in x4 8 ∧ vp_in x2 6 ∧ vp_in x1 5 ∧ ∃ Q5 : Int32 → zMem → Prop, zConI G mX7_smelt d [.ref t, .ref (t + 9 + 1 + x4.toNatClampNeg), .int (zI h 51 x2.toNatClampNeg), .int x3, .int (zI h 60 x1.toNatClampNeg)] h Q5 ∧ (∀ v8 h6, Q5 v8 h6 → zSh1 h6 t ∧ zg G mX9_markDays (d + 1) 17 [.ref 0, .int x1, .int x2, .int x3, .int (x4 + 1)] [] (zsI h6 102 x4.toNatClampNeg v8) (zPV Q)))) : zg G mX9_markDays (d + 1) 17 [.ref 0, .int x1, .int x2, .int x3, .int x4] [] h (zPV Q) := by
  refine z_iload 10 rfl rfl ?_
  refine z_aload_n 11 rfl rfl ?_
  refine z_getR 12 rfl lX9_67 rfl (hS.1.o 0 8 rfl rfl rfl) hS.2.2.1 ?_
  refine z_getR 13 rfl lX9_208 rfl (zS_to hS hS.2.1 0 6 rfl rfl) (zS_tr hS hS.2.1 0 0 1 rfl rfl rfl) ?_
  refine z_iconst (v := 1) 14 rfl (by decide) ?_
  refine z_iald_c 15 1 rfl (by decide) (zS_to hS hS.2.1 1 100 rfl rfl) (zin (zS_tl hS hS.2.1 1 4 rfl rfl) (zvp (by decide))) ?_
  refine z_icmp_ge 16 80 rfl (by decide) ⟨fun c1 => ?_, fun c1 => ?_⟩
  · have B := B.1 c1
    exact z_vret 42 rfl rfl ⟨rfl, rfl⟩ ⟨rfl, B⟩
  · have B := B.2 c1
    refine z_aload_n 17 rfl rfl ?_
    refine z_getR 18 rfl lX9_61 rfl (hS.1.o 0 8 rfl rfl rfl) (hS.1.r 0 10 102 rfl rfl rfl) ?_
    refine z_iload 19 rfl rfl ?_
    refine z_aload_n 20 rfl rfl ?_
    refine z_getR 21 rfl lX9_67 rfl (hS.1.o 0 8 rfl rfl rfl) hS.2.2.1 ?_
    refine z_aload_n 22 rfl rfl ?_
    refine z_getR 23 rfl lX9_67 rfl (hS.1.o 0 8 rfl rfl rfl) hS.2.2.1 ?_
    refine z_getR 24 rfl lX9_158 rfl (zS_to hS hS.2.1 0 6 rfl rfl) (zS_tr hS hS.2.1 0 4 9 rfl rfl rfl) ?_
    refine z_iload 25 rfl rfl ?_
    obtain ⟨o2, B⟩ := B
    refine z_aald 26 rfl (zS_to hS hS.2.1 9 104 rfl rfl) (zin (zS_tl hS hS.2.1 9 8 rfl rfl) o2) (zS_trow hS hS.2.1 9 8 6 rfl rfl rfl o2).1 ?_
    refine z_aload_n 27 rfl rfl ?_
    refine z_getR 28 rfl lX9_37 rfl (hS.1.o 0 8 rfl rfl rfl) (hS.1.r 0 4 48 rfl rfl rfl) ?_
    refine z_getR 29 rfl lX9_220 rfl (hS.1.o 48 5 rfl rfl rfl) (hS.1.r 48 2 51 rfl rfl rfl) ?_
    refine z_iload_n 30 rfl rfl ?_
    obtain ⟨o3, B⟩ := B
    refine z_iald 31 rfl (hS.1.o 51 100 rfl rfl rfl) (zin (hS.1.l 51 6 rfl rfl rfl) o3) ?_
    refine z_iload_n 32 rfl rfl ?_
    refine z_aload_n 33 rfl rfl ?_
    refine z_getR 34 rfl lX9_37 rfl (hS.1.o 0 8 rfl rfl rfl) (hS.1.r 0 4 48 rfl rfl rfl) ?_
    refine z_getR 35 rfl lX9_134 rfl (hS.1.o 48 5 rfl rfl rfl) (hS.1.r 48 5 60 rfl rfl rfl) ?_
    refine z_iload_n 36 rfl rfl ?_
    obtain ⟨o4, B⟩ := B
    refine z_iald 37 rfl (hS.1.o 60 100 rfl rfl rfl) (zin (hS.1.l 60 5 rfl rfl rfl) o4) ?_
    obtain ⟨Q5, K7, B⟩ := B
    refine z_cVI4 (ν := mX7_smelt) 38 rfl rfl fX7_smelt gX9_249 ⟨_, rfl, rfl⟩ (by decide) (zS_to hS hS.2.1 0 6 rfl rfl) (Nat.le_of_ble_eq_true rfl) K7 (fun v8 h6 q => ?_)
    obtain ⟨hSh6, B⟩ := B v8 h6 q
    refine z_iast 39 rfl (hSh6.1.o 102 100 rfl rfl rfl) (zin (hSh6.1.l 102 8 rfl rfl rfl) o2) ?_
    refine z_iinc (v := 1) 40 rfl rfl (by decide) (by decide) rfl ?_
    refine z_goto 41 17 rfl (by decide) ?_
    exact B
set_option maxRecDepth 100000 in
set_option maxHeartbeats 4000000 in
theorem sg_X9_alikePairs_0 {G : zG} {d : Nat} {h : zMem} {Q : Int32 → zMem → Prop} {t : Nat}  (hS : zSh1 h t)  (B : zg G mX9_alikePairs d 4 [.ref 0, .int (0 : Int32), .int (0 : Int32), zU] [] h (zPI Q)) : zg G mX9_alikePairs d 0 [.ref 0, zU, zU, zU] [] h (zPI Q) := by
  refine z_iconst (v := 0) 0 rfl (by decide) ?_
  refine z_istore_n 1 rfl (by decide) rfl ?_
  refine z_iconst (v := 0) 2 rfl (by decide) ?_
  refine z_istore_n 3 rfl (by decide) rfl ?_
  exact B
theorem cn_X9_alikePairs {G : zG} {d : Nat} {h : zMem} {Q : Int32 → zMem → Prop}  (B : zg G mX9_alikePairs d 0 [.ref 0, zU, zU, zU] [] h (zPI Q)) : zConI G mX9_alikePairs d [.ref 0] h Q := zcon0 (by decide +kernel) eX9_alikePairs (Nat.le_of_ble_eq_true rfl) rfl B
set_option maxRecDepth 100000 in
set_option maxHeartbeats 4000000 in
theorem sg_X9_alikePairs_4 {G : zG} {d : Nat} {h : zMem} {Q : Int32 → zMem → Prop} {t : Nat} {x1 : Int32} {x2 : Int32} (hS : zSh1 h t)  (B : ((zI h (t + 1) 1) ≤ x2 → Q x1 h) ∧ (¬ (zI h (t + 1) 1) ≤ x2 → zg G mX9_alikePairs d 21 [.ref 0, .int x1, .int x2, .int (x2 + (1 : Int32))] [] h (zPI Q))) : zg G mX9_alikePairs d 4 [.ref 0, .int x1, .int x2, zU] [] h (zPI Q) := by
  refine z_iload_n 4 rfl rfl ?_
  refine z_aload_n 5 rfl rfl ?_
  refine z_getR 6 rfl lX9_67 rfl (hS.1.o 0 8 rfl rfl rfl) hS.2.2.1 ?_
  refine z_getR 7 rfl lX9_208 rfl (zS_to hS hS.2.1 0 6 rfl rfl) (zS_tr hS hS.2.1 0 0 1 rfl rfl rfl) ?_
  refine z_iconst (v := 1) 8 rfl (by decide) ?_
  refine z_iald_c 9 1 rfl (by decide) (zS_to hS hS.2.1 1 100 rfl rfl) (zin (zS_tl hS hS.2.1 1 4 rfl rfl) (zvp (by decide))) ?_
  refine z_icmp_ge 10 64 rfl (by decide) ⟨fun c1 => ?_, fun c1 => ?_⟩
  · have B := B.1 c1
    refine z_iload_n 36 rfl rfl ?_
    exact z_iret 37 rfl rfl rfl ⟨rfl, rfl⟩ ⟨_, rfl, B⟩
  · have B := B.2 c1
    refine z_iload_n 11 rfl rfl ?_
    refine z_iconst (v := 1) 12 rfl (by decide) ?_
    refine z_iadd 13 rfl ?_
    refine z_istore_n 14 rfl (by decide) rfl ?_
    exact B
set_option maxRecDepth 100000 in
set_option maxHeartbeats 4000000 in
theorem sg_X9_alikePairs_21 {G : zG} {d : Nat} {h : zMem} {Q : Int32 → zMem → Prop} {t : Nat} {x1 : Int32} {x2 : Int32} {x3 : Int32} (hS : zSh1 h t)  (B : ((zI h (t + 1) 1) ≤ x3 → zg G mX9_alikePairs d 4 [.ref 0, .int x1, .int (x2 + 1), zU] [] h (zPI Q)) ∧ (¬ (zI h (t + 1) 1) ≤ x3 → vp_in x2 8 ∧ vp_in x3 8 ∧ (¬ (zI h 102 x2.toNatClampNeg) = (zI h 102 x3.toNatClampNeg) → zg G mX9_alikePairs d 21 [.ref 0, .int x1, .int x2, .int (x3 + 1)] [] h (zPI Q)) ∧ ((zI h 102 x2.toNatClampNeg) = (zI h 102 x3.toNatClampNeg) → zg G mX9_alikePairs d 21 [.ref 0, .int (x1 + 1), .int x2, .int (x3 + 1)] [] h (zPI Q)))) : zg G mX9_alikePairs d 21 [.ref 0, .int x1, .int x2, .int x3] [] h (zPI Q) := by
  refine z_iload_n 15 rfl rfl ?_
  refine z_aload_n 16 rfl rfl ?_
  refine z_getR 17 rfl lX9_67 rfl (hS.1.o 0 8 rfl rfl rfl) hS.2.2.1 ?_
  refine z_getR 18 rfl lX9_208 rfl (zS_to hS hS.2.1 0 6 rfl rfl) (zS_tr hS hS.2.1 0 0 1 rfl rfl rfl) ?_
  refine z_iconst (v := 1) 19 rfl (by decide) ?_
  refine z_iald_c 20 1 rfl (by decide) (zS_to hS hS.2.1 1 100 rfl rfl) (zin (zS_tl hS hS.2.1 1 4 rfl rfl) (zvp (by decide))) ?_
  refine z_icmp_ge 21 58 rfl (by decide) ⟨fun c1 => ?_, fun c1 => ?_⟩
  · have B := B.1 c1
    refine z_iinc (v := 1) 34 rfl rfl (by decide) (by decide) rfl ?_
    refine z_goto 35 4 rfl (by decide) ?_
    refine z_drop 3 ?_
    exact B
  · have B := B.2 c1
    refine z_aload_n 22 rfl rfl ?_
    refine z_getR 23 rfl lX9_61 rfl (hS.1.o 0 8 rfl rfl rfl) (hS.1.r 0 10 102 rfl rfl rfl) ?_
    refine z_iload_n 24 rfl rfl ?_
    obtain ⟨o2, B⟩ := B
    refine z_iald 25 rfl (hS.1.o 102 100 rfl rfl rfl) (zin (hS.1.l 102 8 rfl rfl rfl) o2) ?_
    refine z_aload_n 26 rfl rfl ?_
    refine z_getR 27 rfl lX9_61 rfl (hS.1.o 0 8 rfl rfl rfl) (hS.1.r 0 10 102 rfl rfl rfl) ?_
    refine z_iload_n 28 rfl rfl ?_
    obtain ⟨o3, B⟩ := B
    refine z_iald 29 rfl (hS.1.o 102 100 rfl rfl rfl) (zin (hS.1.l 102 8 rfl rfl rfl) o3) ?_
    refine z_icmp_ne 30 52 rfl (by decide) ⟨fun c4 => ?_, fun c4 => ?_⟩
    · have B := B.1 c4
      refine z_iinc (v := 1) 32 rfl rfl (by decide) (by decide) rfl ?_
      refine z_goto 33 21 rfl (by decide) ?_
      exact B
    · have B := B.2 c4
      refine z_iinc (v := 1) 31 rfl rfl (by decide) (by decide) rfl ?_
      refine z_iinc (v := 1) 32 rfl rfl (by decide) (by decide) rfl ?_
      refine z_goto 33 21 rfl (by decide) ?_
      exact B
set_option maxRecDepth 100000 in
set_option maxHeartbeats 4000000 in
theorem sg_X9_unlikeMarks_0 {G : zG} {d : Nat} {h : zMem} {Q : Int32 → zMem → Prop} {t : Nat}  (hS : zSh1 h t)  (B : zg G mX9_unlikeMarks d 4 [.ref 0, .int (0 : Int32), .int (0 : Int32), zU, zU] [] h (zPI Q)) : zg G mX9_unlikeMarks d 0 [.ref 0, zU, zU, zU, zU] [] h (zPI Q) := by
  refine z_iconst (v := 0) 0 rfl (by decide) ?_
  refine z_istore_n 1 rfl (by decide) rfl ?_
  refine z_iconst (v := 0) 2 rfl (by decide) ?_
  refine z_istore_n 3 rfl (by decide) rfl ?_
  exact B
theorem cn_X9_unlikeMarks {G : zG} {d : Nat} {h : zMem} {Q : Int32 → zMem → Prop}  (B : zg G mX9_unlikeMarks d 0 [.ref 0, zU, zU, zU, zU] [] h (zPI Q)) : zConI G mX9_unlikeMarks d [.ref 0] h Q := zcon0 (by decide +kernel) eX9_unlikeMarks (Nat.le_of_ble_eq_true rfl) rfl B
set_option maxRecDepth 100000 in
set_option maxHeartbeats 4000000 in
theorem sg_X9_unlikeMarks_4 {G : zG} {d : Nat} {h : zMem} {Q : Int32 → zMem → Prop} {t : Nat} {x1 : Int32} {x2 : Int32} (hS : zSh1 h t)  (B : ((zI h (t + 1) 1) ≤ x2 → Q x1 h) ∧ (¬ (zI h (t + 1) 1) ≤ x2 → zg G mX9_unlikeMarks d 22 [.ref 0, .int x1, .int x2, .int (1 : Int32), .int (0 : Int32)] [] h (zPI Q))) : zg G mX9_unlikeMarks d 4 [.ref 0, .int x1, .int x2, zU, zU] [] h (zPI Q) := by
  refine z_iload_n 4 rfl rfl ?_
  refine z_aload_n 5 rfl rfl ?_
  refine z_getR 6 rfl lX9_67 rfl (hS.1.o 0 8 rfl rfl rfl) hS.2.2.1 ?_
  refine z_getR 7 rfl lX9_208 rfl (zS_to hS hS.2.1 0 6 rfl rfl) (zS_tr hS hS.2.1 0 0 1 rfl rfl rfl) ?_
  refine z_iconst (v := 1) 8 rfl (by decide) ?_
  refine z_iald_c 9 1 rfl (by decide) (zS_to hS hS.2.1 1 100 rfl rfl) (zin (zS_tl hS hS.2.1 1 4 rfl rfl) (zvp (by decide))) ?_
  refine z_icmp_ge 10 73 rfl (by decide) ⟨fun c1 => ?_, fun c1 => ?_⟩
  · have B := B.1 c1
    refine z_iload_n 40 rfl rfl ?_
    exact z_iret 41 rfl rfl rfl ⟨rfl, rfl⟩ ⟨_, rfl, B⟩
  · have B := B.2 c1
    refine z_iconst (v := 1) 11 rfl (by decide) ?_
    refine z_istore_n 12 rfl (by decide) rfl ?_
    refine z_iconst (v := 0) 13 rfl (by decide) ?_
    refine z_istore 14 rfl (by decide) rfl ?_
    exact B
set_option maxRecDepth 100000 in
set_option maxHeartbeats 4000000 in
theorem sg_X9_unlikeMarks_22 {G : zG} {d : Nat} {h : zMem} {Q : Int32 → zMem → Prop} {t : Nat} {x1 : Int32} {x2 : Int32} {x3 : Int32} {x4 : Int32} (hS : zSh1 h t)  (B : (x2 ≤ x4 → (x3 = 0 → zg G mX9_unlikeMarks d 4 [.ref 0, .int x1, .int (x2 + 1), zU, zU] [] h (zPI Q)) ∧ (¬ x3 = 0 → zg G mX9_unlikeMarks d 4 [.ref 0, .int (x1 + 1), .int (x2 + 1), zU, zU] [] h (zPI Q))) ∧ (¬ x2 ≤ x4 → (x3 = 0 → zg G mX9_unlikeMarks d 22 [.ref 0, .int x1, .int x2, .int (0 : Int32), .int (x4 + 1)] [] h (zPI Q)) ∧ (¬ x3 = 0 → vp_in x4 8 ∧ vp_in x2 8 ∧ ((zI h 102 x4.toNatClampNeg) = (zI h 102 x2.toNatClampNeg) → zg G mX9_unlikeMarks d 22 [.ref 0, .int x1, .int x2, .int (0 : Int32), .int (x4 + 1)] [] h (zPI Q)) ∧ (¬ (zI h 102 x4.toNatClampNeg) = (zI h 102 x2.toNatClampNeg) → zg G mX9_unlikeMarks d 22 [.ref 0, .int x1, .int x2, .int (1 : Int32), .int (x4 + 1)] [] h (zPI Q))))) : zg G mX9_unlikeMarks d 22 [.ref 0, .int x1, .int x2, .int x3, .int x4] [] h (zPI Q) := by
  refine z_iload 15 rfl rfl ?_
  refine z_iload_n 16 rfl rfl ?_
  refine z_icmp_ge 17 60 rfl (by decide) ⟨fun c1 => ?_, fun c1 => ?_⟩
  · have B := B.1 c1
    refine z_iload_n 35 rfl rfl ?_
    refine z_if_eq 36 67 rfl (by decide) ⟨fun c2 => ?_, fun c2 => ?_⟩
    · have B := B.1 c2
      refine z_iinc (v := 1) 38 rfl rfl (by decide) (by decide) rfl ?_
      refine z_goto 39 4 rfl (by decide) ?_
      refine z_drop 3 ?_
      refine z_drop 4 ?_
      exact B
    · have B := B.2 c2
      refine z_iinc (v := 1) 37 rfl rfl (by decide) (by decide) rfl ?_
      refine z_iinc (v := 1) 38 rfl rfl (by decide) (by decide) rfl ?_
      refine z_goto 39 4 rfl (by decide) ?_
      refine z_drop 3 ?_
      refine z_drop 4 ?_
      exact B
  · have B := B.2 c1
    refine z_iload_n 18 rfl rfl ?_
    refine z_if_eq 19 52 rfl (by decide) ⟨fun c3 => ?_, fun c3 => ?_⟩
    · have B := B.1 c3
      refine z_iconst (v := 0) 31 rfl (by decide) ?_
      refine z_istore_n 32 rfl (by decide) rfl ?_
      refine z_iinc (v := 1) 33 rfl rfl (by decide) (by decide) rfl ?_
      refine z_goto 34 22 rfl (by decide) ?_
      exact B
    · have B := B.2 c3
      refine z_aload_n 20 rfl rfl ?_
      refine z_getR 21 rfl lX9_61 rfl (hS.1.o 0 8 rfl rfl rfl) (hS.1.r 0 10 102 rfl rfl rfl) ?_
      refine z_iload 22 rfl rfl ?_
      obtain ⟨o4, B⟩ := B
      refine z_iald 23 rfl (hS.1.o 102 100 rfl rfl rfl) (zin (hS.1.l 102 8 rfl rfl rfl) o4) ?_
      refine z_aload_n 24 rfl rfl ?_
      refine z_getR 25 rfl lX9_61 rfl (hS.1.o 0 8 rfl rfl rfl) (hS.1.r 0 10 102 rfl rfl rfl) ?_
      refine z_iload_n 26 rfl rfl ?_
      obtain ⟨o5, B⟩ := B
      refine z_iald 27 rfl (hS.1.o 102 100 rfl rfl rfl) (zin (hS.1.l 102 8 rfl rfl rfl) o5) ?_
      refine z_icmp_eq 28 52 rfl (by decide) ⟨fun c6 => ?_, fun c6 => ?_⟩
      · have B := B.1 c6
        refine z_iconst (v := 0) 31 rfl (by decide) ?_
        refine z_istore_n 32 rfl (by decide) rfl ?_
        refine z_iinc (v := 1) 33 rfl rfl (by decide) (by decide) rfl ?_
        refine z_goto 34 22 rfl (by decide) ?_
        exact B
      · have B := B.2 c6
        refine z_iconst (v := 1) 29 rfl (by decide) ?_
        refine z_goto 30 53 rfl (by decide) ?_
        refine z_istore_n 32 rfl (by decide) rfl ?_
        refine z_iinc (v := 1) 33 rfl rfl (by decide) (by decide) rfl ?_
        refine z_goto 34 22 rfl (by decide) ?_
        exact B
