set_option maxRecDepth 100000 in
set_option maxHeartbeats 4000000 in
theorem sg_X9_mending_0 {G : zG} {d : Nat} {h : zMem} {Q : Int32 → zMem → Prop} {a0 : Nat} {x1 : Int32} {x2 : Int32} {x3 : Int32} {x4 : Int32} (B : zO h a0 8 ∧ ∃ Q1 : Int32 → zMem → Prop, zConI G mX9_has d [.ref a0, .int (3 : Int32), .int x1] h Q1 ∧ (∀ v4 h2, Q1 v4 h2 → (v4 = 0 → Q (-1 : Int32) h2) ∧ (¬ v4 = 0 → zO h2 a0 8 ∧ ∃ Q6 : Int32 → zMem → Prop, zConI G mX9_has d [.ref a0, .int (1 : Int32), .int x2] h2 Q6 ∧ (∀ v9 h7, Q6 v9 h7 → (v9 = 0 → Q (-1 : Int32) h7) ∧ (¬ v9 = 0 → zO h7 a0 8 ∧ ∃ Q11 : Int32 → zMem → Prop, zConI G mX9_has d [.ref a0, .int (1 : Int32), .int x3] h7 Q11 ∧ (∀ v14 h12, Q11 v14 h12 → (v14 = 0 → Q (-1 : Int32) h12) ∧ (¬ v14 = 0 → (x2 = x3 → Q (-1 : Int32) h12) ∧ (¬ x2 = x3 → (x4 < 0 → Q (-1 : Int32) h12) ∧ (¬ x4 < 0 → (x4 ≤ (1 : Int32) → zO h12 a0 8 ∧ ∃ Q19 : Int32 → zMem → Prop, zConI G mX9_keenNow d [.ref a0, .int x1] h12 Q19 ∧ (∀ v22 h20, Q19 v22 h20 → zO h20 a0 8 ∧ ∃ r24, zR h20 a0 4 = some r24 ∧ ∃ r25, zR h20 a0 11 = some r25 ∧ zO h20 r24 5 ∧ ∃ Q26 : Int32 → zMem → Prop, zConI G mX5_markOf d [.ref r24, .ref r25, .int x1, .int x2, .int v22] h20 Q26 ∧ (∀ v29 h27, Q26 v29 h27 → zO h27 a0 8 ∧ ∃ r31, zR h27 a0 4 = some r31 ∧ ∃ r32, zR h27 a0 11 = some r32 ∧ zO h27 r31 5 ∧ ∃ Q33 : Int32 → zMem → Prop, zConI G mX5_markOf d [.ref r31, .ref r32, .int x1, .int x3, .int v22] h27 Q33 ∧ (∀ v36 h34, Q33 v36 h34 → (v29 = v36 → zg G mX9_mending (d + 1) 106 [.ref a0, .int x1, .int x2, .int x3, .int x4, .int v22, .int (if x2 < x3 then x3 else x2), .int (-2 : Int32), .int (100 : Int32), .int (0 : Int32), zU] [] h34 (zPI Q)) ∧ (¬ v29 = v36 → Q (-3 : Int32) h34))))) ∧ (¬ x4 ≤ (1 : Int32) → Q (-1 : Int32) h12)))))))))) : zg G mX9_mending (d + 1) 0 [.ref a0, .int x1, .int x2, .int x3, .int x4, zU, zU, zU, zU, zU, zU] [] h (zPI Q) := by
  refine z_aload_n 0 rfl rfl ?_
  refine z_iconst (v := 3) 1 rfl (by decide) ?_
  refine z_iload_n 2 rfl rfl ?_
  obtain ⟨o43, B⟩ := B
  obtain ⟨Q1, K3, B⟩ := B
  refine z_cVI2 (ν := mX9_has) 3 rfl rfl fX9_has gX9_117 ⟨_, rfl, rfl⟩ (by decide) o43 (Nat.le_of_ble_eq_true rfl) K3 (fun v4 h2 q => ?_)
  have B := B v4 h2 q
  refine z_if_eq 4 43 rfl (by decide) ⟨fun c5 => ?_, fun c5 => ?_⟩
  · have B := B.1 c5
    refine z_iconst (v := -1) 23 rfl (by decide) ?_
    exact z_iret 24 rfl rfl rfl ⟨rfl, rfl⟩ ⟨_, rfl, B⟩
  · have B := B.2 c5
    refine z_aload_n 5 rfl rfl ?_
    refine z_iconst (v := 1) 6 rfl (by decide) ?_
    refine z_iload_n 7 rfl rfl ?_
    obtain ⟨o42, B⟩ := B
    obtain ⟨Q6, K8, B⟩ := B
    refine z_cVI2 (ν := mX9_has) 8 rfl rfl fX9_has gX9_117 ⟨_, rfl, rfl⟩ (by decide) o42 (Nat.le_of_ble_eq_true rfl) K8 (fun v9 h7 q => ?_)
    have B := B v9 h7 q
    refine z_if_eq 9 43 rfl (by decide) ⟨fun c10 => ?_, fun c10 => ?_⟩
    · have B := B.1 c10
      refine z_iconst (v := -1) 23 rfl (by decide) ?_
      exact z_iret 24 rfl rfl rfl ⟨rfl, rfl⟩ ⟨_, rfl, B⟩
    · have B := B.2 c10
      refine z_aload_n 10 rfl rfl ?_
      refine z_iconst (v := 1) 11 rfl (by decide) ?_
      refine z_iload_n 12 rfl rfl ?_
      obtain ⟨o41, B⟩ := B
      obtain ⟨Q11, K13, B⟩ := B
      refine z_cVI2 (ν := mX9_has) 13 rfl rfl fX9_has gX9_117 ⟨_, rfl, rfl⟩ (by decide) o41 (Nat.le_of_ble_eq_true rfl) K13 (fun v14 h12 q => ?_)
      have B := B v14 h12 q
      refine z_if_eq 14 43 rfl (by decide) ⟨fun c15 => ?_, fun c15 => ?_⟩
      · have B := B.1 c15
        refine z_iconst (v := -1) 23 rfl (by decide) ?_
        exact z_iret 24 rfl rfl rfl ⟨rfl, rfl⟩ ⟨_, rfl, B⟩
      · have B := B.2 c15
        refine z_iload_n 15 rfl rfl ?_
        refine z_iload_n 16 rfl rfl ?_
        refine z_icmp_eq 17 43 rfl (by decide) ⟨fun c16 => ?_, fun c16 => ?_⟩
        · have B := B.1 c16
          refine z_iconst (v := -1) 23 rfl (by decide) ?_
          exact z_iret 24 rfl rfl rfl ⟨rfl, rfl⟩ ⟨_, rfl, B⟩
        · have B := B.2 c16
          refine z_iload 18 rfl rfl ?_
          refine z_if_lt 19 43 rfl (by decide) ⟨fun c17 => ?_, fun c17 => ?_⟩
          · have B := B.1 c17
            refine z_iconst (v := -1) 23 rfl (by decide) ?_
            exact z_iret 24 rfl rfl rfl ⟨rfl, rfl⟩ ⟨_, rfl, B⟩
          · have B := B.2 c17
            refine z_iload 20 rfl rfl ?_
            refine z_iconst (v := 1) 21 rfl (by decide) ?_
            refine z_icmp_le 22 45 rfl (by decide) ⟨fun c18 => ?_, fun c18 => ?_⟩
            · have B := B.1 c18
              refine z_aload_n 25 rfl rfl ?_
              refine z_iload_n 26 rfl rfl ?_
              obtain ⟨o40, B⟩ := B
              obtain ⟨Q19, K21, B⟩ := B
              refine z_cVI1 (ν := mX9_keenNow) 27 rfl rfl fX9_keenNow gX9_169 ⟨_, rfl, rfl⟩ (by decide) o40 (Nat.le_of_ble_eq_true rfl) K21 (fun v22 h20 q => ?_)
              have B := B v22 h20 q
              refine z_istore 28 rfl (by decide) rfl ?_
              refine z_aload_n 29 rfl rfl ?_
              obtain ⟨o23, B⟩ := B
              obtain ⟨r24, hr24, B⟩ := B
              refine z_getR 30 rfl lX9_37 rfl o23 hr24 ?_
              refine z_aload_n 31 rfl rfl ?_
              obtain ⟨r25, hr25, B⟩ := B
              refine z_getR 32 rfl lX9_67 rfl o23 hr25 ?_
              refine z_iload_n 33 rfl rfl ?_
              refine z_iload_n 34 rfl rfl ?_
              refine z_iload 35 rfl rfl ?_
              obtain ⟨o39, B⟩ := B
              obtain ⟨Q26, K28, B⟩ := B
              refine z_cVI4 (ν := mX5_markOf) 36 rfl rfl fX5_markOf gX9_173 ⟨_, rfl, rfl⟩ (by decide) o39 (Nat.le_of_ble_eq_true rfl) K28 (fun v29 h27 q => ?_)
              have B := B v29 h27 q
              refine z_aload_n 37 rfl rfl ?_
              obtain ⟨o30, B⟩ := B
              obtain ⟨r31, hr31, B⟩ := B
              refine z_getR 38 rfl lX9_37 rfl o30 hr31 ?_
              refine z_aload_n 39 rfl rfl ?_
              obtain ⟨r32, hr32, B⟩ := B
              refine z_getR 40 rfl lX9_67 rfl o30 hr32 ?_
              refine z_iload_n 41 rfl rfl ?_
              refine z_iload_n 42 rfl rfl ?_
              refine z_iload 43 rfl rfl ?_
              obtain ⟨o38, B⟩ := B
              obtain ⟨Q33, K35, B⟩ := B
              refine z_cVI4 (ν := mX5_markOf) 44 rfl rfl fX5_markOf gX9_173 ⟨_, rfl, rfl⟩ (by decide) o38 (Nat.le_of_ble_eq_true rfl) K35 (fun v36 h34 q => ?_)
              have B := B v36 h34 q
              refine z_icmp_eq 45 88 rfl (by decide) ⟨fun c37 => ?_, fun c37 => ?_⟩
              · have B := B.1 c37
                refine z_iload_n 48 rfl rfl ?_
                refine z_iload_n 49 rfl rfl ?_
                refine z_mmax 50 rfl rfl gmX9_211 (Nat.le_of_ble_eq_true rfl) ?_
                refine z_istore 51 rfl (by decide) rfl ?_
                refine z_bipush (v := -2) 52 rfl (by decide) ?_
                refine z_istore 53 rfl (by decide) rfl ?_
                refine z_bipush (v := 100) 54 rfl (by decide) ?_
                refine z_istore 55 rfl (by decide) rfl ?_
                refine z_iconst (v := 0) 56 rfl (by decide) ?_
                refine z_istore 57 rfl (by decide) rfl ?_
                exact B
              · have B := B.2 c37
                refine z_bipush (v := -3) 46 rfl (by decide) ?_
                exact z_iret 47 rfl rfl rfl ⟨rfl, rfl⟩ ⟨_, rfl, B⟩
            · have B := B.2 c18
              refine z_iconst (v := -1) 23 rfl (by decide) ?_
              exact z_iret 24 rfl rfl rfl ⟨rfl, rfl⟩ ⟨_, rfl, B⟩
theorem cn_X9_mending {G : zG} {d : Nat} {h : zMem} {Q : Int32 → zMem → Prop} {a0 : Nat} {x1 : Int32} {x2 : Int32} {x3 : Int32} {x4 : Int32} (B : zg G mX9_mending (d + 1) 0 [.ref a0, .int x1, .int x2, .int x3, .int x4, zU, zU, zU, zU, zU, zU] [] h (zPI Q)) : zConI G mX9_mending (d + 1) [.ref a0, .int x1, .int x2, .int x3, .int x4] h Q := zcon0 (by decide +kernel) eX9_mending (Nat.le_of_ble_eq_true rfl) rfl B
set_option maxRecDepth 100000 in
set_option maxHeartbeats 4000000 in
theorem sg_X9_mending_106 {G : zG} {d : Nat} {h : zMem} {Q : Int32 → zMem → Prop} {a0 : Nat} {x1 : Int32} {x2 : Int32} {x3 : Int32} {x4 : Int32} {x5 : Int32} {x6 : Int32} {x7 : Int32} {x8 : Int32} {x9 : Int32} (B : zO h a0 8 ∧ ∃ r2, zR h a0 11 = some r2 ∧ zO h r2 6 ∧ ∃ r4, zR h r2 0 = some r4 ∧ zO h r4 100 ∧ vp_in (0 : Int32) (zLen h r4) ∧ ((zI h r4 (0 : Int32).toNatClampNeg) ≤ x9 → (x4 = 0 → Q x7 h) ∧ (¬ x4 = 0 → (¬ x7 = (-2 : Int32) → Q x8 h) ∧ (x7 = (-2 : Int32) → Q x7 h))) ∧ (¬ (zI h r4 (0 : Int32).toNatClampNeg) ≤ x9 → ∃ Q10 : Int32 → zMem → Prop, zConI G mX9_moreThatIsSmelled d [.ref a0, .int x1, .int x6, .int x9, .int x5] h Q10 ∧ (∀ v13 h11, Q10 v13 h11 → (x8 ≤ v13 → zg G mX9_mending (d + 1) 106 [.ref a0, .int x1, .int x2, .int x3, .int x4, .int x5, .int x6, .int x7, .int x8, .int (x9 + 1), zU] [] h11 (zPI Q)) ∧ (¬ x8 ≤ v13 → zg G mX9_mending (d + 1) 106 [.ref a0, .int x1, .int x2, .int x3, .int x4, .int x5, .int x6, .int x9, .int v13, .int (x9 + 1), zU] [] h11 (zPI Q))))) : zg G mX9_mending (d + 1) 106 [.ref a0, .int x1, .int x2, .int x3, .int x4, .int x5, .int x6, .int x7, .int x8, .int x9, zU] [] h (zPI Q) := by
  refine z_iload 58 rfl rfl ?_
  refine z_aload_n 59 rfl rfl ?_
  obtain ⟨o1, B⟩ := B
  obtain ⟨r2, hr2, B⟩ := B
  refine z_getR 60 rfl lX9_67 rfl o1 hr2 ?_
  obtain ⟨o3, B⟩ := B
  obtain ⟨r4, hr4, B⟩ := B
  refine z_getR 61 rfl lX9_208 rfl o3 hr4 ?_
  refine z_iconst (v := 0) 62 rfl (by decide) ?_
  obtain ⟨o5, B⟩ := B
  obtain ⟨o6, B⟩ := B
  refine z_iald 63 rfl o5 o6 ?_
  refine z_icmp_ge 64 154 rfl (by decide) ⟨fun c7 => ?_, fun c7 => ?_⟩
  · have B := B.1 c7
    refine z_iload 81 rfl rfl ?_
    refine z_if_eq 82 166 rfl (by decide) ⟨fun c8 => ?_, fun c8 => ?_⟩
    · have B := B.1 c8
      refine z_iload 86 rfl rfl ?_
      refine z_goto 87 173 rfl (by decide) ?_
      exact z_iret 89 rfl rfl rfl ⟨rfl, rfl⟩ ⟨_, rfl, B⟩
    · have B := B.2 c8
      refine z_iload 83 rfl rfl ?_
      refine z_bipush (v := -2) 84 rfl (by decide) ?_
      refine z_icmp_ne 85 171 rfl (by decide) ⟨fun c9 => ?_, fun c9 => ?_⟩
      · have B := B.1 c9
        refine z_iload 88 rfl rfl ?_
        exact z_iret 89 rfl rfl rfl ⟨rfl, rfl⟩ ⟨_, rfl, B⟩
      · have B := B.2 c9
        refine z_iload 86 rfl rfl ?_
        refine z_goto 87 173 rfl (by decide) ?_
        exact z_iret 89 rfl rfl rfl ⟨rfl, rfl⟩ ⟨_, rfl, B⟩
  · have B := B.2 c7
    refine z_aload_n 65 rfl rfl ?_
    refine z_iload_n 66 rfl rfl ?_
    refine z_iload 67 rfl rfl ?_
    refine z_iload 68 rfl rfl ?_
    refine z_iload 69 rfl rfl ?_
    obtain ⟨Q10, K12, B⟩ := B
    refine z_cVI4 (ν := mX9_moreThatIsSmelled) 70 rfl rfl fX9_moreThatIsSmelled gX9_216 ⟨_, rfl, rfl⟩ (by decide) o1 (Nat.le_of_ble_eq_true rfl) K12 (fun v13 h11 q => ?_)
    have B := B v13 h11 q
    refine z_istore 71 rfl (by decide) rfl ?_
    refine z_iload 72 rfl rfl ?_
    refine z_iload 73 rfl rfl ?_
    refine z_icmp_ge 74 148 rfl (by decide) ⟨fun c14 => ?_, fun c14 => ?_⟩
    · have B := B.1 c14
      refine z_iinc (v := 1) 79 rfl rfl (by decide) (by decide) rfl ?_
      refine z_goto 80 106 rfl (by decide) ?_
      refine z_drop 10 ?_
      exact B
    · have B := B.2 c14
      refine z_iload 75 rfl rfl ?_
      refine z_istore 76 rfl (by decide) rfl ?_
      refine z_iload 77 rfl rfl ?_
      refine z_istore 78 rfl (by decide) rfl ?_
      refine z_iinc (v := 1) 79 rfl rfl (by decide) (by decide) rfl ?_
      refine z_goto 80 106 rfl (by decide) ?_
      refine z_drop 10 ?_
      exact B
set_option maxRecDepth 100000 in
set_option maxHeartbeats 4000000 in
theorem sg_X9_moreThatIsSmelled_0 {G : zG} {d : Nat} {h : zMem} {Q : Int32 → zMem → Prop} {a0 : Nat} {x1 : Int32} {x2 : Int32} {x3 : Int32} {x4 : Int32} (B : zO h a0 8 ∧ ∃ r2, zR h a0 4 = some r2 ∧ zO h r2 5 ∧ ∃ r4, zR h r2 2 = some r4 ∧ ∃ r5, zR h r2 4 = some r5 ∧ zO h r5 100 ∧ vp_in x1 (zLen h r5) ∧ zO h r4 100 ∧ vp_in (zI h r5 x1.toNatClampNeg) (zLen h r4) ∧ ∃ r10, zR h a0 11 = some r10 ∧ zO h r10 6 ∧ ∃ r12, zR h r10 4 = some r12 ∧ zO h r12 104 ∧ vp_in x2 (zLen h r12) ∧ ∃ r15, zR h r12 x2.toNatClampNeg = some r15 ∧ zO h r15 100 ∧ vp_in x3 (zLen h r15) ∧ ∃ r18, zR h r2 5 = some r18 ∧ zO h r18 100 ∧ vp_in x1 (zLen h r18) ∧ (¬ (((zI h r18 x1.toNatClampNeg) >>> (x3 &&& 31)) &&& (1 : Int32)) = (1 : Int32) → (¬ (0 : Int32) = 0 → Q (100 : Int32) h) ∧ ((0 : Int32) = 0 → ((((zI h r15 x3.toNatClampNeg) * (zI h r4 (zI h r5 x1.toNatClampNeg).toNatClampNeg)) / (100 : Int32)) < x4 → zg G mX9_moreThatIsSmelled d 80 [.ref a0, .int x1, .int x2, .int x3, .int x4, .int (zI h r4 (zI h r5 x1.toNatClampNeg).toNatClampNeg), .int (zI h r15 x3.toNatClampNeg), .int (0 : Int32), .int (1 : Int32)] [] h (zPI Q)) ∧ (¬ (((zI h r15 x3.toNatClampNeg) * (zI h r4 (zI h r5 x1.toNatClampNeg).toNatClampNeg)) / (100 : Int32)) < x4 → Q (100 : Int32) h))) ∧ ((((zI h r18 x1.toNatClampNeg) >>> (x3 &&& 31)) &&& (1 : Int32)) = (1 : Int32) → (¬ (1 : Int32) = 0 → Q (100 : Int32) h) ∧ ((1 : Int32) = 0 → ((((zI h r15 x3.toNatClampNeg) * (zI h r4 (zI h r5 x1.toNatClampNeg).toNatClampNeg)) / (100 : Int32)) < x4 → zg G mX9_moreThatIsSmelled d 80 [.ref a0, .int x1, .int x2, .int x3, .int x4, .int (zI h r4 (zI h r5 x1.toNatClampNeg).toNatClampNeg), .int (zI h r15 x3.toNatClampNeg), .int (1 : Int32), .int (1 : Int32)] [] h (zPI Q)) ∧ (¬ (((zI h r15 x3.toNatClampNeg) * (zI h r4 (zI h r5 x1.toNatClampNeg).toNatClampNeg)) / (100 : Int32)) < x4 → Q (100 : Int32) h)))) : zg G mX9_moreThatIsSmelled d 0 [.ref a0, .int x1, .int x2, .int x3, .int x4, zU, zU, zU, zU] [] h (zPI Q) := by
  refine z_aload_n 0 rfl rfl ?_
  obtain ⟨o1, B⟩ := B
  obtain ⟨r2, hr2, B⟩ := B
  refine z_getR 1 rfl lX9_37 rfl o1 hr2 ?_
  obtain ⟨o3, B⟩ := B
  obtain ⟨r4, hr4, B⟩ := B
  refine z_getR 2 rfl lX9_220 rfl o3 hr4 ?_
  refine z_aload_n 3 rfl rfl ?_
  refine z_getR 4 rfl lX9_37 rfl o1 hr2 ?_
  obtain ⟨r5, hr5, B⟩ := B
  refine z_getR 5 rfl lX9_128 rfl o3 hr5 ?_
  refine z_iload_n 6 rfl rfl ?_
  obtain ⟨o6, B⟩ := B
  obtain ⟨o7, B⟩ := B
  refine z_iald 7 rfl o6 o7 ?_
  obtain ⟨o8, B⟩ := B
  obtain ⟨o9, B⟩ := B
  refine z_iald 8 rfl o8 o9 ?_
  refine z_istore 9 rfl (by decide) rfl ?_
  refine z_aload_n 10 rfl rfl ?_
  obtain ⟨r10, hr10, B⟩ := B
  refine z_getR 11 rfl lX9_67 rfl o1 hr10 ?_
  obtain ⟨o11, B⟩ := B
  obtain ⟨r12, hr12, B⟩ := B
  refine z_getR 12 rfl lX9_158 rfl o11 hr12 ?_
  refine z_iload_n 13 rfl rfl ?_
  obtain ⟨o13, B⟩ := B
  obtain ⟨o14, B⟩ := B
  obtain ⟨r15, hr15, B⟩ := B
  refine z_aald 14 rfl o13 o14 hr15 ?_
  refine z_iload_n 15 rfl rfl ?_
  obtain ⟨o16, B⟩ := B
  obtain ⟨o17, B⟩ := B
  refine z_iald 16 rfl o16 o17 ?_
  refine z_istore 17 rfl (by decide) rfl ?_
  refine z_aload_n 18 rfl rfl ?_
  refine z_getR 19 rfl lX9_37 rfl o1 hr2 ?_
  obtain ⟨r18, hr18, B⟩ := B
  refine z_getR 20 rfl lX9_134 rfl o3 hr18 ?_
  refine z_iload_n 21 rfl rfl ?_
  obtain ⟨o19, B⟩ := B
  obtain ⟨o20, B⟩ := B
  refine z_iald 22 rfl o19 o20 ?_
  refine z_iload_n 23 rfl rfl ?_
  refine z_ishr 24 rfl ?_
  refine z_iconst (v := 1) 25 rfl (by decide) ?_
  refine z_iand 26 rfl ?_
  refine z_iconst (v := 1) 27 rfl (by decide) ?_
  refine z_icmp_ne 28 53 rfl (by decide) ⟨fun c21 => ?_, fun c21 => ?_⟩
  · have B := B.1 c21
    refine z_iconst (v := 0) 31 rfl (by decide) ?_
    refine z_istore 32 rfl (by decide) rfl ?_
    refine z_iload 33 rfl rfl ?_
    refine z_if_ne 34 74 rfl (by decide) ⟨fun c22 => ?_, fun c22 => ?_⟩
    · have B := B.1 c22
      refine z_bipush (v := 100) 42 rfl (by decide) ?_
      exact z_iret 43 rfl rfl rfl ⟨rfl, rfl⟩ ⟨_, rfl, B⟩
    · have B := B.2 c22
      refine z_iload 35 rfl rfl ?_
      refine z_iload 36 rfl rfl ?_
      refine z_imul 37 rfl ?_
      refine z_bipush (v := 100) 38 rfl (by decide) ?_
      refine z_idiv 39 rfl (by decide) ?_
      refine z_iload 40 rfl rfl ?_
      refine z_icmp_lt 41 77 rfl (by decide) ⟨fun c23 => ?_, fun c23 => ?_⟩
      · have B := B.1 c23
        refine z_iconst (v := 1) 44 rfl (by decide) ?_
        refine z_istore 45 rfl (by decide) rfl ?_
        exact B
      · have B := B.2 c23
        refine z_bipush (v := 100) 42 rfl (by decide) ?_
        exact z_iret 43 rfl rfl rfl ⟨rfl, rfl⟩ ⟨_, rfl, B⟩
  · have B := B.2 c21
    refine z_iconst (v := 1) 29 rfl (by decide) ?_
    refine z_goto 30 54 rfl (by decide) ?_
    refine z_istore 32 rfl (by decide) rfl ?_
    refine z_iload 33 rfl rfl ?_
    refine z_if_ne 34 74 rfl (by decide) ⟨fun c24 => ?_, fun c24 => ?_⟩
    · have B := B.1 c24
      refine z_bipush (v := 100) 42 rfl (by decide) ?_
      exact z_iret 43 rfl rfl rfl ⟨rfl, rfl⟩ ⟨_, rfl, B⟩
    · have B := B.2 c24
      refine z_iload 35 rfl rfl ?_
      refine z_iload 36 rfl rfl ?_
      refine z_imul 37 rfl ?_
      refine z_bipush (v := 100) 38 rfl (by decide) ?_
      refine z_idiv 39 rfl (by decide) ?_
      refine z_iload 40 rfl rfl ?_
      refine z_icmp_lt 41 77 rfl (by decide) ⟨fun c25 => ?_, fun c25 => ?_⟩
      · have B := B.1 c25
        refine z_iconst (v := 1) 44 rfl (by decide) ?_
        refine z_istore 45 rfl (by decide) rfl ?_
        exact B
      · have B := B.2 c25
        refine z_bipush (v := 100) 42 rfl (by decide) ?_
        exact z_iret 43 rfl rfl rfl ⟨rfl, rfl⟩ ⟨_, rfl, B⟩
theorem cn_X9_moreThatIsSmelled {G : zG} {d : Nat} {h : zMem} {Q : Int32 → zMem → Prop} {a0 : Nat} {x1 : Int32} {x2 : Int32} {x3 : Int32} {x4 : Int32} (B : zg G mX9_moreThatIsSmelled d 0 [.ref a0, .int x1, .int x2, .int x3, .int x4, zU, zU, zU, zU] [] h (zPI Q)) : zConI G mX9_moreThatIsSmelled d [.ref a0, .int x1, .int x2, .int x3, .int x4] h Q := zcon0 (by decide +kernel) eX9_moreThatIsSmelled (Nat.le_of_ble_eq_true rfl) rfl B
set_option maxRecDepth 100000 in
set_option maxHeartbeats 4000000 in
theorem sg_X9_moreThatIsSmelled_80 {G : zG} {d : Nat} {h : zMem} {Q : Int32 → zMem → Prop} {a0 : Nat} {x1 : Int32} {x2 : Int32} {x3 : Int32} {x4 : Int32} {x5 : Int32} {x6 : Int32} {x7 : Int32} {x8 : Int32} (B : ((99 : Int32) < x8 → Q (100 : Int32) h) ∧ (¬ (99 : Int32) < x8 → ((((x6 + x8) * x5) / (100 : Int32)) < x4 → zg G mX9_moreThatIsSmelled d 80 [.ref a0, .int x1, .int x2, .int x3, .int x4, .int x5, .int x6, .int x7, .int (x8 + 1)] [] h (zPI Q)) ∧ (¬ (((x6 + x8) * x5) / (100 : Int32)) < x4 → Q x8 h))) : zg G mX9_moreThatIsSmelled d 80 [.ref a0, .int x1, .int x2, .int x3, .int x4, .int x5, .int x6, .int x7, .int x8] [] h (zPI Q) := by
  refine z_iload 46 rfl rfl ?_
  refine z_bipush (v := 99) 47 rfl (by decide) ?_
  refine z_icmp_gt 48 112 rfl (by decide) ⟨fun c1 => ?_, fun c1 => ?_⟩
  · have B := B.1 c1
    refine z_bipush (v := 100) 62 rfl (by decide) ?_
    exact z_iret 63 rfl rfl rfl ⟨rfl, rfl⟩ ⟨_, rfl, B⟩
  · have B := B.2 c1
    refine z_iload 49 rfl rfl ?_
    refine z_iload 50 rfl rfl ?_
    refine z_iadd 51 rfl ?_
    refine z_iload 52 rfl rfl ?_
    refine z_imul 53 rfl ?_
    refine z_bipush (v := 100) 54 rfl (by decide) ?_
    refine z_idiv 55 rfl (by decide) ?_
    refine z_iload 56 rfl rfl ?_
    refine z_icmp_lt 57 106 rfl (by decide) ⟨fun c2 => ?_, fun c2 => ?_⟩
    · have B := B.1 c2
      refine z_iinc (v := 1) 60 rfl rfl (by decide) (by decide) rfl ?_
      refine z_goto 61 80 rfl (by decide) ?_
      exact B
    · have B := B.2 c2
      refine z_iload 58 rfl rfl ?_
      exact z_iret 59 rfl rfl rfl ⟨rfl, rfl⟩ ⟨_, rfl, B⟩
set_option maxRecDepth 100000 in
set_option maxHeartbeats 4000000 in
theorem sg_X9_placeTo_0 {G : zG} {d : Nat} {h : zMem} {Q : Int32 → zMem → Prop} {a0 : Nat} {x1 : Int32} {x2 : Int32} (B : zO h a0 8 ∧ ∃ Q1 : Int32 → zMem → Prop, zConI G mX9_has d [.ref a0, .int (3 : Int32), .int x1] h Q1 ∧ (∀ v4 h2, Q1 v4 h2 → (v4 = 0 → Q (-1 : Int32) h2) ∧ (¬ v4 = 0 → (x2 < 0 → Q (-1 : Int32) h2) ∧ (¬ x2 < 0 → (x2 ≤ (1 : Int32) → zg G mX9_placeTo (d + 1) 28 [.ref a0, .int x1, .int x2, .int (0 : Int32), .int (-1 : Int32), .int (0 : Int32), zU] [] h2 (zPI Q)) ∧ (¬ x2 ≤ (1 : Int32) → Q (-1 : Int32) h2))))) : zg G mX9_placeTo (d + 1) 0 [.ref a0, .int x1, .int x2, zU, zU, zU, zU] [] h (zPI Q) := by
  refine z_aload_n 0 rfl rfl ?_
  refine z_iconst (v := 3) 1 rfl (by decide) ?_
  refine z_iload_n 2 rfl rfl ?_
  obtain ⟨o8, B⟩ := B
  obtain ⟨Q1, K3, B⟩ := B
  refine z_cVI2 (ν := mX9_has) 3 rfl rfl fX9_has gX9_117 ⟨_, rfl, rfl⟩ (by decide) o8 (Nat.le_of_ble_eq_true rfl) K3 (fun v4 h2 q => ?_)
  have B := B v4 h2 q
  refine z_if_eq 4 18 rfl (by decide) ⟨fun c5 => ?_, fun c5 => ?_⟩
  · have B := B.1 c5
    refine z_iconst (v := -1) 10 rfl (by decide) ?_
    exact z_iret 11 rfl rfl rfl ⟨rfl, rfl⟩ ⟨_, rfl, B⟩
  · have B := B.2 c5
    refine z_iload_n 5 rfl rfl ?_
    refine z_if_lt 6 18 rfl (by decide) ⟨fun c6 => ?_, fun c6 => ?_⟩
    · have B := B.1 c6
      refine z_iconst (v := -1) 10 rfl (by decide) ?_
      exact z_iret 11 rfl rfl rfl ⟨rfl, rfl⟩ ⟨_, rfl, B⟩
    · have B := B.2 c6
      refine z_iload_n 7 rfl rfl ?_
      refine z_iconst (v := 1) 8 rfl (by decide) ?_
      refine z_icmp_le 9 20 rfl (by decide) ⟨fun c7 => ?_, fun c7 => ?_⟩
      · have B := B.1 c7
        refine z_iconst (v := 0) 12 rfl (by decide) ?_
        refine z_istore_n 13 rfl (by decide) rfl ?_
        refine z_iconst (v := -1) 14 rfl (by decide) ?_
        refine z_istore 15 rfl (by decide) rfl ?_
        refine z_iconst (v := 0) 16 rfl (by decide) ?_
        refine z_istore 17 rfl (by decide) rfl ?_
        exact B
      · have B := B.2 c7
        refine z_iconst (v := -1) 10 rfl (by decide) ?_
        exact z_iret 11 rfl rfl rfl ⟨rfl, rfl⟩ ⟨_, rfl, B⟩
theorem cn_X9_placeTo {G : zG} {d : Nat} {h : zMem} {Q : Int32 → zMem → Prop} {a0 : Nat} {x1 : Int32} {x2 : Int32} (B : zg G mX9_placeTo (d + 1) 0 [.ref a0, .int x1, .int x2, zU, zU, zU, zU] [] h (zPI Q)) : zConI G mX9_placeTo (d + 1) [.ref a0, .int x1, .int x2] h Q := zcon0 (by decide +kernel) eX9_placeTo (Nat.le_of_ble_eq_true rfl) rfl B
set_option maxRecDepth 100000 in
set_option maxHeartbeats 4000000 in
theorem sg_X9_placeTo_28 {G : zG} {d : Nat} {h : zMem} {Q : Int32 → zMem → Prop} {a0 : Nat} {x1 : Int32} {x2 : Int32} {x3 : Int32} {x4 : Int32} {x5 : Int32} (B : zO h a0 8 ∧ ∃ r2, zR h a0 11 = some r2 ∧ zO h r2 6 ∧ ∃ r4, zR h r2 0 = some r4 ∧ zO h r4 100 ∧ vp_in (2 : Int32) (zLen h r4) ∧ ((zI h r4 (2 : Int32).toNatClampNeg) ≤ x5 → (¬ x2 = 0 → Q x4 h) ∧ (x2 = 0 → Q x3 h)) ∧ (¬ (zI h r4 (2 : Int32).toNatClampNeg) ≤ x5 → ∃ Q9 : zMem → Prop, zConV G mX9_markDays d [.ref a0, .int x1, .int x5] h Q9 ∧ (∀ h10, Q9 h10 → zO h10 a0 8 ∧ ∃ Q12 : Int32 → zMem → Prop, zConI G mX9_unlikeMarks d [.ref a0] h10 Q12 ∧ (∀ v15 h13, Q12 v15 h13 → (v15 ≤ x4 → zg G mX9_placeTo (d + 1) 28 [.ref a0, .int x1, .int x2, .int x3, .int x4, .int (x5 + 1), zU] [] h13 (zPI Q)) ∧ (¬ v15 ≤ x4 → zg G mX9_placeTo (d + 1) 28 [.ref a0, .int x1, .int x2, .int x5, .int v15, .int (x5 + 1), zU] [] h13 (zPI Q)))))) : zg G mX9_placeTo (d + 1) 28 [.ref a0, .int x1, .int x2, .int x3, .int x4, .int x5, zU] [] h (zPI Q) := by
  refine z_iload 18 rfl rfl ?_
  refine z_aload_n 19 rfl rfl ?_
  obtain ⟨o1, B⟩ := B
  obtain ⟨r2, hr2, B⟩ := B
  refine z_getR 20 rfl lX9_67 rfl o1 hr2 ?_
  obtain ⟨o3, B⟩ := B
  obtain ⟨r4, hr4, B⟩ := B
  refine z_getR 21 rfl lX9_208 rfl o3 hr4 ?_
  refine z_iconst (v := 2) 22 rfl (by decide) ?_
  obtain ⟨o5, B⟩ := B
  obtain ⟨o6, B⟩ := B
  refine z_iald 23 rfl o5 o6 ?_
  refine z_icmp_ge 24 75 rfl (by decide) ⟨fun c7 => ?_, fun c7 => ?_⟩
  · have B := B.1 c7
    refine z_iload_n 41 rfl rfl ?_
    refine z_if_ne 42 83 rfl (by decide) ⟨fun c8 => ?_, fun c8 => ?_⟩
    · have B := B.1 c8
      refine z_iload 45 rfl rfl ?_
      exact z_iret 46 rfl rfl rfl ⟨rfl, rfl⟩ ⟨_, rfl, B⟩
    · have B := B.2 c8
      refine z_iload_n 43 rfl rfl ?_
      refine z_goto 44 85 rfl (by decide) ?_
      exact z_iret 46 rfl rfl rfl ⟨rfl, rfl⟩ ⟨_, rfl, B⟩
  · have B := B.2 c7
    refine z_aload_n 25 rfl rfl ?_
    refine z_iload_n 26 rfl rfl ?_
    refine z_iload 27 rfl rfl ?_
    obtain ⟨Q9, K11, B⟩ := B
    refine z_cVV2 (ν := mX9_markDays) 28 rfl rfl fX9_markDays gX9_201 ⟨_, rfl, rfl⟩ (by decide) o1 (Nat.le_of_ble_eq_true rfl) K11 (fun h10 q => ?_)
    have B := B h10 q
    refine z_aload_n 29 rfl rfl ?_
    obtain ⟨o17, B⟩ := B
    obtain ⟨Q12, K14, B⟩ := B
    refine z_cVI0 (ν := mX9_unlikeMarks) 30 rfl rfl fX9_unlikeMarks gX9_223 ⟨_, rfl, rfl⟩ (by decide) o17 (Nat.le_of_ble_eq_true rfl) K14 (fun v15 h13 q => ?_)
    have B := B v15 h13 q
    refine z_istore 31 rfl (by decide) rfl ?_
    refine z_iload 32 rfl rfl ?_
    refine z_iload 33 rfl rfl ?_
    refine z_icmp_le 34 69 rfl (by decide) ⟨fun c16 => ?_, fun c16 => ?_⟩
    · have B := B.1 c16
      refine z_iinc (v := 1) 39 rfl rfl (by decide) (by decide) rfl ?_
      refine z_goto 40 28 rfl (by decide) ?_
      refine z_drop 6 ?_
      exact B
    · have B := B.2 c16
      refine z_iload 35 rfl rfl ?_
      refine z_istore 36 rfl (by decide) rfl ?_
      refine z_iload 37 rfl rfl ?_
      refine z_istore_n 38 rfl (by decide) rfl ?_
      refine z_iinc (v := 1) 39 rfl rfl (by decide) (by decide) rfl ?_
      refine z_goto 40 28 rfl (by decide) ?_
      refine z_drop 6 ?_
      exact B
set_option maxRecDepth 100000 in
set_option maxHeartbeats 4000000 in
theorem sg_X9_lasts_0 {G : zG} {d : Nat} {h : zMem} {Q : Int32 → zMem → Prop} {a0 : Nat} {x1 : Int32} (B : (x1 < 0 → Q (-1 : Int32) h) ∧ (¬ x1 < 0 → (x1 ≤ (1 : Int32) → zO h a0 8 ∧ ∃ r4, zR h a0 6 = some r4 ∧ ∃ r5, zR h a0 4 = some r5 ∧ zO h r4 5 ∧ ∃ Q6 : zMem → Prop, zConV G mX5_copy d [.ref r4, .ref r5] h Q6 ∧ (∀ h7, Q6 h7 → zg G mX9_lasts (d + 1) 24 [.ref a0, .int x1, .int (0 : Int32), zU] [] h7 (zPI Q))) ∧ (¬ x1 ≤ (1 : Int32) → Q (-1 : Int32) h))) : zg G mX9_lasts (d + 1) 0 [.ref a0, .int x1, zU, zU] [] h (zPI Q) := by
  refine z_iload_n 0 rfl rfl ?_
  refine z_if_lt 1 9 rfl (by decide) ⟨fun c1 => ?_, fun c1 => ?_⟩
  · have B := B.1 c1
    refine z_iconst (v := -1) 5 rfl (by decide) ?_
    exact z_iret 6 rfl rfl rfl ⟨rfl, rfl⟩ ⟨_, rfl, B⟩
  · have B := B.2 c1
    refine z_iload_n 2 rfl rfl ?_
    refine z_iconst (v := 1) 3 rfl (by decide) ?_
    refine z_icmp_le 4 11 rfl (by decide) ⟨fun c2 => ?_, fun c2 => ?_⟩
    · have B := B.1 c2
      refine z_aload_n 7 rfl rfl ?_
      obtain ⟨o3, B⟩ := B
      obtain ⟨r4, hr4, B⟩ := B
      refine z_getR 8 rfl lX9_44 rfl o3 hr4 ?_
      refine z_aload_n 9 rfl rfl ?_
      obtain ⟨r5, hr5, B⟩ := B
      refine z_getR 10 rfl lX9_37 rfl o3 hr5 ?_
      obtain ⟨o9, B⟩ := B
      obtain ⟨Q6, K8, B⟩ := B
      refine z_cVV1 (ν := mX5_copy) 11 rfl rfl fX5_copy gX9_226 ⟨_, rfl, rfl⟩ (by decide) o9 (Nat.le_of_ble_eq_true rfl) K8 (fun h7 q => ?_)
      have B := B h7 q
      refine z_iconst (v := 0) 12 rfl (by decide) ?_
      refine z_istore_n 13 rfl (by decide) rfl ?_
      exact B
    · have B := B.2 c2
      refine z_iconst (v := -1) 5 rfl (by decide) ?_
      exact z_iret 6 rfl rfl rfl ⟨rfl, rfl⟩ ⟨_, rfl, B⟩
theorem cn_X9_lasts {G : zG} {d : Nat} {h : zMem} {Q : Int32 → zMem → Prop} {a0 : Nat} {x1 : Int32} (B : zg G mX9_lasts (d + 1) 0 [.ref a0, .int x1, zU, zU] [] h (zPI Q)) : zConI G mX9_lasts (d + 1) [.ref a0, .int x1] h Q := zcon0 (by decide +kernel) eX9_lasts (Nat.le_of_ble_eq_true rfl) rfl B
set_option maxRecDepth 100000 in
set_option maxHeartbeats 4000000 in
theorem sg_X9_lasts_24 {G : zG} {d : Nat} {h : zMem} {Q : Int32 → zMem → Prop} {a0 : Nat} {x1 : Int32} {x2 : Int32} (B : ((200 : Int32) ≤ x2 → (¬ x1 = 0 → Q (-2 : Int32) h) ∧ (x1 = 0 → Q (200 : Int32) h)) ∧ (¬ (200 : Int32) ≤ x2 → zO h a0 8 ∧ ∃ r4, zR h a0 6 = some r4 ∧ ∃ r5, zR h a0 11 = some r5 ∧ zO h r4 5 ∧ ∃ Q6 : Int32 → zMem → Prop, zConI G mX5_firstShort d [.ref r4, .ref r5] h Q6 ∧ (∀ v9 h7, Q6 v9 h7 → (v9 = (-1 : Int32) → zO h7 a0 8 ∧ ∃ r12, zR h7 a0 6 = some r12 ∧ ∃ r13, zR h7 a0 11 = some r13 ∧ zO h7 r12 5 ∧ ∃ Q14 : zMem → Prop, zConV G mX5_takeOut d [.ref r12, .ref r13] h7 Q14 ∧ (∀ h15, Q14 h15 → zO h15 a0 8 ∧ ∃ r18, zR h15 a0 6 = some r18 ∧ zO h15 r18 5 ∧ zg G mX9_lasts (d + 1) 24 [.ref a0, .int x1, .int (x2 + 1), zU] [] (zsI h15 r18 10 ((zI h15 r18 10) + (1 : Int32))) (zPI Q))) ∧ (¬ v9 = (-1 : Int32) → (¬ x1 = 0 → Q v9 h7) ∧ (x1 = 0 → Q x2 h7))))) : zg G mX9_lasts (d + 1) 24 [.ref a0, .int x1, .int x2, zU] [] h (zPI Q) := by
  refine z_iload_n 14 rfl rfl ?_
  refine z_sipush (v := 200) 15 rfl (by decide) ?_
  refine z_icmp_ge 16 88 rfl (by decide) ⟨fun c1 => ?_, fun c1 => ?_⟩
  · have B := B.1 c1
    refine z_iload_n 46 rfl rfl ?_
    refine z_if_ne 47 98 rfl (by decide) ⟨fun c2 => ?_, fun c2 => ?_⟩
    · have B := B.1 c2
      refine z_bipush (v := -2) 50 rfl (by decide) ?_
      exact z_iret 51 rfl rfl rfl ⟨rfl, rfl⟩ ⟨_, rfl, B⟩
    · have B := B.2 c2
      refine z_sipush (v := 200) 48 rfl (by decide) ?_
      refine z_goto 49 100 rfl (by decide) ?_
      exact z_iret 51 rfl rfl rfl ⟨rfl, rfl⟩ ⟨_, rfl, B⟩
  · have B := B.2 c1
    refine z_aload_n 17 rfl rfl ?_
    obtain ⟨o3, B⟩ := B
    obtain ⟨r4, hr4, B⟩ := B
    refine z_getR 18 rfl lX9_44 rfl o3 hr4 ?_
    refine z_aload_n 19 rfl rfl ?_
    obtain ⟨r5, hr5, B⟩ := B
    refine z_getR 20 rfl lX9_67 rfl o3 hr5 ?_
    obtain ⟨o22, B⟩ := B
    obtain ⟨Q6, K8, B⟩ := B
    refine z_cVI1 (ν := mX5_firstShort) 21 rfl rfl fX5_firstShort gX9_230 ⟨_, rfl, rfl⟩ (by decide) o22 (Nat.le_of_ble_eq_true rfl) K8 (fun v9 h7 q => ?_)
    have B := B v9 h7 q
    refine z_istore_n 22 rfl (by decide) rfl ?_
    refine z_iload_n 23 rfl rfl ?_
    refine z_iconst (v := -1) 24 rfl (by decide) ?_
    refine z_icmp_eq 25 58 rfl (by decide) ⟨fun c10 => ?_, fun c10 => ?_⟩
    · have B := B.1 c10
      refine z_aload_n 32 rfl rfl ?_
      obtain ⟨o11, B⟩ := B
      obtain ⟨r12, hr12, B⟩ := B
      refine z_getR 33 rfl lX9_44 rfl o11 hr12 ?_
      refine z_aload_n 34 rfl rfl ?_
      obtain ⟨r13, hr13, B⟩ := B
      refine z_getR 35 rfl lX9_67 rfl o11 hr13 ?_
      obtain ⟨o20, B⟩ := B
      obtain ⟨Q14, K16, B⟩ := B
      refine z_cVV1 (ν := mX5_takeOut) 36 rfl rfl fX5_takeOut gX9_234 ⟨_, rfl, rfl⟩ (by decide) o20 (Nat.le_of_ble_eq_true rfl) K16 (fun h15 q => ?_)
      have B := B h15 q
      refine z_aload_n 37 rfl rfl ?_
      obtain ⟨o17, B⟩ := B
      obtain ⟨r18, hr18, B⟩ := B
      refine z_getR 38 rfl lX9_44 rfl o17 hr18 ?_
      refine z_dup 39 rfl rfl ?_
      obtain ⟨o19, B⟩ := B
      refine z_getI 40 rfl lX9_195 rfl o19 ?_
      refine z_iconst (v := 1) 41 rfl (by decide) ?_
      refine z_iadd 42 rfl ?_
      refine z_putI 43 rfl lX9_195 ⟨_, _, _, rfl, rfl⟩ rfl rfl rfl o19 ?_
      refine z_iinc (v := 1) 44 rfl rfl (by decide) (by decide) rfl ?_
      refine z_goto 45 24 rfl (by decide) ?_
      refine z_drop 3 ?_
      exact B
    · have B := B.2 c10
      refine z_iload_n 26 rfl rfl ?_
      refine z_if_ne 27 56 rfl (by decide) ⟨fun c21 => ?_, fun c21 => ?_⟩
      · have B := B.1 c21
        refine z_iload_n 30 rfl rfl ?_
        exact z_iret 31 rfl rfl rfl ⟨rfl, rfl⟩ ⟨_, rfl, B⟩
      · have B := B.2 c21
        refine z_iload_n 28 rfl rfl ?_
        refine z_goto 29 57 rfl (by decide) ?_
        exact z_iret 31 rfl rfl rfl ⟨rfl, rfl⟩ ⟨_, rfl, B⟩
set_option maxRecDepth 100000 in
set_option maxHeartbeats 4000000 in
theorem sg_X9_needs_0 {G : zG} {d : Nat} {h : zMem} {Q : Int32 → zMem → Prop} {a0 : Nat} {x1 : Int32} {x2 : Int32} (B : zO h a0 8 ∧ ∃ Q1 : Int32 → zMem → Prop, zConI G mX9_has d [.ref a0, .int (0 : Int32), .int x1] h Q1 ∧ (∀ v4 h2, Q1 v4 h2 → (v4 = 0 → Q (-1 : Int32) h2) ∧ (¬ v4 = 0 → (x2 < 0 → Q (-1 : Int32) h2) ∧ (¬ x2 < 0 → (x2 ≤ (99 : Int32) → zg G mX9_needs (d + 1) 26 [.ref a0, .int x1, .int x2, .int (0 : Int32), .int (0 : Int32)] [] h2 (zPI Q)) ∧ (¬ x2 ≤ (99 : Int32) → Q (-1 : Int32) h2))))) : zg G mX9_needs (d + 1) 0 [.ref a0, .int x1, .int x2, zU, zU] [] h (zPI Q) := by
  refine z_aload_n 0 rfl rfl ?_
  refine z_iconst (v := 0) 1 rfl (by decide) ?_
  refine z_iload_n 2 rfl rfl ?_
  obtain ⟨o8, B⟩ := B
  obtain ⟨Q1, K3, B⟩ := B
  refine z_cVI2 (ν := mX9_has) 3 rfl rfl fX9_has gX9_117 ⟨_, rfl, rfl⟩ (by decide) o8 (Nat.le_of_ble_eq_true rfl) K3 (fun v4 h2 q => ?_)
  have B := B v4 h2 q
  refine z_if_eq 4 19 rfl (by decide) ⟨fun c5 => ?_, fun c5 => ?_⟩
  · have B := B.1 c5
    refine z_iconst (v := -1) 10 rfl (by decide) ?_
    exact z_iret 11 rfl rfl rfl ⟨rfl, rfl⟩ ⟨_, rfl, B⟩
  · have B := B.2 c5
    refine z_iload_n 5 rfl rfl ?_
    refine z_if_lt 6 19 rfl (by decide) ⟨fun c6 => ?_, fun c6 => ?_⟩
    · have B := B.1 c6
      refine z_iconst (v := -1) 10 rfl (by decide) ?_
      exact z_iret 11 rfl rfl rfl ⟨rfl, rfl⟩ ⟨_, rfl, B⟩
    · have B := B.2 c6
      refine z_iload_n 7 rfl rfl ?_
      refine z_bipush (v := 99) 8 rfl (by decide) ?_
      refine z_icmp_le 9 21 rfl (by decide) ⟨fun c7 => ?_, fun c7 => ?_⟩
      · have B := B.1 c7
        refine z_iconst (v := 0) 12 rfl (by decide) ?_
        refine z_istore_n 13 rfl (by decide) rfl ?_
        refine z_iconst (v := 0) 14 rfl (by decide) ?_
        refine z_istore 15 rfl (by decide) rfl ?_
        exact B
      · have B := B.2 c7
        refine z_iconst (v := -1) 10 rfl (by decide) ?_
        exact z_iret 11 rfl rfl rfl ⟨rfl, rfl⟩ ⟨_, rfl, B⟩
theorem cn_X9_needs {G : zG} {d : Nat} {h : zMem} {Q : Int32 → zMem → Prop} {a0 : Nat} {x1 : Int32} {x2 : Int32} (B : zg G mX9_needs (d + 1) 0 [.ref a0, .int x1, .int x2, zU, zU] [] h (zPI Q)) : zConI G mX9_needs (d + 1) [.ref a0, .int x1, .int x2] h Q := zcon0 (by decide +kernel) eX9_needs (Nat.le_of_ble_eq_true rfl) rfl B
set_option maxRecDepth 100000 in
set_option maxHeartbeats 4000000 in
theorem sg_X9_needs_26 {G : zG} {d : Nat} {h : zMem} {Q : Int32 → zMem → Prop} {a0 : Nat} {x1 : Int32} {x2 : Int32} {x3 : Int32} {x4 : Int32} (B : (x2 ≤ x4 → zO h a0 8 ∧ ∃ r3, zR h a0 4 = some r3 ∧ zO h r3 5 ∧ ∃ r5, zR h r3 0 = some r5 ∧ zO h r5 100 ∧ vp_in x1 (zLen h r5) ∧ Q (if (0 : Int32) < (x3 - (zI h r5 x1.toNatClampNeg)) then (x3 - (zI h r5 x1.toNatClampNeg)) else (0 : Int32)) h) ∧ (¬ x2 ≤ x4 → zO h a0 8 ∧ ∃ r9, zR h a0 11 = some r9 ∧ ∃ r10, zR h a0 4 = some r10 ∧ zO h r10 5 ∧ zO h r9 6 ∧ ∃ Q12 : Int32 → zMem → Prop, zConI G mX7_mixedOn d [.ref r9, .int ((zI h r10 10) + x4), .int x1] h Q12 ∧ (∀ v15 h13, Q12 v15 h13 → zg G mX9_needs (d + 1) 26 [.ref a0, .int x1, .int x2, .int (x3 + v15), .int (x4 + 1)] [] h13 (zPI Q)))) : zg G mX9_needs (d + 1) 26 [.ref a0, .int x1, .int x2, .int x3, .int x4] [] h (zPI Q) := by
  refine z_iload 16 rfl rfl ?_
  refine z_iload_n 17 rfl rfl ?_
  refine z_icmp_ge 18 59 rfl (by decide) ⟨fun c1 => ?_, fun c1 => ?_⟩
  · have B := B.1 c1
    refine z_iconst (v := 0) 33 rfl (by decide) ?_
    refine z_iload_n 34 rfl rfl ?_
    refine z_aload_n 35 rfl rfl ?_
    obtain ⟨o2, B⟩ := B
    obtain ⟨r3, hr3, B⟩ := B
    refine z_getR 36 rfl lX9_37 rfl o2 hr3 ?_
    obtain ⟨o4, B⟩ := B
    obtain ⟨r5, hr5, B⟩ := B
    refine z_getR 37 rfl lX9_148 rfl o4 hr5 ?_
    refine z_iload_n 38 rfl rfl ?_
    obtain ⟨o6, B⟩ := B
    obtain ⟨o7, B⟩ := B
    refine z_iald 39 rfl o6 o7 ?_
    refine z_isub 40 rfl ?_
    refine z_mmax 41 rfl rfl gmX9_211 (Nat.le_of_ble_eq_true rfl) ?_
    exact z_iret 42 rfl rfl rfl ⟨rfl, rfl⟩ ⟨_, rfl, B⟩
  · have B := B.2 c1
    refine z_iload_n 19 rfl rfl ?_
    refine z_aload_n 20 rfl rfl ?_
    obtain ⟨o8, B⟩ := B
    obtain ⟨r9, hr9, B⟩ := B
    refine z_getR 21 rfl lX9_67 rfl o8 hr9 ?_
    refine z_aload_n 22 rfl rfl ?_
    obtain ⟨r10, hr10, B⟩ := B
    refine z_getR 23 rfl lX9_37 rfl o8 hr10 ?_
    obtain ⟨o11, B⟩ := B
    refine z_getI 24 rfl lX9_195 rfl o11 ?_
    refine z_iload 25 rfl rfl ?_
    refine z_iadd 26 rfl ?_
    refine z_iload_n 27 rfl rfl ?_
    obtain ⟨o16, B⟩ := B
    obtain ⟨Q12, K14, B⟩ := B
    refine z_cVI2 (ν := mX7_mixedOn) 28 rfl rfl fX7_mixedOn gX9_237 ⟨_, rfl, rfl⟩ (by decide) o16 (Nat.le_of_ble_eq_true rfl) K14 (fun v15 h13 q => ?_)
    have B := B v15 h13 q
    refine z_iadd 29 rfl ?_
    refine z_istore_n 30 rfl (by decide) rfl ?_
    refine z_iinc (v := 1) 31 rfl rfl (by decide) (by decide) rfl ?_
    refine z_goto 32 26 rfl (by decide) ?_
    exact B
set_option maxRecDepth 100000 in
set_option maxHeartbeats 4000000 in
theorem sg_X9_dearest_0 {G : zG} {d : Nat} {h : zMem} {Q : Int32 → zMem → Prop} {a0 : Nat} {x1 : Int32} (B : (x1 < 0 → Q (-1 : Int32) h) ∧ (¬ x1 < 0 → ((1 : Int32) < x1 → Q (-1 : Int32) h) ∧ (¬ (1 : Int32) < x1 → zO h a0 8 ∧ ∃ r4, zR h a0 11 = some r4 ∧ zO h r4 6 ∧ ∃ r6, zR h r4 0 = some r6 ∧ zO h r6 100 ∧ vp_in (1 : Int32) (zLen h r6) ∧ (¬ (zI h r6 (1 : Int32).toNatClampNeg) = 0 → zg G mX9_dearest (d + 1) 30 [.ref a0, .int x1, .int (0 : Int32), .int (-1 : Int32), .int (0 : Int32), zU, zU] [] h (zPI Q)) ∧ ((zI h r6 (1 : Int32).toNatClampNeg) = 0 → Q (-1 : Int32) h)))) : zg G mX9_dearest (d + 1) 0 [.ref a0, .int x1, zU, zU, zU, zU, zU] [] h (zPI Q) := by
  refine z_iload_n 0 rfl rfl ?_
  refine z_if_lt 1 21 rfl (by decide) ⟨fun c1 => ?_, fun c1 => ?_⟩
  · have B := B.1 c1
    refine z_iconst (v := -1) 11 rfl (by decide) ?_
    exact z_iret 12 rfl rfl rfl ⟨rfl, rfl⟩ ⟨_, rfl, B⟩
  · have B := B.2 c1
    refine z_iload_n 2 rfl rfl ?_
    refine z_iconst (v := 1) 3 rfl (by decide) ?_
    refine z_icmp_gt 4 21 rfl (by decide) ⟨fun c2 => ?_, fun c2 => ?_⟩
    · have B := B.1 c2
      refine z_iconst (v := -1) 11 rfl (by decide) ?_
      exact z_iret 12 rfl rfl rfl ⟨rfl, rfl⟩ ⟨_, rfl, B⟩
    · have B := B.2 c2
      refine z_aload_n 5 rfl rfl ?_
      obtain ⟨o3, B⟩ := B
      obtain ⟨r4, hr4, B⟩ := B
      refine z_getR 6 rfl lX9_67 rfl o3 hr4 ?_
      obtain ⟨o5, B⟩ := B
      obtain ⟨r6, hr6, B⟩ := B
      refine z_getR 7 rfl lX9_208 rfl o5 hr6 ?_
      refine z_iconst (v := 1) 8 rfl (by decide) ?_
      obtain ⟨o7, B⟩ := B
      obtain ⟨o8, B⟩ := B
      refine z_iald 9 rfl o7 o8 ?_
      refine z_if_ne 10 23 rfl (by decide) ⟨fun c9 => ?_, fun c9 => ?_⟩
      · have B := B.1 c9
        refine z_iconst (v := 0) 13 rfl (by decide) ?_
        refine z_istore_n 14 rfl (by decide) rfl ?_
        refine z_iconst (v := -1) 15 rfl (by decide) ?_
        refine z_istore_n 16 rfl (by decide) rfl ?_
        refine z_iconst (v := 0) 17 rfl (by decide) ?_
        refine z_istore 18 rfl (by decide) rfl ?_
        exact B
      · have B := B.2 c9
        refine z_iconst (v := -1) 11 rfl (by decide) ?_
        exact z_iret 12 rfl rfl rfl ⟨rfl, rfl⟩ ⟨_, rfl, B⟩
theorem cn_X9_dearest {G : zG} {d : Nat} {h : zMem} {Q : Int32 → zMem → Prop} {a0 : Nat} {x1 : Int32} (B : zg G mX9_dearest (d + 1) 0 [.ref a0, .int x1, zU, zU, zU, zU, zU] [] h (zPI Q)) : zConI G mX9_dearest (d + 1) [.ref a0, .int x1] h Q := zcon0 (by decide +kernel) eX9_dearest (Nat.le_of_ble_eq_true rfl) rfl B
set_option maxRecDepth 100000 in
set_option maxHeartbeats 4000000 in
theorem sg_X9_dearest_30 {G : zG} {d : Nat} {h : zMem} {Q : Int32 → zMem → Prop} {a0 : Nat} {x1 : Int32} {x2 : Int32} {x3 : Int32} {x4 : Int32} (B : zO h a0 8 ∧ ∃ r2, zR h a0 11 = some r2 ∧ zO h r2 6 ∧ ∃ r4, zR h r2 0 = some r4 ∧ zO h r4 100 ∧ vp_in (1 : Int32) (zLen h r4) ∧ ((zI h r4 (1 : Int32).toNatClampNeg) ≤ x4 → (¬ x1 = 0 → Q x3 h) ∧ (x1 = 0 → Q x2 h)) ∧ (¬ (zI h r4 (1 : Int32).toNatClampNeg) ≤ x4 → zg G mX9_dearest (d + 1) 50 [.ref a0, .int x1, .int x2, .int x3, .int x4, .int (0 : Int32), .int (0 : Int32)] [] h (zPI Q))) : zg G mX9_dearest (d + 1) 30 [.ref a0, .int x1, .int x2, .int x3, .int x4, zU, zU] [] h (zPI Q) := by
  refine z_iload 19 rfl rfl ?_
  refine z_aload_n 20 rfl rfl ?_
  obtain ⟨o1, B⟩ := B
  obtain ⟨r2, hr2, B⟩ := B
  refine z_getR 21 rfl lX9_67 rfl o1 hr2 ?_
  obtain ⟨o3, B⟩ := B
  obtain ⟨r4, hr4, B⟩ := B
  refine z_getR 22 rfl lX9_208 rfl o3 hr4 ?_
  refine z_iconst (v := 1) 23 rfl (by decide) ?_
  obtain ⟨o5, B⟩ := B
  obtain ⟨o6, B⟩ := B
  refine z_iald 24 rfl o5 o6 ?_
  refine z_icmp_ge 25 120 rfl (by decide) ⟨fun c7 => ?_, fun c7 => ?_⟩
  · have B := B.1 c7
    refine z_iload_n 65 rfl rfl ?_
    refine z_if_ne 66 128 rfl (by decide) ⟨fun c8 => ?_, fun c8 => ?_⟩
    · have B := B.1 c8
      refine z_iload_n 69 rfl rfl ?_
      exact z_iret 70 rfl rfl rfl ⟨rfl, rfl⟩ ⟨_, rfl, B⟩
    · have B := B.2 c8
      refine z_iload_n 67 rfl rfl ?_
      refine z_goto 68 129 rfl (by decide) ?_
      exact z_iret 70 rfl rfl rfl ⟨rfl, rfl⟩ ⟨_, rfl, B⟩
  · have B := B.2 c7
    refine z_iconst (v := 0) 26 rfl (by decide) ?_
    refine z_istore 27 rfl (by decide) rfl ?_
    refine z_iconst (v := 0) 28 rfl (by decide) ?_
    refine z_istore 29 rfl (by decide) rfl ?_
    exact B
set_option maxRecDepth 100000 in
set_option maxHeartbeats 4000000 in
theorem sg_X9_dearest_50 {G : zG} {d : Nat} {h : zMem} {Q : Int32 → zMem → Prop} {a0 : Nat} {x1 : Int32} {x2 : Int32} {x3 : Int32} {x4 : Int32} {x5 : Int32} {x6 : Int32} (B : zO h a0 8 ∧ ∃ r2, zR h a0 11 = some r2 ∧ zO h r2 6 ∧ ∃ r4, zR h r2 0 = some r4 ∧ zO h r4 100 ∧ vp_in (0 : Int32) (zLen h r4) ∧ ((zI h r4 (0 : Int32).toNatClampNeg) ≤ x6 → (x5 ≤ x3 → zg G mX9_dearest (d + 1) 30 [.ref a0, .int x1, .int x2, .int x3, .int (x4 + 1), zU, zU] [] h (zPI Q)) ∧ (¬ x5 ≤ x3 → zg G mX9_dearest (d + 1) 30 [.ref a0, .int x1, .int x4, .int x5, .int (x4 + 1), zU, zU] [] h (zPI Q))) ∧ (¬ (zI h r4 (0 : Int32).toNatClampNeg) ≤ x6 → ∃ r9, zR h r2 4 = some r9 ∧ zO h r9 104 ∧ vp_in x4 (zLen h r9) ∧ ∃ r12, zR h r9 x4.toNatClampNeg = some r12 ∧ zO h r12 100 ∧ vp_in x6 (zLen h r12) ∧ ∃ r15, zR h a0 4 = some r15 ∧ zO h r15 5 ∧ ∃ Q16 : Int32 → zMem → Prop, zConI G mX5_worthOf d [.ref r15, .ref r2, .int x6] h Q16 ∧ (∀ v19 h17, Q16 v19 h17 → zg G mX9_dearest (d + 1) 50 [.ref a0, .int x1, .int x2, .int x3, .int x4, .int (x5 + ((zI h r12 x6.toNatClampNeg) * v19)), .int (x6 + 1)] [] h17 (zPI Q)))) : zg G mX9_dearest (d + 1) 50 [.ref a0, .int x1, .int x2, .int x3, .int x4, .int x5, .int x6] [] h (zPI Q) := by
  refine z_iload 30 rfl rfl ?_
  refine z_aload_n 31 rfl rfl ?_
  obtain ⟨o1, B⟩ := B
  obtain ⟨r2, hr2, B⟩ := B
  refine z_getR 32 rfl lX9_67 rfl o1 hr2 ?_
  obtain ⟨o3, B⟩ := B
  obtain ⟨r4, hr4, B⟩ := B
  refine z_getR 33 rfl lX9_208 rfl o3 hr4 ?_
  refine z_iconst (v := 0) 34 rfl (by decide) ?_
  obtain ⟨o5, B⟩ := B
  obtain ⟨o6, B⟩ := B
  refine z_iald 35 rfl o5 o6 ?_
  refine z_icmp_ge 36 102 rfl (by decide) ⟨fun c7 => ?_, fun c7 => ?_⟩
  · have B := B.1 c7
    refine z_iload 56 rfl rfl ?_
    refine z_iload_n 57 rfl rfl ?_
    refine z_icmp_le 58 114 rfl (by decide) ⟨fun c8 => ?_, fun c8 => ?_⟩
    · have B := B.1 c8
      refine z_iinc (v := 1) 63 rfl rfl (by decide) (by decide) rfl ?_
      refine z_goto 64 30 rfl (by decide) ?_
      refine z_drop 5 ?_
      refine z_drop 6 ?_
      exact B
    · have B := B.2 c8
      refine z_iload 59 rfl rfl ?_
      refine z_istore_n 60 rfl (by decide) rfl ?_
      refine z_iload 61 rfl rfl ?_
      refine z_istore_n 62 rfl (by decide) rfl ?_
      refine z_iinc (v := 1) 63 rfl rfl (by decide) (by decide) rfl ?_
      refine z_goto 64 30 rfl (by decide) ?_
      refine z_drop 5 ?_
      refine z_drop 6 ?_
      exact B
  · have B := B.2 c7
    refine z_iload 37 rfl rfl ?_
    refine z_aload_n 38 rfl rfl ?_
    refine z_getR 39 rfl lX9_67 rfl o1 hr2 ?_
    obtain ⟨r9, hr9, B⟩ := B
    refine z_getR 40 rfl lX9_158 rfl o3 hr9 ?_
    refine z_iload 41 rfl rfl ?_
    obtain ⟨o10, B⟩ := B
    obtain ⟨o11, B⟩ := B
    obtain ⟨r12, hr12, B⟩ := B
    refine z_aald 42 rfl o10 o11 hr12 ?_
    refine z_iload 43 rfl rfl ?_
    obtain ⟨o13, B⟩ := B
    obtain ⟨o14, B⟩ := B
    refine z_iald 44 rfl o13 o14 ?_
    refine z_aload_n 45 rfl rfl ?_
    obtain ⟨r15, hr15, B⟩ := B
    refine z_getR 46 rfl lX9_37 rfl o1 hr15 ?_
    refine z_aload_n 47 rfl rfl ?_
    refine z_getR 48 rfl lX9_67 rfl o1 hr2 ?_
    refine z_iload 49 rfl rfl ?_
    obtain ⟨o20, B⟩ := B
    obtain ⟨Q16, K18, B⟩ := B
    refine z_cVI2 (ν := mX5_worthOf) 50 rfl rfl fX5_worthOf gX9_151 ⟨_, rfl, rfl⟩ (by decide) o20 (Nat.le_of_ble_eq_true rfl) K18 (fun v19 h17 q => ?_)
    have B := B v19 h17 q
    refine z_imul 51 rfl ?_
    refine z_iadd 52 rfl ?_
    refine z_istore 53 rfl (by decide) rfl ?_
    refine z_iinc (v := 1) 54 rfl rfl (by decide) (by decide) rfl ?_
    refine z_goto 55 50 rfl (by decide) ?_
    exact B
set_option maxRecDepth 100000 in
set_option maxHeartbeats 4000000 in
theorem sg_X9_inPlace_0 {G : zG} {d : Nat} {h : zMem} {Q : Int32 → zMem → Prop} {a0 : Nat} {x1 : Int32} {x2 : Int32} (B : zO h a0 8 ∧ ∃ Q1 : Int32 → zMem → Prop, zConI G mX9_has d [.ref a0, .int (0 : Int32), .int x1] h Q1 ∧ (∀ v4 h2, Q1 v4 h2 → (v4 = 0 → Q (-1 : Int32) h2) ∧ (¬ v4 = 0 → zO h2 a0 8 ∧ ∃ Q6 : Int32 → zMem → Prop, zConI G mX9_has d [.ref a0, .int (0 : Int32), .int x2] h2 Q6 ∧ (∀ v9 h7, Q6 v9 h7 → (v9 = 0 → Q (-1 : Int32) h7) ∧ (¬ v9 = 0 → (¬ x1 = x2 → zg G mX9_inPlace (d + 1) 30 [.ref a0, .int x1, .int x2, .int (0 : Int32), .int (0 : Int32)] [] h7 (zPI Q)) ∧ (x1 = x2 → Q (-1 : Int32) h7)))))) : zg G mX9_inPlace (d + 1) 0 [.ref a0, .int x1, .int x2, zU, zU] [] h (zPI Q) := by
  refine z_aload_n 0 rfl rfl ?_
  refine z_iconst (v := 0) 1 rfl (by decide) ?_
  refine z_iload_n 2 rfl rfl ?_
  obtain ⟨o13, B⟩ := B
  obtain ⟨Q1, K3, B⟩ := B
  refine z_cVI2 (ν := mX9_has) 3 rfl rfl fX9_has gX9_117 ⟨_, rfl, rfl⟩ (by decide) o13 (Nat.le_of_ble_eq_true rfl) K3 (fun v4 h2 q => ?_)
  have B := B v4 h2 q
  refine z_if_eq 4 23 rfl (by decide) ⟨fun c5 => ?_, fun c5 => ?_⟩
  · have B := B.1 c5
    refine z_iconst (v := -1) 13 rfl (by decide) ?_
    exact z_iret 14 rfl rfl rfl ⟨rfl, rfl⟩ ⟨_, rfl, B⟩
  · have B := B.2 c5
    refine z_aload_n 5 rfl rfl ?_
    refine z_iconst (v := 0) 6 rfl (by decide) ?_
    refine z_iload_n 7 rfl rfl ?_
    obtain ⟨o12, B⟩ := B
    obtain ⟨Q6, K8, B⟩ := B
    refine z_cVI2 (ν := mX9_has) 8 rfl rfl fX9_has gX9_117 ⟨_, rfl, rfl⟩ (by decide) o12 (Nat.le_of_ble_eq_true rfl) K8 (fun v9 h7 q => ?_)
    have B := B v9 h7 q
    refine z_if_eq 9 23 rfl (by decide) ⟨fun c10 => ?_, fun c10 => ?_⟩
    · have B := B.1 c10
      refine z_iconst (v := -1) 13 rfl (by decide) ?_
      exact z_iret 14 rfl rfl rfl ⟨rfl, rfl⟩ ⟨_, rfl, B⟩
    · have B := B.2 c10
      refine z_iload_n 10 rfl rfl ?_
      refine z_iload_n 11 rfl rfl ?_
      refine z_icmp_ne 12 25 rfl (by decide) ⟨fun c11 => ?_, fun c11 => ?_⟩
      · have B := B.1 c11
        refine z_iconst (v := 0) 15 rfl (by decide) ?_
        refine z_istore_n 16 rfl (by decide) rfl ?_
        refine z_iconst (v := 0) 17 rfl (by decide) ?_
        refine z_istore 18 rfl (by decide) rfl ?_
        exact B
      · have B := B.2 c11
        refine z_iconst (v := -1) 13 rfl (by decide) ?_
        exact z_iret 14 rfl rfl rfl ⟨rfl, rfl⟩ ⟨_, rfl, B⟩
theorem cn_X9_inPlace {G : zG} {d : Nat} {h : zMem} {Q : Int32 → zMem → Prop} {a0 : Nat} {x1 : Int32} {x2 : Int32} (B : zg G mX9_inPlace (d + 1) 0 [.ref a0, .int x1, .int x2, zU, zU] [] h (zPI Q)) : zConI G mX9_inPlace (d + 1) [.ref a0, .int x1, .int x2] h Q := zcon0 (by decide +kernel) eX9_inPlace (Nat.le_of_ble_eq_true rfl) rfl B
set_option maxRecDepth 100000 in
set_option maxHeartbeats 4000000 in
theorem sg_X9_inPlace_30 {G : zG} {d : Nat} {h : zMem} {Q : Int32 → zMem → Prop} {a0 : Nat} {x1 : Int32} {x2 : Int32} {x3 : Int32} {x4 : Int32} (B : zO h a0 8 ∧ ∃ r2, zR h a0 11 = some r2 ∧ zO h r2 6 ∧ ∃ r4, zR h r2 0 = some r4 ∧ zO h r4 100 ∧ vp_in (3 : Int32) (zLen h r4) ∧ ((zI h r4 (3 : Int32).toNatClampNeg) ≤ x4 → Q x3 h) ∧ (¬ (zI h r4 (3 : Int32).toNatClampNeg) ≤ x4 → ∃ Q8 : zMem → Prop, zConV G mX9_markDaysInPlace d [.ref a0, .int x4, .int x1, .int x2] h Q8 ∧ (∀ h9, Q8 h9 → zO h9 a0 8 ∧ ∃ Q11 : Int32 → zMem → Prop, zConI G mX9_alikePairs d [.ref a0] h9 Q11 ∧ (∀ v14 h12, Q11 v14 h12 → (¬ v14 = 0 → zg G mX9_inPlace (d + 1) 30 [.ref a0, .int x1, .int x2, .int x3, .int (x4 + 1)] [] h12 (zPI Q)) ∧ (v14 = 0 → zg G mX9_inPlace (d + 1) 30 [.ref a0, .int x1, .int x2, .int (x3 + 1), .int (x4 + 1)] [] h12 (zPI Q)))))) : zg G mX9_inPlace (d + 1) 30 [.ref a0, .int x1, .int x2, .int x3, .int x4] [] h (zPI Q) := by
  refine z_iload 19 rfl rfl ?_
  refine z_aload_n 20 rfl rfl ?_
  obtain ⟨o1, B⟩ := B
  obtain ⟨r2, hr2, B⟩ := B
  refine z_getR 21 rfl lX9_67 rfl o1 hr2 ?_
  obtain ⟨o3, B⟩ := B
  obtain ⟨r4, hr4, B⟩ := B
  refine z_getR 22 rfl lX9_208 rfl o3 hr4 ?_
  refine z_iconst (v := 3) 23 rfl (by decide) ?_
  obtain ⟨o5, B⟩ := B
  obtain ⟨o6, B⟩ := B
  refine z_iald 24 rfl o5 o6 ?_
  refine z_icmp_ge 25 68 rfl (by decide) ⟨fun c7 => ?_, fun c7 => ?_⟩
  · have B := B.1 c7
    refine z_iload_n 37 rfl rfl ?_
    exact z_iret 38 rfl rfl rfl ⟨rfl, rfl⟩ ⟨_, rfl, B⟩
  · have B := B.2 c7
    refine z_aload_n 26 rfl rfl ?_
    refine z_iload 27 rfl rfl ?_
    refine z_iload_n 28 rfl rfl ?_
    refine z_iload_n 29 rfl rfl ?_
    obtain ⟨Q8, K10, B⟩ := B
    refine z_cVV3 (ν := mX9_markDaysInPlace) 30 rfl rfl fX9_markDaysInPlace gX9_240 ⟨_, rfl, rfl⟩ (by decide) o1 (Nat.le_of_ble_eq_true rfl) K10 (fun h9 q => ?_)
    have B := B h9 q
    refine z_aload_n 31 rfl rfl ?_
    obtain ⟨o16, B⟩ := B
    obtain ⟨Q11, K13, B⟩ := B
    refine z_cVI0 (ν := mX9_alikePairs) 32 rfl rfl fX9_alikePairs gX9_205 ⟨_, rfl, rfl⟩ (by decide) o16 (Nat.le_of_ble_eq_true rfl) K13 (fun v14 h12 q => ?_)
    have B := B v14 h12 q
    refine z_if_ne 33 62 rfl (by decide) ⟨fun c15 => ?_, fun c15 => ?_⟩
    · have B := B.1 c15
      refine z_iinc (v := 1) 35 rfl rfl (by decide) (by decide) rfl ?_
      refine z_goto 36 30 rfl (by decide) ?_
      exact B
    · have B := B.2 c15
      refine z_iinc (v := 1) 34 rfl rfl (by decide) (by decide) rfl ?_
      refine z_iinc (v := 1) 35 rfl rfl (by decide) (by decide) rfl ?_
      refine z_goto 36 30 rfl (by decide) ?_
      exact B
set_option maxRecDepth 100000 in
set_option maxHeartbeats 4000000 in
theorem sg_X9_markDaysInPlace_0 {G : zG} {d : Nat} {h : zMem} {Q : zMem → Prop} {a0 : Nat} {x1 : Int32} {x2 : Int32} {x3 : Int32} (B : zO h a0 8 ∧ ∃ Q1 : Int32 → zMem → Prop, zConI G mX9_keenNow d [.ref a0, .int x1] h Q1 ∧ (∀ v4 h2, Q1 v4 h2 → zO h2 a0 8 ∧ ∃ r6, zR h2 a0 4 = some r6 ∧ zO h2 r6 5 ∧ ∃ r8, zR h2 r6 2 = some r8 ∧ ∃ r9, zR h2 r6 4 = some r9 ∧ zO h2 r9 100 ∧ vp_in x1 (zLen h2 r9) ∧ zO h2 r8 100 ∧ vp_in (zI h2 r9 x1.toNatClampNeg) (zLen h2 r8) ∧ zg G mX9_markDaysInPlace (d + 1) 29 [.ref a0, .int x1, .int x2, .int x3, .int v4, .int (zI h2 r8 (zI h2 r9 x1.toNatClampNeg).toNatClampNeg), .int (0 : Int32)] [] h2 (zPV Q))) : zg G mX9_markDaysInPlace (d + 1) 0 [.ref a0, .int x1, .int x2, .int x3, zU, zU, zU] [] h (zPV Q) := by
  refine z_aload_n 0 rfl rfl ?_
  refine z_iload_n 1 rfl rfl ?_
  obtain ⟨o14, B⟩ := B
  obtain ⟨Q1, K3, B⟩ := B
  refine z_cVI1 (ν := mX9_keenNow) 2 rfl rfl fX9_keenNow gX9_169 ⟨_, rfl, rfl⟩ (by decide) o14 (Nat.le_of_ble_eq_true rfl) K3 (fun v4 h2 q => ?_)
  have B := B v4 h2 q
  refine z_istore 3 rfl (by decide) rfl ?_
  refine z_aload_n 4 rfl rfl ?_
  obtain ⟨o5, B⟩ := B
  obtain ⟨r6, hr6, B⟩ := B
  refine z_getR 5 rfl lX9_37 rfl o5 hr6 ?_
  obtain ⟨o7, B⟩ := B
  obtain ⟨r8, hr8, B⟩ := B
  refine z_getR 6 rfl lX9_220 rfl o7 hr8 ?_
  refine z_aload_n 7 rfl rfl ?_
  refine z_getR 8 rfl lX9_37 rfl o5 hr6 ?_
  obtain ⟨r9, hr9, B⟩ := B
  refine z_getR 9 rfl lX9_128 rfl o7 hr9 ?_
  refine z_iload_n 10 rfl rfl ?_
  obtain ⟨o10, B⟩ := B
  obtain ⟨o11, B⟩ := B
  refine z_iald 11 rfl o10 o11 ?_
  obtain ⟨o12, B⟩ := B
  obtain ⟨o13, B⟩ := B
  refine z_iald 12 rfl o12 o13 ?_
  refine z_istore 13 rfl (by decide) rfl ?_
  refine z_iconst (v := 0) 14 rfl (by decide) ?_
  refine z_istore 15 rfl (by decide) rfl ?_
  exact B
theorem cn_X9_markDaysInPlace {G : zG} {d : Nat} {h : zMem} {Q : zMem → Prop} {a0 : Nat} {x1 : Int32} {x2 : Int32} {x3 : Int32} (B : zg G mX9_markDaysInPlace (d + 1) 0 [.ref a0, .int x1, .int x2, .int x3, zU, zU, zU] [] h (zPV Q)) : zConV G mX9_markDaysInPlace (d + 1) [.ref a0, .int x1, .int x2, .int x3] h Q := zcon0 (by decide +kernel) eX9_markDaysInPlace (Nat.le_of_ble_eq_true rfl) rfl B
set_option maxRecDepth 100000 in
set_option maxHeartbeats 4000000 in
theorem sg_X9_markDaysInPlace_29 {G : zG} {d : Nat} {h : zMem} {Q : zMem → Prop} {a0 : Nat} {x1 : Int32} {x2 : Int32} {x3 : Int32} {x4 : Int32} {x5 : Int32} {x6 : Int32} (B : zO h a0 8 ∧ ∃ r2, zR h a0 11 = some r2 ∧ zO h r2 6 ∧ ∃ r4, zR h r2 0 = some r4 ∧ zO h r4 100 ∧ vp_in (1 : Int32) (zLen h r4) ∧ ((zI h r4 (1 : Int32).toNatClampNeg) ≤ x6 → Q h) ∧ (¬ (zI h r4 (1 : Int32).toNatClampNeg) ≤ x6 → ∃ r8, zR h r2 4 = some r8 ∧ zO h r8 104 ∧ vp_in x6 (zLen h r8) ∧ ∃ r11, zR h r8 x6.toNatClampNeg = some r11 ∧ ∃ r12, zR h a0 9 = some r12 ∧ zO h r11 100 ∧ zO h r12 100 ∧ zcpok (0 : Int32) (0 : Int32) (6 : Int32) (zLen h r11) (zLen h r12) ∧ vp_in x2 (zLen h r12) ∧ vp_in x3 (zLen h r12) ∧ ∃ r18, zR h a0 10 = some r18 ∧ ∃ r19, zR h a0 4 = some r19 ∧ zO h r19 5 ∧ ∃ r21, zR h r19 5 = some r21 ∧ zO h r21 100 ∧ vp_in x1 (zLen h r21) ∧ ∃ Q24 : Int32 → zMem → Prop, zConI G mX7_smelt d [.ref r2, .ref r12, .int x5, .int x4, .int (zI (zsI (zsI (zcp h r11 (0 : Int32).toNatClampNeg r12 (0 : Int32).toNatClampNeg (6 : Int32).toNatClampNeg) r12 x3.toNatClampNeg (zI (zcp h r11 (0 : Int32).toNatClampNeg r12 (0 : Int32).toNatClampNeg (6 : Int32).toNatClampNeg) r12 x2.toNatClampNeg)) r12 x2.toNatClampNeg (0 : Int32)) r21 x1.toNatClampNeg)] (zsI (zsI (zcp h r11 (0 : Int32).toNatClampNeg r12 (0 : Int32).toNatClampNeg (6 : Int32).toNatClampNeg) r12 x3.toNatClampNeg (zI (zcp h r11 (0 : Int32).toNatClampNeg r12 (0 : Int32).toNatClampNeg (6 : Int32).toNatClampNeg) r12 x2.toNatClampNeg)) r12 x2.toNatClampNeg (0 : Int32)) Q24 ∧ (∀ v27 h25, Q24 v27 h25 → zO h25 r18 100 ∧ vp_in x6 (zLen h25 r18) ∧ zg G mX9_markDaysInPlace (d + 1) 29 [.ref a0, .int x1, .int x2, .int x3, .int x4, .int x5, .int (x6 + 1)] [] (zsI h25 r18 x6.toNatClampNeg v27) (zPV Q)))) : zg G mX9_markDaysInPlace (d + 1) 29 [.ref a0, .int x1, .int x2, .int x3, .int x4, .int x5, .int x6] [] h (zPV Q) := by
  refine z_iload 16 rfl rfl ?_
  refine z_aload_n 17 rfl rfl ?_
  obtain ⟨o1, B⟩ := B
  obtain ⟨r2, hr2, B⟩ := B
  refine z_getR 18 rfl lX9_67 rfl o1 hr2 ?_
  obtain ⟨o3, B⟩ := B
  obtain ⟨r4, hr4, B⟩ := B
  refine z_getR 19 rfl lX9_208 rfl o3 hr4 ?_
  refine z_iconst (v := 1) 20 rfl (by decide) ?_
  obtain ⟨o5, B⟩ := B
  obtain ⟨o6, B⟩ := B
  refine z_iald 21 rfl o5 o6 ?_
  refine z_icmp_ge 22 120 rfl (by decide) ⟨fun c7 => ?_, fun c7 => ?_⟩
  · have B := B.1 c7
    exact z_vret 65 rfl rfl ⟨rfl, rfl⟩ ⟨rfl, B⟩
  · have B := B.2 c7
    refine z_aload_n 23 rfl rfl ?_
    refine z_getR 24 rfl lX9_67 rfl o1 hr2 ?_
    obtain ⟨r8, hr8, B⟩ := B
    refine z_getR 25 rfl lX9_158 rfl o3 hr8 ?_
    refine z_iload 26 rfl rfl ?_
    obtain ⟨o9, B⟩ := B
    obtain ⟨o10, B⟩ := B
    obtain ⟨r11, hr11, B⟩ := B
    refine z_aald 27 rfl o9 o10 hr11 ?_
    refine z_iconst (v := 0) 28 rfl (by decide) ?_
    refine z_aload_n 29 rfl rfl ?_
    obtain ⟨r12, hr12, B⟩ := B
    refine z_getR 30 rfl lX9_58 rfl o1 hr12 ?_
    refine z_iconst (v := 0) 31 rfl (by decide) ?_
    refine z_bipush (v := 6) 32 rfl (by decide) ?_
    obtain ⟨o13, B⟩ := B
    obtain ⟨o14, B⟩ := B
    obtain ⟨o15, B⟩ := B
    refine z_acopy 33 rfl gacX9 o13 o14 o15 (Nat.le_of_ble_eq_true rfl) ?_
    refine z_aload_n 34 rfl rfl ?_
    refine z_getR 35 rfl lX9_58 rfl o1 hr12 ?_
    refine z_iload_n 36 rfl rfl ?_
    refine z_aload_n 37 rfl rfl ?_
    refine z_getR 38 rfl lX9_58 rfl o1 hr12 ?_
    refine z_iload_n 39 rfl rfl ?_
    obtain ⟨o16, B⟩ := B
    refine z_iald 40 rfl o14 o16 ?_
    obtain ⟨o17, B⟩ := B
    refine z_iast 41 rfl o14 o17 ?_
    refine z_aload_n 42 rfl rfl ?_
    refine z_getR 43 rfl lX9_58 rfl o1 hr12 ?_
    refine z_iload_n 44 rfl rfl ?_
    refine z_iconst (v := 0) 45 rfl (by decide) ?_
    refine z_iast 46 rfl o14 o16 ?_
    refine z_aload_n 47 rfl rfl ?_
    obtain ⟨r18, hr18, B⟩ := B
    refine z_getR 48 rfl lX9_61 rfl o1 hr18 ?_
    refine z_iload 49 rfl rfl ?_
    refine z_aload_n 50 rfl rfl ?_
    refine z_getR 51 rfl lX9_67 rfl o1 hr2 ?_
    refine z_aload_n 52 rfl rfl ?_
    refine z_getR 53 rfl lX9_58 rfl o1 hr12 ?_
    refine z_iload 54 rfl rfl ?_
    refine z_iload 55 rfl rfl ?_
    refine z_aload_n 56 rfl rfl ?_
    obtain ⟨r19, hr19, B⟩ := B
    refine z_getR 57 rfl lX9_37 rfl o1 hr19 ?_
    obtain ⟨o20, B⟩ := B
    obtain ⟨r21, hr21, B⟩ := B
    refine z_getR 58 rfl lX9_134 rfl o20 hr21 ?_
    refine z_iload_n 59 rfl rfl ?_
    obtain ⟨o22, B⟩ := B
    obtain ⟨o23, B⟩ := B
    refine z_iald 60 rfl o22 o23 ?_
    obtain ⟨Q24, K26, B⟩ := B
    refine z_cVI4 (ν := mX7_smelt) 61 rfl rfl fX7_smelt gX9_249 ⟨_, rfl, rfl⟩ (by decide) o3 (Nat.le_of_ble_eq_true rfl) K26 (fun v27 h25 q => ?_)
    have B := B v27 h25 q
    obtain ⟨o28, B⟩ := B
    obtain ⟨o29, B⟩ := B
    refine z_iast 62 rfl o28 o29 ?_
    refine z_iinc (v := 1) 63 rfl rfl (by decide) (by decide) rfl ?_
    refine z_goto 64 29 rfl (by decide) ?_
    exact B
set_option maxRecDepth 100000 in
set_option maxHeartbeats 4000000 in
theorem sg_X9_letter_0 {G : zG} {d : Nat} {h : zMem} {Q : Int32 → zMem → Prop} {a0 : Nat} {x1 : Int32} {x2 : Int32} {x3 : Int32} (B : zO h a0 8 ∧ ∃ Q1 : Int32 → zMem → Prop, zConI G mX9_has d [.ref a0, .int (1 : Int32), .int x1] h Q1 ∧ (∀ v4 h2, Q1 v4 h2 → (v4 = 0 → Q (-1 : Int32) h2) ∧ (¬ v4 = 0 → zO h2 a0 8 ∧ ∃ Q6 : Int32 → zMem → Prop, zConI G mX9_has d [.ref a0, .int (3 : Int32), .int x2] h2 Q6 ∧ (∀ v9 h7, Q6 v9 h7 → (v9 = 0 → Q (-1 : Int32) h7) ∧ (¬ v9 = 0 → (x3 < 0 → Q (-1 : Int32) h7) ∧ (¬ x3 < 0 → (x3 ≤ (10 : Int32) → zO h7 a0 8 ∧ ∃ Q13 : Int32 → zMem → Prop, zConI G mX9_keenNow d [.ref a0, .int x2] h7 Q13 ∧ (∀ v16 h14, Q13 v16 h14 → zO h14 a0 8 ∧ ∃ r18, zR h14 a0 11 = some r18 ∧ zO h14 r18 6 ∧ ∃ r20, zR h14 r18 4 = some r20 ∧ zO h14 r20 104 ∧ vp_in x1 (zLen h14 r20) ∧ ∃ r23, zR h14 r20 x1.toNatClampNeg = some r23 ∧ ∃ Q24 : Int32 → zMem → Prop, zConI G mX7_smelt d [.ref r18, .ref r23, .int ((100 : Int32) - ((10 : Int32) * x3)), .int v16, .int (0 : Int32)] h14 Q24 ∧ (∀ v27 h25, Q24 v27 h25 → zg G mX9_letter (d + 1) 68 [.ref a0, .int x1, .int x2, .int x3, .int v16, .int v27, .int (0 : Int32)] [] h25 (zPI Q)))) ∧ (¬ x3 ≤ (10 : Int32) → Q (-1 : Int32) h7))))))) : zg G mX9_letter (d + 1) 0 [.ref a0, .int x1, .int x2, .int x3, zU, zU, zU] [] h (zPI Q) := by
  refine z_aload_n 0 rfl rfl ?_
  refine z_iconst (v := 1) 1 rfl (by decide) ?_
  refine z_iload_n 2 rfl rfl ?_
  obtain ⟨o30, B⟩ := B
  obtain ⟨Q1, K3, B⟩ := B
  refine z_cVI2 (ν := mX9_has) 3 rfl rfl fX9_has gX9_117 ⟨_, rfl, rfl⟩ (by decide) o30 (Nat.le_of_ble_eq_true rfl) K3 (fun v4 h2 q => ?_)
  have B := B v4 h2 q
  refine z_if_eq 4 28 rfl (by decide) ⟨fun c5 => ?_, fun c5 => ?_⟩
  · have B := B.1 c5
    refine z_iconst (v := -1) 15 rfl (by decide) ?_
    exact z_iret 16 rfl rfl rfl ⟨rfl, rfl⟩ ⟨_, rfl, B⟩
  · have B := B.2 c5
    refine z_aload_n 5 rfl rfl ?_
    refine z_iconst (v := 3) 6 rfl (by decide) ?_
    refine z_iload_n 7 rfl rfl ?_
    obtain ⟨o29, B⟩ := B
    obtain ⟨Q6, K8, B⟩ := B
    refine z_cVI2 (ν := mX9_has) 8 rfl rfl fX9_has gX9_117 ⟨_, rfl, rfl⟩ (by decide) o29 (Nat.le_of_ble_eq_true rfl) K8 (fun v9 h7 q => ?_)
    have B := B v9 h7 q
    refine z_if_eq 9 28 rfl (by decide) ⟨fun c10 => ?_, fun c10 => ?_⟩
    · have B := B.1 c10
      refine z_iconst (v := -1) 15 rfl (by decide) ?_
      exact z_iret 16 rfl rfl rfl ⟨rfl, rfl⟩ ⟨_, rfl, B⟩
    · have B := B.2 c10
      refine z_iload_n 10 rfl rfl ?_
      refine z_if_lt 11 28 rfl (by decide) ⟨fun c11 => ?_, fun c11 => ?_⟩
      · have B := B.1 c11
        refine z_iconst (v := -1) 15 rfl (by decide) ?_
        exact z_iret 16 rfl rfl rfl ⟨rfl, rfl⟩ ⟨_, rfl, B⟩
      · have B := B.2 c11
        refine z_iload_n 12 rfl rfl ?_
        refine z_bipush (v := 10) 13 rfl (by decide) ?_
        refine z_icmp_le 14 30 rfl (by decide) ⟨fun c12 => ?_, fun c12 => ?_⟩
        · have B := B.1 c12
          refine z_aload_n 17 rfl rfl ?_
          refine z_iload_n 18 rfl rfl ?_
          obtain ⟨o28, B⟩ := B
          obtain ⟨Q13, K15, B⟩ := B
          refine z_cVI1 (ν := mX9_keenNow) 19 rfl rfl fX9_keenNow gX9_169 ⟨_, rfl, rfl⟩ (by decide) o28 (Nat.le_of_ble_eq_true rfl) K15 (fun v16 h14 q => ?_)
          have B := B v16 h14 q
          refine z_istore 20 rfl (by decide) rfl ?_
          refine z_aload_n 21 rfl rfl ?_
          obtain ⟨o17, B⟩ := B
          obtain ⟨r18, hr18, B⟩ := B
          refine z_getR 22 rfl lX9_67 rfl o17 hr18 ?_
          refine z_aload_n 23 rfl rfl ?_
          refine z_getR 24 rfl lX9_67 rfl o17 hr18 ?_
          obtain ⟨o19, B⟩ := B
          obtain ⟨r20, hr20, B⟩ := B
          refine z_getR 25 rfl lX9_158 rfl o19 hr20 ?_
          refine z_iload_n 26 rfl rfl ?_
          obtain ⟨o21, B⟩ := B
          obtain ⟨o22, B⟩ := B
          obtain ⟨r23, hr23, B⟩ := B
          refine z_aald 27 rfl o21 o22 hr23 ?_
          refine z_bipush (v := 100) 28 rfl (by decide) ?_
          refine z_bipush (v := 10) 29 rfl (by decide) ?_
          refine z_iload_n 30 rfl rfl ?_
          refine z_imul 31 rfl ?_
          refine z_isub 32 rfl ?_
          refine z_iload 33 rfl rfl ?_
          refine z_iconst (v := 0) 34 rfl (by decide) ?_
          obtain ⟨Q24, K26, B⟩ := B
          refine z_cVI4 (ν := mX7_smelt) 35 rfl rfl fX7_smelt gX9_249 ⟨_, rfl, rfl⟩ (by decide) o19 (Nat.le_of_ble_eq_true rfl) K26 (fun v27 h25 q => ?_)
          have B := B v27 h25 q
          refine z_istore 36 rfl (by decide) rfl ?_
          refine z_iconst (v := 0) 37 rfl (by decide) ?_
          refine z_istore 38 rfl (by decide) rfl ?_
          exact B
        · have B := B.2 c12
          refine z_iconst (v := -1) 15 rfl (by decide) ?_
          exact z_iret 16 rfl rfl rfl ⟨rfl, rfl⟩ ⟨_, rfl, B⟩
theorem cn_X9_letter {G : zG} {d : Nat} {h : zMem} {Q : Int32 → zMem → Prop} {a0 : Nat} {x1 : Int32} {x2 : Int32} {x3 : Int32} (B : zg G mX9_letter (d + 1) 0 [.ref a0, .int x1, .int x2, .int x3, zU, zU, zU] [] h (zPI Q)) : zConI G mX9_letter (d + 1) [.ref a0, .int x1, .int x2, .int x3] h Q := zcon0 (by decide +kernel) eX9_letter (Nat.le_of_ble_eq_true rfl) rfl B
set_option maxRecDepth 100000 in
set_option maxHeartbeats 4000000 in
theorem sg_X9_letter_68 {G : zG} {d : Nat} {h : zMem} {Q : Int32 → zMem → Prop} {a0 : Nat} {x1 : Int32} {x2 : Int32} {x3 : Int32} {x4 : Int32} {x5 : Int32} {x6 : Int32} (B : zO h a0 8 ∧ ∃ r2, zR h a0 11 = some r2 ∧ zO h r2 6 ∧ ∃ r4, zR h r2 0 = some r4 ∧ zO h r4 100 ∧ vp_in (1 : Int32) (zLen h r4) ∧ ((zI h r4 (1 : Int32).toNatClampNeg) ≤ x6 → Q (-2 : Int32) h) ∧ (¬ (zI h r4 (1 : Int32).toNatClampNeg) ≤ x6 → ∃ r8, zR h r2 4 = some r8 ∧ zO h r8 104 ∧ vp_in x6 (zLen h r8) ∧ ∃ r11, zR h r8 x6.toNatClampNeg = some r11 ∧ ∃ Q12 : Int32 → zMem → Prop, zConI G mX7_smelt d [.ref r2, .ref r11, .int (100 : Int32), .int x4, .int (0 : Int32)] h Q12 ∧ (∀ v15 h13, Q12 v15 h13 → (¬ v15 = x5 → zg G mX9_letter (d + 1) 68 [.ref a0, .int x1, .int x2, .int x3, .int x4, .int x5, .int (x6 + 1)] [] h13 (zPI Q)) ∧ (v15 = x5 → Q x6 h13)))) : zg G mX9_letter (d + 1) 68 [.ref a0, .int x1, .int x2, .int x3, .int x4, .int x5, .int x6] [] h (zPI Q) := by
  refine z_iload 39 rfl rfl ?_
  refine z_aload_n 40 rfl rfl ?_
  obtain ⟨o1, B⟩ := B
  obtain ⟨r2, hr2, B⟩ := B
  refine z_getR 41 rfl lX9_67 rfl o1 hr2 ?_
  obtain ⟨o3, B⟩ := B
  obtain ⟨r4, hr4, B⟩ := B
  refine z_getR 42 rfl lX9_208 rfl o3 hr4 ?_
  refine z_iconst (v := 1) 43 rfl (by decide) ?_
  obtain ⟨o5, B⟩ := B
  obtain ⟨o6, B⟩ := B
  refine z_iald 44 rfl o5 o6 ?_
  refine z_icmp_ge 45 118 rfl (by decide) ⟨fun c7 => ?_, fun c7 => ?_⟩
  · have B := B.1 c7
    refine z_bipush (v := -2) 63 rfl (by decide) ?_
    exact z_iret 64 rfl rfl rfl ⟨rfl, rfl⟩ ⟨_, rfl, B⟩
  · have B := B.2 c7
    refine z_aload_n 46 rfl rfl ?_
    refine z_getR 47 rfl lX9_67 rfl o1 hr2 ?_
    refine z_aload_n 48 rfl rfl ?_
    refine z_getR 49 rfl lX9_67 rfl o1 hr2 ?_
    obtain ⟨r8, hr8, B⟩ := B
    refine z_getR 50 rfl lX9_158 rfl o3 hr8 ?_
    refine z_iload 51 rfl rfl ?_
    obtain ⟨o9, B⟩ := B
    obtain ⟨o10, B⟩ := B
    obtain ⟨r11, hr11, B⟩ := B
    refine z_aald 52 rfl o9 o10 hr11 ?_
    refine z_bipush (v := 100) 53 rfl (by decide) ?_
    refine z_iload 54 rfl rfl ?_
    refine z_iconst (v := 0) 55 rfl (by decide) ?_
    obtain ⟨Q12, K14, B⟩ := B
    refine z_cVI4 (ν := mX7_smelt) 56 rfl rfl fX7_smelt gX9_249 ⟨_, rfl, rfl⟩ (by decide) o3 (Nat.le_of_ble_eq_true rfl) K14 (fun v15 h13 q => ?_)
    have B := B v15 h13 q
    refine z_iload 57 rfl rfl ?_
    refine z_icmp_ne 58 112 rfl (by decide) ⟨fun c16 => ?_, fun c16 => ?_⟩
    · have B := B.1 c16
      refine z_iinc (v := 1) 61 rfl rfl (by decide) (by decide) rfl ?_
      refine z_goto 62 68 rfl (by decide) ?_
      exact B
    · have B := B.2 c16
      refine z_iload 59 rfl rfl ?_
      exact z_iret 60 rfl rfl rfl ⟨rfl, rfl⟩ ⟨_, rfl, B⟩
set_option maxRecDepth 100000 in
set_option maxHeartbeats 4000000 in
theorem sg_X9_firstWrong_0 {G : zG} {d : Nat} {h : zMem} {Q : Int32 → zMem → Prop} {a0 : Nat} {x1 : Int32} (B : (x1 < (1 : Int32) → Q (-1 : Int32) h) ∧ (¬ x1 < (1 : Int32) → (x1 ≤ (99 : Int32) → zO h a0 8 ∧ ∃ r4, zR h a0 6 = some r4 ∧ ∃ r5, zR h a0 4 = some r5 ∧ zO h r4 5 ∧ ∃ Q6 : zMem → Prop, zConV G mX5_copy d [.ref r4, .ref r5] h Q6 ∧ (∀ h7, Q6 h7 → zg G mX9_firstWrong (d + 1) 26 [.ref a0, .int x1, .int (1 : Int32)] [] h7 (zPI Q))) ∧ (¬ x1 ≤ (99 : Int32) → Q (-1 : Int32) h))) : zg G mX9_firstWrong (d + 1) 0 [.ref a0, .int x1, zU] [] h (zPI Q) := by
  refine z_iload_n 0 rfl rfl ?_
  refine z_iconst (v := 1) 1 rfl (by decide) ?_
  refine z_icmp_lt 2 11 rfl (by decide) ⟨fun c1 => ?_, fun c1 => ?_⟩
  · have B := B.1 c1
    refine z_iconst (v := -1) 6 rfl (by decide) ?_
    exact z_iret 7 rfl rfl rfl ⟨rfl, rfl⟩ ⟨_, rfl, B⟩
  · have B := B.2 c1
    refine z_iload_n 3 rfl rfl ?_
    refine z_bipush (v := 99) 4 rfl (by decide) ?_
    refine z_icmp_le 5 13 rfl (by decide) ⟨fun c2 => ?_, fun c2 => ?_⟩
    · have B := B.1 c2
      refine z_aload_n 8 rfl rfl ?_
      obtain ⟨o3, B⟩ := B
      obtain ⟨r4, hr4, B⟩ := B
      refine z_getR 9 rfl lX9_44 rfl o3 hr4 ?_
      refine z_aload_n 10 rfl rfl ?_
      obtain ⟨r5, hr5, B⟩ := B
      refine z_getR 11 rfl lX9_37 rfl o3 hr5 ?_
      obtain ⟨o9, B⟩ := B
      obtain ⟨Q6, K8, B⟩ := B
      refine z_cVV1 (ν := mX5_copy) 12 rfl rfl fX5_copy gX9_226 ⟨_, rfl, rfl⟩ (by decide) o9 (Nat.le_of_ble_eq_true rfl) K8 (fun h7 q => ?_)
      have B := B h7 q
      refine z_iconst (v := 1) 13 rfl (by decide) ?_
      refine z_istore_n 14 rfl (by decide) rfl ?_
      exact B
    · have B := B.2 c2
      refine z_iconst (v := -1) 6 rfl (by decide) ?_
      exact z_iret 7 rfl rfl rfl ⟨rfl, rfl⟩ ⟨_, rfl, B⟩
theorem cn_X9_firstWrong {G : zG} {d : Nat} {h : zMem} {Q : Int32 → zMem → Prop} {a0 : Nat} {x1 : Int32} (B : zg G mX9_firstWrong (d + 1) 0 [.ref a0, .int x1, zU] [] h (zPI Q)) : zConI G mX9_firstWrong (d + 1) [.ref a0, .int x1] h Q := zcon0 (by decide +kernel) eX9_firstWrong (Nat.le_of_ble_eq_true rfl) rfl B
set_option maxRecDepth 100000 in
set_option maxHeartbeats 4000000 in
theorem sg_X9_firstWrong_26 {G : zG} {d : Nat} {h : zMem} {Q : Int32 → zMem → Prop} {a0 : Nat} {x1 : Int32} {x2 : Int32} (B : (x1 < x2 → Q (-2 : Int32) h) ∧ (¬ x1 < x2 → zO h a0 8 ∧ ∃ r3, zR h a0 6 = some r3 ∧ ∃ r4, zR h a0 11 = some r4 ∧ zO h r3 5 ∧ ∃ Q5 : zMem → Prop, zConV G mX5_goThroughMorning d [.ref r3, .ref r4] h Q5 ∧ (∀ h6, Q5 h6 → zO h6 a0 8 ∧ ∃ r9, zR h6 a0 6 = some r9 ∧ zO h6 r9 5 ∧ ∃ r11, zR h6 a0 4 = some r11 ∧ zO h6 r11 5 ∧ ((zI h6 r9 13) ≤ (zI h6 r11 13) → zg G mX9_firstWrong (d + 1) 26 [.ref a0, .int x1, .int (x2 + 1)] [] h6 (zPI Q)) ∧ (¬ (zI h6 r9 13) ≤ (zI h6 r11 13) → Q x2 h6)))) : zg G mX9_firstWrong (d + 1) 26 [.ref a0, .int x1, .int x2] [] h (zPI Q) := by
  refine z_iload_n 15 rfl rfl ?_
  refine z_iload_n 16 rfl rfl ?_
  refine z_icmp_gt 17 67 rfl (by decide) ⟨fun c1 => ?_, fun c1 => ?_⟩
  · have B := B.1 c1
    refine z_bipush (v := -2) 34 rfl (by decide) ?_
    exact z_iret 35 rfl rfl rfl ⟨rfl, rfl⟩ ⟨_, rfl, B⟩
  · have B := B.2 c1
    refine z_aload_n 18 rfl rfl ?_
    obtain ⟨o2, B⟩ := B
    obtain ⟨r3, hr3, B⟩ := B
    refine z_getR 19 rfl lX9_44 rfl o2 hr3 ?_
    refine z_aload_n 20 rfl rfl ?_
    obtain ⟨r4, hr4, B⟩ := B
    refine z_getR 21 rfl lX9_67 rfl o2 hr4 ?_
    obtain ⟨o14, B⟩ := B
    obtain ⟨Q5, K7, B⟩ := B
    refine z_cVV1 (ν := mX5_goThroughMorning) 22 rfl rfl fX5_goThroughMorning gX9_198 ⟨_, rfl, rfl⟩ (by decide) o14 (Nat.le_of_ble_eq_true rfl) K7 (fun h6 q => ?_)
    have B := B h6 q
    refine z_aload_n 23 rfl rfl ?_
    obtain ⟨o8, B⟩ := B
    obtain ⟨r9, hr9, B⟩ := B
    refine z_getR 24 rfl lX9_44 rfl o8 hr9 ?_
    obtain ⟨o10, B⟩ := B
    refine z_getI 25 rfl lX9_253 rfl o10 ?_
    refine z_aload_n 26 rfl rfl ?_
    obtain ⟨r11, hr11, B⟩ := B
    refine z_getR 27 rfl lX9_37 rfl o8 hr11 ?_
    obtain ⟨o12, B⟩ := B
    refine z_getI 28 rfl lX9_253 rfl o12 ?_
    refine z_icmp_le 29 61 rfl (by decide) ⟨fun c13 => ?_, fun c13 => ?_⟩
    · have B := B.1 c13
      refine z_iinc (v := 1) 32 rfl rfl (by decide) (by decide) rfl ?_
      refine z_goto 33 26 rfl (by decide) ?_
      exact B
    · have B := B.2 c13
      refine z_iload_n 30 rfl rfl ?_
      exact z_iret 31 rfl rfl rfl ⟨rfl, rfl⟩ ⟨_, rfl, B⟩
set_option maxRecDepth 100000 in
set_option maxHeartbeats 4000000 in
theorem sg_X9_rests_0 {G : zG} {d : Nat} {h : zMem} {Q : Int32 → zMem → Prop} {a0 : Nat} {x1 : Int32} (B : zO h a0 8 ∧ ∃ Q1 : Int32 → zMem → Prop, zConI G mX9_canBurn d [.ref a0, .int x1] h Q1 ∧ (∀ v4 h2, Q1 v4 h2 → (¬ v4 = 0 → zO h2 a0 8 ∧ ∃ Q6 : zMem → Prop, zConV G mX9_countFeastThinkers d [.ref a0, .int x1] h2 Q6 ∧ (∀ h7, Q6 h7 → zg G mX9_rests (d + 1) 19 [.ref a0, .int x1, .int (0 : Int32), .int (0 : Int32), zU] [] h7 (zPI Q))) ∧ (v4 = 0 → Q (-1 : Int32) h2))) : zg G mX9_rests (d + 1) 0 [.ref a0, .int x1, zU, zU, zU] [] h (zPI Q) := by
  refine z_aload_n 0 rfl rfl ?_
  refine z_iload_n 1 rfl rfl ?_
  obtain ⟨o10, B⟩ := B
  obtain ⟨Q1, K3, B⟩ := B
  refine z_cVI1 (ν := mX9_canBurn) 2 rfl rfl fX9_canBurn gX9_256 ⟨_, rfl, rfl⟩ (by decide) o10 (Nat.le_of_ble_eq_true rfl) K3 (fun v4 h2 q => ?_)
  have B := B v4 h2 q
  refine z_if_ne 3 10 rfl (by decide) ⟨fun c5 => ?_, fun c5 => ?_⟩
  · have B := B.1 c5
    refine z_aload_n 6 rfl rfl ?_
    refine z_iload_n 7 rfl rfl ?_
    obtain ⟨o9, B⟩ := B
    obtain ⟨Q6, K8, B⟩ := B
    refine z_cVV1 (ν := mX9_countFeastThinkers) 8 rfl rfl fX9_countFeastThinkers gX9_260 ⟨_, rfl, rfl⟩ (by decide) o9 (Nat.le_of_ble_eq_true rfl) K8 (fun h7 q => ?_)
    have B := B h7 q
    refine z_iconst (v := 0) 9 rfl (by decide) ?_
    refine z_istore_n 10 rfl (by decide) rfl ?_
    refine z_iconst (v := 0) 11 rfl (by decide) ?_
    refine z_istore_n 12 rfl (by decide) rfl ?_
    exact B
  · have B := B.2 c5
    refine z_iconst (v := -1) 4 rfl (by decide) ?_
    exact z_iret 5 rfl rfl rfl ⟨rfl, rfl⟩ ⟨_, rfl, B⟩
theorem cn_X9_rests {G : zG} {d : Nat} {h : zMem} {Q : Int32 → zMem → Prop} {a0 : Nat} {x1 : Int32} (B : zg G mX9_rests (d + 1) 0 [.ref a0, .int x1, zU, zU, zU] [] h (zPI Q)) : zConI G mX9_rests (d + 1) [.ref a0, .int x1] h Q := zcon0 (by decide +kernel) eX9_rests (Nat.le_of_ble_eq_true rfl) rfl B
set_option maxRecDepth 100000 in
set_option maxHeartbeats 4000000 in
theorem sg_X9_rests_19 {G : zG} {d : Nat} {h : zMem} {Q : Int32 → zMem → Prop} {a0 : Nat} {x1 : Int32} {x2 : Int32} {x3 : Int32} (B : zO h a0 8 ∧ ∃ r2, zR h a0 11 = some r2 ∧ zO h r2 6 ∧ ∃ r4, zR h r2 0 = some r4 ∧ zO h r4 100 ∧ vp_in (0 : Int32) (zLen h r4) ∧ ((zI h r4 (0 : Int32).toNatClampNeg) ≤ x3 → Q x2 h) ∧ (¬ (zI h r4 (0 : Int32).toNatClampNeg) ≤ x3 → zg G mX9_rests (d + 1) 35 [.ref a0, .int x1, .int x2, .int x3, .int (0 : Int32)] [] h (zPI Q))) : zg G mX9_rests (d + 1) 19 [.ref a0, .int x1, .int x2, .int x3, zU] [] h (zPI Q) := by
  refine z_iload_n 13 rfl rfl ?_
  refine z_aload_n 14 rfl rfl ?_
  obtain ⟨o1, B⟩ := B
  obtain ⟨r2, hr2, B⟩ := B
  refine z_getR 15 rfl lX9_67 rfl o1 hr2 ?_
  obtain ⟨o3, B⟩ := B
  obtain ⟨r4, hr4, B⟩ := B
  refine z_getR 16 rfl lX9_208 rfl o3 hr4 ?_
  refine z_iconst (v := 0) 17 rfl (by decide) ?_
  obtain ⟨o5, B⟩ := B
  obtain ⟨o6, B⟩ := B
  refine z_iald 18 rfl o5 o6 ?_
  refine z_icmp_ge 19 74 rfl (by decide) ⟨fun c7 => ?_, fun c7 => ?_⟩
  · have B := B.1 c7
    refine z_iload_n 39 rfl rfl ?_
    exact z_iret 40 rfl rfl rfl ⟨rfl, rfl⟩ ⟨_, rfl, B⟩
  · have B := B.2 c7
    refine z_iconst (v := 0) 20 rfl (by decide) ?_
    refine z_istore 21 rfl (by decide) rfl ?_
    exact B
set_option maxRecDepth 100000 in
set_option maxHeartbeats 4000000 in
theorem sg_X9_rests_35 {G : zG} {d : Nat} {h : zMem} {Q : Int32 → zMem → Prop} {a0 : Nat} {x1 : Int32} {x2 : Int32} {x3 : Int32} {x4 : Int32} (B : zO h a0 8 ∧ ∃ r2, zR h a0 11 = some r2 ∧ zO h r2 6 ∧ ∃ r4, zR h r2 0 = some r4 ∧ zO h r4 100 ∧ vp_in (0 : Int32) (zLen h r4) ∧ ((zI h r4 (0 : Int32).toNatClampNeg) ≤ x4 → zg G mX9_rests (d + 1) 19 [.ref a0, .int x1, .int x2, .int (x3 + 1), zU] [] h (zPI Q)) ∧ (¬ (zI h r4 (0 : Int32).toNatClampNeg) ≤ x4 → ∃ Q8 : Int32 → zMem → Prop, zConI G mX9_isRest d [.ref a0, .int x3, .int x4] h Q8 ∧ (∀ v11 h9, Q8 v11 h9 → (v11 = 0 → zg G mX9_rests (d + 1) 35 [.ref a0, .int x1, .int x2, .int x3, .int (x4 + 1)] [] h9 (zPI Q)) ∧ (¬ v11 = 0 → zg G mX9_rests (d + 1) 35 [.ref a0, .int x1, .int (x2 + 1), .int x3, .int (x4 + 1)] [] h9 (zPI Q))))) : zg G mX9_rests (d + 1) 35 [.ref a0, .int x1, .int x2, .int x3, .int x4] [] h (zPI Q) := by
  refine z_iload 22 rfl rfl ?_
  refine z_aload_n 23 rfl rfl ?_
  obtain ⟨o1, B⟩ := B
  obtain ⟨r2, hr2, B⟩ := B
  refine z_getR 24 rfl lX9_67 rfl o1 hr2 ?_
  obtain ⟨o3, B⟩ := B
  obtain ⟨r4, hr4, B⟩ := B
  refine z_getR 25 rfl lX9_208 rfl o3 hr4 ?_
  refine z_iconst (v := 0) 26 rfl (by decide) ?_
  obtain ⟨o5, B⟩ := B
  obtain ⟨o6, B⟩ := B
  refine z_iald 27 rfl o5 o6 ?_
  refine z_icmp_ge 28 68 rfl (by decide) ⟨fun c7 => ?_, fun c7 => ?_⟩
  · have B := B.1 c7
    refine z_iinc (v := 1) 37 rfl rfl (by decide) (by decide) rfl ?_
    refine z_goto 38 19 rfl (by decide) ?_
    refine z_drop 4 ?_
    exact B
  · have B := B.2 c7
    refine z_aload_n 29 rfl rfl ?_
    refine z_iload_n 30 rfl rfl ?_
    refine z_iload 31 rfl rfl ?_
    obtain ⟨Q8, K10, B⟩ := B
    refine z_cVI2 (ν := mX9_isRest) 32 rfl rfl fX9_isRest gX9_263 ⟨_, rfl, rfl⟩ (by decide) o1 (Nat.le_of_ble_eq_true rfl) K10 (fun v11 h9 q => ?_)
    have B := B v11 h9 q
    refine z_if_eq 33 62 rfl (by decide) ⟨fun c12 => ?_, fun c12 => ?_⟩
    · have B := B.1 c12
      refine z_iinc (v := 1) 35 rfl rfl (by decide) (by decide) rfl ?_
      refine z_goto 36 35 rfl (by decide) ?_
      exact B
    · have B := B.2 c12
      refine z_iinc (v := 1) 34 rfl rfl (by decide) (by decide) rfl ?_
      refine z_iinc (v := 1) 35 rfl rfl (by decide) (by decide) rfl ?_
      refine z_goto 36 35 rfl (by decide) ?_
      exact B
set_option maxRecDepth 100000 in
set_option maxHeartbeats 4000000 in
theorem sg_X9_rest_0 {G : zG} {d : Nat} {h : zMem} {Q : Int32 → zMem → Prop} {a0 : Nat} {x1 : Int32} {x2 : Int32} (B : zO h a0 8 ∧ ∃ Q1 : Int32 → zMem → Prop, zConI G mX9_canBurn d [.ref a0, .int x1] h Q1 ∧ (∀ v4 h2, Q1 v4 h2 → (v4 = 0 → Q (-1 : Int32) h2) ∧ (¬ v4 = 0 → (0 ≤ x2 → zO h2 a0 8 ∧ ∃ Q7 : zMem → Prop, zConV G mX9_countFeastThinkers d [.ref a0, .int x1] h2 Q7 ∧ (∀ h8, Q7 h8 → zg G mX9_rest (d + 1) 24 [.ref a0, .int x1, .int x2, .int x2, .int (0 : Int32), zU] [] h8 (zPI Q))) ∧ (¬ 0 ≤ x2 → Q (-1 : Int32) h2)))) : zg G mX9_rest (d + 1) 0 [.ref a0, .int x1, .int x2, zU, zU, zU] [] h (zPI Q) := by
  refine z_aload_n 0 rfl rfl ?_
  refine z_iload_n 1 rfl rfl ?_
  obtain ⟨o11, B⟩ := B
  obtain ⟨Q1, K3, B⟩ := B
  refine z_cVI1 (ν := mX9_canBurn) 2 rfl rfl fX9_canBurn gX9_256 ⟨_, rfl, rfl⟩ (by decide) o11 (Nat.le_of_ble_eq_true rfl) K3 (fun v4 h2 q => ?_)
  have B := B v4 h2 q
  refine z_if_eq 3 12 rfl (by decide) ⟨fun c5 => ?_, fun c5 => ?_⟩
  · have B := B.1 c5
    refine z_iconst (v := -1) 6 rfl (by decide) ?_
    exact z_iret 7 rfl rfl rfl ⟨rfl, rfl⟩ ⟨_, rfl, B⟩
  · have B := B.2 c5
    refine z_iload_n 4 rfl rfl ?_
    refine z_if_ge 5 14 rfl (by decide) ⟨fun c6 => ?_, fun c6 => ?_⟩
    · have B := B.1 c6
      refine z_aload_n 8 rfl rfl ?_
      refine z_iload_n 9 rfl rfl ?_
      obtain ⟨o10, B⟩ := B
      obtain ⟨Q7, K9, B⟩ := B
      refine z_cVV1 (ν := mX9_countFeastThinkers) 10 rfl rfl fX9_countFeastThinkers gX9_260 ⟨_, rfl, rfl⟩ (by decide) o10 (Nat.le_of_ble_eq_true rfl) K9 (fun h8 q => ?_)
      have B := B h8 q
      refine z_iload_n 11 rfl rfl ?_
      refine z_istore_n 12 rfl (by decide) rfl ?_
      refine z_iconst (v := 0) 13 rfl (by decide) ?_
      refine z_istore 14 rfl (by decide) rfl ?_
      exact B
    · have B := B.2 c6
      refine z_iconst (v := -1) 6 rfl (by decide) ?_
      exact z_iret 7 rfl rfl rfl ⟨rfl, rfl⟩ ⟨_, rfl, B⟩
theorem cn_X9_rest {G : zG} {d : Nat} {h : zMem} {Q : Int32 → zMem → Prop} {a0 : Nat} {x1 : Int32} {x2 : Int32} (B : zg G mX9_rest (d + 1) 0 [.ref a0, .int x1, .int x2, zU, zU, zU] [] h (zPI Q)) : zConI G mX9_rest (d + 1) [.ref a0, .int x1, .int x2] h Q := zcon0 (by decide +kernel) eX9_rest (Nat.le_of_ble_eq_true rfl) rfl B
set_option maxRecDepth 100000 in
set_option maxHeartbeats 4000000 in
theorem sg_X9_rest_24 {G : zG} {d : Nat} {h : zMem} {Q : Int32 → zMem → Prop} {a0 : Nat} {x1 : Int32} {x2 : Int32} {x3 : Int32} {x4 : Int32} (B : zO h a0 8 ∧ ∃ r2, zR h a0 11 = some r2 ∧ zO h r2 6 ∧ ∃ r4, zR h r2 0 = some r4 ∧ zO h r4 100 ∧ vp_in (0 : Int32) (zLen h r4) ∧ ((zI h r4 (0 : Int32).toNatClampNeg) ≤ x4 → Q (-2 : Int32) h) ∧ (¬ (zI h r4 (0 : Int32).toNatClampNeg) ≤ x4 → zg G mX9_rest (d + 1) 41 [.ref a0, .int x1, .int x2, .int x3, .int x4, .int (0 : Int32)] [] h (zPI Q))) : zg G mX9_rest (d + 1) 24 [.ref a0, .int x1, .int x2, .int x3, .int x4, zU] [] h (zPI Q) := by
  refine z_iload 15 rfl rfl ?_
  refine z_aload_n 16 rfl rfl ?_
  obtain ⟨o1, B⟩ := B
  obtain ⟨r2, hr2, B⟩ := B
  refine z_getR 17 rfl lX9_67 rfl o1 hr2 ?_
  obtain ⟨o3, B⟩ := B
  obtain ⟨r4, hr4, B⟩ := B
  refine z_getR 18 rfl lX9_208 rfl o3 hr4 ?_
  refine z_iconst (v := 0) 19 rfl (by decide) ?_
  obtain ⟨o5, B⟩ := B
  obtain ⟨o6, B⟩ := B
  refine z_iald 20 rfl o5 o6 ?_
  refine z_icmp_ge 21 94 rfl (by decide) ⟨fun c7 => ?_, fun c7 => ?_⟩
  · have B := B.1 c7
    refine z_bipush (v := -2) 49 rfl (by decide) ?_
    exact z_iret 50 rfl rfl rfl ⟨rfl, rfl⟩ ⟨_, rfl, B⟩
  · have B := B.2 c7
    refine z_iconst (v := 0) 22 rfl (by decide) ?_
    refine z_istore 23 rfl (by decide) rfl ?_
    exact B
set_option maxRecDepth 100000 in
set_option maxHeartbeats 4000000 in
theorem sg_X9_rest_41 {G : zG} {d : Nat} {h : zMem} {Q : Int32 → zMem → Prop} {a0 : Nat} {x1 : Int32} {x2 : Int32} {x3 : Int32} {x4 : Int32} {x5 : Int32} (B : zO h a0 8 ∧ ∃ r2, zR h a0 11 = some r2 ∧ zO h r2 6 ∧ ∃ r4, zR h r2 0 = some r4 ∧ zO h r4 100 ∧ vp_in (0 : Int32) (zLen h r4) ∧ ((zI h r4 (0 : Int32).toNatClampNeg) ≤ x5 → zg G mX9_rest (d + 1) 24 [.ref a0, .int x1, .int x2, .int x3, .int (x4 + 1), zU] [] h (zPI Q)) ∧ (¬ (zI h r4 (0 : Int32).toNatClampNeg) ≤ x5 → ∃ Q8 : Int32 → zMem → Prop, zConI G mX9_isRest d [.ref a0, .int x4, .int x5] h Q8 ∧ (∀ v11 h9, Q8 v11 h9 → (v11 = 0 → zg G mX9_rest (d + 1) 41 [.ref a0, .int x1, .int x2, .int x3, .int x4, .int (x5 + 1)] [] h9 (zPI Q)) ∧ (¬ v11 = 0 → (¬ x3 = 0 → zg G mX9_rest (d + 1) 41 [.ref a0, .int x1, .int x2, .int (x3 + (-1)), .int x4, .int (x5 + 1)] [] h9 (zPI Q)) ∧ (x3 = 0 → Q (((10 : Int32) * x4) + x5) h9))))) : zg G mX9_rest (d + 1) 41 [.ref a0, .int x1, .int x2, .int x3, .int x4, .int x5] [] h (zPI Q) := by
  refine z_iload 24 rfl rfl ?_
  refine z_aload_n 25 rfl rfl ?_
  obtain ⟨o1, B⟩ := B
  obtain ⟨r2, hr2, B⟩ := B
  refine z_getR 26 rfl lX9_67 rfl o1 hr2 ?_
  obtain ⟨o3, B⟩ := B
  obtain ⟨r4, hr4, B⟩ := B
  refine z_getR 27 rfl lX9_208 rfl o3 hr4 ?_
  refine z_iconst (v := 0) 28 rfl (by decide) ?_
  obtain ⟨o5, B⟩ := B
  obtain ⟨o6, B⟩ := B
  refine z_iald 29 rfl o5 o6 ?_
  refine z_icmp_ge 30 88 rfl (by decide) ⟨fun c7 => ?_, fun c7 => ?_⟩
  · have B := B.1 c7
    refine z_iinc (v := 1) 47 rfl rfl (by decide) (by decide) rfl ?_
    refine z_goto 48 24 rfl (by decide) ?_
    refine z_drop 5 ?_
    exact B
  · have B := B.2 c7
    refine z_aload_n 31 rfl rfl ?_
    refine z_iload 32 rfl rfl ?_
    refine z_iload 33 rfl rfl ?_
    obtain ⟨Q8, K10, B⟩ := B
    refine z_cVI2 (ν := mX9_isRest) 34 rfl rfl fX9_isRest gX9_263 ⟨_, rfl, rfl⟩ (by decide) o1 (Nat.le_of_ble_eq_true rfl) K10 (fun v11 h9 q => ?_)
    have B := B v11 h9 q
    refine z_if_eq 35 82 rfl (by decide) ⟨fun c12 => ?_, fun c12 => ?_⟩
    · have B := B.1 c12
      refine z_iinc (v := 1) 45 rfl rfl (by decide) (by decide) rfl ?_
      refine z_goto 46 41 rfl (by decide) ?_
      exact B
    · have B := B.2 c12
      refine z_iload_n 36 rfl rfl ?_
      refine z_if_ne 37 79 rfl (by decide) ⟨fun c13 => ?_, fun c13 => ?_⟩
      · have B := B.1 c13
        refine z_iinc (v := -1) 44 rfl rfl (by decide) (by decide) rfl ?_
        refine z_iinc (v := 1) 45 rfl rfl (by decide) (by decide) rfl ?_
        refine z_goto 46 41 rfl (by decide) ?_
        exact B
      · have B := B.2 c13
        refine z_bipush (v := 10) 38 rfl (by decide) ?_
        refine z_iload 39 rfl rfl ?_
        refine z_imul 40 rfl ?_
        refine z_iload 41 rfl rfl ?_
        refine z_iadd 42 rfl ?_
        exact z_iret 43 rfl rfl rfl ⟨rfl, rfl⟩ ⟨_, rfl, B⟩
set_option maxRecDepth 100000 in
set_option maxHeartbeats 4000000 in
theorem sg_X9_canBurn_0 {G : zG} {d : Nat} {h : zMem} {Q : Int32 → zMem → Prop} {a0 : Nat} {x1 : Int32} (B : (x1 < (1 : Int32) → Q (0 : Int32) h) ∧ (¬ x1 < (1 : Int32) → ((99 : Int32) < x1 → Q (0 : Int32) h) ∧ (¬ (99 : Int32) < x1 → zO h a0 8 ∧ ∃ r4, zR h a0 11 = some r4 ∧ zO h r4 6 ∧ ∃ r6, zR h r4 0 = some r6 ∧ zO h r6 100 ∧ vp_in (0 : Int32) (zLen h r6) ∧ ((zI h r6 (0 : Int32).toNatClampNeg) ≤ 0 → Q (0 : Int32) h) ∧ (¬ (zI h r6 (0 : Int32).toNatClampNeg) ≤ 0 → vp_in (1 : Int32) (zLen h r6) ∧ ((zI h r6 (1 : Int32).toNatClampNeg) ≤ 0 → Q (0 : Int32) h) ∧ (¬ (zI h r6 (1 : Int32).toNatClampNeg) ≤ 0 → Q (1 : Int32) h))))) : zg G mX9_canBurn d 0 [.ref a0, .int x1] [] h (zPI Q) := by
  refine z_iload_n 0 rfl rfl ?_
  refine z_iconst (v := 1) 1 rfl (by decide) ?_
  refine z_icmp_lt 2 39 rfl (by decide) ⟨fun c1 => ?_, fun c1 => ?_⟩
  · have B := B.1 c1
    refine z_iconst (v := 0) 20 rfl (by decide) ?_
    exact z_iret 21 rfl rfl rfl ⟨rfl, rfl⟩ ⟨_, rfl, B⟩
  · have B := B.2 c1
    refine z_iload_n 3 rfl rfl ?_
    refine z_bipush (v := 99) 4 rfl (by decide) ?_
    refine z_icmp_gt 5 39 rfl (by decide) ⟨fun c2 => ?_, fun c2 => ?_⟩
    · have B := B.1 c2
      refine z_iconst (v := 0) 20 rfl (by decide) ?_
      exact z_iret 21 rfl rfl rfl ⟨rfl, rfl⟩ ⟨_, rfl, B⟩
    · have B := B.2 c2
      refine z_aload_n 6 rfl rfl ?_
      obtain ⟨o3, B⟩ := B
      obtain ⟨r4, hr4, B⟩ := B
      refine z_getR 7 rfl lX9_67 rfl o3 hr4 ?_
      obtain ⟨o5, B⟩ := B
      obtain ⟨r6, hr6, B⟩ := B
      refine z_getR 8 rfl lX9_208 rfl o5 hr6 ?_
      refine z_iconst (v := 0) 9 rfl (by decide) ?_
      obtain ⟨o7, B⟩ := B
      obtain ⟨o8, B⟩ := B
      refine z_iald 10 rfl o7 o8 ?_
      refine z_if_le 11 39 rfl (by decide) ⟨fun c9 => ?_, fun c9 => ?_⟩
      · have B := B.1 c9
        refine z_iconst (v := 0) 20 rfl (by decide) ?_
        exact z_iret 21 rfl rfl rfl ⟨rfl, rfl⟩ ⟨_, rfl, B⟩
      · have B := B.2 c9
        refine z_aload_n 12 rfl rfl ?_
        refine z_getR 13 rfl lX9_67 rfl o3 hr4 ?_
        refine z_getR 14 rfl lX9_208 rfl o5 hr6 ?_
        refine z_iconst (v := 1) 15 rfl (by decide) ?_
        obtain ⟨o10, B⟩ := B
        refine z_iald 16 rfl o7 o10 ?_
        refine z_if_le 17 39 rfl (by decide) ⟨fun c11 => ?_, fun c11 => ?_⟩
        · have B := B.1 c11
          refine z_iconst (v := 0) 20 rfl (by decide) ?_
          exact z_iret 21 rfl rfl rfl ⟨rfl, rfl⟩ ⟨_, rfl, B⟩
        · have B := B.2 c11
          refine z_iconst (v := 1) 18 rfl (by decide) ?_
          refine z_goto 19 40 rfl (by decide) ?_
          exact z_iret 21 rfl rfl rfl ⟨rfl, rfl⟩ ⟨_, rfl, B⟩
theorem cn_X9_canBurn {G : zG} {d : Nat} {h : zMem} {Q : Int32 → zMem → Prop} {a0 : Nat} {x1 : Int32} (B : zg G mX9_canBurn d 0 [.ref a0, .int x1] [] h (zPI Q)) : zConI G mX9_canBurn d [.ref a0, .int x1] h Q := zcon0 (by decide +kernel) eX9_canBurn (Nat.le_of_ble_eq_true rfl) rfl B
