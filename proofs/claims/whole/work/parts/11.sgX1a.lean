set_option maxRecDepth 100000 in
set_option maxHeartbeats 4000000 in
theorem sg_X1_clear_0 {G : zG} {d : Nat} {h : zMem} {Q : zMem → Prop} {a0 : Nat} (B : zO h a0 1 ∧ Q (zsI (zsI h a0 6 (0 : Int32)) a0 7 (-1 : Int32))) : zg G mX1_clear d 0 [.ref a0] [] h (zPV Q) := by
  refine z_aload_n 0 rfl rfl ?_
  refine z_iconst (v := 0) 1 rfl (by decide) ?_
  obtain ⟨o1, B⟩ := B
  refine z_putI 2 rfl lX1_35 ⟨_, _, _, rfl, rfl⟩ rfl rfl rfl o1 ?_
  refine z_aload_n 3 rfl rfl ?_
  refine z_iconst (v := -1) 4 rfl (by decide) ?_
  refine z_putI 5 rfl lX1_31 ⟨_, _, _, rfl, rfl⟩ rfl rfl rfl o1 ?_
  exact z_vret 6 rfl rfl ⟨rfl, rfl⟩ ⟨rfl, B⟩
theorem cn_X1_clear {G : zG} {d : Nat} {h : zMem} {Q : zMem → Prop} {a0 : Nat} (B : zg G mX1_clear d 0 [.ref a0] [] h (zPV Q)) : zConV G mX1_clear d [.ref a0] h Q := zcon0 (by decide +kernel) eX1_clear (Nat.le_of_ble_eq_true rfl) rfl B
set_option maxRecDepth 100000 in
set_option maxHeartbeats 4000000 in
theorem sg_X1_add_0 {G : zG} {d : Nat} {h : zMem} {Q : Int32 → zMem → Prop} {a0 : Nat} {x1 : Int32} {x2 : Int32} {x3 : Int32} {x4 : Int32} (B : zO h a0 1 ∧ ((zI h a0 6) < (24 : Int32) → ∃ r3, zR h a0 0 = some r3 ∧ zO h r3 100 ∧ vp_in (zI h a0 6) (zLen h r3) ∧ ∃ r6, zR h a0 1 = some r6 ∧ zO h r6 100 ∧ vp_in (zI (zsI h r3 (zI h a0 6).toNatClampNeg x1) a0 6) (zLen h r6) ∧ ∃ r9, zR h a0 2 = some r9 ∧ zO h r9 100 ∧ vp_in (zI (zsI (zsI h r3 (zI h a0 6).toNatClampNeg x1) r6 (zI (zsI h r3 (zI h a0 6).toNatClampNeg x1) a0 6).toNatClampNeg x2) a0 6) (zLen h r9) ∧ ∃ r12, zR h a0 3 = some r12 ∧ zO h r12 103 ∧ vp_in (zI (zsI (zsI (zsI h r3 (zI h a0 6).toNatClampNeg x1) r6 (zI (zsI h r3 (zI h a0 6).toNatClampNeg x1) a0 6).toNatClampNeg x2) r9 (zI (zsI (zsI h r3 (zI h a0 6).toNatClampNeg x1) r6 (zI (zsI h r3 (zI h a0 6).toNatClampNeg x1) a0 6).toNatClampNeg x2) a0 6).toNatClampNeg x3) a0 6) (zLen h r12) ∧ ∃ r15, zR h a0 4 = some r15 ∧ zO h r15 100 ∧ vp_in (zI (zsI (zsI (zsI (zsI h r3 (zI h a0 6).toNatClampNeg x1) r6 (zI (zsI h r3 (zI h a0 6).toNatClampNeg x1) a0 6).toNatClampNeg x2) r9 (zI (zsI (zsI h r3 (zI h a0 6).toNatClampNeg x1) r6 (zI (zsI h r3 (zI h a0 6).toNatClampNeg x1) a0 6).toNatClampNeg x2) a0 6).toNatClampNeg x3) r12 (zI (zsI (zsI (zsI h r3 (zI h a0 6).toNatClampNeg x1) r6 (zI (zsI h r3 (zI h a0 6).toNatClampNeg x1) a0 6).toNatClampNeg x2) r9 (zI (zsI (zsI h r3 (zI h a0 6).toNatClampNeg x1) r6 (zI (zsI h r3 (zI h a0 6).toNatClampNeg x1) a0 6).toNatClampNeg x2) a0 6).toNatClampNeg x3) a0 6).toNatClampNeg (vp_nar .boolean x4)) a0 6) (zLen h r15) ∧ Q ((zI (zsI (zsI (zsI (zsI (zsI (zsI h r3 (zI h a0 6).toNatClampNeg x1) r6 (zI (zsI h r3 (zI h a0 6).toNatClampNeg x1) a0 6).toNatClampNeg x2) r9 (zI (zsI (zsI h r3 (zI h a0 6).toNatClampNeg x1) r6 (zI (zsI h r3 (zI h a0 6).toNatClampNeg x1) a0 6).toNatClampNeg x2) a0 6).toNatClampNeg x3) r12 (zI (zsI (zsI (zsI h r3 (zI h a0 6).toNatClampNeg x1) r6 (zI (zsI h r3 (zI h a0 6).toNatClampNeg x1) a0 6).toNatClampNeg x2) r9 (zI (zsI (zsI h r3 (zI h a0 6).toNatClampNeg x1) r6 (zI (zsI h r3 (zI h a0 6).toNatClampNeg x1) a0 6).toNatClampNeg x2) a0 6).toNatClampNeg x3) a0 6).toNatClampNeg (vp_nar .boolean x4)) r15 (zI (zsI (zsI (zsI (zsI h r3 (zI h a0 6).toNatClampNeg x1) r6 (zI (zsI h r3 (zI h a0 6).toNatClampNeg x1) a0 6).toNatClampNeg x2) r9 (zI (zsI (zsI h r3 (zI h a0 6).toNatClampNeg x1) r6 (zI (zsI h r3 (zI h a0 6).toNatClampNeg x1) a0 6).toNatClampNeg x2) a0 6).toNatClampNeg x3) r12 (zI (zsI (zsI (zsI h r3 (zI h a0 6).toNatClampNeg x1) r6 (zI (zsI h r3 (zI h a0 6).toNatClampNeg x1) a0 6).toNatClampNeg x2) r9 (zI (zsI (zsI h r3 (zI h a0 6).toNatClampNeg x1) r6 (zI (zsI h r3 (zI h a0 6).toNatClampNeg x1) a0 6).toNatClampNeg x2) a0 6).toNatClampNeg x3) a0 6).toNatClampNeg (vp_nar .boolean x4)) a0 6).toNatClampNeg (-1 : Int32)) a0 6 ((zI (zsI (zsI (zsI (zsI (zsI h r3 (zI h a0 6).toNatClampNeg x1) r6 (zI (zsI h r3 (zI h a0 6).toNatClampNeg x1) a0 6).toNatClampNeg x2) r9 (zI (zsI (zsI h r3 (zI h a0 6).toNatClampNeg x1) r6 (zI (zsI h r3 (zI h a0 6).toNatClampNeg x1) a0 6).toNatClampNeg x2) a0 6).toNatClampNeg x3) r12 (zI (zsI (zsI (zsI h r3 (zI h a0 6).toNatClampNeg x1) r6 (zI (zsI h r3 (zI h a0 6).toNatClampNeg x1) a0 6).toNatClampNeg x2) r9 (zI (zsI (zsI h r3 (zI h a0 6).toNatClampNeg x1) r6 (zI (zsI h r3 (zI h a0 6).toNatClampNeg x1) a0 6).toNatClampNeg x2) a0 6).toNatClampNeg x3) a0 6).toNatClampNeg (vp_nar .boolean x4)) r15 (zI (zsI (zsI (zsI (zsI h r3 (zI h a0 6).toNatClampNeg x1) r6 (zI (zsI h r3 (zI h a0 6).toNatClampNeg x1) a0 6).toNatClampNeg x2) r9 (zI (zsI (zsI h r3 (zI h a0 6).toNatClampNeg x1) r6 (zI (zsI h r3 (zI h a0 6).toNatClampNeg x1) a0 6).toNatClampNeg x2) a0 6).toNatClampNeg x3) r12 (zI (zsI (zsI (zsI h r3 (zI h a0 6).toNatClampNeg x1) r6 (zI (zsI h r3 (zI h a0 6).toNatClampNeg x1) a0 6).toNatClampNeg x2) r9 (zI (zsI (zsI h r3 (zI h a0 6).toNatClampNeg x1) r6 (zI (zsI h r3 (zI h a0 6).toNatClampNeg x1) a0 6).toNatClampNeg x2) a0 6).toNatClampNeg x3) a0 6).toNatClampNeg (vp_nar .boolean x4)) a0 6).toNatClampNeg (-1 : Int32)) a0 6) + (1 : Int32))) a0 6) - (1 : Int32)) (zsI (zsI (zsI (zsI (zsI (zsI h r3 (zI h a0 6).toNatClampNeg x1) r6 (zI (zsI h r3 (zI h a0 6).toNatClampNeg x1) a0 6).toNatClampNeg x2) r9 (zI (zsI (zsI h r3 (zI h a0 6).toNatClampNeg x1) r6 (zI (zsI h r3 (zI h a0 6).toNatClampNeg x1) a0 6).toNatClampNeg x2) a0 6).toNatClampNeg x3) r12 (zI (zsI (zsI (zsI h r3 (zI h a0 6).toNatClampNeg x1) r6 (zI (zsI h r3 (zI h a0 6).toNatClampNeg x1) a0 6).toNatClampNeg x2) r9 (zI (zsI (zsI h r3 (zI h a0 6).toNatClampNeg x1) r6 (zI (zsI h r3 (zI h a0 6).toNatClampNeg x1) a0 6).toNatClampNeg x2) a0 6).toNatClampNeg x3) a0 6).toNatClampNeg (vp_nar .boolean x4)) r15 (zI (zsI (zsI (zsI (zsI h r3 (zI h a0 6).toNatClampNeg x1) r6 (zI (zsI h r3 (zI h a0 6).toNatClampNeg x1) a0 6).toNatClampNeg x2) r9 (zI (zsI (zsI h r3 (zI h a0 6).toNatClampNeg x1) r6 (zI (zsI h r3 (zI h a0 6).toNatClampNeg x1) a0 6).toNatClampNeg x2) a0 6).toNatClampNeg x3) r12 (zI (zsI (zsI (zsI h r3 (zI h a0 6).toNatClampNeg x1) r6 (zI (zsI h r3 (zI h a0 6).toNatClampNeg x1) a0 6).toNatClampNeg x2) r9 (zI (zsI (zsI h r3 (zI h a0 6).toNatClampNeg x1) r6 (zI (zsI h r3 (zI h a0 6).toNatClampNeg x1) a0 6).toNatClampNeg x2) a0 6).toNatClampNeg x3) a0 6).toNatClampNeg (vp_nar .boolean x4)) a0 6).toNatClampNeg (-1 : Int32)) a0 6 ((zI (zsI (zsI (zsI (zsI (zsI h r3 (zI h a0 6).toNatClampNeg x1) r6 (zI (zsI h r3 (zI h a0 6).toNatClampNeg x1) a0 6).toNatClampNeg x2) r9 (zI (zsI (zsI h r3 (zI h a0 6).toNatClampNeg x1) r6 (zI (zsI h r3 (zI h a0 6).toNatClampNeg x1) a0 6).toNatClampNeg x2) a0 6).toNatClampNeg x3) r12 (zI (zsI (zsI (zsI h r3 (zI h a0 6).toNatClampNeg x1) r6 (zI (zsI h r3 (zI h a0 6).toNatClampNeg x1) a0 6).toNatClampNeg x2) r9 (zI (zsI (zsI h r3 (zI h a0 6).toNatClampNeg x1) r6 (zI (zsI h r3 (zI h a0 6).toNatClampNeg x1) a0 6).toNatClampNeg x2) a0 6).toNatClampNeg x3) a0 6).toNatClampNeg (vp_nar .boolean x4)) r15 (zI (zsI (zsI (zsI (zsI h r3 (zI h a0 6).toNatClampNeg x1) r6 (zI (zsI h r3 (zI h a0 6).toNatClampNeg x1) a0 6).toNatClampNeg x2) r9 (zI (zsI (zsI h r3 (zI h a0 6).toNatClampNeg x1) r6 (zI (zsI h r3 (zI h a0 6).toNatClampNeg x1) a0 6).toNatClampNeg x2) a0 6).toNatClampNeg x3) r12 (zI (zsI (zsI (zsI h r3 (zI h a0 6).toNatClampNeg x1) r6 (zI (zsI h r3 (zI h a0 6).toNatClampNeg x1) a0 6).toNatClampNeg x2) r9 (zI (zsI (zsI h r3 (zI h a0 6).toNatClampNeg x1) r6 (zI (zsI h r3 (zI h a0 6).toNatClampNeg x1) a0 6).toNatClampNeg x2) a0 6).toNatClampNeg x3) a0 6).toNatClampNeg (vp_nar .boolean x4)) a0 6).toNatClampNeg (-1 : Int32)) a0 6) + (1 : Int32)))) ∧ (¬ (zI h a0 6) < (24 : Int32) → Q (-1 : Int32) h)) : zg G mX1_add d 0 [.ref a0, .int x1, .int x2, .int x3, .int x4] [] h (zPI Q) := by
  refine z_aload_n 0 rfl rfl ?_
  obtain ⟨o1, B⟩ := B
  refine z_getI 1 rfl lX1_35 rfl o1 ?_
  refine z_bipush (v := 24) 2 rfl (by decide) ?_
  refine z_icmp_lt 3 11 rfl (by decide) ⟨fun c2 => ?_, fun c2 => ?_⟩
  · have B := B.1 c2
    refine z_aload_n 6 rfl rfl ?_
    obtain ⟨r3, hr3, B⟩ := B
    refine z_getR 7 rfl lX1_9 rfl o1 hr3 ?_
    refine z_aload_n 8 rfl rfl ?_
    refine z_getI 9 rfl lX1_35 rfl o1 ?_
    refine z_iload_n 10 rfl rfl ?_
    obtain ⟨o4, B⟩ := B
    obtain ⟨o5, B⟩ := B
    refine z_iast 11 rfl o4 o5 ?_
    refine z_aload_n 12 rfl rfl ?_
    obtain ⟨r6, hr6, B⟩ := B
    refine z_getR 13 rfl lX1_15 rfl o1 hr6 ?_
    refine z_aload_n 14 rfl rfl ?_
    refine z_getI 15 rfl lX1_35 rfl o1 ?_
    refine z_iload_n 16 rfl rfl ?_
    obtain ⟨o7, B⟩ := B
    obtain ⟨o8, B⟩ := B
    refine z_iast 17 rfl o7 o8 ?_
    refine z_aload_n 18 rfl rfl ?_
    obtain ⟨r9, hr9, B⟩ := B
    refine z_getR 19 rfl lX1_18 rfl o1 hr9 ?_
    refine z_aload_n 20 rfl rfl ?_
    refine z_getI 21 rfl lX1_35 rfl o1 ?_
    refine z_iload_n 22 rfl rfl ?_
    obtain ⟨o10, B⟩ := B
    obtain ⟨o11, B⟩ := B
    refine z_iast 23 rfl o10 o11 ?_
    refine z_aload_n 24 rfl rfl ?_
    obtain ⟨r12, hr12, B⟩ := B
    refine z_getR 25 rfl lX1_21 rfl o1 hr12 ?_
    refine z_aload_n 26 rfl rfl ?_
    refine z_getI 27 rfl lX1_35 rfl o1 ?_
    refine z_iload 28 rfl rfl ?_
    obtain ⟨o13, B⟩ := B
    obtain ⟨o14, B⟩ := B
    refine z_zast 29 rfl o13 o14 ?_
    refine z_aload_n 30 rfl rfl ?_
    obtain ⟨r15, hr15, B⟩ := B
    refine z_getR 31 rfl lX1_25 rfl o1 hr15 ?_
    refine z_aload_n 32 rfl rfl ?_
    refine z_getI 33 rfl lX1_35 rfl o1 ?_
    refine z_iconst (v := -1) 34 rfl (by decide) ?_
    obtain ⟨o16, B⟩ := B
    obtain ⟨o17, B⟩ := B
    refine z_iast 35 rfl o16 o17 ?_
    refine z_aload_n 36 rfl rfl ?_
    refine z_dup 37 rfl rfl ?_
    refine z_getI 38 rfl lX1_35 rfl o1 ?_
    refine z_iconst (v := 1) 39 rfl (by decide) ?_
    refine z_iadd 40 rfl ?_
    refine z_putI 41 rfl lX1_35 ⟨_, _, _, rfl, rfl⟩ rfl rfl rfl o1 ?_
    refine z_aload_n 42 rfl rfl ?_
    refine z_getI 43 rfl lX1_35 rfl o1 ?_
    refine z_iconst (v := 1) 44 rfl (by decide) ?_
    refine z_isub 45 rfl ?_
    exact z_iret 46 rfl rfl rfl ⟨rfl, rfl⟩ ⟨_, rfl, B⟩
  · have B := B.2 c2
    refine z_iconst (v := -1) 4 rfl (by decide) ?_
    exact z_iret 5 rfl rfl rfl ⟨rfl, rfl⟩ ⟨_, rfl, B⟩
theorem cn_X1_add {G : zG} {d : Nat} {h : zMem} {Q : Int32 → zMem → Prop} {a0 : Nat} {x1 : Int32} {x2 : Int32} {x3 : Int32} {x4 : Int32} (B : zg G mX1_add d 0 [.ref a0, .int x1, .int x2, .int x3, .int x4] [] h (zPI Q)) : zConI G mX1_add d [.ref a0, .int x1, .int x2, .int x3, .int x4] h Q := zcon0 (by decide +kernel) eX1_add (Nat.le_of_ble_eq_true rfl) rfl B
set_option maxRecDepth 100000 in
set_option maxHeartbeats 4000000 in
theorem sg_X1_strike_0 {G : zG} {d : Nat} {h : zMem} {Q : Int32 → zMem → Prop} {a0 : Nat} {x1 : Int32} (B : (x1 < 0 → Q (-1 : Int32) h) ∧ (¬ x1 < 0 → zO h a0 1 ∧ ((zI h a0 6) ≤ x1 → Q (-1 : Int32) h) ∧ (¬ (zI h a0 6) ≤ x1 → ((zI h a0 6) < (24 : Int32) → ∃ r5, zR h a0 4 = some r5 ∧ zO h r5 100 ∧ vp_in (zI h a0 6) (zLen h r5) ∧ Q ((zI (zsI (zsI h r5 (zI h a0 6).toNatClampNeg x1) a0 6 ((zI (zsI h r5 (zI h a0 6).toNatClampNeg x1) a0 6) + (1 : Int32))) a0 6) - (1 : Int32)) (zsI (zsI h r5 (zI h a0 6).toNatClampNeg x1) a0 6 ((zI (zsI h r5 (zI h a0 6).toNatClampNeg x1) a0 6) + (1 : Int32)))) ∧ (¬ (zI h a0 6) < (24 : Int32) → Q (-1 : Int32) h)))) : zg G mX1_strike d 0 [.ref a0, .int x1] [] h (zPI Q) := by
  refine z_iload_n 0 rfl rfl ?_
  refine z_if_lt 1 21 rfl (by decide) ⟨fun c1 => ?_, fun c1 => ?_⟩
  · have B := B.1 c1
    refine z_iconst (v := -1) 10 rfl (by decide) ?_
    exact z_iret 11 rfl rfl rfl ⟨rfl, rfl⟩ ⟨_, rfl, B⟩
  · have B := B.2 c1
    refine z_iload_n 2 rfl rfl ?_
    refine z_aload_n 3 rfl rfl ?_
    obtain ⟨o2, B⟩ := B
    refine z_getI 4 rfl lX1_35 rfl o2 ?_
    refine z_icmp_ge 5 21 rfl (by decide) ⟨fun c3 => ?_, fun c3 => ?_⟩
    · have B := B.1 c3
      refine z_iconst (v := -1) 10 rfl (by decide) ?_
      exact z_iret 11 rfl rfl rfl ⟨rfl, rfl⟩ ⟨_, rfl, B⟩
    · have B := B.2 c3
      refine z_aload_n 6 rfl rfl ?_
      refine z_getI 7 rfl lX1_35 rfl o2 ?_
      refine z_bipush (v := 24) 8 rfl (by decide) ?_
      refine z_icmp_lt 9 23 rfl (by decide) ⟨fun c4 => ?_, fun c4 => ?_⟩
      · have B := B.1 c4
        refine z_aload_n 12 rfl rfl ?_
        obtain ⟨r5, hr5, B⟩ := B
        refine z_getR 13 rfl lX1_25 rfl o2 hr5 ?_
        refine z_aload_n 14 rfl rfl ?_
        refine z_getI 15 rfl lX1_35 rfl o2 ?_
        refine z_iload_n 16 rfl rfl ?_
        obtain ⟨o6, B⟩ := B
        obtain ⟨o7, B⟩ := B
        refine z_iast 17 rfl o6 o7 ?_
        refine z_aload_n 18 rfl rfl ?_
        refine z_dup 19 rfl rfl ?_
        refine z_getI 20 rfl lX1_35 rfl o2 ?_
        refine z_iconst (v := 1) 21 rfl (by decide) ?_
        refine z_iadd 22 rfl ?_
        refine z_putI 23 rfl lX1_35 ⟨_, _, _, rfl, rfl⟩ rfl rfl rfl o2 ?_
        refine z_aload_n 24 rfl rfl ?_
        refine z_getI 25 rfl lX1_35 rfl o2 ?_
        refine z_iconst (v := 1) 26 rfl (by decide) ?_
        refine z_isub 27 rfl ?_
        exact z_iret 28 rfl rfl rfl ⟨rfl, rfl⟩ ⟨_, rfl, B⟩
      · have B := B.2 c4
        refine z_iconst (v := -1) 10 rfl (by decide) ?_
        exact z_iret 11 rfl rfl rfl ⟨rfl, rfl⟩ ⟨_, rfl, B⟩
theorem cn_X1_strike {G : zG} {d : Nat} {h : zMem} {Q : Int32 → zMem → Prop} {a0 : Nat} {x1 : Int32} (B : zg G mX1_strike d 0 [.ref a0, .int x1] [] h (zPI Q)) : zConI G mX1_strike d [.ref a0, .int x1] h Q := zcon0 (by decide +kernel) eX1_strike (Nat.le_of_ble_eq_true rfl) rfl B
set_option maxRecDepth 100000 in
set_option maxHeartbeats 4000000 in
theorem sg_X1_considered_0 {G : zG} {d : Nat} {h : zMem} {Q : Int32 → zMem → Prop} {a0 : Nat} (B : zO h a0 1 ∧ (¬ (zI h a0 7) = (-1 : Int32) → Q (zI h a0 7) h) ∧ ((zI h a0 7) = (-1 : Int32) → Q (zI h a0 6) h)) : zg G mX1_considered d 0 [.ref a0] [] h (zPI Q) := by
  refine z_aload_n 0 rfl rfl ?_
  obtain ⟨o1, B⟩ := B
  refine z_getI 1 rfl lX1_31 rfl o1 ?_
  refine z_iconst (v := -1) 2 rfl (by decide) ?_
  refine z_icmp_ne 3 15 rfl (by decide) ⟨fun c2 => ?_, fun c2 => ?_⟩
  · have B := B.1 c2
    refine z_aload_n 7 rfl rfl ?_
    refine z_getI 8 rfl lX1_31 rfl o1 ?_
    exact z_iret 9 rfl rfl rfl ⟨rfl, rfl⟩ ⟨_, rfl, B⟩
  · have B := B.2 c2
    refine z_aload_n 4 rfl rfl ?_
    refine z_getI 5 rfl lX1_35 rfl o1 ?_
    refine z_goto 6 19 rfl (by decide) ?_
    exact z_iret 9 rfl rfl rfl ⟨rfl, rfl⟩ ⟨_, rfl, B⟩
theorem cn_X1_considered {G : zG} {d : Nat} {h : zMem} {Q : Int32 → zMem → Prop} {a0 : Nat} (B : zg G mX1_considered d 0 [.ref a0] [] h (zPI Q)) : zConI G mX1_considered d [.ref a0] h Q := zcon0 (by decide +kernel) eX1_considered (Nat.le_of_ble_eq_true rfl) rfl B
set_option maxRecDepth 100000 in
set_option maxHeartbeats 4000000 in
theorem sg_X1_weigh_0 {G : zG} {d : Nat} {h : zMem} {Q : zMem → Prop} {a0 : Nat} (B : zg G mX1_weigh (d + 1) 2 [.ref a0, .int (0 : Int32)] [] h (zPV Q)) : zg G mX1_weigh (d + 1) 0 [.ref a0, zU] [] h (zPV Q) := by
  refine z_iconst (v := 0) 0 rfl (by decide) ?_
  refine z_istore_n 1 rfl (by decide) rfl ?_
  exact B
theorem cn_X1_weigh {G : zG} {d : Nat} {h : zMem} {Q : zMem → Prop} {a0 : Nat} (B : zg G mX1_weigh (d + 1) 0 [.ref a0, zU] [] h (zPV Q)) : zConV G mX1_weigh (d + 1) [.ref a0] h Q := zcon0 (by decide +kernel) eX1_weigh (Nat.le_of_ble_eq_true rfl) rfl B
set_option maxRecDepth 100000 in
set_option maxHeartbeats 4000000 in
theorem sg_X1_weigh_2 {G : zG} {d : Nat} {h : zMem} {Q : zMem → Prop} {a0 : Nat} {x1 : Int32} (B : ((24 : Int32) ≤ x1 → zO h a0 1 ∧ ∃ Q2 : Int32 → zMem → Prop, zConI G mX1_considered d [.ref a0] h Q2 ∧ (∀ v5 h3, Q2 v5 h3 → zg G mX1_weigh (d + 1) 28 [.ref a0, .int (v5 - (1 : Int32))] [] h3 (zPV Q))) ∧ (¬ (24 : Int32) ≤ x1 → zO h a0 1 ∧ ∃ r8, zR h a0 5 = some r8 ∧ zO h r8 103 ∧ vp_in x1 (zLen h r8) ∧ zg G mX1_weigh (d + 1) 2 [.ref a0, .int (x1 + 1)] [] (zsI h r8 x1.toNatClampNeg (vp_nar .boolean (0 : Int32))) (zPV Q))) : zg G mX1_weigh (d + 1) 2 [.ref a0, .int x1] [] h (zPV Q) := by
  refine z_iload_n 2 rfl rfl ?_
  refine z_bipush (v := 24) 3 rfl (by decide) ?_
  refine z_icmp_ge 4 21 rfl (by decide) ⟨fun c1 => ?_, fun c1 => ?_⟩
  · have B := B.1 c1
    refine z_aload_n 12 rfl rfl ?_
    obtain ⟨o6, B⟩ := B
    obtain ⟨Q2, K4, B⟩ := B
    refine z_cVI0 (ν := mX1_considered) 13 rfl rfl fX1_considered gX1_38 ⟨_, rfl, rfl⟩ (by decide) o6 (Nat.le_of_ble_eq_true rfl) K4 (fun v5 h3 q => ?_)
    have B := B v5 h3 q
    refine z_iconst (v := 1) 14 rfl (by decide) ?_
    refine z_isub 15 rfl ?_
    refine z_istore_n 16 rfl (by decide) rfl ?_
    exact B
  · have B := B.2 c1
    refine z_aload_n 5 rfl rfl ?_
    obtain ⟨o7, B⟩ := B
    obtain ⟨r8, hr8, B⟩ := B
    refine z_getR 6 rfl lX1_28 rfl o7 hr8 ?_
    refine z_iload_n 7 rfl rfl ?_
    refine z_iconst (v := 0) 8 rfl (by decide) ?_
    obtain ⟨o9, B⟩ := B
    obtain ⟨o10, B⟩ := B
    refine z_zast 9 rfl o9 o10 ?_
    refine z_iinc (v := 1) 10 rfl rfl (by decide) (by decide) rfl ?_
    refine z_goto 11 2 rfl (by decide) ?_
    exact B
set_option maxRecDepth 100000 in
set_option maxHeartbeats 4000000 in
theorem sg_X1_weigh_28 {G : zG} {d : Nat} {h : zMem} {Q : zMem → Prop} {a0 : Nat} {x1 : Int32} (B : (x1 < 0 → Q h) ∧ (¬ x1 < 0 → zO h a0 1 ∧ ∃ r3, zR h a0 5 = some r3 ∧ zO h r3 103 ∧ vp_in x1 (zLen h r3) ∧ (¬ (zI h r3 x1.toNatClampNeg) = 0 → zg G mX1_weigh (d + 1) 28 [.ref a0, .int (x1 + (-1))] [] h (zPV Q)) ∧ ((zI h r3 x1.toNatClampNeg) = 0 → ∃ r7, zR h a0 4 = some r7 ∧ zO h r7 100 ∧ vp_in x1 (zLen h r7) ∧ ((zI h r7 x1.toNatClampNeg) = (-1 : Int32) → zg G mX1_weigh (d + 1) 28 [.ref a0, .int (x1 + (-1))] [] h (zPV Q)) ∧ (¬ (zI h r7 x1.toNatClampNeg) = (-1 : Int32) → vp_in (zI h r7 x1.toNatClampNeg) (zLen h r3) ∧ zg G mX1_weigh (d + 1) 28 [.ref a0, .int (x1 + (-1))] [] (zsI h r3 (zI h r7 x1.toNatClampNeg).toNatClampNeg (vp_nar .boolean (1 : Int32))) (zPV Q))))) : zg G mX1_weigh (d + 1) 28 [.ref a0, .int x1] [] h (zPV Q) := by
  refine z_iload_n 17 rfl rfl ?_
  refine z_if_lt 18 69 rfl (by decide) ⟨fun c1 => ?_, fun c1 => ?_⟩
  · have B := B.1 c1
    exact z_vret 40 rfl rfl ⟨rfl, rfl⟩ ⟨rfl, B⟩
  · have B := B.2 c1
    refine z_aload_n 19 rfl rfl ?_
    obtain ⟨o2, B⟩ := B
    obtain ⟨r3, hr3, B⟩ := B
    refine z_getR 20 rfl lX1_28 rfl o2 hr3 ?_
    refine z_iload_n 21 rfl rfl ?_
    obtain ⟨o4, B⟩ := B
    obtain ⟨o5, B⟩ := B
    refine z_zald 22 rfl o4 o5 ?_
    refine z_if_ne 23 63 rfl (by decide) ⟨fun c6 => ?_, fun c6 => ?_⟩
    · have B := B.1 c6
      refine z_iinc (v := -1) 38 rfl rfl (by decide) (by decide) rfl ?_
      refine z_goto 39 28 rfl (by decide) ?_
      exact B
    · have B := B.2 c6
      refine z_aload_n 24 rfl rfl ?_
      obtain ⟨r7, hr7, B⟩ := B
      refine z_getR 25 rfl lX1_25 rfl o2 hr7 ?_
      refine z_iload_n 26 rfl rfl ?_
      obtain ⟨o8, B⟩ := B
      obtain ⟨o9, B⟩ := B
      refine z_iald 27 rfl o8 o9 ?_
      refine z_iconst (v := -1) 28 rfl (by decide) ?_
      refine z_icmp_eq 29 63 rfl (by decide) ⟨fun c10 => ?_, fun c10 => ?_⟩
      · have B := B.1 c10
        refine z_iinc (v := -1) 38 rfl rfl (by decide) (by decide) rfl ?_
        refine z_goto 39 28 rfl (by decide) ?_
        exact B
      · have B := B.2 c10
        refine z_aload_n 30 rfl rfl ?_
        refine z_getR 31 rfl lX1_28 rfl o2 hr3 ?_
        refine z_aload_n 32 rfl rfl ?_
        refine z_getR 33 rfl lX1_25 rfl o2 hr7 ?_
        refine z_iload_n 34 rfl rfl ?_
        refine z_iald 35 rfl o8 o9 ?_
        refine z_iconst (v := 1) 36 rfl (by decide) ?_
        obtain ⟨o11, B⟩ := B
        refine z_zast 37 rfl o4 o11 ?_
        refine z_iinc (v := -1) 38 rfl rfl (by decide) (by decide) rfl ?_
        refine z_goto 39 28 rfl (by decide) ?_
        exact B
set_option maxRecDepth 100000 in
set_option maxHeartbeats 4000000 in
theorem sg_X1_counts_0 {G : zG} {d : Nat} {h : zMem} {Q : Int32 → zMem → Prop} {a0 : Nat} {x1 : Int32} (B : zO h a0 1 ∧ ∃ r2, zR h a0 5 = some r2 ∧ zO h r2 103 ∧ vp_in x1 (zLen h r2) ∧ (¬ (zI h r2 x1.toNatClampNeg) = 0 → Q (0 : Int32) h) ∧ ((zI h r2 x1.toNatClampNeg) = 0 → ∃ r6, zR h a0 4 = some r6 ∧ zO h r6 100 ∧ vp_in x1 (zLen h r6) ∧ (¬ (zI h r6 x1.toNatClampNeg) = (-1 : Int32) → Q (0 : Int32) h) ∧ ((zI h r6 x1.toNatClampNeg) = (-1 : Int32) → Q (1 : Int32) h))) : zg G mX1_counts d 0 [.ref a0, .int x1] [] h (zPI Q) := by
  refine z_aload_n 0 rfl rfl ?_
  obtain ⟨o1, B⟩ := B
  obtain ⟨r2, hr2, B⟩ := B
  refine z_getR 1 rfl lX1_28 rfl o1 hr2 ?_
  refine z_iload_n 2 rfl rfl ?_
  obtain ⟨o3, B⟩ := B
  obtain ⟨o4, B⟩ := B
  refine z_zald 3 rfl o3 o4 ?_
  refine z_if_ne 4 23 rfl (by decide) ⟨fun c5 => ?_, fun c5 => ?_⟩
  · have B := B.1 c5
    refine z_iconst (v := 0) 13 rfl (by decide) ?_
    exact z_iret 14 rfl rfl rfl ⟨rfl, rfl⟩ ⟨_, rfl, B⟩
  · have B := B.2 c5
    refine z_aload_n 5 rfl rfl ?_
    obtain ⟨r6, hr6, B⟩ := B
    refine z_getR 6 rfl lX1_25 rfl o1 hr6 ?_
    refine z_iload_n 7 rfl rfl ?_
    obtain ⟨o7, B⟩ := B
    obtain ⟨o8, B⟩ := B
    refine z_iald 8 rfl o7 o8 ?_
    refine z_iconst (v := -1) 9 rfl (by decide) ?_
    refine z_icmp_ne 10 23 rfl (by decide) ⟨fun c9 => ?_, fun c9 => ?_⟩
    · have B := B.1 c9
      refine z_iconst (v := 0) 13 rfl (by decide) ?_
      exact z_iret 14 rfl rfl rfl ⟨rfl, rfl⟩ ⟨_, rfl, B⟩
    · have B := B.2 c9
      refine z_iconst (v := 1) 11 rfl (by decide) ?_
      refine z_goto 12 24 rfl (by decide) ?_
      exact z_iret 14 rfl rfl rfl ⟨rfl, rfl⟩ ⟨_, rfl, B⟩
theorem cn_X1_counts {G : zG} {d : Nat} {h : zMem} {Q : Int32 → zMem → Prop} {a0 : Nat} {x1 : Int32} (B : zg G mX1_counts d 0 [.ref a0, .int x1] [] h (zPI Q)) : zConI G mX1_counts d [.ref a0, .int x1] h Q := zcon0 (by decide +kernel) eX1_counts (Nat.le_of_ble_eq_true rfl) rfl B
set_option maxRecDepth 100000 in
set_option maxHeartbeats 4000000 in
theorem sg_X1_lastMorning_0 {G : zG} {d : Nat} {h : zMem} {Q : Int32 → zMem → Prop} {a0 : Nat} (B : zg G mX1_lastMorning (d + 1) 4 [.ref a0, .int (0 : Int32), .int (0 : Int32)] [] h (zPI Q)) : zg G mX1_lastMorning (d + 1) 0 [.ref a0, zU, zU] [] h (zPI Q) := by
  refine z_iconst (v := 0) 0 rfl (by decide) ?_
  refine z_istore_n 1 rfl (by decide) rfl ?_
  refine z_iconst (v := 0) 2 rfl (by decide) ?_
  refine z_istore_n 3 rfl (by decide) rfl ?_
  exact B
theorem cn_X1_lastMorning {G : zG} {d : Nat} {h : zMem} {Q : Int32 → zMem → Prop} {a0 : Nat} (B : zg G mX1_lastMorning (d + 1) 0 [.ref a0, zU, zU] [] h (zPI Q)) : zConI G mX1_lastMorning (d + 1) [.ref a0] h Q := zcon0 (by decide +kernel) eX1_lastMorning (Nat.le_of_ble_eq_true rfl) rfl B
set_option maxRecDepth 100000 in
set_option maxHeartbeats 4000000 in
theorem sg_X1_lastMorning_4 {G : zG} {d : Nat} {h : zMem} {Q : Int32 → zMem → Prop} {a0 : Nat} {x1 : Int32} {x2 : Int32} (B : zO h a0 1 ∧ ∃ Q1 : Int32 → zMem → Prop, zConI G mX1_considered d [.ref a0] h Q1 ∧ (∀ v4 h2, Q1 v4 h2 → (v4 ≤ x2 → Q x1 h2) ∧ (¬ v4 ≤ x2 → zO h2 a0 1 ∧ ∃ Q6 : Int32 → zMem → Prop, zConI G mX1_counts d [.ref a0, .int x2] h2 Q6 ∧ (∀ v9 h7, Q6 v9 h7 → (v9 = 0 → zg G mX1_lastMorning (d + 1) 4 [.ref a0, .int x1, .int (x2 + 1)] [] h7 (zPI Q)) ∧ (¬ v9 = 0 → zO h7 a0 1 ∧ ∃ r12, zR h7 a0 0 = some r12 ∧ zO h7 r12 100 ∧ vp_in x2 (zLen h7 r12) ∧ zg G mX1_lastMorning (d + 1) 4 [.ref a0, .int (if x1 < (zI h7 r12 x2.toNatClampNeg) then (zI h7 r12 x2.toNatClampNeg) else x1), .int (x2 + 1)] [] h7 (zPI Q)))))) : zg G mX1_lastMorning (d + 1) 4 [.ref a0, .int x1, .int x2] [] h (zPI Q) := by
  refine z_iload_n 4 rfl rfl ?_
  refine z_aload_n 5 rfl rfl ?_
  obtain ⟨o16, B⟩ := B
  obtain ⟨Q1, K3, B⟩ := B
  refine z_cVI0 (ν := mX1_considered) 6 rfl rfl fX1_considered gX1_38 ⟨_, rfl, rfl⟩ (by decide) o16 (Nat.le_of_ble_eq_true rfl) K3 (fun v4 h2 q => ?_)
  have B := B v4 h2 q
  refine z_icmp_ge 7 37 rfl (by decide) ⟨fun c5 => ?_, fun c5 => ?_⟩
  · have B := B.1 c5
    refine z_iload_n 21 rfl rfl ?_
    exact z_iret 22 rfl rfl rfl ⟨rfl, rfl⟩ ⟨_, rfl, B⟩
  · have B := B.2 c5
    refine z_aload_n 8 rfl rfl ?_
    refine z_iload_n 9 rfl rfl ?_
    obtain ⟨o15, B⟩ := B
    obtain ⟨Q6, K8, B⟩ := B
    refine z_cVI1 (ν := mX1_counts) 10 rfl rfl fX1_counts gX1_42 ⟨_, rfl, rfl⟩ (by decide) o15 (Nat.le_of_ble_eq_true rfl) K8 (fun v9 h7 q => ?_)
    have B := B v9 h7 q
    refine z_if_eq 11 31 rfl (by decide) ⟨fun c10 => ?_, fun c10 => ?_⟩
    · have B := B.1 c10
      refine z_iinc (v := 1) 19 rfl rfl (by decide) (by decide) rfl ?_
      refine z_goto 20 4 rfl (by decide) ?_
      exact B
    · have B := B.2 c10
      refine z_iload_n 12 rfl rfl ?_
      refine z_aload_n 13 rfl rfl ?_
      obtain ⟨o11, B⟩ := B
      obtain ⟨r12, hr12, B⟩ := B
      refine z_getR 14 rfl lX1_9 rfl o11 hr12 ?_
      refine z_iload_n 15 rfl rfl ?_
      obtain ⟨o13, B⟩ := B
      obtain ⟨o14, B⟩ := B
      refine z_iald 16 rfl o13 o14 ?_
      refine z_mmax 17 rfl rfl gmX1_46 (Nat.le_of_ble_eq_true rfl) ?_
      refine z_istore_n 18 rfl (by decide) rfl ?_
      refine z_iinc (v := 1) 19 rfl rfl (by decide) (by decide) rfl ?_
      refine z_goto 20 4 rfl (by decide) ?_
      exact B
set_option maxRecDepth 100000 in
set_option maxHeartbeats 4000000 in
theorem sg_X1_allow_0 {G : zG} {d : Nat} {h : zMem} {Q : Int32 → zMem → Prop} {a0 : Nat} {x1 : Int32} {a2 : Nat} (B : zg G mX1_allow (d + 1) 2 [.ref a0, .int x1, .ref a2, .int (0 : Int32)] [] h (zPI Q)) : zg G mX1_allow (d + 1) 0 [.ref a0, .int x1, .ref a2, zU] [] h (zPI Q) := by
  refine z_iconst (v := 0) 0 rfl (by decide) ?_
  refine z_istore_n 1 rfl (by decide) rfl ?_
  exact B
theorem cn_X1_allow {G : zG} {d : Nat} {h : zMem} {Q : Int32 → zMem → Prop} {a0 : Nat} {x1 : Int32} {a2 : Nat} (B : zg G mX1_allow (d + 1) 0 [.ref a0, .int x1, .ref a2, zU] [] h (zPI Q)) : zConI G mX1_allow (d + 1) [.ref a0, .int x1, .ref a2] h Q := zcon0 (by decide +kernel) eX1_allow (Nat.le_of_ble_eq_true rfl) rfl B
set_option maxRecDepth 100000 in
set_option maxHeartbeats 4000000 in
theorem sg_X1_allow_2 {G : zG} {d : Nat} {h : zMem} {Q : Int32 → zMem → Prop} {a0 : Nat} {x1 : Int32} {a2 : Nat} {x3 : Int32} (B : zO h a0 1 ∧ ∃ Q1 : Int32 → zMem → Prop, zConI G mX1_considered d [.ref a0] h Q1 ∧ (∀ v4 h2, Q1 v4 h2 → (v4 ≤ x3 → Q (1 : Int32) h2) ∧ (¬ v4 ≤ x3 → zO h2 a0 1 ∧ ∃ Q6 : Int32 → zMem → Prop, zConI G mX1_counts d [.ref a0, .int x3] h2 Q6 ∧ (∀ v9 h7, Q6 v9 h7 → (v9 = 0 → zg G mX1_allow (d + 1) 2 [.ref a0, .int x1, .ref a2, .int (x3 + 1)] [] h7 (zPI Q)) ∧ (¬ v9 = 0 → zO h7 a0 1 ∧ ∃ r12, zR h7 a0 0 = some r12 ∧ zO h7 r12 100 ∧ vp_in x3 (zLen h7 r12) ∧ (¬ (zI h7 r12 x3.toNatClampNeg) = x1 → zg G mX1_allow (d + 1) 2 [.ref a0, .int x1, .ref a2, .int (x3 + 1)] [] h7 (zPI Q)) ∧ ((zI h7 r12 x3.toNatClampNeg) = x1 → ∃ r16, zR h7 a0 1 = some r16 ∧ zO h7 r16 100 ∧ vp_in x3 (zLen h7 r16) ∧ zO h7 a2 100 ∧ vp_in (zI h7 r16 x3.toNatClampNeg) (zLen h7 a2) ∧ ∃ r21, zR h7 a0 2 = some r21 ∧ zO h7 r21 100 ∧ vp_in x3 (zLen h7 r21) ∧ (¬ (zI h7 a2 (zI h7 r16 x3.toNatClampNeg).toNatClampNeg) = (zI h7 r21 x3.toNatClampNeg) → ∃ r25, zR h7 a0 3 = some r25 ∧ zO h7 r25 103 ∧ vp_in x3 (zLen h7 r25) ∧ ((0 : Int32) = (zI h7 r25 x3.toNatClampNeg) → zg G mX1_allow (d + 1) 2 [.ref a0, .int x1, .ref a2, .int (x3 + 1)] [] h7 (zPI Q)) ∧ (¬ (0 : Int32) = (zI h7 r25 x3.toNatClampNeg) → Q (0 : Int32) h7)) ∧ ((zI h7 a2 (zI h7 r16 x3.toNatClampNeg).toNatClampNeg) = (zI h7 r21 x3.toNatClampNeg) → ∃ r29, zR h7 a0 3 = some r29 ∧ zO h7 r29 103 ∧ vp_in x3 (zLen h7 r29) ∧ ((1 : Int32) = (zI h7 r29 x3.toNatClampNeg) → zg G mX1_allow (d + 1) 2 [.ref a0, .int x1, .ref a2, .int (x3 + 1)] [] h7 (zPI Q)) ∧ (¬ (1 : Int32) = (zI h7 r29 x3.toNatClampNeg) → Q (0 : Int32) h7)))))))) : zg G mX1_allow (d + 1) 2 [.ref a0, .int x1, .ref a2, .int x3] [] h (zPI Q) := by
  refine z_iload_n 2 rfl rfl ?_
  refine z_aload_n 3 rfl rfl ?_
  obtain ⟨o34, B⟩ := B
  obtain ⟨Q1, K3, B⟩ := B
  refine z_cVI0 (ν := mX1_considered) 4 rfl rfl fX1_considered gX1_38 ⟨_, rfl, rfl⟩ (by decide) o34 (Nat.le_of_ble_eq_true rfl) K3 (fun v4 h2 q => ?_)
  have B := B v4 h2 q
  refine z_icmp_ge 5 67 rfl (by decide) ⟨fun c5 => ?_, fun c5 => ?_⟩
  · have B := B.1 c5
    refine z_iconst (v := 1) 39 rfl (by decide) ?_
    exact z_iret 40 rfl rfl rfl ⟨rfl, rfl⟩ ⟨_, rfl, B⟩
  · have B := B.2 c5
    refine z_aload_n 6 rfl rfl ?_
    refine z_iload_n 7 rfl rfl ?_
    obtain ⟨o33, B⟩ := B
    obtain ⟨Q6, K8, B⟩ := B
    refine z_cVI1 (ν := mX1_counts) 8 rfl rfl fX1_counts gX1_42 ⟨_, rfl, rfl⟩ (by decide) o33 (Nat.le_of_ble_eq_true rfl) K8 (fun v9 h7 q => ?_)
    have B := B v9 h7 q
    refine z_if_eq 9 61 rfl (by decide) ⟨fun c10 => ?_, fun c10 => ?_⟩
    · have B := B.1 c10
      refine z_iinc (v := 1) 37 rfl rfl (by decide) (by decide) rfl ?_
      refine z_goto 38 2 rfl (by decide) ?_
      exact B
    · have B := B.2 c10
      refine z_aload_n 10 rfl rfl ?_
      obtain ⟨o11, B⟩ := B
      obtain ⟨r12, hr12, B⟩ := B
      refine z_getR 11 rfl lX1_9 rfl o11 hr12 ?_
      refine z_iload_n 12 rfl rfl ?_
      obtain ⟨o13, B⟩ := B
      obtain ⟨o14, B⟩ := B
      refine z_iald 13 rfl o13 o14 ?_
      refine z_iload_n 14 rfl rfl ?_
      refine z_icmp_ne 15 61 rfl (by decide) ⟨fun c15 => ?_, fun c15 => ?_⟩
      · have B := B.1 c15
        refine z_iinc (v := 1) 37 rfl rfl (by decide) (by decide) rfl ?_
        refine z_goto 38 2 rfl (by decide) ?_
        exact B
      · have B := B.2 c15
        refine z_aload_n 16 rfl rfl ?_
        refine z_aload_n 17 rfl rfl ?_
        obtain ⟨r16, hr16, B⟩ := B
        refine z_getR 18 rfl lX1_15 rfl o11 hr16 ?_
        refine z_iload_n 19 rfl rfl ?_
        obtain ⟨o17, B⟩ := B
        obtain ⟨o18, B⟩ := B
        refine z_iald 20 rfl o17 o18 ?_
        obtain ⟨o19, B⟩ := B
        obtain ⟨o20, B⟩ := B
        refine z_iald 21 rfl o19 o20 ?_
        refine z_aload_n 22 rfl rfl ?_
        obtain ⟨r21, hr21, B⟩ := B
        refine z_getR 23 rfl lX1_18 rfl o11 hr21 ?_
        refine z_iload_n 24 rfl rfl ?_
        obtain ⟨o22, B⟩ := B
        obtain ⟨o23, B⟩ := B
        refine z_iald 25 rfl o22 o23 ?_
        refine z_icmp_ne 26 49 rfl (by decide) ⟨fun c24 => ?_, fun c24 => ?_⟩
        · have B := B.1 c24
          refine z_iconst (v := 0) 29 rfl (by decide) ?_
          refine z_aload_n 30 rfl rfl ?_
          obtain ⟨r25, hr25, B⟩ := B
          refine z_getR 31 rfl lX1_21 rfl o11 hr25 ?_
          refine z_iload_n 32 rfl rfl ?_
          obtain ⟨o26, B⟩ := B
          obtain ⟨o27, B⟩ := B
          refine z_zald 33 rfl o26 o27 ?_
          refine z_icmp_eq 34 61 rfl (by decide) ⟨fun c28 => ?_, fun c28 => ?_⟩
          · have B := B.1 c28
            refine z_iinc (v := 1) 37 rfl rfl (by decide) (by decide) rfl ?_
            refine z_goto 38 2 rfl (by decide) ?_
            exact B
          · have B := B.2 c28
            refine z_iconst (v := 0) 35 rfl (by decide) ?_
            exact z_iret 36 rfl rfl rfl ⟨rfl, rfl⟩ ⟨_, rfl, B⟩
        · have B := B.2 c24
          refine z_iconst (v := 1) 27 rfl (by decide) ?_
          refine z_goto 28 50 rfl (by decide) ?_
          refine z_aload_n 30 rfl rfl ?_
          obtain ⟨r29, hr29, B⟩ := B
          refine z_getR 31 rfl lX1_21 rfl o11 hr29 ?_
          refine z_iload_n 32 rfl rfl ?_
          obtain ⟨o30, B⟩ := B
          obtain ⟨o31, B⟩ := B
          refine z_zald 33 rfl o30 o31 ?_
          refine z_icmp_eq 34 61 rfl (by decide) ⟨fun c32 => ?_, fun c32 => ?_⟩
          · have B := B.1 c32
            refine z_iinc (v := 1) 37 rfl rfl (by decide) (by decide) rfl ?_
            refine z_goto 38 2 rfl (by decide) ?_
            exact B
          · have B := B.2 c32
            refine z_iconst (v := 0) 35 rfl (by decide) ?_
            exact z_iret 36 rfl rfl rfl ⟨rfl, rfl⟩ ⟨_, rfl, B⟩
