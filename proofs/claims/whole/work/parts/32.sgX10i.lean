set_option maxRecDepth 100000 in
set_option maxHeartbeats 4000000 in
theorem sg_X10_rest_0 {G : zG} {d : Nat} {h : zMem} {Q : Int32 → zMem → Prop} {a0 : Nat} {x1 : Int32} {x2 : Int32} (B : zO h a0 9 ∧ ∃ Q2 : Int32 → zMem → Prop, zConI G mX10_areSextons d [.ref a0, .int x1] (zsI h a0 0 (0 : Int32)) Q2 ∧ (∀ v5 h3, Q2 v5 h3 → (v5 = 0 → Q (-1 : Int32) h3) ∧ (¬ v5 = 0 → (x2 < 0 → Q (-1 : Int32) h3) ∧ (¬ x2 < 0 → zO h3 a0 9 ∧ ∃ Q8 : Int32 → zMem → Prop, zConI G mX10_restOf d [.ref a0, .int x1, .int x2] h3 Q8 ∧ (∀ v11 h9, Q8 v11 h9 → Q v11 h9))))) : zg G mX10_rest (d + 1) 0 [.ref a0, .int x1, .int x2] [] h (zPI Q) := by
  refine z_aload_n 0 rfl rfl ?_
  refine z_iconst (v := 0) 1 rfl (by decide) ?_
  obtain ⟨o1, B⟩ := B
  refine z_putI 2 rfl lX10_160 ⟨_, _, _, rfl, rfl⟩ rfl rfl rfl o1 ?_
  refine z_aload_n 3 rfl rfl ?_
  refine z_iload_n 4 rfl rfl ?_
  obtain ⟨Q2, K4, B⟩ := B
  refine z_cVI1 (ν := mX10_areSextons) 5 rfl rfl fX10_areSextons gX10_458 ⟨_, rfl, rfl⟩ (by decide) o1 (Nat.le_of_ble_eq_true rfl) K4 (fun v5 h3 q => ?_)
  have B := B v5 h3 q
  refine z_if_eq 6 26 rfl (by decide) ⟨fun c6 => ?_, fun c6 => ?_⟩
  · have B := B.1 c6
    refine z_iconst (v := -1) 14 rfl (by decide) ?_
    exact z_iret 15 rfl rfl rfl ⟨rfl, rfl⟩ ⟨_, rfl, B⟩
  · have B := B.2 c6
    refine z_iload_n 7 rfl rfl ?_
    refine z_if_lt 8 26 rfl (by decide) ⟨fun c7 => ?_, fun c7 => ?_⟩
    · have B := B.1 c7
      refine z_iconst (v := -1) 14 rfl (by decide) ?_
      exact z_iret 15 rfl rfl rfl ⟨rfl, rfl⟩ ⟨_, rfl, B⟩
    · have B := B.2 c7
      refine z_aload_n 9 rfl rfl ?_
      refine z_iload_n 10 rfl rfl ?_
      refine z_iload_n 11 rfl rfl ?_
      obtain ⟨o12, B⟩ := B
      obtain ⟨Q8, K10, B⟩ := B
      refine z_cVI2 (ν := mX10_restOf) 12 rfl rfl fX10_restOf gX10_461 ⟨_, rfl, rfl⟩ (by decide) o12 (Nat.le_of_ble_eq_true rfl) K10 (fun v11 h9 q => ?_)
      have B := B v11 h9 q
      refine z_goto 13 27 rfl (by decide) ?_
      exact z_iret 15 rfl rfl rfl ⟨rfl, rfl⟩ ⟨_, rfl, B⟩
theorem cn_X10_rest {G : zG} {d : Nat} {h : zMem} {Q : Int32 → zMem → Prop} {a0 : Nat} {x1 : Int32} {x2 : Int32} (B : zg G mX10_rest (d + 1) 0 [.ref a0, .int x1, .int x2] [] h (zPI Q)) : zConI G mX10_rest (d + 1) [.ref a0, .int x1, .int x2] h Q := zcon0 (by decide +kernel) eX10_rest (Nat.le_of_ble_eq_true rfl) rfl B
set_option maxRecDepth 100000 in
set_option maxHeartbeats 4000000 in
theorem sg_X10_note_0 {G : zG} {d : Nat} {h : zMem} {Q : Int32 → zMem → Prop} {a0 : Nat} {x1 : Int32} {x2 : Int32} {x3 : Int32} {x4 : Int32} (B : zO h a0 9 ∧ (x1 < (1 : Int32) → Q (-1 : Int32) (zsI h a0 0 (0 : Int32))) ∧ (¬ x1 < (1 : Int32) → ((40 : Int32) < x1 → Q (-1 : Int32) (zsI h a0 0 (0 : Int32))) ∧ (¬ (40 : Int32) < x1 → ∃ Q4 : Int32 → zMem → Prop, zConI G mX10_isMonk d [.ref a0, .int x2] (zsI h a0 0 (0 : Int32)) Q4 ∧ (∀ v7 h5, Q4 v7 h5 → (v7 = 0 → Q (-1 : Int32) h5) ∧ (¬ v7 = 0 → zO h5 a0 9 ∧ ∃ Q9 : Int32 → zMem → Prop, zConI G mX10_isDay d [.ref a0, .int x3] h5 Q9 ∧ (∀ v12 h10, Q9 v12 h10 → (v12 = 0 → Q (-1 : Int32) h10) ∧ (¬ v12 = 0 → zO h10 a0 9 ∧ (¬ (zI h10 a0 60) = (24 : Int32) → ∃ r16, zR h10 a0 62 = some r16 ∧ zO h10 r16 100 ∧ vp_in (zI h10 a0 60) (zLen h10 r16) ∧ ∃ r19, zR h10 a0 63 = some r19 ∧ zO h10 r19 100 ∧ vp_in (zI (zsI h10 r16 (zI h10 a0 60).toNatClampNeg x1) a0 60) (zLen h10 r19) ∧ ∃ r22, zR h10 a0 64 = some r22 ∧ zO h10 r22 100 ∧ vp_in (zI (zsI (zsI h10 r16 (zI h10 a0 60).toNatClampNeg x1) r19 (zI (zsI h10 r16 (zI h10 a0 60).toNatClampNeg x1) a0 60).toNatClampNeg x2) a0 60) (zLen h10 r22) ∧ ∃ r25, zR h10 a0 65 = some r25 ∧ zO h10 r25 103 ∧ vp_in (zI (zsI (zsI (zsI h10 r16 (zI h10 a0 60).toNatClampNeg x1) r19 (zI (zsI h10 r16 (zI h10 a0 60).toNatClampNeg x1) a0 60).toNatClampNeg x2) r22 (zI (zsI (zsI h10 r16 (zI h10 a0 60).toNatClampNeg x1) r19 (zI (zsI h10 r16 (zI h10 a0 60).toNatClampNeg x1) a0 60).toNatClampNeg x2) a0 60).toNatClampNeg x3) a0 60) (zLen h10 r25) ∧ ∃ r28, zR h10 a0 66 = some r28 ∧ zO h10 r28 100 ∧ vp_in (zI (zsI (zsI (zsI (zsI h10 r16 (zI h10 a0 60).toNatClampNeg x1) r19 (zI (zsI h10 r16 (zI h10 a0 60).toNatClampNeg x1) a0 60).toNatClampNeg x2) r22 (zI (zsI (zsI h10 r16 (zI h10 a0 60).toNatClampNeg x1) r19 (zI (zsI h10 r16 (zI h10 a0 60).toNatClampNeg x1) a0 60).toNatClampNeg x2) a0 60).toNatClampNeg x3) r25 (zI (zsI (zsI (zsI h10 r16 (zI h10 a0 60).toNatClampNeg x1) r19 (zI (zsI h10 r16 (zI h10 a0 60).toNatClampNeg x1) a0 60).toNatClampNeg x2) r22 (zI (zsI (zsI h10 r16 (zI h10 a0 60).toNatClampNeg x1) r19 (zI (zsI h10 r16 (zI h10 a0 60).toNatClampNeg x1) a0 60).toNatClampNeg x2) a0 60).toNatClampNeg x3) a0 60).toNatClampNeg (vp_nar .boolean x4)) a0 60) (zLen h10 r28) ∧ Q ((zI (zsI (zsI (zsI (zsI (zsI (zsI h10 r16 (zI h10 a0 60).toNatClampNeg x1) r19 (zI (zsI h10 r16 (zI h10 a0 60).toNatClampNeg x1) a0 60).toNatClampNeg x2) r22 (zI (zsI (zsI h10 r16 (zI h10 a0 60).toNatClampNeg x1) r19 (zI (zsI h10 r16 (zI h10 a0 60).toNatClampNeg x1) a0 60).toNatClampNeg x2) a0 60).toNatClampNeg x3) r25 (zI (zsI (zsI (zsI h10 r16 (zI h10 a0 60).toNatClampNeg x1) r19 (zI (zsI h10 r16 (zI h10 a0 60).toNatClampNeg x1) a0 60).toNatClampNeg x2) r22 (zI (zsI (zsI h10 r16 (zI h10 a0 60).toNatClampNeg x1) r19 (zI (zsI h10 r16 (zI h10 a0 60).toNatClampNeg x1) a0 60).toNatClampNeg x2) a0 60).toNatClampNeg x3) a0 60).toNatClampNeg (vp_nar .boolean x4)) r28 (zI (zsI (zsI (zsI (zsI h10 r16 (zI h10 a0 60).toNatClampNeg x1) r19 (zI (zsI h10 r16 (zI h10 a0 60).toNatClampNeg x1) a0 60).toNatClampNeg x2) r22 (zI (zsI (zsI h10 r16 (zI h10 a0 60).toNatClampNeg x1) r19 (zI (zsI h10 r16 (zI h10 a0 60).toNatClampNeg x1) a0 60).toNatClampNeg x2) a0 60).toNatClampNeg x3) r25 (zI (zsI (zsI (zsI h10 r16 (zI h10 a0 60).toNatClampNeg x1) r19 (zI (zsI h10 r16 (zI h10 a0 60).toNatClampNeg x1) a0 60).toNatClampNeg x2) r22 (zI (zsI (zsI h10 r16 (zI h10 a0 60).toNatClampNeg x1) r19 (zI (zsI h10 r16 (zI h10 a0 60).toNatClampNeg x1) a0 60).toNatClampNeg x2) a0 60).toNatClampNeg x3) a0 60).toNatClampNeg (vp_nar .boolean x4)) a0 60).toNatClampNeg (-1 : Int32)) a0 60 ((zI (zsI (zsI (zsI (zsI (zsI h10 r16 (zI h10 a0 60).toNatClampNeg x1) r19 (zI (zsI h10 r16 (zI h10 a0 60).toNatClampNeg x1) a0 60).toNatClampNeg x2) r22 (zI (zsI (zsI h10 r16 (zI h10 a0 60).toNatClampNeg x1) r19 (zI (zsI h10 r16 (zI h10 a0 60).toNatClampNeg x1) a0 60).toNatClampNeg x2) a0 60).toNatClampNeg x3) r25 (zI (zsI (zsI (zsI h10 r16 (zI h10 a0 60).toNatClampNeg x1) r19 (zI (zsI h10 r16 (zI h10 a0 60).toNatClampNeg x1) a0 60).toNatClampNeg x2) r22 (zI (zsI (zsI h10 r16 (zI h10 a0 60).toNatClampNeg x1) r19 (zI (zsI h10 r16 (zI h10 a0 60).toNatClampNeg x1) a0 60).toNatClampNeg x2) a0 60).toNatClampNeg x3) a0 60).toNatClampNeg (vp_nar .boolean x4)) r28 (zI (zsI (zsI (zsI (zsI h10 r16 (zI h10 a0 60).toNatClampNeg x1) r19 (zI (zsI h10 r16 (zI h10 a0 60).toNatClampNeg x1) a0 60).toNatClampNeg x2) r22 (zI (zsI (zsI h10 r16 (zI h10 a0 60).toNatClampNeg x1) r19 (zI (zsI h10 r16 (zI h10 a0 60).toNatClampNeg x1) a0 60).toNatClampNeg x2) a0 60).toNatClampNeg x3) r25 (zI (zsI (zsI (zsI h10 r16 (zI h10 a0 60).toNatClampNeg x1) r19 (zI (zsI h10 r16 (zI h10 a0 60).toNatClampNeg x1) a0 60).toNatClampNeg x2) r22 (zI (zsI (zsI h10 r16 (zI h10 a0 60).toNatClampNeg x1) r19 (zI (zsI h10 r16 (zI h10 a0 60).toNatClampNeg x1) a0 60).toNatClampNeg x2) a0 60).toNatClampNeg x3) a0 60).toNatClampNeg (vp_nar .boolean x4)) a0 60).toNatClampNeg (-1 : Int32)) a0 60) + (1 : Int32))) a0 60) - (1 : Int32)) (zsI (zsI (zsI (zsI (zsI (zsI h10 r16 (zI h10 a0 60).toNatClampNeg x1) r19 (zI (zsI h10 r16 (zI h10 a0 60).toNatClampNeg x1) a0 60).toNatClampNeg x2) r22 (zI (zsI (zsI h10 r16 (zI h10 a0 60).toNatClampNeg x1) r19 (zI (zsI h10 r16 (zI h10 a0 60).toNatClampNeg x1) a0 60).toNatClampNeg x2) a0 60).toNatClampNeg x3) r25 (zI (zsI (zsI (zsI h10 r16 (zI h10 a0 60).toNatClampNeg x1) r19 (zI (zsI h10 r16 (zI h10 a0 60).toNatClampNeg x1) a0 60).toNatClampNeg x2) r22 (zI (zsI (zsI h10 r16 (zI h10 a0 60).toNatClampNeg x1) r19 (zI (zsI h10 r16 (zI h10 a0 60).toNatClampNeg x1) a0 60).toNatClampNeg x2) a0 60).toNatClampNeg x3) a0 60).toNatClampNeg (vp_nar .boolean x4)) r28 (zI (zsI (zsI (zsI (zsI h10 r16 (zI h10 a0 60).toNatClampNeg x1) r19 (zI (zsI h10 r16 (zI h10 a0 60).toNatClampNeg x1) a0 60).toNatClampNeg x2) r22 (zI (zsI (zsI h10 r16 (zI h10 a0 60).toNatClampNeg x1) r19 (zI (zsI h10 r16 (zI h10 a0 60).toNatClampNeg x1) a0 60).toNatClampNeg x2) a0 60).toNatClampNeg x3) r25 (zI (zsI (zsI (zsI h10 r16 (zI h10 a0 60).toNatClampNeg x1) r19 (zI (zsI h10 r16 (zI h10 a0 60).toNatClampNeg x1) a0 60).toNatClampNeg x2) r22 (zI (zsI (zsI h10 r16 (zI h10 a0 60).toNatClampNeg x1) r19 (zI (zsI h10 r16 (zI h10 a0 60).toNatClampNeg x1) a0 60).toNatClampNeg x2) a0 60).toNatClampNeg x3) a0 60).toNatClampNeg (vp_nar .boolean x4)) a0 60).toNatClampNeg (-1 : Int32)) a0 60 ((zI (zsI (zsI (zsI (zsI (zsI h10 r16 (zI h10 a0 60).toNatClampNeg x1) r19 (zI (zsI h10 r16 (zI h10 a0 60).toNatClampNeg x1) a0 60).toNatClampNeg x2) r22 (zI (zsI (zsI h10 r16 (zI h10 a0 60).toNatClampNeg x1) r19 (zI (zsI h10 r16 (zI h10 a0 60).toNatClampNeg x1) a0 60).toNatClampNeg x2) a0 60).toNatClampNeg x3) r25 (zI (zsI (zsI (zsI h10 r16 (zI h10 a0 60).toNatClampNeg x1) r19 (zI (zsI h10 r16 (zI h10 a0 60).toNatClampNeg x1) a0 60).toNatClampNeg x2) r22 (zI (zsI (zsI h10 r16 (zI h10 a0 60).toNatClampNeg x1) r19 (zI (zsI h10 r16 (zI h10 a0 60).toNatClampNeg x1) a0 60).toNatClampNeg x2) a0 60).toNatClampNeg x3) a0 60).toNatClampNeg (vp_nar .boolean x4)) r28 (zI (zsI (zsI (zsI (zsI h10 r16 (zI h10 a0 60).toNatClampNeg x1) r19 (zI (zsI h10 r16 (zI h10 a0 60).toNatClampNeg x1) a0 60).toNatClampNeg x2) r22 (zI (zsI (zsI h10 r16 (zI h10 a0 60).toNatClampNeg x1) r19 (zI (zsI h10 r16 (zI h10 a0 60).toNatClampNeg x1) a0 60).toNatClampNeg x2) a0 60).toNatClampNeg x3) r25 (zI (zsI (zsI (zsI h10 r16 (zI h10 a0 60).toNatClampNeg x1) r19 (zI (zsI h10 r16 (zI h10 a0 60).toNatClampNeg x1) a0 60).toNatClampNeg x2) r22 (zI (zsI (zsI h10 r16 (zI h10 a0 60).toNatClampNeg x1) r19 (zI (zsI h10 r16 (zI h10 a0 60).toNatClampNeg x1) a0 60).toNatClampNeg x2) a0 60).toNatClampNeg x3) a0 60).toNatClampNeg (vp_nar .boolean x4)) a0 60).toNatClampNeg (-1 : Int32)) a0 60) + (1 : Int32)))) ∧ ((zI h10 a0 60) = (24 : Int32) → Q (-1 : Int32) h10)))))))) : zg G mX10_note (d + 1) 0 [.ref a0, .int x1, .int x2, .int x3, .int x4] [] h (zPI Q) := by
  refine z_aload_n 0 rfl rfl ?_
  refine z_iconst (v := 0) 1 rfl (by decide) ?_
  obtain ⟨o1, B⟩ := B
  refine z_putI 2 rfl lX10_160 ⟨_, _, _, rfl, rfl⟩ rfl rfl rfl o1 ?_
  refine z_iload_n 3 rfl rfl ?_
  refine z_iconst (v := 1) 4 rfl (by decide) ?_
  refine z_icmp_lt 5 41 rfl (by decide) ⟨fun c2 => ?_, fun c2 => ?_⟩
  · have B := B.1 c2
    refine z_iconst (v := -1) 21 rfl (by decide) ?_
    exact z_iret 22 rfl rfl rfl ⟨rfl, rfl⟩ ⟨_, rfl, B⟩
  · have B := B.2 c2
    refine z_iload_n 6 rfl rfl ?_
    refine z_bipush (v := 40) 7 rfl (by decide) ?_
    refine z_icmp_gt 8 41 rfl (by decide) ⟨fun c3 => ?_, fun c3 => ?_⟩
    · have B := B.1 c3
      refine z_iconst (v := -1) 21 rfl (by decide) ?_
      exact z_iret 22 rfl rfl rfl ⟨rfl, rfl⟩ ⟨_, rfl, B⟩
    · have B := B.2 c3
      refine z_aload_n 9 rfl rfl ?_
      refine z_iload_n 10 rfl rfl ?_
      obtain ⟨Q4, K6, B⟩ := B
      refine z_cVI1 (ν := mX10_isMonk) 11 rfl rfl fX10_isMonk gX10_415 ⟨_, rfl, rfl⟩ (by decide) o1 (Nat.le_of_ble_eq_true rfl) K6 (fun v7 h5 q => ?_)
      have B := B v7 h5 q
      refine z_if_eq 12 41 rfl (by decide) ⟨fun c8 => ?_, fun c8 => ?_⟩
      · have B := B.1 c8
        refine z_iconst (v := -1) 21 rfl (by decide) ?_
        exact z_iret 22 rfl rfl rfl ⟨rfl, rfl⟩ ⟨_, rfl, B⟩
      · have B := B.2 c8
        refine z_aload_n 13 rfl rfl ?_
        refine z_iload_n 14 rfl rfl ?_
        obtain ⟨o31, B⟩ := B
        obtain ⟨Q9, K11, B⟩ := B
        refine z_cVI1 (ν := mX10_isDay) 15 rfl rfl fX10_isDay gX10_424 ⟨_, rfl, rfl⟩ (by decide) o31 (Nat.le_of_ble_eq_true rfl) K11 (fun v12 h10 q => ?_)
        have B := B v12 h10 q
        refine z_if_eq 16 41 rfl (by decide) ⟨fun c13 => ?_, fun c13 => ?_⟩
        · have B := B.1 c13
          refine z_iconst (v := -1) 21 rfl (by decide) ?_
          exact z_iret 22 rfl rfl rfl ⟨rfl, rfl⟩ ⟨_, rfl, B⟩
        · have B := B.2 c13
          refine z_aload_n 17 rfl rfl ?_
          obtain ⟨o14, B⟩ := B
          refine z_getI 18 rfl lX10_316 rfl o14 ?_
          refine z_bipush (v := 24) 19 rfl (by decide) ?_
          refine z_icmp_ne 20 43 rfl (by decide) ⟨fun c15 => ?_, fun c15 => ?_⟩
          · have B := B.1 c15
            refine z_aload_n 23 rfl rfl ?_
            obtain ⟨r16, hr16, B⟩ := B
            refine z_getR 24 rfl lX10_138 rfl o14 hr16 ?_
            refine z_aload_n 25 rfl rfl ?_
            refine z_getI 26 rfl lX10_316 rfl o14 ?_
            refine z_iload_n 27 rfl rfl ?_
            obtain ⟨o17, B⟩ := B
            obtain ⟨o18, B⟩ := B
            refine z_iast 28 rfl o17 o18 ?_
            refine z_aload_n 29 rfl rfl ?_
            obtain ⟨r19, hr19, B⟩ := B
            refine z_getR 30 rfl lX10_141 rfl o14 hr19 ?_
            refine z_aload_n 31 rfl rfl ?_
            refine z_getI 32 rfl lX10_316 rfl o14 ?_
            refine z_iload_n 33 rfl rfl ?_
            obtain ⟨o20, B⟩ := B
            obtain ⟨o21, B⟩ := B
            refine z_iast 34 rfl o20 o21 ?_
            refine z_aload_n 35 rfl rfl ?_
            obtain ⟨r22, hr22, B⟩ := B
            refine z_getR 36 rfl lX10_144 rfl o14 hr22 ?_
            refine z_aload_n 37 rfl rfl ?_
            refine z_getI 38 rfl lX10_316 rfl o14 ?_
            refine z_iload_n 39 rfl rfl ?_
            obtain ⟨o23, B⟩ := B
            obtain ⟨o24, B⟩ := B
            refine z_iast 40 rfl o23 o24 ?_
            refine z_aload_n 41 rfl rfl ?_
            obtain ⟨r25, hr25, B⟩ := B
            refine z_getR 42 rfl lX10_147 rfl o14 hr25 ?_
            refine z_aload_n 43 rfl rfl ?_
            refine z_getI 44 rfl lX10_316 rfl o14 ?_
            refine z_iload 45 rfl rfl ?_
            obtain ⟨o26, B⟩ := B
            obtain ⟨o27, B⟩ := B
            refine z_zast 46 rfl o26 o27 ?_
            refine z_aload_n 47 rfl rfl ?_
            obtain ⟨r28, hr28, B⟩ := B
            refine z_getR 48 rfl lX10_151 rfl o14 hr28 ?_
            refine z_aload_n 49 rfl rfl ?_
            refine z_getI 50 rfl lX10_316 rfl o14 ?_
            refine z_iconst (v := -1) 51 rfl (by decide) ?_
            obtain ⟨o29, B⟩ := B
            obtain ⟨o30, B⟩ := B
            refine z_iast 52 rfl o29 o30 ?_
            refine z_aload_n 53 rfl rfl ?_
            refine z_dup 54 rfl rfl ?_
            refine z_getI 55 rfl lX10_316 rfl o14 ?_
            refine z_iconst (v := 1) 56 rfl (by decide) ?_
            refine z_iadd 57 rfl ?_
            refine z_putI 58 rfl lX10_316 ⟨_, _, _, rfl, rfl⟩ rfl rfl rfl o14 ?_
            refine z_aload_n 59 rfl rfl ?_
            refine z_getI 60 rfl lX10_316 rfl o14 ?_
            refine z_iconst (v := 1) 61 rfl (by decide) ?_
            refine z_isub 62 rfl ?_
            exact z_iret 63 rfl rfl rfl ⟨rfl, rfl⟩ ⟨_, rfl, B⟩
          · have B := B.2 c15
            refine z_iconst (v := -1) 21 rfl (by decide) ?_
            exact z_iret 22 rfl rfl rfl ⟨rfl, rfl⟩ ⟨_, rfl, B⟩
theorem cn_X10_note {G : zG} {d : Nat} {h : zMem} {Q : Int32 → zMem → Prop} {a0 : Nat} {x1 : Int32} {x2 : Int32} {x3 : Int32} {x4 : Int32} (B : zg G mX10_note (d + 1) 0 [.ref a0, .int x1, .int x2, .int x3, .int x4] [] h (zPI Q)) : zConI G mX10_note (d + 1) [.ref a0, .int x1, .int x2, .int x3, .int x4] h Q := zcon0 (by decide +kernel) eX10_note (Nat.le_of_ble_eq_true rfl) rfl B
set_option maxRecDepth 100000 in
set_option maxHeartbeats 4000000 in
theorem sg_X10_out_0 {G : zG} {d : Nat} {h : zMem} {Q : Int32 → zMem → Prop} {a0 : Nat} {x1 : Int32} (B : zO h a0 9 ∧ (x1 < 0 → Q (-1 : Int32) (zsI h a0 0 (0 : Int32))) ∧ (¬ x1 < 0 → ((zI (zsI h a0 0 (0 : Int32)) a0 60) ≤ x1 → Q (-1 : Int32) (zsI h a0 0 (0 : Int32))) ∧ (¬ (zI (zsI h a0 0 (0 : Int32)) a0 60) ≤ x1 → (¬ (zI (zsI h a0 0 (0 : Int32)) a0 60) = (24 : Int32) → ∃ r5, zR h a0 66 = some r5 ∧ zO h r5 100 ∧ vp_in (zI (zsI h a0 0 (0 : Int32)) a0 60) (zLen h r5) ∧ Q ((zI (zsI (zsI (zsI h a0 0 (0 : Int32)) r5 (zI (zsI h a0 0 (0 : Int32)) a0 60).toNatClampNeg x1) a0 60 ((zI (zsI (zsI h a0 0 (0 : Int32)) r5 (zI (zsI h a0 0 (0 : Int32)) a0 60).toNatClampNeg x1) a0 60) + (1 : Int32))) a0 60) - (1 : Int32)) (zsI (zsI (zsI h a0 0 (0 : Int32)) r5 (zI (zsI h a0 0 (0 : Int32)) a0 60).toNatClampNeg x1) a0 60 ((zI (zsI (zsI h a0 0 (0 : Int32)) r5 (zI (zsI h a0 0 (0 : Int32)) a0 60).toNatClampNeg x1) a0 60) + (1 : Int32)))) ∧ ((zI (zsI h a0 0 (0 : Int32)) a0 60) = (24 : Int32) → Q (-1 : Int32) (zsI h a0 0 (0 : Int32)))))) : zg G mX10_out d 0 [.ref a0, .int x1] [] h (zPI Q) := by
  refine z_aload_n 0 rfl rfl ?_
  refine z_iconst (v := 0) 1 rfl (by decide) ?_
  obtain ⟨o1, B⟩ := B
  refine z_putI 2 rfl lX10_160 ⟨_, _, _, rfl, rfl⟩ rfl rfl rfl o1 ?_
  refine z_iload_n 3 rfl rfl ?_
  refine z_if_lt 4 26 rfl (by decide) ⟨fun c2 => ?_, fun c2 => ?_⟩
  · have B := B.1 c2
    refine z_iconst (v := -1) 13 rfl (by decide) ?_
    exact z_iret 14 rfl rfl rfl ⟨rfl, rfl⟩ ⟨_, rfl, B⟩
  · have B := B.2 c2
    refine z_iload_n 5 rfl rfl ?_
    refine z_aload_n 6 rfl rfl ?_
    refine z_getI 7 rfl lX10_316 rfl o1 ?_
    refine z_icmp_ge 8 26 rfl (by decide) ⟨fun c3 => ?_, fun c3 => ?_⟩
    · have B := B.1 c3
      refine z_iconst (v := -1) 13 rfl (by decide) ?_
      exact z_iret 14 rfl rfl rfl ⟨rfl, rfl⟩ ⟨_, rfl, B⟩
    · have B := B.2 c3
      refine z_aload_n 9 rfl rfl ?_
      refine z_getI 10 rfl lX10_316 rfl o1 ?_
      refine z_bipush (v := 24) 11 rfl (by decide) ?_
      refine z_icmp_ne 12 28 rfl (by decide) ⟨fun c4 => ?_, fun c4 => ?_⟩
      · have B := B.1 c4
        refine z_aload_n 15 rfl rfl ?_
        obtain ⟨r5, hr5, B⟩ := B
        refine z_getR 16 rfl lX10_151 rfl o1 hr5 ?_
        refine z_aload_n 17 rfl rfl ?_
        refine z_getI 18 rfl lX10_316 rfl o1 ?_
        refine z_iload_n 19 rfl rfl ?_
        obtain ⟨o6, B⟩ := B
        obtain ⟨o7, B⟩ := B
        refine z_iast 20 rfl o6 o7 ?_
        refine z_aload_n 21 rfl rfl ?_
        refine z_dup 22 rfl rfl ?_
        refine z_getI 23 rfl lX10_316 rfl o1 ?_
        refine z_iconst (v := 1) 24 rfl (by decide) ?_
        refine z_iadd 25 rfl ?_
        refine z_putI 26 rfl lX10_316 ⟨_, _, _, rfl, rfl⟩ rfl rfl rfl o1 ?_
        refine z_aload_n 27 rfl rfl ?_
        refine z_getI 28 rfl lX10_316 rfl o1 ?_
        refine z_iconst (v := 1) 29 rfl (by decide) ?_
        refine z_isub 30 rfl ?_
        exact z_iret 31 rfl rfl rfl ⟨rfl, rfl⟩ ⟨_, rfl, B⟩
      · have B := B.2 c4
        refine z_iconst (v := -1) 13 rfl (by decide) ?_
        exact z_iret 14 rfl rfl rfl ⟨rfl, rfl⟩ ⟨_, rfl, B⟩
theorem cn_X10_out {G : zG} {d : Nat} {h : zMem} {Q : Int32 → zMem → Prop} {a0 : Nat} {x1 : Int32} (B : zg G mX10_out d 0 [.ref a0, .int x1] [] h (zPI Q)) : zConI G mX10_out d [.ref a0, .int x1] h Q := zcon0 (by decide +kernel) eX10_out (Nat.le_of_ble_eq_true rfl) rfl B
set_option maxRecDepth 100000 in
set_option maxHeartbeats 4000000 in
theorem sg_X10_known_0 {G : zG} {d : Nat} {h : zMem} {Q : Int32 → zMem → Prop} {a0 : Nat} {x1 : Int32} (B : zO h a0 9 ∧ (x1 < (-1 : Int32) → Q (0 : Int32) (zsI h a0 0 (0 : Int32))) ∧ (¬ x1 < (-1 : Int32) → (x1 ≤ (zI (zsI h a0 0 (0 : Int32)) a0 60) → Q (1 : Int32) (zsI (zsI h a0 0 (0 : Int32)) a0 61 x1)) ∧ (¬ x1 ≤ (zI (zsI h a0 0 (0 : Int32)) a0 60) → Q (0 : Int32) (zsI h a0 0 (0 : Int32))))) : zg G mX10_known d 0 [.ref a0, .int x1] [] h (zPI Q) := by
  refine z_aload_n 0 rfl rfl ?_
  refine z_iconst (v := 0) 1 rfl (by decide) ?_
  obtain ⟨o1, B⟩ := B
  refine z_putI 2 rfl lX10_160 ⟨_, _, _, rfl, rfl⟩ rfl rfl rfl o1 ?_
  refine z_iload_n 3 rfl rfl ?_
  refine z_iconst (v := -1) 4 rfl (by decide) ?_
  refine z_icmp_lt 5 18 rfl (by decide) ⟨fun c2 => ?_, fun c2 => ?_⟩
  · have B := B.1 c2
    refine z_iconst (v := 0) 10 rfl (by decide) ?_
    exact z_iret 11 rfl rfl rfl ⟨rfl, rfl⟩ ⟨_, rfl, B⟩
  · have B := B.2 c2
    refine z_iload_n 6 rfl rfl ?_
    refine z_aload_n 7 rfl rfl ?_
    refine z_getI 8 rfl lX10_316 rfl o1 ?_
    refine z_icmp_le 9 20 rfl (by decide) ⟨fun c3 => ?_, fun c3 => ?_⟩
    · have B := B.1 c3
      refine z_aload_n 12 rfl rfl ?_
      refine z_iload_n 13 rfl rfl ?_
      refine z_putI 14 rfl lX10_135 ⟨_, _, _, rfl, rfl⟩ rfl rfl rfl o1 ?_
      refine z_iconst (v := 1) 15 rfl (by decide) ?_
      exact z_iret 16 rfl rfl rfl ⟨rfl, rfl⟩ ⟨_, rfl, B⟩
    · have B := B.2 c3
      refine z_iconst (v := 0) 10 rfl (by decide) ?_
      exact z_iret 11 rfl rfl rfl ⟨rfl, rfl⟩ ⟨_, rfl, B⟩
theorem cn_X10_known {G : zG} {d : Nat} {h : zMem} {Q : Int32 → zMem → Prop} {a0 : Nat} {x1 : Int32} (B : zg G mX10_known d 0 [.ref a0, .int x1] [] h (zPI Q)) : zConI G mX10_known d [.ref a0, .int x1] h Q := zcon0 (by decide +kernel) eX10_known (Nat.le_of_ble_eq_true rfl) rfl B
set_option maxRecDepth 100000 in
set_option maxHeartbeats 4000000 in
theorem sg_X10_knownMany_0 {G : zG} {d : Nat} {h : zMem} {Q : Int32 → zMem → Prop} {a0 : Nat} (B : zO h a0 9 ∧ (¬ (zI h a0 61) = (-1 : Int32) → Q (zI h a0 61) h) ∧ ((zI h a0 61) = (-1 : Int32) → Q (zI h a0 60) h)) : zg G mX10_knownMany d 0 [.ref a0] [] h (zPI Q) := by
  refine z_aload_n 0 rfl rfl ?_
  obtain ⟨o1, B⟩ := B
  refine z_getI 1 rfl lX10_135 rfl o1 ?_
  refine z_iconst (v := -1) 2 rfl (by decide) ?_
  refine z_icmp_ne 3 15 rfl (by decide) ⟨fun c2 => ?_, fun c2 => ?_⟩
  · have B := B.1 c2
    refine z_aload_n 7 rfl rfl ?_
    refine z_getI 8 rfl lX10_135 rfl o1 ?_
    exact z_iret 9 rfl rfl rfl ⟨rfl, rfl⟩ ⟨_, rfl, B⟩
  · have B := B.2 c2
    refine z_aload_n 4 rfl rfl ?_
    refine z_getI 5 rfl lX10_316 rfl o1 ?_
    refine z_goto 6 19 rfl (by decide) ?_
    exact z_iret 9 rfl rfl rfl ⟨rfl, rfl⟩ ⟨_, rfl, B⟩
theorem cn_X10_knownMany {G : zG} {d : Nat} {h : zMem} {Q : Int32 → zMem → Prop} {a0 : Nat} (B : zg G mX10_knownMany d 0 [.ref a0] [] h (zPI Q)) : zConI G mX10_knownMany d [.ref a0] h Q := zcon0 (by decide +kernel) eX10_knownMany (Nat.le_of_ble_eq_true rfl) rfl B
set_option maxRecDepth 100000 in
set_option maxHeartbeats 4000000 in
theorem sg_X10_isSo_0 {G : zG} {d : Nat} {h : zMem} {Q : Int32 → zMem → Prop} {a0 : Nat} {x1 : Int32} (B : zg G mX10_isSo (d + 1) 2 [.ref a0, .int x1, .int (0 : Int32)] [] h (zPI Q)) : zg G mX10_isSo (d + 1) 0 [.ref a0, .int x1, zU] [] h (zPI Q) := by
  refine z_iconst (v := 0) 0 rfl (by decide) ?_
  refine z_istore_n 1 rfl (by decide) rfl ?_
  exact B
theorem cn_X10_isSo {G : zG} {d : Nat} {h : zMem} {Q : Int32 → zMem → Prop} {a0 : Nat} {x1 : Int32} (B : zg G mX10_isSo (d + 1) 0 [.ref a0, .int x1, zU] [] h (zPI Q)) : zConI G mX10_isSo (d + 1) [.ref a0, .int x1] h Q := zcon0 (by decide +kernel) eX10_isSo (Nat.le_of_ble_eq_true rfl) rfl B
set_option maxRecDepth 100000 in
set_option maxHeartbeats 4000000 in
theorem sg_X10_isSo_2 {G : zG} {d : Nat} {h : zMem} {Q : Int32 → zMem → Prop} {a0 : Nat} {x1 : Int32} {x2 : Int32} (B : zO h a0 9 ∧ ∃ Q1 : Int32 → zMem → Prop, zConI G mX10_knownMany d [.ref a0] h Q1 ∧ (∀ v4 h2, Q1 v4 h2 → (v4 ≤ x2 → Q (1 : Int32) h2) ∧ (¬ v4 ≤ x2 → zO h2 a0 9 ∧ ∃ r7, zR h2 a0 67 = some r7 ∧ zO h2 r7 103 ∧ vp_in x2 (zLen h2 r7) ∧ (¬ (zI h2 r7 x2.toNatClampNeg) = 0 → zg G mX10_isSo (d + 1) 2 [.ref a0, .int x1, .int (x2 + 1)] [] h2 (zPI Q)) ∧ ((zI h2 r7 x2.toNatClampNeg) = 0 → ∃ r11, zR h2 a0 66 = some r11 ∧ zO h2 r11 100 ∧ vp_in x2 (zLen h2 r11) ∧ (¬ (zI h2 r11 x2.toNatClampNeg) = (-1 : Int32) → zg G mX10_isSo (d + 1) 2 [.ref a0, .int x1, .int (x2 + 1)] [] h2 (zPI Q)) ∧ ((zI h2 r11 x2.toNatClampNeg) = (-1 : Int32) → ∃ r15, zR h2 a0 62 = some r15 ∧ zO h2 r15 100 ∧ vp_in x2 (zLen h2 r15) ∧ ((zI h2 r15 x2.toNatClampNeg) = x1 → ∃ r19, zR h2 a0 45 = some r19 ∧ ∃ r20, zR h2 a0 63 = some r20 ∧ zO h2 r20 100 ∧ vp_in x2 (zLen h2 r20) ∧ zO h2 r19 100 ∧ vp_in ((5 : Int32) + (zI h2 r20 x2.toNatClampNeg)) (zLen h2 r19) ∧ ∃ r25, zR h2 a0 64 = some r25 ∧ zO h2 r25 100 ∧ vp_in x2 (zLen h2 r25) ∧ (¬ (zI h2 r19 ((5 : Int32) + (zI h2 r20 x2.toNatClampNeg)).toNatClampNeg) = (zI h2 r25 x2.toNatClampNeg) → ∃ r29, zR h2 a0 65 = some r29 ∧ zO h2 r29 103 ∧ vp_in x2 (zLen h2 r29) ∧ ((0 : Int32) = (zI h2 r29 x2.toNatClampNeg) → zg G mX10_isSo (d + 1) 2 [.ref a0, .int x1, .int (x2 + 1)] [] h2 (zPI Q)) ∧ (¬ (0 : Int32) = (zI h2 r29 x2.toNatClampNeg) → Q (0 : Int32) h2)) ∧ ((zI h2 r19 ((5 : Int32) + (zI h2 r20 x2.toNatClampNeg)).toNatClampNeg) = (zI h2 r25 x2.toNatClampNeg) → ∃ r33, zR h2 a0 65 = some r33 ∧ zO h2 r33 103 ∧ vp_in x2 (zLen h2 r33) ∧ ((1 : Int32) = (zI h2 r33 x2.toNatClampNeg) → zg G mX10_isSo (d + 1) 2 [.ref a0, .int x1, .int (x2 + 1)] [] h2 (zPI Q)) ∧ (¬ (1 : Int32) = (zI h2 r33 x2.toNatClampNeg) → Q (0 : Int32) h2))) ∧ (¬ (zI h2 r15 x2.toNatClampNeg) = x1 → zg G mX10_isSo (d + 1) 2 [.ref a0, .int x1, .int (x2 + 1)] [] h2 (zPI Q))))))) : zg G mX10_isSo (d + 1) 2 [.ref a0, .int x1, .int x2] [] h (zPI Q) := by
  refine z_iload_n 2 rfl rfl ?_
  refine z_aload_n 3 rfl rfl ?_
  obtain ⟨o37, B⟩ := B
  obtain ⟨Q1, K3, B⟩ := B
  refine z_cVI0 (ν := mX10_knownMany) 4 rfl rfl fX10_knownMany gX10_464 ⟨_, rfl, rfl⟩ (by decide) o37 (Nat.le_of_ble_eq_true rfl) K3 (fun v4 h2 q => ?_)
  have B := B v4 h2 q
  refine z_icmp_ge 5 86 rfl (by decide) ⟨fun c5 => ?_, fun c5 => ?_⟩
  · have B := B.1 c5
    refine z_iconst (v := 1) 50 rfl (by decide) ?_
    exact z_iret 51 rfl rfl rfl ⟨rfl, rfl⟩ ⟨_, rfl, B⟩
  · have B := B.2 c5
    refine z_aload_n 6 rfl rfl ?_
    obtain ⟨o6, B⟩ := B
    obtain ⟨r7, hr7, B⟩ := B
    refine z_getR 7 rfl lX10_154 rfl o6 hr7 ?_
    refine z_iload_n 8 rfl rfl ?_
    obtain ⟨o8, B⟩ := B
    obtain ⟨o9, B⟩ := B
    refine z_zald 9 rfl o8 o9 ?_
    refine z_if_ne 10 80 rfl (by decide) ⟨fun c10 => ?_, fun c10 => ?_⟩
    · have B := B.1 c10
      refine z_iinc (v := 1) 48 rfl rfl (by decide) (by decide) rfl ?_
      refine z_goto 49 2 rfl (by decide) ?_
      exact B
    · have B := B.2 c10
      refine z_aload_n 11 rfl rfl ?_
      obtain ⟨r11, hr11, B⟩ := B
      refine z_getR 12 rfl lX10_151 rfl o6 hr11 ?_
      refine z_iload_n 13 rfl rfl ?_
      obtain ⟨o12, B⟩ := B
      obtain ⟨o13, B⟩ := B
      refine z_iald 14 rfl o12 o13 ?_
      refine z_iconst (v := -1) 15 rfl (by decide) ?_
      refine z_icmp_ne 16 80 rfl (by decide) ⟨fun c14 => ?_, fun c14 => ?_⟩
      · have B := B.1 c14
        refine z_iinc (v := 1) 48 rfl rfl (by decide) (by decide) rfl ?_
        refine z_goto 49 2 rfl (by decide) ?_
        exact B
      · have B := B.2 c14
        refine z_aload_n 17 rfl rfl ?_
        obtain ⟨r15, hr15, B⟩ := B
        refine z_getR 18 rfl lX10_138 rfl o6 hr15 ?_
        refine z_iload_n 19 rfl rfl ?_
        obtain ⟨o16, B⟩ := B
        obtain ⟨o17, B⟩ := B
        refine z_iald 20 rfl o16 o17 ?_
        refine z_iload_n 21 rfl rfl ?_
        refine z_icmp_eq 22 42 rfl (by decide) ⟨fun c18 => ?_, fun c18 => ?_⟩
        · have B := B.1 c18
          refine z_aload_n 24 rfl rfl ?_
          obtain ⟨r19, hr19, B⟩ := B
          refine z_getR 25 rfl lX10_102 rfl o6 hr19 ?_
          refine z_iconst (v := 5) 26 rfl (by decide) ?_
          refine z_aload_n 27 rfl rfl ?_
          obtain ⟨r20, hr20, B⟩ := B
          refine z_getR 28 rfl lX10_141 rfl o6 hr20 ?_
          refine z_iload_n 29 rfl rfl ?_
          obtain ⟨o21, B⟩ := B
          obtain ⟨o22, B⟩ := B
          refine z_iald 30 rfl o21 o22 ?_
          refine z_iadd 31 rfl ?_
          obtain ⟨o23, B⟩ := B
          obtain ⟨o24, B⟩ := B
          refine z_iald 32 rfl o23 o24 ?_
          refine z_aload_n 33 rfl rfl ?_
          obtain ⟨r25, hr25, B⟩ := B
          refine z_getR 34 rfl lX10_144 rfl o6 hr25 ?_
          refine z_iload_n 35 rfl rfl ?_
          obtain ⟨o26, B⟩ := B
          obtain ⟨o27, B⟩ := B
          refine z_iald 36 rfl o26 o27 ?_
          refine z_icmp_ne 37 68 rfl (by decide) ⟨fun c28 => ?_, fun c28 => ?_⟩
          · have B := B.1 c28
            refine z_iconst (v := 0) 40 rfl (by decide) ?_
            refine z_aload_n 41 rfl rfl ?_
            obtain ⟨r29, hr29, B⟩ := B
            refine z_getR 42 rfl lX10_147 rfl o6 hr29 ?_
            refine z_iload_n 43 rfl rfl ?_
            obtain ⟨o30, B⟩ := B
            obtain ⟨o31, B⟩ := B
            refine z_zald 44 rfl o30 o31 ?_
            refine z_icmp_eq 45 80 rfl (by decide) ⟨fun c32 => ?_, fun c32 => ?_⟩
            · have B := B.1 c32
              refine z_iinc (v := 1) 48 rfl rfl (by decide) (by decide) rfl ?_
              refine z_goto 49 2 rfl (by decide) ?_
              exact B
            · have B := B.2 c32
              refine z_iconst (v := 0) 46 rfl (by decide) ?_
              exact z_iret 47 rfl rfl rfl ⟨rfl, rfl⟩ ⟨_, rfl, B⟩
          · have B := B.2 c28
            refine z_iconst (v := 1) 38 rfl (by decide) ?_
            refine z_goto 39 69 rfl (by decide) ?_
            refine z_aload_n 41 rfl rfl ?_
            obtain ⟨r33, hr33, B⟩ := B
            refine z_getR 42 rfl lX10_147 rfl o6 hr33 ?_
            refine z_iload_n 43 rfl rfl ?_
            obtain ⟨o34, B⟩ := B
            obtain ⟨o35, B⟩ := B
            refine z_zald 44 rfl o34 o35 ?_
            refine z_icmp_eq 45 80 rfl (by decide) ⟨fun c36 => ?_, fun c36 => ?_⟩
            · have B := B.1 c36
              refine z_iinc (v := 1) 48 rfl rfl (by decide) (by decide) rfl ?_
              refine z_goto 49 2 rfl (by decide) ?_
              exact B
            · have B := B.2 c36
              refine z_iconst (v := 0) 46 rfl (by decide) ?_
              exact z_iret 47 rfl rfl rfl ⟨rfl, rfl⟩ ⟨_, rfl, B⟩
        · have B := B.2 c18
          refine z_goto 23 80 rfl (by decide) ?_
          refine z_iinc (v := 1) 48 rfl rfl (by decide) (by decide) rfl ?_
          refine z_goto 49 2 rfl (by decide) ?_
          exact B
set_option maxRecDepth 100000 in
set_option maxHeartbeats 4000000 in
theorem sg_X10_fitsCold_0 {G : zG} {d : Nat} {h : zMem} {Q : Int32 → zMem → Prop} {a0 : Nat} {x1 : Int32} {x2 : Int32} {x3 : Int32} (B : zO h a0 9 ∧ ∃ Q1 : zMem → Prop, zConV G mX10_starts d [.ref a0, .int (1 : Int32)] h Q1 ∧ (∀ h2, Q1 h2 → zO h2 a0 9 ∧ ∃ r5, zR h2 a0 43 = some r5 ∧ zO h2 r5 100 ∧ vp_in ((5 : Int32) + x1) (zLen h2 r5) ∧ zg G mX10_fitsCold (d + 1) 17 [.ref a0, .int x1, .int x2, .int x3, .int (1 : Int32)] [] (zsI h2 r5 ((5 : Int32) + x1).toNatClampNeg x2) (zPI Q))) : zg G mX10_fitsCold (d + 1) 0 [.ref a0, .int x1, .int x2, .int x3, zU] [] h (zPI Q) := by
  refine z_aload_n 0 rfl rfl ?_
  refine z_iconst (v := 1) 1 rfl (by decide) ?_
  obtain ⟨o8, B⟩ := B
  obtain ⟨Q1, K3, B⟩ := B
  refine z_cVV1 (ν := mX10_starts) 2 rfl rfl fX10_starts gX10_346 ⟨_, rfl, rfl⟩ (by decide) o8 (Nat.le_of_ble_eq_true rfl) K3 (fun h2 q => ?_)
  have B := B h2 q
  refine z_aload_n 3 rfl rfl ?_
  obtain ⟨o4, B⟩ := B
  obtain ⟨r5, hr5, B⟩ := B
  refine z_getR 4 rfl lX10_96 rfl o4 hr5 ?_
  refine z_iconst (v := 5) 5 rfl (by decide) ?_
  refine z_iload_n 6 rfl rfl ?_
  refine z_iadd 7 rfl ?_
  refine z_iload_n 8 rfl rfl ?_
  obtain ⟨o6, B⟩ := B
  obtain ⟨o7, B⟩ := B
  refine z_iast 9 rfl o6 o7 ?_
  refine z_iconst (v := 1) 10 rfl (by decide) ?_
  refine z_istore 11 rfl (by decide) rfl ?_
  exact B
theorem cn_X10_fitsCold {G : zG} {d : Nat} {h : zMem} {Q : Int32 → zMem → Prop} {a0 : Nat} {x1 : Int32} {x2 : Int32} {x3 : Int32} (B : zg G mX10_fitsCold (d + 1) 0 [.ref a0, .int x1, .int x2, .int x3, zU] [] h (zPI Q)) : zConI G mX10_fitsCold (d + 1) [.ref a0, .int x1, .int x2, .int x3] h Q := zcon0 (by decide +kernel) eX10_fitsCold (Nat.le_of_ble_eq_true rfl) rfl B
set_option maxRecDepth 100000 in
set_option maxHeartbeats 4000000 in
theorem sg_X10_fitsCold_17 {G : zG} {d : Nat} {h : zMem} {Q : Int32 → zMem → Prop} {a0 : Nat} {x1 : Int32} {x2 : Int32} {x3 : Int32} {x4 : Int32} (B : (x3 < x4 → Q (1 : Int32) h) ∧ (¬ x3 < x4 → zO h a0 9 ∧ ∃ Q2 : zMem → Prop, zConV G mX10_passes d [.ref a0, .int (1 : Int32)] h Q2 ∧ (∀ h3, Q2 h3 → zO h3 a0 9 ∧ ∃ Q5 : Int32 → zMem → Prop, zConI G mX10_isSo d [.ref a0, .int x4] h3 Q5 ∧ (∀ v8 h6, Q5 v8 h6 → (¬ v8 = 0 → zg G mX10_fitsCold (d + 1) 17 [.ref a0, .int x1, .int x2, .int x3, .int (x4 + 1)] [] h6 (zPI Q)) ∧ (v8 = 0 → Q (0 : Int32) h6))))) : zg G mX10_fitsCold (d + 1) 17 [.ref a0, .int x1, .int x2, .int x3, .int x4] [] h (zPI Q) := by
  refine z_iload 12 rfl rfl ?_
  refine z_iload_n 13 rfl rfl ?_
  refine z_icmp_gt 14 45 rfl (by decide) ⟨fun c1 => ?_, fun c1 => ?_⟩
  · have B := B.1 c1
    refine z_iconst (v := 1) 26 rfl (by decide) ?_
    exact z_iret 27 rfl rfl rfl ⟨rfl, rfl⟩ ⟨_, rfl, B⟩
  · have B := B.2 c1
    refine z_aload_n 15 rfl rfl ?_
    refine z_iconst (v := 1) 16 rfl (by decide) ?_
    obtain ⟨o11, B⟩ := B
    obtain ⟨Q2, K4, B⟩ := B
    refine z_cVV1 (ν := mX10_passes) 17 rfl rfl fX10_passes gX10_440 ⟨_, rfl, rfl⟩ (by decide) o11 (Nat.le_of_ble_eq_true rfl) K4 (fun h3 q => ?_)
    have B := B h3 q
    refine z_aload_n 18 rfl rfl ?_
    refine z_iload 19 rfl rfl ?_
    obtain ⟨o10, B⟩ := B
    obtain ⟨Q5, K7, B⟩ := B
    refine z_cVI1 (ν := mX10_isSo) 20 rfl rfl fX10_isSo gX10_467 ⟨_, rfl, rfl⟩ (by decide) o10 (Nat.le_of_ble_eq_true rfl) K7 (fun v8 h6 q => ?_)
    have B := B v8 h6 q
    refine z_if_ne 21 39 rfl (by decide) ⟨fun c9 => ?_, fun c9 => ?_⟩
    · have B := B.1 c9
      refine z_iinc (v := 1) 24 rfl rfl (by decide) (by decide) rfl ?_
      refine z_goto 25 17 rfl (by decide) ?_
      exact B
    · have B := B.2 c9
      refine z_iconst (v := 0) 22 rfl (by decide) ?_
      exact z_iret 23 rfl rfl rfl ⟨rfl, rfl⟩ ⟨_, rfl, B⟩
set_option maxRecDepth 100000 in
set_option maxHeartbeats 4000000 in
theorem sg_X10_colds_0 {G : zG} {d : Nat} {h : zMem} {Q : Int32 → zMem → Prop} {a0 : Nat} {x1 : Int32} (B : zO h a0 9 ∧ ∃ Q2 : Int32 → zMem → Prop, zConI G mX10_isMonk d [.ref a0, .int x1] (zsI h a0 0 (0 : Int32)) Q2 ∧ (∀ v5 h3, Q2 v5 h3 → (¬ v5 = 0 → zg G mX10_colds (d + 1) 19 [.ref a0, .int x1, .int (0 : Int32), .int (0 : Int32), zU] [] h3 (zPI Q)) ∧ (v5 = 0 → Q (-1 : Int32) h3))) : zg G mX10_colds (d + 1) 0 [.ref a0, .int x1, zU, zU, zU] [] h (zPI Q) := by
  refine z_aload_n 0 rfl rfl ?_
  refine z_iconst (v := 0) 1 rfl (by decide) ?_
  obtain ⟨o1, B⟩ := B
  refine z_putI 2 rfl lX10_160 ⟨_, _, _, rfl, rfl⟩ rfl rfl rfl o1 ?_
  refine z_aload_n 3 rfl rfl ?_
  refine z_iload_n 4 rfl rfl ?_
  obtain ⟨Q2, K4, B⟩ := B
  refine z_cVI1 (ν := mX10_isMonk) 5 rfl rfl fX10_isMonk gX10_415 ⟨_, rfl, rfl⟩ (by decide) o1 (Nat.le_of_ble_eq_true rfl) K4 (fun v5 h3 q => ?_)
  have B := B v5 h3 q
  refine z_if_ne 6 15 rfl (by decide) ⟨fun c6 => ?_, fun c6 => ?_⟩
  · have B := B.1 c6
    refine z_iconst (v := 0) 9 rfl (by decide) ?_
    refine z_istore_n 10 rfl (by decide) rfl ?_
    refine z_iconst (v := 0) 11 rfl (by decide) ?_
    refine z_istore_n 12 rfl (by decide) rfl ?_
    exact B
  · have B := B.2 c6
    refine z_iconst (v := -1) 7 rfl (by decide) ?_
    exact z_iret 8 rfl rfl rfl ⟨rfl, rfl⟩ ⟨_, rfl, B⟩
theorem cn_X10_colds {G : zG} {d : Nat} {h : zMem} {Q : Int32 → zMem → Prop} {a0 : Nat} {x1 : Int32} (B : zg G mX10_colds (d + 1) 0 [.ref a0, .int x1, zU, zU, zU] [] h (zPI Q)) : zConI G mX10_colds (d + 1) [.ref a0, .int x1] h Q := zcon0 (by decide +kernel) eX10_colds (Nat.le_of_ble_eq_true rfl) rfl B
set_option maxRecDepth 100000 in
set_option maxHeartbeats 4000000 in
theorem sg_X10_colds_19 {G : zG} {d : Nat} {h : zMem} {Q : Int32 → zMem → Prop} {a0 : Nat} {x1 : Int32} {x2 : Int32} {x3 : Int32} (B : zO h a0 9 ∧ ∃ Q1 : Int32 → zMem → Prop, zConI G mX10_knownMany d [.ref a0] h Q1 ∧ (∀ v4 h2, Q1 v4 h2 → (v4 ≤ x3 → zO h2 a0 9 ∧ ∃ Q6 : Int32 → zMem → Prop, zConI G mX10_knownMany d [.ref a0] h2 Q6 ∧ (∀ v9 h7, Q6 v9 h7 → zg G mX10_colds (d + 1) 47 [.ref a0, .int x1, .int x2, .int (v9 - (1 : Int32)), zU] [] h7 (zPI Q))) ∧ (¬ v4 ≤ x3 → zO h2 a0 9 ∧ ∃ r12, zR h2 a0 67 = some r12 ∧ zO h2 r12 103 ∧ vp_in x3 (zLen h2 r12) ∧ zg G mX10_colds (d + 1) 19 [.ref a0, .int x1, .int x2, .int (x3 + 1), zU] [] (zsI h2 r12 x3.toNatClampNeg (vp_nar .boolean (0 : Int32))) (zPI Q)))) : zg G mX10_colds (d + 1) 19 [.ref a0, .int x1, .int x2, .int x3, zU] [] h (zPI Q) := by
  refine z_iload_n 13 rfl rfl ?_
  refine z_aload_n 14 rfl rfl ?_
  obtain ⟨o15, B⟩ := B
  obtain ⟨Q1, K3, B⟩ := B
  refine z_cVI0 (ν := mX10_knownMany) 15 rfl rfl fX10_knownMany gX10_464 ⟨_, rfl, rfl⟩ (by decide) o15 (Nat.le_of_ble_eq_true rfl) K3 (fun v4 h2 q => ?_)
  have B := B v4 h2 q
  refine z_icmp_ge 16 40 rfl (by decide) ⟨fun c5 => ?_, fun c5 => ?_⟩
  · have B := B.1 c5
    refine z_aload_n 24 rfl rfl ?_
    obtain ⟨o10, B⟩ := B
    obtain ⟨Q6, K8, B⟩ := B
    refine z_cVI0 (ν := mX10_knownMany) 25 rfl rfl fX10_knownMany gX10_464 ⟨_, rfl, rfl⟩ (by decide) o10 (Nat.le_of_ble_eq_true rfl) K8 (fun v9 h7 q => ?_)
    have B := B v9 h7 q
    refine z_iconst (v := 1) 26 rfl (by decide) ?_
    refine z_isub 27 rfl ?_
    refine z_istore_n 28 rfl (by decide) rfl ?_
    exact B
  · have B := B.2 c5
    refine z_aload_n 17 rfl rfl ?_
    obtain ⟨o11, B⟩ := B
    obtain ⟨r12, hr12, B⟩ := B
    refine z_getR 18 rfl lX10_154 rfl o11 hr12 ?_
    refine z_iload_n 19 rfl rfl ?_
    refine z_iconst (v := 0) 20 rfl (by decide) ?_
    obtain ⟨o13, B⟩ := B
    obtain ⟨o14, B⟩ := B
    refine z_zast 21 rfl o13 o14 ?_
    refine z_iinc (v := 1) 22 rfl rfl (by decide) (by decide) rfl ?_
    refine z_goto 23 19 rfl (by decide) ?_
    exact B
set_option maxRecDepth 100000 in
set_option maxHeartbeats 4000000 in
theorem sg_X10_colds_47 {G : zG} {d : Nat} {h : zMem} {Q : Int32 → zMem → Prop} {a0 : Nat} {x1 : Int32} {x2 : Int32} {x3 : Int32} (B : (x3 < 0 → zg G mX10_colds (d + 1) 90 [.ref a0, .int x1, .int x2, .int (0 : Int32), zU] [] h (zPI Q)) ∧ (¬ x3 < 0 → zO h a0 9 ∧ ∃ r3, zR h a0 67 = some r3 ∧ zO h r3 103 ∧ vp_in x3 (zLen h r3) ∧ (¬ (zI h r3 x3.toNatClampNeg) = 0 → zg G mX10_colds (d + 1) 47 [.ref a0, .int x1, .int x2, .int (x3 + (-1)), zU] [] h (zPI Q)) ∧ ((zI h r3 x3.toNatClampNeg) = 0 → ∃ r7, zR h a0 66 = some r7 ∧ zO h r7 100 ∧ vp_in x3 (zLen h r7) ∧ ((zI h r7 x3.toNatClampNeg) = (-1 : Int32) → zg G mX10_colds (d + 1) 47 [.ref a0, .int x1, .int x2, .int (x3 + (-1)), zU] [] h (zPI Q)) ∧ (¬ (zI h r7 x3.toNatClampNeg) = (-1 : Int32) → vp_in (zI h r7 x3.toNatClampNeg) (zLen h r3) ∧ zg G mX10_colds (d + 1) 47 [.ref a0, .int x1, .int x2, .int (x3 + (-1)), zU] [] (zsI h r3 (zI h r7 x3.toNatClampNeg).toNatClampNeg (vp_nar .boolean (1 : Int32))) (zPI Q))))) : zg G mX10_colds (d + 1) 47 [.ref a0, .int x1, .int x2, .int x3, zU] [] h (zPI Q) := by
  refine z_iload_n 29 rfl rfl ?_
  refine z_if_lt 30 88 rfl (by decide) ⟨fun c1 => ?_, fun c1 => ?_⟩
  · have B := B.1 c1
    refine z_iconst (v := 0) 52 rfl (by decide) ?_
    refine z_istore_n 53 rfl (by decide) rfl ?_
    exact B
  · have B := B.2 c1
    refine z_aload_n 31 rfl rfl ?_
    obtain ⟨o2, B⟩ := B
    obtain ⟨r3, hr3, B⟩ := B
    refine z_getR 32 rfl lX10_154 rfl o2 hr3 ?_
    refine z_iload_n 33 rfl rfl ?_
    obtain ⟨o4, B⟩ := B
    obtain ⟨o5, B⟩ := B
    refine z_zald 34 rfl o4 o5 ?_
    refine z_if_ne 35 82 rfl (by decide) ⟨fun c6 => ?_, fun c6 => ?_⟩
    · have B := B.1 c6
      refine z_iinc (v := -1) 50 rfl rfl (by decide) (by decide) rfl ?_
      refine z_goto 51 47 rfl (by decide) ?_
      exact B
    · have B := B.2 c6
      refine z_aload_n 36 rfl rfl ?_
      obtain ⟨r7, hr7, B⟩ := B
      refine z_getR 37 rfl lX10_151 rfl o2 hr7 ?_
      refine z_iload_n 38 rfl rfl ?_
      obtain ⟨o8, B⟩ := B
      obtain ⟨o9, B⟩ := B
      refine z_iald 39 rfl o8 o9 ?_
      refine z_iconst (v := -1) 40 rfl (by decide) ?_
      refine z_icmp_eq 41 82 rfl (by decide) ⟨fun c10 => ?_, fun c10 => ?_⟩
      · have B := B.1 c10
        refine z_iinc (v := -1) 50 rfl rfl (by decide) (by decide) rfl ?_
        refine z_goto 51 47 rfl (by decide) ?_
        exact B
      · have B := B.2 c10
        refine z_aload_n 42 rfl rfl ?_
        refine z_getR 43 rfl lX10_154 rfl o2 hr3 ?_
        refine z_aload_n 44 rfl rfl ?_
        refine z_getR 45 rfl lX10_151 rfl o2 hr7 ?_
        refine z_iload_n 46 rfl rfl ?_
        refine z_iald 47 rfl o8 o9 ?_
        refine z_iconst (v := 1) 48 rfl (by decide) ?_
        obtain ⟨o11, B⟩ := B
        refine z_zast 49 rfl o4 o11 ?_
        refine z_iinc (v := -1) 50 rfl rfl (by decide) (by decide) rfl ?_
        refine z_goto 51 47 rfl (by decide) ?_
        exact B
set_option maxRecDepth 100000 in
set_option maxHeartbeats 4000000 in
theorem sg_X10_colds_90 {G : zG} {d : Nat} {h : zMem} {Q : Int32 → zMem → Prop} {a0 : Nat} {x1 : Int32} {x2 : Int32} {x3 : Int32} (B : zO h a0 9 ∧ ∃ Q1 : Int32 → zMem → Prop, zConI G mX10_knownMany d [.ref a0] h Q1 ∧ (∀ v4 h2, Q1 v4 h2 → (v4 ≤ x3 → zg G mX10_colds (d + 1) 139 [.ref a0, .int x1, .int x2, .int (0 : Int32), .int (0 : Int32)] [] h2 (zPI Q)) ∧ (¬ v4 ≤ x3 → zO h2 a0 9 ∧ ∃ r7, zR h2 a0 67 = some r7 ∧ zO h2 r7 103 ∧ vp_in x3 (zLen h2 r7) ∧ (¬ (zI h2 r7 x3.toNatClampNeg) = 0 → zg G mX10_colds (d + 1) 90 [.ref a0, .int x1, .int x2, .int (x3 + 1), zU] [] h2 (zPI Q)) ∧ ((zI h2 r7 x3.toNatClampNeg) = 0 → ∃ r11, zR h2 a0 66 = some r11 ∧ zO h2 r11 100 ∧ vp_in x3 (zLen h2 r11) ∧ (¬ (zI h2 r11 x3.toNatClampNeg) = (-1 : Int32) → zg G mX10_colds (d + 1) 90 [.ref a0, .int x1, .int x2, .int (x3 + 1), zU] [] h2 (zPI Q)) ∧ ((zI h2 r11 x3.toNatClampNeg) = (-1 : Int32) → ∃ r15, zR h2 a0 62 = some r15 ∧ zO h2 r15 100 ∧ vp_in x3 (zLen h2 r15) ∧ zg G mX10_colds (d + 1) 90 [.ref a0, .int x1, .int (if x2 < (zI h2 r15 x3.toNatClampNeg) then (zI h2 r15 x3.toNatClampNeg) else x2), .int (x3 + 1), zU] [] h2 (zPI Q)))))) : zg G mX10_colds (d + 1) 90 [.ref a0, .int x1, .int x2, .int x3, zU] [] h (zPI Q) := by
  refine z_iload_n 54 rfl rfl ?_
  refine z_aload_n 55 rfl rfl ?_
  obtain ⟨o18, B⟩ := B
  obtain ⟨Q1, K3, B⟩ := B
  refine z_cVI0 (ν := mX10_knownMany) 56 rfl rfl fX10_knownMany gX10_464 ⟨_, rfl, rfl⟩ (by decide) o18 (Nat.le_of_ble_eq_true rfl) K3 (fun v4 h2 q => ?_)
  have B := B v4 h2 q
  refine z_icmp_ge 57 134 rfl (by decide) ⟨fun c5 => ?_, fun c5 => ?_⟩
  · have B := B.1 c5
    refine z_iconst (v := 0) 78 rfl (by decide) ?_
    refine z_istore_n 79 rfl (by decide) rfl ?_
    refine z_iconst (v := 0) 80 rfl (by decide) ?_
    refine z_istore 81 rfl (by decide) rfl ?_
    exact B
  · have B := B.2 c5
    refine z_aload_n 58 rfl rfl ?_
    obtain ⟨o6, B⟩ := B
    obtain ⟨r7, hr7, B⟩ := B
    refine z_getR 59 rfl lX10_154 rfl o6 hr7 ?_
    refine z_iload_n 60 rfl rfl ?_
    obtain ⟨o8, B⟩ := B
    obtain ⟨o9, B⟩ := B
    refine z_zald 61 rfl o8 o9 ?_
    refine z_if_ne 62 128 rfl (by decide) ⟨fun c10 => ?_, fun c10 => ?_⟩
    · have B := B.1 c10
      refine z_iinc (v := 1) 76 rfl rfl (by decide) (by decide) rfl ?_
      refine z_goto 77 90 rfl (by decide) ?_
      exact B
    · have B := B.2 c10
      refine z_aload_n 63 rfl rfl ?_
      obtain ⟨r11, hr11, B⟩ := B
      refine z_getR 64 rfl lX10_151 rfl o6 hr11 ?_
      refine z_iload_n 65 rfl rfl ?_
      obtain ⟨o12, B⟩ := B
      obtain ⟨o13, B⟩ := B
      refine z_iald 66 rfl o12 o13 ?_
      refine z_iconst (v := -1) 67 rfl (by decide) ?_
      refine z_icmp_ne 68 128 rfl (by decide) ⟨fun c14 => ?_, fun c14 => ?_⟩
      · have B := B.1 c14
        refine z_iinc (v := 1) 76 rfl rfl (by decide) (by decide) rfl ?_
        refine z_goto 77 90 rfl (by decide) ?_
        exact B
      · have B := B.2 c14
        refine z_iload_n 69 rfl rfl ?_
        refine z_aload_n 70 rfl rfl ?_
        obtain ⟨r15, hr15, B⟩ := B
        refine z_getR 71 rfl lX10_138 rfl o6 hr15 ?_
        refine z_iload_n 72 rfl rfl ?_
        obtain ⟨o16, B⟩ := B
        obtain ⟨o17, B⟩ := B
        refine z_iald 73 rfl o16 o17 ?_
        refine z_mmax 74 rfl rfl gmX10_449 (Nat.le_of_ble_eq_true rfl) ?_
        refine z_istore_n 75 rfl (by decide) rfl ?_
        refine z_iinc (v := 1) 76 rfl rfl (by decide) (by decide) rfl ?_
        refine z_goto 77 90 rfl (by decide) ?_
        exact B
set_option maxRecDepth 100000 in
set_option maxHeartbeats 4000000 in
theorem sg_X10_colds_139 {G : zG} {d : Nat} {h : zMem} {Q : Int32 → zMem → Prop} {a0 : Nat} {x1 : Int32} {x2 : Int32} {x3 : Int32} {x4 : Int32} (B : zO h a0 9 ∧ ∃ r2, zR h a0 3 = some r2 ∧ zO h r2 100 ∧ vp_in (0 : Int32) (zLen h r2) ∧ ((zI h r2 (0 : Int32).toNatClampNeg) < x4 → Q x3 h) ∧ (¬ (zI h r2 (0 : Int32).toNatClampNeg) < x4 → ((zI h r2 (0 : Int32).toNatClampNeg) ≤ x4 → ∃ Q7 : Int32 → zMem → Prop, zConI G mX10_fitsCold d [.ref a0, .int x1, .int (0 : Int32), .int x2] h Q7 ∧ (∀ v10 h8, Q7 v10 h8 → (v10 = 0 → zg G mX10_colds (d + 1) 139 [.ref a0, .int x1, .int x2, .int (x3 ||| (0 : Int32)), .int (x4 + 1)] [] h8 (zPI Q)) ∧ (¬ v10 = 0 → zg G mX10_colds (d + 1) 139 [.ref a0, .int x1, .int x2, .int (x3 ||| ((1 : Int32) <<< (x4 &&& 31))), .int (x4 + 1)] [] h8 (zPI Q)))) ∧ (¬ (zI h r2 (0 : Int32).toNatClampNeg) ≤ x4 → ∃ Q12 : Int32 → zMem → Prop, zConI G mX10_fitsCold d [.ref a0, .int x1, .int ((1 : Int32) <<< (x4 &&& 31)), .int x2] h Q12 ∧ (∀ v15 h13, Q12 v15 h13 → (v15 = 0 → zg G mX10_colds (d + 1) 139 [.ref a0, .int x1, .int x2, .int (x3 ||| (0 : Int32)), .int (x4 + 1)] [] h13 (zPI Q)) ∧ (¬ v15 = 0 → zg G mX10_colds (d + 1) 139 [.ref a0, .int x1, .int x2, .int (x3 ||| ((1 : Int32) <<< (x4 &&& 31))), .int (x4 + 1)] [] h13 (zPI Q)))))) : zg G mX10_colds (d + 1) 139 [.ref a0, .int x1, .int x2, .int x3, .int x4] [] h (zPI Q) := by
  refine z_iload 82 rfl rfl ?_
  refine z_aload_n 83 rfl rfl ?_
  obtain ⟨o1, B⟩ := B
  obtain ⟨r2, hr2, B⟩ := B
  refine z_getR 84 rfl lX10_13 rfl o1 hr2 ?_
  refine z_iconst (v := 0) 85 rfl (by decide) ?_
  obtain ⟨o3, B⟩ := B
  obtain ⟨o4, B⟩ := B
  refine z_iald 86 rfl o3 o4 ?_
  refine z_icmp_gt 87 195 rfl (by decide) ⟨fun c5 => ?_, fun c5 => ?_⟩
  · have B := B.1 c5
    refine z_iload_n 114 rfl rfl ?_
    exact z_iret 115 rfl rfl rfl ⟨rfl, rfl⟩ ⟨_, rfl, B⟩
  · have B := B.2 c5
    refine z_iload_n 88 rfl rfl ?_
    refine z_aload_n 89 rfl rfl ?_
    refine z_iload_n 90 rfl rfl ?_
    refine z_iload 91 rfl rfl ?_
    refine z_aload_n 92 rfl rfl ?_
    refine z_getR 93 rfl lX10_13 rfl o1 hr2 ?_
    refine z_iconst (v := 0) 94 rfl (by decide) ?_
    refine z_iald 95 rfl o3 o4 ?_
    refine z_icmp_ge 96 171 rfl (by decide) ⟨fun c6 => ?_, fun c6 => ?_⟩
    · have B := B.1 c6
      refine z_iconst (v := 0) 101 rfl (by decide) ?_
      refine z_iload_n 102 rfl rfl ?_
      obtain ⟨Q7, K9, B⟩ := B
      refine z_cVI3 (ν := mX10_fitsCold) 103 rfl rfl fX10_fitsCold gX10_470 ⟨_, rfl, rfl⟩ (by decide) o1 (Nat.le_of_ble_eq_true rfl) K9 (fun v10 h8 q => ?_)
      have B := B v10 h8 q
      refine z_if_eq 104 186 rfl (by decide) ⟨fun c11 => ?_, fun c11 => ?_⟩
      · have B := B.1 c11
        refine z_iconst (v := 0) 109 rfl (by decide) ?_
        refine z_ior 110 rfl ?_
        refine z_istore_n 111 rfl (by decide) rfl ?_
        refine z_iinc (v := 1) 112 rfl rfl (by decide) (by decide) rfl ?_
        refine z_goto 113 139 rfl (by decide) ?_
        exact B
      · have B := B.2 c11
        refine z_iconst (v := 1) 105 rfl (by decide) ?_
        refine z_iload 106 rfl rfl ?_
        refine z_ishl 107 rfl ?_
        refine z_goto 108 187 rfl (by decide) ?_
        refine z_ior 110 rfl ?_
        refine z_istore_n 111 rfl (by decide) rfl ?_
        refine z_iinc (v := 1) 112 rfl rfl (by decide) (by decide) rfl ?_
        refine z_goto 113 139 rfl (by decide) ?_
        exact B
    · have B := B.2 c6
      refine z_iconst (v := 1) 97 rfl (by decide) ?_
      refine z_iload 98 rfl rfl ?_
      refine z_ishl 99 rfl ?_
      refine z_goto 100 172 rfl (by decide) ?_
      refine z_iload_n 102 rfl rfl ?_
      obtain ⟨Q12, K14, B⟩ := B
      refine z_cVI3 (ν := mX10_fitsCold) 103 rfl rfl fX10_fitsCold gX10_470 ⟨_, rfl, rfl⟩ (by decide) o1 (Nat.le_of_ble_eq_true rfl) K14 (fun v15 h13 q => ?_)
      have B := B v15 h13 q
      refine z_if_eq 104 186 rfl (by decide) ⟨fun c16 => ?_, fun c16 => ?_⟩
      · have B := B.1 c16
        refine z_iconst (v := 0) 109 rfl (by decide) ?_
        refine z_ior 110 rfl ?_
        refine z_istore_n 111 rfl (by decide) rfl ?_
        refine z_iinc (v := 1) 112 rfl rfl (by decide) (by decide) rfl ?_
        refine z_goto 113 139 rfl (by decide) ?_
        exact B
      · have B := B.2 c16
        refine z_iconst (v := 1) 105 rfl (by decide) ?_
        refine z_iload 106 rfl rfl ?_
        refine z_ishl 107 rfl ?_
        refine z_goto 108 187 rfl (by decide) ?_
        refine z_ior 110 rfl ?_
        refine z_istore_n 111 rfl (by decide) rfl ?_
        refine z_iinc (v := 1) 112 rfl rfl (by decide) (by decide) rfl ?_
        refine z_goto 113 139 rfl (by decide) ?_
        exact B
set_option maxRecDepth 100000 in
set_option maxHeartbeats 4000000 in
theorem sg_X10_draw_0 {G : zG} {d : Nat} {h : zMem} {Q : Int32 → zMem → Prop} {a0 : Nat} {x1 : Int32} (B : zO h a0 9 ∧ ∃ r2, zR h a0 38 = some r2 ∧ zO h r2 100 ∧ vp_in (1 : Int32) (zLen h r2) ∧ ¬ x1 = 0 ∧ Q (((zI (zsI h r2 (1 : Int32).toNatClampNeg ((((zI h r2 (1 : Int32).toNatClampNeg) * (1103515245 : Int32)) + (12345 : Int32)) &&& (2147483647 : Int32))) r2 (1 : Int32).toNatClampNeg) >>> ((16 : Int32) &&& 31)) - ((zI (zsI h r2 (1 : Int32).toNatClampNeg ((((zI h r2 (1 : Int32).toNatClampNeg) * (1103515245 : Int32)) + (12345 : Int32)) &&& (2147483647 : Int32))) r2 (1 : Int32).toNatClampNeg) >>> ((16 : Int32) &&& 31)) / x1 * x1) (zsI h r2 (1 : Int32).toNatClampNeg ((((zI h r2 (1 : Int32).toNatClampNeg) * (1103515245 : Int32)) + (12345 : Int32)) &&& (2147483647 : Int32)))) : zg G mX10_draw d 0 [.ref a0, .int x1] [] h (zPI Q) := by
  refine z_aload_n 0 rfl rfl ?_
  obtain ⟨o1, B⟩ := B
  obtain ⟨r2, hr2, B⟩ := B
  refine z_getR 1 rfl lX10_81 rfl o1 hr2 ?_
  refine z_iconst (v := 1) 2 rfl (by decide) ?_
  refine z_aload_n 3 rfl rfl ?_
  refine z_getR 4 rfl lX10_81 rfl o1 hr2 ?_
  refine z_iconst (v := 1) 5 rfl (by decide) ?_
  obtain ⟨o3, B⟩ := B
  obtain ⟨o4, B⟩ := B
  refine z_iald 6 rfl o3 o4 ?_
  refine z_ldcw 7 rfl kX10_474 ?_
  refine z_imul 8 rfl ?_
  refine z_sipush (v := 12345) 9 rfl (by decide) ?_
  refine z_iadd 10 rfl ?_
  refine z_ldcw 11 rfl kX10_477 ?_
  refine z_iand 12 rfl ?_
  refine z_iast 13 rfl o3 o4 ?_
  refine z_aload_n 14 rfl rfl ?_
  refine z_getR 15 rfl lX10_81 rfl o1 hr2 ?_
  refine z_iconst (v := 1) 16 rfl (by decide) ?_
  refine z_iald 17 rfl o3 o4 ?_
  refine z_bipush (v := 16) 18 rfl (by decide) ?_
  refine z_ishr 19 rfl ?_
  refine z_iload_n 20 rfl rfl ?_
  obtain ⟨o5, B⟩ := B
  refine z_irem 21 rfl o5 ?_
  exact z_iret 22 rfl rfl rfl ⟨rfl, rfl⟩ ⟨_, rfl, B⟩
theorem cn_X10_draw {G : zG} {d : Nat} {h : zMem} {Q : Int32 → zMem → Prop} {a0 : Nat} {x1 : Int32} (B : zg G mX10_draw d 0 [.ref a0, .int x1] [] h (zPI Q)) : zConI G mX10_draw d [.ref a0, .int x1] h Q := zcon0 (by decide +kernel) eX10_draw (Nat.le_of_ble_eq_true rfl) rfl B
set_option maxRecDepth 100000 in
set_option maxHeartbeats 4000000 in
theorem sg_X10_chance_0 {G : zG} {d : Nat} {h : zMem} {Q : Int32 → zMem → Prop} {a0 : Nat} {x1 : Int32} {x2 : Int32} {x3 : Int32} (B : zO h a0 9 ∧ (x1 < 0 → Q (-1 : Int32) (zsI h a0 0 (0 : Int32))) ∧ (¬ x1 < 0 → (x2 < (1 : Int32) → Q (-1 : Int32) (zsI h a0 0 (0 : Int32))) ∧ (¬ x2 < (1 : Int32) → ((40 : Int32) < x2 → Q (-1 : Int32) (zsI h a0 0 (0 : Int32))) ∧ (¬ (40 : Int32) < x2 → (x3 < 0 → Q (-1 : Int32) (zsI h a0 0 (0 : Int32))) ∧ (¬ x3 < 0 → ((40 : Int32) < x3 → Q (-1 : Int32) (zsI h a0 0 (0 : Int32))) ∧ (¬ (40 : Int32) < x3 → ∃ r7, zR h a0 3 = some r7 ∧ zO h r7 100 ∧ vp_in (0 : Int32) (zLen h r7) ∧ (¬ (zI (zsI h a0 0 (0 : Int32)) r7 (0 : Int32).toNatClampNeg) = 0 → zg G mX10_chance (d + 1) 50 [.ref a0, .int x1, .int x2, .int x3, .int x1, .int (0 : Int32), .int (0 : Int32), zU] [] (zsI h a0 0 (0 : Int32)) (zPI Q)) ∧ ((zI (zsI h a0 0 (0 : Int32)) r7 (0 : Int32).toNatClampNeg) = 0 → Q (-1 : Int32) (zsI h a0 0 (0 : Int32))))))))) : zg G mX10_chance (d + 1) 0 [.ref a0, .int x1, .int x2, .int x3, zU, zU, zU, zU] [] h (zPI Q) := by
  refine z_aload_n 0 rfl rfl ?_
  refine z_iconst (v := 0) 1 rfl (by decide) ?_
  obtain ⟨o1, B⟩ := B
  refine z_putI 2 rfl lX10_160 ⟨_, _, _, rfl, rfl⟩ rfl rfl rfl o1 ?_
  refine z_iload_n 3 rfl rfl ?_
  refine z_if_lt 4 39 rfl (by decide) ⟨fun c2 => ?_, fun c2 => ?_⟩
  · have B := B.1 c2
    refine z_iconst (v := -1) 21 rfl (by decide) ?_
    exact z_iret 22 rfl rfl rfl ⟨rfl, rfl⟩ ⟨_, rfl, B⟩
  · have B := B.2 c2
    refine z_iload_n 5 rfl rfl ?_
    refine z_iconst (v := 1) 6 rfl (by decide) ?_
    refine z_icmp_lt 7 39 rfl (by decide) ⟨fun c3 => ?_, fun c3 => ?_⟩
    · have B := B.1 c3
      refine z_iconst (v := -1) 21 rfl (by decide) ?_
      exact z_iret 22 rfl rfl rfl ⟨rfl, rfl⟩ ⟨_, rfl, B⟩
    · have B := B.2 c3
      refine z_iload_n 8 rfl rfl ?_
      refine z_bipush (v := 40) 9 rfl (by decide) ?_
      refine z_icmp_gt 10 39 rfl (by decide) ⟨fun c4 => ?_, fun c4 => ?_⟩
      · have B := B.1 c4
        refine z_iconst (v := -1) 21 rfl (by decide) ?_
        exact z_iret 22 rfl rfl rfl ⟨rfl, rfl⟩ ⟨_, rfl, B⟩
      · have B := B.2 c4
        refine z_iload_n 11 rfl rfl ?_
        refine z_if_lt 12 39 rfl (by decide) ⟨fun c5 => ?_, fun c5 => ?_⟩
        · have B := B.1 c5
          refine z_iconst (v := -1) 21 rfl (by decide) ?_
          exact z_iret 22 rfl rfl rfl ⟨rfl, rfl⟩ ⟨_, rfl, B⟩
        · have B := B.2 c5
          refine z_iload_n 13 rfl rfl ?_
          refine z_bipush (v := 40) 14 rfl (by decide) ?_
          refine z_icmp_gt 15 39 rfl (by decide) ⟨fun c6 => ?_, fun c6 => ?_⟩
          · have B := B.1 c6
            refine z_iconst (v := -1) 21 rfl (by decide) ?_
            exact z_iret 22 rfl rfl rfl ⟨rfl, rfl⟩ ⟨_, rfl, B⟩
          · have B := B.2 c6
            refine z_aload_n 16 rfl rfl ?_
            obtain ⟨r7, hr7, B⟩ := B
            refine z_getR 17 rfl lX10_13 rfl o1 hr7 ?_
            refine z_iconst (v := 0) 18 rfl (by decide) ?_
            obtain ⟨o8, B⟩ := B
            obtain ⟨o9, B⟩ := B
            refine z_iald 19 rfl o8 o9 ?_
            refine z_if_ne 20 41 rfl (by decide) ⟨fun c10 => ?_, fun c10 => ?_⟩
            · have B := B.1 c10
              refine z_iload_n 23 rfl rfl ?_
              refine z_istore 24 rfl (by decide) rfl ?_
              refine z_iconst (v := 0) 25 rfl (by decide) ?_
              refine z_istore 26 rfl (by decide) rfl ?_
              refine z_iconst (v := 0) 27 rfl (by decide) ?_
              refine z_istore 28 rfl (by decide) rfl ?_
              exact B
            · have B := B.2 c10
              refine z_iconst (v := -1) 21 rfl (by decide) ?_
              exact z_iret 22 rfl rfl rfl ⟨rfl, rfl⟩ ⟨_, rfl, B⟩
theorem cn_X10_chance {G : zG} {d : Nat} {h : zMem} {Q : Int32 → zMem → Prop} {a0 : Nat} {x1 : Int32} {x2 : Int32} {x3 : Int32} (B : zg G mX10_chance (d + 1) 0 [.ref a0, .int x1, .int x2, .int x3, zU, zU, zU, zU] [] h (zPI Q)) : zConI G mX10_chance (d + 1) [.ref a0, .int x1, .int x2, .int x3] h Q := zcon0 (by decide +kernel) eX10_chance (Nat.le_of_ble_eq_true rfl) rfl B
set_option maxRecDepth 100000 in
set_option maxHeartbeats 4000000 in
theorem sg_X10_chance_50 {G : zG} {d : Nat} {h : zMem} {Q : Int32 → zMem → Prop} {a0 : Nat} {x1 : Int32} {x2 : Int32} {x3 : Int32} {x4 : Int32} {x5 : Int32} {x6 : Int32} (B : ((10 : Int32) ≤ x6 → Q x5 h) ∧ (¬ (10 : Int32) ≤ x6 → zO h a0 9 ∧ ∃ Q2 : zMem → Prop, zConV G mX10_copies d [.ref a0, .int (1 : Int32), .int (0 : Int32)] h Q2 ∧ (∀ h3, Q2 h3 → zO h3 a0 9 ∧ ∃ r6, zR h3 a0 38 = some r6 ∧ zO h3 r6 100 ∧ vp_in (1 : Int32) (zLen h3 r6) ∧ zg G mX10_chance (d + 1) 74 [.ref a0, .int x1, .int x2, .int x3, .int x4, .int x5, .int x6, .int (0 : Int32)] [] (zsI h3 r6 (1 : Int32).toNatClampNeg x4) (zPI Q)))) : zg G mX10_chance (d + 1) 50 [.ref a0, .int x1, .int x2, .int x3, .int x4, .int x5, .int x6, zU] [] h (zPI Q) := by
  refine z_iload 29 rfl rfl ?_
  refine z_bipush (v := 10) 30 rfl (by decide) ?_
  refine z_icmp_ge 31 160 rfl (by decide) ⟨fun c1 => ?_, fun c1 => ?_⟩
  · have B := B.1 c1
    refine z_iload 91 rfl rfl ?_
    exact z_iret 92 rfl rfl rfl ⟨rfl, rfl⟩ ⟨_, rfl, B⟩
  · have B := B.2 c1
    refine z_aload_n 32 rfl rfl ?_
    refine z_iconst (v := 1) 33 rfl (by decide) ?_
    refine z_iconst (v := 0) 34 rfl (by decide) ?_
    obtain ⟨o9, B⟩ := B
    obtain ⟨Q2, K4, B⟩ := B
    refine z_cVV2 (ν := mX10_copies) 35 rfl rfl fX10_copies gX10_434 ⟨_, rfl, rfl⟩ (by decide) o9 (Nat.le_of_ble_eq_true rfl) K4 (fun h3 q => ?_)
    have B := B h3 q
    refine z_aload_n 36 rfl rfl ?_
    obtain ⟨o5, B⟩ := B
    obtain ⟨r6, hr6, B⟩ := B
    refine z_getR 37 rfl lX10_81 rfl o5 hr6 ?_
    refine z_iconst (v := 1) 38 rfl (by decide) ?_
    refine z_iload 39 rfl rfl ?_
    obtain ⟨o7, B⟩ := B
    obtain ⟨o8, B⟩ := B
    refine z_iast 40 rfl o7 o8 ?_
    refine z_iconst (v := 0) 41 rfl (by decide) ?_
    refine z_istore 42 rfl (by decide) rfl ?_
    exact B
set_option maxRecDepth 100000 in
set_option maxHeartbeats 4000000 in
theorem sg_X10_chance_74 {G : zG} {d : Nat} {h : zMem} {Q : Int32 → zMem → Prop} {a0 : Nat} {x1 : Int32} {x2 : Int32} {x3 : Int32} {x4 : Int32} {x5 : Int32} {x6 : Int32} {x7 : Int32} (B : (x2 ≤ x7 → zO h a0 9 ∧ ∃ r3, zR h a0 38 = some r3 ∧ zO h r3 100 ∧ vp_in (1 : Int32) (zLen h r3) ∧ ∃ r6, zR h a0 36 = some r6 ∧ zO h r6 100 ∧ vp_in (1 : Int32) (zLen h r6) ∧ vp_in (0 : Int32) (zLen h r6) ∧ (((zI h r6 (1 : Int32).toNatClampNeg) - (zI h r6 (0 : Int32).toNatClampNeg)) < x3 → zg G mX10_chance (d + 1) 50 [.ref a0, .int x1, .int x2, .int x3, .int (zI h r3 (1 : Int32).toNatClampNeg), .int (x5 + (0 : Int32)), .int (x6 + 1), zU] [] h (zPI Q)) ∧ (¬ ((zI h r6 (1 : Int32).toNatClampNeg) - (zI h r6 (0 : Int32).toNatClampNeg)) < x3 → zg G mX10_chance (d + 1) 50 [.ref a0, .int x1, .int x2, .int x3, .int (zI h r3 (1 : Int32).toNatClampNeg), .int (x5 + (1 : Int32)), .int (x6 + 1), zU] [] h (zPI Q))) ∧ (¬ x2 ≤ x7 → zO h a0 9 ∧ ∃ Q11 : Int32 → zMem → Prop, zConI G mX10_draw d [.ref a0, .int (4 : Int32)] h Q11 ∧ (∀ v14 h12, Q11 v14 h12 → (¬ v14 = 0 → zO h12 a0 9 ∧ ∃ Q16 : zMem → Prop, zConV G mX10_passes d [.ref a0, .int (1 : Int32)] h12 Q16 ∧ (∀ h17, Q16 h17 → zg G mX10_chance (d + 1) 74 [.ref a0, .int x1, .int x2, .int x3, .int x4, .int x5, .int x6, .int (x7 + 1)] [] h17 (zPI Q))) ∧ (v14 = 0 → zO h12 a0 9 ∧ ∃ r21, zR h12 a0 40 = some r21 ∧ ∃ r22, zR h12 a0 3 = some r22 ∧ zO h12 r22 100 ∧ vp_in (0 : Int32) (zLen h12 r22) ∧ ∃ Q25 : Int32 → zMem → Prop, zConI G mX10_draw d [.ref a0, .int (zI h12 r22 (0 : Int32).toNatClampNeg)] h12 Q25 ∧ (∀ v28 h26, Q25 v28 h26 → zO h26 r21 100 ∧ vp_in ((6 : Int32) + v28) (zLen h26 r21) ∧ zO h26 a0 9 ∧ ∃ Q31 : zMem → Prop, zConV G mX10_passes d [.ref a0, .int (1 : Int32)] (zsI h26 r21 ((6 : Int32) + v28).toNatClampNeg (9 : Int32)) Q31 ∧ (∀ h32, Q31 h32 → zg G mX10_chance (d + 1) 74 [.ref a0, .int x1, .int x2, .int x3, .int x4, .int x5, .int x6, .int (x7 + 1)] [] h32 (zPI Q))))))) : zg G mX10_chance (d + 1) 74 [.ref a0, .int x1, .int x2, .int x3, .int x4, .int x5, .int x6, .int x7] [] h (zPI Q) := by
  refine z_iload 43 rfl rfl ?_
  refine z_iload_n 44 rfl rfl ?_
  refine z_icmp_ge 45 119 rfl (by decide) ⟨fun c1 => ?_, fun c1 => ?_⟩
  · have B := B.1 c1
    refine z_aload_n 67 rfl rfl ?_
    obtain ⟨o2, B⟩ := B
    obtain ⟨r3, hr3, B⟩ := B
    refine z_getR 68 rfl lX10_81 rfl o2 hr3 ?_
    refine z_iconst (v := 1) 69 rfl (by decide) ?_
    obtain ⟨o4, B⟩ := B
    obtain ⟨o5, B⟩ := B
    refine z_iald 70 rfl o4 o5 ?_
    refine z_istore 71 rfl (by decide) rfl ?_
    refine z_iload 72 rfl rfl ?_
    refine z_aload_n 73 rfl rfl ?_
    obtain ⟨r6, hr6, B⟩ := B
    refine z_getR 74 rfl lX10_75 rfl o2 hr6 ?_
    refine z_iconst (v := 1) 75 rfl (by decide) ?_
    obtain ⟨o7, B⟩ := B
    obtain ⟨o8, B⟩ := B
    refine z_iald 76 rfl o7 o8 ?_
    refine z_aload_n 77 rfl rfl ?_
    refine z_getR 78 rfl lX10_75 rfl o2 hr6 ?_
    refine z_iconst (v := 0) 79 rfl (by decide) ?_
    obtain ⟨o9, B⟩ := B
    refine z_iald 80 rfl o7 o9 ?_
    refine z_isub 81 rfl ?_
    refine z_iload_n 82 rfl rfl ?_
    refine z_icmp_lt 83 150 rfl (by decide) ⟨fun c10 => ?_, fun c10 => ?_⟩
    · have B := B.1 c10
      refine z_iconst (v := 0) 86 rfl (by decide) ?_
      refine z_iadd 87 rfl ?_
      refine z_istore 88 rfl (by decide) rfl ?_
      refine z_iinc (v := 1) 89 rfl rfl (by decide) (by decide) rfl ?_
      refine z_goto 90 50 rfl (by decide) ?_
      refine z_drop 7 ?_
      exact B
    · have B := B.2 c10
      refine z_iconst (v := 1) 84 rfl (by decide) ?_
      refine z_goto 85 151 rfl (by decide) ?_
      refine z_iadd 87 rfl ?_
      refine z_istore 88 rfl (by decide) rfl ?_
      refine z_iinc (v := 1) 89 rfl rfl (by decide) (by decide) rfl ?_
      refine z_goto 90 50 rfl (by decide) ?_
      refine z_drop 7 ?_
      exact B
  · have B := B.2 c1
    refine z_aload_n 46 rfl rfl ?_
    refine z_iconst (v := 4) 47 rfl (by decide) ?_
    obtain ⟨o35, B⟩ := B
    obtain ⟨Q11, K13, B⟩ := B
    refine z_cVI1 (ν := mX10_draw) 48 rfl rfl fX10_draw gX10_478 ⟨_, rfl, rfl⟩ (by decide) o35 (Nat.le_of_ble_eq_true rfl) K13 (fun v14 h12 q => ?_)
    have B := B v14 h12 q
    refine z_if_ne 49 108 rfl (by decide) ⟨fun c15 => ?_, fun c15 => ?_⟩
    · have B := B.1 c15
      refine z_aload_n 62 rfl rfl ?_
      refine z_iconst (v := 1) 63 rfl (by decide) ?_
      obtain ⟨o19, B⟩ := B
      obtain ⟨Q16, K18, B⟩ := B
      refine z_cVV1 (ν := mX10_passes) 64 rfl rfl fX10_passes gX10_440 ⟨_, rfl, rfl⟩ (by decide) o19 (Nat.le_of_ble_eq_true rfl) K18 (fun h17 q => ?_)
      have B := B h17 q
      refine z_iinc (v := 1) 65 rfl rfl (by decide) (by decide) rfl ?_
      refine z_goto 66 74 rfl (by decide) ?_
      exact B
    · have B := B.2 c15
      refine z_aload_n 50 rfl rfl ?_
      obtain ⟨o20, B⟩ := B
      obtain ⟨r21, hr21, B⟩ := B
      refine z_getR 51 rfl lX10_87 rfl o20 hr21 ?_
      refine z_bipush (v := 6) 52 rfl (by decide) ?_
      refine z_aload_n 53 rfl rfl ?_
      refine z_aload_n 54 rfl rfl ?_
      obtain ⟨r22, hr22, B⟩ := B
      refine z_getR 55 rfl lX10_13 rfl o20 hr22 ?_
      refine z_iconst (v := 0) 56 rfl (by decide) ?_
      obtain ⟨o23, B⟩ := B
      obtain ⟨o24, B⟩ := B
      refine z_iald 57 rfl o23 o24 ?_
      obtain ⟨Q25, K27, B⟩ := B
      refine z_cVI1 (ν := mX10_draw) 58 rfl rfl fX10_draw gX10_478 ⟨_, rfl, rfl⟩ (by decide) o20 (Nat.le_of_ble_eq_true rfl) K27 (fun v28 h26 q => ?_)
      have B := B v28 h26 q
      refine z_iadd 59 rfl ?_
      refine z_bipush (v := 9) 60 rfl (by decide) ?_
      obtain ⟨o29, B⟩ := B
      obtain ⟨o30, B⟩ := B
      refine z_iast 61 rfl o29 o30 ?_
      refine z_aload_n 62 rfl rfl ?_
      refine z_iconst (v := 1) 63 rfl (by decide) ?_
      obtain ⟨o34, B⟩ := B
      obtain ⟨Q31, K33, B⟩ := B
      refine z_cVV1 (ν := mX10_passes) 64 rfl rfl fX10_passes gX10_440 ⟨_, rfl, rfl⟩ (by decide) o34 (Nat.le_of_ble_eq_true rfl) K33 (fun h32 q => ?_)
      have B := B h32 q
      refine z_iinc (v := 1) 65 rfl rfl (by decide) (by decide) rfl ?_
      refine z_goto 66 74 rfl (by decide) ?_
      exact B
set_option maxRecDepth 100000 in
set_option maxHeartbeats 4000000 in
theorem sg_X10_tried_0 {G : zG} {d : Nat} {h : zMem} {Q : Int32 → zMem → Prop} {a0 : Nat} {x1 : Int32} {x2 : Int32} {x3 : Int32} (B : zO h a0 9 ∧ (¬ x1 = (3 : Int32) → (x1 < 0 → zg G mX10_tried (d + 1) 35 [.ref a0, .int x1, .int x2, .int x3, zU, zU] [] (zsI h a0 0 (0 : Int32)) (zPI Q)) ∧ (¬ x1 < 0 → ((5 : Int32) < x1 → zg G mX10_tried (d + 1) 35 [.ref a0, .int x1, .int x2, .int x3, zU, zU] [] (zsI h a0 0 (0 : Int32)) (zPI Q)) ∧ (¬ (5 : Int32) < x1 → (¬ x2 = 0 → zg G mX10_tried (d + 1) 35 [.ref a0, .int x1, .int x2, .int x3, zU, zU] [] (zsI h a0 0 (0 : Int32)) (zPI Q)) ∧ (x2 = 0 → ((1 : Int32) = 0 → Q (-1 : Int32) (zsI h a0 0 (0 : Int32))) ∧ (¬ (1 : Int32) = 0 → (x3 < 0 → Q (-1 : Int32) (zsI h a0 0 (0 : Int32))) ∧ (¬ x3 < 0 → (x3 ≤ (99 : Int32) → ∃ Q9 : zMem → Prop, zConV G mX10_copies d [.ref a0, .int (1 : Int32), .int (0 : Int32)] (zsI (zsI (zsI h a0 0 (0 : Int32)) a0 48 x1) a0 49 x2) Q9 ∧ (∀ h10, Q9 h10 → zg G mX10_tried (d + 1) 74 [.ref a0, .int x1, .int x2, .int x3, .int (1 : Int32), .int (0 : Int32)] [] h10 (zPI Q))) ∧ (¬ x3 ≤ (99 : Int32) → Q (-1 : Int32) (zsI h a0 0 (0 : Int32))))))))) ∧ (x1 = (3 : Int32) → ∃ Q12 : Int32 → zMem → Prop, zConI G mX10_isMonk d [.ref a0, .int x2] (zsI h a0 0 (0 : Int32)) Q12 ∧ (∀ v15 h13, Q12 v15 h13 → (v15 = 0 → Q (-1 : Int32) h13) ∧ (¬ v15 = 0 → (x3 < 0 → Q (-1 : Int32) h13) ∧ (¬ x3 < 0 → (x3 ≤ (99 : Int32) → zO h13 a0 9 ∧ ∃ Q20 : zMem → Prop, zConV G mX10_copies d [.ref a0, .int (1 : Int32), .int (0 : Int32)] (zsI (zsI h13 a0 48 x1) a0 49 x2) Q20 ∧ (∀ h21, Q20 h21 → zg G mX10_tried (d + 1) 74 [.ref a0, .int x1, .int x2, .int x3, .int v15, .int (0 : Int32)] [] h21 (zPI Q))) ∧ (¬ x3 ≤ (99 : Int32) → Q (-1 : Int32) h13)))))) : zg G mX10_tried (d + 1) 0 [.ref a0, .int x1, .int x2, .int x3, zU, zU] [] h (zPI Q) := by
  refine z_aload_n 0 rfl rfl ?_
  refine z_iconst (v := 0) 1 rfl (by decide) ?_
  obtain ⟨o1, B⟩ := B
  refine z_putI 2 rfl lX10_160 ⟨_, _, _, rfl, rfl⟩ rfl rfl rfl o1 ?_
  refine z_iload_n 3 rfl rfl ?_
  refine z_iconst (v := 3) 4 rfl (by decide) ?_
  refine z_icmp_ne 5 18 rfl (by decide) ⟨fun c2 => ?_, fun c2 => ?_⟩
  · have B := B.1 c2
    refine z_iload_n 10 rfl rfl ?_
    refine z_if_lt 11 35 rfl (by decide) ⟨fun c3 => ?_, fun c3 => ?_⟩
    · have B := B.1 c3
      exact B
    · have B := B.2 c3
      refine z_iload_n 12 rfl rfl ?_
      refine z_iconst (v := 5) 13 rfl (by decide) ?_
      refine z_icmp_gt 14 35 rfl (by decide) ⟨fun c4 => ?_, fun c4 => ?_⟩
      · have B := B.1 c4
        exact B
      · have B := B.2 c4
        refine z_iload_n 15 rfl rfl ?_
        refine z_if_ne 16 35 rfl (by decide) ⟨fun c5 => ?_, fun c5 => ?_⟩
        · have B := B.1 c5
          exact B
        · have B := B.2 c5
          refine z_iconst (v := 1) 17 rfl (by decide) ?_
          refine z_goto 18 36 rfl (by decide) ?_
          refine z_istore 20 rfl (by decide) rfl ?_
          refine z_iload 21 rfl rfl ?_
          refine z_if_eq 22 53 rfl (by decide) ⟨fun c6 => ?_, fun c6 => ?_⟩
          · have B := B.1 c6
            refine z_iconst (v := -1) 28 rfl (by decide) ?_
            exact z_iret 29 rfl rfl rfl ⟨rfl, rfl⟩ ⟨_, rfl, B⟩
          · have B := B.2 c6
            refine z_iload_n 23 rfl rfl ?_
            refine z_if_lt 24 53 rfl (by decide) ⟨fun c7 => ?_, fun c7 => ?_⟩
            · have B := B.1 c7
              refine z_iconst (v := -1) 28 rfl (by decide) ?_
              exact z_iret 29 rfl rfl rfl ⟨rfl, rfl⟩ ⟨_, rfl, B⟩
            · have B := B.2 c7
              refine z_iload_n 25 rfl rfl ?_
              refine z_bipush (v := 99) 26 rfl (by decide) ?_
              refine z_icmp_le 27 55 rfl (by decide) ⟨fun c8 => ?_, fun c8 => ?_⟩
              · have B := B.1 c8
                refine z_aload_n 30 rfl rfl ?_
                refine z_iload_n 31 rfl rfl ?_
                refine z_putI 32 rfl lX10_349 ⟨_, _, _, rfl, rfl⟩ rfl rfl rfl o1 ?_
                refine z_aload_n 33 rfl rfl ?_
                refine z_iload_n 34 rfl rfl ?_
                refine z_putI 35 rfl lX10_105 ⟨_, _, _, rfl, rfl⟩ rfl rfl rfl o1 ?_
                refine z_aload_n 36 rfl rfl ?_
                refine z_iconst (v := 1) 37 rfl (by decide) ?_
                refine z_iconst (v := 0) 38 rfl (by decide) ?_
                obtain ⟨Q9, K11, B⟩ := B
                refine z_cVV2 (ν := mX10_copies) 39 rfl rfl fX10_copies gX10_434 ⟨_, rfl, rfl⟩ (by decide) o1 (Nat.le_of_ble_eq_true rfl) K11 (fun h10 q => ?_)
                have B := B h10 q
                refine z_iconst (v := 0) 40 rfl (by decide) ?_
                refine z_istore 41 rfl (by decide) rfl ?_
                exact B
              · have B := B.2 c8
                refine z_iconst (v := -1) 28 rfl (by decide) ?_
                exact z_iret 29 rfl rfl rfl ⟨rfl, rfl⟩ ⟨_, rfl, B⟩
  · have B := B.2 c2
    refine z_aload_n 6 rfl rfl ?_
    refine z_iload_n 7 rfl rfl ?_
    obtain ⟨Q12, K14, B⟩ := B
    refine z_cVI1 (ν := mX10_isMonk) 8 rfl rfl fX10_isMonk gX10_415 ⟨_, rfl, rfl⟩ (by decide) o1 (Nat.le_of_ble_eq_true rfl) K14 (fun v15 h13 q => ?_)
    have B := B v15 h13 q
    refine z_goto 9 36 rfl (by decide) ?_
    refine z_istore 20 rfl (by decide) rfl ?_
    refine z_iload 21 rfl rfl ?_
    refine z_if_eq 22 53 rfl (by decide) ⟨fun c16 => ?_, fun c16 => ?_⟩
    · have B := B.1 c16
      refine z_iconst (v := -1) 28 rfl (by decide) ?_
      exact z_iret 29 rfl rfl rfl ⟨rfl, rfl⟩ ⟨_, rfl, B⟩
    · have B := B.2 c16
      refine z_iload_n 23 rfl rfl ?_
      refine z_if_lt 24 53 rfl (by decide) ⟨fun c17 => ?_, fun c17 => ?_⟩
      · have B := B.1 c17
        refine z_iconst (v := -1) 28 rfl (by decide) ?_
        exact z_iret 29 rfl rfl rfl ⟨rfl, rfl⟩ ⟨_, rfl, B⟩
      · have B := B.2 c17
        refine z_iload_n 25 rfl rfl ?_
        refine z_bipush (v := 99) 26 rfl (by decide) ?_
        refine z_icmp_le 27 55 rfl (by decide) ⟨fun c18 => ?_, fun c18 => ?_⟩
        · have B := B.1 c18
          refine z_aload_n 30 rfl rfl ?_
          refine z_iload_n 31 rfl rfl ?_
          obtain ⟨o19, B⟩ := B
          refine z_putI 32 rfl lX10_349 ⟨_, _, _, rfl, rfl⟩ rfl rfl rfl o19 ?_
          refine z_aload_n 33 rfl rfl ?_
          refine z_iload_n 34 rfl rfl ?_
          refine z_putI 35 rfl lX10_105 ⟨_, _, _, rfl, rfl⟩ rfl rfl rfl o19 ?_
          refine z_aload_n 36 rfl rfl ?_
          refine z_iconst (v := 1) 37 rfl (by decide) ?_
          refine z_iconst (v := 0) 38 rfl (by decide) ?_
          obtain ⟨Q20, K22, B⟩ := B
          refine z_cVV2 (ν := mX10_copies) 39 rfl rfl fX10_copies gX10_434 ⟨_, rfl, rfl⟩ (by decide) o19 (Nat.le_of_ble_eq_true rfl) K22 (fun h21 q => ?_)
          have B := B h21 q
          refine z_iconst (v := 0) 40 rfl (by decide) ?_
          refine z_istore 41 rfl (by decide) rfl ?_
          exact B
        · have B := B.2 c18
          refine z_iconst (v := -1) 28 rfl (by decide) ?_
          exact z_iret 29 rfl rfl rfl ⟨rfl, rfl⟩ ⟨_, rfl, B⟩
theorem cn_X10_tried {G : zG} {d : Nat} {h : zMem} {Q : Int32 → zMem → Prop} {a0 : Nat} {x1 : Int32} {x2 : Int32} {x3 : Int32} (B : zg G mX10_tried (d + 1) 0 [.ref a0, .int x1, .int x2, .int x3, zU, zU] [] h (zPI Q)) : zConI G mX10_tried (d + 1) [.ref a0, .int x1, .int x2, .int x3] h Q := zcon0 (by decide +kernel) eX10_tried (Nat.le_of_ble_eq_true rfl) rfl B
set_option maxRecDepth 100000 in
set_option maxHeartbeats 4000000 in
theorem sg_X10_tried_35 {G : zG} {d : Nat} {h : zMem} {Q : Int32 → zMem → Prop} {a0 : Nat} {x1 : Int32} {x2 : Int32} {x3 : Int32} (B : ((0 : Int32) = 0 → Q (-1 : Int32) h) ∧ (¬ (0 : Int32) = 0 → (x3 < 0 → Q (-1 : Int32) h) ∧ (¬ x3 < 0 → (x3 ≤ (99 : Int32) → zO h a0 9 ∧ ∃ Q5 : zMem → Prop, zConV G mX10_copies d [.ref a0, .int (1 : Int32), .int (0 : Int32)] (zsI (zsI h a0 48 x1) a0 49 x2) Q5 ∧ (∀ h6, Q5 h6 → zg G mX10_tried (d + 1) 74 [.ref a0, .int x1, .int x2, .int x3, .int (0 : Int32), .int (0 : Int32)] [] h6 (zPI Q))) ∧ (¬ x3 ≤ (99 : Int32) → Q (-1 : Int32) h)))) : zg G mX10_tried (d + 1) 35 [.ref a0, .int x1, .int x2, .int x3, zU, zU] [] h (zPI Q) := by
  refine z_iconst (v := 0) 19 rfl (by decide) ?_
  refine z_istore 20 rfl (by decide) rfl ?_
  refine z_iload 21 rfl rfl ?_
  refine z_if_eq 22 53 rfl (by decide) ⟨fun c1 => ?_, fun c1 => ?_⟩
  · have B := B.1 c1
    refine z_iconst (v := -1) 28 rfl (by decide) ?_
    exact z_iret 29 rfl rfl rfl ⟨rfl, rfl⟩ ⟨_, rfl, B⟩
  · have B := B.2 c1
    refine z_iload_n 23 rfl rfl ?_
    refine z_if_lt 24 53 rfl (by decide) ⟨fun c2 => ?_, fun c2 => ?_⟩
    · have B := B.1 c2
      refine z_iconst (v := -1) 28 rfl (by decide) ?_
      exact z_iret 29 rfl rfl rfl ⟨rfl, rfl⟩ ⟨_, rfl, B⟩
    · have B := B.2 c2
      refine z_iload_n 25 rfl rfl ?_
      refine z_bipush (v := 99) 26 rfl (by decide) ?_
      refine z_icmp_le 27 55 rfl (by decide) ⟨fun c3 => ?_, fun c3 => ?_⟩
      · have B := B.1 c3
        refine z_aload_n 30 rfl rfl ?_
        refine z_iload_n 31 rfl rfl ?_
        obtain ⟨o4, B⟩ := B
        refine z_putI 32 rfl lX10_349 ⟨_, _, _, rfl, rfl⟩ rfl rfl rfl o4 ?_
        refine z_aload_n 33 rfl rfl ?_
        refine z_iload_n 34 rfl rfl ?_
        refine z_putI 35 rfl lX10_105 ⟨_, _, _, rfl, rfl⟩ rfl rfl rfl o4 ?_
        refine z_aload_n 36 rfl rfl ?_
        refine z_iconst (v := 1) 37 rfl (by decide) ?_
        refine z_iconst (v := 0) 38 rfl (by decide) ?_
        obtain ⟨Q5, K7, B⟩ := B
        refine z_cVV2 (ν := mX10_copies) 39 rfl rfl fX10_copies gX10_434 ⟨_, rfl, rfl⟩ (by decide) o4 (Nat.le_of_ble_eq_true rfl) K7 (fun h6 q => ?_)
        have B := B h6 q
        refine z_iconst (v := 0) 40 rfl (by decide) ?_
        refine z_istore 41 rfl (by decide) rfl ?_
        exact B
      · have B := B.2 c3
        refine z_iconst (v := -1) 28 rfl (by decide) ?_
        exact z_iret 29 rfl rfl rfl ⟨rfl, rfl⟩ ⟨_, rfl, B⟩
set_option maxRecDepth 100000 in
set_option maxHeartbeats 4000000 in
theorem sg_X10_tried_74 {G : zG} {d : Nat} {h : zMem} {Q : Int32 → zMem → Prop} {a0 : Nat} {x1 : Int32} {x2 : Int32} {x3 : Int32} {x4 : Int32} {x5 : Int32} (B : (x3 ≤ x5 → zO h a0 9 ∧ ∃ r3, zR h a0 36 = some r3 ∧ zO h r3 100 ∧ vp_in (1 : Int32) (zLen h r3) ∧ vp_in (0 : Int32) (zLen h r3) ∧ Q ((zI (zsI (zsI h a0 48 (0 : Int32)) a0 49 (-1 : Int32)) r3 (1 : Int32).toNatClampNeg) - (zI (zsI (zsI h a0 48 (0 : Int32)) a0 49 (-1 : Int32)) r3 (0 : Int32).toNatClampNeg)) (zsI (zsI h a0 48 (0 : Int32)) a0 49 (-1 : Int32))) ∧ (¬ x3 ≤ x5 → zO h a0 9 ∧ ∃ Q7 : zMem → Prop, zConV G mX10_passes d [.ref a0, .int (1 : Int32)] h Q7 ∧ (∀ h8, Q7 h8 → zg G mX10_tried (d + 1) 74 [.ref a0, .int x1, .int x2, .int x3, .int x4, .int (x5 + 1)] [] h8 (zPI Q)))) : zg G mX10_tried (d + 1) 74 [.ref a0, .int x1, .int x2, .int x3, .int x4, .int x5] [] h (zPI Q) := by
  refine z_iload 42 rfl rfl ?_
  refine z_iload_n 43 rfl rfl ?_
  refine z_icmp_ge 44 91 rfl (by decide) ⟨fun c1 => ?_, fun c1 => ?_⟩
  · have B := B.1 c1
    refine z_aload_n 50 rfl rfl ?_
    refine z_iconst (v := 0) 51 rfl (by decide) ?_
    obtain ⟨o2, B⟩ := B
    refine z_putI 52 rfl lX10_349 ⟨_, _, _, rfl, rfl⟩ rfl rfl rfl o2 ?_
    refine z_aload_n 53 rfl rfl ?_
    refine z_iconst (v := -1) 54 rfl (by decide) ?_
    refine z_putI 55 rfl lX10_105 ⟨_, _, _, rfl, rfl⟩ rfl rfl rfl o2 ?_
    refine z_aload_n 56 rfl rfl ?_
    obtain ⟨r3, hr3, B⟩ := B
    refine z_getR 57 rfl lX10_75 rfl o2 hr3 ?_
    refine z_iconst (v := 1) 58 rfl (by decide) ?_
    obtain ⟨o4, B⟩ := B
    obtain ⟨o5, B⟩ := B
    refine z_iald 59 rfl o4 o5 ?_
    refine z_aload_n 60 rfl rfl ?_
    refine z_getR 61 rfl lX10_75 rfl o2 hr3 ?_
    refine z_iconst (v := 0) 62 rfl (by decide) ?_
    obtain ⟨o6, B⟩ := B
    refine z_iald 63 rfl o4 o6 ?_
    refine z_isub 64 rfl ?_
    exact z_iret 65 rfl rfl rfl ⟨rfl, rfl⟩ ⟨_, rfl, B⟩
  · have B := B.2 c1
    refine z_aload_n 45 rfl rfl ?_
    refine z_iconst (v := 1) 46 rfl (by decide) ?_
    obtain ⟨o10, B⟩ := B
    obtain ⟨Q7, K9, B⟩ := B
    refine z_cVV1 (ν := mX10_passes) 47 rfl rfl fX10_passes gX10_440 ⟨_, rfl, rfl⟩ (by decide) o10 (Nat.le_of_ble_eq_true rfl) K9 (fun h8 q => ?_)
    have B := B h8 q
    refine z_iinc (v := 1) 48 rfl rfl (by decide) (by decide) rfl ?_
    refine z_goto 49 74 rfl (by decide) ?_
    exact B
set_option maxRecDepth 100000 in
set_option maxHeartbeats 4000000 in
theorem sg_X10_undo_0 {G : zG} {d : Nat} {h : zMem} {Q : Int32 → zMem → Prop} {a0 : Nat} (B : zO h a0 9 ∧ (¬ (zI (zsI h a0 0 (0 : Int32)) a0 47) = 0 → ∃ Q3 : zMem → Prop, zConV G mX10_copies d [.ref a0, .int (0 : Int32), .int ((3 : Int32) + (zI (zsI (zsI h a0 0 (0 : Int32)) a0 47 ((zI (zsI h a0 0 (0 : Int32)) a0 47) - (1 : Int32))) a0 47))] (zsI (zsI h a0 0 (0 : Int32)) a0 47 ((zI (zsI h a0 0 (0 : Int32)) a0 47) - (1 : Int32))) Q3 ∧ (∀ h4, Q3 h4 → zO h4 a0 9 ∧ Q (zI h4 a0 47) h4)) ∧ ((zI (zsI h a0 0 (0 : Int32)) a0 47) = 0 → Q (-1 : Int32) (zsI h a0 0 (0 : Int32)))) : zg G mX10_undo (d + 1) 0 [.ref a0] [] h (zPI Q) := by
  refine z_aload_n 0 rfl rfl ?_
  refine z_iconst (v := 0) 1 rfl (by decide) ?_
  obtain ⟨o1, B⟩ := B
  refine z_putI 2 rfl lX10_160 ⟨_, _, _, rfl, rfl⟩ rfl rfl rfl o1 ?_
  refine z_aload_n 3 rfl rfl ?_
  refine z_getI 4 rfl lX10_323 rfl o1 ?_
  refine z_if_ne 5 14 rfl (by decide) ⟨fun c2 => ?_, fun c2 => ?_⟩
  · have B := B.1 c2
    refine z_aload_n 8 rfl rfl ?_
    refine z_dup 9 rfl rfl ?_
    refine z_getI 10 rfl lX10_323 rfl o1 ?_
    refine z_iconst (v := 1) 11 rfl (by decide) ?_
    refine z_isub 12 rfl ?_
    refine z_putI 13 rfl lX10_323 ⟨_, _, _, rfl, rfl⟩ rfl rfl rfl o1 ?_
    refine z_aload_n 14 rfl rfl ?_
    refine z_iconst (v := 0) 15 rfl (by decide) ?_
    refine z_iconst (v := 3) 16 rfl (by decide) ?_
    refine z_aload_n 17 rfl rfl ?_
    refine z_getI 18 rfl lX10_323 rfl o1 ?_
    refine z_iadd 19 rfl ?_
    obtain ⟨Q3, K5, B⟩ := B
    refine z_cVV2 (ν := mX10_copies) 20 rfl rfl fX10_copies gX10_434 ⟨_, rfl, rfl⟩ (by decide) o1 (Nat.le_of_ble_eq_true rfl) K5 (fun h4 q => ?_)
    have B := B h4 q
    refine z_aload_n 21 rfl rfl ?_
    obtain ⟨o6, B⟩ := B
    refine z_getI 22 rfl lX10_323 rfl o6 ?_
    exact z_iret 23 rfl rfl rfl ⟨rfl, rfl⟩ ⟨_, rfl, B⟩
  · have B := B.2 c2
    refine z_iconst (v := -1) 6 rfl (by decide) ?_
    exact z_iret 7 rfl rfl rfl ⟨rfl, rfl⟩ ⟨_, rfl, B⟩
theorem cn_X10_undo {G : zG} {d : Nat} {h : zMem} {Q : Int32 → zMem → Prop} {a0 : Nat} (B : zg G mX10_undo (d + 1) 0 [.ref a0] [] h (zPI Q)) : zConI G mX10_undo (d + 1) [.ref a0] h Q := zcon0 (by decide +kernel) eX10_undo (Nat.le_of_ble_eq_true rfl) rfl B
set_option maxRecDepth 100000 in
set_option maxHeartbeats 4000000 in
theorem sg_X10_keep_0 {G : zG} {d : Nat} {h : zMem} {Q : Int32 → zMem → Prop} {a0 : Nat} (B : zO h a0 9 ∧ ∃ Q2 : zMem → Prop, zConV G mX10_copies d [.ref a0, .int (2 : Int32), .int (0 : Int32)] (zsI h a0 0 (0 : Int32)) Q2 ∧ (∀ h3, Q2 h3 → zO h3 a0 9 ∧ ∃ r6, zR h3 a0 34 = some r6 ∧ zO h3 r6 100 ∧ vp_in (0 : Int32) (zLen h3 r6) ∧ Q (zI (zsI h3 a0 46 (1 : Int32)) r6 (0 : Int32).toNatClampNeg) (zsI h3 a0 46 (1 : Int32)))) : zg G mX10_keep (d + 1) 0 [.ref a0] [] h (zPI Q) := by
  refine z_aload_n 0 rfl rfl ?_
  refine z_iconst (v := 0) 1 rfl (by decide) ?_
  obtain ⟨o1, B⟩ := B
  refine z_putI 2 rfl lX10_160 ⟨_, _, _, rfl, rfl⟩ rfl rfl rfl o1 ?_
  refine z_aload_n 3 rfl rfl ?_
  refine z_iconst (v := 2) 4 rfl (by decide) ?_
  refine z_iconst (v := 0) 5 rfl (by decide) ?_
  obtain ⟨Q2, K4, B⟩ := B
  refine z_cVV2 (ν := mX10_copies) 6 rfl rfl fX10_copies gX10_434 ⟨_, rfl, rfl⟩ (by decide) o1 (Nat.le_of_ble_eq_true rfl) K4 (fun h3 q => ?_)
  have B := B h3 q
  refine z_aload_n 7 rfl rfl ?_
  refine z_iconst (v := 1) 8 rfl (by decide) ?_
  obtain ⟨o5, B⟩ := B
  refine z_putI 9 rfl lX10_319 ⟨_, _, _, rfl, rfl⟩ rfl rfl rfl o5 ?_
  refine z_aload_n 10 rfl rfl ?_
  obtain ⟨r6, hr6, B⟩ := B
  refine z_getR 11 rfl lX10_69 rfl o5 hr6 ?_
  refine z_iconst (v := 0) 12 rfl (by decide) ?_
  obtain ⟨o7, B⟩ := B
  obtain ⟨o8, B⟩ := B
  refine z_iald 13 rfl o7 o8 ?_
  exact z_iret 14 rfl rfl rfl ⟨rfl, rfl⟩ ⟨_, rfl, B⟩
theorem cn_X10_keep {G : zG} {d : Nat} {h : zMem} {Q : Int32 → zMem → Prop} {a0 : Nat} (B : zg G mX10_keep (d + 1) 0 [.ref a0] [] h (zPI Q)) : zConI G mX10_keep (d + 1) [.ref a0] h Q := zcon0 (by decide +kernel) eX10_keep (Nat.le_of_ble_eq_true rfl) rfl B
set_option maxRecDepth 100000 in
set_option maxHeartbeats 4000000 in
theorem sg_X10_back_0 {G : zG} {d : Nat} {h : zMem} {Q : Int32 → zMem → Prop} {a0 : Nat} (B : zO h a0 9 ∧ (¬ (zI (zsI h a0 0 (0 : Int32)) a0 46) = 0 → ∃ Q3 : zMem → Prop, zConV G mX10_copies d [.ref a0, .int (0 : Int32), .int (2 : Int32)] (zsI h a0 0 (0 : Int32)) Q3 ∧ (∀ h4, Q3 h4 → zO h4 a0 9 ∧ ∃ r7, zR h4 a0 34 = some r7 ∧ zO h4 r7 100 ∧ vp_in (0 : Int32) (zLen h4 r7) ∧ Q (zI (zsI h4 a0 47 (0 : Int32)) r7 (0 : Int32).toNatClampNeg) (zsI h4 a0 47 (0 : Int32)))) ∧ ((zI (zsI h a0 0 (0 : Int32)) a0 46) = 0 → Q (-1 : Int32) (zsI h a0 0 (0 : Int32)))) : zg G mX10_back (d + 1) 0 [.ref a0] [] h (zPI Q) := by
  refine z_aload_n 0 rfl rfl ?_
  refine z_iconst (v := 0) 1 rfl (by decide) ?_
  obtain ⟨o1, B⟩ := B
  refine z_putI 2 rfl lX10_160 ⟨_, _, _, rfl, rfl⟩ rfl rfl rfl o1 ?_
  refine z_aload_n 3 rfl rfl ?_
  refine z_getI 4 rfl lX10_319 rfl o1 ?_
  refine z_if_ne 5 14 rfl (by decide) ⟨fun c2 => ?_, fun c2 => ?_⟩
  · have B := B.1 c2
    refine z_aload_n 8 rfl rfl ?_
    refine z_iconst (v := 0) 9 rfl (by decide) ?_
    refine z_iconst (v := 2) 10 rfl (by decide) ?_
    obtain ⟨Q3, K5, B⟩ := B
    refine z_cVV2 (ν := mX10_copies) 11 rfl rfl fX10_copies gX10_434 ⟨_, rfl, rfl⟩ (by decide) o1 (Nat.le_of_ble_eq_true rfl) K5 (fun h4 q => ?_)
    have B := B h4 q
    refine z_aload_n 12 rfl rfl ?_
    refine z_iconst (v := 0) 13 rfl (by decide) ?_
    obtain ⟨o6, B⟩ := B
    refine z_putI 14 rfl lX10_323 ⟨_, _, _, rfl, rfl⟩ rfl rfl rfl o6 ?_
    refine z_aload_n 15 rfl rfl ?_
    obtain ⟨r7, hr7, B⟩ := B
    refine z_getR 16 rfl lX10_69 rfl o6 hr7 ?_
    refine z_iconst (v := 0) 17 rfl (by decide) ?_
    obtain ⟨o8, B⟩ := B
    obtain ⟨o9, B⟩ := B
    refine z_iald 18 rfl o8 o9 ?_
    exact z_iret 19 rfl rfl rfl ⟨rfl, rfl⟩ ⟨_, rfl, B⟩
  · have B := B.2 c2
    refine z_iconst (v := -1) 6 rfl (by decide) ?_
    exact z_iret 7 rfl rfl rfl ⟨rfl, rfl⟩ ⟨_, rfl, B⟩
theorem cn_X10_back {G : zG} {d : Nat} {h : zMem} {Q : Int32 → zMem → Prop} {a0 : Nat} (B : zg G mX10_back (d + 1) 0 [.ref a0] [] h (zPI Q)) : zConI G mX10_back (d + 1) [.ref a0] h Q := zcon0 (by decide +kernel) eX10_back (Nat.le_of_ble_eq_true rfl) rfl B
theorem zsw_X10_count_8 {x : Int32} (z1 : ¬ x.toInt < 0) (z2 : ¬ 13 < x.toInt) (c0 : ¬ x = 0) (c1 : ¬ x = 1) (c2 : ¬ x = 2) (c3 : ¬ x = 3) (c4 : ¬ x = 4) (c5 : ¬ x = 5) (c6 : ¬ x = 6) (c7 : ¬ x = 7) (c8 : ¬ x = 8) (c9 : ¬ x = 9) (c10 : ¬ x = 10) (c11 : ¬ x = 11) (c12 : ¬ x = 12) (c13 : ¬ x = 13) : (#[72, 79, 86, 93, 100, 107, 115, 122, 129, 136, 143, 172, 177, 182] : Array Int)[(x.toInt - 0).toNat]? = some 187 := by
  obtain ⟨v, hv⟩ : ∃ v : Int, v = x.toInt := ⟨_, rfl⟩
  have c0 : v ≠ 0 := fun e => c0 (Int32.toInt_inj.mp (by rw [← hv, e]; decide))
  have c1 : v ≠ 1 := fun e => c1 (Int32.toInt_inj.mp (by rw [← hv, e]; decide))
  have c2 : v ≠ 2 := fun e => c2 (Int32.toInt_inj.mp (by rw [← hv, e]; decide))
  have c3 : v ≠ 3 := fun e => c3 (Int32.toInt_inj.mp (by rw [← hv, e]; decide))
  have c4 : v ≠ 4 := fun e => c4 (Int32.toInt_inj.mp (by rw [← hv, e]; decide))
  have c5 : v ≠ 5 := fun e => c5 (Int32.toInt_inj.mp (by rw [← hv, e]; decide))
  have c6 : v ≠ 6 := fun e => c6 (Int32.toInt_inj.mp (by rw [← hv, e]; decide))
  have c7 : v ≠ 7 := fun e => c7 (Int32.toInt_inj.mp (by rw [← hv, e]; decide))
  have c8 : v ≠ 8 := fun e => c8 (Int32.toInt_inj.mp (by rw [← hv, e]; decide))
  have c9 : v ≠ 9 := fun e => c9 (Int32.toInt_inj.mp (by rw [← hv, e]; decide))
  have c10 : v ≠ 10 := fun e => c10 (Int32.toInt_inj.mp (by rw [← hv, e]; decide))
  have c11 : v ≠ 11 := fun e => c11 (Int32.toInt_inj.mp (by rw [← hv, e]; decide))
  have c12 : v ≠ 12 := fun e => c12 (Int32.toInt_inj.mp (by rw [← hv, e]; decide))
  have c13 : v ≠ 13 := fun e => c13 (Int32.toInt_inj.mp (by rw [← hv, e]; decide))
  rw [← hv] at z1 z2 ⊢
  rcases (show v = 0 ∨ v = 1 ∨ v = 2 ∨ v = 3 ∨ v = 4 ∨ v = 5 ∨ v = 6 ∨ v = 7 ∨ v = 8 ∨ v = 9 ∨ v = 10 ∨ v = 11 ∨ v = 12 ∨ v = 13 by omega) with rfl | rfl | rfl | rfl | rfl | rfl | rfl | rfl | rfl | rfl | rfl | rfl | rfl | rfl
  all_goals first | exact absurd rfl (by assumption) | decide
set_option maxRecDepth 100000 in
set_option maxHeartbeats 4000000 in
theorem sg_X10_count_0 {G : zG} {d : Nat} {h : zMem} {Q : Int32 → zMem → Prop} {a0 : Nat} {x1 : Int32} (B : zO h a0 9 ∧ (x1 = 0 → ∃ r2, zR h a0 3 = some r2 ∧ zO h r2 100 ∧ vp_in (0 : Int32) (zLen h r2) ∧ Q (zI (zsI h a0 0 (0 : Int32)) r2 (0 : Int32).toNatClampNeg) (zsI h a0 0 (0 : Int32))) ∧ (x1 = 1 → ∃ r5, zR h a0 3 = some r5 ∧ zO h r5 100 ∧ vp_in (1 : Int32) (zLen h r5) ∧ Q (zI (zsI h a0 0 (0 : Int32)) r5 (1 : Int32).toNatClampNeg) (zsI h a0 0 (0 : Int32))) ∧ (x1 = 2 → ∃ r8, zR h a0 3 = some r8 ∧ zO h r8 100 ∧ vp_in (3 : Int32) (zLen h r8) ∧ Q (zI (zsI h a0 0 (0 : Int32)) r8 (3 : Int32).toNatClampNeg) (zsI h a0 0 (0 : Int32))) ∧ (x1 = 3 → ∃ r11, zR h a0 3 = some r11 ∧ zO h r11 100 ∧ vp_in (4 : Int32) (zLen h r11) ∧ Q (zI (zsI h a0 0 (0 : Int32)) r11 (4 : Int32).toNatClampNeg) (zsI h a0 0 (0 : Int32))) ∧ (x1 = 4 → ∃ r14, zR h a0 3 = some r14 ∧ zO h r14 100 ∧ vp_in (2 : Int32) (zLen h r14) ∧ Q (zI (zsI h a0 0 (0 : Int32)) r14 (2 : Int32).toNatClampNeg) (zsI h a0 0 (0 : Int32))) ∧ (x1 = 5 → ∃ r17, zR h a0 3 = some r17 ∧ zO h r17 100 ∧ vp_in (7 : Int32) (zLen h r17) ∧ Q (zI (zsI h a0 0 (0 : Int32)) r17 (7 : Int32).toNatClampNeg) (zsI h a0 0 (0 : Int32))) ∧ (x1 = 6 → ∃ r20, zR h a0 34 = some r20 ∧ zO h r20 100 ∧ vp_in (0 : Int32) (zLen h r20) ∧ Q (zI (zsI h a0 0 (0 : Int32)) r20 (0 : Int32).toNatClampNeg) (zsI h a0 0 (0 : Int32))) ∧ (x1 = 7 → ∃ r23, zR h a0 35 = some r23 ∧ zO h r23 100 ∧ vp_in (0 : Int32) (zLen h r23) ∧ Q (zI (zsI h a0 0 (0 : Int32)) r23 (0 : Int32).toNatClampNeg) (zsI h a0 0 (0 : Int32))) ∧ (x1 = 8 → ∃ r26, zR h a0 36 = some r26 ∧ zO h r26 100 ∧ vp_in (0 : Int32) (zLen h r26) ∧ Q (zI (zsI h a0 0 (0 : Int32)) r26 (0 : Int32).toNatClampNeg) (zsI h a0 0 (0 : Int32))) ∧ (x1 = 9 → ∃ r29, zR h a0 37 = some r29 ∧ zO h r29 100 ∧ vp_in (0 : Int32) (zLen h r29) ∧ Q (zI (zsI h a0 0 (0 : Int32)) r29 (0 : Int32).toNatClampNeg) (zsI h a0 0 (0 : Int32))) ∧ (x1 = 10 → zg G mX10_count (d + 1) 153 [.ref a0, .int x1, .int (0 : Int32), .int (0 : Int32)] [] (zsI h a0 0 (0 : Int32)) (zPI Q)) ∧ (x1 = 11 → Q (zI (zsI h a0 0 (0 : Int32)) a0 60) (zsI h a0 0 (0 : Int32))) ∧ (x1 = 12 → ∃ Q32 : Int32 → zMem → Prop, zConI G mX10_knownMany d [.ref a0] (zsI h a0 0 (0 : Int32)) Q32 ∧ (∀ v35 h33, Q32 v35 h33 → Q v35 h33)) ∧ (x1 = 13 → Q (zI (zsI h a0 0 (0 : Int32)) a0 47) (zsI h a0 0 (0 : Int32))) ∧ (¬ x1 = 0 → ¬ x1 = 1 → ¬ x1 = 2 → ¬ x1 = 3 → ¬ x1 = 4 → ¬ x1 = 5 → ¬ x1 = 6 → ¬ x1 = 7 → ¬ x1 = 8 → ¬ x1 = 9 → ¬ x1 = 10 → ¬ x1 = 11 → ¬ x1 = 12 → ¬ x1 = 13 → Q (-1 : Int32) (zsI h a0 0 (0 : Int32)))) : zg G mX10_count (d + 1) 0 [.ref a0, .int x1, zU, zU] [] h (zPI Q) := by
  refine z_aload_n 0 rfl rfl ?_
  refine z_iconst (v := 0) 1 rfl (by decide) ?_
  obtain ⟨o1, B⟩ := B
  refine z_putI 2 rfl lX10_160 ⟨_, _, _, rfl, rfl⟩ rfl rfl rfl o1 ?_
  refine z_iconst (v := 0) 3 rfl (by decide) ?_
  refine z_istore_n 4 rfl (by decide) rfl ?_
  refine z_iload_n 5 rfl rfl ?_
  by_cases c36_0 : x1 = 0
  · obtain ⟨B, -⟩ := B
    refine z_tableIn 6 80 rfl 0 (by rw [c36_0]; decide) (by decide) (by decide) rfl (by decide) ?_
    have B := B c36_0
    refine z_aload_n 7 rfl rfl ?_
    obtain ⟨r2, hr2, B⟩ := B
    refine z_getR 8 rfl lX10_13 rfl o1 hr2 ?_
    refine z_iconst (v := 0) 9 rfl (by decide) ?_
    obtain ⟨o3, B⟩ := B
    obtain ⟨o4, B⟩ := B
    refine z_iald 10 rfl o3 o4 ?_
    exact z_iret 11 rfl rfl rfl ⟨rfl, rfl⟩ ⟨_, rfl, B⟩
  obtain ⟨-, B⟩ := B
  by_cases c36_1 : x1 = 1
  · obtain ⟨B, -⟩ := B
    refine z_tableIn 6 87 rfl 1 (by rw [c36_1]; decide) (by decide) (by decide) rfl (by decide) ?_
    have B := B c36_1
    refine z_aload_n 12 rfl rfl ?_
    obtain ⟨r5, hr5, B⟩ := B
    refine z_getR 13 rfl lX10_13 rfl o1 hr5 ?_
    refine z_iconst (v := 1) 14 rfl (by decide) ?_
    obtain ⟨o6, B⟩ := B
    obtain ⟨o7, B⟩ := B
    refine z_iald 15 rfl o6 o7 ?_
    exact z_iret 16 rfl rfl rfl ⟨rfl, rfl⟩ ⟨_, rfl, B⟩
  obtain ⟨-, B⟩ := B
  by_cases c36_2 : x1 = 2
  · obtain ⟨B, -⟩ := B
    refine z_tableIn 6 94 rfl 2 (by rw [c36_2]; decide) (by decide) (by decide) rfl (by decide) ?_
    have B := B c36_2
    refine z_aload_n 17 rfl rfl ?_
    obtain ⟨r8, hr8, B⟩ := B
    refine z_getR 18 rfl lX10_13 rfl o1 hr8 ?_
    refine z_iconst (v := 3) 19 rfl (by decide) ?_
    obtain ⟨o9, B⟩ := B
    obtain ⟨o10, B⟩ := B
    refine z_iald 20 rfl o9 o10 ?_
    exact z_iret 21 rfl rfl rfl ⟨rfl, rfl⟩ ⟨_, rfl, B⟩
  obtain ⟨-, B⟩ := B
  by_cases c36_3 : x1 = 3
  · obtain ⟨B, -⟩ := B
    refine z_tableIn 6 101 rfl 3 (by rw [c36_3]; decide) (by decide) (by decide) rfl (by decide) ?_
    have B := B c36_3
    refine z_aload_n 22 rfl rfl ?_
    obtain ⟨r11, hr11, B⟩ := B
    refine z_getR 23 rfl lX10_13 rfl o1 hr11 ?_
    refine z_iconst (v := 4) 24 rfl (by decide) ?_
    obtain ⟨o12, B⟩ := B
    obtain ⟨o13, B⟩ := B
    refine z_iald 25 rfl o12 o13 ?_
    exact z_iret 26 rfl rfl rfl ⟨rfl, rfl⟩ ⟨_, rfl, B⟩
  obtain ⟨-, B⟩ := B
  by_cases c36_4 : x1 = 4
  · obtain ⟨B, -⟩ := B
    refine z_tableIn 6 108 rfl 4 (by rw [c36_4]; decide) (by decide) (by decide) rfl (by decide) ?_
    have B := B c36_4
    refine z_aload_n 27 rfl rfl ?_
    obtain ⟨r14, hr14, B⟩ := B
    refine z_getR 28 rfl lX10_13 rfl o1 hr14 ?_
    refine z_iconst (v := 2) 29 rfl (by decide) ?_
    obtain ⟨o15, B⟩ := B
    obtain ⟨o16, B⟩ := B
    refine z_iald 30 rfl o15 o16 ?_
    exact z_iret 31 rfl rfl rfl ⟨rfl, rfl⟩ ⟨_, rfl, B⟩
  obtain ⟨-, B⟩ := B
  by_cases c36_5 : x1 = 5
  · obtain ⟨B, -⟩ := B
    refine z_tableIn 6 115 rfl 5 (by rw [c36_5]; decide) (by decide) (by decide) rfl (by decide) ?_
    have B := B c36_5
    refine z_aload_n 32 rfl rfl ?_
    obtain ⟨r17, hr17, B⟩ := B
    refine z_getR 33 rfl lX10_13 rfl o1 hr17 ?_
    refine z_bipush (v := 7) 34 rfl (by decide) ?_
    obtain ⟨o18, B⟩ := B
    obtain ⟨o19, B⟩ := B
    refine z_iald 35 rfl o18 o19 ?_
    exact z_iret 36 rfl rfl rfl ⟨rfl, rfl⟩ ⟨_, rfl, B⟩
  obtain ⟨-, B⟩ := B
  by_cases c36_6 : x1 = 6
  · obtain ⟨B, -⟩ := B
    refine z_tableIn 6 123 rfl 6 (by rw [c36_6]; decide) (by decide) (by decide) rfl (by decide) ?_
    have B := B c36_6
    refine z_aload_n 37 rfl rfl ?_
    obtain ⟨r20, hr20, B⟩ := B
    refine z_getR 38 rfl lX10_69 rfl o1 hr20 ?_
    refine z_iconst (v := 0) 39 rfl (by decide) ?_
    obtain ⟨o21, B⟩ := B
    obtain ⟨o22, B⟩ := B
    refine z_iald 40 rfl o21 o22 ?_
    exact z_iret 41 rfl rfl rfl ⟨rfl, rfl⟩ ⟨_, rfl, B⟩
  obtain ⟨-, B⟩ := B
  by_cases c36_7 : x1 = 7
  · obtain ⟨B, -⟩ := B
    refine z_tableIn 6 130 rfl 7 (by rw [c36_7]; decide) (by decide) (by decide) rfl (by decide) ?_
    have B := B c36_7
    refine z_aload_n 42 rfl rfl ?_
    obtain ⟨r23, hr23, B⟩ := B
    refine z_getR 43 rfl lX10_72 rfl o1 hr23 ?_
    refine z_iconst (v := 0) 44 rfl (by decide) ?_
    obtain ⟨o24, B⟩ := B
    obtain ⟨o25, B⟩ := B
    refine z_iald 45 rfl o24 o25 ?_
    exact z_iret 46 rfl rfl rfl ⟨rfl, rfl⟩ ⟨_, rfl, B⟩
  obtain ⟨-, B⟩ := B
  by_cases c36_8 : x1 = 8
  · obtain ⟨B, -⟩ := B
    refine z_tableIn 6 137 rfl 8 (by rw [c36_8]; decide) (by decide) (by decide) rfl (by decide) ?_
    have B := B c36_8
    refine z_aload_n 47 rfl rfl ?_
    obtain ⟨r26, hr26, B⟩ := B
    refine z_getR 48 rfl lX10_75 rfl o1 hr26 ?_
    refine z_iconst (v := 0) 49 rfl (by decide) ?_
    obtain ⟨o27, B⟩ := B
    obtain ⟨o28, B⟩ := B
    refine z_iald 50 rfl o27 o28 ?_
    exact z_iret 51 rfl rfl rfl ⟨rfl, rfl⟩ ⟨_, rfl, B⟩
  obtain ⟨-, B⟩ := B
  by_cases c36_9 : x1 = 9
  · obtain ⟨B, -⟩ := B
    refine z_tableIn 6 144 rfl 9 (by rw [c36_9]; decide) (by decide) (by decide) rfl (by decide) ?_
    have B := B c36_9
    refine z_aload_n 52 rfl rfl ?_
    obtain ⟨r29, hr29, B⟩ := B
    refine z_getR 53 rfl lX10_78 rfl o1 hr29 ?_
    refine z_iconst (v := 0) 54 rfl (by decide) ?_
    obtain ⟨o30, B⟩ := B
    obtain ⟨o31, B⟩ := B
    refine z_iald 55 rfl o30 o31 ?_
    exact z_iret 56 rfl rfl rfl ⟨rfl, rfl⟩ ⟨_, rfl, B⟩
  obtain ⟨-, B⟩ := B
  by_cases c36_10 : x1 = 10
  · obtain ⟨B, -⟩ := B
    refine z_tableIn 6 151 rfl 10 (by rw [c36_10]; decide) (by decide) (by decide) rfl (by decide) ?_
    have B := B c36_10
    refine z_iconst (v := 0) 57 rfl (by decide) ?_
    refine z_istore_n 58 rfl (by decide) rfl ?_
    exact B
  obtain ⟨-, B⟩ := B
  by_cases c36_11 : x1 = 11
  · obtain ⟨B, -⟩ := B
    refine z_tableIn 6 180 rfl 11 (by rw [c36_11]; decide) (by decide) (by decide) rfl (by decide) ?_
    have B := B c36_11
    refine z_aload_n 76 rfl rfl ?_
    refine z_getI 77 rfl lX10_316 rfl o1 ?_
    exact z_iret 78 rfl rfl rfl ⟨rfl, rfl⟩ ⟨_, rfl, B⟩
  obtain ⟨-, B⟩ := B
  by_cases c36_12 : x1 = 12
  · obtain ⟨B, -⟩ := B
    refine z_tableIn 6 185 rfl 12 (by rw [c36_12]; decide) (by decide) (by decide) rfl (by decide) ?_
    have B := B c36_12
    refine z_aload_n 79 rfl rfl ?_
    obtain ⟨Q32, K34, B⟩ := B
    refine z_cVI0 (ν := mX10_knownMany) 80 rfl rfl fX10_knownMany gX10_464 ⟨_, rfl, rfl⟩ (by decide) o1 (Nat.le_of_ble_eq_true rfl) K34 (fun v35 h33 q => ?_)
    have B := B v35 h33 q
    exact z_iret 81 rfl rfl rfl ⟨rfl, rfl⟩ ⟨_, rfl, B⟩
  obtain ⟨-, B⟩ := B
  by_cases c36_13 : x1 = 13
  · obtain ⟨B, -⟩ := B
    refine z_tableIn 6 190 rfl 13 (by rw [c36_13]; decide) (by decide) (by decide) rfl (by decide) ?_
    have B := B c36_13
    refine z_aload_n 82 rfl rfl ?_
    refine z_getI 83 rfl lX10_323 rfl o1 ?_
    exact z_iret 84 rfl rfl rfl ⟨rfl, rfl⟩ ⟨_, rfl, B⟩
  obtain ⟨-, B⟩ := B
  have B := B c36_0 c36_1 c36_2 c36_3 c36_4 c36_5 c36_6 c36_7 c36_8 c36_9 c36_10 c36_11 c36_12 c36_13
  refine z_tableD 6 195 rfl (by decide) (by
    intro z1 z2
    refine zsw_X10_count_8 z1 z2 c36_0 c36_1 c36_2 c36_3 c36_4 c36_5 c36_6 c36_7 c36_8 c36_9 c36_10 c36_11 c36_12 c36_13) ?_
  refine z_iconst (v := -1) 85 rfl (by decide) ?_
  exact z_iret 86 rfl rfl rfl ⟨rfl, rfl⟩ ⟨_, rfl, B⟩
theorem cn_X10_count {G : zG} {d : Nat} {h : zMem} {Q : Int32 → zMem → Prop} {a0 : Nat} {x1 : Int32} (B : zg G mX10_count (d + 1) 0 [.ref a0, .int x1, zU, zU] [] h (zPI Q)) : zConI G mX10_count (d + 1) [.ref a0, .int x1] h Q := zcon0 (by decide +kernel) eX10_count (Nat.le_of_ble_eq_true rfl) rfl B
set_option maxRecDepth 100000 in
set_option maxHeartbeats 4000000 in
theorem sg_X10_count_153 {G : zG} {d : Nat} {h : zMem} {Q : Int32 → zMem → Prop} {a0 : Nat} {x1 : Int32} {x2 : Int32} {x3 : Int32} (B : zO h a0 9 ∧ ∃ r2, zR h a0 3 = some r2 ∧ zO h r2 100 ∧ vp_in (0 : Int32) (zLen h r2) ∧ ((zI h r2 (0 : Int32).toNatClampNeg) ≤ x3 → Q x2 h) ∧ (¬ (zI h r2 (0 : Int32).toNatClampNeg) ≤ x3 → ∃ r6, zR h a0 39 = some r6 ∧ zO h r6 100 ∧ vp_in x3 (zLen h r6) ∧ zg G mX10_count (d + 1) 153 [.ref a0, .int x1, .int (x2 + (zI h r6 x3.toNatClampNeg)), .int (x3 + 1)] [] h (zPI Q))) : zg G mX10_count (d + 1) 153 [.ref a0, .int x1, .int x2, .int x3] [] h (zPI Q) := by
  refine z_iload_n 59 rfl rfl ?_
  refine z_aload_n 60 rfl rfl ?_
  obtain ⟨o1, B⟩ := B
  obtain ⟨r2, hr2, B⟩ := B
  refine z_getR 61 rfl lX10_13 rfl o1 hr2 ?_
  refine z_iconst (v := 0) 62 rfl (by decide) ?_
  obtain ⟨o3, B⟩ := B
  obtain ⟨o4, B⟩ := B
  refine z_iald 63 rfl o3 o4 ?_
  refine z_icmp_ge 64 178 rfl (by decide) ⟨fun c5 => ?_, fun c5 => ?_⟩
  · have B := B.1 c5
    refine z_iload_n 74 rfl rfl ?_
    exact z_iret 75 rfl rfl rfl ⟨rfl, rfl⟩ ⟨_, rfl, B⟩
  · have B := B.2 c5
    refine z_iload_n 65 rfl rfl ?_
    refine z_aload_n 66 rfl rfl ?_
    obtain ⟨r6, hr6, B⟩ := B
    refine z_getR 67 rfl lX10_84 rfl o1 hr6 ?_
    refine z_iload_n 68 rfl rfl ?_
    obtain ⟨o7, B⟩ := B
    obtain ⟨o8, B⟩ := B
    refine z_iald 69 rfl o7 o8 ?_
    refine z_iadd 70 rfl ?_
    refine z_istore_n 71 rfl (by decide) rfl ?_
    refine z_iinc (v := 1) 72 rfl rfl (by decide) (by decide) rfl ?_
    refine z_goto 73 153 rfl (by decide) ?_
    exact B
