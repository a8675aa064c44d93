set_option maxRecDepth 100000 in
set_option maxHeartbeats 4000000 in
theorem sg_X10_thrown_0 {G : zG} {d : Nat} {h : zMem} {Q : Int32 → zMem → Prop} {a0 : Nat} (B : zO h a0 9 ∧ Q (zI h a0 0) h) : zg G mX10_thrown d 0 [.ref a0] [] h (zPI Q) := by
  refine z_aload_n 0 rfl rfl ?_
  obtain ⟨o1, B⟩ := B
  refine z_getI 1 rfl lX10_160 rfl o1 ?_
  exact z_iret 2 rfl rfl rfl ⟨rfl, rfl⟩ ⟨_, rfl, B⟩
theorem cn_X10_thrown {G : zG} {d : Nat} {h : zMem} {Q : Int32 → zMem → Prop} {a0 : Nat} (B : zg G mX10_thrown d 0 [.ref a0] [] h (zPI Q)) : zConI G mX10_thrown d [.ref a0] h Q := zcon0 (by decide +kernel) eX10_thrown (Nat.le_of_ble_eq_true rfl) rfl B
set_option maxRecDepth 100000 in
set_option maxHeartbeats 4000000 in
theorem sg_X10_feed_0 {G : zG} {d : Nat} {h : zMem} {Q : Int32 → zMem → Prop} {a0 : Nat} {x1 : Int32} {x2 : Int32} {x3 : Int32} {x4 : Int32} {x5 : Int32} (B : zO h a0 9 ∧ ((zI (zsI h a0 0 (0 : Int32)) a0 2) ≤ (680 : Int32) → zg G mX10_feed d 20 [.ref a0, .int x1, .int x2, .int x3, .int x4, .int x5, .int (0 : Int32), zU] [] (zsI h a0 0 (0 : Int32)) (zPI Q)) ∧ (¬ (zI (zsI h a0 0 (0 : Int32)) a0 2) ≤ (680 : Int32) → Q (-1 : Int32) (zsI h a0 0 (0 : Int32)))) : zg G mX10_feed d 0 [.ref a0, .int x1, .int x2, .int x3, .int x4, .int x5, zU, zU] [] h (zPI Q) := by
  refine z_aload_n 0 rfl rfl ?_
  refine z_iconst (v := 0) 1 rfl (by decide) ?_
  obtain ⟨o1, B⟩ := B
  refine z_putI 2 rfl lX10_160 ⟨_, _, _, rfl, rfl⟩ rfl rfl rfl o1 ?_
  refine z_aload_n 3 rfl rfl ?_
  refine z_getI 4 rfl lX10_163 rfl o1 ?_
  refine z_sipush (v := 680) 5 rfl (by decide) ?_
  refine z_icmp_le 6 17 rfl (by decide) ⟨fun c2 => ?_, fun c2 => ?_⟩
  · have B := B.1 c2
    refine z_iconst (v := 0) 9 rfl (by decide) ?_
    refine z_istore 10 rfl (by decide) rfl ?_
    exact B
  · have B := B.2 c2
    refine z_iconst (v := -1) 7 rfl (by decide) ?_
    exact z_iret 8 rfl rfl rfl ⟨rfl, rfl⟩ ⟨_, rfl, B⟩
theorem cn_X10_feed {G : zG} {d : Nat} {h : zMem} {Q : Int32 → zMem → Prop} {a0 : Nat} {x1 : Int32} {x2 : Int32} {x3 : Int32} {x4 : Int32} {x5 : Int32} (B : zg G mX10_feed d 0 [.ref a0, .int x1, .int x2, .int x3, .int x4, .int x5, zU, zU] [] h (zPI Q)) : zConI G mX10_feed d [.ref a0, .int x1, .int x2, .int x3, .int x4, .int x5] h Q := zcon0 (by decide +kernel) eX10_feed (Nat.le_of_ble_eq_true rfl) rfl B
set_option maxRecDepth 100000 in
set_option maxHeartbeats 4000000 in
theorem sg_X10_feed_20 {G : zG} {d : Nat} {h : zMem} {Q : Int32 → zMem → Prop} {a0 : Nat} {x1 : Int32} {x2 : Int32} {x3 : Int32} {x4 : Int32} {x5 : Int32} {x6 : Int32} (B : ((20 : Int32) ≤ x6 → zO h a0 9 ∧ Q (zI (zsI h a0 2 ((zI h a0 2) + (20 : Int32))) a0 2) (zsI h a0 2 ((zI h a0 2) + (20 : Int32)))) ∧ (¬ (20 : Int32) ≤ x6 → ((4 : Int32) ≤ x6 → ((8 : Int32) ≤ x6 → ((12 : Int32) ≤ x6 → ((16 : Int32) ≤ x6 → zO h a0 9 ∧ ∃ r8, zR h a0 1 = some r8 ∧ zO h r8 100 ∧ vp_in ((zI h a0 2) + x6) (zLen h r8) ∧ zg G mX10_feed d 20 [.ref a0, .int x1, .int x2, .int x3, .int x4, .int x5, .int (x6 + 1), zU] [] (zsI h r8 ((zI h a0 2) + x6).toNatClampNeg ((x5 >>> (((24 : Int32) - ((8 : Int32) * (x6 - x6 / (4 : Int32) * (4 : Int32)))) &&& 31)) &&& (255 : Int32))) (zPI Q)) ∧ (¬ (16 : Int32) ≤ x6 → zO h a0 9 ∧ ∃ r12, zR h a0 1 = some r12 ∧ zO h r12 100 ∧ vp_in ((zI h a0 2) + x6) (zLen h r12) ∧ zg G mX10_feed d 20 [.ref a0, .int x1, .int x2, .int x3, .int x4, .int x5, .int (x6 + 1), zU] [] (zsI h r12 ((zI h a0 2) + x6).toNatClampNeg ((x4 >>> (((24 : Int32) - ((8 : Int32) * (x6 - x6 / (4 : Int32) * (4 : Int32)))) &&& 31)) &&& (255 : Int32))) (zPI Q))) ∧ (¬ (12 : Int32) ≤ x6 → zO h a0 9 ∧ ∃ r16, zR h a0 1 = some r16 ∧ zO h r16 100 ∧ vp_in ((zI h a0 2) + x6) (zLen h r16) ∧ zg G mX10_feed d 20 [.ref a0, .int x1, .int x2, .int x3, .int x4, .int x5, .int (x6 + 1), zU] [] (zsI h r16 ((zI h a0 2) + x6).toNatClampNeg ((x3 >>> (((24 : Int32) - ((8 : Int32) * (x6 - x6 / (4 : Int32) * (4 : Int32)))) &&& 31)) &&& (255 : Int32))) (zPI Q))) ∧ (¬ (8 : Int32) ≤ x6 → zO h a0 9 ∧ ∃ r20, zR h a0 1 = some r20 ∧ zO h r20 100 ∧ vp_in ((zI h a0 2) + x6) (zLen h r20) ∧ zg G mX10_feed d 20 [.ref a0, .int x1, .int x2, .int x3, .int x4, .int x5, .int (x6 + 1), zU] [] (zsI h r20 ((zI h a0 2) + x6).toNatClampNeg ((x2 >>> (((24 : Int32) - ((8 : Int32) * (x6 - x6 / (4 : Int32) * (4 : Int32)))) &&& 31)) &&& (255 : Int32))) (zPI Q))) ∧ (¬ (4 : Int32) ≤ x6 → zO h a0 9 ∧ ∃ r24, zR h a0 1 = some r24 ∧ zO h r24 100 ∧ vp_in ((zI h a0 2) + x6) (zLen h r24) ∧ zg G mX10_feed d 20 [.ref a0, .int x1, .int x2, .int x3, .int x4, .int x5, .int (x6 + 1), zU] [] (zsI h r24 ((zI h a0 2) + x6).toNatClampNeg ((x1 >>> (((24 : Int32) - ((8 : Int32) * (x6 - x6 / (4 : Int32) * (4 : Int32)))) &&& 31)) &&& (255 : Int32))) (zPI Q)))) : zg G mX10_feed d 20 [.ref a0, .int x1, .int x2, .int x3, .int x4, .int x5, .int x6, zU] [] h (zPI Q) := by
  refine z_iload 11 rfl rfl ?_
  refine z_bipush (v := 20) 12 rfl (by decide) ?_
  refine z_icmp_ge 13 110 rfl (by decide) ⟨fun c1 => ?_, fun c1 => ?_⟩
  · have B := B.1 c1
    refine z_aload_n 56 rfl rfl ?_
    refine z_dup 57 rfl rfl ?_
    obtain ⟨o2, B⟩ := B
    refine z_getI 58 rfl lX10_163 rfl o2 ?_
    refine z_bipush (v := 20) 59 rfl (by decide) ?_
    refine z_iadd 60 rfl ?_
    refine z_putI 61 rfl lX10_163 ⟨_, _, _, rfl, rfl⟩ rfl rfl rfl o2 ?_
    refine z_aload_n 62 rfl rfl ?_
    refine z_getI 63 rfl lX10_163 rfl o2 ?_
    exact z_iret 64 rfl rfl rfl ⟨rfl, rfl⟩ ⟨_, rfl, B⟩
  · have B := B.2 c1
    refine z_iload 14 rfl rfl ?_
    refine z_iconst (v := 4) 15 rfl (by decide) ?_
    refine z_icmp_ge 16 37 rfl (by decide) ⟨fun c3 => ?_, fun c3 => ?_⟩
    · have B := B.1 c3
      refine z_iload 19 rfl rfl ?_
      refine z_bipush (v := 8) 20 rfl (by decide) ?_
      refine z_icmp_ge 21 48 rfl (by decide) ⟨fun c4 => ?_, fun c4 => ?_⟩
      · have B := B.1 c4
        refine z_iload 24 rfl rfl ?_
        refine z_bipush (v := 12) 25 rfl (by decide) ?_
        refine z_icmp_ge 26 59 rfl (by decide) ⟨fun c5 => ?_, fun c5 => ?_⟩
        · have B := B.1 c5
          refine z_iload 29 rfl rfl ?_
          refine z_bipush (v := 16) 30 rfl (by decide) ?_
          refine z_icmp_ge 31 71 rfl (by decide) ⟨fun c6 => ?_, fun c6 => ?_⟩
          · have B := B.1 c6
            refine z_iload 34 rfl rfl ?_
            refine z_istore 35 rfl (by decide) rfl ?_
            refine z_aload_n 36 rfl rfl ?_
            obtain ⟨o7, B⟩ := B
            obtain ⟨r8, hr8, B⟩ := B
            refine z_getR 37 rfl lX10_7 rfl o7 hr8 ?_
            refine z_aload_n 38 rfl rfl ?_
            refine z_getI 39 rfl lX10_163 rfl o7 ?_
            refine z_iload 40 rfl rfl ?_
            refine z_iadd 41 rfl ?_
            refine z_iload 42 rfl rfl ?_
            refine z_bipush (v := 24) 43 rfl (by decide) ?_
            refine z_bipush (v := 8) 44 rfl (by decide) ?_
            refine z_iload 45 rfl rfl ?_
            refine z_iconst (v := 4) 46 rfl (by decide) ?_
            refine z_irem 47 rfl (by decide) ?_
            refine z_imul 48 rfl ?_
            refine z_isub 49 rfl ?_
            refine z_ishr 50 rfl ?_
            refine z_sipush (v := 255) 51 rfl (by decide) ?_
            refine z_iand 52 rfl ?_
            obtain ⟨o9, B⟩ := B
            obtain ⟨o10, B⟩ := B
            refine z_iast 53 rfl o9 o10 ?_
            refine z_iinc (v := 1) 54 rfl rfl (by decide) (by decide) rfl ?_
            refine z_goto 55 20 rfl (by decide) ?_
            refine z_drop 7 ?_
            exact B
          · have B := B.2 c6
            refine z_iload 32 rfl rfl ?_
            refine z_goto 33 73 rfl (by decide) ?_
            refine z_istore 35 rfl (by decide) rfl ?_
            refine z_aload_n 36 rfl rfl ?_
            obtain ⟨o11, B⟩ := B
            obtain ⟨r12, hr12, B⟩ := B
            refine z_getR 37 rfl lX10_7 rfl o11 hr12 ?_
            refine z_aload_n 38 rfl rfl ?_
            refine z_getI 39 rfl lX10_163 rfl o11 ?_
            refine z_iload 40 rfl rfl ?_
            refine z_iadd 41 rfl ?_
            refine z_iload 42 rfl rfl ?_
            refine z_bipush (v := 24) 43 rfl (by decide) ?_
            refine z_bipush (v := 8) 44 rfl (by decide) ?_
            refine z_iload 45 rfl rfl ?_
            refine z_iconst (v := 4) 46 rfl (by decide) ?_
            refine z_irem 47 rfl (by decide) ?_
            refine z_imul 48 rfl ?_
            refine z_isub 49 rfl ?_
            refine z_ishr 50 rfl ?_
            refine z_sipush (v := 255) 51 rfl (by decide) ?_
            refine z_iand 52 rfl ?_
            obtain ⟨o13, B⟩ := B
            obtain ⟨o14, B⟩ := B
            refine z_iast 53 rfl o13 o14 ?_
            refine z_iinc (v := 1) 54 rfl rfl (by decide) (by decide) rfl ?_
            refine z_goto 55 20 rfl (by decide) ?_
            refine z_drop 7 ?_
            exact B
        · have B := B.2 c5
          refine z_iload_n 27 rfl rfl ?_
          refine z_goto 28 73 rfl (by decide) ?_
          refine z_istore 35 rfl (by decide) rfl ?_
          refine z_aload_n 36 rfl rfl ?_
          obtain ⟨o15, B⟩ := B
          obtain ⟨r16, hr16, B⟩ := B
          refine z_getR 37 rfl lX10_7 rfl o15 hr16 ?_
          refine z_aload_n 38 rfl rfl ?_
          refine z_getI 39 rfl lX10_163 rfl o15 ?_
          refine z_iload 40 rfl rfl ?_
          refine z_iadd 41 rfl ?_
          refine z_iload 42 rfl rfl ?_
          refine z_bipush (v := 24) 43 rfl (by decide) ?_
          refine z_bipush (v := 8) 44 rfl (by decide) ?_
          refine z_iload 45 rfl rfl ?_
          refine z_iconst (v := 4) 46 rfl (by decide) ?_
          refine z_irem 47 rfl (by decide) ?_
          refine z_imul 48 rfl ?_
          refine z_isub 49 rfl ?_
          refine z_ishr 50 rfl ?_
          refine z_sipush (v := 255) 51 rfl (by decide) ?_
          refine z_iand 52 rfl ?_
          obtain ⟨o17, B⟩ := B
          obtain ⟨o18, B⟩ := B
          refine z_iast 53 rfl o17 o18 ?_
          refine z_iinc (v := 1) 54 rfl rfl (by decide) (by decide) rfl ?_
          refine z_goto 55 20 rfl (by decide) ?_
          refine z_drop 7 ?_
          exact B
      · have B := B.2 c4
        refine z_iload_n 22 rfl rfl ?_
        refine z_goto 23 73 rfl (by decide) ?_
        refine z_istore 35 rfl (by decide) rfl ?_
        refine z_aload_n 36 rfl rfl ?_
        obtain ⟨o19, B⟩ := B
        obtain ⟨r20, hr20, B⟩ := B
        refine z_getR 37 rfl lX10_7 rfl o19 hr20 ?_
        refine z_aload_n 38 rfl rfl ?_
        refine z_getI 39 rfl lX10_163 rfl o19 ?_
        refine z_iload 40 rfl rfl ?_
        refine z_iadd 41 rfl ?_
        refine z_iload 42 rfl rfl ?_
        refine z_bipush (v := 24) 43 rfl (by decide) ?_
        refine z_bipush (v := 8) 44 rfl (by decide) ?_
        refine z_iload 45 rfl rfl ?_
        refine z_iconst (v := 4) 46 rfl (by decide) ?_
        refine z_irem 47 rfl (by decide) ?_
        refine z_imul 48 rfl ?_
        refine z_isub 49 rfl ?_
        refine z_ishr 50 rfl ?_
        refine z_sipush (v := 255) 51 rfl (by decide) ?_
        refine z_iand 52 rfl ?_
        obtain ⟨o21, B⟩ := B
        obtain ⟨o22, B⟩ := B
        refine z_iast 53 rfl o21 o22 ?_
        refine z_iinc (v := 1) 54 rfl rfl (by decide) (by decide) rfl ?_
        refine z_goto 55 20 rfl (by decide) ?_
        refine z_drop 7 ?_
        exact B
    · have B := B.2 c3
      refine z_iload_n 17 rfl rfl ?_
      refine z_goto 18 73 rfl (by decide) ?_
      refine z_istore 35 rfl (by decide) rfl ?_
      refine z_aload_n 36 rfl rfl ?_
      obtain ⟨o23, B⟩ := B
      obtain ⟨r24, hr24, B⟩ := B
      refine z_getR 37 rfl lX10_7 rfl o23 hr24 ?_
      refine z_aload_n 38 rfl rfl ?_
      refine z_getI 39 rfl lX10_163 rfl o23 ?_
      refine z_iload 40 rfl rfl ?_
      refine z_iadd 41 rfl ?_
      refine z_iload 42 rfl rfl ?_
      refine z_bipush (v := 24) 43 rfl (by decide) ?_
      refine z_bipush (v := 8) 44 rfl (by decide) ?_
      refine z_iload 45 rfl rfl ?_
      refine z_iconst (v := 4) 46 rfl (by decide) ?_
      refine z_irem 47 rfl (by decide) ?_
      refine z_imul 48 rfl ?_
      refine z_isub 49 rfl ?_
      refine z_ishr 50 rfl ?_
      refine z_sipush (v := 255) 51 rfl (by decide) ?_
      refine z_iand 52 rfl ?_
      obtain ⟨o25, B⟩ := B
      obtain ⟨o26, B⟩ := B
      refine z_iast 53 rfl o25 o26 ?_
      refine z_iinc (v := 1) 54 rfl rfl (by decide) (by decide) rfl ?_
      refine z_goto 55 20 rfl (by decide) ?_
      refine z_drop 7 ?_
      exact B
set_option maxRecDepth 100000 in
set_option maxHeartbeats 4000000 in
theorem sg_X10_here_0 {G : zG} {d : Nat} {h : zMem} {Q : Int32 → zMem → Prop} {a0 : Nat} (B : zO h a0 9 ∧ ((zI h a0 20) ≤ (zI h a0 21) → Q (-1 : Int32) h) ∧ (¬ (zI h a0 20) ≤ (zI h a0 21) → ∃ r3, zR h a0 1 = some r3 ∧ zO h r3 100 ∧ vp_in (zI h a0 21) (zLen h r3) ∧ Q (zI h r3 (zI h a0 21).toNatClampNeg) h)) : zg G mX10_here d 0 [.ref a0] [] h (zPI Q) := by
  refine z_aload_n 0 rfl rfl ?_
  obtain ⟨o1, B⟩ := B
  refine z_getI 1 rfl lX10_166 rfl o1 ?_
  refine z_aload_n 2 rfl rfl ?_
  refine z_getI 3 rfl lX10_169 rfl o1 ?_
  refine z_icmp_ge 4 23 rfl (by decide) ⟨fun c2 => ?_, fun c2 => ?_⟩
  · have B := B.1 c2
    refine z_iconst (v := -1) 11 rfl (by decide) ?_
    exact z_iret 12 rfl rfl rfl ⟨rfl, rfl⟩ ⟨_, rfl, B⟩
  · have B := B.2 c2
    refine z_aload_n 5 rfl rfl ?_
    obtain ⟨r3, hr3, B⟩ := B
    refine z_getR 6 rfl lX10_7 rfl o1 hr3 ?_
    refine z_aload_n 7 rfl rfl ?_
    refine z_getI 8 rfl lX10_166 rfl o1 ?_
    obtain ⟨o4, B⟩ := B
    obtain ⟨o5, B⟩ := B
    refine z_iald 9 rfl o4 o5 ?_
    refine z_goto 10 24 rfl (by decide) ?_
    exact z_iret 12 rfl rfl rfl ⟨rfl, rfl⟩ ⟨_, rfl, B⟩
theorem cn_X10_here {G : zG} {d : Nat} {h : zMem} {Q : Int32 → zMem → Prop} {a0 : Nat} (B : zg G mX10_here d 0 [.ref a0] [] h (zPI Q)) : zConI G mX10_here d [.ref a0] h Q := zcon0 (by decide +kernel) eX10_here (Nat.le_of_ble_eq_true rfl) rfl B
set_option maxRecDepth 100000 in
set_option maxHeartbeats 4000000 in
theorem sg_X10_isSmall_0 {G : zG} {d : Nat} {h : zMem} {Q : Int32 → zMem → Prop} {x0 : Int32} (B : (x0 < (97 : Int32) → Q (0 : Int32) h) ∧ (¬ x0 < (97 : Int32) → ((122 : Int32) < x0 → Q (0 : Int32) h) ∧ (¬ (122 : Int32) < x0 → Q (1 : Int32) h))) : zg G mX10_isSmall d 0 [.int x0] [] h (zPI Q) := by
  refine z_iload_n 0 rfl rfl ?_
  refine z_bipush (v := 97) 1 rfl (by decide) ?_
  refine z_icmp_lt 2 16 rfl (by decide) ⟨fun c1 => ?_, fun c1 => ?_⟩
  · have B := B.1 c1
    refine z_iconst (v := 0) 8 rfl (by decide) ?_
    exact z_iret 9 rfl rfl rfl ⟨rfl, rfl⟩ ⟨_, rfl, B⟩
  · have B := B.2 c1
    refine z_iload_n 3 rfl rfl ?_
    refine z_bipush (v := 122) 4 rfl (by decide) ?_
    refine z_icmp_gt 5 16 rfl (by decide) ⟨fun c2 => ?_, fun c2 => ?_⟩
    · have B := B.1 c2
      refine z_iconst (v := 0) 8 rfl (by decide) ?_
      exact z_iret 9 rfl rfl rfl ⟨rfl, rfl⟩ ⟨_, rfl, B⟩
    · have B := B.2 c2
      refine z_iconst (v := 1) 6 rfl (by decide) ?_
      refine z_goto 7 17 rfl (by decide) ?_
      exact z_iret 9 rfl rfl rfl ⟨rfl, rfl⟩ ⟨_, rfl, B⟩
theorem cn_X10_isSmall {G : zG} {d : Nat} {h : zMem} {Q : Int32 → zMem → Prop} {x0 : Int32} (B : zg G mX10_isSmall d 0 [.int x0] [] h (zPI Q)) : zConI G mX10_isSmall d [.int x0] h Q := zcon0 (by decide +kernel) eX10_isSmall (Nat.le_of_ble_eq_true rfl) rfl B
set_option maxRecDepth 100000 in
set_option maxHeartbeats 4000000 in
theorem sg_X10_isDigit_0 {G : zG} {d : Nat} {h : zMem} {Q : Int32 → zMem → Prop} {x0 : Int32} (B : (x0 < (48 : Int32) → Q (0 : Int32) h) ∧ (¬ x0 < (48 : Int32) → ((57 : Int32) < x0 → Q (0 : Int32) h) ∧ (¬ (57 : Int32) < x0 → Q (1 : Int32) h))) : zg G mX10_isDigit d 0 [.int x0] [] h (zPI Q) := by
  refine z_iload_n 0 rfl rfl ?_
  refine z_bipush (v := 48) 1 rfl (by decide) ?_
  refine z_icmp_lt 2 16 rfl (by decide) ⟨fun c1 => ?_, fun c1 => ?_⟩
  · have B := B.1 c1
    refine z_iconst (v := 0) 8 rfl (by decide) ?_
    exact z_iret 9 rfl rfl rfl ⟨rfl, rfl⟩ ⟨_, rfl, B⟩
  · have B := B.2 c1
    refine z_iload_n 3 rfl rfl ?_
    refine z_bipush (v := 57) 4 rfl (by decide) ?_
    refine z_icmp_gt 5 16 rfl (by decide) ⟨fun c2 => ?_, fun c2 => ?_⟩
    · have B := B.1 c2
      refine z_iconst (v := 0) 8 rfl (by decide) ?_
      exact z_iret 9 rfl rfl rfl ⟨rfl, rfl⟩ ⟨_, rfl, B⟩
    · have B := B.2 c2
      refine z_iconst (v := 1) 6 rfl (by decide) ?_
      refine z_goto 7 17 rfl (by decide) ?_
      exact z_iret 9 rfl rfl rfl ⟨rfl, rfl⟩ ⟨_, rfl, B⟩
theorem cn_X10_isDigit {G : zG} {d : Nat} {h : zMem} {Q : Int32 → zMem → Prop} {x0 : Int32} (B : zg G mX10_isDigit d 0 [.int x0] [] h (zPI Q)) : zConI G mX10_isDigit d [.int x0] h Q := zcon0 (by decide +kernel) eX10_isDigit (Nat.le_of_ble_eq_true rfl) rfl B
set_option maxRecDepth 100000 in
set_option maxHeartbeats 4000000 in
theorem sg_X10_token_0 {G : zG} {d : Nat} {h : zMem} {Q : zMem → Prop} {a0 : Nat} (B : zO h a0 9 ∧ ∃ Q1 : Int32 → zMem → Prop, zConI G mX10_here d [.ref a0] h Q1 ∧ (∀ v4 h2, Q1 v4 h2 → (v4 = (10 : Int32) → zO h2 a0 9 ∧ zg G mX10_token (d + 1) 0 [.ref a0, zU] [] (zsI h2 a0 21 ((zI h2 a0 21) + (1 : Int32))) (zPV Q)) ∧ (¬ v4 = (10 : Int32) → zO h2 a0 9 ∧ ∃ Q7 : Int32 → zMem → Prop, zConI G mX10_here d [.ref a0] h2 Q7 ∧ (∀ v10 h8, Q7 v10 h8 → (¬ v10 = (32 : Int32) → zO h8 a0 9 ∧ ∃ Q13 : Int32 → zMem → Prop, zConI G mX10_here d [.ref a0] (zsI h8 a0 22 (zI h8 a0 21)) Q13 ∧ (∀ v16 h14, Q13 v16 h14 → (¬ v16 = (-1 : Int32) → ∃ Q18 : Int32 → zMem → Prop, zConI G mX10_isSmall d [.int v16] h14 Q18 ∧ (∀ v21 h19, Q18 v21 h19 → (v21 = 0 → ∃ Q23 : Int32 → zMem → Prop, zConI G mX10_isDigit d [.int v16] h19 Q23 ∧ (∀ v26 h24, Q23 v26 h24 → (v26 = 0 → zO h24 a0 9 ∧ ∃ Q28 : zMem → Prop, zConV G mX10_sign d [.ref a0, .int v16] h24 Q28 ∧ (∀ h29, Q28 h29 → Q h29)) ∧ (¬ v26 = 0 → zO h24 a0 9 ∧ zg G mX10_token (d + 1) 162 [.ref a0, .int v16] [] (zsI (zsI h24 a0 23 (2 : Int32)) a0 24 (0 : Int32)) (zPV Q)))) ∧ (¬ v21 = 0 → zg G mX10_token (d + 1) 64 [.ref a0, .int v16] [] h19 (zPV Q)))) ∧ (v16 = (-1 : Int32) → zO h14 a0 9 ∧ Q (zsI h14 a0 23 (4 : Int32))))) ∧ (v10 = (32 : Int32) → zO h8 a0 9 ∧ zg G mX10_token (d + 1) 0 [.ref a0, zU] [] (zsI h8 a0 21 ((zI h8 a0 21) + (1 : Int32))) (zPV Q)))))) : zg G mX10_token (d + 1) 0 [.ref a0, zU] [] h (zPV Q) := by
  refine z_aload_n 0 rfl rfl ?_
  obtain ⟨o36, B⟩ := B
  obtain ⟨Q1, K3, B⟩ := B
  refine z_cVI0 (ν := mX10_here) 1 rfl rfl fX10_here gX10_172 ⟨_, rfl, rfl⟩ (by decide) o36 (Nat.le_of_ble_eq_true rfl) K3 (fun v4 h2 q => ?_)
  have B := B v4 h2 q
  refine z_bipush (v := 10) 2 rfl (by decide) ?_
  refine z_icmp_eq 3 18 rfl (by decide) ⟨fun c5 => ?_, fun c5 => ?_⟩
  · have B := B.1 c5
    refine z_aload_n 8 rfl rfl ?_
    refine z_dup 9 rfl rfl ?_
    obtain ⟨o6, B⟩ := B
    refine z_getI 10 rfl lX10_166 rfl o6 ?_
    refine z_iconst (v := 1) 11 rfl (by decide) ?_
    refine z_iadd 12 rfl ?_
    refine z_putI 13 rfl lX10_166 ⟨_, _, _, rfl, rfl⟩ rfl rfl rfl o6 ?_
    refine z_goto 14 0 rfl (by decide) ?_
    exact B
  · have B := B.2 c5
    refine z_aload_n 4 rfl rfl ?_
    obtain ⟨o35, B⟩ := B
    obtain ⟨Q7, K9, B⟩ := B
    refine z_cVI0 (ν := mX10_here) 5 rfl rfl fX10_here gX10_172 ⟨_, rfl, rfl⟩ (by decide) o35 (Nat.le_of_ble_eq_true rfl) K9 (fun v10 h8 q => ?_)
    have B := B v10 h8 q
    refine z_bipush (v := 32) 6 rfl (by decide) ?_
    refine z_icmp_ne 7 31 rfl (by decide) ⟨fun c11 => ?_, fun c11 => ?_⟩
    · have B := B.1 c11
      refine z_aload_n 15 rfl rfl ?_
      refine z_aload_n 16 rfl rfl ?_
      obtain ⟨o12, B⟩ := B
      refine z_getI 17 rfl lX10_166 rfl o12 ?_
      refine z_putI 18 rfl lX10_176 ⟨_, _, _, rfl, rfl⟩ rfl rfl rfl o12 ?_
      refine z_aload_n 19 rfl rfl ?_
      obtain ⟨Q13, K15, B⟩ := B
      refine z_cVI0 (ν := mX10_here) 20 rfl rfl fX10_here gX10_172 ⟨_, rfl, rfl⟩ (by decide) o12 (Nat.le_of_ble_eq_true rfl) K15 (fun v16 h14 q => ?_)
      have B := B v16 h14 q
      refine z_istore_n 21 rfl (by decide) rfl ?_
      refine z_iload_n 22 rfl rfl ?_
      refine z_iconst (v := -1) 23 rfl (by decide) ?_
      refine z_icmp_ne 24 57 rfl (by decide) ⟨fun c17 => ?_, fun c17 => ?_⟩
      · have B := B.1 c17
        refine z_iload_n 29 rfl rfl ?_
        obtain ⟨Q18, K20, B⟩ := B
        refine z_cSI1 (ν := mX10_isSmall) 30 rfl rfl fX10_isSmall gX10_182 (Nat.le_of_ble_eq_true rfl) K20 (fun v21 h19 q => ?_)
        have B := B v21 h19 q
        refine z_if_eq 31 145 rfl (by decide) ⟨fun c22 => ?_, fun c22 => ?_⟩
        · have B := B.1 c22
          refine z_iload_n 72 rfl rfl ?_
          obtain ⟨Q23, K25, B⟩ := B
          refine z_cSI1 (ν := mX10_isDigit) 73 rfl rfl fX10_isDigit gX10_195 (Nat.le_of_ble_eq_true rfl) K25 (fun v26 h24 q => ?_)
          have B := B v26 h24 q
          refine z_if_eq 74 220 rfl (by decide) ⟨fun c27 => ?_, fun c27 => ?_⟩
          · have B := B.1 c27
            refine z_aload_n 110 rfl rfl ?_
            refine z_iload_n 111 rfl rfl ?_
            obtain ⟨o31, B⟩ := B
            obtain ⟨Q28, K30, B⟩ := B
            refine z_cVV1 (ν := mX10_sign) 112 rfl rfl fX10_sign gX10_199 ⟨_, rfl, rfl⟩ (by decide) o31 (Nat.le_of_ble_eq_true rfl) K30 (fun h29 q => ?_)
            have B := B h29 q
            exact z_vret 113 rfl rfl ⟨rfl, rfl⟩ ⟨rfl, B⟩
          · have B := B.2 c27
            refine z_aload_n 75 rfl rfl ?_
            refine z_iconst (v := 2) 76 rfl (by decide) ?_
            obtain ⟨o32, B⟩ := B
            refine z_putI 77 rfl lX10_179 ⟨_, _, _, rfl, rfl⟩ rfl rfl rfl o32 ?_
            refine z_aload_n 78 rfl rfl ?_
            refine z_iconst (v := 0) 79 rfl (by decide) ?_
            refine z_putI 80 rfl lX10_189 ⟨_, _, _, rfl, rfl⟩ rfl rfl rfl o32 ?_
            exact B
        · have B := B.2 c22
          exact B
      · have B := B.2 c17
        refine z_aload_n 25 rfl rfl ?_
        refine z_iconst (v := 4) 26 rfl (by decide) ?_
        obtain ⟨o33, B⟩ := B
        refine z_putI 27 rfl lX10_179 ⟨_, _, _, rfl, rfl⟩ rfl rfl rfl o33 ?_
        refine z_goto 28 225 rfl (by decide) ?_
        exact z_vret 113 rfl rfl ⟨rfl, rfl⟩ ⟨rfl, B⟩
    · have B := B.2 c11
      refine z_aload_n 8 rfl rfl ?_
      refine z_dup 9 rfl rfl ?_
      obtain ⟨o34, B⟩ := B
      refine z_getI 10 rfl lX10_166 rfl o34 ?_
      refine z_iconst (v := 1) 11 rfl (by decide) ?_
      refine z_iadd 12 rfl ?_
      refine z_putI 13 rfl lX10_166 ⟨_, _, _, rfl, rfl⟩ rfl rfl rfl o34 ?_
      refine z_goto 14 0 rfl (by decide) ?_
      exact B
theorem cn_X10_token {G : zG} {d : Nat} {h : zMem} {Q : zMem → Prop} {a0 : Nat} (B : zg G mX10_token (d + 1) 0 [.ref a0, zU] [] h (zPV Q)) : zConV G mX10_token (d + 1) [.ref a0] h Q := zcon0 (by decide +kernel) eX10_token (Nat.le_of_ble_eq_true rfl) rfl B
set_option maxRecDepth 100000 in
set_option maxHeartbeats 4000000 in
theorem sg_X10_token_64 {G : zG} {d : Nat} {h : zMem} {Q : zMem → Prop} {a0 : Nat} {x1 : Int32} (B : zO h a0 9 ∧ ∃ Q1 : Int32 → zMem → Prop, zConI G mX10_here d [.ref a0] h Q1 ∧ (∀ v4 h2, Q1 v4 h2 → ∃ Q5 : Int32 → zMem → Prop, zConI G mX10_isSmall d [.int v4] h2 Q5 ∧ (∀ v8 h6, Q5 v8 h6 → (v8 = 0 → zO h6 a0 9 ∧ ∃ Q10 : Int32 → zMem → Prop, zConI G mX10_word d [.ref a0] h6 Q10 ∧ (∀ v13 h11, Q10 v13 h11 → zO h11 a0 9 ∧ ((zI (zsI h11 a0 24 v13) a0 24) = (-1 : Int32) → (((zI (zsI h11 a0 24 v13) a0 21) - (zI (zsI h11 a0 24 v13) a0 22)) ≤ (6 : Int32) → (¬ (zI (zsI (zsI h11 a0 24 v13) a0 23 (1 : Int32)) a0 23) = (1 : Int32) → Q (zsI (zsI h11 a0 24 v13) a0 23 (1 : Int32))) ∧ ((zI (zsI (zsI h11 a0 24 v13) a0 23 (1 : Int32)) a0 23) = (1 : Int32) → ∃ Q18 : zMem → Prop, zConV G mX10_name d [.ref a0] (zsI (zsI h11 a0 24 v13) a0 23 (1 : Int32)) Q18 ∧ (∀ h19, Q18 h19 → Q h19))) ∧ (¬ ((zI (zsI h11 a0 24 v13) a0 21) - (zI (zsI h11 a0 24 v13) a0 22)) ≤ (6 : Int32) → (¬ (zI (zsI (zsI h11 a0 24 v13) a0 23 (5 : Int32)) a0 23) = (1 : Int32) → Q (zsI (zsI h11 a0 24 v13) a0 23 (5 : Int32))) ∧ ((zI (zsI (zsI h11 a0 24 v13) a0 23 (5 : Int32)) a0 23) = (1 : Int32) → ∃ Q22 : zMem → Prop, zConV G mX10_name d [.ref a0] (zsI (zsI h11 a0 24 v13) a0 23 (5 : Int32)) Q22 ∧ (∀ h23, Q22 h23 → Q h23)))) ∧ (¬ (zI (zsI h11 a0 24 v13) a0 24) = (-1 : Int32) → (¬ (zI (zsI (zsI h11 a0 24 v13) a0 23 (0 : Int32)) a0 23) = (1 : Int32) → Q (zsI (zsI h11 a0 24 v13) a0 23 (0 : Int32))) ∧ ((zI (zsI (zsI h11 a0 24 v13) a0 23 (0 : Int32)) a0 23) = (1 : Int32) → ∃ Q26 : zMem → Prop, zConV G mX10_name d [.ref a0] (zsI (zsI h11 a0 24 v13) a0 23 (0 : Int32)) Q26 ∧ (∀ h27, Q26 h27 → Q h27))))) ∧ (¬ v8 = 0 → zO h6 a0 9 ∧ zg G mX10_token (d + 1) 64 [.ref a0, .int x1] [] (zsI h6 a0 21 ((zI h6 a0 21) + (1 : Int32))) (zPV Q))))) : zg G mX10_token (d + 1) 64 [.ref a0, .int x1] [] h (zPV Q) := by
  refine z_aload_n 32 rfl rfl ?_
  obtain ⟨o31, B⟩ := B
  obtain ⟨Q1, K3, B⟩ := B
  refine z_cVI0 (ν := mX10_here) 33 rfl rfl fX10_here gX10_172 ⟨_, rfl, rfl⟩ (by decide) o31 (Nat.le_of_ble_eq_true rfl) K3 (fun v4 h2 q => ?_)
  have B := B v4 h2 q
  obtain ⟨Q5, K7, B⟩ := B
  refine z_cSI1 (ν := mX10_isSmall) 34 rfl rfl fX10_isSmall gX10_182 (Nat.le_of_ble_eq_true rfl) K7 (fun v8 h6 q => ?_)
  have B := B v8 h6 q
  refine z_if_eq 35 87 rfl (by decide) ⟨fun c9 => ?_, fun c9 => ?_⟩
  · have B := B.1 c9
    refine z_aload_n 43 rfl rfl ?_
    refine z_aload_n 44 rfl rfl ?_
    obtain ⟨o29, B⟩ := B
    obtain ⟨Q10, K12, B⟩ := B
    refine z_cVI0 (ν := mX10_word) 45 rfl rfl fX10_word gX10_186 ⟨_, rfl, rfl⟩ (by decide) o29 (Nat.le_of_ble_eq_true rfl) K12 (fun v13 h11 q => ?_)
    have B := B v13 h11 q
    obtain ⟨o14, B⟩ := B
    refine z_putI 46 rfl lX10_189 ⟨_, _, _, rfl, rfl⟩ rfl rfl rfl o14 ?_
    refine z_aload_n 47 rfl rfl ?_
    refine z_aload_n 48 rfl rfl ?_
    refine z_getI 49 rfl lX10_189 rfl o14 ?_
    refine z_iconst (v := -1) 50 rfl (by decide) ?_
    refine z_icmp_eq 51 108 rfl (by decide) ⟨fun c15 => ?_, fun c15 => ?_⟩
    · have B := B.1 c15
      refine z_aload_n 54 rfl rfl ?_
      refine z_getI 55 rfl lX10_166 rfl o14 ?_
      refine z_aload_n 56 rfl rfl ?_
      refine z_getI 57 rfl lX10_176 rfl o14 ?_
      refine z_isub 58 rfl ?_
      refine z_bipush (v := 6) 59 rfl (by decide) ?_
      refine z_icmp_le 60 126 rfl (by decide) ⟨fun c16 => ?_, fun c16 => ?_⟩
      · have B := B.1 c16
        refine z_iconst (v := 1) 63 rfl (by decide) ?_
        refine z_putI 64 rfl lX10_179 ⟨_, _, _, rfl, rfl⟩ rfl rfl rfl o14 ?_
        refine z_aload_n 65 rfl rfl ?_
        refine z_getI 66 rfl lX10_179 rfl o14 ?_
        refine z_iconst (v := 1) 67 rfl (by decide) ?_
        refine z_icmp_ne 68 225 rfl (by decide) ⟨fun c17 => ?_, fun c17 => ?_⟩
        · have B := B.1 c17
          exact z_vret 113 rfl rfl ⟨rfl, rfl⟩ ⟨rfl, B⟩
        · have B := B.2 c17
          refine z_aload_n 69 rfl rfl ?_
          obtain ⟨Q18, K20, B⟩ := B
          refine z_cVV0 (ν := mX10_name) 70 rfl rfl fX10_name gX10_192 ⟨_, rfl, rfl⟩ (by decide) o14 (Nat.le_of_ble_eq_true rfl) K20 (fun h19 q => ?_)
          have B := B h19 q
          refine z_goto 71 225 rfl (by decide) ?_
          exact z_vret 113 rfl rfl ⟨rfl, rfl⟩ ⟨rfl, B⟩
      · have B := B.2 c16
        refine z_iconst (v := 5) 61 rfl (by decide) ?_
        refine z_goto 62 127 rfl (by decide) ?_
        refine z_putI 64 rfl lX10_179 ⟨_, _, _, rfl, rfl⟩ rfl rfl rfl o14 ?_
        refine z_aload_n 65 rfl rfl ?_
        refine z_getI 66 rfl lX10_179 rfl o14 ?_
        refine z_iconst (v := 1) 67 rfl (by decide) ?_
        refine z_icmp_ne 68 225 rfl (by decide) ⟨fun c21 => ?_, fun c21 => ?_⟩
        · have B := B.1 c21
          exact z_vret 113 rfl rfl ⟨rfl, rfl⟩ ⟨rfl, B⟩
        · have B := B.2 c21
          refine z_aload_n 69 rfl rfl ?_
          obtain ⟨Q22, K24, B⟩ := B
          refine z_cVV0 (ν := mX10_name) 70 rfl rfl fX10_name gX10_192 ⟨_, rfl, rfl⟩ (by decide) o14 (Nat.le_of_ble_eq_true rfl) K24 (fun h23 q => ?_)
          have B := B h23 q
          refine z_goto 71 225 rfl (by decide) ?_
          exact z_vret 113 rfl rfl ⟨rfl, rfl⟩ ⟨rfl, B⟩
    · have B := B.2 c15
      refine z_iconst (v := 0) 52 rfl (by decide) ?_
      refine z_goto 53 127 rfl (by decide) ?_
      refine z_putI 64 rfl lX10_179 ⟨_, _, _, rfl, rfl⟩ rfl rfl rfl o14 ?_
      refine z_aload_n 65 rfl rfl ?_
      refine z_getI 66 rfl lX10_179 rfl o14 ?_
      refine z_iconst (v := 1) 67 rfl (by decide) ?_
      refine z_icmp_ne 68 225 rfl (by decide) ⟨fun c25 => ?_, fun c25 => ?_⟩
      · have B := B.1 c25
        exact z_vret 113 rfl rfl ⟨rfl, rfl⟩ ⟨rfl, B⟩
      · have B := B.2 c25
        refine z_aload_n 69 rfl rfl ?_
        obtain ⟨Q26, K28, B⟩ := B
        refine z_cVV0 (ν := mX10_name) 70 rfl rfl fX10_name gX10_192 ⟨_, rfl, rfl⟩ (by decide) o14 (Nat.le_of_ble_eq_true rfl) K28 (fun h27 q => ?_)
        have B := B h27 q
        refine z_goto 71 225 rfl (by decide) ?_
        exact z_vret 113 rfl rfl ⟨rfl, rfl⟩ ⟨rfl, B⟩
  · have B := B.2 c9
    refine z_aload_n 36 rfl rfl ?_
    refine z_dup 37 rfl rfl ?_
    obtain ⟨o30, B⟩ := B
    refine z_getI 38 rfl lX10_166 rfl o30 ?_
    refine z_iconst (v := 1) 39 rfl (by decide) ?_
    refine z_iadd 40 rfl ?_
    refine z_putI 41 rfl lX10_166 ⟨_, _, _, rfl, rfl⟩ rfl rfl rfl o30 ?_
    refine z_goto 42 64 rfl (by decide) ?_
    exact B
set_option maxRecDepth 100000 in
set_option maxHeartbeats 4000000 in
theorem sg_X10_token_162 {G : zG} {d : Nat} {h : zMem} {Q : zMem → Prop} {a0 : Nat} {x1 : Int32} (B : zO h a0 9 ∧ ∃ Q1 : Int32 → zMem → Prop, zConI G mX10_here d [.ref a0] h Q1 ∧ (∀ v4 h2, Q1 v4 h2 → ∃ Q5 : Int32 → zMem → Prop, zConI G mX10_isDigit d [.int v4] h2 Q5 ∧ (∀ v8 h6, Q5 v8 h6 → (v8 = 0 → Q h6) ∧ (¬ v8 = 0 → zO h6 a0 9 ∧ ((zI h6 a0 24) ≤ (99999 : Int32) → ∃ Q12 : Int32 → zMem → Prop, zConI G mX10_here d [.ref a0] h6 Q12 ∧ (∀ v15 h13, Q12 v15 h13 → zO h13 a0 9 ∧ zg G mX10_token (d + 1) 162 [.ref a0, .int x1] [] (zsI (zsI h13 a0 24 ((((10 : Int32) * (zI h6 a0 24)) + v15) - (48 : Int32))) a0 21 ((zI (zsI h13 a0 24 ((((10 : Int32) * (zI h6 a0 24)) + v15) - (48 : Int32))) a0 21) + (1 : Int32))) (zPV Q))) ∧ (¬ (zI h6 a0 24) ≤ (99999 : Int32) → zg G mX10_token (d + 1) 162 [.ref a0, .int x1] [] (zsI (zsI h6 a0 24 (zI h6 a0 24)) a0 21 ((zI (zsI h6 a0 24 (zI h6 a0 24)) a0 21) + (1 : Int32))) (zPV Q)))))) : zg G mX10_token (d + 1) 162 [.ref a0, .int x1] [] h (zPV Q) := by
  refine z_aload_n 81 rfl rfl ?_
  obtain ⟨o17, B⟩ := B
  obtain ⟨Q1, K3, B⟩ := B
  refine z_cVI0 (ν := mX10_here) 82 rfl rfl fX10_here gX10_172 ⟨_, rfl, rfl⟩ (by decide) o17 (Nat.le_of_ble_eq_true rfl) K3 (fun v4 h2 q => ?_)
  have B := B v4 h2 q
  obtain ⟨Q5, K7, B⟩ := B
  refine z_cSI1 (ν := mX10_isDigit) 83 rfl rfl fX10_isDigit gX10_195 (Nat.le_of_ble_eq_true rfl) K7 (fun v8 h6 q => ?_)
  have B := B v8 h6 q
  refine z_if_eq 84 225 rfl (by decide) ⟨fun c9 => ?_, fun c9 => ?_⟩
  · have B := B.1 c9
    exact z_vret 113 rfl rfl ⟨rfl, rfl⟩ ⟨rfl, B⟩
  · have B := B.2 c9
    refine z_aload_n 85 rfl rfl ?_
    refine z_aload_n 86 rfl rfl ?_
    obtain ⟨o10, B⟩ := B
    refine z_getI 87 rfl lX10_189 rfl o10 ?_
    refine z_ldc 88 rfl kX10_198 ?_
    refine z_icmp_le 89 189 rfl (by decide) ⟨fun c11 => ?_, fun c11 => ?_⟩
    · have B := B.1 c11
      refine z_bipush (v := 10) 93 rfl (by decide) ?_
      refine z_aload_n 94 rfl rfl ?_
      refine z_getI 95 rfl lX10_189 rfl o10 ?_
      refine z_imul 96 rfl ?_
      refine z_aload_n 97 rfl rfl ?_
      obtain ⟨Q12, K14, B⟩ := B
      refine z_cVI0 (ν := mX10_here) 98 rfl rfl fX10_here gX10_172 ⟨_, rfl, rfl⟩ (by decide) o10 (Nat.le_of_ble_eq_true rfl) K14 (fun v15 h13 q => ?_)
      have B := B v15 h13 q
      refine z_iadd 99 rfl ?_
      refine z_bipush (v := 48) 100 rfl (by decide) ?_
      refine z_isub 101 rfl ?_
      obtain ⟨o16, B⟩ := B
      refine z_putI 102 rfl lX10_189 ⟨_, _, _, rfl, rfl⟩ rfl rfl rfl o16 ?_
      refine z_aload_n 103 rfl rfl ?_
      refine z_dup 104 rfl rfl ?_
      refine z_getI 105 rfl lX10_166 rfl o16 ?_
      refine z_iconst (v := 1) 106 rfl (by decide) ?_
      refine z_iadd 107 rfl ?_
      refine z_putI 108 rfl lX10_166 ⟨_, _, _, rfl, rfl⟩ rfl rfl rfl o16 ?_
      refine z_goto 109 162 rfl (by decide) ?_
      exact B
    · have B := B.2 c11
      refine z_aload_n 90 rfl rfl ?_
      refine z_getI 91 rfl lX10_189 rfl o10 ?_
      refine z_goto 92 204 rfl (by decide) ?_
      refine z_putI 102 rfl lX10_189 ⟨_, _, _, rfl, rfl⟩ rfl rfl rfl o10 ?_
      refine z_aload_n 103 rfl rfl ?_
      refine z_dup 104 rfl rfl ?_
      refine z_getI 105 rfl lX10_166 rfl o10 ?_
      refine z_iconst (v := 1) 106 rfl (by decide) ?_
      refine z_iadd 107 rfl ?_
      refine z_putI 108 rfl lX10_166 ⟨_, _, _, rfl, rfl⟩ rfl rfl rfl o10 ?_
      refine z_goto 109 162 rfl (by decide) ?_
      exact B
set_option maxRecDepth 100000 in
set_option maxHeartbeats 4000000 in
theorem sg_X10_sign_0 {G : zG} {d : Nat} {h : zMem} {Q : zMem → Prop} {a0 : Nat} {x1 : Int32} (B : zO h a0 9 ∧ (x1 = (59 : Int32) → zg G mX10_sign (d + 1) 71 [.ref a0, .int x1] [.ref a0] (zsI h a0 21 ((zI h a0 21) + (1 : Int32))) (zPV Q)) ∧ (¬ x1 = (59 : Int32) → (x1 = (40 : Int32) → zg G mX10_sign (d + 1) 71 [.ref a0, .int x1] [.ref a0] (zsI h a0 21 ((zI h a0 21) + (1 : Int32))) (zPV Q)) ∧ (¬ x1 = (40 : Int32) → (x1 = (41 : Int32) → zg G mX10_sign (d + 1) 71 [.ref a0, .int x1] [.ref a0] (zsI h a0 21 ((zI h a0 21) + (1 : Int32))) (zPV Q)) ∧ (¬ x1 = (41 : Int32) → (x1 = (43 : Int32) → zg G mX10_sign (d + 1) 71 [.ref a0, .int x1] [.ref a0] (zsI h a0 21 ((zI h a0 21) + (1 : Int32))) (zPV Q)) ∧ (¬ x1 = (43 : Int32) → (x1 = (45 : Int32) → zg G mX10_sign (d + 1) 71 [.ref a0, .int x1] [.ref a0] (zsI h a0 21 ((zI h a0 21) + (1 : Int32))) (zPV Q)) ∧ (¬ x1 = (45 : Int32) → (x1 = (42 : Int32) → zg G mX10_sign (d + 1) 71 [.ref a0, .int x1] [.ref a0] (zsI h a0 21 ((zI h a0 21) + (1 : Int32))) (zPV Q)) ∧ (¬ x1 = (42 : Int32) → (x1 = (47 : Int32) → zg G mX10_sign (d + 1) 71 [.ref a0, .int x1] [.ref a0] (zsI h a0 21 ((zI h a0 21) + (1 : Int32))) (zPV Q)) ∧ (¬ x1 = (47 : Int32) → (x1 = (60 : Int32) → zg G mX10_sign (d + 1) 71 [.ref a0, .int x1] [.ref a0] (zsI h a0 21 ((zI h a0 21) + (1 : Int32))) (zPV Q)) ∧ (¬ x1 = (60 : Int32) → (x1 = (61 : Int32) → zg G mX10_sign (d + 1) 71 [.ref a0, .int x1] [.ref a0] (zsI h a0 21 ((zI h a0 21) + (1 : Int32))) (zPV Q)) ∧ (¬ x1 = (61 : Int32) → (¬ x1 = (62 : Int32) → (¬ x1 = (60 : Int32) → zg G mX10_sign (d + 1) 106 [.ref a0, .int x1] [] (zsI (zsI (zsI h a0 21 ((zI h a0 21) + (1 : Int32))) a0 23 (5 : Int32)) a0 24 x1) (zPV Q)) ∧ (x1 = (60 : Int32) → ∃ Q13 : Int32 → zMem → Prop, zConI G mX10_here d [.ref a0] (zsI (zsI (zsI h a0 21 ((zI h a0 21) + (1 : Int32))) a0 23 (5 : Int32)) a0 24 x1) Q13 ∧ (∀ v16 h14, Q13 v16 h14 → (¬ v16 = (61 : Int32) → zg G mX10_sign (d + 1) 106 [.ref a0, .int x1] [] h14 (zPV Q)) ∧ (v16 = (61 : Int32) → zO h14 a0 9 ∧ zg G mX10_sign (d + 1) 106 [.ref a0, .int x1] [] (zsI h14 a0 24 (256 : Int32)) (zPV Q))))) ∧ (x1 = (62 : Int32) → zg G mX10_sign (d + 1) 71 [.ref a0, .int x1] [.ref a0] (zsI h a0 21 ((zI h a0 21) + (1 : Int32))) (zPV Q)))))))))))) : zg G mX10_sign (d + 1) 0 [.ref a0, .int x1] [] h (zPV Q) := by
  refine z_aload_n 0 rfl rfl ?_
  refine z_dup 1 rfl rfl ?_
  obtain ⟨o1, B⟩ := B
  refine z_getI 2 rfl lX10_166 rfl o1 ?_
  refine z_iconst (v := 1) 3 rfl (by decide) ?_
  refine z_iadd 4 rfl ?_
  refine z_putI 5 rfl lX10_166 ⟨_, _, _, rfl, rfl⟩ rfl rfl rfl o1 ?_
  refine z_aload_n 6 rfl rfl ?_
  refine z_iload_n 7 rfl rfl ?_
  refine z_bipush (v := 59) 8 rfl (by decide) ?_
  refine z_icmp_eq 9 71 rfl (by decide) ⟨fun c2 => ?_, fun c2 => ?_⟩
  · have B := B.1 c2
    exact B
  · have B := B.2 c2
    refine z_iload_n 10 rfl rfl ?_
    refine z_bipush (v := 40) 11 rfl (by decide) ?_
    refine z_icmp_eq 12 71 rfl (by decide) ⟨fun c3 => ?_, fun c3 => ?_⟩
    · have B := B.1 c3
      exact B
    · have B := B.2 c3
      refine z_iload_n 13 rfl rfl ?_
      refine z_bipush (v := 41) 14 rfl (by decide) ?_
      refine z_icmp_eq 15 71 rfl (by decide) ⟨fun c4 => ?_, fun c4 => ?_⟩
      · have B := B.1 c4
        exact B
      · have B := B.2 c4
        refine z_iload_n 16 rfl rfl ?_
        refine z_bipush (v := 43) 17 rfl (by decide) ?_
        refine z_icmp_eq 18 71 rfl (by decide) ⟨fun c5 => ?_, fun c5 => ?_⟩
        · have B := B.1 c5
          exact B
        · have B := B.2 c5
          refine z_iload_n 19 rfl rfl ?_
          refine z_bipush (v := 45) 20 rfl (by decide) ?_
          refine z_icmp_eq 21 71 rfl (by decide) ⟨fun c6 => ?_, fun c6 => ?_⟩
          · have B := B.1 c6
            exact B
          · have B := B.2 c6
            refine z_iload_n 22 rfl rfl ?_
            refine z_bipush (v := 42) 23 rfl (by decide) ?_
            refine z_icmp_eq 24 71 rfl (by decide) ⟨fun c7 => ?_, fun c7 => ?_⟩
            · have B := B.1 c7
              exact B
            · have B := B.2 c7
              refine z_iload_n 25 rfl rfl ?_
              refine z_bipush (v := 47) 26 rfl (by decide) ?_
              refine z_icmp_eq 27 71 rfl (by decide) ⟨fun c8 => ?_, fun c8 => ?_⟩
              · have B := B.1 c8
                exact B
              · have B := B.2 c8
                refine z_iload_n 28 rfl rfl ?_
                refine z_bipush (v := 60) 29 rfl (by decide) ?_
                refine z_icmp_eq 30 71 rfl (by decide) ⟨fun c9 => ?_, fun c9 => ?_⟩
                · have B := B.1 c9
                  exact B
                · have B := B.2 c9
                  refine z_iload_n 31 rfl rfl ?_
                  refine z_bipush (v := 61) 32 rfl (by decide) ?_
                  refine z_icmp_eq 33 71 rfl (by decide) ⟨fun c10 => ?_, fun c10 => ?_⟩
                  · have B := B.1 c10
                    exact B
                  · have B := B.2 c10
                    refine z_iload_n 34 rfl rfl ?_
                    refine z_bipush (v := 62) 35 rfl (by decide) ?_
                    refine z_icmp_ne 36 75 rfl (by decide) ⟨fun c11 => ?_, fun c11 => ?_⟩
                    · have B := B.1 c11
                      refine z_iconst (v := 5) 39 rfl (by decide) ?_
                      refine z_putI 40 rfl lX10_179 ⟨_, _, _, rfl, rfl⟩ rfl rfl rfl o1 ?_
                      refine z_aload_n 41 rfl rfl ?_
                      refine z_iload_n 42 rfl rfl ?_
                      refine z_putI 43 rfl lX10_189 ⟨_, _, _, rfl, rfl⟩ rfl rfl rfl o1 ?_
                      refine z_iload_n 44 rfl rfl ?_
                      refine z_bipush (v := 60) 45 rfl (by decide) ?_
                      refine z_icmp_ne 46 106 rfl (by decide) ⟨fun c12 => ?_, fun c12 => ?_⟩
                      · have B := B.1 c12
                        exact B
                      · have B := B.2 c12
                        refine z_aload_n 47 rfl rfl ?_
                        obtain ⟨Q13, K15, B⟩ := B
                        refine z_cVI0 (ν := mX10_here) 48 rfl rfl fX10_here gX10_172 ⟨_, rfl, rfl⟩ (by decide) o1 (Nat.le_of_ble_eq_true rfl) K15 (fun v16 h14 q => ?_)
                        have B := B v16 h14 q
                        refine z_bipush (v := 61) 49 rfl (by decide) ?_
                        refine z_icmp_ne 50 106 rfl (by decide) ⟨fun c17 => ?_, fun c17 => ?_⟩
                        · have B := B.1 c17
                          exact B
                        · have B := B.2 c17
                          refine z_aload_n 51 rfl rfl ?_
                          refine z_sipush (v := 256) 52 rfl (by decide) ?_
                          obtain ⟨o18, B⟩ := B
                          refine z_putI 53 rfl lX10_189 ⟨_, _, _, rfl, rfl⟩ rfl rfl rfl o18 ?_
                          exact B
                    · have B := B.2 c11
                      exact B
theorem cn_X10_sign {G : zG} {d : Nat} {h : zMem} {Q : zMem → Prop} {a0 : Nat} {x1 : Int32} (B : zg G mX10_sign (d + 1) 0 [.ref a0, .int x1] [] h (zPV Q)) : zConV G mX10_sign (d + 1) [.ref a0, .int x1] h Q := zcon0 (by decide +kernel) eX10_sign (Nat.le_of_ble_eq_true rfl) rfl B
set_option maxRecDepth 100000 in
set_option maxHeartbeats 4000000 in
theorem sg_X10_sign_71 {G : zG} {d : Nat} {h : zMem} {Q : zMem → Prop} {a0 : Nat} {x1 : Int32} {as0 : Nat} (B : zO h as0 9 ∧ zO h a0 9 ∧ (¬ x1 = (60 : Int32) → zg G mX10_sign (d + 1) 106 [.ref a0, .int x1] [] (zsI (zsI h as0 23 (3 : Int32)) a0 24 x1) (zPV Q)) ∧ (x1 = (60 : Int32) → ∃ Q4 : Int32 → zMem → Prop, zConI G mX10_here d [.ref a0] (zsI (zsI h as0 23 (3 : Int32)) a0 24 x1) Q4 ∧ (∀ v7 h5, Q4 v7 h5 → (¬ v7 = (61 : Int32) → zg G mX10_sign (d + 1) 106 [.ref a0, .int x1] [] h5 (zPV Q)) ∧ (v7 = (61 : Int32) → zO h5 a0 9 ∧ zg G mX10_sign (d + 1) 106 [.ref a0, .int x1] [] (zsI h5 a0 24 (256 : Int32)) (zPV Q))))) : zg G mX10_sign (d + 1) 71 [.ref a0, .int x1] [.ref as0] h (zPV Q) := by
  refine z_iconst (v := 3) 37 rfl (by decide) ?_
  refine z_goto 38 76 rfl (by decide) ?_
  obtain ⟨o1, B⟩ := B
  refine z_putI 40 rfl lX10_179 ⟨_, _, _, rfl, rfl⟩ rfl rfl rfl o1 ?_
  refine z_aload_n 41 rfl rfl ?_
  refine z_iload_n 42 rfl rfl ?_
  obtain ⟨o2, B⟩ := B
  refine z_putI 43 rfl lX10_189 ⟨_, _, _, rfl, rfl⟩ rfl rfl rfl o2 ?_
  refine z_iload_n 44 rfl rfl ?_
  refine z_bipush (v := 60) 45 rfl (by decide) ?_
  refine z_icmp_ne 46 106 rfl (by decide) ⟨fun c3 => ?_, fun c3 => ?_⟩
  · have B := B.1 c3
    exact B
  · have B := B.2 c3
    refine z_aload_n 47 rfl rfl ?_
    obtain ⟨Q4, K6, B⟩ := B
    refine z_cVI0 (ν := mX10_here) 48 rfl rfl fX10_here gX10_172 ⟨_, rfl, rfl⟩ (by decide) o2 (Nat.le_of_ble_eq_true rfl) K6 (fun v7 h5 q => ?_)
    have B := B v7 h5 q
    refine z_bipush (v := 61) 49 rfl (by decide) ?_
    refine z_icmp_ne 50 106 rfl (by decide) ⟨fun c8 => ?_, fun c8 => ?_⟩
    · have B := B.1 c8
      exact B
    · have B := B.2 c8
      refine z_aload_n 51 rfl rfl ?_
      refine z_sipush (v := 256) 52 rfl (by decide) ?_
      obtain ⟨o9, B⟩ := B
      refine z_putI 53 rfl lX10_189 ⟨_, _, _, rfl, rfl⟩ rfl rfl rfl o9 ?_
      exact B
set_option maxRecDepth 100000 in
set_option maxHeartbeats 4000000 in
theorem sg_X10_sign_106 {G : zG} {d : Nat} {h : zMem} {Q : zMem → Prop} {a0 : Nat} {x1 : Int32} (B : (¬ x1 = (60 : Int32) → zg G mX10_sign (d + 1) 128 [.ref a0, .int x1] [] h (zPV Q)) ∧ (x1 = (60 : Int32) → zO h a0 9 ∧ ∃ Q2 : Int32 → zMem → Prop, zConI G mX10_here d [.ref a0] h Q2 ∧ (∀ v5 h3, Q2 v5 h3 → (¬ v5 = (62 : Int32) → zg G mX10_sign (d + 1) 128 [.ref a0, .int x1] [] h3 (zPV Q)) ∧ (v5 = (62 : Int32) → zO h3 a0 9 ∧ zg G mX10_sign (d + 1) 128 [.ref a0, .int x1] [] (zsI h3 a0 24 (257 : Int32)) (zPV Q))))) : zg G mX10_sign (d + 1) 106 [.ref a0, .int x1] [] h (zPV Q) := by
  refine z_iload_n 54 rfl rfl ?_
  refine z_bipush (v := 60) 55 rfl (by decide) ?_
  refine z_icmp_ne 56 128 rfl (by decide) ⟨fun c1 => ?_, fun c1 => ?_⟩
  · have B := B.1 c1
    exact B
  · have B := B.2 c1
    refine z_aload_n 57 rfl rfl ?_
    obtain ⟨o8, B⟩ := B
    obtain ⟨Q2, K4, B⟩ := B
    refine z_cVI0 (ν := mX10_here) 58 rfl rfl fX10_here gX10_172 ⟨_, rfl, rfl⟩ (by decide) o8 (Nat.le_of_ble_eq_true rfl) K4 (fun v5 h3 q => ?_)
    have B := B v5 h3 q
    refine z_bipush (v := 62) 59 rfl (by decide) ?_
    refine z_icmp_ne 60 128 rfl (by decide) ⟨fun c6 => ?_, fun c6 => ?_⟩
    · have B := B.1 c6
      exact B
    · have B := B.2 c6
      refine z_aload_n 61 rfl rfl ?_
      refine z_sipush (v := 257) 62 rfl (by decide) ?_
      obtain ⟨o7, B⟩ := B
      refine z_putI 63 rfl lX10_189 ⟨_, _, _, rfl, rfl⟩ rfl rfl rfl o7 ?_
      exact B
set_option maxRecDepth 100000 in
set_option maxHeartbeats 4000000 in
theorem sg_X10_sign_128 {G : zG} {d : Nat} {h : zMem} {Q : zMem → Prop} {a0 : Nat} {x1 : Int32} (B : (¬ x1 = (62 : Int32) → zO h a0 9 ∧ ((zI h a0 24) < (256 : Int32) → Q h) ∧ (¬ (zI h a0 24) < (256 : Int32) → Q (zsI h a0 21 ((zI h a0 21) + (1 : Int32))))) ∧ (x1 = (62 : Int32) → zO h a0 9 ∧ ∃ Q4 : Int32 → zMem → Prop, zConI G mX10_here d [.ref a0] h Q4 ∧ (∀ v7 h5, Q4 v7 h5 → (¬ v7 = (61 : Int32) → zO h5 a0 9 ∧ ((zI h5 a0 24) < (256 : Int32) → Q h5) ∧ (¬ (zI h5 a0 24) < (256 : Int32) → Q (zsI h5 a0 21 ((zI h5 a0 21) + (1 : Int32))))) ∧ (v7 = (61 : Int32) → zO h5 a0 9 ∧ ((zI (zsI h5 a0 24 (258 : Int32)) a0 24) < (256 : Int32) → Q (zsI h5 a0 24 (258 : Int32))) ∧ (¬ (zI (zsI h5 a0 24 (258 : Int32)) a0 24) < (256 : Int32) → Q (zsI (zsI h5 a0 24 (258 : Int32)) a0 21 ((zI (zsI h5 a0 24 (258 : Int32)) a0 21) + (1 : Int32)))))))) : zg G mX10_sign (d + 1) 128 [.ref a0, .int x1] [] h (zPV Q) := by
  refine z_iload_n 64 rfl rfl ?_
  refine z_bipush (v := 62) 65 rfl (by decide) ?_
  refine z_icmp_ne 66 150 rfl (by decide) ⟨fun c1 => ?_, fun c1 => ?_⟩
  · have B := B.1 c1
    refine z_aload_n 74 rfl rfl ?_
    obtain ⟨o2, B⟩ := B
    refine z_getI 75 rfl lX10_189 rfl o2 ?_
    refine z_sipush (v := 256) 76 rfl (by decide) ?_
    refine z_icmp_lt 77 170 rfl (by decide) ⟨fun c3 => ?_, fun c3 => ?_⟩
    · have B := B.1 c3
      exact z_vret 84 rfl rfl ⟨rfl, rfl⟩ ⟨rfl, B⟩
    · have B := B.2 c3
      refine z_aload_n 78 rfl rfl ?_
      refine z_dup 79 rfl rfl ?_
      refine z_getI 80 rfl lX10_166 rfl o2 ?_
      refine z_iconst (v := 1) 81 rfl (by decide) ?_
      refine z_iadd 82 rfl ?_
      refine z_putI 83 rfl lX10_166 ⟨_, _, _, rfl, rfl⟩ rfl rfl rfl o2 ?_
      exact z_vret 84 rfl rfl ⟨rfl, rfl⟩ ⟨rfl, B⟩
  · have B := B.2 c1
    refine z_aload_n 67 rfl rfl ?_
    obtain ⟨o13, B⟩ := B
    obtain ⟨Q4, K6, B⟩ := B
    refine z_cVI0 (ν := mX10_here) 68 rfl rfl fX10_here gX10_172 ⟨_, rfl, rfl⟩ (by decide) o13 (Nat.le_of_ble_eq_true rfl) K6 (fun v7 h5 q => ?_)
    have B := B v7 h5 q
    refine z_bipush (v := 61) 69 rfl (by decide) ?_
    refine z_icmp_ne 70 150 rfl (by decide) ⟨fun c8 => ?_, fun c8 => ?_⟩
    · have B := B.1 c8
      refine z_aload_n 74 rfl rfl ?_
      obtain ⟨o9, B⟩ := B
      refine z_getI 75 rfl lX10_189 rfl o9 ?_
      refine z_sipush (v := 256) 76 rfl (by decide) ?_
      refine z_icmp_lt 77 170 rfl (by decide) ⟨fun c10 => ?_, fun c10 => ?_⟩
      · have B := B.1 c10
        exact z_vret 84 rfl rfl ⟨rfl, rfl⟩ ⟨rfl, B⟩
      · have B := B.2 c10
        refine z_aload_n 78 rfl rfl ?_
        refine z_dup 79 rfl rfl ?_
        refine z_getI 80 rfl lX10_166 rfl o9 ?_
        refine z_iconst (v := 1) 81 rfl (by decide) ?_
        refine z_iadd 82 rfl ?_
        refine z_putI 83 rfl lX10_166 ⟨_, _, _, rfl, rfl⟩ rfl rfl rfl o9 ?_
        exact z_vret 84 rfl rfl ⟨rfl, rfl⟩ ⟨rfl, B⟩
    · have B := B.2 c8
      refine z_aload_n 71 rfl rfl ?_
      refine z_sipush (v := 258) 72 rfl (by decide) ?_
      obtain ⟨o11, B⟩ := B
      refine z_putI 73 rfl lX10_189 ⟨_, _, _, rfl, rfl⟩ rfl rfl rfl o11 ?_
      refine z_aload_n 74 rfl rfl ?_
      refine z_getI 75 rfl lX10_189 rfl o11 ?_
      refine z_sipush (v := 256) 76 rfl (by decide) ?_
      refine z_icmp_lt 77 170 rfl (by decide) ⟨fun c12 => ?_, fun c12 => ?_⟩
      · have B := B.1 c12
        exact z_vret 84 rfl rfl ⟨rfl, rfl⟩ ⟨rfl, B⟩
      · have B := B.2 c12
        refine z_aload_n 78 rfl rfl ?_
        refine z_dup 79 rfl rfl ?_
        refine z_getI 80 rfl lX10_166 rfl o11 ?_
        refine z_iconst (v := 1) 81 rfl (by decide) ?_
        refine z_iadd 82 rfl ?_
        refine z_putI 83 rfl lX10_166 ⟨_, _, _, rfl, rfl⟩ rfl rfl rfl o11 ?_
        exact z_vret 84 rfl rfl ⟨rfl, rfl⟩ ⟨rfl, B⟩
set_option maxRecDepth 100000 in
set_option maxHeartbeats 4000000 in
theorem sg_X10_name_0 {G : zG} {d : Nat} {h : zMem} {Q : zMem → Prop} {a0 : Nat} (B : zO h a0 9 ∧ zg G mX10_name d 7 [.ref a0, .int (0 : Int32)] [] (zsI h a0 24 (0 : Int32)) (zPV Q)) : zg G mX10_name d 0 [.ref a0, zU] [] h (zPV Q) := by
  refine z_aload_n 0 rfl rfl ?_
  refine z_iconst (v := 0) 1 rfl (by decide) ?_
  obtain ⟨o1, B⟩ := B
  refine z_putI 2 rfl lX10_189 ⟨_, _, _, rfl, rfl⟩ rfl rfl rfl o1 ?_
  refine z_iconst (v := 0) 3 rfl (by decide) ?_
  refine z_istore_n 4 rfl (by decide) rfl ?_
  exact B
theorem cn_X10_name {G : zG} {d : Nat} {h : zMem} {Q : zMem → Prop} {a0 : Nat} (B : zg G mX10_name d 0 [.ref a0, zU] [] h (zPV Q)) : zConV G mX10_name d [.ref a0] h Q := zcon0 (by decide +kernel) eX10_name (Nat.le_of_ble_eq_true rfl) rfl B
set_option maxRecDepth 100000 in
set_option maxHeartbeats 4000000 in
theorem sg_X10_name_7 {G : zG} {d : Nat} {h : zMem} {Q : zMem → Prop} {a0 : Nat} {x1 : Int32} (B : ((6 : Int32) ≤ x1 → Q h) ∧ (¬ (6 : Int32) ≤ x1 → zO h a0 9 ∧ ((zI h a0 21) ≤ ((zI h a0 22) + x1) → zg G mX10_name d 7 [.ref a0, .int (x1 + 1)] [] (zsI h a0 24 (((zI h a0 24) <<< ((5 : Int32) &&& 31)) ||| (0 : Int32))) (zPV Q)) ∧ (¬ (zI h a0 21) ≤ ((zI h a0 22) + x1) → ∃ r4, zR h a0 1 = some r4 ∧ zO h r4 100 ∧ vp_in ((zI h a0 22) + x1) (zLen h r4) ∧ zg G mX10_name d 7 [.ref a0, .int (x1 + 1)] [] (zsI h a0 24 (((zI h a0 24) <<< ((5 : Int32) &&& 31)) ||| (((zI h r4 ((zI h a0 22) + x1).toNatClampNeg) - (97 : Int32)) + (1 : Int32)))) (zPV Q)))) : zg G mX10_name d 7 [.ref a0, .int x1] [] h (zPV Q) := by
  refine z_iload_n 5 rfl rfl ?_
  refine z_bipush (v := 6) 6 rfl (by decide) ?_
  refine z_icmp_ge 7 63 rfl (by decide) ⟨fun c1 => ?_, fun c1 => ?_⟩
  · have B := B.1 c1
    exact z_vret 37 rfl rfl ⟨rfl, rfl⟩ ⟨rfl, B⟩
  · have B := B.2 c1
    refine z_aload_n 8 rfl rfl ?_
    refine z_aload_n 9 rfl rfl ?_
    obtain ⟨o2, B⟩ := B
    refine z_getI 10 rfl lX10_189 rfl o2 ?_
    refine z_iconst (v := 5) 11 rfl (by decide) ?_
    refine z_ishl 12 rfl ?_
    refine z_aload_n 13 rfl rfl ?_
    refine z_getI 14 rfl lX10_176 rfl o2 ?_
    refine z_iload_n 15 rfl rfl ?_
    refine z_iadd 16 rfl ?_
    refine z_aload_n 17 rfl rfl ?_
    refine z_getI 18 rfl lX10_166 rfl o2 ?_
    refine z_icmp_ge 19 52 rfl (by decide) ⟨fun c3 => ?_, fun c3 => ?_⟩
    · have B := B.1 c3
      refine z_iconst (v := 0) 32 rfl (by decide) ?_
      refine z_ior 33 rfl ?_
      refine z_putI 34 rfl lX10_189 ⟨_, _, _, rfl, rfl⟩ rfl rfl rfl o2 ?_
      refine z_iinc (v := 1) 35 rfl rfl (by decide) (by decide) rfl ?_
      refine z_goto 36 7 rfl (by decide) ?_
      exact B
    · have B := B.2 c3
      refine z_aload_n 20 rfl rfl ?_
      obtain ⟨r4, hr4, B⟩ := B
      refine z_getR 21 rfl lX10_7 rfl o2 hr4 ?_
      refine z_aload_n 22 rfl rfl ?_
      refine z_getI 23 rfl lX10_176 rfl o2 ?_
      refine z_iload_n 24 rfl rfl ?_
      refine z_iadd 25 rfl ?_
      obtain ⟨o5, B⟩ := B
      obtain ⟨o6, B⟩ := B
      refine z_iald 26 rfl o5 o6 ?_
      refine z_bipush (v := 97) 27 rfl (by decide) ?_
      refine z_isub 28 rfl ?_
      refine z_iconst (v := 1) 29 rfl (by decide) ?_
      refine z_iadd 30 rfl ?_
      refine z_goto 31 53 rfl (by decide) ?_
      refine z_ior 33 rfl ?_
      refine z_putI 34 rfl lX10_189 ⟨_, _, _, rfl, rfl⟩ rfl rfl rfl o2 ?_
      refine z_iinc (v := 1) 35 rfl rfl (by decide) (by decide) rfl ?_
      refine z_goto 36 7 rfl (by decide) ?_
      exact B
set_option maxRecDepth 100000 in
set_option maxHeartbeats 4000000 in
theorem sg_X10_wrong_0 {G : zG} {d : Nat} {h : zMem} {Q : zMem → Prop} {a0 : Nat} {x1 : Int32} (B : zO h a0 9 ∧ ((zI h a0 25) = 0 → Q (zsI (zsI h a0 25 x1) a0 26 (zI (zsI h a0 25 x1) a0 22))) ∧ (¬ (zI h a0 25) = 0 → Q h)) : zg G mX10_wrong d 0 [.ref a0, .int x1] [] h (zPV Q) := by
  refine z_aload_n 0 rfl rfl ?_
  obtain ⟨o1, B⟩ := B
  refine z_getI 1 rfl lX10_214 rfl o1 ?_
  refine z_if_eq 2 8 rfl (by decide) ⟨fun c2 => ?_, fun c2 => ?_⟩
  · have B := B.1 c2
    refine z_aload_n 4 rfl rfl ?_
    refine z_iload_n 5 rfl rfl ?_
    refine z_putI 6 rfl lX10_214 ⟨_, _, _, rfl, rfl⟩ rfl rfl rfl o1 ?_
    refine z_aload_n 7 rfl rfl ?_
    refine z_aload_n 8 rfl rfl ?_
    refine z_getI 9 rfl lX10_176 rfl o1 ?_
    refine z_putI 10 rfl lX10_217 ⟨_, _, _, rfl, rfl⟩ rfl rfl rfl o1 ?_
    exact z_vret 11 rfl rfl ⟨rfl, rfl⟩ ⟨rfl, B⟩
  · have B := B.2 c2
    exact z_vret 3 rfl rfl ⟨rfl, rfl⟩ ⟨rfl, B⟩
theorem cn_X10_wrong {G : zG} {d : Nat} {h : zMem} {Q : zMem → Prop} {a0 : Nat} {x1 : Int32} (B : zg G mX10_wrong d 0 [.ref a0, .int x1] [] h (zPV Q)) : zConV G mX10_wrong d [.ref a0, .int x1] h Q := zcon0 (by decide +kernel) eX10_wrong (Nat.le_of_ble_eq_true rfl) rfl B
set_option maxRecDepth 100000 in
set_option maxHeartbeats 4000000 in
theorem sg_X10_isWord_0 {G : zG} {d : Nat} {h : zMem} {Q : Int32 → zMem → Prop} {a0 : Nat} {x1 : Int32} (B : zO h a0 9 ∧ (¬ (zI h a0 25) = 0 → Q (0 : Int32) h) ∧ ((zI h a0 25) = 0 → (¬ (zI h a0 23) = 0 → Q (0 : Int32) h) ∧ ((zI h a0 23) = 0 → (¬ (zI h a0 24) = x1 → Q (0 : Int32) h) ∧ ((zI h a0 24) = x1 → Q (1 : Int32) h)))) : zg G mX10_isWord d 0 [.ref a0, .int x1] [] h (zPI Q) := by
  refine z_aload_n 0 rfl rfl ?_
  obtain ⟨o1, B⟩ := B
  refine z_getI 1 rfl lX10_214 rfl o1 ?_
  refine z_if_ne 2 26 rfl (by decide) ⟨fun c2 => ?_, fun c2 => ?_⟩
  · have B := B.1 c2
    refine z_iconst (v := 0) 12 rfl (by decide) ?_
    exact z_iret 13 rfl rfl rfl ⟨rfl, rfl⟩ ⟨_, rfl, B⟩
  · have B := B.2 c2
    refine z_aload_n 3 rfl rfl ?_
    refine z_getI 4 rfl lX10_179 rfl o1 ?_
    refine z_if_ne 5 26 rfl (by decide) ⟨fun c3 => ?_, fun c3 => ?_⟩
    · have B := B.1 c3
      refine z_iconst (v := 0) 12 rfl (by decide) ?_
      exact z_iret 13 rfl rfl rfl ⟨rfl, rfl⟩ ⟨_, rfl, B⟩
    · have B := B.2 c3
      refine z_aload_n 6 rfl rfl ?_
      refine z_getI 7 rfl lX10_189 rfl o1 ?_
      refine z_iload_n 8 rfl rfl ?_
      refine z_icmp_ne 9 26 rfl (by decide) ⟨fun c4 => ?_, fun c4 => ?_⟩
      · have B := B.1 c4
        refine z_iconst (v := 0) 12 rfl (by decide) ?_
        exact z_iret 13 rfl rfl rfl ⟨rfl, rfl⟩ ⟨_, rfl, B⟩
      · have B := B.2 c4
        refine z_iconst (v := 1) 10 rfl (by decide) ?_
        refine z_goto 11 27 rfl (by decide) ?_
        exact z_iret 13 rfl rfl rfl ⟨rfl, rfl⟩ ⟨_, rfl, B⟩
theorem cn_X10_isWord {G : zG} {d : Nat} {h : zMem} {Q : Int32 → zMem → Prop} {a0 : Nat} {x1 : Int32} (B : zg G mX10_isWord d 0 [.ref a0, .int x1] [] h (zPI Q)) : zConI G mX10_isWord d [.ref a0, .int x1] h Q := zcon0 (by decide +kernel) eX10_isWord (Nat.le_of_ble_eq_true rfl) rfl B
set_option maxRecDepth 100000 in
set_option maxHeartbeats 4000000 in
theorem sg_X10_isSign_0 {G : zG} {d : Nat} {h : zMem} {Q : Int32 → zMem → Prop} {a0 : Nat} {x1 : Int32} (B : zO h a0 9 ∧ (¬ (zI h a0 25) = 0 → Q (0 : Int32) h) ∧ ((zI h a0 25) = 0 → (¬ (zI h a0 23) = (3 : Int32) → Q (0 : Int32) h) ∧ ((zI h a0 23) = (3 : Int32) → (¬ (zI h a0 24) = x1 → Q (0 : Int32) h) ∧ ((zI h a0 24) = x1 → Q (1 : Int32) h)))) : zg G mX10_isSign d 0 [.ref a0, .int x1] [] h (zPI Q) := by
  refine z_aload_n 0 rfl rfl ?_
  obtain ⟨o1, B⟩ := B
  refine z_getI 1 rfl lX10_214 rfl o1 ?_
  refine z_if_ne 2 27 rfl (by decide) ⟨fun c2 => ?_, fun c2 => ?_⟩
  · have B := B.1 c2
    refine z_iconst (v := 0) 13 rfl (by decide) ?_
    exact z_iret 14 rfl rfl rfl ⟨rfl, rfl⟩ ⟨_, rfl, B⟩
  · have B := B.2 c2
    refine z_aload_n 3 rfl rfl ?_
    refine z_getI 4 rfl lX10_179 rfl o1 ?_
    refine z_iconst (v := 3) 5 rfl (by decide) ?_
    refine z_icmp_ne 6 27 rfl (by decide) ⟨fun c3 => ?_, fun c3 => ?_⟩
    · have B := B.1 c3
      refine z_iconst (v := 0) 13 rfl (by decide) ?_
      exact z_iret 14 rfl rfl rfl ⟨rfl, rfl⟩ ⟨_, rfl, B⟩
    · have B := B.2 c3
      refine z_aload_n 7 rfl rfl ?_
      refine z_getI 8 rfl lX10_189 rfl o1 ?_
      refine z_iload_n 9 rfl rfl ?_
      refine z_icmp_ne 10 27 rfl (by decide) ⟨fun c4 => ?_, fun c4 => ?_⟩
      · have B := B.1 c4
        refine z_iconst (v := 0) 13 rfl (by decide) ?_
        exact z_iret 14 rfl rfl rfl ⟨rfl, rfl⟩ ⟨_, rfl, B⟩
      · have B := B.2 c4
        refine z_iconst (v := 1) 11 rfl (by decide) ?_
        refine z_goto 12 28 rfl (by decide) ?_
        exact z_iret 14 rfl rfl rfl ⟨rfl, rfl⟩ ⟨_, rfl, B⟩
theorem cn_X10_isSign {G : zG} {d : Nat} {h : zMem} {Q : Int32 → zMem → Prop} {a0 : Nat} {x1 : Int32} (B : zg G mX10_isSign d 0 [.ref a0, .int x1] [] h (zPI Q)) : zConI G mX10_isSign d [.ref a0, .int x1] h Q := zcon0 (by decide +kernel) eX10_isSign (Nat.le_of_ble_eq_true rfl) rfl B
set_option maxRecDepth 100000 in
set_option maxHeartbeats 4000000 in
theorem sg_X10_goOn_0 {G : zG} {d : Nat} {h : zMem} {Q : zMem → Prop} {a0 : Nat} (B : zO h a0 9 ∧ (¬ (zI h a0 25) = 0 → Q h) ∧ ((zI h a0 25) = 0 → ∃ Q3 : zMem → Prop, zConV G mX10_token d [.ref a0] h Q3 ∧ (∀ h4, Q3 h4 → Q h4))) : zg G mX10_goOn (d + 1) 0 [.ref a0] [] h (zPV Q) := by
  refine z_aload_n 0 rfl rfl ?_
  obtain ⟨o1, B⟩ := B
  refine z_getI 1 rfl lX10_214 rfl o1 ?_
  refine z_if_ne 2 11 rfl (by decide) ⟨fun c2 => ?_, fun c2 => ?_⟩
  · have B := B.1 c2
    exact z_vret 5 rfl rfl ⟨rfl, rfl⟩ ⟨rfl, B⟩
  · have B := B.2 c2
    refine z_aload_n 3 rfl rfl ?_
    obtain ⟨Q3, K5, B⟩ := B
    refine z_cVV0 (ν := mX10_token) 4 rfl rfl fX10_token gX10_220 ⟨_, rfl, rfl⟩ (by decide) o1 (Nat.le_of_ble_eq_true rfl) K5 (fun h4 q => ?_)
    have B := B h4 q
    exact z_vret 5 rfl rfl ⟨rfl, rfl⟩ ⟨rfl, B⟩
theorem cn_X10_goOn {G : zG} {d : Nat} {h : zMem} {Q : zMem → Prop} {a0 : Nat} (B : zg G mX10_goOn (d + 1) 0 [.ref a0] [] h (zPV Q)) : zConV G mX10_goOn (d + 1) [.ref a0] h Q := zcon0 (by decide +kernel) eX10_goOn (Nat.le_of_ble_eq_true rfl) rfl B
set_option maxRecDepth 100000 in
set_option maxHeartbeats 4000000 in
theorem sg_X10_numeral_0 {G : zG} {d : Nat} {h : zMem} {Q : Int32 → zMem → Prop} {a0 : Nat} {x1 : Int32} {x2 : Int32} (B : zO h a0 9 ∧ ((zI h a0 25) = 0 → ((zI h a0 23) = (2 : Int32) → ((zI h a0 24) < x1 → ∃ Q5 : zMem → Prop, zConV G mX10_wrong d [.ref a0, .int (2 : Int32)] h Q5 ∧ (∀ h6, Q5 h6 → zO h6 a0 9 ∧ ((zI h6 a0 25) = 0 → ∃ Q10 : zMem → Prop, zConV G mX10_token d [.ref a0] h6 Q10 ∧ (∀ h11, Q10 h11 → Q (zI h6 a0 24) h11)) ∧ (¬ (zI h6 a0 25) = 0 → Q x1 h6))) ∧ (¬ (zI h a0 24) < x1 → ((zI h a0 24) ≤ x2 → ((zI h a0 25) = 0 → ∃ Q15 : zMem → Prop, zConV G mX10_token d [.ref a0] h Q15 ∧ (∀ h16, Q15 h16 → Q (zI h a0 24) h16)) ∧ (¬ (zI h a0 25) = 0 → Q x1 h)) ∧ (¬ (zI h a0 24) ≤ x2 → ∃ Q18 : zMem → Prop, zConV G mX10_wrong d [.ref a0, .int (2 : Int32)] h Q18 ∧ (∀ h19, Q18 h19 → zO h19 a0 9 ∧ ((zI h19 a0 25) = 0 → ∃ Q23 : zMem → Prop, zConV G mX10_token d [.ref a0] h19 Q23 ∧ (∀ h24, Q23 h24 → Q (zI h19 a0 24) h24)) ∧ (¬ (zI h19 a0 25) = 0 → Q x1 h19))))) ∧ (¬ (zI h a0 23) = (2 : Int32) → ∃ Q26 : zMem → Prop, zConV G mX10_wrong d [.ref a0, .int (1 : Int32)] h Q26 ∧ (∀ h27, Q26 h27 → zO h27 a0 9 ∧ ((zI h27 a0 25) = 0 → ∃ Q31 : zMem → Prop, zConV G mX10_token d [.ref a0] h27 Q31 ∧ (∀ h32, Q31 h32 → Q (zI h27 a0 24) h32)) ∧ (¬ (zI h27 a0 25) = 0 → Q x1 h27)))) ∧ (¬ (zI h a0 25) = 0 → Q x1 h)) : zg G mX10_numeral (d + 1) 0 [.ref a0, .int x1, .int x2, zU] [] h (zPI Q) := by
  refine z_aload_n 0 rfl rfl ?_
  obtain ⟨o1, B⟩ := B
  refine z_getI 1 rfl lX10_214 rfl o1 ?_
  refine z_if_eq 2 9 rfl (by decide) ⟨fun c2 => ?_, fun c2 => ?_⟩
  · have B := B.1 c2
    refine z_aload_n 5 rfl rfl ?_
    refine z_getI 6 rfl lX10_179 rfl o1 ?_
    refine z_iconst (v := 2) 7 rfl (by decide) ?_
    refine z_icmp_eq 8 25 rfl (by decide) ⟨fun c3 => ?_, fun c3 => ?_⟩
    · have B := B.1 c3
      refine z_aload_n 13 rfl rfl ?_
      refine z_getI 14 rfl lX10_189 rfl o1 ?_
      refine z_iload_n 15 rfl rfl ?_
      refine z_icmp_lt 16 41 rfl (by decide) ⟨fun c4 => ?_, fun c4 => ?_⟩
      · have B := B.1 c4
        refine z_aload_n 21 rfl rfl ?_
        refine z_iconst (v := 2) 22 rfl (by decide) ?_
        obtain ⟨Q5, K7, B⟩ := B
        refine z_cVV1 (ν := mX10_wrong) 23 rfl rfl fX10_wrong gX10_223 ⟨_, rfl, rfl⟩ (by decide) o1 (Nat.le_of_ble_eq_true rfl) K7 (fun h6 q => ?_)
        have B := B h6 q
        refine z_aload_n 24 rfl rfl ?_
        obtain ⟨o8, B⟩ := B
        refine z_getI 25 rfl lX10_214 rfl o8 ?_
        refine z_if_eq 26 55 rfl (by decide) ⟨fun c9 => ?_, fun c9 => ?_⟩
        · have B := B.1 c9
          refine z_aload_n 29 rfl rfl ?_
          refine z_getI 30 rfl lX10_189 rfl o8 ?_
          refine z_istore_n 31 rfl (by decide) rfl ?_
          refine z_aload_n 32 rfl rfl ?_
          obtain ⟨Q10, K12, B⟩ := B
          refine z_cVV0 (ν := mX10_token) 33 rfl rfl fX10_token gX10_220 ⟨_, rfl, rfl⟩ (by decide) o8 (Nat.le_of_ble_eq_true rfl) K12 (fun h11 q => ?_)
          have B := B h11 q
          refine z_iload_n 34 rfl rfl ?_
          exact z_iret 35 rfl rfl rfl ⟨rfl, rfl⟩ ⟨_, rfl, B⟩
        · have B := B.2 c9
          refine z_iload_n 27 rfl rfl ?_
          exact z_iret 28 rfl rfl rfl ⟨rfl, rfl⟩ ⟨_, rfl, B⟩
      · have B := B.2 c4
        refine z_aload_n 17 rfl rfl ?_
        refine z_getI 18 rfl lX10_189 rfl o1 ?_
        refine z_iload_n 19 rfl rfl ?_
        refine z_icmp_le 20 46 rfl (by decide) ⟨fun c13 => ?_, fun c13 => ?_⟩
        · have B := B.1 c13
          refine z_aload_n 24 rfl rfl ?_
          refine z_getI 25 rfl lX10_214 rfl o1 ?_
          refine z_if_eq 26 55 rfl (by decide) ⟨fun c14 => ?_, fun c14 => ?_⟩
          · have B := B.1 c14
            refine z_aload_n 29 rfl rfl ?_
            refine z_getI 30 rfl lX10_189 rfl o1 ?_
            refine z_istore_n 31 rfl (by decide) rfl ?_
            refine z_aload_n 32 rfl rfl ?_
            obtain ⟨Q15, K17, B⟩ := B
            refine z_cVV0 (ν := mX10_token) 33 rfl rfl fX10_token gX10_220 ⟨_, rfl, rfl⟩ (by decide) o1 (Nat.le_of_ble_eq_true rfl) K17 (fun h16 q => ?_)
            have B := B h16 q
            refine z_iload_n 34 rfl rfl ?_
            exact z_iret 35 rfl rfl rfl ⟨rfl, rfl⟩ ⟨_, rfl, B⟩
          · have B := B.2 c14
            refine z_iload_n 27 rfl rfl ?_
            exact z_iret 28 rfl rfl rfl ⟨rfl, rfl⟩ ⟨_, rfl, B⟩
        · have B := B.2 c13
          refine z_aload_n 21 rfl rfl ?_
          refine z_iconst (v := 2) 22 rfl (by decide) ?_
          obtain ⟨Q18, K20, B⟩ := B
          refine z_cVV1 (ν := mX10_wrong) 23 rfl rfl fX10_wrong gX10_223 ⟨_, rfl, rfl⟩ (by decide) o1 (Nat.le_of_ble_eq_true rfl) K20 (fun h19 q => ?_)
          have B := B h19 q
          refine z_aload_n 24 rfl rfl ?_
          obtain ⟨o21, B⟩ := B
          refine z_getI 25 rfl lX10_214 rfl o21 ?_
          refine z_if_eq 26 55 rfl (by decide) ⟨fun c22 => ?_, fun c22 => ?_⟩
          · have B := B.1 c22
            refine z_aload_n 29 rfl rfl ?_
            refine z_getI 30 rfl lX10_189 rfl o21 ?_
            refine z_istore_n 31 rfl (by decide) rfl ?_
            refine z_aload_n 32 rfl rfl ?_
            obtain ⟨Q23, K25, B⟩ := B
            refine z_cVV0 (ν := mX10_token) 33 rfl rfl fX10_token gX10_220 ⟨_, rfl, rfl⟩ (by decide) o21 (Nat.le_of_ble_eq_true rfl) K25 (fun h24 q => ?_)
            have B := B h24 q
            refine z_iload_n 34 rfl rfl ?_
            exact z_iret 35 rfl rfl rfl ⟨rfl, rfl⟩ ⟨_, rfl, B⟩
          · have B := B.2 c22
            refine z_iload_n 27 rfl rfl ?_
            exact z_iret 28 rfl rfl rfl ⟨rfl, rfl⟩ ⟨_, rfl, B⟩
    · have B := B.2 c3
      refine z_aload_n 9 rfl rfl ?_
      refine z_iconst (v := 1) 10 rfl (by decide) ?_
      obtain ⟨Q26, K28, B⟩ := B
      refine z_cVV1 (ν := mX10_wrong) 11 rfl rfl fX10_wrong gX10_223 ⟨_, rfl, rfl⟩ (by decide) o1 (Nat.le_of_ble_eq_true rfl) K28 (fun h27 q => ?_)
      have B := B h27 q
      refine z_goto 12 46 rfl (by decide) ?_
      refine z_aload_n 24 rfl rfl ?_
      obtain ⟨o29, B⟩ := B
      refine z_getI 25 rfl lX10_214 rfl o29 ?_
      refine z_if_eq 26 55 rfl (by decide) ⟨fun c30 => ?_, fun c30 => ?_⟩
      · have B := B.1 c30
        refine z_aload_n 29 rfl rfl ?_
        refine z_getI 30 rfl lX10_189 rfl o29 ?_
        refine z_istore_n 31 rfl (by decide) rfl ?_
        refine z_aload_n 32 rfl rfl ?_
        obtain ⟨Q31, K33, B⟩ := B
        refine z_cVV0 (ν := mX10_token) 33 rfl rfl fX10_token gX10_220 ⟨_, rfl, rfl⟩ (by decide) o29 (Nat.le_of_ble_eq_true rfl) K33 (fun h32 q => ?_)
        have B := B h32 q
        refine z_iload_n 34 rfl rfl ?_
        exact z_iret 35 rfl rfl rfl ⟨rfl, rfl⟩ ⟨_, rfl, B⟩
      · have B := B.2 c30
        refine z_iload_n 27 rfl rfl ?_
        exact z_iret 28 rfl rfl rfl ⟨rfl, rfl⟩ ⟨_, rfl, B⟩
  · have B := B.2 c2
    refine z_iload_n 3 rfl rfl ?_
    exact z_iret 4 rfl rfl rfl ⟨rfl, rfl⟩ ⟨_, rfl, B⟩
theorem cn_X10_numeral {G : zG} {d : Nat} {h : zMem} {Q : Int32 → zMem → Prop} {a0 : Nat} {x1 : Int32} {x2 : Int32} (B : zg G mX10_numeral (d + 1) 0 [.ref a0, .int x1, .int x2, zU] [] h (zPI Q)) : zConI G mX10_numeral (d + 1) [.ref a0, .int x1, .int x2] h Q := zcon0 (by decide +kernel) eX10_numeral (Nat.le_of_ble_eq_true rfl) rfl B
set_option maxRecDepth 100000 in
set_option maxHeartbeats 4000000 in
theorem sg_X10_found_0 {G : zG} {d : Nat} {h : zMem} {Q : Int32 → zMem → Prop} {a0 : Nat} {x1 : Int32} {x2 : Int32} {x3 : Int32} (B : zg G mX10_found d 3 [.ref a0, .int x1, .int x2, .int x3, .int (0 : Int32)] [] h (zPI Q)) : zg G mX10_found d 0 [.ref a0, .int x1, .int x2, .int x3, zU] [] h (zPI Q) := by
  refine z_iconst (v := 0) 0 rfl (by decide) ?_
  refine z_istore 1 rfl (by decide) rfl ?_
  exact B
theorem cn_X10_found {G : zG} {d : Nat} {h : zMem} {Q : Int32 → zMem → Prop} {a0 : Nat} {x1 : Int32} {x2 : Int32} {x3 : Int32} (B : zg G mX10_found d 0 [.ref a0, .int x1, .int x2, .int x3, zU] [] h (zPI Q)) : zConI G mX10_found d [.ref a0, .int x1, .int x2, .int x3] h Q := zcon0 (by decide +kernel) eX10_found (Nat.le_of_ble_eq_true rfl) rfl B
set_option maxRecDepth 100000 in
set_option maxHeartbeats 4000000 in
theorem sg_X10_found_3 {G : zG} {d : Nat} {h : zMem} {Q : Int32 → zMem → Prop} {a0 : Nat} {x1 : Int32} {x2 : Int32} {x3 : Int32} {x4 : Int32} (B : (x2 ≤ x4 → Q (-1 : Int32) h) ∧ (¬ x2 ≤ x4 → zO h a0 100 ∧ vp_in (x1 + x4) (zLen h a0) ∧ (¬ (zI h a0 (x1 + x4).toNatClampNeg) = x3 → zg G mX10_found d 3 [.ref a0, .int x1, .int x2, .int x3, .int (x4 + 1)] [] h (zPI Q)) ∧ ((zI h a0 (x1 + x4).toNatClampNeg) = x3 → Q x4 h))) : zg G mX10_found d 3 [.ref a0, .int x1, .int x2, .int x3, .int x4] [] h (zPI Q) := by
  refine z_iload 2 rfl rfl ?_
  refine z_iload_n 3 rfl rfl ?_
  refine z_icmp_ge 4 28 rfl (by decide) ⟨fun c1 => ?_, fun c1 => ?_⟩
  · have B := B.1 c1
    refine z_iconst (v := -1) 16 rfl (by decide) ?_
    exact z_iret 17 rfl rfl rfl ⟨rfl, rfl⟩ ⟨_, rfl, B⟩
  · have B := B.2 c1
    refine z_aload_n 5 rfl rfl ?_
    refine z_iload_n 6 rfl rfl ?_
    refine z_iload 7 rfl rfl ?_
    refine z_iadd 8 rfl ?_
    obtain ⟨o2, B⟩ := B
    obtain ⟨o3, B⟩ := B
    refine z_iald 9 rfl o2 o3 ?_
    refine z_iload_n 10 rfl rfl ?_
    refine z_icmp_ne 11 22 rfl (by decide) ⟨fun c4 => ?_, fun c4 => ?_⟩
    · have B := B.1 c4
      refine z_iinc (v := 1) 14 rfl rfl (by decide) (by decide) rfl ?_
      refine z_goto 15 3 rfl (by decide) ?_
      exact B
    · have B := B.2 c4
      refine z_iload 12 rfl rfl ?_
      exact z_iret 13 rfl rfl rfl ⟨rfl, rfl⟩ ⟨_, rfl, B⟩
set_option maxRecDepth 100000 in
set_option maxHeartbeats 4000000 in
theorem sg_X10_fresh_0 {G : zG} {d : Nat} {h : zMem} {Q : Int32 → zMem → Prop} {a0 : Nat} {a1 : Nat} {x2 : Int32} {x3 : Int32} (B : zO h a0 9 ∧ ((zI h a0 25) = 0 → ((zI h a0 23) = (1 : Int32) → ∃ Q4 : Int32 → zMem → Prop, zConI G mX10_found d [.ref a1, .int x2, .int x3, .int (zI h a0 24)] h Q4 ∧ (∀ v7 h5, Q4 v7 h5 → (v7 = (-1 : Int32) → zO h5 a0 9 ∧ ((zI h5 a0 25) = 0 → ∃ Q11 : zMem → Prop, zConV G mX10_token d [.ref a0] h5 Q11 ∧ (∀ h12, Q11 h12 → Q (zI h5 a0 24) h12)) ∧ (¬ (zI h5 a0 25) = 0 → Q (0 : Int32) h5)) ∧ (¬ v7 = (-1 : Int32) → zO h5 a0 9 ∧ ∃ Q14 : zMem → Prop, zConV G mX10_wrong d [.ref a0, .int (3 : Int32)] h5 Q14 ∧ (∀ h15, Q14 h15 → zO h15 a0 9 ∧ ((zI h15 a0 25) = 0 → ∃ Q19 : zMem → Prop, zConV G mX10_token d [.ref a0] h15 Q19 ∧ (∀ h20, Q19 h20 → Q (zI h15 a0 24) h20)) ∧ (¬ (zI h15 a0 25) = 0 → Q (0 : Int32) h15))))) ∧ (¬ (zI h a0 23) = (1 : Int32) → ∃ Q23 : zMem → Prop, zConV G mX10_wrong d [.ref a0, .int (1 : Int32)] h Q23 ∧ (∀ h24, Q23 h24 → zO h24 a0 9 ∧ ((zI h24 a0 25) = 0 → ∃ Q28 : zMem → Prop, zConV G mX10_token d [.ref a0] h24 Q28 ∧ (∀ h29, Q28 h29 → Q (zI h24 a0 24) h29)) ∧ (¬ (zI h24 a0 25) = 0 → Q (0 : Int32) h24)))) ∧ (¬ (zI h a0 25) = 0 → Q (0 : Int32) h)) : zg G mX10_fresh (d + 1) 0 [.ref a0, .ref a1, .int x2, .int x3, zU] [] h (zPI Q) := by
  refine z_aload_n 0 rfl rfl ?_
  obtain ⟨o1, B⟩ := B
  refine z_getI 1 rfl lX10_214 rfl o1 ?_
  refine z_if_eq 2 9 rfl (by decide) ⟨fun c2 => ?_, fun c2 => ?_⟩
  · have B := B.1 c2
    refine z_aload_n 5 rfl rfl ?_
    refine z_getI 6 rfl lX10_179 rfl o1 ?_
    refine z_iconst (v := 1) 7 rfl (by decide) ?_
    refine z_icmp_eq 8 25 rfl (by decide) ⟨fun c3 => ?_, fun c3 => ?_⟩
    · have B := B.1 c3
      refine z_aload_n 13 rfl rfl ?_
      refine z_iload_n 14 rfl rfl ?_
      refine z_iload_n 15 rfl rfl ?_
      refine z_aload_n 16 rfl rfl ?_
      refine z_getI 17 rfl lX10_189 rfl o1 ?_
      obtain ⟨Q4, K6, B⟩ := B
      refine z_cSI4 (ν := mX10_found) 18 rfl rfl fX10_found gX10_226 (Nat.le_of_ble_eq_true rfl) K6 (fun v7 h5 q => ?_)
      have B := B v7 h5 q
      refine z_iconst (v := -1) 19 rfl (by decide) ?_
      refine z_icmp_eq 20 44 rfl (by decide) ⟨fun c8 => ?_, fun c8 => ?_⟩
      · have B := B.1 c8
        refine z_aload_n 24 rfl rfl ?_
        obtain ⟨o9, B⟩ := B
        refine z_getI 25 rfl lX10_214 rfl o9 ?_
        refine z_if_eq 26 53 rfl (by decide) ⟨fun c10 => ?_, fun c10 => ?_⟩
        · have B := B.1 c10
          refine z_aload_n 29 rfl rfl ?_
          refine z_getI 30 rfl lX10_189 rfl o9 ?_
          refine z_istore 31 rfl (by decide) rfl ?_
          refine z_aload_n 32 rfl rfl ?_
          obtain ⟨Q11, K13, B⟩ := B
          refine z_cVV0 (ν := mX10_token) 33 rfl rfl fX10_token gX10_220 ⟨_, rfl, rfl⟩ (by decide) o9 (Nat.le_of_ble_eq_true rfl) K13 (fun h12 q => ?_)
          have B := B h12 q
          refine z_iload 34 rfl rfl ?_
          exact z_iret 35 rfl rfl rfl ⟨rfl, rfl⟩ ⟨_, rfl, B⟩
        · have B := B.2 c10
          refine z_iconst (v := 0) 27 rfl (by decide) ?_
          exact z_iret 28 rfl rfl rfl ⟨rfl, rfl⟩ ⟨_, rfl, B⟩
      · have B := B.2 c8
        refine z_aload_n 21 rfl rfl ?_
        refine z_iconst (v := 3) 22 rfl (by decide) ?_
        obtain ⟨o22, B⟩ := B
        obtain ⟨Q14, K16, B⟩ := B
        refine z_cVV1 (ν := mX10_wrong) 23 rfl rfl fX10_wrong gX10_223 ⟨_, rfl, rfl⟩ (by decide) o22 (Nat.le_of_ble_eq_true rfl) K16 (fun h15 q => ?_)
        have B := B h15 q
        refine z_aload_n 24 rfl rfl ?_
        obtain ⟨o17, B⟩ := B
        refine z_getI 25 rfl lX10_214 rfl o17 ?_
        refine z_if_eq 26 53 rfl (by decide) ⟨fun c18 => ?_, fun c18 => ?_⟩
        · have B := B.1 c18
          refine z_aload_n 29 rfl rfl ?_
          refine z_getI 30 rfl lX10_189 rfl o17 ?_
          refine z_istore 31 rfl (by decide) rfl ?_
          refine z_aload_n 32 rfl rfl ?_
          obtain ⟨Q19, K21, B⟩ := B
          refine z_cVV0 (ν := mX10_token) 33 rfl rfl fX10_token gX10_220 ⟨_, rfl, rfl⟩ (by decide) o17 (Nat.le_of_ble_eq_true rfl) K21 (fun h20 q => ?_)
          have B := B h20 q
          refine z_iload 34 rfl rfl ?_
          exact z_iret 35 rfl rfl rfl ⟨rfl, rfl⟩ ⟨_, rfl, B⟩
        · have B := B.2 c18
          refine z_iconst (v := 0) 27 rfl (by decide) ?_
          exact z_iret 28 rfl rfl rfl ⟨rfl, rfl⟩ ⟨_, rfl, B⟩
    · have B := B.2 c3
      refine z_aload_n 9 rfl rfl ?_
      refine z_iconst (v := 1) 10 rfl (by decide) ?_
      obtain ⟨Q23, K25, B⟩ := B
      refine z_cVV1 (ν := mX10_wrong) 11 rfl rfl fX10_wrong gX10_223 ⟨_, rfl, rfl⟩ (by decide) o1 (Nat.le_of_ble_eq_true rfl) K25 (fun h24 q => ?_)
      have B := B h24 q
      refine z_goto 12 44 rfl (by decide) ?_
      refine z_aload_n 24 rfl rfl ?_
      obtain ⟨o26, B⟩ := B
      refine z_getI 25 rfl lX10_214 rfl o26 ?_
      refine z_if_eq 26 53 rfl (by decide) ⟨fun c27 => ?_, fun c27 => ?_⟩
      · have B := B.1 c27
        refine z_aload_n 29 rfl rfl ?_
        refine z_getI 30 rfl lX10_189 rfl o26 ?_
        refine z_istore 31 rfl (by decide) rfl ?_
        refine z_aload_n 32 rfl rfl ?_
        obtain ⟨Q28, K30, B⟩ := B
        refine z_cVV0 (ν := mX10_token) 33 rfl rfl fX10_token gX10_220 ⟨_, rfl, rfl⟩ (by decide) o26 (Nat.le_of_ble_eq_true rfl) K30 (fun h29 q => ?_)
        have B := B h29 q
        refine z_iload 34 rfl rfl ?_
        exact z_iret 35 rfl rfl rfl ⟨rfl, rfl⟩ ⟨_, rfl, B⟩
      · have B := B.2 c27
        refine z_iconst (v := 0) 27 rfl (by decide) ?_
        exact z_iret 28 rfl rfl rfl ⟨rfl, rfl⟩ ⟨_, rfl, B⟩
  · have B := B.2 c2
    refine z_iconst (v := 0) 3 rfl (by decide) ?_
    exact z_iret 4 rfl rfl rfl ⟨rfl, rfl⟩ ⟨_, rfl, B⟩
theorem cn_X10_fresh {G : zG} {d : Nat} {h : zMem} {Q : Int32 → zMem → Prop} {a0 : Nat} {a1 : Nat} {x2 : Int32} {x3 : Int32} (B : zg G mX10_fresh (d + 1) 0 [.ref a0, .ref a1, .int x2, .int x3, zU] [] h (zPI Q)) : zConI G mX10_fresh (d + 1) [.ref a0, .ref a1, .int x2, .int x3] h Q := zcon0 (by decide +kernel) eX10_fresh (Nat.le_of_ble_eq_true rfl) rfl B
set_option maxRecDepth 100000 in
set_option maxHeartbeats 4000000 in
theorem sg_X10_fresher_0 {G : zG} {d : Nat} {h : zMem} {Q : Int32 → zMem → Prop} {a0 : Nat} {x1 : Int32} (B : zO h a0 9 ∧ ∃ r2, zR h a0 3 = some r2 ∧ zO h r2 100 ∧ vp_in ((8 : Int32) + x1) (zLen h r2) ∧ Q (zI h r2 ((8 : Int32) + x1).toNatClampNeg) h) : zg G mX10_fresher d 0 [.ref a0, .int x1] [] h (zPI Q) := by
  refine z_aload_n 0 rfl rfl ?_
  obtain ⟨o1, B⟩ := B
  obtain ⟨r2, hr2, B⟩ := B
  refine z_getR 1 rfl lX10_13 rfl o1 hr2 ?_
  refine z_bipush (v := 8) 2 rfl (by decide) ?_
  refine z_iload_n 3 rfl rfl ?_
  refine z_iadd 4 rfl ?_
  obtain ⟨o3, B⟩ := B
  obtain ⟨o4, B⟩ := B
  refine z_iald 5 rfl o3 o4 ?_
  exact z_iret 6 rfl rfl rfl ⟨rfl, rfl⟩ ⟨_, rfl, B⟩
theorem cn_X10_fresher {G : zG} {d : Nat} {h : zMem} {Q : Int32 → zMem → Prop} {a0 : Nat} {x1 : Int32} (B : zg G mX10_fresher d 0 [.ref a0, .int x1] [] h (zPI Q)) : zConI G mX10_fresher d [.ref a0, .int x1] h Q := zcon0 (by decide +kernel) eX10_fresher (Nat.le_of_ble_eq_true rfl) rfl B
set_option maxRecDepth 100000 in
set_option maxHeartbeats 4000000 in
theorem sg_X10_reads_0 {G : zG} {d : Nat} {h : zMem} {Q : zMem → Prop} {a0 : Nat} {x1 : Int32} {x2 : Int32} (B : zO h a0 9 ∧ ∃ r2, zR h a0 3 = some r2 ∧ zO h r2 100 ∧ vp_in ((8 : Int32) + x1) (zLen h r2) ∧ Q (zsI h r2 ((8 : Int32) + x1).toNatClampNeg x2)) : zg G mX10_reads d 0 [.ref a0, .int x1, .int x2] [] h (zPV Q) := by
  refine z_aload_n 0 rfl rfl ?_
  obtain ⟨o1, B⟩ := B
  obtain ⟨r2, hr2, B⟩ := B
  refine z_getR 1 rfl lX10_13 rfl o1 hr2 ?_
  refine z_bipush (v := 8) 2 rfl (by decide) ?_
  refine z_iload_n 3 rfl rfl ?_
  refine z_iadd 4 rfl ?_
  refine z_iload_n 5 rfl rfl ?_
  obtain ⟨o3, B⟩ := B
  obtain ⟨o4, B⟩ := B
  refine z_iast 6 rfl o3 o4 ?_
  exact z_vret 7 rfl rfl ⟨rfl, rfl⟩ ⟨rfl, B⟩
theorem cn_X10_reads {G : zG} {d : Nat} {h : zMem} {Q : zMem → Prop} {a0 : Nat} {x1 : Int32} {x2 : Int32} (B : zg G mX10_reads d 0 [.ref a0, .int x1, .int x2] [] h (zPV Q)) : zConV G mX10_reads d [.ref a0, .int x1, .int x2] h Q := zcon0 (by decide +kernel) eX10_reads (Nat.le_of_ble_eq_true rfl) rfl B
set_option maxRecDepth 100000 in
set_option maxHeartbeats 4000000 in
theorem sg_X10_isFull_0 {G : zG} {d : Nat} {h : zMem} {Q : Int32 → zMem → Prop} {a0 : Nat} {x1 : Int32} (B : (¬ x1 = 0 → zg G mX10_isFull (d + 1) 14 [.ref a0, .int x1] [] h (zPI Q)) ∧ (x1 = 0 → zO h a0 9 ∧ ∃ Q2 : Int32 → zMem → Prop, zConI G mX10_fresher d [.ref a0, .int (0 : Int32)] h Q2 ∧ (∀ v5 h3, Q2 v5 h3 → (v5 = (6 : Int32) → Q (1 : Int32) h3) ∧ (¬ v5 = (6 : Int32) → zg G mX10_isFull (d + 1) 14 [.ref a0, .int x1] [] h3 (zPI Q))))) : zg G mX10_isFull (d + 1) 0 [.ref a0, .int x1] [] h (zPI Q) := by
  refine z_iload_n 0 rfl rfl ?_
  refine z_if_ne 1 14 rfl (by decide) ⟨fun c1 => ?_, fun c1 => ?_⟩
  · have B := B.1 c1
    exact B
  · have B := B.2 c1
    refine z_aload_n 2 rfl rfl ?_
    refine z_iconst (v := 0) 3 rfl (by decide) ?_
    obtain ⟨o7, B⟩ := B
    obtain ⟨Q2, K4, B⟩ := B
    refine z_cVI1 (ν := mX10_fresher) 4 rfl rfl fX10_fresher gX10_230 ⟨_, rfl, rfl⟩ (by decide) o7 (Nat.le_of_ble_eq_true rfl) K4 (fun v5 h3 q => ?_)
    have B := B v5 h3 q
    refine z_bipush (v := 6) 5 rfl (by decide) ?_
    refine z_icmp_eq 6 73 rfl (by decide) ⟨fun c6 => ?_, fun c6 => ?_⟩
    · have B := B.1 c6
      refine z_iconst (v := 1) 39 rfl (by decide) ?_
      refine z_goto 40 78 rfl (by decide) ?_
      exact z_iret 42 rfl rfl rfl ⟨rfl, rfl⟩ ⟨_, rfl, B⟩
    · have B := B.2 c6
      exact B
theorem cn_X10_isFull {G : zG} {d : Nat} {h : zMem} {Q : Int32 → zMem → Prop} {a0 : Nat} {x1 : Int32} (B : zg G mX10_isFull (d + 1) 0 [.ref a0, .int x1] [] h (zPI Q)) : zConI G mX10_isFull (d + 1) [.ref a0, .int x1] h Q := zcon0 (by decide +kernel) eX10_isFull (Nat.le_of_ble_eq_true rfl) rfl B
set_option maxRecDepth 100000 in
set_option maxHeartbeats 4000000 in
theorem sg_X10_isFull_14 {G : zG} {d : Nat} {h : zMem} {Q : Int32 → zMem → Prop} {a0 : Nat} {x1 : Int32} (B : (¬ x1 = (1 : Int32) → zg G mX10_isFull (d + 1) 29 [.ref a0, .int x1] [] h (zPI Q)) ∧ (x1 = (1 : Int32) → zO h a0 9 ∧ ∃ Q2 : Int32 → zMem → Prop, zConI G mX10_fresher d [.ref a0, .int (1 : Int32)] h Q2 ∧ (∀ v5 h3, Q2 v5 h3 → (v5 = (8 : Int32) → Q (1 : Int32) h3) ∧ (¬ v5 = (8 : Int32) → zg G mX10_isFull (d + 1) 29 [.ref a0, .int x1] [] h3 (zPI Q))))) : zg G mX10_isFull (d + 1) 14 [.ref a0, .int x1] [] h (zPI Q) := by
  refine z_iload_n 7 rfl rfl ?_
  refine z_iconst (v := 1) 8 rfl (by decide) ?_
  refine z_icmp_ne 9 29 rfl (by decide) ⟨fun c1 => ?_, fun c1 => ?_⟩
  · have B := B.1 c1
    exact B
  · have B := B.2 c1
    refine z_aload_n 10 rfl rfl ?_
    refine z_iconst (v := 1) 11 rfl (by decide) ?_
    obtain ⟨o7, B⟩ := B
    obtain ⟨Q2, K4, B⟩ := B
    refine z_cVI1 (ν := mX10_fresher) 12 rfl rfl fX10_fresher gX10_230 ⟨_, rfl, rfl⟩ (by decide) o7 (Nat.le_of_ble_eq_true rfl) K4 (fun v5 h3 q => ?_)
    have B := B v5 h3 q
    refine z_bipush (v := 8) 13 rfl (by decide) ?_
    refine z_icmp_eq 14 73 rfl (by decide) ⟨fun c6 => ?_, fun c6 => ?_⟩
    · have B := B.1 c6
      refine z_iconst (v := 1) 39 rfl (by decide) ?_
      refine z_goto 40 78 rfl (by decide) ?_
      exact z_iret 42 rfl rfl rfl ⟨rfl, rfl⟩ ⟨_, rfl, B⟩
    · have B := B.2 c6
      exact B
set_option maxRecDepth 100000 in
set_option maxHeartbeats 4000000 in
theorem sg_X10_isFull_29 {G : zG} {d : Nat} {h : zMem} {Q : Int32 → zMem → Prop} {a0 : Nat} {x1 : Int32} (B : (¬ x1 = (2 : Int32) → (¬ x1 = (3 : Int32) → (¬ x1 = (4 : Int32) → Q (0 : Int32) h) ∧ (x1 = (4 : Int32) → zO h a0 9 ∧ ∃ Q4 : Int32 → zMem → Prop, zConI G mX10_fresher d [.ref a0, .int (4 : Int32)] h Q4 ∧ (∀ v7 h5, Q4 v7 h5 → (¬ v7 = (5 : Int32) → Q (0 : Int32) h5) ∧ (v7 = (5 : Int32) → Q (1 : Int32) h5)))) ∧ (x1 = (3 : Int32) → zO h a0 9 ∧ ∃ Q10 : Int32 → zMem → Prop, zConI G mX10_fresher d [.ref a0, .int (3 : Int32)] h Q10 ∧ (∀ v13 h11, Q10 v13 h11 → (v13 = (6 : Int32) → Q (1 : Int32) h11) ∧ (¬ v13 = (6 : Int32) → (¬ x1 = (4 : Int32) → Q (0 : Int32) h11) ∧ (x1 = (4 : Int32) → zO h11 a0 9 ∧ ∃ Q16 : Int32 → zMem → Prop, zConI G mX10_fresher d [.ref a0, .int (4 : Int32)] h11 Q16 ∧ (∀ v19 h17, Q16 v19 h17 → (¬ v19 = (5 : Int32) → Q (0 : Int32) h17) ∧ (v19 = (5 : Int32) → Q (1 : Int32) h17))))))) ∧ (x1 = (2 : Int32) → zO h a0 9 ∧ ∃ Q23 : Int32 → zMem → Prop, zConI G mX10_fresher d [.ref a0, .int (2 : Int32)] h Q23 ∧ (∀ v26 h24, Q23 v26 h24 → (v26 = (24 : Int32) → Q (1 : Int32) h24) ∧ (¬ v26 = (24 : Int32) → (¬ x1 = (3 : Int32) → (¬ x1 = (4 : Int32) → Q (0 : Int32) h24) ∧ (x1 = (4 : Int32) → zO h24 a0 9 ∧ ∃ Q30 : Int32 → zMem → Prop, zConI G mX10_fresher d [.ref a0, .int (4 : Int32)] h24 Q30 ∧ (∀ v33 h31, Q30 v33 h31 → (¬ v33 = (5 : Int32) → Q (0 : Int32) h31) ∧ (v33 = (5 : Int32) → Q (1 : Int32) h31)))) ∧ (x1 = (3 : Int32) → zO h24 a0 9 ∧ ∃ Q36 : Int32 → zMem → Prop, zConI G mX10_fresher d [.ref a0, .int (3 : Int32)] h24 Q36 ∧ (∀ v39 h37, Q36 v39 h37 → (v39 = (6 : Int32) → Q (1 : Int32) h37) ∧ (¬ v39 = (6 : Int32) → (¬ x1 = (4 : Int32) → Q (0 : Int32) h37) ∧ (x1 = (4 : Int32) → zO h37 a0 9 ∧ ∃ Q42 : Int32 → zMem → Prop, zConI G mX10_fresher d [.ref a0, .int (4 : Int32)] h37 Q42 ∧ (∀ v45 h43, Q42 v45 h43 → (¬ v45 = (5 : Int32) → Q (0 : Int32) h43) ∧ (v45 = (5 : Int32) → Q (1 : Int32) h43)))))))))) : zg G mX10_isFull (d + 1) 29 [.ref a0, .int x1] [] h (zPI Q) := by
  refine z_iload_n 15 rfl rfl ?_
  refine z_iconst (v := 2) 16 rfl (by decide) ?_
  refine z_icmp_ne 17 44 rfl (by decide) ⟨fun c1 => ?_, fun c1 => ?_⟩
  · have B := B.1 c1
    refine z_iload_n 23 rfl rfl ?_
    refine z_iconst (v := 3) 24 rfl (by decide) ?_
    refine z_icmp_ne 25 59 rfl (by decide) ⟨fun c2 => ?_, fun c2 => ?_⟩
    · have B := B.1 c2
      refine z_iload_n 31 rfl rfl ?_
      refine z_iconst (v := 4) 32 rfl (by decide) ?_
      refine z_icmp_ne 33 77 rfl (by decide) ⟨fun c3 => ?_, fun c3 => ?_⟩
      · have B := B.1 c3
        refine z_iconst (v := 0) 41 rfl (by decide) ?_
        exact z_iret 42 rfl rfl rfl ⟨rfl, rfl⟩ ⟨_, rfl, B⟩
      · have B := B.2 c3
        refine z_aload_n 34 rfl rfl ?_
        refine z_iconst (v := 4) 35 rfl (by decide) ?_
        obtain ⟨o9, B⟩ := B
        obtain ⟨Q4, K6, B⟩ := B
        refine z_cVI1 (ν := mX10_fresher) 36 rfl rfl fX10_fresher gX10_230 ⟨_, rfl, rfl⟩ (by decide) o9 (Nat.le_of_ble_eq_true rfl) K6 (fun v7 h5 q => ?_)
        have B := B v7 h5 q
        refine z_iconst (v := 5) 37 rfl (by decide) ?_
        refine z_icmp_ne 38 77 rfl (by decide) ⟨fun c8 => ?_, fun c8 => ?_⟩
        · have B := B.1 c8
          refine z_iconst (v := 0) 41 rfl (by decide) ?_
          exact z_iret 42 rfl rfl rfl ⟨rfl, rfl⟩ ⟨_, rfl, B⟩
        · have B := B.2 c8
          refine z_iconst (v := 1) 39 rfl (by decide) ?_
          refine z_goto 40 78 rfl (by decide) ?_
          exact z_iret 42 rfl rfl rfl ⟨rfl, rfl⟩ ⟨_, rfl, B⟩
    · have B := B.2 c2
      refine z_aload_n 26 rfl rfl ?_
      refine z_iconst (v := 3) 27 rfl (by decide) ?_
      obtain ⟨o22, B⟩ := B
      obtain ⟨Q10, K12, B⟩ := B
      refine z_cVI1 (ν := mX10_fresher) 28 rfl rfl fX10_fresher gX10_230 ⟨_, rfl, rfl⟩ (by decide) o22 (Nat.le_of_ble_eq_true rfl) K12 (fun v13 h11 q => ?_)
      have B := B v13 h11 q
      refine z_bipush (v := 6) 29 rfl (by decide) ?_
      refine z_icmp_eq 30 73 rfl (by decide) ⟨fun c14 => ?_, fun c14 => ?_⟩
      · have B := B.1 c14
        refine z_iconst (v := 1) 39 rfl (by decide) ?_
        refine z_goto 40 78 rfl (by decide) ?_
        exact z_iret 42 rfl rfl rfl ⟨rfl, rfl⟩ ⟨_, rfl, B⟩
      · have B := B.2 c14
        refine z_iload_n 31 rfl rfl ?_
        refine z_iconst (v := 4) 32 rfl (by decide) ?_
        refine z_icmp_ne 33 77 rfl (by decide) ⟨fun c15 => ?_, fun c15 => ?_⟩
        · have B := B.1 c15
          refine z_iconst (v := 0) 41 rfl (by decide) ?_
          exact z_iret 42 rfl rfl rfl ⟨rfl, rfl⟩ ⟨_, rfl, B⟩
        · have B := B.2 c15
          refine z_aload_n 34 rfl rfl ?_
          refine z_iconst (v := 4) 35 rfl (by decide) ?_
          obtain ⟨o21, B⟩ := B
          obtain ⟨Q16, K18, B⟩ := B
          refine z_cVI1 (ν := mX10_fresher) 36 rfl rfl fX10_fresher gX10_230 ⟨_, rfl, rfl⟩ (by decide) o21 (Nat.le_of_ble_eq_true rfl) K18 (fun v19 h17 q => ?_)
          have B := B v19 h17 q
          refine z_iconst (v := 5) 37 rfl (by decide) ?_
          refine z_icmp_ne 38 77 rfl (by decide) ⟨fun c20 => ?_, fun c20 => ?_⟩
          · have B := B.1 c20
            refine z_iconst (v := 0) 41 rfl (by decide) ?_
            exact z_iret 42 rfl rfl rfl ⟨rfl, rfl⟩ ⟨_, rfl, B⟩
          · have B := B.2 c20
            refine z_iconst (v := 1) 39 rfl (by decide) ?_
            refine z_goto 40 78 rfl (by decide) ?_
            exact z_iret 42 rfl rfl rfl ⟨rfl, rfl⟩ ⟨_, rfl, B⟩
  · have B := B.2 c1
    refine z_aload_n 18 rfl rfl ?_
    refine z_iconst (v := 2) 19 rfl (by decide) ?_
    obtain ⟨o49, B⟩ := B
    obtain ⟨Q23, K25, B⟩ := B
    refine z_cVI1 (ν := mX10_fresher) 20 rfl rfl fX10_fresher gX10_230 ⟨_, rfl, rfl⟩ (by decide) o49 (Nat.le_of_ble_eq_true rfl) K25 (fun v26 h24 q => ?_)
    have B := B v26 h24 q
    refine z_bipush (v := 24) 21 rfl (by decide) ?_
    refine z_icmp_eq 22 73 rfl (by decide) ⟨fun c27 => ?_, fun c27 => ?_⟩
    · have B := B.1 c27
      refine z_iconst (v := 1) 39 rfl (by decide) ?_
      refine z_goto 40 78 rfl (by decide) ?_
      exact z_iret 42 rfl rfl rfl ⟨rfl, rfl⟩ ⟨_, rfl, B⟩
    · have B := B.2 c27
      refine z_iload_n 23 rfl rfl ?_
      refine z_iconst (v := 3) 24 rfl (by decide) ?_
      refine z_icmp_ne 25 59 rfl (by decide) ⟨fun c28 => ?_, fun c28 => ?_⟩
      · have B := B.1 c28
        refine z_iload_n 31 rfl rfl ?_
        refine z_iconst (v := 4) 32 rfl (by decide) ?_
        refine z_icmp_ne 33 77 rfl (by decide) ⟨fun c29 => ?_, fun c29 => ?_⟩
        · have B := B.1 c29
          refine z_iconst (v := 0) 41 rfl (by decide) ?_
          exact z_iret 42 rfl rfl rfl ⟨rfl, rfl⟩ ⟨_, rfl, B⟩
        · have B := B.2 c29
          refine z_aload_n 34 rfl rfl ?_
          refine z_iconst (v := 4) 35 rfl (by decide) ?_
          obtain ⟨o35, B⟩ := B
          obtain ⟨Q30, K32, B⟩ := B
          refine z_cVI1 (ν := mX10_fresher) 36 rfl rfl fX10_fresher gX10_230 ⟨_, rfl, rfl⟩ (by decide) o35 (Nat.le_of_ble_eq_true rfl) K32 (fun v33 h31 q => ?_)
          have B := B v33 h31 q
          refine z_iconst (v := 5) 37 rfl (by decide) ?_
          refine z_icmp_ne 38 77 rfl (by decide) ⟨fun c34 => ?_, fun c34 => ?_⟩
          · have B := B.1 c34
            refine z_iconst (v := 0) 41 rfl (by decide) ?_
            exact z_iret 42 rfl rfl rfl ⟨rfl, rfl⟩ ⟨_, rfl, B⟩
          · have B := B.2 c34
            refine z_iconst (v := 1) 39 rfl (by decide) ?_
            refine z_goto 40 78 rfl (by decide) ?_
            exact z_iret 42 rfl rfl rfl ⟨rfl, rfl⟩ ⟨_, rfl, B⟩
      · have B := B.2 c28
        refine z_aload_n 26 rfl rfl ?_
        refine z_iconst (v := 3) 27 rfl (by decide) ?_
        obtain ⟨o48, B⟩ := B
        obtain ⟨Q36, K38, B⟩ := B
        refine z_cVI1 (ν := mX10_fresher) 28 rfl rfl fX10_fresher gX10_230 ⟨_, rfl, rfl⟩ (by decide) o48 (Nat.le_of_ble_eq_true rfl) K38 (fun v39 h37 q => ?_)
        have B := B v39 h37 q
        refine z_bipush (v := 6) 29 rfl (by decide) ?_
        refine z_icmp_eq 30 73 rfl (by decide) ⟨fun c40 => ?_, fun c40 => ?_⟩
        · have B := B.1 c40
          refine z_iconst (v := 1) 39 rfl (by decide) ?_
          refine z_goto 40 78 rfl (by decide) ?_
          exact z_iret 42 rfl rfl rfl ⟨rfl, rfl⟩ ⟨_, rfl, B⟩
        · have B := B.2 c40
          refine z_iload_n 31 rfl rfl ?_
          refine z_iconst (v := 4) 32 rfl (by decide) ?_
          refine z_icmp_ne 33 77 rfl (by decide) ⟨fun c41 => ?_, fun c41 => ?_⟩
          · have B := B.1 c41
            refine z_iconst (v := 0) 41 rfl (by decide) ?_
            exact z_iret 42 rfl rfl rfl ⟨rfl, rfl⟩ ⟨_, rfl, B⟩
          · have B := B.2 c41
            refine z_aload_n 34 rfl rfl ?_
            refine z_iconst (v := 4) 35 rfl (by decide) ?_
            obtain ⟨o47, B⟩ := B
            obtain ⟨Q42, K44, B⟩ := B
            refine z_cVI1 (ν := mX10_fresher) 36 rfl rfl fX10_fresher gX10_230 ⟨_, rfl, rfl⟩ (by decide) o47 (Nat.le_of_ble_eq_true rfl) K44 (fun v45 h43 q => ?_)
            have B := B v45 h43 q
            refine z_iconst (v := 5) 37 rfl (by decide) ?_
            refine z_icmp_ne 38 77 rfl (by decide) ⟨fun c46 => ?_, fun c46 => ?_⟩
            · have B := B.1 c46
              refine z_iconst (v := 0) 41 rfl (by decide) ?_
              exact z_iret 42 rfl rfl rfl ⟨rfl, rfl⟩ ⟨_, rfl, B⟩
            · have B := B.2 c46
              refine z_iconst (v := 1) 39 rfl (by decide) ?_
              refine z_goto 40 78 rfl (by decide) ?_
              exact z_iret 42 rfl rfl rfl ⟨rfl, rfl⟩ ⟨_, rfl, B⟩
