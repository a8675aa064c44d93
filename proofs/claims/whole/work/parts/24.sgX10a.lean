set_option maxRecDepth 100000 in
set_option maxHeartbeats 4000000 in
theorem sg_X10_thrown_0 {G : zG} {d : Nat} {h : zMem} {Q : Int32 → zMem → Prop}  (hS : zSh2 h)  (B : Q (zI h 132 0) h) : zg G mX10_thrown d 0 [.ref 132] [] h (zPI Q) := by
  refine z_aload_n 0 rfl rfl ?_
  refine z_getI 1 rfl lX10_160 rfl (zcl1.o hS 132 9 rfl rfl rfl) ?_
  exact z_iret 2 rfl rfl rfl ⟨rfl, rfl⟩ ⟨_, rfl, B⟩
theorem cn_X10_thrown {G : zG} {d : Nat} {h : zMem} {Q : Int32 → zMem → Prop}  (B : zg G mX10_thrown d 0 [.ref 132] [] h (zPI Q)) : zConI G mX10_thrown d [.ref 132] h Q := zcon0 (by decide +kernel) eX10_thrown (Nat.le_of_ble_eq_true rfl) rfl B
set_option maxRecDepth 100000 in
set_option maxHeartbeats 4000000 in
theorem sg_X10_feed_0 {G : zG} {d : Nat} {h : zMem} {Q : Int32 → zMem → Prop} {x1 : Int32} {x2 : Int32} {x3 : Int32} {x4 : Int32} {x5 : Int32} (hS : zSh2 h)  (B : ((zI (zsI h 132 0 (0 : Int32)) 132 2) ≤ (680 : Int32) → zg G mX10_feed d 20 [.ref 132, .int x1, .int x2, .int x3, .int x4, .int x5, .int (0 : Int32), zU] [] (zsI h 132 0 (0 : Int32)) (zPI Q)) ∧ (¬ (zI (zsI h 132 0 (0 : Int32)) 132 2) ≤ (680 : Int32) → Q (-1 : Int32) (zsI h 132 0 (0 : Int32)))) : zg G mX10_feed d 0 [.ref 132, .int x1, .int x2, .int x3, .int x4, .int x5, zU, zU] [] h (zPI Q) := by
  refine z_aload_n 0 rfl rfl ?_
  refine z_iconst (v := 0) 1 rfl (by decide) ?_
  refine z_putI 2 rfl lX10_160 ⟨_, _, _, rfl, rfl⟩ rfl rfl rfl (zcl1.o hS 132 9 rfl rfl rfl) ?_
  refine z_aload_n 3 rfl rfl ?_
  refine z_getI 4 rfl lX10_163 rfl (zcl1.o hS 132 9 rfl rfl rfl) ?_
  refine z_sipush (v := 680) 5 rfl (by decide) ?_
  refine z_icmp_le 6 17 rfl (by decide) ⟨fun c1 => ?_, fun c1 => ?_⟩
  · have B := B.1 c1
    refine z_iconst (v := 0) 9 rfl (by decide) ?_
    refine z_istore 10 rfl (by decide) rfl ?_
    exact B
  · have B := B.2 c1
    refine z_iconst (v := -1) 7 rfl (by decide) ?_
    exact z_iret 8 rfl rfl rfl ⟨rfl, rfl⟩ ⟨_, rfl, B⟩
theorem cn_X10_feed {G : zG} {d : Nat} {h : zMem} {Q : Int32 → zMem → Prop} {x1 : Int32} {x2 : Int32} {x3 : Int32} {x4 : Int32} {x5 : Int32} (B : zg G mX10_feed d 0 [.ref 132, .int x1, .int x2, .int x3, .int x4, .int x5, zU, zU] [] h (zPI Q)) : zConI G mX10_feed d [.ref 132, .int x1, .int x2, .int x3, .int x4, .int x5] h Q := zcon0 (by decide +kernel) eX10_feed (Nat.le_of_ble_eq_true rfl) rfl B
set_option maxRecDepth 100000 in
set_option maxHeartbeats 4000000 in
theorem sg_X10_feed_20 {G : zG} {d : Nat} {h : zMem} {Q : Int32 → zMem → Prop} {x1 : Int32} {x2 : Int32} {x3 : Int32} {x4 : Int32} {x5 : Int32} {x6 : Int32} (hS : zSh2 h)  (B : ((20 : Int32) ≤ x6 → Q (zI (zsI h 132 2 ((zI h 132 2) + (20 : Int32))) 132 2) (zsI h 132 2 ((zI h 132 2) + (20 : Int32)))) ∧ (¬ (20 : Int32) ≤ x6 → ((4 : Int32) ≤ x6 → ((8 : Int32) ≤ x6 → ((12 : Int32) ≤ x6 → ((16 : Int32) ≤ x6 → vp_in ((zI h 132 2) + x6) 700 ∧ zg G mX10_feed d 20 [.ref 132, .int x1, .int x2, .int x3, .int x4, .int x5, .int (x6 + 1), zU] [] (zsI h 133 ((zI h 132 2) + x6).toNatClampNeg ((x5 >>> (((24 : Int32) - ((8 : Int32) * (x6 - x6 / (4 : Int32) * (4 : Int32)))) &&& 31)) &&& (255 : Int32))) (zPI Q)) ∧ (¬ (16 : Int32) ≤ x6 → vp_in ((zI h 132 2) + x6) 700 ∧ zg G mX10_feed d 20 [.ref 132, .int x1, .int x2, .int x3, .int x4, .int x5, .int (x6 + 1), zU] [] (zsI h 133 ((zI h 132 2) + x6).toNatClampNeg ((x4 >>> (((24 : Int32) - ((8 : Int32) * (x6 - x6 / (4 : Int32) * (4 : Int32)))) &&& 31)) &&& (255 : Int32))) (zPI Q))) ∧ (¬ (12 : Int32) ≤ x6 → vp_in ((zI h 132 2) + x6) 700 ∧ zg G mX10_feed d 20 [.ref 132, .int x1, .int x2, .int x3, .int x4, .int x5, .int (x6 + 1), zU] [] (zsI h 133 ((zI h 132 2) + x6).toNatClampNeg ((x3 >>> (((24 : Int32) - ((8 : Int32) * (x6 - x6 / (4 : Int32) * (4 : Int32)))) &&& 31)) &&& (255 : Int32))) (zPI Q))) ∧ (¬ (8 : Int32) ≤ x6 → vp_in ((zI h 132 2) + x6) 700 ∧ zg G mX10_feed d 20 [.ref 132, .int x1, .int x2, .int x3, .int x4, .int x5, .int (x6 + 1), zU] [] (zsI h 133 ((zI h 132 2) + x6).toNatClampNeg ((x2 >>> (((24 : Int32) - ((8 : Int32) * (x6 - x6 / (4 : Int32) * (4 : Int32)))) &&& 31)) &&& (255 : Int32))) (zPI Q))) ∧ (¬ (4 : Int32) ≤ x6 → vp_in ((zI h 132 2) + x6) 700 ∧ zg G mX10_feed d 20 [.ref 132, .int x1, .int x2, .int x3, .int x4, .int x5, .int (x6 + 1), zU] [] (zsI h 133 ((zI h 132 2) + x6).toNatClampNeg ((x1 >>> (((24 : Int32) - ((8 : Int32) * (x6 - x6 / (4 : Int32) * (4 : Int32)))) &&& 31)) &&& (255 : Int32))) (zPI Q)))) : zg G mX10_feed d 20 [.ref 132, .int x1, .int x2, .int x3, .int x4, .int x5, .int x6, zU] [] h (zPI Q) := by
  refine z_iload 11 rfl rfl ?_
  refine z_bipush (v := 20) 12 rfl (by decide) ?_
  refine z_icmp_ge 13 110 rfl (by decide) ⟨fun c1 => ?_, fun c1 => ?_⟩
  · have B := B.1 c1
    refine z_aload_n 56 rfl rfl ?_
    refine z_dup 57 rfl rfl ?_
    refine z_getI 58 rfl lX10_163 rfl (zcl1.o hS 132 9 rfl rfl rfl) ?_
    refine z_bipush (v := 20) 59 rfl (by decide) ?_
    refine z_iadd 60 rfl ?_
    refine z_putI 61 rfl lX10_163 ⟨_, _, _, rfl, rfl⟩ rfl rfl rfl (zcl1.o hS 132 9 rfl rfl rfl) ?_
    refine z_aload_n 62 rfl rfl ?_
    refine z_getI 63 rfl lX10_163 rfl (zcl1.o hS 132 9 rfl rfl rfl) ?_
    exact z_iret 64 rfl rfl rfl ⟨rfl, rfl⟩ ⟨_, rfl, B⟩
  · have B := B.2 c1
    refine z_iload 14 rfl rfl ?_
    refine z_iconst (v := 4) 15 rfl (by decide) ?_
    refine z_icmp_ge 16 37 rfl (by decide) ⟨fun c2 => ?_, fun c2 => ?_⟩
    · have B := B.1 c2
      refine z_iload 19 rfl rfl ?_
      refine z_bipush (v := 8) 20 rfl (by decide) ?_
      refine z_icmp_ge 21 48 rfl (by decide) ⟨fun c3 => ?_, fun c3 => ?_⟩
      · have B := B.1 c3
        refine z_iload 24 rfl rfl ?_
        refine z_bipush (v := 12) 25 rfl (by decide) ?_
        refine z_icmp_ge 26 59 rfl (by decide) ⟨fun c4 => ?_, fun c4 => ?_⟩
        · have B := B.1 c4
          refine z_iload 29 rfl rfl ?_
          refine z_bipush (v := 16) 30 rfl (by decide) ?_
          refine z_icmp_ge 31 71 rfl (by decide) ⟨fun c5 => ?_, fun c5 => ?_⟩
          · have B := B.1 c5
            refine z_iload 34 rfl rfl ?_
            refine z_istore 35 rfl (by decide) rfl ?_
            refine z_aload_n 36 rfl rfl ?_
            refine z_getR 37 rfl lX10_7 rfl (zcl1.o hS 132 9 rfl rfl rfl) (zcl1.r hS 132 1 133 rfl rfl rfl) ?_
            refine z_aload_n 38 rfl rfl ?_
            refine z_getI 39 rfl lX10_163 rfl (zcl1.o hS 132 9 rfl rfl rfl) ?_
            refine z_iload 40 rfl rfl ?_
            refine z_iadd 41 rfl ?_
            refine z_iload 42 rfl rfl ?_
            refine z_bipush (v := 24) 43 rfl (by decide) ?_
            refine z_bipush (v := 8) 44 rfl (by decide) ?_
            refine z_iload 45 rfl rfl ?_
            refine z_iconst (v := 4) 46 rfl (by decide) ?_
            refine z_irem 47 rfl (by decide) ?_
            refine z_imul 48 rfl ?_
            refine z_isub 49 rfl ?_
            refine z_ishr 50 rfl ?_
            refine z_sipush (v := 255) 51 rfl (by decide) ?_
            refine z_iand 52 rfl ?_
            obtain ⟨o6, B⟩ := B
            refine z_iast 53 rfl (zcl1.o hS 133 100 rfl rfl rfl) (zin (zcl1.l hS 133 700 rfl rfl rfl) o6) ?_
            refine z_iinc (v := 1) 54 rfl rfl (by decide) (by decide) rfl ?_
            refine z_goto 55 20 rfl (by decide) ?_
            refine z_drop 7 ?_
            exact B
          · have B := B.2 c5
            refine z_iload 32 rfl rfl ?_
            refine z_goto 33 73 rfl (by decide) ?_
            refine z_istore 35 rfl (by decide) rfl ?_
            refine z_aload_n 36 rfl rfl ?_
            refine z_getR 37 rfl lX10_7 rfl (zcl1.o hS 132 9 rfl rfl rfl) (zcl1.r hS 132 1 133 rfl rfl rfl) ?_
            refine z_aload_n 38 rfl rfl ?_
            refine z_getI 39 rfl lX10_163 rfl (zcl1.o hS 132 9 rfl rfl rfl) ?_
            refine z_iload 40 rfl rfl ?_
            refine z_iadd 41 rfl ?_
            refine z_iload 42 rfl rfl ?_
            refine z_bipush (v := 24) 43 rfl (by decide) ?_
            refine z_bipush (v := 8) 44 rfl (by decide) ?_
            refine z_iload 45 rfl rfl ?_
            refine z_iconst (v := 4) 46 rfl (by decide) ?_
            refine z_irem 47 rfl (by decide) ?_
            refine z_imul 48 rfl ?_
            refine z_isub 49 rfl ?_
            refine z_ishr 50 rfl ?_
            refine z_sipush (v := 255) 51 rfl (by decide) ?_
            refine z_iand 52 rfl ?_
            obtain ⟨o7, B⟩ := B
            refine z_iast 53 rfl (zcl1.o hS 133 100 rfl rfl rfl) (zin (zcl1.l hS 133 700 rfl rfl rfl) o7) ?_
            refine z_iinc (v := 1) 54 rfl rfl (by decide) (by decide) rfl ?_
            refine z_goto 55 20 rfl (by decide) ?_
            refine z_drop 7 ?_
            exact B
        · have B := B.2 c4
          refine z_iload_n 27 rfl rfl ?_
          refine z_goto 28 73 rfl (by decide) ?_
          refine z_istore 35 rfl (by decide) rfl ?_
          refine z_aload_n 36 rfl rfl ?_
          refine z_getR 37 rfl lX10_7 rfl (zcl1.o hS 132 9 rfl rfl rfl) (zcl1.r hS 132 1 133 rfl rfl rfl) ?_
          refine z_aload_n 38 rfl rfl ?_
          refine z_getI 39 rfl lX10_163 rfl (zcl1.o hS 132 9 rfl rfl rfl) ?_
          refine z_iload 40 rfl rfl ?_
          refine z_iadd 41 rfl ?_
          refine z_iload 42 rfl rfl ?_
          refine z_bipush (v := 24) 43 rfl (by decide) ?_
          refine z_bipush (v := 8) 44 rfl (by decide) ?_
          refine z_iload 45 rfl rfl ?_
          refine z_iconst (v := 4) 46 rfl (by decide) ?_
          refine z_irem 47 rfl (by decide) ?_
          refine z_imul 48 rfl ?_
          refine z_isub 49 rfl ?_
          refine z_ishr 50 rfl ?_
          refine z_sipush (v := 255) 51 rfl (by decide) ?_
          refine z_iand 52 rfl ?_
          obtain ⟨o8, B⟩ := B
          refine z_iast 53 rfl (zcl1.o hS 133 100 rfl rfl rfl) (zin (zcl1.l hS 133 700 rfl rfl rfl) o8) ?_
          refine z_iinc (v := 1) 54 rfl rfl (by decide) (by decide) rfl ?_
          refine z_goto 55 20 rfl (by decide) ?_
          refine z_drop 7 ?_
          exact B
      · have B := B.2 c3
        refine z_iload_n 22 rfl rfl ?_
        refine z_goto 23 73 rfl (by decide) ?_
        refine z_istore 35 rfl (by decide) rfl ?_
        refine z_aload_n 36 rfl rfl ?_
        refine z_getR 37 rfl lX10_7 rfl (zcl1.o hS 132 9 rfl rfl rfl) (zcl1.r hS 132 1 133 rfl rfl rfl) ?_
        refine z_aload_n 38 rfl rfl ?_
        refine z_getI 39 rfl lX10_163 rfl (zcl1.o hS 132 9 rfl rfl rfl) ?_
        refine z_iload 40 rfl rfl ?_
        refine z_iadd 41 rfl ?_
        refine z_iload 42 rfl rfl ?_
        refine z_bipush (v := 24) 43 rfl (by decide) ?_
        refine z_bipush (v := 8) 44 rfl (by decide) ?_
        refine z_iload 45 rfl rfl ?_
        refine z_iconst (v := 4) 46 rfl (by decide) ?_
        refine z_irem 47 rfl (by decide) ?_
        refine z_imul 48 rfl ?_
        refine z_isub 49 rfl ?_
        refine z_ishr 50 rfl ?_
        refine z_sipush (v := 255) 51 rfl (by decide) ?_
        refine z_iand 52 rfl ?_
        obtain ⟨o9, B⟩ := B
        refine z_iast 53 rfl (zcl1.o hS 133 100 rfl rfl rfl) (zin (zcl1.l hS 133 700 rfl rfl rfl) o9) ?_
        refine z_iinc (v := 1) 54 rfl rfl (by decide) (by decide) rfl ?_
        refine z_goto 55 20 rfl (by decide) ?_
        refine z_drop 7 ?_
        exact B
    · have B := B.2 c2
      refine z_iload_n 17 rfl rfl ?_
      refine z_goto 18 73 rfl (by decide) ?_
      refine z_istore 35 rfl (by decide) rfl ?_
      refine z_aload_n 36 rfl rfl ?_
      refine z_getR 37 rfl lX10_7 rfl (zcl1.o hS 132 9 rfl rfl rfl) (zcl1.r hS 132 1 133 rfl rfl rfl) ?_
      refine z_aload_n 38 rfl rfl ?_
      refine z_getI 39 rfl lX10_163 rfl (zcl1.o hS 132 9 rfl rfl rfl) ?_
      refine z_iload 40 rfl rfl ?_
      refine z_iadd 41 rfl ?_
      refine z_iload 42 rfl rfl ?_
      refine z_bipush (v := 24) 43 rfl (by decide) ?_
      refine z_bipush (v := 8) 44 rfl (by decide) ?_
      refine z_iload 45 rfl rfl ?_
      refine z_iconst (v := 4) 46 rfl (by decide) ?_
      refine z_irem 47 rfl (by decide) ?_
      refine z_imul 48 rfl ?_
      refine z_isub 49 rfl ?_
      refine z_ishr 50 rfl ?_
      refine z_sipush (v := 255) 51 rfl (by decide) ?_
      refine z_iand 52 rfl ?_
      obtain ⟨o10, B⟩ := B
      refine z_iast 53 rfl (zcl1.o hS 133 100 rfl rfl rfl) (zin (zcl1.l hS 133 700 rfl rfl rfl) o10) ?_
      refine z_iinc (v := 1) 54 rfl rfl (by decide) (by decide) rfl ?_
      refine z_goto 55 20 rfl (by decide) ?_
      refine z_drop 7 ?_
      exact B
set_option maxRecDepth 100000 in
set_option maxHeartbeats 4000000 in
theorem sg_X10_here_0 {G : zG} {d : Nat} {h : zMem} {Q : Int32 → zMem → Prop}  (hS : zSh2 h)  (B : ((zI h 132 20) ≤ (zI h 132 21) → Q (-1 : Int32) h) ∧ (¬ (zI h 132 20) ≤ (zI h 132 21) → vp_in (zI h 132 21) 700 ∧ Q (zI h 133 (zI h 132 21).toNatClampNeg) h)) : zg G mX10_here d 0 [.ref 132] [] h (zPI Q) := by
  refine z_aload_n 0 rfl rfl ?_
  refine z_getI 1 rfl lX10_166 rfl (zcl1.o hS 132 9 rfl rfl rfl) ?_
  refine z_aload_n 2 rfl rfl ?_
  refine z_getI 3 rfl lX10_169 rfl (zcl1.o hS 132 9 rfl rfl rfl) ?_
  refine z_icmp_ge 4 23 rfl (by decide) ⟨fun c1 => ?_, fun c1 => ?_⟩
  · have B := B.1 c1
    refine z_iconst (v := -1) 11 rfl (by decide) ?_
    exact z_iret 12 rfl rfl rfl ⟨rfl, rfl⟩ ⟨_, rfl, B⟩
  · have B := B.2 c1
    refine z_aload_n 5 rfl rfl ?_
    refine z_getR 6 rfl lX10_7 rfl (zcl1.o hS 132 9 rfl rfl rfl) (zcl1.r hS 132 1 133 rfl rfl rfl) ?_
    refine z_aload_n 7 rfl rfl ?_
    refine z_getI 8 rfl lX10_166 rfl (zcl1.o hS 132 9 rfl rfl rfl) ?_
    obtain ⟨o2, B⟩ := B
    refine z_iald 9 rfl (zcl1.o hS 133 100 rfl rfl rfl) (zin (zcl1.l hS 133 700 rfl rfl rfl) o2) ?_
    refine z_goto 10 24 rfl (by decide) ?_
    exact z_iret 12 rfl rfl rfl ⟨rfl, rfl⟩ ⟨_, rfl, B⟩
theorem cn_X10_here {G : zG} {d : Nat} {h : zMem} {Q : Int32 → zMem → Prop}  (B : zg G mX10_here d 0 [.ref 132] [] h (zPI Q)) : zConI G mX10_here d [.ref 132] h Q := zcon0 (by decide +kernel) eX10_here (Nat.le_of_ble_eq_true rfl) rfl B
set_option maxRecDepth 100000 in
set_option maxHeartbeats 4000000 in
theorem sg_X10_isSmall_0 {G : zG} {d : Nat} {h : zMem} {Q : Int32 → zMem → Prop} {x0 : Int32} (hS : zSh2 h)  (B : (x0 < (97 : Int32) → Q (0 : Int32) h) ∧ (¬ x0 < (97 : Int32) → ((122 : Int32) < x0 → Q (0 : Int32) h) ∧ (¬ (122 : Int32) < x0 → Q (1 : Int32) h))) : zg G mX10_isSmall d 0 [.int x0] [] h (zPI Q) := by
  refine z_iload_n 0 rfl rfl ?_
  refine z_bipush (v := 97) 1 rfl (by decide) ?_
  refine z_icmp_lt 2 16 rfl (by decide) ⟨fun c1 => ?_, fun c1 => ?_⟩
  · have B := B.1 c1
    refine z_iconst (v := 0) 8 rfl (by decide) ?_
    exact z_iret 9 rfl rfl rfl ⟨rfl, rfl⟩ ⟨_, rfl, B⟩
  · have B := B.2 c1
    refine z_iload_n 3 rfl rfl ?_
    refine z_bipush (v := 122) 4 rfl (by decide) ?_
    refine z_icmp_gt 5 16 rfl (by decide) ⟨fun c2 => ?_, fun c2 => ?_⟩
    · have B := B.1 c2
      refine z_iconst (v := 0) 8 rfl (by decide) ?_
      exact z_iret 9 rfl rfl rfl ⟨rfl, rfl⟩ ⟨_, rfl, B⟩
    · have B := B.2 c2
      refine z_iconst (v := 1) 6 rfl (by decide) ?_
      refine z_goto 7 17 rfl (by decide) ?_
      exact z_iret 9 rfl rfl rfl ⟨rfl, rfl⟩ ⟨_, rfl, B⟩
theorem cn_X10_isSmall {G : zG} {d : Nat} {h : zMem} {Q : Int32 → zMem → Prop} {x0 : Int32} (B : zg G mX10_isSmall d 0 [.int x0] [] h (zPI Q)) : zConI G mX10_isSmall d [.int x0] h Q := zcon0 (by decide +kernel) eX10_isSmall (Nat.le_of_ble_eq_true rfl) rfl B
set_option maxRecDepth 100000 in
set_option maxHeartbeats 4000000 in
theorem sg_X10_isDigit_0 {G : zG} {d : Nat} {h : zMem} {Q : Int32 → zMem → Prop} {x0 : Int32} (hS : zSh2 h)  (B : (x0 < (48 : Int32) → Q (0 : Int32) h) ∧ (¬ x0 < (48 : Int32) → ((57 : Int32) < x0 → Q (0 : Int32) h) ∧ (¬ (57 : Int32) < x0 → Q (1 : Int32) h))) : zg G mX10_isDigit d 0 [.int x0] [] h (zPI Q) := by
  refine z_iload_n 0 rfl rfl ?_
  refine z_bipush (v := 48) 1 rfl (by decide) ?_
  refine z_icmp_lt 2 16 rfl (by decide) ⟨fun c1 => ?_, fun c1 => ?_⟩
  · have B := B.1 c1
    refine z_iconst (v := 0) 8 rfl (by decide) ?_
    exact z_iret 9 rfl rfl rfl ⟨rfl, rfl⟩ ⟨_, rfl, B⟩
  · have B := B.2 c1
    refine z_iload_n 3 rfl rfl ?_
    refine z_bipush (v := 57) 4 rfl (by decide) ?_
    refine z_icmp_gt 5 16 rfl (by decide) ⟨fun c2 => ?_, fun c2 => ?_⟩
    · have B := B.1 c2
      refine z_iconst (v := 0) 8 rfl (by decide) ?_
      exact z_iret 9 rfl rfl rfl ⟨rfl, rfl⟩ ⟨_, rfl, B⟩
    · have B := B.2 c2
      refine z_iconst (v := 1) 6 rfl (by decide) ?_
      refine z_goto 7 17 rfl (by decide) ?_
      exact z_iret 9 rfl rfl rfl ⟨rfl, rfl⟩ ⟨_, rfl, B⟩
theorem cn_X10_isDigit {G : zG} {d : Nat} {h : zMem} {Q : Int32 → zMem → Prop} {x0 : Int32} (B : zg G mX10_isDigit d 0 [.int x0] [] h (zPI Q)) : zConI G mX10_isDigit d [.int x0] h Q := zcon0 (by decide +kernel) eX10_isDigit (Nat.le_of_ble_eq_true rfl) rfl B
set_option maxRecDepth 100000 in
set_option maxHeartbeats 4000000 in
theorem sg_X10_token_0 {G : zG} {d : Nat} {h : zMem} {Q : zMem → Prop}  (hS : zSh2 h)  (B : ∃ Q1 : Int32 → zMem → Prop, zConI G mX10_here d [.ref 132] h Q1 ∧ (∀ v4 h2, Q1 v4 h2 → zSh2 h2 ∧ (v4 = (10 : Int32) → zg G mX10_token (d + 1) 0 [.ref 132, zU] [] (zsI h2 132 21 ((zI h2 132 21) + (1 : Int32))) (zPV Q)) ∧ (¬ v4 = (10 : Int32) → ∃ Q6 : Int32 → zMem → Prop, zConI G mX10_here d [.ref 132] h2 Q6 ∧ (∀ v9 h7, Q6 v9 h7 → zSh2 h7 ∧ (¬ v9 = (32 : Int32) → ∃ Q11 : Int32 → zMem → Prop, zConI G mX10_here d [.ref 132] (zsI h7 132 22 (zI h7 132 21)) Q11 ∧ (∀ v14 h12, Q11 v14 h12 → zSh2 h12 ∧ (¬ v14 = (-1 : Int32) → ∃ Q16 : Int32 → zMem → Prop, zConI G mX10_isSmall d [.int v14] h12 Q16 ∧ (∀ v19 h17, Q16 v19 h17 → zSh2 h17 ∧ (v19 = 0 → ∃ Q21 : Int32 → zMem → Prop, zConI G mX10_isDigit d [.int v14] h17 Q21 ∧ (∀ v24 h22, Q21 v24 h22 → zSh2 h22 ∧ (v24 = 0 → ∃ Q26 : zMem → Prop, zConV G mX10_sign d [.ref 132, .int v14] h22 Q26 ∧ (∀ h27, Q26 h27 → zSh2 h27 ∧ Q h27)) ∧ (¬ v24 = 0 → zg G mX10_token (d + 1) 162 [.ref 132, .int v14] [] (zsI (zsI h22 132 23 (2 : Int32)) 132 24 (0 : Int32)) (zPV Q)))) ∧ (¬ v19 = 0 → zg G mX10_token (d + 1) 64 [.ref 132, .int v14] [] h17 (zPV Q)))) ∧ (v14 = (-1 : Int32) → Q (zsI h12 132 23 (4 : Int32))))) ∧ (v9 = (32 : Int32) → zg G mX10_token (d + 1) 0 [.ref 132, zU] [] (zsI h7 132 21 ((zI h7 132 21) + (1 : Int32))) (zPV Q)))))) : zg G mX10_token (d + 1) 0 [.ref 132, zU] [] h (zPV Q) := by
  refine z_aload_n 0 rfl rfl ?_
  obtain ⟨Q1, K3, B⟩ := B
  refine z_cVI0 (ν := mX10_here) 1 rfl rfl fX10_here gX10_172 ⟨_, rfl, rfl⟩ (by decide) (zcl1.o hS 132 9 rfl rfl rfl) (Nat.le_of_ble_eq_true rfl) K3 (fun v4 h2 q => ?_)
  obtain ⟨hSh2, B⟩ := B v4 h2 q
  refine z_bipush (v := 10) 2 rfl (by decide) ?_
  refine z_icmp_eq 3 18 rfl (by decide) ⟨fun c5 => ?_, fun c5 => ?_⟩
  · have B := B.1 c5
    refine z_aload_n 8 rfl rfl ?_
    refine z_dup 9 rfl rfl ?_
    refine z_getI 10 rfl lX10_166 rfl (zcl1.o hSh2 132 9 rfl rfl rfl) ?_
    refine z_iconst (v := 1) 11 rfl (by decide) ?_
    refine z_iadd 12 rfl ?_
    refine z_putI 13 rfl lX10_166 ⟨_, _, _, rfl, rfl⟩ rfl rfl rfl (zcl1.o hSh2 132 9 rfl rfl rfl) ?_
    refine z_goto 14 0 rfl (by decide) ?_
    exact B
  · have B := B.2 c5
    refine z_aload_n 4 rfl rfl ?_
    obtain ⟨Q6, K8, B⟩ := B
    refine z_cVI0 (ν := mX10_here) 5 rfl rfl fX10_here gX10_172 ⟨_, rfl, rfl⟩ (by decide) (zcl1.o hSh2 132 9 rfl rfl rfl) (Nat.le_of_ble_eq_true rfl) K8 (fun v9 h7 q => ?_)
    obtain ⟨hSh7, B⟩ := B v9 h7 q
    refine z_bipush (v := 32) 6 rfl (by decide) ?_
    refine z_icmp_ne 7 31 rfl (by decide) ⟨fun c10 => ?_, fun c10 => ?_⟩
    · have B := B.1 c10
      refine z_aload_n 15 rfl rfl ?_
      refine z_aload_n 16 rfl rfl ?_
      refine z_getI 17 rfl lX10_166 rfl (zcl1.o hSh7 132 9 rfl rfl rfl) ?_
      refine z_putI 18 rfl lX10_176 ⟨_, _, _, rfl, rfl⟩ rfl rfl rfl (zcl1.o hSh7 132 9 rfl rfl rfl) ?_
      refine z_aload_n 19 rfl rfl ?_
      obtain ⟨Q11, K13, B⟩ := B
      refine z_cVI0 (ν := mX10_here) 20 rfl rfl fX10_here gX10_172 ⟨_, rfl, rfl⟩ (by decide) (zcl1.o hSh7 132 9 rfl rfl rfl) (Nat.le_of_ble_eq_true rfl) K13 (fun v14 h12 q => ?_)
      obtain ⟨hSh12, B⟩ := B v14 h12 q
      refine z_istore_n 21 rfl (by decide) rfl ?_
      refine z_iload_n 22 rfl rfl ?_
      refine z_iconst (v := -1) 23 rfl (by decide) ?_
      refine z_icmp_ne 24 57 rfl (by decide) ⟨fun c15 => ?_, fun c15 => ?_⟩
      · have B := B.1 c15
        refine z_iload_n 29 rfl rfl ?_
        obtain ⟨Q16, K18, B⟩ := B
        refine z_cSI1 (ν := mX10_isSmall) 30 rfl rfl fX10_isSmall gX10_182 (Nat.le_of_ble_eq_true rfl) K18 (fun v19 h17 q => ?_)
        obtain ⟨hSh17, B⟩ := B v19 h17 q
        refine z_if_eq 31 145 rfl (by decide) ⟨fun c20 => ?_, fun c20 => ?_⟩
        · have B := B.1 c20
          refine z_iload_n 72 rfl rfl ?_
          obtain ⟨Q21, K23, B⟩ := B
          refine z_cSI1 (ν := mX10_isDigit) 73 rfl rfl fX10_isDigit gX10_195 (Nat.le_of_ble_eq_true rfl) K23 (fun v24 h22 q => ?_)
          obtain ⟨hSh22, B⟩ := B v24 h22 q
          refine z_if_eq 74 220 rfl (by decide) ⟨fun c25 => ?_, fun c25 => ?_⟩
          · have B := B.1 c25
            refine z_aload_n 110 rfl rfl ?_
            refine z_iload_n 111 rfl rfl ?_
            obtain ⟨Q26, K28, B⟩ := B
            refine z_cVV1 (ν := mX10_sign) 112 rfl rfl fX10_sign gX10_199 ⟨_, rfl, rfl⟩ (by decide) (zcl1.o hSh22 132 9 rfl rfl rfl) (Nat.le_of_ble_eq_true rfl) K28 (fun h27 q => ?_)
            obtain ⟨hSh27, B⟩ := B h27 q
            exact z_vret 113 rfl rfl ⟨rfl, rfl⟩ ⟨rfl, B⟩
          · have B := B.2 c25
            refine z_aload_n 75 rfl rfl ?_
            refine z_iconst (v := 2) 76 rfl (by decide) ?_
            refine z_putI 77 rfl lX10_179 ⟨_, _, _, rfl, rfl⟩ rfl rfl rfl (zcl1.o hSh22 132 9 rfl rfl rfl) ?_
            refine z_aload_n 78 rfl rfl ?_
            refine z_iconst (v := 0) 79 rfl (by decide) ?_
            refine z_putI 80 rfl lX10_189 ⟨_, _, _, rfl, rfl⟩ rfl rfl rfl (zcl1.o hSh22 132 9 rfl rfl rfl) ?_
            exact B
        · have B := B.2 c20
          exact B
      · have B := B.2 c15
        refine z_aload_n 25 rfl rfl ?_
        refine z_iconst (v := 4) 26 rfl (by decide) ?_
        refine z_putI 27 rfl lX10_179 ⟨_, _, _, rfl, rfl⟩ rfl rfl rfl (zcl1.o hSh12 132 9 rfl rfl rfl) ?_
        refine z_goto 28 225 rfl (by decide) ?_
        exact z_vret 113 rfl rfl ⟨rfl, rfl⟩ ⟨rfl, B⟩
    · have B := B.2 c10
      refine z_aload_n 8 rfl rfl ?_
      refine z_dup 9 rfl rfl ?_
      refine z_getI 10 rfl lX10_166 rfl (zcl1.o hSh7 132 9 rfl rfl rfl) ?_
      refine z_iconst (v := 1) 11 rfl (by decide) ?_
      refine z_iadd 12 rfl ?_
      refine z_putI 13 rfl lX10_166 ⟨_, _, _, rfl, rfl⟩ rfl rfl rfl (zcl1.o hSh7 132 9 rfl rfl rfl) ?_
      refine z_goto 14 0 rfl (by decide) ?_
      exact B
theorem cn_X10_token {G : zG} {d : Nat} {h : zMem} {Q : zMem → Prop}  (B : zg G mX10_token (d + 1) 0 [.ref 132, zU] [] h (zPV Q)) : zConV G mX10_token (d + 1) [.ref 132] h Q := zcon0 (by decide +kernel) eX10_token (Nat.le_of_ble_eq_true rfl) rfl B
set_option maxRecDepth 100000 in
set_option maxHeartbeats 4000000 in
theorem sg_X10_token_64 {G : zG} {d : Nat} {h : zMem} {Q : zMem → Prop} {x1 : Int32} (hS : zSh2 h)  (B : ∃ Q1 : Int32 → zMem → Prop, zConI G mX10_here d [.ref 132] h Q1 ∧ (∀ v4 h2, Q1 v4 h2 → zSh2 h2 ∧ ∃ Q5 : Int32 → zMem → Prop, zConI G mX10_isSmall d [.int v4] h2 Q5 ∧ (∀ v8 h6, Q5 v8 h6 → zSh2 h6 ∧ (v8 = 0 → ∃ Q10 : Int32 → zMem → Prop, zConI G mX10_word d [.ref 132] h6 Q10 ∧ (∀ v13 h11, Q10 v13 h11 → zSh2 h11 ∧ ((zI (zsI h11 132 24 v13) 132 24) = (-1 : Int32) → (((zI (zsI h11 132 24 v13) 132 21) - (zI (zsI h11 132 24 v13) 132 22)) ≤ (6 : Int32) → (¬ (zI (zsI (zsI h11 132 24 v13) 132 23 (1 : Int32)) 132 23) = (1 : Int32) → Q (zsI (zsI h11 132 24 v13) 132 23 (1 : Int32))) ∧ ((zI (zsI (zsI h11 132 24 v13) 132 23 (1 : Int32)) 132 23) = (1 : Int32) → ∃ Q17 : zMem → Prop, zConV G mX10_name d [.ref 132] (zsI (zsI h11 132 24 v13) 132 23 (1 : Int32)) Q17 ∧ (∀ h18, Q17 h18 → zSh2 h18 ∧ Q h18))) ∧ (¬ ((zI (zsI h11 132 24 v13) 132 21) - (zI (zsI h11 132 24 v13) 132 22)) ≤ (6 : Int32) → (¬ (zI (zsI (zsI h11 132 24 v13) 132 23 (5 : Int32)) 132 23) = (1 : Int32) → Q (zsI (zsI h11 132 24 v13) 132 23 (5 : Int32))) ∧ ((zI (zsI (zsI h11 132 24 v13) 132 23 (5 : Int32)) 132 23) = (1 : Int32) → ∃ Q21 : zMem → Prop, zConV G mX10_name d [.ref 132] (zsI (zsI h11 132 24 v13) 132 23 (5 : Int32)) Q21 ∧ (∀ h22, Q21 h22 → zSh2 h22 ∧ Q h22)))) ∧ (¬ (zI (zsI h11 132 24 v13) 132 24) = (-1 : Int32) → (¬ (zI (zsI (zsI h11 132 24 v13) 132 23 (0 : Int32)) 132 23) = (1 : Int32) → Q (zsI (zsI h11 132 24 v13) 132 23 (0 : Int32))) ∧ ((zI (zsI (zsI h11 132 24 v13) 132 23 (0 : Int32)) 132 23) = (1 : Int32) → ∃ Q25 : zMem → Prop, zConV G mX10_name d [.ref 132] (zsI (zsI h11 132 24 v13) 132 23 (0 : Int32)) Q25 ∧ (∀ h26, Q25 h26 → zSh2 h26 ∧ Q h26))))) ∧ (¬ v8 = 0 → zg G mX10_token (d + 1) 64 [.ref 132, .int x1] [] (zsI h6 132 21 ((zI h6 132 21) + (1 : Int32))) (zPV Q))))) : zg G mX10_token (d + 1) 64 [.ref 132, .int x1] [] h (zPV Q) := by
  refine z_aload_n 32 rfl rfl ?_
  obtain ⟨Q1, K3, B⟩ := B
  refine z_cVI0 (ν := mX10_here) 33 rfl rfl fX10_here gX10_172 ⟨_, rfl, rfl⟩ (by decide) (zcl1.o hS 132 9 rfl rfl rfl) (Nat.le_of_ble_eq_true rfl) K3 (fun v4 h2 q => ?_)
  obtain ⟨hSh2, B⟩ := B v4 h2 q
  obtain ⟨Q5, K7, B⟩ := B
  refine z_cSI1 (ν := mX10_isSmall) 34 rfl rfl fX10_isSmall gX10_182 (Nat.le_of_ble_eq_true rfl) K7 (fun v8 h6 q => ?_)
  obtain ⟨hSh6, B⟩ := B v8 h6 q
  refine z_if_eq 35 87 rfl (by decide) ⟨fun c9 => ?_, fun c9 => ?_⟩
  · have B := B.1 c9
    refine z_aload_n 43 rfl rfl ?_
    refine z_aload_n 44 rfl rfl ?_
    obtain ⟨Q10, K12, B⟩ := B
    refine z_cVI0 (ν := mX10_word) 45 rfl rfl fX10_word gX10_186 ⟨_, rfl, rfl⟩ (by decide) (zcl1.o hSh6 132 9 rfl rfl rfl) (Nat.le_of_ble_eq_true rfl) K12 (fun v13 h11 q => ?_)
    obtain ⟨hSh11, B⟩ := B v13 h11 q
    refine z_putI 46 rfl lX10_189 ⟨_, _, _, rfl, rfl⟩ rfl rfl rfl (zcl1.o hSh11 132 9 rfl rfl rfl) ?_
    refine z_aload_n 47 rfl rfl ?_
    refine z_aload_n 48 rfl rfl ?_
    refine z_getI 49 rfl lX10_189 rfl (zcl1.o hSh11 132 9 rfl rfl rfl) ?_
    refine z_iconst (v := -1) 50 rfl (by decide) ?_
    refine z_icmp_eq 51 108 rfl (by decide) ⟨fun c14 => ?_, fun c14 => ?_⟩
    · have B := B.1 c14
      refine z_aload_n 54 rfl rfl ?_
      refine z_getI 55 rfl lX10_166 rfl (zcl1.o hSh11 132 9 rfl rfl rfl) ?_
      refine z_aload_n 56 rfl rfl ?_
      refine z_getI 57 rfl lX10_176 rfl (zcl1.o hSh11 132 9 rfl rfl rfl) ?_
      refine z_isub 58 rfl ?_
      refine z_bipush (v := 6) 59 rfl (by decide) ?_
      refine z_icmp_le 60 126 rfl (by decide) ⟨fun c15 => ?_, fun c15 => ?_⟩
      · have B := B.1 c15
        refine z_iconst (v := 1) 63 rfl (by decide) ?_
        refine z_putI 64 rfl lX10_179 ⟨_, _, _, rfl, rfl⟩ rfl rfl rfl (zcl1.o hSh11 132 9 rfl rfl rfl) ?_
        refine z_aload_n 65 rfl rfl ?_
        refine z_getI 66 rfl lX10_179 rfl (zcl1.o hSh11 132 9 rfl rfl rfl) ?_
        refine z_iconst (v := 1) 67 rfl (by decide) ?_
        refine z_icmp_ne 68 225 rfl (by decide) ⟨fun c16 => ?_, fun c16 => ?_⟩
        · have B := B.1 c16
          exact z_vret 113 rfl rfl ⟨rfl, rfl⟩ ⟨rfl, B⟩
        · have B := B.2 c16
          refine z_aload_n 69 rfl rfl ?_
          obtain ⟨Q17, K19, B⟩ := B
          refine z_cVV0 (ν := mX10_name) 70 rfl rfl fX10_name gX10_192 ⟨_, rfl, rfl⟩ (by decide) (zcl1.o hSh11 132 9 rfl rfl rfl) (Nat.le_of_ble_eq_true rfl) K19 (fun h18 q => ?_)
          obtain ⟨hSh18, B⟩ := B h18 q
          refine z_goto 71 225 rfl (by decide) ?_
          exact z_vret 113 rfl rfl ⟨rfl, rfl⟩ ⟨rfl, B⟩
      · have B := B.2 c15
        refine z_iconst (v := 5) 61 rfl (by decide) ?_
        refine z_goto 62 127 rfl (by decide) ?_
        refine z_putI 64 rfl lX10_179 ⟨_, _, _, rfl, rfl⟩ rfl rfl rfl (zcl1.o hSh11 132 9 rfl rfl rfl) ?_
        refine z_aload_n 65 rfl rfl ?_
        refine z_getI 66 rfl lX10_179 rfl (zcl1.o hSh11 132 9 rfl rfl rfl) ?_
        refine z_iconst (v := 1) 67 rfl (by decide) ?_
        refine z_icmp_ne 68 225 rfl (by decide) ⟨fun c20 => ?_, fun c20 => ?_⟩
        · have B := B.1 c20
          exact z_vret 113 rfl rfl ⟨rfl, rfl⟩ ⟨rfl, B⟩
        · have B := B.2 c20
          refine z_aload_n 69 rfl rfl ?_
          obtain ⟨Q21, K23, B⟩ := B
          refine z_cVV0 (ν := mX10_name) 70 rfl rfl fX10_name gX10_192 ⟨_, rfl, rfl⟩ (by decide) (zcl1.o hSh11 132 9 rfl rfl rfl) (Nat.le_of_ble_eq_true rfl) K23 (fun h22 q => ?_)
          obtain ⟨hSh22, B⟩ := B h22 q
          refine z_goto 71 225 rfl (by decide) ?_
          exact z_vret 113 rfl rfl ⟨rfl, rfl⟩ ⟨rfl, B⟩
    · have B := B.2 c14
      refine z_iconst (v := 0) 52 rfl (by decide) ?_
      refine z_goto 53 127 rfl (by decide) ?_
      refine z_putI 64 rfl lX10_179 ⟨_, _, _, rfl, rfl⟩ rfl rfl rfl (zcl1.o hSh11 132 9 rfl rfl rfl) ?_
      refine z_aload_n 65 rfl rfl ?_
      refine z_getI 66 rfl lX10_179 rfl (zcl1.o hSh11 132 9 rfl rfl rfl) ?_
      refine z_iconst (v := 1) 67 rfl (by decide) ?_
      refine z_icmp_ne 68 225 rfl (by decide) ⟨fun c24 => ?_, fun c24 => ?_⟩
      · have B := B.1 c24
        exact z_vret 113 rfl rfl ⟨rfl, rfl⟩ ⟨rfl, B⟩
      · have B := B.2 c24
        refine z_aload_n 69 rfl rfl ?_
        obtain ⟨Q25, K27, B⟩ := B
        refine z_cVV0 (ν := mX10_name) 70 rfl rfl fX10_name gX10_192 ⟨_, rfl, rfl⟩ (by decide) (zcl1.o hSh11 132 9 rfl rfl rfl) (Nat.le_of_ble_eq_true rfl) K27 (fun h26 q => ?_)
        obtain ⟨hSh26, B⟩ := B h26 q
        refine z_goto 71 225 rfl (by decide) ?_
        exact z_vret 113 rfl rfl ⟨rfl, rfl⟩ ⟨rfl, B⟩
  · have B := B.2 c9
    refine z_aload_n 36 rfl rfl ?_
    refine z_dup 37 rfl rfl ?_
    refine z_getI 38 rfl lX10_166 rfl (zcl1.o hSh6 132 9 rfl rfl rfl) ?_
    refine z_iconst (v := 1) 39 rfl (by decide) ?_
    refine z_iadd 40 rfl ?_
    refine z_putI 41 rfl lX10_166 ⟨_, _, _, rfl, rfl⟩ rfl rfl rfl (zcl1.o hSh6 132 9 rfl rfl rfl) ?_
    refine z_goto 42 64 rfl (by decide) ?_
    exact B
set_option maxRecDepth 100000 in
set_option maxHeartbeats 4000000 in
theorem sg_X10_token_162 {G : zG} {d : Nat} {h : zMem} {Q : zMem → Prop} {x1 : Int32} (hS : zSh2 h)  (B : ∃ Q1 : Int32 → zMem → Prop, zConI G mX10_here d [.ref 132] h Q1 ∧ (∀ v4 h2, Q1 v4 h2 → zSh2 h2 ∧ ∃ Q5 : Int32 → zMem → Prop, zConI G mX10_isDigit d [.int v4] h2 Q5 ∧ (∀ v8 h6, Q5 v8 h6 → zSh2 h6 ∧ (v8 = 0 → Q h6) ∧ (¬ v8 = 0 → ((zI h6 132 24) ≤ (99999 : Int32) → ∃ Q11 : Int32 → zMem → Prop, zConI G mX10_here d [.ref 132] h6 Q11 ∧ (∀ v14 h12, Q11 v14 h12 → zSh2 h12 ∧ zg G mX10_token (d + 1) 162 [.ref 132, .int x1] [] (zsI (zsI h12 132 24 ((((10 : Int32) * (zI h6 132 24)) + v14) - (48 : Int32))) 132 21 ((zI (zsI h12 132 24 ((((10 : Int32) * (zI h6 132 24)) + v14) - (48 : Int32))) 132 21) + (1 : Int32))) (zPV Q))) ∧ (¬ (zI h6 132 24) ≤ (99999 : Int32) → zg G mX10_token (d + 1) 162 [.ref 132, .int x1] [] (zsI (zsI h6 132 24 (zI h6 132 24)) 132 21 ((zI (zsI h6 132 24 (zI h6 132 24)) 132 21) + (1 : Int32))) (zPV Q)))))) : zg G mX10_token (d + 1) 162 [.ref 132, .int x1] [] h (zPV Q) := by
  refine z_aload_n 81 rfl rfl ?_
  obtain ⟨Q1, K3, B⟩ := B
  refine z_cVI0 (ν := mX10_here) 82 rfl rfl fX10_here gX10_172 ⟨_, rfl, rfl⟩ (by decide) (zcl1.o hS 132 9 rfl rfl rfl) (Nat.le_of_ble_eq_true rfl) K3 (fun v4 h2 q => ?_)
  obtain ⟨hSh2, B⟩ := B v4 h2 q
  obtain ⟨Q5, K7, B⟩ := B
  refine z_cSI1 (ν := mX10_isDigit) 83 rfl rfl fX10_isDigit gX10_195 (Nat.le_of_ble_eq_true rfl) K7 (fun v8 h6 q => ?_)
  obtain ⟨hSh6, B⟩ := B v8 h6 q
  refine z_if_eq 84 225 rfl (by decide) ⟨fun c9 => ?_, fun c9 => ?_⟩
  · have B := B.1 c9
    exact z_vret 113 rfl rfl ⟨rfl, rfl⟩ ⟨rfl, B⟩
  · have B := B.2 c9
    refine z_aload_n 85 rfl rfl ?_
    refine z_aload_n 86 rfl rfl ?_
    refine z_getI 87 rfl lX10_189 rfl (zcl1.o hSh6 132 9 rfl rfl rfl) ?_
    refine z_ldc 88 rfl kX10_198 ?_
    refine z_icmp_le 89 189 rfl (by decide) ⟨fun c10 => ?_, fun c10 => ?_⟩
    · have B := B.1 c10
      refine z_bipush (v := 10) 93 rfl (by decide) ?_
      refine z_aload_n 94 rfl rfl ?_
      refine z_getI 95 rfl lX10_189 rfl (zcl1.o hSh6 132 9 rfl rfl rfl) ?_
      refine z_imul 96 rfl ?_
      refine z_aload_n 97 rfl rfl ?_
      obtain ⟨Q11, K13, B⟩ := B
      refine z_cVI0 (ν := mX10_here) 98 rfl rfl fX10_here gX10_172 ⟨_, rfl, rfl⟩ (by decide) (zcl1.o hSh6 132 9 rfl rfl rfl) (Nat.le_of_ble_eq_true rfl) K13 (fun v14 h12 q => ?_)
      obtain ⟨hSh12, B⟩ := B v14 h12 q
      refine z_iadd 99 rfl ?_
      refine z_bipush (v := 48) 100 rfl (by decide) ?_
      refine z_isub 101 rfl ?_
      refine z_putI 102 rfl lX10_189 ⟨_, _, _, rfl, rfl⟩ rfl rfl rfl (zcl1.o hSh12 132 9 rfl rfl rfl) ?_
      refine z_aload_n 103 rfl rfl ?_
      refine z_dup 104 rfl rfl ?_
      refine z_getI 105 rfl lX10_166 rfl (zcl1.o hSh12 132 9 rfl rfl rfl) ?_
      refine z_iconst (v := 1) 106 rfl (by decide) ?_
      refine z_iadd 107 rfl ?_
      refine z_putI 108 rfl lX10_166 ⟨_, _, _, rfl, rfl⟩ rfl rfl rfl (zcl1.o hSh12 132 9 rfl rfl rfl) ?_
      refine z_goto 109 162 rfl (by decide) ?_
      exact B
    · have B := B.2 c10
      refine z_aload_n 90 rfl rfl ?_
      refine z_getI 91 rfl lX10_189 rfl (zcl1.o hSh6 132 9 rfl rfl rfl) ?_
      refine z_goto 92 204 rfl (by decide) ?_
      refine z_putI 102 rfl lX10_189 ⟨_, _, _, rfl, rfl⟩ rfl rfl rfl (zcl1.o hSh6 132 9 rfl rfl rfl) ?_
      refine z_aload_n 103 rfl rfl ?_
      refine z_dup 104 rfl rfl ?_
      refine z_getI 105 rfl lX10_166 rfl (zcl1.o hSh6 132 9 rfl rfl rfl) ?_
      refine z_iconst (v := 1) 106 rfl (by decide) ?_
      refine z_iadd 107 rfl ?_
      refine z_putI 108 rfl lX10_166 ⟨_, _, _, rfl, rfl⟩ rfl rfl rfl (zcl1.o hSh6 132 9 rfl rfl rfl) ?_
      refine z_goto 109 162 rfl (by decide) ?_
      exact B
set_option maxRecDepth 100000 in
set_option maxHeartbeats 4000000 in
theorem sg_X10_sign_0 {G : zG} {d : Nat} {h : zMem} {Q : zMem → Prop} {x1 : Int32} (hS : zSh2 h)  (B : (x1 = (59 : Int32) → zg G mX10_sign (d + 1) 71 [.ref 132, .int x1] [.ref 132] (zsI h 132 21 ((zI h 132 21) + (1 : Int32))) (zPV Q)) ∧ (¬ x1 = (59 : Int32) → (x1 = (40 : Int32) → zg G mX10_sign (d + 1) 71 [.ref 132, .int x1] [.ref 132] (zsI h 132 21 ((zI h 132 21) + (1 : Int32))) (zPV Q)) ∧ (¬ x1 = (40 : Int32) → (x1 = (41 : Int32) → zg G mX10_sign (d + 1) 71 [.ref 132, .int x1] [.ref 132] (zsI h 132 21 ((zI h 132 21) + (1 : Int32))) (zPV Q)) ∧ (¬ x1 = (41 : Int32) → (x1 = (43 : Int32) → zg G mX10_sign (d + 1) 71 [.ref 132, .int x1] [.ref 132] (zsI h 132 21 ((zI h 132 21) + (1 : Int32))) (zPV Q)) ∧ (¬ x1 = (43 : Int32) → (x1 = (45 : Int32) → zg G mX10_sign (d + 1) 71 [.ref 132, .int x1] [.ref 132] (zsI h 132 21 ((zI h 132 21) + (1 : Int32))) (zPV Q)) ∧ (¬ x1 = (45 : Int32) → (x1 = (42 : Int32) → zg G mX10_sign (d + 1) 71 [.ref 132, .int x1] [.ref 132] (zsI h 132 21 ((zI h 132 21) + (1 : Int32))) (zPV Q)) ∧ (¬ x1 = (42 : Int32) → (x1 = (47 : Int32) → zg G mX10_sign (d + 1) 71 [.ref 132, .int x1] [.ref 132] (zsI h 132 21 ((zI h 132 21) + (1 : Int32))) (zPV Q)) ∧ (¬ x1 = (47 : Int32) → (x1 = (60 : Int32) → zg G mX10_sign (d + 1) 71 [.ref 132, .int x1] [.ref 132] (zsI h 132 21 ((zI h 132 21) + (1 : Int32))) (zPV Q)) ∧ (¬ x1 = (60 : Int32) → (x1 = (61 : Int32) → zg G mX10_sign (d + 1) 71 [.ref 132, .int x1] [.ref 132] (zsI h 132 21 ((zI h 132 21) + (1 : Int32))) (zPV Q)) ∧ (¬ x1 = (61 : Int32) → (¬ x1 = (62 : Int32) → (¬ x1 = (60 : Int32) → zg G mX10_sign (d + 1) 106 [.ref 132, .int x1] [] (zsI (zsI (zsI h 132 21 ((zI h 132 21) + (1 : Int32))) 132 23 (5 : Int32)) 132 24 x1) (zPV Q)) ∧ (x1 = (60 : Int32) → ∃ Q12 : Int32 → zMem → Prop, zConI G mX10_here d [.ref 132] (zsI (zsI (zsI h 132 21 ((zI h 132 21) + (1 : Int32))) 132 23 (5 : Int32)) 132 24 x1) Q12 ∧ (∀ v15 h13, Q12 v15 h13 → zSh2 h13 ∧ (¬ v15 = (61 : Int32) → zg G mX10_sign (d + 1) 106 [.ref 132, .int x1] [] h13 (zPV Q)) ∧ (v15 = (61 : Int32) → zg G mX10_sign (d + 1) 106 [.ref 132, .int x1] [] (zsI h13 132 24 (256 : Int32)) (zPV Q))))) ∧ (x1 = (62 : Int32) → zg G mX10_sign (d + 1) 71 [.ref 132, .int x1] [.ref 132] (zsI h 132 21 ((zI h 132 21) + (1 : Int32))) (zPV Q)))))))))))) : zg G mX10_sign (d + 1) 0 [.ref 132, .int x1] [] h (zPV Q) := by
  refine z_aload_n 0 rfl rfl ?_
  refine z_dup 1 rfl rfl ?_
  refine z_getI 2 rfl lX10_166 rfl (zcl1.o hS 132 9 rfl rfl rfl) ?_
  refine z_iconst (v := 1) 3 rfl (by decide) ?_
  refine z_iadd 4 rfl ?_
  refine z_putI 5 rfl lX10_166 ⟨_, _, _, rfl, rfl⟩ rfl rfl rfl (zcl1.o hS 132 9 rfl rfl rfl) ?_
  refine z_aload_n 6 rfl rfl ?_
  refine z_iload_n 7 rfl rfl ?_
  refine z_bipush (v := 59) 8 rfl (by decide) ?_
  refine z_icmp_eq 9 71 rfl (by decide) ⟨fun c1 => ?_, fun c1 => ?_⟩
  · have B := B.1 c1
    exact B
  · have B := B.2 c1
    refine z_iload_n 10 rfl rfl ?_
    refine z_bipush (v := 40) 11 rfl (by decide) ?_
    refine z_icmp_eq 12 71 rfl (by decide) ⟨fun c2 => ?_, fun c2 => ?_⟩
    · have B := B.1 c2
      exact B
    · have B := B.2 c2
      refine z_iload_n 13 rfl rfl ?_
      refine z_bipush (v := 41) 14 rfl (by decide) ?_
      refine z_icmp_eq 15 71 rfl (by decide) ⟨fun c3 => ?_, fun c3 => ?_⟩
      · have B := B.1 c3
        exact B
      · have B := B.2 c3
        refine z_iload_n 16 rfl rfl ?_
        refine z_bipush (v := 43) 17 rfl (by decide) ?_
        refine z_icmp_eq 18 71 rfl (by decide) ⟨fun c4 => ?_, fun c4 => ?_⟩
        · have B := B.1 c4
          exact B
        · have B := B.2 c4
          refine z_iload_n 19 rfl rfl ?_
          refine z_bipush (v := 45) 20 rfl (by decide) ?_
          refine z_icmp_eq 21 71 rfl (by decide) ⟨fun c5 => ?_, fun c5 => ?_⟩
          · have B := B.1 c5
            exact B
          · have B := B.2 c5
            refine z_iload_n 22 rfl rfl ?_
            refine z_bipush (v := 42) 23 rfl (by decide) ?_
            refine z_icmp_eq 24 71 rfl (by decide) ⟨fun c6 => ?_, fun c6 => ?_⟩
            · have B := B.1 c6
              exact B
            · have B := B.2 c6
              refine z_iload_n 25 rfl rfl ?_
              refine z_bipush (v := 47) 26 rfl (by decide) ?_
              refine z_icmp_eq 27 71 rfl (by decide) ⟨fun c7 => ?_, fun c7 => ?_⟩
              · have B := B.1 c7
                exact B
              · have B := B.2 c7
                refine z_iload_n 28 rfl rfl ?_
                refine z_bipush (v := 60) 29 rfl (by decide) ?_
                refine z_icmp_eq 30 71 rfl (by decide) ⟨fun c8 => ?_, fun c8 => ?_⟩
                · have B := B.1 c8
                  exact B
                · have B := B.2 c8
                  refine z_iload_n 31 rfl rfl ?_
                  refine z_bipush (v := 61) 32 rfl (by decide) ?_
                  refine z_icmp_eq 33 71 rfl (by decide) ⟨fun c9 => ?_, fun c9 => ?_⟩
                  · have B := B.1 c9
                    exact B
                  · have B := B.2 c9
                    refine z_iload_n 34 rfl rfl ?_
                    refine z_bipush (v := 62) 35 rfl (by decide) ?_
                    refine z_icmp_ne 36 75 rfl (by decide) ⟨fun c10 => ?_, fun c10 => ?_⟩
                    · have B := B.1 c10
                      refine z_iconst (v := 5) 39 rfl (by decide) ?_
                      refine z_putI 40 rfl lX10_179 ⟨_, _, _, rfl, rfl⟩ rfl rfl rfl (zcl1.o hS 132 9 rfl rfl rfl) ?_
                      refine z_aload_n 41 rfl rfl ?_
                      refine z_iload_n 42 rfl rfl ?_
                      refine z_putI 43 rfl lX10_189 ⟨_, _, _, rfl, rfl⟩ rfl rfl rfl (zcl1.o hS 132 9 rfl rfl rfl) ?_
                      refine z_iload_n 44 rfl rfl ?_
                      refine z_bipush (v := 60) 45 rfl (by decide) ?_
                      refine z_icmp_ne 46 106 rfl (by decide) ⟨fun c11 => ?_, fun c11 => ?_⟩
                      · have B := B.1 c11
                        exact B
                      · have B := B.2 c11
                        refine z_aload_n 47 rfl rfl ?_
                        obtain ⟨Q12, K14, B⟩ := B
                        refine z_cVI0 (ν := mX10_here) 48 rfl rfl fX10_here gX10_172 ⟨_, rfl, rfl⟩ (by decide) (zcl1.o hS 132 9 rfl rfl rfl) (Nat.le_of_ble_eq_true rfl) K14 (fun v15 h13 q => ?_)
                        obtain ⟨hSh13, B⟩ := B v15 h13 q
                        refine z_bipush (v := 61) 49 rfl (by decide) ?_
                        refine z_icmp_ne 50 106 rfl (by decide) ⟨fun c16 => ?_, fun c16 => ?_⟩
                        · have B := B.1 c16
                          exact B
                        · have B := B.2 c16
                          refine z_aload_n 51 rfl rfl ?_
                          refine z_sipush (v := 256) 52 rfl (by decide) ?_
                          refine z_putI 53 rfl lX10_189 ⟨_, _, _, rfl, rfl⟩ rfl rfl rfl (zcl1.o hSh13 132 9 rfl rfl rfl) ?_
                          exact B
                    · have B := B.2 c10
                      exact B
theorem cn_X10_sign {G : zG} {d : Nat} {h : zMem} {Q : zMem → Prop} {x1 : Int32} (B : zg G mX10_sign (d + 1) 0 [.ref 132, .int x1] [] h (zPV Q)) : zConV G mX10_sign (d + 1) [.ref 132, .int x1] h Q := zcon0 (by decide +kernel) eX10_sign (Nat.le_of_ble_eq_true rfl) rfl B
set_option maxRecDepth 100000 in
set_option maxHeartbeats 4000000 in
theorem sg_X10_sign_71 {G : zG} {d : Nat} {h : zMem} {Q : zMem → Prop} {x1 : Int32} {as0 : Nat} (hS : zSh2 h)  (B : zO h as0 9 ∧ (¬ x1 = (60 : Int32) → zg G mX10_sign (d + 1) 106 [.ref 132, .int x1] [] (zsI (zsI h as0 23 (3 : Int32)) 132 24 x1) (zPV Q)) ∧ (x1 = (60 : Int32) → ∃ Q3 : Int32 → zMem → Prop, zConI G mX10_here d [.ref 132] (zsI (zsI h as0 23 (3 : Int32)) 132 24 x1) Q3 ∧ (∀ v6 h4, Q3 v6 h4 → zSh2 h4 ∧ (¬ v6 = (61 : Int32) → zg G mX10_sign (d + 1) 106 [.ref 132, .int x1] [] h4 (zPV Q)) ∧ (v6 = (61 : Int32) → zg G mX10_sign (d + 1) 106 [.ref 132, .int x1] [] (zsI h4 132 24 (256 : Int32)) (zPV Q))))) : zg G mX10_sign (d + 1) 71 [.ref 132, .int x1] [.ref as0] h (zPV Q) := by
  refine z_iconst (v := 3) 37 rfl (by decide) ?_
  refine z_goto 38 76 rfl (by decide) ?_
  obtain ⟨o1, B⟩ := B
  refine z_putI 40 rfl lX10_179 ⟨_, _, _, rfl, rfl⟩ rfl rfl rfl o1 ?_
  refine z_aload_n 41 rfl rfl ?_
  refine z_iload_n 42 rfl rfl ?_
  refine z_putI 43 rfl lX10_189 ⟨_, _, _, rfl, rfl⟩ rfl rfl rfl (zcl1.o hS 132 9 rfl rfl rfl) ?_
  refine z_iload_n 44 rfl rfl ?_
  refine z_bipush (v := 60) 45 rfl (by decide) ?_
  refine z_icmp_ne 46 106 rfl (by decide) ⟨fun c2 => ?_, fun c2 => ?_⟩
  · have B := B.1 c2
    exact B
  · have B := B.2 c2
    refine z_aload_n 47 rfl rfl ?_
    obtain ⟨Q3, K5, B⟩ := B
    refine z_cVI0 (ν := mX10_here) 48 rfl rfl fX10_here gX10_172 ⟨_, rfl, rfl⟩ (by decide) (zcl1.o hS 132 9 rfl rfl rfl) (Nat.le_of_ble_eq_true rfl) K5 (fun v6 h4 q => ?_)
    obtain ⟨hSh4, B⟩ := B v6 h4 q
    refine z_bipush (v := 61) 49 rfl (by decide) ?_
    refine z_icmp_ne 50 106 rfl (by decide) ⟨fun c7 => ?_, fun c7 => ?_⟩
    · have B := B.1 c7
      exact B
    · have B := B.2 c7
      refine z_aload_n 51 rfl rfl ?_
      refine z_sipush (v := 256) 52 rfl (by decide) ?_
      refine z_putI 53 rfl lX10_189 ⟨_, _, _, rfl, rfl⟩ rfl rfl rfl (zcl1.o hSh4 132 9 rfl rfl rfl) ?_
      exact B
set_option maxRecDepth 100000 in
set_option maxHeartbeats 4000000 in
theorem sg_X10_sign_106 {G : zG} {d : Nat} {h : zMem} {Q : zMem → Prop} {x1 : Int32} (hS : zSh2 h)  (B : (¬ x1 = (60 : Int32) → zg G mX10_sign (d + 1) 128 [.ref 132, .int x1] [] h (zPV Q)) ∧ (x1 = (60 : Int32) → ∃ Q2 : Int32 → zMem → Prop, zConI G mX10_here d [.ref 132] h Q2 ∧ (∀ v5 h3, Q2 v5 h3 → zSh2 h3 ∧ (¬ v5 = (62 : Int32) → zg G mX10_sign (d + 1) 128 [.ref 132, .int x1] [] h3 (zPV Q)) ∧ (v5 = (62 : Int32) → zg G mX10_sign (d + 1) 128 [.ref 132, .int x1] [] (zsI h3 132 24 (257 : Int32)) (zPV Q))))) : zg G mX10_sign (d + 1) 106 [.ref 132, .int x1] [] h (zPV Q) := by
  refine z_iload_n 54 rfl rfl ?_
  refine z_bipush (v := 60) 55 rfl (by decide) ?_
  refine z_icmp_ne 56 128 rfl (by decide) ⟨fun c1 => ?_, fun c1 => ?_⟩
  · have B := B.1 c1
    exact B
  · have B := B.2 c1
    refine z_aload_n 57 rfl rfl ?_
    obtain ⟨Q2, K4, B⟩ := B
    refine z_cVI0 (ν := mX10_here) 58 rfl rfl fX10_here gX10_172 ⟨_, rfl, rfl⟩ (by decide) (zcl1.o hS 132 9 rfl rfl rfl) (Nat.le_of_ble_eq_true rfl) K4 (fun v5 h3 q => ?_)
    obtain ⟨hSh3, B⟩ := B v5 h3 q
    refine z_bipush (v := 62) 59 rfl (by decide) ?_
    refine z_icmp_ne 60 128 rfl (by decide) ⟨fun c6 => ?_, fun c6 => ?_⟩
    · have B := B.1 c6
      exact B
    · have B := B.2 c6
      refine z_aload_n 61 rfl rfl ?_
      refine z_sipush (v := 257) 62 rfl (by decide) ?_
      refine z_putI 63 rfl lX10_189 ⟨_, _, _, rfl, rfl⟩ rfl rfl rfl (zcl1.o hSh3 132 9 rfl rfl rfl) ?_
      exact B
set_option maxRecDepth 100000 in
set_option maxHeartbeats 4000000 in
theorem sg_X10_sign_128 {G : zG} {d : Nat} {h : zMem} {Q : zMem → Prop} {x1 : Int32} (hS : zSh2 h)  (B : (¬ x1 = (62 : Int32) → zg G mX10_sign (d + 1) 150 [.ref 132, .int x1] [] h (zPV Q)) ∧ (x1 = (62 : Int32) → ∃ Q2 : Int32 → zMem → Prop, zConI G mX10_here d [.ref 132] h Q2 ∧ (∀ v5 h3, Q2 v5 h3 → zSh2 h3 ∧ (¬ v5 = (61 : Int32) → zg G mX10_sign (d + 1) 150 [.ref 132, .int x1] [] h3 (zPV Q)) ∧ (v5 = (61 : Int32) → zg G mX10_sign (d + 1) 150 [.ref 132, .int x1] [] (zsI h3 132 24 (258 : Int32)) (zPV Q))))) : zg G mX10_sign (d + 1) 128 [.ref 132, .int x1] [] h (zPV Q) := by
  refine z_iload_n 64 rfl rfl ?_
  refine z_bipush (v := 62) 65 rfl (by decide) ?_
  refine z_icmp_ne 66 150 rfl (by decide) ⟨fun c1 => ?_, fun c1 => ?_⟩
  · have B := B.1 c1
    exact B
  · have B := B.2 c1
    refine z_aload_n 67 rfl rfl ?_
    obtain ⟨Q2, K4, B⟩ := B
    refine z_cVI0 (ν := mX10_here) 68 rfl rfl fX10_here gX10_172 ⟨_, rfl, rfl⟩ (by decide) (zcl1.o hS 132 9 rfl rfl rfl) (Nat.le_of_ble_eq_true rfl) K4 (fun v5 h3 q => ?_)
    obtain ⟨hSh3, B⟩ := B v5 h3 q
    refine z_bipush (v := 61) 69 rfl (by decide) ?_
    refine z_icmp_ne 70 150 rfl (by decide) ⟨fun c6 => ?_, fun c6 => ?_⟩
    · have B := B.1 c6
      exact B
    · have B := B.2 c6
      refine z_aload_n 71 rfl rfl ?_
      refine z_sipush (v := 258) 72 rfl (by decide) ?_
      refine z_putI 73 rfl lX10_189 ⟨_, _, _, rfl, rfl⟩ rfl rfl rfl (zcl1.o hSh3 132 9 rfl rfl rfl) ?_
      exact B
set_option maxRecDepth 100000 in
set_option maxHeartbeats 4000000 in
theorem sg_X10_sign_150 {G : zG} {d : Nat} {h : zMem} {Q : zMem → Prop} {x1 : Int32} (hS : zSh2 h)  (B : ((zI h 132 24) < (256 : Int32) → Q h) ∧ (¬ (zI h 132 24) < (256 : Int32) → Q (zsI h 132 21 ((zI h 132 21) + (1 : Int32))))) : zg G mX10_sign (d + 1) 150 [.ref 132, .int x1] [] h (zPV Q) := by
  refine z_aload_n 74 rfl rfl ?_
  refine z_getI 75 rfl lX10_189 rfl (zcl1.o hS 132 9 rfl rfl rfl) ?_
  refine z_sipush (v := 256) 76 rfl (by decide) ?_
  refine z_icmp_lt 77 170 rfl (by decide) ⟨fun c1 => ?_, fun c1 => ?_⟩
  · have B := B.1 c1
    exact z_vret 84 rfl rfl ⟨rfl, rfl⟩ ⟨rfl, B⟩
  · have B := B.2 c1
    refine z_aload_n 78 rfl rfl ?_
    refine z_dup 79 rfl rfl ?_
    refine z_getI 80 rfl lX10_166 rfl (zcl1.o hS 132 9 rfl rfl rfl) ?_
    refine z_iconst (v := 1) 81 rfl (by decide) ?_
    refine z_iadd 82 rfl ?_
    refine z_putI 83 rfl lX10_166 ⟨_, _, _, rfl, rfl⟩ rfl rfl rfl (zcl1.o hS 132 9 rfl rfl rfl) ?_
    exact z_vret 84 rfl rfl ⟨rfl, rfl⟩ ⟨rfl, B⟩
set_option maxRecDepth 100000 in
set_option maxHeartbeats 4000000 in
theorem sg_X10_name_0 {G : zG} {d : Nat} {h : zMem} {Q : zMem → Prop}  (hS : zSh2 h)  (B : zg G mX10_name d 7 [.ref 132, .int (0 : Int32)] [] (zsI h 132 24 (0 : Int32)) (zPV Q)) : zg G mX10_name d 0 [.ref 132, zU] [] h (zPV Q) := by
  refine z_aload_n 0 rfl rfl ?_
  refine z_iconst (v := 0) 1 rfl (by decide) ?_
  refine z_putI 2 rfl lX10_189 ⟨_, _, _, rfl, rfl⟩ rfl rfl rfl (zcl1.o hS 132 9 rfl rfl rfl) ?_
  refine z_iconst (v := 0) 3 rfl (by decide) ?_
  refine z_istore_n 4 rfl (by decide) rfl ?_
  exact B
theorem cn_X10_name {G : zG} {d : Nat} {h : zMem} {Q : zMem → Prop}  (B : zg G mX10_name d 0 [.ref 132, zU] [] h (zPV Q)) : zConV G mX10_name d [.ref 132] h Q := zcon0 (by decide +kernel) eX10_name (Nat.le_of_ble_eq_true rfl) rfl B
set_option maxRecDepth 100000 in
set_option maxHeartbeats 4000000 in
theorem sg_X10_name_7 {G : zG} {d : Nat} {h : zMem} {Q : zMem → Prop} {x1 : Int32} (hS : zSh2 h)  (B : ((6 : Int32) ≤ x1 → Q h) ∧ (¬ (6 : Int32) ≤ x1 → ((zI h 132 21) ≤ ((zI h 132 22) + x1) → zg G mX10_name d 7 [.ref 132, .int (x1 + 1)] [] (zsI h 132 24 (((zI h 132 24) <<< ((5 : Int32) &&& 31)) ||| (0 : Int32))) (zPV Q)) ∧ (¬ (zI h 132 21) ≤ ((zI h 132 22) + x1) → vp_in ((zI h 132 22) + x1) 700 ∧ zg G mX10_name d 7 [.ref 132, .int (x1 + 1)] [] (zsI h 132 24 (((zI h 132 24) <<< ((5 : Int32) &&& 31)) ||| (((zI h 133 ((zI h 132 22) + x1).toNatClampNeg) - (97 : Int32)) + (1 : Int32)))) (zPV Q)))) : zg G mX10_name d 7 [.ref 132, .int x1] [] h (zPV Q) := by
  refine z_iload_n 5 rfl rfl ?_
  refine z_bipush (v := 6) 6 rfl (by decide) ?_
  refine z_icmp_ge 7 63 rfl (by decide) ⟨fun c1 => ?_, fun c1 => ?_⟩
  · have B := B.1 c1
    exact z_vret 37 rfl rfl ⟨rfl, rfl⟩ ⟨rfl, B⟩
  · have B := B.2 c1
    refine z_aload_n 8 rfl rfl ?_
    refine z_aload_n 9 rfl rfl ?_
    refine z_getI 10 rfl lX10_189 rfl (zcl1.o hS 132 9 rfl rfl rfl) ?_
    refine z_iconst (v := 5) 11 rfl (by decide) ?_
    refine z_ishl 12 rfl ?_
    refine z_aload_n 13 rfl rfl ?_
    refine z_getI 14 rfl lX10_176 rfl (zcl1.o hS 132 9 rfl rfl rfl) ?_
    refine z_iload_n 15 rfl rfl ?_
    refine z_iadd 16 rfl ?_
    refine z_aload_n 17 rfl rfl ?_
    refine z_getI 18 rfl lX10_166 rfl (zcl1.o hS 132 9 rfl rfl rfl) ?_
    refine z_icmp_ge 19 52 rfl (by decide) ⟨fun c2 => ?_, fun c2 => ?_⟩
    · have B := B.1 c2
      refine z_iconst (v := 0) 32 rfl (by decide) ?_
      refine z_ior 33 rfl ?_
      refine z_putI 34 rfl lX10_189 ⟨_, _, _, rfl, rfl⟩ rfl rfl rfl (zcl1.o hS 132 9 rfl rfl rfl) ?_
      refine z_iinc (v := 1) 35 rfl rfl (by decide) (by decide) rfl ?_
      refine z_goto 36 7 rfl (by decide) ?_
      exact B
    · have B := B.2 c2
      refine z_aload_n 20 rfl rfl ?_
      refine z_getR 21 rfl lX10_7 rfl (zcl1.o hS 132 9 rfl rfl rfl) (zcl1.r hS 132 1 133 rfl rfl rfl) ?_
      refine z_aload_n 22 rfl rfl ?_
      refine z_getI 23 rfl lX10_176 rfl (zcl1.o hS 132 9 rfl rfl rfl) ?_
      refine z_iload_n 24 rfl rfl ?_
      refine z_iadd 25 rfl ?_
      obtain ⟨o3, B⟩ := B
      refine z_iald 26 rfl (zcl1.o hS 133 100 rfl rfl rfl) (zin (zcl1.l hS 133 700 rfl rfl rfl) o3) ?_
      refine z_bipush (v := 97) 27 rfl (by decide) ?_
      refine z_isub 28 rfl ?_
      refine z_iconst (v := 1) 29 rfl (by decide) ?_
      refine z_iadd 30 rfl ?_
      refine z_goto 31 53 rfl (by decide) ?_
      refine z_ior 33 rfl ?_
      refine z_putI 34 rfl lX10_189 ⟨_, _, _, rfl, rfl⟩ rfl rfl rfl (zcl1.o hS 132 9 rfl rfl rfl) ?_
      refine z_iinc (v := 1) 35 rfl rfl (by decide) (by decide) rfl ?_
      refine z_goto 36 7 rfl (by decide) ?_
      exact B
set_option maxRecDepth 100000 in
set_option maxHeartbeats 4000000 in
theorem sg_X10_wrong_0 {G : zG} {d : Nat} {h : zMem} {Q : zMem → Prop} {x1 : Int32} (hS : zSh2 h)  (B : ((zI h 132 25) = 0 → Q (zsI (zsI h 132 25 x1) 132 26 (zI (zsI h 132 25 x1) 132 22))) ∧ (¬ (zI h 132 25) = 0 → Q h)) : zg G mX10_wrong d 0 [.ref 132, .int x1] [] h (zPV Q) := by
  refine z_aload_n 0 rfl rfl ?_
  refine z_getI 1 rfl lX10_214 rfl (zcl1.o hS 132 9 rfl rfl rfl) ?_
  refine z_if_eq 2 8 rfl (by decide) ⟨fun c1 => ?_, fun c1 => ?_⟩
  · have B := B.1 c1
    refine z_aload_n 4 rfl rfl ?_
    refine z_iload_n 5 rfl rfl ?_
    refine z_putI 6 rfl lX10_214 ⟨_, _, _, rfl, rfl⟩ rfl rfl rfl (zcl1.o hS 132 9 rfl rfl rfl) ?_
    refine z_aload_n 7 rfl rfl ?_
    refine z_aload_n 8 rfl rfl ?_
    refine z_getI 9 rfl lX10_176 rfl (zcl1.o hS 132 9 rfl rfl rfl) ?_
    refine z_putI 10 rfl lX10_217 ⟨_, _, _, rfl, rfl⟩ rfl rfl rfl (zcl1.o hS 132 9 rfl rfl rfl) ?_
    exact z_vret 11 rfl rfl ⟨rfl, rfl⟩ ⟨rfl, B⟩
  · have B := B.2 c1
    exact z_vret 3 rfl rfl ⟨rfl, rfl⟩ ⟨rfl, B⟩
theorem cn_X10_wrong {G : zG} {d : Nat} {h : zMem} {Q : zMem → Prop} {x1 : Int32} (B : zg G mX10_wrong d 0 [.ref 132, .int x1] [] h (zPV Q)) : zConV G mX10_wrong d [.ref 132, .int x1] h Q := zcon0 (by decide +kernel) eX10_wrong (Nat.le_of_ble_eq_true rfl) rfl B
set_option maxRecDepth 100000 in
set_option maxHeartbeats 4000000 in
theorem sg_X10_isWord_0 {G : zG} {d : Nat} {h : zMem} {Q : Int32 → zMem → Prop} {x1 : Int32} (hS : zSh2 h)  (B : (¬ (zI h 132 25) = 0 → Q (0 : Int32) h) ∧ ((zI h 132 25) = 0 → (¬ (zI h 132 23) = 0 → Q (0 : Int32) h) ∧ ((zI h 132 23) = 0 → (¬ (zI h 132 24) = x1 → Q (0 : Int32) h) ∧ ((zI h 132 24) = x1 → Q (1 : Int32) h)))) : zg G mX10_isWord d 0 [.ref 132, .int x1] [] h (zPI Q) := by
  refine z_aload_n 0 rfl rfl ?_
  refine z_getI 1 rfl lX10_214 rfl (zcl1.o hS 132 9 rfl rfl rfl) ?_
  refine z_if_ne 2 26 rfl (by decide) ⟨fun c1 => ?_, fun c1 => ?_⟩
  · have B := B.1 c1
    refine z_iconst (v := 0) 12 rfl (by decide) ?_
    exact z_iret 13 rfl rfl rfl ⟨rfl, rfl⟩ ⟨_, rfl, B⟩
  · have B := B.2 c1
    refine z_aload_n 3 rfl rfl ?_
    refine z_getI 4 rfl lX10_179 rfl (zcl1.o hS 132 9 rfl rfl rfl) ?_
    refine z_if_ne 5 26 rfl (by decide) ⟨fun c2 => ?_, fun c2 => ?_⟩
    · have B := B.1 c2
      refine z_iconst (v := 0) 12 rfl (by decide) ?_
      exact z_iret 13 rfl rfl rfl ⟨rfl, rfl⟩ ⟨_, rfl, B⟩
    · have B := B.2 c2
      refine z_aload_n 6 rfl rfl ?_
      refine z_getI 7 rfl lX10_189 rfl (zcl1.o hS 132 9 rfl rfl rfl) ?_
      refine z_iload_n 8 rfl rfl ?_
      refine z_icmp_ne 9 26 rfl (by decide) ⟨fun c3 => ?_, fun c3 => ?_⟩
      · have B := B.1 c3
        refine z_iconst (v := 0) 12 rfl (by decide) ?_
        exact z_iret 13 rfl rfl rfl ⟨rfl, rfl⟩ ⟨_, rfl, B⟩
      · have B := B.2 c3
        refine z_iconst (v := 1) 10 rfl (by decide) ?_
        refine z_goto 11 27 rfl (by decide) ?_
        exact z_iret 13 rfl rfl rfl ⟨rfl, rfl⟩ ⟨_, rfl, B⟩
theorem cn_X10_isWord {G : zG} {d : Nat} {h : zMem} {Q : Int32 → zMem → Prop} {x1 : Int32} (B : zg G mX10_isWord d 0 [.ref 132, .int x1] [] h (zPI Q)) : zConI G mX10_isWord d [.ref 132, .int x1] h Q := zcon0 (by decide +kernel) eX10_isWord (Nat.le_of_ble_eq_true rfl) rfl B
set_option maxRecDepth 100000 in
set_option maxHeartbeats 4000000 in
theorem sg_X10_isSign_0 {G : zG} {d : Nat} {h : zMem} {Q : Int32 → zMem → Prop} {x1 : Int32} (hS : zSh2 h)  (B : (¬ (zI h 132 25) = 0 → Q (0 : Int32) h) ∧ ((zI h 132 25) = 0 → (¬ (zI h 132 23) = (3 : Int32) → Q (0 : Int32) h) ∧ ((zI h 132 23) = (3 : Int32) → (¬ (zI h 132 24) = x1 → Q (0 : Int32) h) ∧ ((zI h 132 24) = x1 → Q (1 : Int32) h)))) : zg G mX10_isSign d 0 [.ref 132, .int x1] [] h (zPI Q) := by
  refine z_aload_n 0 rfl rfl ?_
  refine z_getI 1 rfl lX10_214 rfl (zcl1.o hS 132 9 rfl rfl rfl) ?_
  refine z_if_ne 2 27 rfl (by decide) ⟨fun c1 => ?_, fun c1 => ?_⟩
  · have B := B.1 c1
    refine z_iconst (v := 0) 13 rfl (by decide) ?_
    exact z_iret 14 rfl rfl rfl ⟨rfl, rfl⟩ ⟨_, rfl, B⟩
  · have B := B.2 c1
    refine z_aload_n 3 rfl rfl ?_
    refine z_getI 4 rfl lX10_179 rfl (zcl1.o hS 132 9 rfl rfl rfl) ?_
    refine z_iconst (v := 3) 5 rfl (by decide) ?_
    refine z_icmp_ne 6 27 rfl (by decide) ⟨fun c2 => ?_, fun c2 => ?_⟩
    · have B := B.1 c2
      refine z_iconst (v := 0) 13 rfl (by decide) ?_
      exact z_iret 14 rfl rfl rfl ⟨rfl, rfl⟩ ⟨_, rfl, B⟩
    · have B := B.2 c2
      refine z_aload_n 7 rfl rfl ?_
      refine z_getI 8 rfl lX10_189 rfl (zcl1.o hS 132 9 rfl rfl rfl) ?_
      refine z_iload_n 9 rfl rfl ?_
      refine z_icmp_ne 10 27 rfl (by decide) ⟨fun c3 => ?_, fun c3 => ?_⟩
      · have B := B.1 c3
        refine z_iconst (v := 0) 13 rfl (by decide) ?_
        exact z_iret 14 rfl rfl rfl ⟨rfl, rfl⟩ ⟨_, rfl, B⟩
      · have B := B.2 c3
        refine z_iconst (v := 1) 11 rfl (by decide) ?_
        refine z_goto 12 28 rfl (by decide) ?_
        exact z_iret 14 rfl rfl rfl ⟨rfl, rfl⟩ ⟨_, rfl, B⟩
theorem cn_X10_isSign {G : zG} {d : Nat} {h : zMem} {Q : Int32 → zMem → Prop} {x1 : Int32} (B : zg G mX10_isSign d 0 [.ref 132, .int x1] [] h (zPI Q)) : zConI G mX10_isSign d [.ref 132, .int x1] h Q := zcon0 (by decide +kernel) eX10_isSign (Nat.le_of_ble_eq_true rfl) rfl B
set_option maxRecDepth 100000 in
set_option maxHeartbeats 4000000 in
theorem sg_X10_goOn_0 {G : zG} {d : Nat} {h : zMem} {Q : zMem → Prop}  (hS : zSh2 h)  (B : (¬ (zI h 132 25) = 0 → Q h) ∧ ((zI h 132 25) = 0 → ∃ Q2 : zMem → Prop, zConV G mX10_token d [.ref 132] h Q2 ∧ (∀ h3, Q2 h3 → zSh2 h3 ∧ Q h3))) : zg G mX10_goOn (d + 1) 0 [.ref 132] [] h (zPV Q) := by
  refine z_aload_n 0 rfl rfl ?_
  refine z_getI 1 rfl lX10_214 rfl (zcl1.o hS 132 9 rfl rfl rfl) ?_
  refine z_if_ne 2 11 rfl (by decide) ⟨fun c1 => ?_, fun c1 => ?_⟩
  · have B := B.1 c1
    exact z_vret 5 rfl rfl ⟨rfl, rfl⟩ ⟨rfl, B⟩
  · have B := B.2 c1
    refine z_aload_n 3 rfl rfl ?_
    obtain ⟨Q2, K4, B⟩ := B
    refine z_cVV0 (ν := mX10_token) 4 rfl rfl fX10_token gX10_220 ⟨_, rfl, rfl⟩ (by decide) (zcl1.o hS 132 9 rfl rfl rfl) (Nat.le_of_ble_eq_true rfl) K4 (fun h3 q => ?_)
    obtain ⟨hSh3, B⟩ := B h3 q
    exact z_vret 5 rfl rfl ⟨rfl, rfl⟩ ⟨rfl, B⟩
theorem cn_X10_goOn {G : zG} {d : Nat} {h : zMem} {Q : zMem → Prop}  (B : zg G mX10_goOn (d + 1) 0 [.ref 132] [] h (zPV Q)) : zConV G mX10_goOn (d + 1) [.ref 132] h Q := zcon0 (by decide +kernel) eX10_goOn (Nat.le_of_ble_eq_true rfl) rfl B
set_option maxRecDepth 100000 in
set_option maxHeartbeats 4000000 in
theorem sg_X10_numeral_0 {G : zG} {d : Nat} {h : zMem} {Q : Int32 → zMem → Prop} {x1 : Int32} {x2 : Int32} (hS : zSh2 h)  (B : ((zI h 132 25) = 0 → ((zI h 132 23) = (2 : Int32) → ((zI h 132 24) < x1 → ∃ Q4 : zMem → Prop, zConV G mX10_wrong d [.ref 132, .int (2 : Int32)] h Q4 ∧ (∀ h5, Q4 h5 → zSh2 h5 ∧ ((zI h5 132 25) = 0 → ∃ Q8 : zMem → Prop, zConV G mX10_token d [.ref 132] h5 Q8 ∧ (∀ h9, Q8 h9 → zSh2 h9 ∧ Q (zI h5 132 24) h9)) ∧ (¬ (zI h5 132 25) = 0 → Q x1 h5))) ∧ (¬ (zI h 132 24) < x1 → ((zI h 132 24) ≤ x2 → ((zI h 132 25) = 0 → ∃ Q13 : zMem → Prop, zConV G mX10_token d [.ref 132] h Q13 ∧ (∀ h14, Q13 h14 → zSh2 h14 ∧ Q (zI h 132 24) h14)) ∧ (¬ (zI h 132 25) = 0 → Q x1 h)) ∧ (¬ (zI h 132 24) ≤ x2 → ∃ Q16 : zMem → Prop, zConV G mX10_wrong d [.ref 132, .int (2 : Int32)] h Q16 ∧ (∀ h17, Q16 h17 → zSh2 h17 ∧ ((zI h17 132 25) = 0 → ∃ Q20 : zMem → Prop, zConV G mX10_token d [.ref 132] h17 Q20 ∧ (∀ h21, Q20 h21 → zSh2 h21 ∧ Q (zI h17 132 24) h21)) ∧ (¬ (zI h17 132 25) = 0 → Q x1 h17))))) ∧ (¬ (zI h 132 23) = (2 : Int32) → ∃ Q23 : zMem → Prop, zConV G mX10_wrong d [.ref 132, .int (1 : Int32)] h Q23 ∧ (∀ h24, Q23 h24 → zSh2 h24 ∧ ((zI h24 132 25) = 0 → ∃ Q27 : zMem → Prop, zConV G mX10_token d [.ref 132] h24 Q27 ∧ (∀ h28, Q27 h28 → zSh2 h28 ∧ Q (zI h24 132 24) h28)) ∧ (¬ (zI h24 132 25) = 0 → Q x1 h24)))) ∧ (¬ (zI h 132 25) = 0 → Q x1 h)) : zg G mX10_numeral (d + 1) 0 [.ref 132, .int x1, .int x2, zU] [] h (zPI Q) := by
  refine z_aload_n 0 rfl rfl ?_
  refine z_getI 1 rfl lX10_214 rfl (zcl1.o hS 132 9 rfl rfl rfl) ?_
  refine z_if_eq 2 9 rfl (by decide) ⟨fun c1 => ?_, fun c1 => ?_⟩
  · have B := B.1 c1
    refine z_aload_n 5 rfl rfl ?_
    refine z_getI 6 rfl lX10_179 rfl (zcl1.o hS 132 9 rfl rfl rfl) ?_
    refine z_iconst (v := 2) 7 rfl (by decide) ?_
    refine z_icmp_eq 8 25 rfl (by decide) ⟨fun c2 => ?_, fun c2 => ?_⟩
    · have B := B.1 c2
      refine z_aload_n 13 rfl rfl ?_
      refine z_getI 14 rfl lX10_189 rfl (zcl1.o hS 132 9 rfl rfl rfl) ?_
      refine z_iload_n 15 rfl rfl ?_
      refine z_icmp_lt 16 41 rfl (by decide) ⟨fun c3 => ?_, fun c3 => ?_⟩
      · have B := B.1 c3
        refine z_aload_n 21 rfl rfl ?_
        refine z_iconst (v := 2) 22 rfl (by decide) ?_
        obtain ⟨Q4, K6, B⟩ := B
        refine z_cVV1 (ν := mX10_wrong) 23 rfl rfl fX10_wrong gX10_223 ⟨_, rfl, rfl⟩ (by decide) (zcl1.o hS 132 9 rfl rfl rfl) (Nat.le_of_ble_eq_true rfl) K6 (fun h5 q => ?_)
        obtain ⟨hSh5, B⟩ := B h5 q
        refine z_aload_n 24 rfl rfl ?_
        refine z_getI 25 rfl lX10_214 rfl (zcl1.o hSh5 132 9 rfl rfl rfl) ?_
        refine z_if_eq 26 55 rfl (by decide) ⟨fun c7 => ?_, fun c7 => ?_⟩
        · have B := B.1 c7
          refine z_aload_n 29 rfl rfl ?_
          refine z_getI 30 rfl lX10_189 rfl (zcl1.o hSh5 132 9 rfl rfl rfl) ?_
          refine z_istore_n 31 rfl (by decide) rfl ?_
          refine z_aload_n 32 rfl rfl ?_
          obtain ⟨Q8, K10, B⟩ := B
          refine z_cVV0 (ν := mX10_token) 33 rfl rfl fX10_token gX10_220 ⟨_, rfl, rfl⟩ (by decide) (zcl1.o hSh5 132 9 rfl rfl rfl) (Nat.le_of_ble_eq_true rfl) K10 (fun h9 q => ?_)
          obtain ⟨hSh9, B⟩ := B h9 q
          refine z_iload_n 34 rfl rfl ?_
          exact z_iret 35 rfl rfl rfl ⟨rfl, rfl⟩ ⟨_, rfl, B⟩
        · have B := B.2 c7
          refine z_iload_n 27 rfl rfl ?_
          exact z_iret 28 rfl rfl rfl ⟨rfl, rfl⟩ ⟨_, rfl, B⟩
      · have B := B.2 c3
        refine z_aload_n 17 rfl rfl ?_
        refine z_getI 18 rfl lX10_189 rfl (zcl1.o hS 132 9 rfl rfl rfl) ?_
        refine z_iload_n 19 rfl rfl ?_
        refine z_icmp_le 20 46 rfl (by decide) ⟨fun c11 => ?_, fun c11 => ?_⟩
        · have B := B.1 c11
          refine z_aload_n 24 rfl rfl ?_
          refine z_getI 25 rfl lX10_214 rfl (zcl1.o hS 132 9 rfl rfl rfl) ?_
          refine z_if_eq 26 55 rfl (by decide) ⟨fun c12 => ?_, fun c12 => ?_⟩
          · have B := B.1 c12
            refine z_aload_n 29 rfl rfl ?_
            refine z_getI 30 rfl lX10_189 rfl (zcl1.o hS 132 9 rfl rfl rfl) ?_
            refine z_istore_n 31 rfl (by decide) rfl ?_
            refine z_aload_n 32 rfl rfl ?_
            obtain ⟨Q13, K15, B⟩ := B
            refine z_cVV0 (ν := mX10_token) 33 rfl rfl fX10_token gX10_220 ⟨_, rfl, rfl⟩ (by decide) (zcl1.o hS 132 9 rfl rfl rfl) (Nat.le_of_ble_eq_true rfl) K15 (fun h14 q => ?_)
            obtain ⟨hSh14, B⟩ := B h14 q
            refine z_iload_n 34 rfl rfl ?_
            exact z_iret 35 rfl rfl rfl ⟨rfl, rfl⟩ ⟨_, rfl, B⟩
          · have B := B.2 c12
            refine z_iload_n 27 rfl rfl ?_
            exact z_iret 28 rfl rfl rfl ⟨rfl, rfl⟩ ⟨_, rfl, B⟩
        · have B := B.2 c11
          refine z_aload_n 21 rfl rfl ?_
          refine z_iconst (v := 2) 22 rfl (by decide) ?_
          obtain ⟨Q16, K18, B⟩ := B
          refine z_cVV1 (ν := mX10_wrong) 23 rfl rfl fX10_wrong gX10_223 ⟨_, rfl, rfl⟩ (by decide) (zcl1.o hS 132 9 rfl rfl rfl) (Nat.le_of_ble_eq_true rfl) K18 (fun h17 q => ?_)
          obtain ⟨hSh17, B⟩ := B h17 q
          refine z_aload_n 24 rfl rfl ?_
          refine z_getI 25 rfl lX10_214 rfl (zcl1.o hSh17 132 9 rfl rfl rfl) ?_
          refine z_if_eq 26 55 rfl (by decide) ⟨fun c19 => ?_, fun c19 => ?_⟩
          · have B := B.1 c19
            refine z_aload_n 29 rfl rfl ?_
            refine z_getI 30 rfl lX10_189 rfl (zcl1.o hSh17 132 9 rfl rfl rfl) ?_
            refine z_istore_n 31 rfl (by decide) rfl ?_
            refine z_aload_n 32 rfl rfl ?_
            obtain ⟨Q20, K22, B⟩ := B
            refine z_cVV0 (ν := mX10_token) 33 rfl rfl fX10_token gX10_220 ⟨_, rfl, rfl⟩ (by decide) (zcl1.o hSh17 132 9 rfl rfl rfl) (Nat.le_of_ble_eq_true rfl) K22 (fun h21 q => ?_)
            obtain ⟨hSh21, B⟩ := B h21 q
            refine z_iload_n 34 rfl rfl ?_
            exact z_iret 35 rfl rfl rfl ⟨rfl, rfl⟩ ⟨_, rfl, B⟩
          · have B := B.2 c19
            refine z_iload_n 27 rfl rfl ?_
            exact z_iret 28 rfl rfl rfl ⟨rfl, rfl⟩ ⟨_, rfl, B⟩
    · have B := B.2 c2
      refine z_aload_n 9 rfl rfl ?_
      refine z_iconst (v := 1) 10 rfl (by decide) ?_
      obtain ⟨Q23, K25, B⟩ := B
      refine z_cVV1 (ν := mX10_wrong) 11 rfl rfl fX10_wrong gX10_223 ⟨_, rfl, rfl⟩ (by decide) (zcl1.o hS 132 9 rfl rfl rfl) (Nat.le_of_ble_eq_true rfl) K25 (fun h24 q => ?_)
      obtain ⟨hSh24, B⟩ := B h24 q
      refine z_goto 12 46 rfl (by decide) ?_
      refine z_aload_n 24 rfl rfl ?_
      refine z_getI 25 rfl lX10_214 rfl (zcl1.o hSh24 132 9 rfl rfl rfl) ?_
      refine z_if_eq 26 55 rfl (by decide) ⟨fun c26 => ?_, fun c26 => ?_⟩
      · have B := B.1 c26
        refine z_aload_n 29 rfl rfl ?_
        refine z_getI 30 rfl lX10_189 rfl (zcl1.o hSh24 132 9 rfl rfl rfl) ?_
        refine z_istore_n 31 rfl (by decide) rfl ?_
        refine z_aload_n 32 rfl rfl ?_
        obtain ⟨Q27, K29, B⟩ := B
        refine z_cVV0 (ν := mX10_token) 33 rfl rfl fX10_token gX10_220 ⟨_, rfl, rfl⟩ (by decide) (zcl1.o hSh24 132 9 rfl rfl rfl) (Nat.le_of_ble_eq_true rfl) K29 (fun h28 q => ?_)
        obtain ⟨hSh28, B⟩ := B h28 q
        refine z_iload_n 34 rfl rfl ?_
        exact z_iret 35 rfl rfl rfl ⟨rfl, rfl⟩ ⟨_, rfl, B⟩
      · have B := B.2 c26
        refine z_iload_n 27 rfl rfl ?_
        exact z_iret 28 rfl rfl rfl ⟨rfl, rfl⟩ ⟨_, rfl, B⟩
  · have B := B.2 c1
    refine z_iload_n 3 rfl rfl ?_
    exact z_iret 4 rfl rfl rfl ⟨rfl, rfl⟩ ⟨_, rfl, B⟩
theorem cn_X10_numeral {G : zG} {d : Nat} {h : zMem} {Q : Int32 → zMem → Prop} {x1 : Int32} {x2 : Int32} (B : zg G mX10_numeral (d + 1) 0 [.ref 132, .int x1, .int x2, zU] [] h (zPI Q)) : zConI G mX10_numeral (d + 1) [.ref 132, .int x1, .int x2] h Q := zcon0 (by decide +kernel) eX10_numeral (Nat.le_of_ble_eq_true rfl) rfl B
set_option maxRecDepth 100000 in
set_option maxHeartbeats 4000000 in
theorem sg_X10_found_0 {G : zG} {d : Nat} {h : zMem} {Q : Int32 → zMem → Prop} {a0 : Nat} {x1 : Int32} {x2 : Int32} {x3 : Int32} (hS : zSh2 h)  (B : zg G mX10_found d 3 [.ref a0, .int x1, .int x2, .int x3, .int (0 : Int32)] [] h (zPI Q)) : zg G mX10_found d 0 [.ref a0, .int x1, .int x2, .int x3, zU] [] h (zPI Q) := by
  refine z_iconst (v := 0) 0 rfl (by decide) ?_
  refine z_istore 1 rfl (by decide) rfl ?_
  exact B
theorem cn_X10_found {G : zG} {d : Nat} {h : zMem} {Q : Int32 → zMem → Prop} {a0 : Nat} {x1 : Int32} {x2 : Int32} {x3 : Int32} (B : zg G mX10_found d 0 [.ref a0, .int x1, .int x2, .int x3, zU] [] h (zPI Q)) : zConI G mX10_found d [.ref a0, .int x1, .int x2, .int x3] h Q := zcon0 (by decide +kernel) eX10_found (Nat.le_of_ble_eq_true rfl) rfl B
set_option maxRecDepth 100000 in
set_option maxHeartbeats 4000000 in
theorem sg_X10_found_3 {G : zG} {d : Nat} {h : zMem} {Q : Int32 → zMem → Prop} {a0 : Nat} {x1 : Int32} {x2 : Int32} {x3 : Int32} {x4 : Int32} (hS : zSh2 h)  (B : (x2 ≤ x4 → Q (-1 : Int32) h) ∧ (¬ x2 ≤ x4 → zO h a0 100 ∧ vp_in (x1 + x4) (zLen h a0) ∧ (¬ (zI h a0 (x1 + x4).toNatClampNeg) = x3 → zg G mX10_found d 3 [.ref a0, .int x1, .int x2, .int x3, .int (x4 + 1)] [] h (zPI Q)) ∧ ((zI h a0 (x1 + x4).toNatClampNeg) = x3 → Q x4 h))) : zg G mX10_found d 3 [.ref a0, .int x1, .int x2, .int x3, .int x4] [] h (zPI Q) := by
  refine z_iload 2 rfl rfl ?_
  refine z_iload_n 3 rfl rfl ?_
  refine z_icmp_ge 4 28 rfl (by decide) ⟨fun c1 => ?_, fun c1 => ?_⟩
  · have B := B.1 c1
    refine z_iconst (v := -1) 16 rfl (by decide) ?_
    exact z_iret 17 rfl rfl rfl ⟨rfl, rfl⟩ ⟨_, rfl, B⟩
  · have B := B.2 c1
    refine z_aload_n 5 rfl rfl ?_
    refine z_iload_n 6 rfl rfl ?_
    refine z_iload 7 rfl rfl ?_
    refine z_iadd 8 rfl ?_
    obtain ⟨o2, B⟩ := B
    obtain ⟨o3, B⟩ := B
    refine z_iald 9 rfl o2 o3 ?_
    refine z_iload_n 10 rfl rfl ?_
    refine z_icmp_ne 11 22 rfl (by decide) ⟨fun c4 => ?_, fun c4 => ?_⟩
    · have B := B.1 c4
      refine z_iinc (v := 1) 14 rfl rfl (by decide) (by decide) rfl ?_
      refine z_goto 15 3 rfl (by decide) ?_
      exact B
    · have B := B.2 c4
      refine z_iload 12 rfl rfl ?_
      exact z_iret 13 rfl rfl rfl ⟨rfl, rfl⟩ ⟨_, rfl, B⟩
set_option maxRecDepth 100000 in
set_option maxHeartbeats 4000000 in
theorem sg_X10_fresh_0 {G : zG} {d : Nat} {h : zMem} {Q : Int32 → zMem → Prop} {a1 : Nat} {x2 : Int32} {x3 : Int32} (hS : zSh2 h)  (B : ((zI h 132 25) = 0 → ((zI h 132 23) = (1 : Int32) → ∃ Q3 : Int32 → zMem → Prop, zConI G mX10_found d [.ref a1, .int x2, .int x3, .int (zI h 132 24)] h Q3 ∧ (∀ v6 h4, Q3 v6 h4 → zSh2 h4 ∧ (v6 = (-1 : Int32) → ((zI h4 132 25) = 0 → ∃ Q9 : zMem → Prop, zConV G mX10_token d [.ref 132] h4 Q9 ∧ (∀ h10, Q9 h10 → zSh2 h10 ∧ Q (zI h4 132 24) h10)) ∧ (¬ (zI h4 132 25) = 0 → Q (0 : Int32) h4)) ∧ (¬ v6 = (-1 : Int32) → ∃ Q12 : zMem → Prop, zConV G mX10_wrong d [.ref 132, .int (3 : Int32)] h4 Q12 ∧ (∀ h13, Q12 h13 → zSh2 h13 ∧ ((zI h13 132 25) = 0 → ∃ Q16 : zMem → Prop, zConV G mX10_token d [.ref 132] h13 Q16 ∧ (∀ h17, Q16 h17 → zSh2 h17 ∧ Q (zI h13 132 24) h17)) ∧ (¬ (zI h13 132 25) = 0 → Q (0 : Int32) h13))))) ∧ (¬ (zI h 132 23) = (1 : Int32) → ∃ Q19 : zMem → Prop, zConV G mX10_wrong d [.ref 132, .int (1 : Int32)] h Q19 ∧ (∀ h20, Q19 h20 → zSh2 h20 ∧ ((zI h20 132 25) = 0 → ∃ Q23 : zMem → Prop, zConV G mX10_token d [.ref 132] h20 Q23 ∧ (∀ h24, Q23 h24 → zSh2 h24 ∧ Q (zI h20 132 24) h24)) ∧ (¬ (zI h20 132 25) = 0 → Q (0 : Int32) h20)))) ∧ (¬ (zI h 132 25) = 0 → Q (0 : Int32) h)) : zg G mX10_fresh (d + 1) 0 [.ref 132, .ref a1, .int x2, .int x3, zU] [] h (zPI Q) := by
  refine z_aload_n 0 rfl rfl ?_
  refine z_getI 1 rfl lX10_214 rfl (zcl1.o hS 132 9 rfl rfl rfl) ?_
  refine z_if_eq 2 9 rfl (by decide) ⟨fun c1 => ?_, fun c1 => ?_⟩
  · have B := B.1 c1
    refine z_aload_n 5 rfl rfl ?_
    refine z_getI 6 rfl lX10_179 rfl (zcl1.o hS 132 9 rfl rfl rfl) ?_
    refine z_iconst (v := 1) 7 rfl (by decide) ?_
    refine z_icmp_eq 8 25 rfl (by decide) ⟨fun c2 => ?_, fun c2 => ?_⟩
    · have B := B.1 c2
      refine z_aload_n 13 rfl rfl ?_
      refine z_iload_n 14 rfl rfl ?_
      refine z_iload_n 15 rfl rfl ?_
      refine z_aload_n 16 rfl rfl ?_
      refine z_getI 17 rfl lX10_189 rfl (zcl1.o hS 132 9 rfl rfl rfl) ?_
      obtain ⟨Q3, K5, B⟩ := B
      refine z_cSI4 (ν := mX10_found) 18 rfl rfl fX10_found gX10_226 (Nat.le_of_ble_eq_true rfl) K5 (fun v6 h4 q => ?_)
      obtain ⟨hSh4, B⟩ := B v6 h4 q
      refine z_iconst (v := -1) 19 rfl (by decide) ?_
      refine z_icmp_eq 20 44 rfl (by decide) ⟨fun c7 => ?_, fun c7 => ?_⟩
      · have B := B.1 c7
        refine z_aload_n 24 rfl rfl ?_
        refine z_getI 25 rfl lX10_214 rfl (zcl1.o hSh4 132 9 rfl rfl rfl) ?_
        refine z_if_eq 26 53 rfl (by decide) ⟨fun c8 => ?_, fun c8 => ?_⟩
        · have B := B.1 c8
          refine z_aload_n 29 rfl rfl ?_
          refine z_getI 30 rfl lX10_189 rfl (zcl1.o hSh4 132 9 rfl rfl rfl) ?_
          refine z_istore 31 rfl (by decide) rfl ?_
          refine z_aload_n 32 rfl rfl ?_
          obtain ⟨Q9, K11, B⟩ := B
          refine z_cVV0 (ν := mX10_token) 33 rfl rfl fX10_token gX10_220 ⟨_, rfl, rfl⟩ (by decide) (zcl1.o hSh4 132 9 rfl rfl rfl) (Nat.le_of_ble_eq_true rfl) K11 (fun h10 q => ?_)
          obtain ⟨hSh10, B⟩ := B h10 q
          refine z_iload 34 rfl rfl ?_
          exact z_iret 35 rfl rfl rfl ⟨rfl, rfl⟩ ⟨_, rfl, B⟩
        · have B := B.2 c8
          refine z_iconst (v := 0) 27 rfl (by decide) ?_
          exact z_iret 28 rfl rfl rfl ⟨rfl, rfl⟩ ⟨_, rfl, B⟩
      · have B := B.2 c7
        refine z_aload_n 21 rfl rfl ?_
        refine z_iconst (v := 3) 22 rfl (by decide) ?_
        obtain ⟨Q12, K14, B⟩ := B
        refine z_cVV1 (ν := mX10_wrong) 23 rfl rfl fX10_wrong gX10_223 ⟨_, rfl, rfl⟩ (by decide) (zcl1.o hSh4 132 9 rfl rfl rfl) (Nat.le_of_ble_eq_true rfl) K14 (fun h13 q => ?_)
        obtain ⟨hSh13, B⟩ := B h13 q
        refine z_aload_n 24 rfl rfl ?_
        refine z_getI 25 rfl lX10_214 rfl (zcl1.o hSh13 132 9 rfl rfl rfl) ?_
        refine z_if_eq 26 53 rfl (by decide) ⟨fun c15 => ?_, fun c15 => ?_⟩
        · have B := B.1 c15
          refine z_aload_n 29 rfl rfl ?_
          refine z_getI 30 rfl lX10_189 rfl (zcl1.o hSh13 132 9 rfl rfl rfl) ?_
          refine z_istore 31 rfl (by decide) rfl ?_
          refine z_aload_n 32 rfl rfl ?_
          obtain ⟨Q16, K18, B⟩ := B
          refine z_cVV0 (ν := mX10_token) 33 rfl rfl fX10_token gX10_220 ⟨_, rfl, rfl⟩ (by decide) (zcl1.o hSh13 132 9 rfl rfl rfl) (Nat.le_of_ble_eq_true rfl) K18 (fun h17 q => ?_)
          obtain ⟨hSh17, B⟩ := B h17 q
          refine z_iload 34 rfl rfl ?_
          exact z_iret 35 rfl rfl rfl ⟨rfl, rfl⟩ ⟨_, rfl, B⟩
        · have B := B.2 c15
          refine z_iconst (v := 0) 27 rfl (by decide) ?_
          exact z_iret 28 rfl rfl rfl ⟨rfl, rfl⟩ ⟨_, rfl, B⟩
    · have B := B.2 c2
      refine z_aload_n 9 rfl rfl ?_
      refine z_iconst (v := 1) 10 rfl (by decide) ?_
      obtain ⟨Q19, K21, B⟩ := B
      refine z_cVV1 (ν := mX10_wrong) 11 rfl rfl fX10_wrong gX10_223 ⟨_, rfl, rfl⟩ (by decide) (zcl1.o hS 132 9 rfl rfl rfl) (Nat.le_of_ble_eq_true rfl) K21 (fun h20 q => ?_)
      obtain ⟨hSh20, B⟩ := B h20 q
      refine z_goto 12 44 rfl (by decide) ?_
      refine z_aload_n 24 rfl rfl ?_
      refine z_getI 25 rfl lX10_214 rfl (zcl1.o hSh20 132 9 rfl rfl rfl) ?_
      refine z_if_eq 26 53 rfl (by decide) ⟨fun c22 => ?_, fun c22 => ?_⟩
      · have B := B.1 c22
        refine z_aload_n 29 rfl rfl ?_
        refine z_getI 30 rfl lX10_189 rfl (zcl1.o hSh20 132 9 rfl rfl rfl) ?_
        refine z_istore 31 rfl (by decide) rfl ?_
        refine z_aload_n 32 rfl rfl ?_
        obtain ⟨Q23, K25, B⟩ := B
        refine z_cVV0 (ν := mX10_token) 33 rfl rfl fX10_token gX10_220 ⟨_, rfl, rfl⟩ (by decide) (zcl1.o hSh20 132 9 rfl rfl rfl) (Nat.le_of_ble_eq_true rfl) K25 (fun h24 q => ?_)
        obtain ⟨hSh24, B⟩ := B h24 q
        refine z_iload 34 rfl rfl ?_
        exact z_iret 35 rfl rfl rfl ⟨rfl, rfl⟩ ⟨_, rfl, B⟩
      · have B := B.2 c22
        refine z_iconst (v := 0) 27 rfl (by decide) ?_
        exact z_iret 28 rfl rfl rfl ⟨rfl, rfl⟩ ⟨_, rfl, B⟩
  · have B := B.2 c1
    refine z_iconst (v := 0) 3 rfl (by decide) ?_
    exact z_iret 4 rfl rfl rfl ⟨rfl, rfl⟩ ⟨_, rfl, B⟩
theorem cn_X10_fresh {G : zG} {d : Nat} {h : zMem} {Q : Int32 → zMem → Prop} {a1 : Nat} {x2 : Int32} {x3 : Int32} (B : zg G mX10_fresh (d + 1) 0 [.ref 132, .ref a1, .int x2, .int x3, zU] [] h (zPI Q)) : zConI G mX10_fresh (d + 1) [.ref 132, .ref a1, .int x2, .int x3] h Q := zcon0 (by decide +kernel) eX10_fresh (Nat.le_of_ble_eq_true rfl) rfl B
set_option maxRecDepth 100000 in
set_option maxHeartbeats 4000000 in
theorem sg_X10_fresher_0 {G : zG} {d : Nat} {h : zMem} {Q : Int32 → zMem → Prop} {x1 : Int32} (hS : zSh2 h)  (B : vp_in ((8 : Int32) + x1) 16 ∧ Q (zI h 134 ((8 : Int32) + x1).toNatClampNeg) h) : zg G mX10_fresher d 0 [.ref 132, .int x1] [] h (zPI Q) := by
  refine z_aload_n 0 rfl rfl ?_
  refine z_getR 1 rfl lX10_13 rfl (zcl1.o hS 132 9 rfl rfl rfl) (zcl1.r hS 132 3 134 rfl rfl rfl) ?_
  refine z_bipush (v := 8) 2 rfl (by decide) ?_
  refine z_iload_n 3 rfl rfl ?_
  refine z_iadd 4 rfl ?_
  obtain ⟨o1, B⟩ := B
  refine z_iald 5 rfl (zcl1.o hS 134 100 rfl rfl rfl) (zin (zcl1.l hS 134 16 rfl rfl rfl) o1) ?_
  exact z_iret 6 rfl rfl rfl ⟨rfl, rfl⟩ ⟨_, rfl, B⟩
theorem cn_X10_fresher {G : zG} {d : Nat} {h : zMem} {Q : Int32 → zMem → Prop} {x1 : Int32} (B : zg G mX10_fresher d 0 [.ref 132, .int x1] [] h (zPI Q)) : zConI G mX10_fresher d [.ref 132, .int x1] h Q := zcon0 (by decide +kernel) eX10_fresher (Nat.le_of_ble_eq_true rfl) rfl B
set_option maxRecDepth 100000 in
set_option maxHeartbeats 4000000 in
theorem sg_X10_reads_0 {G : zG} {d : Nat} {h : zMem} {Q : zMem → Prop} {x1 : Int32} {x2 : Int32} (hS : zSh2 h)  (B : vp_in ((8 : Int32) + x1) 16 ∧ Q (zsI h 134 ((8 : Int32) + x1).toNatClampNeg x2)) : zg G mX10_reads d 0 [.ref 132, .int x1, .int x2] [] h (zPV Q) := by
  refine z_aload_n 0 rfl rfl ?_
  refine z_getR 1 rfl lX10_13 rfl (zcl1.o hS 132 9 rfl rfl rfl) (zcl1.r hS 132 3 134 rfl rfl rfl) ?_
  refine z_bipush (v := 8) 2 rfl (by decide) ?_
  refine z_iload_n 3 rfl rfl ?_
  refine z_iadd 4 rfl ?_
  refine z_iload_n 5 rfl rfl ?_
  obtain ⟨o1, B⟩ := B
  refine z_iast 6 rfl (zcl1.o hS 134 100 rfl rfl rfl) (zin (zcl1.l hS 134 16 rfl rfl rfl) o1) ?_
  exact z_vret 7 rfl rfl ⟨rfl, rfl⟩ ⟨rfl, B⟩
theorem cn_X10_reads {G : zG} {d : Nat} {h : zMem} {Q : zMem → Prop} {x1 : Int32} {x2 : Int32} (B : zg G mX10_reads d 0 [.ref 132, .int x1, .int x2] [] h (zPV Q)) : zConV G mX10_reads d [.ref 132, .int x1, .int x2] h Q := zcon0 (by decide +kernel) eX10_reads (Nat.le_of_ble_eq_true rfl) rfl B
set_option maxRecDepth 100000 in
set_option maxHeartbeats 4000000 in
theorem sg_X10_isFull_0 {G : zG} {d : Nat} {h : zMem} {Q : Int32 → zMem → Prop} {x1 : Int32} (hS : zSh2 h)  (B : (¬ x1 = 0 → (¬ x1 = (1 : Int32) → (¬ x1 = (2 : Int32) → zg G mX10_isFull (d + 1) 44 [.ref 132, .int x1] [] h (zPI Q)) ∧ (x1 = (2 : Int32) → ∃ Q4 : Int32 → zMem → Prop, zConI G mX10_fresher d [.ref 132, .int (2 : Int32)] h Q4 ∧ (∀ v7 h5, Q4 v7 h5 → zSh2 h5 ∧ (v7 = (24 : Int32) → Q (1 : Int32) h5) ∧ (¬ v7 = (24 : Int32) → zg G mX10_isFull (d + 1) 44 [.ref 132, .int x1] [] h5 (zPI Q))))) ∧ (x1 = (1 : Int32) → ∃ Q9 : Int32 → zMem → Prop, zConI G mX10_fresher d [.ref 132, .int (1 : Int32)] h Q9 ∧ (∀ v12 h10, Q9 v12 h10 → zSh2 h10 ∧ (v12 = (8 : Int32) → Q (1 : Int32) h10) ∧ (¬ v12 = (8 : Int32) → (¬ x1 = (2 : Int32) → zg G mX10_isFull (d + 1) 44 [.ref 132, .int x1] [] h10 (zPI Q)) ∧ (x1 = (2 : Int32) → ∃ Q15 : Int32 → zMem → Prop, zConI G mX10_fresher d [.ref 132, .int (2 : Int32)] h10 Q15 ∧ (∀ v18 h16, Q15 v18 h16 → zSh2 h16 ∧ (v18 = (24 : Int32) → Q (1 : Int32) h16) ∧ (¬ v18 = (24 : Int32) → zg G mX10_isFull (d + 1) 44 [.ref 132, .int x1] [] h16 (zPI Q)))))))) ∧ (x1 = 0 → ∃ Q20 : Int32 → zMem → Prop, zConI G mX10_fresher d [.ref 132, .int (0 : Int32)] h Q20 ∧ (∀ v23 h21, Q20 v23 h21 → zSh2 h21 ∧ (v23 = (6 : Int32) → Q (1 : Int32) h21) ∧ (¬ v23 = (6 : Int32) → (¬ x1 = (1 : Int32) → (¬ x1 = (2 : Int32) → zg G mX10_isFull (d + 1) 44 [.ref 132, .int x1] [] h21 (zPI Q)) ∧ (x1 = (2 : Int32) → ∃ Q27 : Int32 → zMem → Prop, zConI G mX10_fresher d [.ref 132, .int (2 : Int32)] h21 Q27 ∧ (∀ v30 h28, Q27 v30 h28 → zSh2 h28 ∧ (v30 = (24 : Int32) → Q (1 : Int32) h28) ∧ (¬ v30 = (24 : Int32) → zg G mX10_isFull (d + 1) 44 [.ref 132, .int x1] [] h28 (zPI Q))))) ∧ (x1 = (1 : Int32) → ∃ Q32 : Int32 → zMem → Prop, zConI G mX10_fresher d [.ref 132, .int (1 : Int32)] h21 Q32 ∧ (∀ v35 h33, Q32 v35 h33 → zSh2 h33 ∧ (v35 = (8 : Int32) → Q (1 : Int32) h33) ∧ (¬ v35 = (8 : Int32) → (¬ x1 = (2 : Int32) → zg G mX10_isFull (d + 1) 44 [.ref 132, .int x1] [] h33 (zPI Q)) ∧ (x1 = (2 : Int32) → ∃ Q38 : Int32 → zMem → Prop, zConI G mX10_fresher d [.ref 132, .int (2 : Int32)] h33 Q38 ∧ (∀ v41 h39, Q38 v41 h39 → zSh2 h39 ∧ (v41 = (24 : Int32) → Q (1 : Int32) h39) ∧ (¬ v41 = (24 : Int32) → zg G mX10_isFull (d + 1) 44 [.ref 132, .int x1] [] h39 (zPI Q))))))))))) : zg G mX10_isFull (d + 1) 0 [.ref 132, .int x1] [] h (zPI Q) := by
  refine z_iload_n 0 rfl rfl ?_
  refine z_if_ne 1 14 rfl (by decide) ⟨fun c1 => ?_, fun c1 => ?_⟩
  · have B := B.1 c1
    refine z_iload_n 7 rfl rfl ?_
    refine z_iconst (v := 1) 8 rfl (by decide) ?_
    refine z_icmp_ne 9 29 rfl (by decide) ⟨fun c2 => ?_, fun c2 => ?_⟩
    · have B := B.1 c2
      refine z_iload_n 15 rfl rfl ?_
      refine z_iconst (v := 2) 16 rfl (by decide) ?_
      refine z_icmp_ne 17 44 rfl (by decide) ⟨fun c3 => ?_, fun c3 => ?_⟩
      · have B := B.1 c3
        exact B
      · have B := B.2 c3
        refine z_aload_n 18 rfl rfl ?_
        refine z_iconst (v := 2) 19 rfl (by decide) ?_
        obtain ⟨Q4, K6, B⟩ := B
        refine z_cVI1 (ν := mX10_fresher) 20 rfl rfl fX10_fresher gX10_230 ⟨_, rfl, rfl⟩ (by decide) (zcl1.o hS 132 9 rfl rfl rfl) (Nat.le_of_ble_eq_true rfl) K6 (fun v7 h5 q => ?_)
        obtain ⟨hSh5, B⟩ := B v7 h5 q
        refine z_bipush (v := 24) 21 rfl (by decide) ?_
        refine z_icmp_eq 22 73 rfl (by decide) ⟨fun c8 => ?_, fun c8 => ?_⟩
        · have B := B.1 c8
          refine z_iconst (v := 1) 39 rfl (by decide) ?_
          refine z_goto 40 78 rfl (by decide) ?_
          exact z_iret 42 rfl rfl rfl ⟨rfl, rfl⟩ ⟨_, rfl, B⟩
        · have B := B.2 c8
          exact B
    · have B := B.2 c2
      refine z_aload_n 10 rfl rfl ?_
      refine z_iconst (v := 1) 11 rfl (by decide) ?_
      obtain ⟨Q9, K11, B⟩ := B
      refine z_cVI1 (ν := mX10_fresher) 12 rfl rfl fX10_fresher gX10_230 ⟨_, rfl, rfl⟩ (by decide) (zcl1.o hS 132 9 rfl rfl rfl) (Nat.le_of_ble_eq_true rfl) K11 (fun v12 h10 q => ?_)
      obtain ⟨hSh10, B⟩ := B v12 h10 q
      refine z_bipush (v := 8) 13 rfl (by decide) ?_
      refine z_icmp_eq 14 73 rfl (by decide) ⟨fun c13 => ?_, fun c13 => ?_⟩
      · have B := B.1 c13
        refine z_iconst (v := 1) 39 rfl (by decide) ?_
        refine z_goto 40 78 rfl (by decide) ?_
        exact z_iret 42 rfl rfl rfl ⟨rfl, rfl⟩ ⟨_, rfl, B⟩
      · have B := B.2 c13
        refine z_iload_n 15 rfl rfl ?_
        refine z_iconst (v := 2) 16 rfl (by decide) ?_
        refine z_icmp_ne 17 44 rfl (by decide) ⟨fun c14 => ?_, fun c14 => ?_⟩
        · have B := B.1 c14
          exact B
        · have B := B.2 c14
          refine z_aload_n 18 rfl rfl ?_
          refine z_iconst (v := 2) 19 rfl (by decide) ?_
          obtain ⟨Q15, K17, B⟩ := B
          refine z_cVI1 (ν := mX10_fresher) 20 rfl rfl fX10_fresher gX10_230 ⟨_, rfl, rfl⟩ (by decide) (zcl1.o hSh10 132 9 rfl rfl rfl) (Nat.le_of_ble_eq_true rfl) K17 (fun v18 h16 q => ?_)
          obtain ⟨hSh16, B⟩ := B v18 h16 q
          refine z_bipush (v := 24) 21 rfl (by decide) ?_
          refine z_icmp_eq 22 73 rfl (by decide) ⟨fun c19 => ?_, fun c19 => ?_⟩
          · have B := B.1 c19
            refine z_iconst (v := 1) 39 rfl (by decide) ?_
            refine z_goto 40 78 rfl (by decide) ?_
            exact z_iret 42 rfl rfl rfl ⟨rfl, rfl⟩ ⟨_, rfl, B⟩
          · have B := B.2 c19
            exact B
  · have B := B.2 c1
    refine z_aload_n 2 rfl rfl ?_
    refine z_iconst (v := 0) 3 rfl (by decide) ?_
    obtain ⟨Q20, K22, B⟩ := B
    refine z_cVI1 (ν := mX10_fresher) 4 rfl rfl fX10_fresher gX10_230 ⟨_, rfl, rfl⟩ (by decide) (zcl1.o hS 132 9 rfl rfl rfl) (Nat.le_of_ble_eq_true rfl) K22 (fun v23 h21 q => ?_)
    obtain ⟨hSh21, B⟩ := B v23 h21 q
    refine z_bipush (v := 6) 5 rfl (by decide) ?_
    refine z_icmp_eq 6 73 rfl (by decide) ⟨fun c24 => ?_, fun c24 => ?_⟩
    · have B := B.1 c24
      refine z_iconst (v := 1) 39 rfl (by decide) ?_
      refine z_goto 40 78 rfl (by decide) ?_
      exact z_iret 42 rfl rfl rfl ⟨rfl, rfl⟩ ⟨_, rfl, B⟩
    · have B := B.2 c24
      refine z_iload_n 7 rfl rfl ?_
      refine z_iconst (v := 1) 8 rfl (by decide) ?_
      refine z_icmp_ne 9 29 rfl (by decide) ⟨fun c25 => ?_, fun c25 => ?_⟩
      · have B := B.1 c25
        refine z_iload_n 15 rfl rfl ?_
        refine z_iconst (v := 2) 16 rfl (by decide) ?_
        refine z_icmp_ne 17 44 rfl (by decide) ⟨fun c26 => ?_, fun c26 => ?_⟩
        · have B := B.1 c26
          exact B
        · have B := B.2 c26
          refine z_aload_n 18 rfl rfl ?_
          refine z_iconst (v := 2) 19 rfl (by decide) ?_
          obtain ⟨Q27, K29, B⟩ := B
          refine z_cVI1 (ν := mX10_fresher) 20 rfl rfl fX10_fresher gX10_230 ⟨_, rfl, rfl⟩ (by decide) (zcl1.o hSh21 132 9 rfl rfl rfl) (Nat.le_of_ble_eq_true rfl) K29 (fun v30 h28 q => ?_)
          obtain ⟨hSh28, B⟩ := B v30 h28 q
          refine z_bipush (v := 24) 21 rfl (by decide) ?_
          refine z_icmp_eq 22 73 rfl (by decide) ⟨fun c31 => ?_, fun c31 => ?_⟩
          · have B := B.1 c31
            refine z_iconst (v := 1) 39 rfl (by decide) ?_
            refine z_goto 40 78 rfl (by decide) ?_
            exact z_iret 42 rfl rfl rfl ⟨rfl, rfl⟩ ⟨_, rfl, B⟩
          · have B := B.2 c31
            exact B
      · have B := B.2 c25
        refine z_aload_n 10 rfl rfl ?_
        refine z_iconst (v := 1) 11 rfl (by decide) ?_
        obtain ⟨Q32, K34, B⟩ := B
        refine z_cVI1 (ν := mX10_fresher) 12 rfl rfl fX10_fresher gX10_230 ⟨_, rfl, rfl⟩ (by decide) (zcl1.o hSh21 132 9 rfl rfl rfl) (Nat.le_of_ble_eq_true rfl) K34 (fun v35 h33 q => ?_)
        obtain ⟨hSh33, B⟩ := B v35 h33 q
        refine z_bipush (v := 8) 13 rfl (by decide) ?_
        refine z_icmp_eq 14 73 rfl (by decide) ⟨fun c36 => ?_, fun c36 => ?_⟩
        · have B := B.1 c36
          refine z_iconst (v := 1) 39 rfl (by decide) ?_
          refine z_goto 40 78 rfl (by decide) ?_
          exact z_iret 42 rfl rfl rfl ⟨rfl, rfl⟩ ⟨_, rfl, B⟩
        · have B := B.2 c36
          refine z_iload_n 15 rfl rfl ?_
          refine z_iconst (v := 2) 16 rfl (by decide) ?_
          refine z_icmp_ne 17 44 rfl (by decide) ⟨fun c37 => ?_, fun c37 => ?_⟩
          · have B := B.1 c37
            exact B
          · have B := B.2 c37
            refine z_aload_n 18 rfl rfl ?_
            refine z_iconst (v := 2) 19 rfl (by decide) ?_
            obtain ⟨Q38, K40, B⟩ := B
            refine z_cVI1 (ν := mX10_fresher) 20 rfl rfl fX10_fresher gX10_230 ⟨_, rfl, rfl⟩ (by decide) (zcl1.o hSh33 132 9 rfl rfl rfl) (Nat.le_of_ble_eq_true rfl) K40 (fun v41 h39 q => ?_)
            obtain ⟨hSh39, B⟩ := B v41 h39 q
            refine z_bipush (v := 24) 21 rfl (by decide) ?_
            refine z_icmp_eq 22 73 rfl (by decide) ⟨fun c42 => ?_, fun c42 => ?_⟩
            · have B := B.1 c42
              refine z_iconst (v := 1) 39 rfl (by decide) ?_
              refine z_goto 40 78 rfl (by decide) ?_
              exact z_iret 42 rfl rfl rfl ⟨rfl, rfl⟩ ⟨_, rfl, B⟩
            · have B := B.2 c42
              exact B
theorem cn_X10_isFull {G : zG} {d : Nat} {h : zMem} {Q : Int32 → zMem → Prop} {x1 : Int32} (B : zg G mX10_isFull (d + 1) 0 [.ref 132, .int x1] [] h (zPI Q)) : zConI G mX10_isFull (d + 1) [.ref 132, .int x1] h Q := zcon0 (by decide +kernel) eX10_isFull (Nat.le_of_ble_eq_true rfl) rfl B
set_option maxRecDepth 100000 in
set_option maxHeartbeats 4000000 in
theorem sg_X10_isFull_44 {G : zG} {d : Nat} {h : zMem} {Q : Int32 → zMem → Prop} {x1 : Int32} (hS : zSh2 h)  (B : (¬ x1 = (3 : Int32) → zg G mX10_isFull (d + 1) 59 [.ref 132, .int x1] [] h (zPI Q)) ∧ (x1 = (3 : Int32) → ∃ Q2 : Int32 → zMem → Prop, zConI G mX10_fresher d [.ref 132, .int (3 : Int32)] h Q2 ∧ (∀ v5 h3, Q2 v5 h3 → zSh2 h3 ∧ (v5 = (6 : Int32) → Q (1 : Int32) h3) ∧ (¬ v5 = (6 : Int32) → zg G mX10_isFull (d + 1) 59 [.ref 132, .int x1] [] h3 (zPI Q))))) : zg G mX10_isFull (d + 1) 44 [.ref 132, .int x1] [] h (zPI Q) := by
  refine z_iload_n 23 rfl rfl ?_
  refine z_iconst (v := 3) 24 rfl (by decide) ?_
  refine z_icmp_ne 25 59 rfl (by decide) ⟨fun c1 => ?_, fun c1 => ?_⟩
  · have B := B.1 c1
    exact B
  · have B := B.2 c1
    refine z_aload_n 26 rfl rfl ?_
    refine z_iconst (v := 3) 27 rfl (by decide) ?_
    obtain ⟨Q2, K4, B⟩ := B
    refine z_cVI1 (ν := mX10_fresher) 28 rfl rfl fX10_fresher gX10_230 ⟨_, rfl, rfl⟩ (by decide) (zcl1.o hS 132 9 rfl rfl rfl) (Nat.le_of_ble_eq_true rfl) K4 (fun v5 h3 q => ?_)
    obtain ⟨hSh3, B⟩ := B v5 h3 q
    refine z_bipush (v := 6) 29 rfl (by decide) ?_
    refine z_icmp_eq 30 73 rfl (by decide) ⟨fun c6 => ?_, fun c6 => ?_⟩
    · have B := B.1 c6
      refine z_iconst (v := 1) 39 rfl (by decide) ?_
      refine z_goto 40 78 rfl (by decide) ?_
      exact z_iret 42 rfl rfl rfl ⟨rfl, rfl⟩ ⟨_, rfl, B⟩
    · have B := B.2 c6
      exact B
set_option maxRecDepth 100000 in
set_option maxHeartbeats 4000000 in
theorem sg_X10_isFull_59 {G : zG} {d : Nat} {h : zMem} {Q : Int32 → zMem → Prop} {x1 : Int32} (hS : zSh2 h)  (B : (¬ x1 = (4 : Int32) → Q (0 : Int32) h) ∧ (x1 = (4 : Int32) → ∃ Q2 : Int32 → zMem → Prop, zConI G mX10_fresher d [.ref 132, .int (4 : Int32)] h Q2 ∧ (∀ v5 h3, Q2 v5 h3 → zSh2 h3 ∧ (¬ v5 = (5 : Int32) → Q (0 : Int32) h3) ∧ (v5 = (5 : Int32) → Q (1 : Int32) h3)))) : zg G mX10_isFull (d + 1) 59 [.ref 132, .int x1] [] h (zPI Q) := by
  refine z_iload_n 31 rfl rfl ?_
  refine z_iconst (v := 4) 32 rfl (by decide) ?_
  refine z_icmp_ne 33 77 rfl (by decide) ⟨fun c1 => ?_, fun c1 => ?_⟩
  · have B := B.1 c1
    refine z_iconst (v := 0) 41 rfl (by decide) ?_
    exact z_iret 42 rfl rfl rfl ⟨rfl, rfl⟩ ⟨_, rfl, B⟩
  · have B := B.2 c1
    refine z_aload_n 34 rfl rfl ?_
    refine z_iconst (v := 4) 35 rfl (by decide) ?_
    obtain ⟨Q2, K4, B⟩ := B
    refine z_cVI1 (ν := mX10_fresher) 36 rfl rfl fX10_fresher gX10_230 ⟨_, rfl, rfl⟩ (by decide) (zcl1.o hS 132 9 rfl rfl rfl) (Nat.le_of_ble_eq_true rfl) K4 (fun v5 h3 q => ?_)
    obtain ⟨hSh3, B⟩ := B v5 h3 q
    refine z_iconst (v := 5) 37 rfl (by decide) ?_
    refine z_icmp_ne 38 77 rfl (by decide) ⟨fun c6 => ?_, fun c6 => ?_⟩
    · have B := B.1 c6
      refine z_iconst (v := 0) 41 rfl (by decide) ?_
      exact z_iret 42 rfl rfl rfl ⟨rfl, rfl⟩ ⟨_, rfl, B⟩
    · have B := B.2 c6
      refine z_iconst (v := 1) 39 rfl (by decide) ?_
      refine z_goto 40 78 rfl (by decide) ?_
      exact z_iret 42 rfl rfl rfl ⟨rfl, rfl⟩ ⟨_, rfl, B⟩
