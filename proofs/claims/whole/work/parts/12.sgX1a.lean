set_option maxRecDepth 100000 in
set_option maxHeartbeats 4000000 in
theorem sg_X1_clear_0 {G : zG} {d : Nat} {h : zMem} {Q : zMem → Prop} {t : Nat}  (hS : zSh1 h t)  (B : Q (zsI (zsI h 37 6 (0 : Int32)) 37 7 (-1 : Int32))) : zg G mX1_clear d 0 [.ref 37] [] h (zPV Q) := by
  refine z_aload_n 0 rfl rfl ?_
  refine z_iconst (v := 0) 1 rfl (by decide) ?_
  refine z_putI 2 rfl lX1_35 ⟨_, _, _, rfl, rfl⟩ rfl rfl rfl (hS.1.o 37 1 rfl rfl rfl) ?_
  refine z_aload_n 3 rfl rfl ?_
  refine z_iconst (v := -1) 4 rfl (by decide) ?_
  refine z_putI 5 rfl lX1_31 ⟨_, _, _, rfl, rfl⟩ rfl rfl rfl (hS.1.o 37 1 rfl rfl rfl) ?_
  exact z_vret 6 rfl rfl ⟨rfl, rfl⟩ ⟨rfl, B⟩
theorem cn_X1_clear {G : zG} {d : Nat} {h : zMem} {Q : zMem → Prop}  (B : zg G mX1_clear d 0 [.ref 37] [] h (zPV Q)) : zConV G mX1_clear d [.ref 37] h Q := zcon0 (by decide +kernel) eX1_clear (Nat.le_of_ble_eq_true rfl) rfl B
set_option maxRecDepth 100000 in
set_option maxHeartbeats 4000000 in
theorem sg_X1_add_0 {G : zG} {d : Nat} {h : zMem} {Q : Int32 → zMem → Prop} {t : Nat} {x1 : Int32} {x2 : Int32} {x3 : Int32} {x4 : Int32} (hS : zSh1 h t)  (B : ((zI h 37 6) < (24 : Int32) → vp_in (zI h 37 6) 24 ∧ vp_in (zI (zsI h 38 (zI h 37 6).toNatClampNeg x1) 37 6) 24 ∧ vp_in (zI (zsI (zsI h 38 (zI h 37 6).toNatClampNeg x1) 39 (zI (zsI h 38 (zI h 37 6).toNatClampNeg x1) 37 6).toNatClampNeg x2) 37 6) 24 ∧ vp_in (zI (zsI (zsI (zsI h 38 (zI h 37 6).toNatClampNeg x1) 39 (zI (zsI h 38 (zI h 37 6).toNatClampNeg x1) 37 6).toNatClampNeg x2) 40 (zI (zsI (zsI h 38 (zI h 37 6).toNatClampNeg x1) 39 (zI (zsI h 38 (zI h 37 6).toNatClampNeg x1) 37 6).toNatClampNeg x2) 37 6).toNatClampNeg x3) 37 6) 24 ∧ vp_in (zI (zsI (zsI (zsI (zsI h 38 (zI h 37 6).toNatClampNeg x1) 39 (zI (zsI h 38 (zI h 37 6).toNatClampNeg x1) 37 6).toNatClampNeg x2) 40 (zI (zsI (zsI h 38 (zI h 37 6).toNatClampNeg x1) 39 (zI (zsI h 38 (zI h 37 6).toNatClampNeg x1) 37 6).toNatClampNeg x2) 37 6).toNatClampNeg x3) 41 (zI (zsI (zsI (zsI h 38 (zI h 37 6).toNatClampNeg x1) 39 (zI (zsI h 38 (zI h 37 6).toNatClampNeg x1) 37 6).toNatClampNeg x2) 40 (zI (zsI (zsI h 38 (zI h 37 6).toNatClampNeg x1) 39 (zI (zsI h 38 (zI h 37 6).toNatClampNeg x1) 37 6).toNatClampNeg x2) 37 6).toNatClampNeg x3) 37 6).toNatClampNeg (vp_nar .boolean x4)) 37 6) 24 ∧ Q ((zI (zsI (zsI (zsI (zsI (zsI (zsI h 38 (zI h 37 6).toNatClampNeg x1) 39 (zI (zsI h 38 (zI h 37 6).toNatClampNeg x1) 37 6).toNatClampNeg x2) 40 (zI (zsI (zsI h 38 (zI h 37 6).toNatClampNeg x1) 39 (zI (zsI h 38 (zI h 37 6).toNatClampNeg x1) 37 6).toNatClampNeg x2) 37 6).toNatClampNeg x3) 41 (zI (zsI (zsI (zsI h 38 (zI h 37 6).toNatClampNeg x1) 39 (zI (zsI h 38 (zI h 37 6).toNatClampNeg x1) 37 6).toNatClampNeg x2) 40 (zI (zsI (zsI h 38 (zI h 37 6).toNatClampNeg x1) 39 (zI (zsI h 38 (zI h 37 6).toNatClampNeg x1) 37 6).toNatClampNeg x2) 37 6).toNatClampNeg x3) 37 6).toNatClampNeg (vp_nar .boolean x4)) 42 (zI (zsI (zsI (zsI (zsI h 38 (zI h 37 6).toNatClampNeg x1) 39 (zI (zsI h 38 (zI h 37 6).toNatClampNeg x1) 37 6).toNatClampNeg x2) 40 (zI (zsI (zsI h 38 (zI h 37 6).toNatClampNeg x1) 39 (zI (zsI h 38 (zI h 37 6).toNatClampNeg x1) 37 6).toNatClampNeg x2) 37 6).toNatClampNeg x3) 41 (zI (zsI (zsI (zsI h 38 (zI h 37 6).toNatClampNeg x1) 39 (zI (zsI h 38 (zI h 37 6).toNatClampNeg x1) 37 6).toNatClampNeg x2) 40 (zI (zsI (zsI h 38 (zI h 37 6).toNatClampNeg x1) 39 (zI (zsI h 38 (zI h 37 6).toNatClampNeg x1) 37 6).toNatClampNeg x2) 37 6).toNatClampNeg x3) 37 6).toNatClampNeg (vp_nar .boolean x4)) 37 6).toNatClampNeg (-1 : Int32)) 37 6 ((zI (zsI (zsI (zsI (zsI (zsI h 38 (zI h 37 6).toNatClampNeg x1) 39 (zI (zsI h 38 (zI h 37 6).toNatClampNeg x1) 37 6).toNatClampNeg x2) 40 (zI (zsI (zsI h 38 (zI h 37 6).toNatClampNeg x1) 39 (zI (zsI h 38 (zI h 37 6).toNatClampNeg x1) 37 6).toNatClampNeg x2) 37 6).toNatClampNeg x3) 41 (zI (zsI (zsI (zsI h 38 (zI h 37 6).toNatClampNeg x1) 39 (zI (zsI h 38 (zI h 37 6).toNatClampNeg x1) 37 6).toNatClampNeg x2) 40 (zI (zsI (zsI h 38 (zI h 37 6).toNatClampNeg x1) 39 (zI (zsI h 38 (zI h 37 6).toNatClampNeg x1) 37 6).toNatClampNeg x2) 37 6).toNatClampNeg x3) 37 6).toNatClampNeg (vp_nar .boolean x4)) 42 (zI (zsI (zsI (zsI (zsI h 38 (zI h 37 6).toNatClampNeg x1) 39 (zI (zsI h 38 (zI h 37 6).toNatClampNeg x1) 37 6).toNatClampNeg x2) 40 (zI (zsI (zsI h 38 (zI h 37 6).toNatClampNeg x1) 39 (zI (zsI h 38 (zI h 37 6).toNatClampNeg x1) 37 6).toNatClampNeg x2) 37 6).toNatClampNeg x3) 41 (zI (zsI (zsI (zsI h 38 (zI h 37 6).toNatClampNeg x1) 39 (zI (zsI h 38 (zI h 37 6).toNatClampNeg x1) 37 6).toNatClampNeg x2) 40 (zI (zsI (zsI h 38 (zI h 37 6).toNatClampNeg x1) 39 (zI (zsI h 38 (zI h 37 6).toNatClampNeg x1) 37 6).toNatClampNeg x2) 37 6).toNatClampNeg x3) 37 6).toNatClampNeg (vp_nar .boolean x4)) 37 6).toNatClampNeg (-1 : Int32)) 37 6) + (1 : Int32))) 37 6) - (1 : Int32)) (zsI (zsI (zsI (zsI (zsI (zsI h 38 (zI h 37 6).toNatClampNeg x1) 39 (zI (zsI h 38 (zI h 37 6).toNatClampNeg x1) 37 6).toNatClampNeg x2) 40 (zI (zsI (zsI h 38 (zI h 37 6).toNatClampNeg x1) 39 (zI (zsI h 38 (zI h 37 6).toNatClampNeg x1) 37 6).toNatClampNeg x2) 37 6).toNatClampNeg x3) 41 (zI (zsI (zsI (zsI h 38 (zI h 37 6).toNatClampNeg x1) 39 (zI (zsI h 38 (zI h 37 6).toNatClampNeg x1) 37 6).toNatClampNeg x2) 40 (zI (zsI (zsI h 38 (zI h 37 6).toNatClampNeg x1) 39 (zI (zsI h 38 (zI h 37 6).toNatClampNeg x1) 37 6).toNatClampNeg x2) 37 6).toNatClampNeg x3) 37 6).toNatClampNeg (vp_nar .boolean x4)) 42 (zI (zsI (zsI (zsI (zsI h 38 (zI h 37 6).toNatClampNeg x1) 39 (zI (zsI h 38 (zI h 37 6).toNatClampNeg x1) 37 6).toNatClampNeg x2) 40 (zI (zsI (zsI h 38 (zI h 37 6).toNatClampNeg x1) 39 (zI (zsI h 38 (zI h 37 6).toNatClampNeg x1) 37 6).toNatClampNeg x2) 37 6).toNatClampNeg x3) 41 (zI (zsI (zsI (zsI h 38 (zI h 37 6).toNatClampNeg x1) 39 (zI (zsI h 38 (zI h 37 6).toNatClampNeg x1) 37 6).toNatClampNeg x2) 40 (zI (zsI (zsI h 38 (zI h 37 6).toNatClampNeg x1) 39 (zI (zsI h 38 (zI h 37 6).toNatClampNeg x1) 37 6).toNatClampNeg x2) 37 6).toNatClampNeg x3) 37 6).toNatClampNeg (vp_nar .boolean x4)) 37 6).toNatClampNeg (-1 : Int32)) 37 6 ((zI (zsI (zsI (zsI (zsI (zsI h 38 (zI h 37 6).toNatClampNeg x1) 39 (zI (zsI h 38 (zI h 37 6).toNatClampNeg x1) 37 6).toNatClampNeg x2) 40 (zI (zsI (zsI h 38 (zI h 37 6).toNatClampNeg x1) 39 (zI (zsI h 38 (zI h 37 6).toNatClampNeg x1) 37 6).toNatClampNeg x2) 37 6).toNatClampNeg x3) 41 (zI (zsI (zsI (zsI h 38 (zI h 37 6).toNatClampNeg x1) 39 (zI (zsI h 38 (zI h 37 6).toNatClampNeg x1) 37 6).toNatClampNeg x2) 40 (zI (zsI (zsI h 38 (zI h 37 6).toNatClampNeg x1) 39 (zI (zsI h 38 (zI h 37 6).toNatClampNeg x1) 37 6).toNatClampNeg x2) 37 6).toNatClampNeg x3) 37 6).toNatClampNeg (vp_nar .boolean x4)) 42 (zI (zsI (zsI (zsI (zsI h 38 (zI h 37 6).toNatClampNeg x1) 39 (zI (zsI h 38 (zI h 37 6).toNatClampNeg x1) 37 6).toNatClampNeg x2) 40 (zI (zsI (zsI h 38 (zI h 37 6).toNatClampNeg x1) 39 (zI (zsI h 38 (zI h 37 6).toNatClampNeg x1) 37 6).toNatClampNeg x2) 37 6).toNatClampNeg x3) 41 (zI (zsI (zsI (zsI h 38 (zI h 37 6).toNatClampNeg x1) 39 (zI (zsI h 38 (zI h 37 6).toNatClampNeg x1) 37 6).toNatClampNeg x2) 40 (zI (zsI (zsI h 38 (zI h 37 6).toNatClampNeg x1) 39 (zI (zsI h 38 (zI h 37 6).toNatClampNeg x1) 37 6).toNatClampNeg x2) 37 6).toNatClampNeg x3) 37 6).toNatClampNeg (vp_nar .boolean x4)) 37 6).toNatClampNeg (-1 : Int32)) 37 6) + (1 : Int32)))) ∧ (¬ (zI h 37 6) < (24 : Int32) → Q (-1 : Int32) h)) : zg G mX1_add d 0 [.ref 37, .int x1, .int x2, .int x3, .int x4] [] h (zPI Q) := by
  refine z_aload_n 0 rfl rfl ?_
  refine z_getI 1 rfl lX1_35 rfl (hS.1.o 37 1 rfl rfl rfl) ?_
  refine z_bipush (v := 24) 2 rfl (by decide) ?_
  refine z_icmp_lt 3 11 rfl (by decide) ⟨fun c1 => ?_, fun c1 => ?_⟩
  · have B := B.1 c1
    refine z_aload_n 6 rfl rfl ?_
    refine z_getR 7 rfl lX1_9 rfl (hS.1.o 37 1 rfl rfl rfl) (hS.1.r 37 0 38 rfl rfl rfl) ?_
    refine z_aload_n 8 rfl rfl ?_
    refine z_getI 9 rfl lX1_35 rfl (hS.1.o 37 1 rfl rfl rfl) ?_
    refine z_iload_n 10 rfl rfl ?_
    obtain ⟨o2, B⟩ := B
    refine z_iast 11 rfl (hS.1.o 38 100 rfl rfl rfl) (zin (hS.1.l 38 24 rfl rfl rfl) o2) ?_
    refine z_aload_n 12 rfl rfl ?_
    refine z_getR 13 rfl lX1_15 rfl (hS.1.o 37 1 rfl rfl rfl) (hS.1.r 37 1 39 rfl rfl rfl) ?_
    refine z_aload_n 14 rfl rfl ?_
    refine z_getI 15 rfl lX1_35 rfl (hS.1.o 37 1 rfl rfl rfl) ?_
    refine z_iload_n 16 rfl rfl ?_
    obtain ⟨o3, B⟩ := B
    refine z_iast 17 rfl (hS.1.o 39 100 rfl rfl rfl) (zin (hS.1.l 39 24 rfl rfl rfl) o3) ?_
    refine z_aload_n 18 rfl rfl ?_
    refine z_getR 19 rfl lX1_18 rfl (hS.1.o 37 1 rfl rfl rfl) (hS.1.r 37 2 40 rfl rfl rfl) ?_
    refine z_aload_n 20 rfl rfl ?_
    refine z_getI 21 rfl lX1_35 rfl (hS.1.o 37 1 rfl rfl rfl) ?_
    refine z_iload_n 22 rfl rfl ?_
    obtain ⟨o4, B⟩ := B
    refine z_iast 23 rfl (hS.1.o 40 100 rfl rfl rfl) (zin (hS.1.l 40 24 rfl rfl rfl) o4) ?_
    refine z_aload_n 24 rfl rfl ?_
    refine z_getR 25 rfl lX1_21 rfl (hS.1.o 37 1 rfl rfl rfl) (hS.1.r 37 3 41 rfl rfl rfl) ?_
    refine z_aload_n 26 rfl rfl ?_
    refine z_getI 27 rfl lX1_35 rfl (hS.1.o 37 1 rfl rfl rfl) ?_
    refine z_iload 28 rfl rfl ?_
    obtain ⟨o5, B⟩ := B
    refine z_zast 29 rfl (hS.1.o 41 103 rfl rfl rfl) (zin (hS.1.l 41 24 rfl rfl rfl) o5) ?_
    refine z_aload_n 30 rfl rfl ?_
    refine z_getR 31 rfl lX1_25 rfl (hS.1.o 37 1 rfl rfl rfl) (hS.1.r 37 4 42 rfl rfl rfl) ?_
    refine z_aload_n 32 rfl rfl ?_
    refine z_getI 33 rfl lX1_35 rfl (hS.1.o 37 1 rfl rfl rfl) ?_
    refine z_iconst (v := -1) 34 rfl (by decide) ?_
    obtain ⟨o6, B⟩ := B
    refine z_iast 35 rfl (hS.1.o 42 100 rfl rfl rfl) (zin (hS.1.l 42 24 rfl rfl rfl) o6) ?_
    refine z_aload_n 36 rfl rfl ?_
    refine z_dup 37 rfl rfl ?_
    refine z_getI 38 rfl lX1_35 rfl (hS.1.o 37 1 rfl rfl rfl) ?_
    refine z_iconst (v := 1) 39 rfl (by decide) ?_
    refine z_iadd 40 rfl ?_
    refine z_putI 41 rfl lX1_35 ⟨_, _, _, rfl, rfl⟩ rfl rfl rfl (hS.1.o 37 1 rfl rfl rfl) ?_
    refine z_aload_n 42 rfl rfl ?_
    refine z_getI 43 rfl lX1_35 rfl (hS.1.o 37 1 rfl rfl rfl) ?_
    refine z_iconst (v := 1) 44 rfl (by decide) ?_
    refine z_isub 45 rfl ?_
    exact z_iret 46 rfl rfl rfl ⟨rfl, rfl⟩ ⟨_, rfl, B⟩
  · have B := B.2 c1
    refine z_iconst (v := -1) 4 rfl (by decide) ?_
    exact z_iret 5 rfl rfl rfl ⟨rfl, rfl⟩ ⟨_, rfl, B⟩
theorem cn_X1_add {G : zG} {d : Nat} {h : zMem} {Q : Int32 → zMem → Prop} {x1 : Int32} {x2 : Int32} {x3 : Int32} {x4 : Int32} (B : zg G mX1_add d 0 [.ref 37, .int x1, .int x2, .int x3, .int x4] [] h (zPI Q)) : zConI G mX1_add d [.ref 37, .int x1, .int x2, .int x3, .int x4] h Q := zcon0 (by decide +kernel) eX1_add (Nat.le_of_ble_eq_true rfl) rfl B
set_option maxRecDepth 100000 in
set_option maxHeartbeats 4000000 in
theorem sg_X1_strike_0 {G : zG} {d : Nat} {h : zMem} {Q : Int32 → zMem → Prop} {t : Nat} {x1 : Int32} (hS : zSh1 h t)  (B : (x1 < 0 → Q (-1 : Int32) h) ∧ (¬ x1 < 0 → ((zI h 37 6) ≤ x1 → Q (-1 : Int32) h) ∧ (¬ (zI h 37 6) ≤ x1 → ((zI h 37 6) < (24 : Int32) → vp_in (zI h 37 6) 24 ∧ Q ((zI (zsI (zsI h 42 (zI h 37 6).toNatClampNeg x1) 37 6 ((zI (zsI h 42 (zI h 37 6).toNatClampNeg x1) 37 6) + (1 : Int32))) 37 6) - (1 : Int32)) (zsI (zsI h 42 (zI h 37 6).toNatClampNeg x1) 37 6 ((zI (zsI h 42 (zI h 37 6).toNatClampNeg x1) 37 6) + (1 : Int32)))) ∧ (¬ (zI h 37 6) < (24 : Int32) → Q (-1 : Int32) h)))) : zg G mX1_strike d 0 [.ref 37, .int x1] [] h (zPI Q) := by
  refine z_iload_n 0 rfl rfl ?_
  refine z_if_lt 1 21 rfl (by decide) ⟨fun c1 => ?_, fun c1 => ?_⟩
  · have B := B.1 c1
    refine z_iconst (v := -1) 10 rfl (by decide) ?_
    exact z_iret 11 rfl rfl rfl ⟨rfl, rfl⟩ ⟨_, rfl, B⟩
  · have B := B.2 c1
    refine z_iload_n 2 rfl rfl ?_
    refine z_aload_n 3 rfl rfl ?_
    refine z_getI 4 rfl lX1_35 rfl (hS.1.o 37 1 rfl rfl rfl) ?_
    refine z_icmp_ge 5 21 rfl (by decide) ⟨fun c2 => ?_, fun c2 => ?_⟩
    · have B := B.1 c2
      refine z_iconst (v := -1) 10 rfl (by decide) ?_
      exact z_iret 11 rfl rfl rfl ⟨rfl, rfl⟩ ⟨_, rfl, B⟩
    · have B := B.2 c2
      refine z_aload_n 6 rfl rfl ?_
      refine z_getI 7 rfl lX1_35 rfl (hS.1.o 37 1 rfl rfl rfl) ?_
      refine z_bipush (v := 24) 8 rfl (by decide) ?_
      refine z_icmp_lt 9 23 rfl (by decide) ⟨fun c3 => ?_, fun c3 => ?_⟩
      · have B := B.1 c3
        refine z_aload_n 12 rfl rfl ?_
        refine z_getR 13 rfl lX1_25 rfl (hS.1.o 37 1 rfl rfl rfl) (hS.1.r 37 4 42 rfl rfl rfl) ?_
        refine z_aload_n 14 rfl rfl ?_
        refine z_getI 15 rfl lX1_35 rfl (hS.1.o 37 1 rfl rfl rfl) ?_
        refine z_iload_n 16 rfl rfl ?_
        obtain ⟨o4, B⟩ := B
        refine z_iast 17 rfl (hS.1.o 42 100 rfl rfl rfl) (zin (hS.1.l 42 24 rfl rfl rfl) o4) ?_
        refine z_aload_n 18 rfl rfl ?_
        refine z_dup 19 rfl rfl ?_
        refine z_getI 20 rfl lX1_35 rfl (hS.1.o 37 1 rfl rfl rfl) ?_
        refine z_iconst (v := 1) 21 rfl (by decide) ?_
        refine z_iadd 22 rfl ?_
        refine z_putI 23 rfl lX1_35 ⟨_, _, _, rfl, rfl⟩ rfl rfl rfl (hS.1.o 37 1 rfl rfl rfl) ?_
        refine z_aload_n 24 rfl rfl ?_
        refine z_getI 25 rfl lX1_35 rfl (hS.1.o 37 1 rfl rfl rfl) ?_
        refine z_iconst (v := 1) 26 rfl (by decide) ?_
        refine z_isub 27 rfl ?_
        exact z_iret 28 rfl rfl rfl ⟨rfl, rfl⟩ ⟨_, rfl, B⟩
      · have B := B.2 c3
        refine z_iconst (v := -1) 10 rfl (by decide) ?_
        exact z_iret 11 rfl rfl rfl ⟨rfl, rfl⟩ ⟨_, rfl, B⟩
theorem cn_X1_strike {G : zG} {d : Nat} {h : zMem} {Q : Int32 → zMem → Prop} {x1 : Int32} (B : zg G mX1_strike d 0 [.ref 37, .int x1] [] h (zPI Q)) : zConI G mX1_strike d [.ref 37, .int x1] h Q := zcon0 (by decide +kernel) eX1_strike (Nat.le_of_ble_eq_true rfl) rfl B
set_option maxRecDepth 100000 in
set_option maxHeartbeats 4000000 in
theorem sg_X1_considered_0 {G : zG} {d : Nat} {h : zMem} {Q : Int32 → zMem → Prop} {t : Nat}  (hS : zSh1 h t)  (B : (¬ (zI h 37 7) = (-1 : Int32) → Q (zI h 37 7) h) ∧ ((zI h 37 7) = (-1 : Int32) → Q (zI h 37 6) h)) : zg G mX1_considered d 0 [.ref 37] [] h (zPI Q) := by
  refine z_aload_n 0 rfl rfl ?_
  refine z_getI 1 rfl lX1_31 rfl (hS.1.o 37 1 rfl rfl rfl) ?_
  refine z_iconst (v := -1) 2 rfl (by decide) ?_
  refine z_icmp_ne 3 15 rfl (by decide) ⟨fun c1 => ?_, fun c1 => ?_⟩
  · have B := B.1 c1
    refine z_aload_n 7 rfl rfl ?_
    refine z_getI 8 rfl lX1_31 rfl (hS.1.o 37 1 rfl rfl rfl) ?_
    exact z_iret 9 rfl rfl rfl ⟨rfl, rfl⟩ ⟨_, rfl, B⟩
  · have B := B.2 c1
    refine z_aload_n 4 rfl rfl ?_
    refine z_getI 5 rfl lX1_35 rfl (hS.1.o 37 1 rfl rfl rfl) ?_
    refine z_goto 6 19 rfl (by decide) ?_
    exact z_iret 9 rfl rfl rfl ⟨rfl, rfl⟩ ⟨_, rfl, B⟩
theorem cn_X1_considered {G : zG} {d : Nat} {h : zMem} {Q : Int32 → zMem → Prop}  (B : zg G mX1_considered d 0 [.ref 37] [] h (zPI Q)) : zConI G mX1_considered d [.ref 37] h Q := zcon0 (by decide +kernel) eX1_considered (Nat.le_of_ble_eq_true rfl) rfl B
set_option maxRecDepth 100000 in
set_option maxHeartbeats 4000000 in
theorem sg_X1_weigh_0 {G : zG} {d : Nat} {h : zMem} {Q : zMem → Prop} {t : Nat}  (hS : zSh1 h t)  (B : zg G mX1_weigh (d + 1) 2 [.ref 37, .int (0 : Int32)] [] h (zPV Q)) : zg G mX1_weigh (d + 1) 0 [.ref 37, zU] [] h (zPV Q) := by
  refine z_iconst (v := 0) 0 rfl (by decide) ?_
  refine z_istore_n 1 rfl (by decide) rfl ?_
  exact B
theorem cn_X1_weigh {G : zG} {d : Nat} {h : zMem} {Q : zMem → Prop}  (B : zg G mX1_weigh (d + 1) 0 [.ref 37, zU] [] h (zPV Q)) : zConV G mX1_weigh (d + 1) [.ref 37] h Q := zcon0 (by decide +kernel) eX1_weigh (Nat.le_of_ble_eq_true rfl) rfl B
set_option maxRecDepth 100000 in
set_option maxHeartbeats 4000000 in
theorem sg_X1_weigh_2 {G : zG} {d : Nat} {h : zMem} {Q : zMem → Prop} {t : Nat} {x1 : Int32} (hS : zSh1 h t)  (B : ((24 : Int32) ≤ x1 → ∃ Q2 : Int32 → zMem → Prop, zConI G mX1_considered d [.ref 37] h Q2 ∧ (∀ v5 h3, Q2 v5 h3 → zSh1 h3 t ∧ zg G mX1_weigh (d + 1) 28 [.ref 37, .int (v5 - (1 : Int32))] [] h3 (zPV Q))) ∧ (¬ (24 : Int32) ≤ x1 → vp_in x1 24 ∧ zg G mX1_weigh (d + 1) 2 [.ref 37, .int (x1 + 1)] [] (zsI h 43 x1.toNatClampNeg (vp_nar .boolean (0 : Int32))) (zPV Q))) : zg G mX1_weigh (d + 1) 2 [.ref 37, .int x1] [] h (zPV Q) := by
  refine z_iload_n 2 rfl rfl ?_
  refine z_bipush (v := 24) 3 rfl (by decide) ?_
  refine z_icmp_ge 4 21 rfl (by decide) ⟨fun c1 => ?_, fun c1 => ?_⟩
  · have B := B.1 c1
    refine z_aload_n 12 rfl rfl ?_
    obtain ⟨Q2, K4, B⟩ := B
    refine z_cVI0 (ν := mX1_considered) 13 rfl rfl fX1_considered gX1_38 ⟨_, rfl, rfl⟩ (by decide) (hS.1.o 37 1 rfl rfl rfl) (Nat.le_of_ble_eq_true rfl) K4 (fun v5 h3 q => ?_)
    obtain ⟨hSh3, B⟩ := B v5 h3 q
    refine z_iconst (v := 1) 14 rfl (by decide) ?_
    refine z_isub 15 rfl ?_
    refine z_istore_n 16 rfl (by decide) rfl ?_
    exact B
  · have B := B.2 c1
    refine z_aload_n 5 rfl rfl ?_
    refine z_getR 6 rfl lX1_28 rfl (hS.1.o 37 1 rfl rfl rfl) (hS.1.r 37 5 43 rfl rfl rfl) ?_
    refine z_iload_n 7 rfl rfl ?_
    refine z_iconst (v := 0) 8 rfl (by decide) ?_
    obtain ⟨o6, B⟩ := B
    refine z_zast 9 rfl (hS.1.o 43 103 rfl rfl rfl) (zin (hS.1.l 43 24 rfl rfl rfl) o6) ?_
    refine z_iinc (v := 1) 10 rfl rfl (by decide) (by decide) rfl ?_
    refine z_goto 11 2 rfl (by decide) ?_
    exact B
set_option maxRecDepth 100000 in
set_option maxHeartbeats 4000000 in
theorem sg_X1_weigh_28 {G : zG} {d : Nat} {h : zMem} {Q : zMem → Prop} {t : Nat} {x1 : Int32} (hS : zSh1 h t)  (B : (x1 < 0 → Q h) ∧ (¬ x1 < 0 → vp_in x1 24 ∧ (¬ (zI h 43 x1.toNatClampNeg) = 0 → zg G mX1_weigh (d + 1) 28 [.ref 37, .int (x1 + (-1))] [] h (zPV Q)) ∧ ((zI h 43 x1.toNatClampNeg) = 0 → ((zI h 42 x1.toNatClampNeg) = (-1 : Int32) → zg G mX1_weigh (d + 1) 28 [.ref 37, .int (x1 + (-1))] [] h (zPV Q)) ∧ (¬ (zI h 42 x1.toNatClampNeg) = (-1 : Int32) → vp_in (zI h 42 x1.toNatClampNeg) 24 ∧ zg G mX1_weigh (d + 1) 28 [.ref 37, .int (x1 + (-1))] [] (zsI h 43 (zI h 42 x1.toNatClampNeg).toNatClampNeg (vp_nar .boolean (1 : Int32))) (zPV Q))))) : zg G mX1_weigh (d + 1) 28 [.ref 37, .int x1] [] h (zPV Q) := by
  refine z_iload_n 17 rfl rfl ?_
  refine z_if_lt 18 69 rfl (by decide) ⟨fun c1 => ?_, fun c1 => ?_⟩
  · have B := B.1 c1
    exact z_vret 40 rfl rfl ⟨rfl, rfl⟩ ⟨rfl, B⟩
  · have B := B.2 c1
    refine z_aload_n 19 rfl rfl ?_
    refine z_getR 20 rfl lX1_28 rfl (hS.1.o 37 1 rfl rfl rfl) (hS.1.r 37 5 43 rfl rfl rfl) ?_
    refine z_iload_n 21 rfl rfl ?_
    obtain ⟨o2, B⟩ := B
    refine z_zald 22 rfl (hS.1.o 43 103 rfl rfl rfl) (zin (hS.1.l 43 24 rfl rfl rfl) o2) ?_
    refine z_if_ne 23 63 rfl (by decide) ⟨fun c3 => ?_, fun c3 => ?_⟩
    · have B := B.1 c3
      refine z_iinc (v := -1) 38 rfl rfl (by decide) (by decide) rfl ?_
      refine z_goto 39 28 rfl (by decide) ?_
      exact B
    · have B := B.2 c3
      refine z_aload_n 24 rfl rfl ?_
      refine z_getR 25 rfl lX1_25 rfl (hS.1.o 37 1 rfl rfl rfl) (hS.1.r 37 4 42 rfl rfl rfl) ?_
      refine z_iload_n 26 rfl rfl ?_
      refine z_iald 27 rfl (hS.1.o 42 100 rfl rfl rfl) (zin (hS.1.l 42 24 rfl rfl rfl) o2) ?_
      refine z_iconst (v := -1) 28 rfl (by decide) ?_
      refine z_icmp_eq 29 63 rfl (by decide) ⟨fun c4 => ?_, fun c4 => ?_⟩
      · have B := B.1 c4
        refine z_iinc (v := -1) 38 rfl rfl (by decide) (by decide) rfl ?_
        refine z_goto 39 28 rfl (by decide) ?_
        exact B
      · have B := B.2 c4
        refine z_aload_n 30 rfl rfl ?_
        refine z_getR 31 rfl lX1_28 rfl (hS.1.o 37 1 rfl rfl rfl) (hS.1.r 37 5 43 rfl rfl rfl) ?_
        refine z_aload_n 32 rfl rfl ?_
        refine z_getR 33 rfl lX1_25 rfl (hS.1.o 37 1 rfl rfl rfl) (hS.1.r 37 4 42 rfl rfl rfl) ?_
        refine z_iload_n 34 rfl rfl ?_
        refine z_iald 35 rfl (hS.1.o 42 100 rfl rfl rfl) (zin (hS.1.l 42 24 rfl rfl rfl) o2) ?_
        refine z_iconst (v := 1) 36 rfl (by decide) ?_
        obtain ⟨o5, B⟩ := B
        refine z_zast 37 rfl (hS.1.o 43 103 rfl rfl rfl) (zin (hS.1.l 43 24 rfl rfl rfl) o5) ?_
        refine z_iinc (v := -1) 38 rfl rfl (by decide) (by decide) rfl ?_
        refine z_goto 39 28 rfl (by decide) ?_
        exact B
set_option maxRecDepth 100000 in
set_option maxHeartbeats 4000000 in
theorem sg_X1_counts_0 {G : zG} {d : Nat} {h : zMem} {Q : Int32 → zMem → Prop} {t : Nat} {x1 : Int32} (hS : zSh1 h t)  (B : vp_in x1 24 ∧ (¬ (zI h 43 x1.toNatClampNeg) = 0 → Q (0 : Int32) h) ∧ ((zI h 43 x1.toNatClampNeg) = 0 → (¬ (zI h 42 x1.toNatClampNeg) = (-1 : Int32) → Q (0 : Int32) h) ∧ ((zI h 42 x1.toNatClampNeg) = (-1 : Int32) → Q (1 : Int32) h))) : zg G mX1_counts d 0 [.ref 37, .int x1] [] h (zPI Q) := by
  refine z_aload_n 0 rfl rfl ?_
  refine z_getR 1 rfl lX1_28 rfl (hS.1.o 37 1 rfl rfl rfl) (hS.1.r 37 5 43 rfl rfl rfl) ?_
  refine z_iload_n 2 rfl rfl ?_
  obtain ⟨o1, B⟩ := B
  refine z_zald 3 rfl (hS.1.o 43 103 rfl rfl rfl) (zin (hS.1.l 43 24 rfl rfl rfl) o1) ?_
  refine z_if_ne 4 23 rfl (by decide) ⟨fun c2 => ?_, fun c2 => ?_⟩
  · have B := B.1 c2
    refine z_iconst (v := 0) 13 rfl (by decide) ?_
    exact z_iret 14 rfl rfl rfl ⟨rfl, rfl⟩ ⟨_, rfl, B⟩
  · have B := B.2 c2
    refine z_aload_n 5 rfl rfl ?_
    refine z_getR 6 rfl lX1_25 rfl (hS.1.o 37 1 rfl rfl rfl) (hS.1.r 37 4 42 rfl rfl rfl) ?_
    refine z_iload_n 7 rfl rfl ?_
    refine z_iald 8 rfl (hS.1.o 42 100 rfl rfl rfl) (zin (hS.1.l 42 24 rfl rfl rfl) o1) ?_
    refine z_iconst (v := -1) 9 rfl (by decide) ?_
    refine z_icmp_ne 10 23 rfl (by decide) ⟨fun c3 => ?_, fun c3 => ?_⟩
    · have B := B.1 c3
      refine z_iconst (v := 0) 13 rfl (by decide) ?_
      exact z_iret 14 rfl rfl rfl ⟨rfl, rfl⟩ ⟨_, rfl, B⟩
    · have B := B.2 c3
      refine z_iconst (v := 1) 11 rfl (by decide) ?_
      refine z_goto 12 24 rfl (by decide) ?_
      exact z_iret 14 rfl rfl rfl ⟨rfl, rfl⟩ ⟨_, rfl, B⟩
theorem cn_X1_counts {G : zG} {d : Nat} {h : zMem} {Q : Int32 → zMem → Prop} {x1 : Int32} (B : zg G mX1_counts d 0 [.ref 37, .int x1] [] h (zPI Q)) : zConI G mX1_counts d [.ref 37, .int x1] h Q := zcon0 (by decide +kernel) eX1_counts (Nat.le_of_ble_eq_true rfl) rfl B
set_option maxRecDepth 100000 in
set_option maxHeartbeats 4000000 in
theorem sg_X1_lastMorning_0 {G : zG} {d : Nat} {h : zMem} {Q : Int32 → zMem → Prop} {t : Nat}  (hS : zSh1 h t)  (B : zg G mX1_lastMorning (d + 1) 4 [.ref 37, .int (0 : Int32), .int (0 : Int32)] [] h (zPI Q)) : zg G mX1_lastMorning (d + 1) 0 [.ref 37, zU, zU] [] h (zPI Q) := by
  refine z_iconst (v := 0) 0 rfl (by decide) ?_
  refine z_istore_n 1 rfl (by decide) rfl ?_
  refine z_iconst (v := 0) 2 rfl (by decide) ?_
  refine z_istore_n 3 rfl (by decide) rfl ?_
  exact B
theorem cn_X1_lastMorning {G : zG} {d : Nat} {h : zMem} {Q : Int32 → zMem → Prop}  (B : zg G mX1_lastMorning (d + 1) 0 [.ref 37, zU, zU] [] h (zPI Q)) : zConI G mX1_lastMorning (d + 1) [.ref 37] h Q := zcon0 (by decide +kernel) eX1_lastMorning (Nat.le_of_ble_eq_true rfl) rfl B
set_option maxRecDepth 100000 in
set_option maxHeartbeats 4000000 in
theorem sg_X1_lastMorning_4 {G : zG} {d : Nat} {h : zMem} {Q : Int32 → zMem → Prop} {t : Nat} {x1 : Int32} {x2 : Int32} (hS : zSh1 h t)  (B : ∃ Q1 : Int32 → zMem → Prop, zConI G mX1_considered d [.ref 37] h Q1 ∧ (∀ v4 h2, Q1 v4 h2 → zSh1 h2 t ∧ (v4 ≤ x2 → Q x1 h2) ∧ (¬ v4 ≤ x2 → ∃ Q6 : Int32 → zMem → Prop, zConI G mX1_counts d [.ref 37, .int x2] h2 Q6 ∧ (∀ v9 h7, Q6 v9 h7 → zSh1 h7 t ∧ (v9 = 0 → zg G mX1_lastMorning (d + 1) 4 [.ref 37, .int x1, .int (x2 + 1)] [] h7 (zPI Q)) ∧ (¬ v9 = 0 → vp_in x2 24 ∧ zg G mX1_lastMorning (d + 1) 4 [.ref 37, .int (if x1 < (zI h7 38 x2.toNatClampNeg) then (zI h7 38 x2.toNatClampNeg) else x1), .int (x2 + 1)] [] h7 (zPI Q)))))) : zg G mX1_lastMorning (d + 1) 4 [.ref 37, .int x1, .int x2] [] h (zPI Q) := by
  refine z_iload_n 4 rfl rfl ?_
  refine z_aload_n 5 rfl rfl ?_
  obtain ⟨Q1, K3, B⟩ := B
  refine z_cVI0 (ν := mX1_considered) 6 rfl rfl fX1_considered gX1_38 ⟨_, rfl, rfl⟩ (by decide) (hS.1.o 37 1 rfl rfl rfl) (Nat.le_of_ble_eq_true rfl) K3 (fun v4 h2 q => ?_)
  obtain ⟨hSh2, B⟩ := B v4 h2 q
  refine z_icmp_ge 7 37 rfl (by decide) ⟨fun c5 => ?_, fun c5 => ?_⟩
  · have B := B.1 c5
    refine z_iload_n 21 rfl rfl ?_
    exact z_iret 22 rfl rfl rfl ⟨rfl, rfl⟩ ⟨_, rfl, B⟩
  · have B := B.2 c5
    refine z_aload_n 8 rfl rfl ?_
    refine z_iload_n 9 rfl rfl ?_
    obtain ⟨Q6, K8, B⟩ := B
    refine z_cVI1 (ν := mX1_counts) 10 rfl rfl fX1_counts gX1_42 ⟨_, rfl, rfl⟩ (by decide) (hSh2.1.o 37 1 rfl rfl rfl) (Nat.le_of_ble_eq_true rfl) K8 (fun v9 h7 q => ?_)
    obtain ⟨hSh7, B⟩ := B v9 h7 q
    refine z_if_eq 11 31 rfl (by decide) ⟨fun c10 => ?_, fun c10 => ?_⟩
    · have B := B.1 c10
      refine z_iinc (v := 1) 19 rfl rfl (by decide) (by decide) rfl ?_
      refine z_goto 20 4 rfl (by decide) ?_
      exact B
    · have B := B.2 c10
      refine z_iload_n 12 rfl rfl ?_
      refine z_aload_n 13 rfl rfl ?_
      refine z_getR 14 rfl lX1_9 rfl (hSh7.1.o 37 1 rfl rfl rfl) (hSh7.1.r 37 0 38 rfl rfl rfl) ?_
      refine z_iload_n 15 rfl rfl ?_
      obtain ⟨o11, B⟩ := B
      refine z_iald 16 rfl (hSh7.1.o 38 100 rfl rfl rfl) (zin (hSh7.1.l 38 24 rfl rfl rfl) o11) ?_
      refine z_mmax 17 rfl rfl gmX1_46 (Nat.le_of_ble_eq_true rfl) ?_
      refine z_istore_n 18 rfl (by decide) rfl ?_
      refine z_iinc (v := 1) 19 rfl rfl (by decide) (by decide) rfl ?_
      refine z_goto 20 4 rfl (by decide) ?_
      exact B
set_option maxRecDepth 100000 in
set_option maxHeartbeats 4000000 in
theorem sg_X1_allow_0 {G : zG} {d : Nat} {h : zMem} {Q : Int32 → zMem → Prop} {t : Nat} {x1 : Int32} {a2 : Nat} (hS : zSh1 h t)  (B : zg G mX1_allow (d + 1) 2 [.ref 37, .int x1, .ref a2, .int (0 : Int32)] [] h (zPI Q)) : zg G mX1_allow (d + 1) 0 [.ref 37, .int x1, .ref a2, zU] [] h (zPI Q) := by
  refine z_iconst (v := 0) 0 rfl (by decide) ?_
  refine z_istore_n 1 rfl (by decide) rfl ?_
  exact B
theorem cn_X1_allow {G : zG} {d : Nat} {h : zMem} {Q : Int32 → zMem → Prop} {x1 : Int32} {a2 : Nat} (B : zg G mX1_allow (d + 1) 0 [.ref 37, .int x1, .ref a2, zU] [] h (zPI Q)) : zConI G mX1_allow (d + 1) [.ref 37, .int x1, .ref a2] h Q := zcon0 (by decide +kernel) eX1_allow (Nat.le_of_ble_eq_true rfl) rfl B
set_option maxRecDepth 100000 in
set_option maxHeartbeats 4000000 in
theorem sg_X1_allow_2 {G : zG} {d : Nat} {h : zMem} {Q : Int32 → zMem → Prop} {t : Nat} {x1 : Int32} {a2 : Nat} {x3 : Int32} (hS : zSh1 h t)  (B : ∃ Q1 : Int32 → zMem → Prop, zConI G mX1_considered d [.ref 37] h Q1 ∧ (∀ v4 h2, Q1 v4 h2 → zSh1 h2 t ∧ (v4 ≤ x3 → Q (1 : Int32) h2) ∧ (¬ v4 ≤ x3 → ∃ Q6 : Int32 → zMem → Prop, zConI G mX1_counts d [.ref 37, .int x3] h2 Q6 ∧ (∀ v9 h7, Q6 v9 h7 → zSh1 h7 t ∧ (v9 = 0 → zg G mX1_allow (d + 1) 2 [.ref 37, .int x1, .ref a2, .int (x3 + 1)] [] h7 (zPI Q)) ∧ (¬ v9 = 0 → vp_in x3 24 ∧ (¬ (zI h7 38 x3.toNatClampNeg) = x1 → zg G mX1_allow (d + 1) 2 [.ref 37, .int x1, .ref a2, .int (x3 + 1)] [] h7 (zPI Q)) ∧ ((zI h7 38 x3.toNatClampNeg) = x1 → zO h7 a2 100 ∧ vp_in (zI h7 39 x3.toNatClampNeg) (zLen h7 a2) ∧ (¬ (zI h7 a2 (zI h7 39 x3.toNatClampNeg).toNatClampNeg) = (zI h7 40 x3.toNatClampNeg) → ((0 : Int32) = (zI h7 41 x3.toNatClampNeg) → zg G mX1_allow (d + 1) 2 [.ref 37, .int x1, .ref a2, .int (x3 + 1)] [] h7 (zPI Q)) ∧ (¬ (0 : Int32) = (zI h7 41 x3.toNatClampNeg) → Q (0 : Int32) h7)) ∧ ((zI h7 a2 (zI h7 39 x3.toNatClampNeg).toNatClampNeg) = (zI h7 40 x3.toNatClampNeg) → ((1 : Int32) = (zI h7 41 x3.toNatClampNeg) → zg G mX1_allow (d + 1) 2 [.ref 37, .int x1, .ref a2, .int (x3 + 1)] [] h7 (zPI Q)) ∧ (¬ (1 : Int32) = (zI h7 41 x3.toNatClampNeg) → Q (0 : Int32) h7)))))))) : zg G mX1_allow (d + 1) 2 [.ref 37, .int x1, .ref a2, .int x3] [] h (zPI Q) := by
  refine z_iload_n 2 rfl rfl ?_
  refine z_aload_n 3 rfl rfl ?_
  obtain ⟨Q1, K3, B⟩ := B
  refine z_cVI0 (ν := mX1_considered) 4 rfl rfl fX1_considered gX1_38 ⟨_, rfl, rfl⟩ (by decide) (hS.1.o 37 1 rfl rfl rfl) (Nat.le_of_ble_eq_true rfl) K3 (fun v4 h2 q => ?_)
  obtain ⟨hSh2, B⟩ := B v4 h2 q
  refine z_icmp_ge 5 67 rfl (by decide) ⟨fun c5 => ?_, fun c5 => ?_⟩
  · have B := B.1 c5
    refine z_iconst (v := 1) 39 rfl (by decide) ?_
    exact z_iret 40 rfl rfl rfl ⟨rfl, rfl⟩ ⟨_, rfl, B⟩
  · have B := B.2 c5
    refine z_aload_n 6 rfl rfl ?_
    refine z_iload_n 7 rfl rfl ?_
    obtain ⟨Q6, K8, B⟩ := B
    refine z_cVI1 (ν := mX1_counts) 8 rfl rfl fX1_counts gX1_42 ⟨_, rfl, rfl⟩ (by decide) (hSh2.1.o 37 1 rfl rfl rfl) (Nat.le_of_ble_eq_true rfl) K8 (fun v9 h7 q => ?_)
    obtain ⟨hSh7, B⟩ := B v9 h7 q
    refine z_if_eq 9 61 rfl (by decide) ⟨fun c10 => ?_, fun c10 => ?_⟩
    · have B := B.1 c10
      refine z_iinc (v := 1) 37 rfl rfl (by decide) (by decide) rfl ?_
      refine z_goto 38 2 rfl (by decide) ?_
      exact B
    · have B := B.2 c10
      refine z_aload_n 10 rfl rfl ?_
      refine z_getR 11 rfl lX1_9 rfl (hSh7.1.o 37 1 rfl rfl rfl) (hSh7.1.r 37 0 38 rfl rfl rfl) ?_
      refine z_iload_n 12 rfl rfl ?_
      obtain ⟨o11, B⟩ := B
      refine z_iald 13 rfl (hSh7.1.o 38 100 rfl rfl rfl) (zin (hSh7.1.l 38 24 rfl rfl rfl) o11) ?_
      refine z_iload_n 14 rfl rfl ?_
      refine z_icmp_ne 15 61 rfl (by decide) ⟨fun c12 => ?_, fun c12 => ?_⟩
      · have B := B.1 c12
        refine z_iinc (v := 1) 37 rfl rfl (by decide) (by decide) rfl ?_
        refine z_goto 38 2 rfl (by decide) ?_
        exact B
      · have B := B.2 c12
        refine z_aload_n 16 rfl rfl ?_
        refine z_aload_n 17 rfl rfl ?_
        refine z_getR 18 rfl lX1_15 rfl (hSh7.1.o 37 1 rfl rfl rfl) (hSh7.1.r 37 1 39 rfl rfl rfl) ?_
        refine z_iload_n 19 rfl rfl ?_
        refine z_iald 20 rfl (hSh7.1.o 39 100 rfl rfl rfl) (zin (hSh7.1.l 39 24 rfl rfl rfl) o11) ?_
        obtain ⟨o13, B⟩ := B
        obtain ⟨o14, B⟩ := B
        refine z_iald 21 rfl o13 o14 ?_
        refine z_aload_n 22 rfl rfl ?_
        refine z_getR 23 rfl lX1_18 rfl (hSh7.1.o 37 1 rfl rfl rfl) (hSh7.1.r 37 2 40 rfl rfl rfl) ?_
        refine z_iload_n 24 rfl rfl ?_
        refine z_iald 25 rfl (hSh7.1.o 40 100 rfl rfl rfl) (zin (hSh7.1.l 40 24 rfl rfl rfl) o11) ?_
        refine z_icmp_ne 26 49 rfl (by decide) ⟨fun c15 => ?_, fun c15 => ?_⟩
        · have B := B.1 c15
          refine z_iconst (v := 0) 29 rfl (by decide) ?_
          refine z_aload_n 30 rfl rfl ?_
          refine z_getR 31 rfl lX1_21 rfl (hSh7.1.o 37 1 rfl rfl rfl) (hSh7.1.r 37 3 41 rfl rfl rfl) ?_
          refine z_iload_n 32 rfl rfl ?_
          refine z_zald 33 rfl (hSh7.1.o 41 103 rfl rfl rfl) (zin (hSh7.1.l 41 24 rfl rfl rfl) o11) ?_
          refine z_icmp_eq 34 61 rfl (by decide) ⟨fun c16 => ?_, fun c16 => ?_⟩
          · have B := B.1 c16
            refine z_iinc (v := 1) 37 rfl rfl (by decide) (by decide) rfl ?_
            refine z_goto 38 2 rfl (by decide) ?_
            exact B
          · have B := B.2 c16
            refine z_iconst (v := 0) 35 rfl (by decide) ?_
            exact z_iret 36 rfl rfl rfl ⟨rfl, rfl⟩ ⟨_, rfl, B⟩
        · have B := B.2 c15
          refine z_iconst (v := 1) 27 rfl (by decide) ?_
          refine z_goto 28 50 rfl (by decide) ?_
          refine z_aload_n 30 rfl rfl ?_
          refine z_getR 31 rfl lX1_21 rfl (hSh7.1.o 37 1 rfl rfl rfl) (hSh7.1.r 37 3 41 rfl rfl rfl) ?_
          refine z_iload_n 32 rfl rfl ?_
          refine z_zald 33 rfl (hSh7.1.o 41 103 rfl rfl rfl) (zin (hSh7.1.l 41 24 rfl rfl rfl) o11) ?_
          refine z_icmp_eq 34 61 rfl (by decide) ⟨fun c17 => ?_, fun c17 => ?_⟩
          · have B := B.1 c17
            refine z_iinc (v := 1) 37 rfl rfl (by decide) (by decide) rfl ?_
            refine z_goto 38 2 rfl (by decide) ?_
            exact B
          · have B := B.2 c17
            refine z_iconst (v := 0) 35 rfl (by decide) ?_
            exact z_iret 36 rfl rfl rfl ⟨rfl, rfl⟩ ⟨_, rfl, B⟩
