set_option maxRecDepth 100000 in
set_option maxHeartbeats 4000000 in
theorem sg_J9_abs_067f4_0 {G : zG} {d : Nat} {h : zMem} {Q : Int64 → zMem → Prop} {y0 : Int64} (B : (0 ≤ (lg_cmp y0 (0 : Int64)) → Q y0 h) ∧ (¬ 0 ≤ (lg_cmp y0 (0 : Int64)) → Q (-y0) h)) : zg G mJ9_abs_067f4 d 0 [.long y0, zU] [] h (zPL Q) := by
  refine z_lload_n 0 rfl rfl ?_
  refine z_lconst (v := 0) 1 rfl (by decide) ?_
  refine z_lcmp 2 rfl ?_
  refine z_if_ge 3 11 rfl (by decide) ⟨fun c1 => ?_, fun c1 => ?_⟩
  · have B := B.1 c1
    refine z_lload_n 7 rfl rfl ?_
    exact z_lret 8 rfl rfl ⟨rfl, rfl⟩ ⟨_, rfl, B⟩
  · have B := B.2 c1
    refine z_lload_n 4 rfl rfl ?_
    refine z_lneg 5 rfl ?_
    refine z_goto 6 12 rfl (by decide) ?_
    exact z_lret 8 rfl rfl ⟨rfl, rfl⟩ ⟨_, rfl, B⟩
theorem cn_J9_abs_067f4 {G : zG} {d : Nat} {h : zMem} {Q : Int64 → zMem → Prop} {y0 : Int64} (B : zg G mJ9_abs_067f4 d 0 [.long y0, zU] [] h (zPL Q)) : zConL G mJ9_abs_067f4 d [.long y0] h Q := zcon0 (by decide +kernel) eJ9_abs_067f4 (Nat.le_of_ble_eq_true rfl) rfl B
set_option maxRecDepth 100000 in
set_option maxHeartbeats 4000000 in
theorem sg_J9_max_7cf53_0 {G : zG} {d : Nat} {h : zMem} {Q : Int32 → zMem → Prop} {x0 : Int32} {x1 : Int32} (B : (x0 < x1 → Q x1 h) ∧ (¬ x0 < x1 → Q x0 h)) : zg G mJ9_max_7cf53 d 0 [.int x0, .int x1] [] h (zPI Q) := by
  refine z_iload_n 0 rfl rfl ?_
  refine z_iload_n 1 rfl rfl ?_
  refine z_icmp_lt 2 9 rfl (by decide) ⟨fun c1 => ?_, fun c1 => ?_⟩
  · have B := B.1 c1
    refine z_iload_n 5 rfl rfl ?_
    exact z_iret 6 rfl rfl rfl ⟨rfl, rfl⟩ ⟨_, rfl, B⟩
  · have B := B.2 c1
    refine z_iload_n 3 rfl rfl ?_
    refine z_goto 4 10 rfl (by decide) ?_
    exact z_iret 6 rfl rfl rfl ⟨rfl, rfl⟩ ⟨_, rfl, B⟩
theorem cn_J9_max_7cf53 {G : zG} {d : Nat} {h : zMem} {Q : Int32 → zMem → Prop} {x0 : Int32} {x1 : Int32} (B : zg G mJ9_max_7cf53 d 0 [.int x0, .int x1] [] h (zPI Q)) : zConI G mJ9_max_7cf53 d [.int x0, .int x1] h Q := zcon0 (by decide +kernel) eJ9_max_7cf53 (Nat.le_of_ble_eq_true rfl) rfl B
set_option maxRecDepth 100000 in
set_option maxHeartbeats 4000000 in
theorem sg_J9_max_f86c9_0 {G : zG} {d : Nat} {h : zMem} {Q : Int64 → zMem → Prop} {y0 : Int64} {y2 : Int64} (B : ((lg_cmp y0 y2) < 0 → Q y2 h) ∧ (¬ (lg_cmp y0 y2) < 0 → Q y0 h)) : zg G mJ9_max_f86c9 d 0 [.long y0, zU, .long y2, zU] [] h (zPL Q) := by
  refine z_lload_n 0 rfl rfl ?_
  refine z_lload_n 1 rfl rfl ?_
  refine z_lcmp 2 rfl ?_
  refine z_if_lt 3 10 rfl (by decide) ⟨fun c1 => ?_, fun c1 => ?_⟩
  · have B := B.1 c1
    refine z_lload_n 6 rfl rfl ?_
    exact z_lret 7 rfl rfl ⟨rfl, rfl⟩ ⟨_, rfl, B⟩
  · have B := B.2 c1
    refine z_lload_n 4 rfl rfl ?_
    refine z_goto 5 11 rfl (by decide) ?_
    exact z_lret 7 rfl rfl ⟨rfl, rfl⟩ ⟨_, rfl, B⟩
theorem cn_J9_max_f86c9 {G : zG} {d : Nat} {h : zMem} {Q : Int64 → zMem → Prop} {y0 : Int64} {y2 : Int64} (B : zg G mJ9_max_f86c9 d 0 [.long y0, zU, .long y2, zU] [] h (zPL Q)) : zConL G mJ9_max_f86c9 d [.long y0, .long y2] h Q := zcon0 (by decide +kernel) eJ9_max_f86c9 (Nat.le_of_ble_eq_true rfl) rfl B
set_option maxRecDepth 100000 in
set_option maxHeartbeats 4000000 in
theorem sg_J9_min_7cf53_0 {G : zG} {d : Nat} {h : zMem} {Q : Int32 → zMem → Prop} {x0 : Int32} {x1 : Int32} (B : (x1 < x0 → Q x1 h) ∧ (¬ x1 < x0 → Q x0 h)) : zg G mJ9_min_7cf53 d 0 [.int x0, .int x1] [] h (zPI Q) := by
  refine z_iload_n 0 rfl rfl ?_
  refine z_iload_n 1 rfl rfl ?_
  refine z_icmp_gt 2 9 rfl (by decide) ⟨fun c1 => ?_, fun c1 => ?_⟩
  · have B := B.1 c1
    refine z_iload_n 5 rfl rfl ?_
    exact z_iret 6 rfl rfl rfl ⟨rfl, rfl⟩ ⟨_, rfl, B⟩
  · have B := B.2 c1
    refine z_iload_n 3 rfl rfl ?_
    refine z_goto 4 10 rfl (by decide) ?_
    exact z_iret 6 rfl rfl rfl ⟨rfl, rfl⟩ ⟨_, rfl, B⟩
theorem cn_J9_min_7cf53 {G : zG} {d : Nat} {h : zMem} {Q : Int32 → zMem → Prop} {x0 : Int32} {x1 : Int32} (B : zg G mJ9_min_7cf53 d 0 [.int x0, .int x1] [] h (zPI Q)) : zConI G mJ9_min_7cf53 d [.int x0, .int x1] h Q := zcon0 (by decide +kernel) eJ9_min_7cf53 (Nat.le_of_ble_eq_true rfl) rfl B
set_option maxRecDepth 100000 in
set_option maxHeartbeats 4000000 in
theorem sg_J9_min_f86c9_0 {G : zG} {d : Nat} {h : zMem} {Q : Int64 → zMem → Prop} {y0 : Int64} {y2 : Int64} (B : (0 < (lg_cmp y0 y2) → Q y2 h) ∧ (¬ 0 < (lg_cmp y0 y2) → Q y0 h)) : zg G mJ9_min_f86c9 d 0 [.long y0, zU, .long y2, zU] [] h (zPL Q) := by
  refine z_lload_n 0 rfl rfl ?_
  refine z_lload_n 1 rfl rfl ?_
  refine z_lcmp 2 rfl ?_
  refine z_if_gt 3 10 rfl (by decide) ⟨fun c1 => ?_, fun c1 => ?_⟩
  · have B := B.1 c1
    refine z_lload_n 6 rfl rfl ?_
    exact z_lret 7 rfl rfl ⟨rfl, rfl⟩ ⟨_, rfl, B⟩
  · have B := B.2 c1
    refine z_lload_n 4 rfl rfl ?_
    refine z_goto 5 11 rfl (by decide) ?_
    exact z_lret 7 rfl rfl ⟨rfl, rfl⟩ ⟨_, rfl, B⟩
theorem cn_J9_min_f86c9 {G : zG} {d : Nat} {h : zMem} {Q : Int64 → zMem → Prop} {y0 : Int64} {y2 : Int64} (B : zg G mJ9_min_f86c9 d 0 [.long y0, zU, .long y2, zU] [] h (zPL Q)) : zConL G mJ9_min_f86c9 d [.long y0, .long y2] h Q := zcon0 (by decide +kernel) eJ9_min_f86c9 (Nat.le_of_ble_eq_true rfl) rfl B
