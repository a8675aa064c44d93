set_option maxRecDepth 100000 in
set_option maxHeartbeats 4000000 in
theorem sg_X9_placeTo_0 {G : zG} {d : Nat} {h : zMem} {Q : Int32 → zMem → Prop} {t : Nat} {x1 : Int32} {x2 : Int32} (hS : zSh1 h t)  (B : ∃ Q1 : Int32 → zMem → Prop, zConI G mX9_has d [.ref 0, .int (3 : Int32), .int x1] h Q1 ∧ (∀ v4 h2, Q1 v4 h2 → zSh1 h2 t ∧ (v4 = 0 → Q (-1 : Int32) h2) ∧ (¬ v4 = 0 → (x2 < 0 → Q (-1 : Int32) h2) ∧ (¬ x2 < 0 → (x2 ≤ (1 : Int32) → zg G mX9_placeTo (d + 1) 28 [.ref 0, .int x1, .int x2, .int (0 : Int32), .int (-1 : Int32), .int (0 : Int32), zU] [] h2 (zPI Q)) ∧ (¬ x2 ≤ (1 : Int32) → Q (-1 : Int32) h2))))) : zg G mX9_placeTo (d + 1) 0 [.ref 0, .int x1, .int x2, zU, zU, zU, zU] [] h (zPI Q) := by
  refine z_aload_n 0 rfl rfl ?_
  refine z_iconst (v := 3) 1 rfl (by decide) ?_
  refine z_iload_n 2 rfl rfl ?_
  obtain ⟨Q1, K3, B⟩ := B
  refine z_cVI2 (ν := mX9_has) 3 rfl rfl fX9_has gX9_117 ⟨_, rfl, rfl⟩ (by decide) (hS.1.o 0 8 rfl rfl rfl) (Nat.le_of_ble_eq_true rfl) K3 (fun v4 h2 q => ?_)
  obtain ⟨hSh2, B⟩ := B v4 h2 q
  refine z_if_eq 4 18 rfl (by decide) ⟨fun c5 => ?_, fun c5 => ?_⟩
  · have B := B.1 c5
    refine z_iconst (v := -1) 10 rfl (by decide) ?_
    exact z_iret 11 rfl rfl rfl ⟨rfl, rfl⟩ ⟨_, rfl, B⟩
  · have B := B.2 c5
    refine z_iload_n 5 rfl rfl ?_
    refine z_if_lt 6 18 rfl (by decide) ⟨fun c6 => ?_, fun c6 => ?_⟩
    · have B := B.1 c6
      refine z_iconst (v := -1) 10 rfl (by decide) ?_
      exact z_iret 11 rfl rfl rfl ⟨rfl, rfl⟩ ⟨_, rfl, B⟩
    · have B := B.2 c6
      refine z_iload_n 7 rfl rfl ?_
      refine z_iconst (v := 1) 8 rfl (by decide) ?_
      refine z_icmp_le 9 20 rfl (by decide) ⟨fun c7 => ?_, fun c7 => ?_⟩
      · have B := B.1 c7
        refine z_iconst (v := 0) 12 rfl (by decide) ?_
        refine z_istore_n 13 rfl (by decide) rfl ?_
        refine z_iconst (v := -1) 14 rfl (by decide) ?_
        refine z_istore 15 rfl (by decide) rfl ?_
        refine z_iconst (v := 0) 16 rfl (by decide) ?_
        refine z_istore 17 rfl (by decide) rfl ?_
        exact B
      · have B := B.2 c7
        refine z_iconst (v := -1) 10 rfl (by decide) ?_
        exact z_iret 11 rfl rfl rfl ⟨rfl, rfl⟩ ⟨_, rfl, B⟩
theorem cn_X9_placeTo {G : zG} {d : Nat} {h : zMem} {Q : Int32 → zMem → Prop} {x1 : Int32} {x2 : Int32} (B : zg G mX9_placeTo (d + 1) 0 [.ref 0, .int x1, .int x2, zU, zU, zU, zU] [] h (zPI Q)) : zConI G mX9_placeTo (d + 1) [.ref 0, .int x1, .int x2] h Q := zcon0 (by decide +kernel) eX9_placeTo (Nat.le_of_ble_eq_true rfl) rfl B
set_option maxRecDepth 100000 in
set_option maxHeartbeats 4000000 in
theorem sg_X9_placeTo_28 {G : zG} {d : Nat} {h : zMem} {Q : Int32 → zMem → Prop} {t : Nat} {x1 : Int32} {x2 : Int32} {x3 : Int32} {x4 : Int32} {x5 : Int32} (hS : zSh1 h t)  (B : ((zI h (t + 1) 2) ≤ x5 → (¬ x2 = 0 → Q x4 h) ∧ (x2 = 0 → Q x3 h)) ∧ (¬ (zI h (t + 1) 2) ≤ x5 → ∃ Q3 : zMem → Prop, zConV G mX9_markDays d [.ref 0, .int x1, .int x5] h Q3 ∧ (∀ h4, Q3 h4 → zSh1 h4 t ∧ ∃ Q6 : Int32 → zMem → Prop, zConI G mX9_unlikeMarks d [.ref 0] h4 Q6 ∧ (∀ v9 h7, Q6 v9 h7 → zSh1 h7 t ∧ (v9 ≤ x4 → zg G mX9_placeTo (d + 1) 28 [.ref 0, .int x1, .int x2, .int x3, .int x4, .int (x5 + 1), zU] [] h7 (zPI Q)) ∧ (¬ v9 ≤ x4 → zg G mX9_placeTo (d + 1) 28 [.ref 0, .int x1, .int x2, .int x5, .int v9, .int (x5 + 1), zU] [] h7 (zPI Q)))))) : zg G mX9_placeTo (d + 1) 28 [.ref 0, .int x1, .int x2, .int x3, .int x4, .int x5, zU] [] h (zPI Q) := by
  refine z_iload 18 rfl rfl ?_
  refine z_aload_n 19 rfl rfl ?_
  refine z_getR 20 rfl lX9_67 rfl (hS.1.o 0 8 rfl rfl rfl) hS.2.2.1 ?_
  refine z_getR 21 rfl lX9_208 rfl (zS_to hS hS.2.1 0 6 rfl rfl) (zS_tr hS hS.2.1 0 0 1 rfl rfl rfl) ?_
  refine z_iconst (v := 2) 22 rfl (by decide) ?_
  refine z_iald_c 23 2 rfl (by decide) (zS_to hS hS.2.1 1 100 rfl rfl) (zin (zS_tl hS hS.2.1 1 4 rfl rfl) (zvp (by decide))) ?_
  refine z_icmp_ge 24 75 rfl (by decide) ⟨fun c1 => ?_, fun c1 => ?_⟩
  · have B := B.1 c1
    refine z_iload_n 41 rfl rfl ?_
    refine z_if_ne 42 83 rfl (by decide) ⟨fun c2 => ?_, fun c2 => ?_⟩
    · have B := B.1 c2
      refine z_iload 45 rfl rfl ?_
      exact z_iret 46 rfl rfl rfl ⟨rfl, rfl⟩ ⟨_, rfl, B⟩
    · have B := B.2 c2
      refine z_iload_n 43 rfl rfl ?_
      refine z_goto 44 85 rfl (by decide) ?_
      exact z_iret 46 rfl rfl rfl ⟨rfl, rfl⟩ ⟨_, rfl, B⟩
  · have B := B.2 c1
    refine z_aload_n 25 rfl rfl ?_
    refine z_iload_n 26 rfl rfl ?_
    refine z_iload 27 rfl rfl ?_
    obtain ⟨Q3, K5, B⟩ := B
    refine z_cVV2 (ν := mX9_markDays) 28 rfl rfl fX9_markDays gX9_201 ⟨_, rfl, rfl⟩ (by decide) (hS.1.o 0 8 rfl rfl rfl) (Nat.le_of_ble_eq_true rfl) K5 (fun h4 q => ?_)
    obtain ⟨hSh4, B⟩ := B h4 q
    refine z_aload_n 29 rfl rfl ?_
    obtain ⟨Q6, K8, B⟩ := B
    refine z_cVI0 (ν := mX9_unlikeMarks) 30 rfl rfl fX9_unlikeMarks gX9_223 ⟨_, rfl, rfl⟩ (by decide) (hSh4.1.o 0 8 rfl rfl rfl) (Nat.le_of_ble_eq_true rfl) K8 (fun v9 h7 q => ?_)
    obtain ⟨hSh7, B⟩ := B v9 h7 q
    refine z_istore 31 rfl (by decide) rfl ?_
    refine z_iload 32 rfl rfl ?_
    refine z_iload 33 rfl rfl ?_
    refine z_icmp_le 34 69 rfl (by decide) ⟨fun c10 => ?_, fun c10 => ?_⟩
    · have B := B.1 c10
      refine z_iinc (v := 1) 39 rfl rfl (by decide) (by decide) rfl ?_
      refine z_goto 40 28 rfl (by decide) ?_
      refine z_drop 6 ?_
      exact B
    · have B := B.2 c10
      refine z_iload 35 rfl rfl ?_
      refine z_istore 36 rfl (by decide) rfl ?_
      refine z_iload 37 rfl rfl ?_
      refine z_istore_n 38 rfl (by decide) rfl ?_
      refine z_iinc (v := 1) 39 rfl rfl (by decide) (by decide) rfl ?_
      refine z_goto 40 28 rfl (by decide) ?_
      refine z_drop 6 ?_
      exact B
set_option maxRecDepth 100000 in
set_option maxHeartbeats 4000000 in
theorem sg_X9_lasts_0 {G : zG} {d : Nat} {h : zMem} {Q : Int32 → zMem → Prop} {t : Nat} {x1 : Int32} (hS : zSh1 h t)  (B : (x1 < 0 → Q (-1 : Int32) h) ∧ (¬ x1 < 0 → (x1 ≤ (1 : Int32) → ∃ Q3 : zMem → Prop, zConV G mX5_copy d [.ref 82, .ref 48] h Q3 ∧ (∀ h4, Q3 h4 → zSh1 h4 t ∧ zg G mX9_lasts (d + 1) 24 [.ref 0, .int x1, .int (0 : Int32), zU] [] h4 (zPI Q))) ∧ (¬ x1 ≤ (1 : Int32) → Q (-1 : Int32) h))) : zg G mX9_lasts (d + 1) 0 [.ref 0, .int x1, zU, zU] [] h (zPI Q) := by
  refine z_iload_n 0 rfl rfl ?_
  refine z_if_lt 1 9 rfl (by decide) ⟨fun c1 => ?_, fun c1 => ?_⟩
  · have B := B.1 c1
    refine z_iconst (v := -1) 5 rfl (by decide) ?_
    exact z_iret 6 rfl rfl rfl ⟨rfl, rfl⟩ ⟨_, rfl, B⟩
  · have B := B.2 c1
    refine z_iload_n 2 rfl rfl ?_
    refine z_iconst (v := 1) 3 rfl (by decide) ?_
    refine z_icmp_le 4 11 rfl (by decide) ⟨fun c2 => ?_, fun c2 => ?_⟩
    · have B := B.1 c2
      refine z_aload_n 7 rfl rfl ?_
      refine z_getR 8 rfl lX9_44 rfl (hS.1.o 0 8 rfl rfl rfl) (hS.1.r 0 6 82 rfl rfl rfl) ?_
      refine z_aload_n 9 rfl rfl ?_
      refine z_getR 10 rfl lX9_37 rfl (hS.1.o 0 8 rfl rfl rfl) (hS.1.r 0 4 48 rfl rfl rfl) ?_
      obtain ⟨Q3, K5, B⟩ := B
      refine z_cVV1 (ν := mX5_copy) 11 rfl rfl fX5_copy gX9_226 ⟨_, rfl, rfl⟩ (by decide) (hS.1.o 82 5 rfl rfl rfl) (Nat.le_of_ble_eq_true rfl) K5 (fun h4 q => ?_)
      obtain ⟨hSh4, B⟩ := B h4 q
      refine z_iconst (v := 0) 12 rfl (by decide) ?_
      refine z_istore_n 13 rfl (by decide) rfl ?_
      exact B
    · have B := B.2 c2
      refine z_iconst (v := -1) 5 rfl (by decide) ?_
      exact z_iret 6 rfl rfl rfl ⟨rfl, rfl⟩ ⟨_, rfl, B⟩
theorem cn_X9_lasts {G : zG} {d : Nat} {h : zMem} {Q : Int32 → zMem → Prop} {x1 : Int32} (B : zg G mX9_lasts (d + 1) 0 [.ref 0, .int x1, zU, zU] [] h (zPI Q)) : zConI G mX9_lasts (d + 1) [.ref 0, .int x1] h Q := zcon0 (by decide +kernel) eX9_lasts (Nat.le_of_ble_eq_true rfl) rfl B
set_option maxRecDepth 100000 in
set_option maxHeartbeats 4000000 in
theorem sg_X9_lasts_24 {G : zG} {d : Nat} {h : zMem} {Q : Int32 → zMem → Prop} {t : Nat} {x1 : Int32} {x2 : Int32} (hS : zSh1 h t)  (B : ((200 : Int32) ≤ x2 → (¬ x1 = 0 → Q (-2 : Int32) h) ∧ (x1 = 0 → Q (200 : Int32) h)) ∧ (¬ (200 : Int32) ≤ x2 → ∃ Q3 : Int32 → zMem → Prop, zConI G mX5_firstShort d [.ref 82, .ref t] h Q3 ∧ (∀ v6 h4, Q3 v6 h4 → zSh1 h4 t ∧ (v6 = (-1 : Int32) → ∃ Q8 : zMem → Prop, zConV G mX5_takeOut d [.ref 82, .ref t] h4 Q8 ∧ (∀ h9, Q8 h9 → zSh1 h9 t ∧ zg G mX9_lasts (d + 1) 24 [.ref 0, .int x1, .int (x2 + 1), zU] [] (zsI h9 82 10 ((zI h9 82 10) + (1 : Int32))) (zPI Q))) ∧ (¬ v6 = (-1 : Int32) → (¬ x1 = 0 → Q v6 h4) ∧ (x1 = 0 → Q x2 h4))))) : zg G mX9_lasts (d + 1) 24 [.ref 0, .int x1, .int x2, zU] [] h (zPI Q) := by
  refine z_iload_n 14 rfl rfl ?_
  refine z_sipush (v := 200) 15 rfl (by decide) ?_
  refine z_icmp_ge 16 88 rfl (by decide) ⟨fun c1 => ?_, fun c1 => ?_⟩
  · have B := B.1 c1
    refine z_iload_n 46 rfl rfl ?_
    refine z_if_ne 47 98 rfl (by decide) ⟨fun c2 => ?_, fun c2 => ?_⟩
    · have B := B.1 c2
      refine z_bipush (v := -2) 50 rfl (by decide) ?_
      exact z_iret 51 rfl rfl rfl ⟨rfl, rfl⟩ ⟨_, rfl, B⟩
    · have B := B.2 c2
      refine z_sipush (v := 200) 48 rfl (by decide) ?_
      refine z_goto 49 100 rfl (by decide) ?_
      exact z_iret 51 rfl rfl rfl ⟨rfl, rfl⟩ ⟨_, rfl, B⟩
  · have B := B.2 c1
    refine z_aload_n 17 rfl rfl ?_
    refine z_getR 18 rfl lX9_44 rfl (hS.1.o 0 8 rfl rfl rfl) (hS.1.r 0 6 82 rfl rfl rfl) ?_
    refine z_aload_n 19 rfl rfl ?_
    refine z_getR 20 rfl lX9_67 rfl (hS.1.o 0 8 rfl rfl rfl) hS.2.2.1 ?_
    obtain ⟨Q3, K5, B⟩ := B
    refine z_cVI1 (ν := mX5_firstShort) 21 rfl rfl fX5_firstShort gX9_230 ⟨_, rfl, rfl⟩ (by decide) (hS.1.o 82 5 rfl rfl rfl) (Nat.le_of_ble_eq_true rfl) K5 (fun v6 h4 q => ?_)
    obtain ⟨hSh4, B⟩ := B v6 h4 q
    refine z_istore_n 22 rfl (by decide) rfl ?_
    refine z_iload_n 23 rfl rfl ?_
    refine z_iconst (v := -1) 24 rfl (by decide) ?_
    refine z_icmp_eq 25 58 rfl (by decide) ⟨fun c7 => ?_, fun c7 => ?_⟩
    · have B := B.1 c7
      refine z_aload_n 32 rfl rfl ?_
      refine z_getR 33 rfl lX9_44 rfl (hSh4.1.o 0 8 rfl rfl rfl) (hSh4.1.r 0 6 82 rfl rfl rfl) ?_
      refine z_aload_n 34 rfl rfl ?_
      refine z_getR 35 rfl lX9_67 rfl (hSh4.1.o 0 8 rfl rfl rfl) hSh4.2.2.1 ?_
      obtain ⟨Q8, K10, B⟩ := B
      refine z_cVV1 (ν := mX5_takeOut) 36 rfl rfl fX5_takeOut gX9_234 ⟨_, rfl, rfl⟩ (by decide) (hSh4.1.o 82 5 rfl rfl rfl) (Nat.le_of_ble_eq_true rfl) K10 (fun h9 q => ?_)
      obtain ⟨hSh9, B⟩ := B h9 q
      refine z_aload_n 37 rfl rfl ?_
      refine z_getR 38 rfl lX9_44 rfl (hSh9.1.o 0 8 rfl rfl rfl) (hSh9.1.r 0 6 82 rfl rfl rfl) ?_
      refine z_dup 39 rfl rfl ?_
      refine z_getI 40 rfl lX9_195 rfl (hSh9.1.o 82 5 rfl rfl rfl) ?_
      refine z_iconst (v := 1) 41 rfl (by decide) ?_
      refine z_iadd 42 rfl ?_
      refine z_putI 43 rfl lX9_195 ⟨_, _, _, rfl, rfl⟩ rfl rfl rfl (hSh9.1.o 82 5 rfl rfl rfl) ?_
      refine z_iinc (v := 1) 44 rfl rfl (by decide) (by decide) rfl ?_
      refine z_goto 45 24 rfl (by decide) ?_
      refine z_drop 3 ?_
      exact B
    · have B := B.2 c7
      refine z_iload_n 26 rfl rfl ?_
      refine z_if_ne 27 56 rfl (by decide) ⟨fun c11 => ?_, fun c11 => ?_⟩
      · have B := B.1 c11
        refine z_iload_n 30 rfl rfl ?_
        exact z_iret 31 rfl rfl rfl ⟨rfl, rfl⟩ ⟨_, rfl, B⟩
      · have B := B.2 c11
        refine z_iload_n 28 rfl rfl ?_
        refine z_goto 29 57 rfl (by decide) ?_
        exact z_iret 31 rfl rfl rfl ⟨rfl, rfl⟩ ⟨_, rfl, B⟩
set_option maxRecDepth 100000 in
set_option maxHeartbeats 4000000 in
theorem sg_X9_needs_0 {G : zG} {d : Nat} {h : zMem} {Q : Int32 → zMem → Prop} {t : Nat} {x1 : Int32} {x2 : Int32} (hS : zSh1 h t)  (B : ∃ Q1 : Int32 → zMem → Prop, zConI G mX9_has d [.ref 0, .int (0 : Int32), .int x1] h Q1 ∧ (∀ v4 h2, Q1 v4 h2 → zSh1 h2 t ∧ (v4 = 0 → Q (-1 : Int32) h2) ∧ (¬ v4 = 0 → (x2 < 0 → Q (-1 : Int32) h2) ∧ (¬ x2 < 0 → (x2 ≤ (99 : Int32) → zg G mX9_needs (d + 1) 26 [.ref 0, .int x1, .int x2, .int (0 : Int32), .int (0 : Int32)] [] h2 (zPI Q)) ∧ (¬ x2 ≤ (99 : Int32) → Q (-1 : Int32) h2))))) : zg G mX9_needs (d + 1) 0 [.ref 0, .int x1, .int x2, zU, zU] [] h (zPI Q) := by
  refine z_aload_n 0 rfl rfl ?_
  refine z_iconst (v := 0) 1 rfl (by decide) ?_
  refine z_iload_n 2 rfl rfl ?_
  obtain ⟨Q1, K3, B⟩ := B
  refine z_cVI2 (ν := mX9_has) 3 rfl rfl fX9_has gX9_117 ⟨_, rfl, rfl⟩ (by decide) (hS.1.o 0 8 rfl rfl rfl) (Nat.le_of_ble_eq_true rfl) K3 (fun v4 h2 q => ?_)
  obtain ⟨hSh2, B⟩ := B v4 h2 q
  refine z_if_eq 4 19 rfl (by decide) ⟨fun c5 => ?_, fun c5 => ?_⟩
  · have B := B.1 c5
    refine z_iconst (v := -1) 10 rfl (by decide) ?_
    exact z_iret 11 rfl rfl rfl ⟨rfl, rfl⟩ ⟨_, rfl, B⟩
  · have B := B.2 c5
    refine z_iload_n 5 rfl rfl ?_
    refine z_if_lt 6 19 rfl (by decide) ⟨fun c6 => ?_, fun c6 => ?_⟩
    · have B := B.1 c6
      refine z_iconst (v := -1) 10 rfl (by decide) ?_
      exact z_iret 11 rfl rfl rfl ⟨rfl, rfl⟩ ⟨_, rfl, B⟩
    · have B := B.2 c6
      refine z_iload_n 7 rfl rfl ?_
      refine z_bipush (v := 99) 8 rfl (by decide) ?_
      refine z_icmp_le 9 21 rfl (by decide) ⟨fun c7 => ?_, fun c7 => ?_⟩
      · have B := B.1 c7
        refine z_iconst (v := 0) 12 rfl (by decide) ?_
        refine z_istore_n 13 rfl (by decide) rfl ?_
        refine z_iconst (v := 0) 14 rfl (by decide) ?_
        refine z_istore 15 rfl (by decide) rfl ?_
        exact B
      · have B := B.2 c7
        refine z_iconst (v := -1) 10 rfl (by decide) ?_
        exact z_iret 11 rfl rfl rfl ⟨rfl, rfl⟩ ⟨_, rfl, B⟩
theorem cn_X9_needs {G : zG} {d : Nat} {h : zMem} {Q : Int32 → zMem → Prop} {x1 : Int32} {x2 : Int32} (B : zg G mX9_needs (d + 1) 0 [.ref 0, .int x1, .int x2, zU, zU] [] h (zPI Q)) : zConI G mX9_needs (d + 1) [.ref 0, .int x1, .int x2] h Q := zcon0 (by decide +kernel) eX9_needs (Nat.le_of_ble_eq_true rfl) rfl B
set_option maxRecDepth 100000 in
set_option maxHeartbeats 4000000 in
theorem sg_X9_needs_26 {G : zG} {d : Nat} {h : zMem} {Q : Int32 → zMem → Prop} {t : Nat} {x1 : Int32} {x2 : Int32} {x3 : Int32} {x4 : Int32} (hS : zSh1 h t)  (B : (x2 ≤ x4 → vp_in x1 6 ∧ Q (if (0 : Int32) < (x3 - (zI h 49 x1.toNatClampNeg)) then (x3 - (zI h 49 x1.toNatClampNeg)) else (0 : Int32)) h) ∧ (¬ x2 ≤ x4 → ∃ Q3 : Int32 → zMem → Prop, zConI G mX7_mixedOn d [.ref t, .int ((zI h 48 10) + x4), .int x1] h Q3 ∧ (∀ v6 h4, Q3 v6 h4 → zSh1 h4 t ∧ zg G mX9_needs (d + 1) 26 [.ref 0, .int x1, .int x2, .int (x3 + v6), .int (x4 + 1)] [] h4 (zPI Q)))) : zg G mX9_needs (d + 1) 26 [.ref 0, .int x1, .int x2, .int x3, .int x4] [] h (zPI Q) := by
  refine z_iload 16 rfl rfl ?_
  refine z_iload_n 17 rfl rfl ?_
  refine z_icmp_ge 18 59 rfl (by decide) ⟨fun c1 => ?_, fun c1 => ?_⟩
  · have B := B.1 c1
    refine z_iconst (v := 0) 33 rfl (by decide) ?_
    refine z_iload_n 34 rfl rfl ?_
    refine z_aload_n 35 rfl rfl ?_
    refine z_getR 36 rfl lX9_37 rfl (hS.1.o 0 8 rfl rfl rfl) (hS.1.r 0 4 48 rfl rfl rfl) ?_
    refine z_getR 37 rfl lX9_148 rfl (hS.1.o 48 5 rfl rfl rfl) (hS.1.r 48 0 49 rfl rfl rfl) ?_
    refine z_iload_n 38 rfl rfl ?_
    obtain ⟨o2, B⟩ := B
    refine z_iald 39 rfl (hS.1.o 49 100 rfl rfl rfl) (zin (hS.1.l 49 6 rfl rfl rfl) o2) ?_
    refine z_isub 40 rfl ?_
    refine z_mmax 41 rfl rfl gmX9_211 (Nat.le_of_ble_eq_true rfl) ?_
    exact z_iret 42 rfl rfl rfl ⟨rfl, rfl⟩ ⟨_, rfl, B⟩
  · have B := B.2 c1
    refine z_iload_n 19 rfl rfl ?_
    refine z_aload_n 20 rfl rfl ?_
    refine z_getR 21 rfl lX9_67 rfl (hS.1.o 0 8 rfl rfl rfl) hS.2.2.1 ?_
    refine z_aload_n 22 rfl rfl ?_
    refine z_getR 23 rfl lX9_37 rfl (hS.1.o 0 8 rfl rfl rfl) (hS.1.r 0 4 48 rfl rfl rfl) ?_
    refine z_getI 24 rfl lX9_195 rfl (hS.1.o 48 5 rfl rfl rfl) ?_
    refine z_iload 25 rfl rfl ?_
    refine z_iadd 26 rfl ?_
    refine z_iload_n 27 rfl rfl ?_
    obtain ⟨Q3, K5, B⟩ := B
    refine z_cVI2 (ν := mX7_mixedOn) 28 rfl rfl fX7_mixedOn gX9_237 ⟨_, rfl, rfl⟩ (by decide) (zS_to hS hS.2.1 0 6 rfl rfl) (Nat.le_of_ble_eq_true rfl) K5 (fun v6 h4 q => ?_)
    obtain ⟨hSh4, B⟩ := B v6 h4 q
    refine z_iadd 29 rfl ?_
    refine z_istore_n 30 rfl (by decide) rfl ?_
    refine z_iinc (v := 1) 31 rfl rfl (by decide) (by decide) rfl ?_
    refine z_goto 32 26 rfl (by decide) ?_
    exact B
set_option maxRecDepth 100000 in
set_option maxHeartbeats 4000000 in
theorem sg_X9_dearest_0 {G : zG} {d : Nat} {h : zMem} {Q : Int32 → zMem → Prop} {t : Nat} {x1 : Int32} (hS : zSh1 h t)  (B : (x1 < 0 → Q (-1 : Int32) h) ∧ (¬ x1 < 0 → ((1 : Int32) < x1 → Q (-1 : Int32) h) ∧ (¬ (1 : Int32) < x1 → (¬ (zI h (t + 1) 1) = 0 → zg G mX9_dearest (d + 1) 30 [.ref 0, .int x1, .int (0 : Int32), .int (-1 : Int32), .int (0 : Int32), zU, zU] [] h (zPI Q)) ∧ ((zI h (t + 1) 1) = 0 → Q (-1 : Int32) h)))) : zg G mX9_dearest (d + 1) 0 [.ref 0, .int x1, zU, zU, zU, zU, zU] [] h (zPI Q) := by
  refine z_iload_n 0 rfl rfl ?_
  refine z_if_lt 1 21 rfl (by decide) ⟨fun c1 => ?_, fun c1 => ?_⟩
  · have B := B.1 c1
    refine z_iconst (v := -1) 11 rfl (by decide) ?_
    exact z_iret 12 rfl rfl rfl ⟨rfl, rfl⟩ ⟨_, rfl, B⟩
  · have B := B.2 c1
    refine z_iload_n 2 rfl rfl ?_
    refine z_iconst (v := 1) 3 rfl (by decide) ?_
    refine z_icmp_gt 4 21 rfl (by decide) ⟨fun c2 => ?_, fun c2 => ?_⟩
    · have B := B.1 c2
      refine z_iconst (v := -1) 11 rfl (by decide) ?_
      exact z_iret 12 rfl rfl rfl ⟨rfl, rfl⟩ ⟨_, rfl, B⟩
    · have B := B.2 c2
      refine z_aload_n 5 rfl rfl ?_
      refine z_getR 6 rfl lX9_67 rfl (hS.1.o 0 8 rfl rfl rfl) hS.2.2.1 ?_
      refine z_getR 7 rfl lX9_208 rfl (zS_to hS hS.2.1 0 6 rfl rfl) (zS_tr hS hS.2.1 0 0 1 rfl rfl rfl) ?_
      refine z_iconst (v := 1) 8 rfl (by decide) ?_
      refine z_iald_c 9 1 rfl (by decide) (zS_to hS hS.2.1 1 100 rfl rfl) (zin (zS_tl hS hS.2.1 1 4 rfl rfl) (zvp (by decide))) ?_
      refine z_if_ne 10 23 rfl (by decide) ⟨fun c3 => ?_, fun c3 => ?_⟩
      · have B := B.1 c3
        refine z_iconst (v := 0) 13 rfl (by decide) ?_
        refine z_istore_n 14 rfl (by decide) rfl ?_
        refine z_iconst (v := -1) 15 rfl (by decide) ?_
        refine z_istore_n 16 rfl (by decide) rfl ?_
        refine z_iconst (v := 0) 17 rfl (by decide) ?_
        refine z_istore 18 rfl (by decide) rfl ?_
        exact B
      · have B := B.2 c3
        refine z_iconst (v := -1) 11 rfl (by decide) ?_
        exact z_iret 12 rfl rfl rfl ⟨rfl, rfl⟩ ⟨_, rfl, B⟩
theorem cn_X9_dearest {G : zG} {d : Nat} {h : zMem} {Q : Int32 → zMem → Prop} {x1 : Int32} (B : zg G mX9_dearest (d + 1) 0 [.ref 0, .int x1, zU, zU, zU, zU, zU] [] h (zPI Q)) : zConI G mX9_dearest (d + 1) [.ref 0, .int x1] h Q := zcon0 (by decide +kernel) eX9_dearest (Nat.le_of_ble_eq_true rfl) rfl B
set_option maxRecDepth 100000 in
set_option maxHeartbeats 4000000 in
theorem sg_X9_dearest_30 {G : zG} {d : Nat} {h : zMem} {Q : Int32 → zMem → Prop} {t : Nat} {x1 : Int32} {x2 : Int32} {x3 : Int32} {x4 : Int32} (hS : zSh1 h t)  (B : ((zI h (t + 1) 1) ≤ x4 → (¬ x1 = 0 → Q x3 h) ∧ (x1 = 0 → Q x2 h)) ∧ (¬ (zI h (t + 1) 1) ≤ x4 → zg G mX9_dearest (d + 1) 50 [.ref 0, .int x1, .int x2, .int x3, .int x4, .int (0 : Int32), .int (0 : Int32)] [] h (zPI Q))) : zg G mX9_dearest (d + 1) 30 [.ref 0, .int x1, .int x2, .int x3, .int x4, zU, zU] [] h (zPI Q) := by
  refine z_iload 19 rfl rfl ?_
  refine z_aload_n 20 rfl rfl ?_
  refine z_getR 21 rfl lX9_67 rfl (hS.1.o 0 8 rfl rfl rfl) hS.2.2.1 ?_
  refine z_getR 22 rfl lX9_208 rfl (zS_to hS hS.2.1 0 6 rfl rfl) (zS_tr hS hS.2.1 0 0 1 rfl rfl rfl) ?_
  refine z_iconst (v := 1) 23 rfl (by decide) ?_
  refine z_iald_c 24 1 rfl (by decide) (zS_to hS hS.2.1 1 100 rfl rfl) (zin (zS_tl hS hS.2.1 1 4 rfl rfl) (zvp (by decide))) ?_
  refine z_icmp_ge 25 120 rfl (by decide) ⟨fun c1 => ?_, fun c1 => ?_⟩
  · have B := B.1 c1
    refine z_iload_n 65 rfl rfl ?_
    refine z_if_ne 66 128 rfl (by decide) ⟨fun c2 => ?_, fun c2 => ?_⟩
    · have B := B.1 c2
      refine z_iload_n 69 rfl rfl ?_
      exact z_iret 70 rfl rfl rfl ⟨rfl, rfl⟩ ⟨_, rfl, B⟩
    · have B := B.2 c2
      refine z_iload_n 67 rfl rfl ?_
      refine z_goto 68 129 rfl (by decide) ?_
      exact z_iret 70 rfl rfl rfl ⟨rfl, rfl⟩ ⟨_, rfl, B⟩
  · have B := B.2 c1
    refine z_iconst (v := 0) 26 rfl (by decide) ?_
    refine z_istore 27 rfl (by decide) rfl ?_
    refine z_iconst (v := 0) 28 rfl (by decide) ?_
    refine z_istore 29 rfl (by decide) rfl ?_
    exact B
set_option maxRecDepth 100000 in
set_option maxHeartbeats 4000000 in
theorem sg_X9_dearest_50 {G : zG} {d : Nat} {h : zMem} {Q : Int32 → zMem → Prop} {t : Nat} {x1 : Int32} {x2 : Int32} {x3 : Int32} {x4 : Int32} {x5 : Int32} {x6 : Int32} (hS : zSh1 h t)  (B : ((zI h (t + 1) 0) ≤ x6 → (x5 ≤ x3 → zg G mX9_dearest (d + 1) 30 [.ref 0, .int x1, .int x2, .int x3, .int (x4 + 1), zU, zU] [] h (zPI Q)) ∧ (¬ x5 ≤ x3 → zg G mX9_dearest (d + 1) 30 [.ref 0, .int x1, .int x4, .int x5, .int (x4 + 1), zU, zU] [] h (zPI Q))) ∧ (¬ (zI h (t + 1) 0) ≤ x6 → vp_in x4 8 ∧ vp_in x6 6 ∧ ∃ Q5 : Int32 → zMem → Prop, zConI G mX5_worthOf d [.ref 48, .ref t, .int x6] h Q5 ∧ (∀ v8 h6, Q5 v8 h6 → zSh1 h6 t ∧ zg G mX9_dearest (d + 1) 50 [.ref 0, .int x1, .int x2, .int x3, .int x4, .int (x5 + ((zI h (t + 9 + 1 + x4.toNatClampNeg) x6.toNatClampNeg) * v8)), .int (x6 + 1)] [] h6 (zPI Q)))) : zg G mX9_dearest (d + 1) 50 [.ref 0, .int x1, .int x2, .int x3, .int x4, .int x5, .int x6] [] h (zPI Q) := by
  refine z_iload 30 rfl rfl ?_
  refine z_aload_n 31 rfl rfl ?_
  refine z_getR 32 rfl lX9_67 rfl (hS.1.o 0 8 rfl rfl rfl) hS.2.2.1 ?_
  refine z_getR 33 rfl lX9_208 rfl (zS_to hS hS.2.1 0 6 rfl rfl) (zS_tr hS hS.2.1 0 0 1 rfl rfl rfl) ?_
  refine z_iconst (v := 0) 34 rfl (by decide) ?_
  refine z_iald_c 35 0 rfl (by decide) (zS_to hS hS.2.1 1 100 rfl rfl) (zin (zS_tl hS hS.2.1 1 4 rfl rfl) (zvp (by decide))) ?_
  refine z_icmp_ge 36 102 rfl (by decide) ⟨fun c1 => ?_, fun c1 => ?_⟩
  · have B := B.1 c1
    refine z_iload 56 rfl rfl ?_
    refine z_iload_n 57 rfl rfl ?_
    refine z_icmp_le 58 114 rfl (by decide) ⟨fun c2 => ?_, fun c2 => ?_⟩
    · have B := B.1 c2
      refine z_iinc (v := 1) 63 rfl rfl (by decide) (by decide) rfl ?_
      refine z_goto 64 30 rfl (by decide) ?_
      refine z_drop 5 ?_
      refine z_drop 6 ?_
      exact B
    · have B := B.2 c2
      refine z_iload 59 rfl rfl ?_
      refine z_istore_n 60 rfl (by decide) rfl ?_
      refine z_iload 61 rfl rfl ?_
      refine z_istore_n 62 rfl (by decide) rfl ?_
      refine z_iinc (v := 1) 63 rfl rfl (by decide) (by decide) rfl ?_
      refine z_goto 64 30 rfl (by decide) ?_
      refine z_drop 5 ?_
      refine z_drop 6 ?_
      exact B
  · have B := B.2 c1
    refine z_iload 37 rfl rfl ?_
    refine z_aload_n 38 rfl rfl ?_
    refine z_getR 39 rfl lX9_67 rfl (hS.1.o 0 8 rfl rfl rfl) hS.2.2.1 ?_
    refine z_getR 40 rfl lX9_158 rfl (zS_to hS hS.2.1 0 6 rfl rfl) (zS_tr hS hS.2.1 0 4 9 rfl rfl rfl) ?_
    refine z_iload 41 rfl rfl ?_
    obtain ⟨o3, B⟩ := B
    refine z_aald 42 rfl (zS_to hS hS.2.1 9 104 rfl rfl) (zin (zS_tl hS hS.2.1 9 8 rfl rfl) o3) (zS_trow hS hS.2.1 9 8 6 rfl rfl rfl o3).1 ?_
    refine z_iload 43 rfl rfl ?_
    obtain ⟨o4, B⟩ := B
    refine z_iald 44 rfl (zS_trow hS hS.2.1 9 8 6 rfl rfl rfl o3).2.1 (zin (zS_trow hS hS.2.1 9 8 6 rfl rfl rfl o3).2.2 o4) ?_
    refine z_aload_n 45 rfl rfl ?_
    refine z_getR 46 rfl lX9_37 rfl (hS.1.o 0 8 rfl rfl rfl) (hS.1.r 0 4 48 rfl rfl rfl) ?_
    refine z_aload_n 47 rfl rfl ?_
    refine z_getR 48 rfl lX9_67 rfl (hS.1.o 0 8 rfl rfl rfl) hS.2.2.1 ?_
    refine z_iload 49 rfl rfl ?_
    obtain ⟨Q5, K7, B⟩ := B
    refine z_cVI2 (ν := mX5_worthOf) 50 rfl rfl fX5_worthOf gX9_151 ⟨_, rfl, rfl⟩ (by decide) (hS.1.o 48 5 rfl rfl rfl) (Nat.le_of_ble_eq_true rfl) K7 (fun v8 h6 q => ?_)
    obtain ⟨hSh6, B⟩ := B v8 h6 q
    refine z_imul 51 rfl ?_
    refine z_iadd 52 rfl ?_
    refine z_istore 53 rfl (by decide) rfl ?_
    refine z_iinc (v := 1) 54 rfl rfl (by decide) (by decide) rfl ?_
    refine z_goto 55 50 rfl (by decide) ?_
    exact B
set_option maxRecDepth 100000 in
set_option maxHeartbeats 4000000 in
theorem sg_X9_inPlace_0 {G : zG} {d : Nat} {h : zMem} {Q : Int32 → zMem → Prop} {t : Nat} {x1 : Int32} {x2 : Int32} (hS : zSh1 h t)  (B : ∃ Q1 : Int32 → zMem → Prop, zConI G mX9_has d [.ref 0, .int (0 : Int32), .int x1] h Q1 ∧ (∀ v4 h2, Q1 v4 h2 → zSh1 h2 t ∧ (v4 = 0 → Q (-1 : Int32) h2) ∧ (¬ v4 = 0 → ∃ Q6 : Int32 → zMem → Prop, zConI G mX9_has d [.ref 0, .int (0 : Int32), .int x2] h2 Q6 ∧ (∀ v9 h7, Q6 v9 h7 → zSh1 h7 t ∧ (v9 = 0 → Q (-1 : Int32) h7) ∧ (¬ v9 = 0 → (¬ x1 = x2 → zg G mX9_inPlace (d + 1) 30 [.ref 0, .int x1, .int x2, .int (0 : Int32), .int (0 : Int32)] [] h7 (zPI Q)) ∧ (x1 = x2 → Q (-1 : Int32) h7)))))) : zg G mX9_inPlace (d + 1) 0 [.ref 0, .int x1, .int x2, zU, zU] [] h (zPI Q) := by
  refine z_aload_n 0 rfl rfl ?_
  refine z_iconst (v := 0) 1 rfl (by decide) ?_
  refine z_iload_n 2 rfl rfl ?_
  obtain ⟨Q1, K3, B⟩ := B
  refine z_cVI2 (ν := mX9_has) 3 rfl rfl fX9_has gX9_117 ⟨_, rfl, rfl⟩ (by decide) (hS.1.o 0 8 rfl rfl rfl) (Nat.le_of_ble_eq_true rfl) K3 (fun v4 h2 q => ?_)
  obtain ⟨hSh2, B⟩ := B v4 h2 q
  refine z_if_eq 4 23 rfl (by decide) ⟨fun c5 => ?_, fun c5 => ?_⟩
  · have B := B.1 c5
    refine z_iconst (v := -1) 13 rfl (by decide) ?_
    exact z_iret 14 rfl rfl rfl ⟨rfl, rfl⟩ ⟨_, rfl, B⟩
  · have B := B.2 c5
    refine z_aload_n 5 rfl rfl ?_
    refine z_iconst (v := 0) 6 rfl (by decide) ?_
    refine z_iload_n 7 rfl rfl ?_
    obtain ⟨Q6, K8, B⟩ := B
    refine z_cVI2 (ν := mX9_has) 8 rfl rfl fX9_has gX9_117 ⟨_, rfl, rfl⟩ (by decide) (hSh2.1.o 0 8 rfl rfl rfl) (Nat.le_of_ble_eq_true rfl) K8 (fun v9 h7 q => ?_)
    obtain ⟨hSh7, B⟩ := B v9 h7 q
    refine z_if_eq 9 23 rfl (by decide) ⟨fun c10 => ?_, fun c10 => ?_⟩
    · have B := B.1 c10
      refine z_iconst (v := -1) 13 rfl (by decide) ?_
      exact z_iret 14 rfl rfl rfl ⟨rfl, rfl⟩ ⟨_, rfl, B⟩
    · have B := B.2 c10
      refine z_iload_n 10 rfl rfl ?_
      refine z_iload_n 11 rfl rfl ?_
      refine z_icmp_ne 12 25 rfl (by decide) ⟨fun c11 => ?_, fun c11 => ?_⟩
      · have B := B.1 c11
        refine z_iconst (v := 0) 15 rfl (by decide) ?_
        refine z_istore_n 16 rfl (by decide) rfl ?_
        refine z_iconst (v := 0) 17 rfl (by decide) ?_
        refine z_istore 18 rfl (by decide) rfl ?_
        exact B
      · have B := B.2 c11
        refine z_iconst (v := -1) 13 rfl (by decide) ?_
        exact z_iret 14 rfl rfl rfl ⟨rfl, rfl⟩ ⟨_, rfl, B⟩
theorem cn_X9_inPlace {G : zG} {d : Nat} {h : zMem} {Q : Int32 → zMem → Prop} {x1 : Int32} {x2 : Int32} (B : zg G mX9_inPlace (d + 1) 0 [.ref 0, .int x1, .int x2, zU, zU] [] h (zPI Q)) : zConI G mX9_inPlace (d + 1) [.ref 0, .int x1, .int x2] h Q := zcon0 (by decide +kernel) eX9_inPlace (Nat.le_of_ble_eq_true rfl) rfl B
set_option maxRecDepth 100000 in
set_option maxHeartbeats 4000000 in
theorem sg_X9_inPlace_30 {G : zG} {d : Nat} {h : zMem} {Q : Int32 → zMem → Prop} {t : Nat} {x1 : Int32} {x2 : Int32} {x3 : Int32} {x4 : Int32} (hS : zSh1 h t)  (B : ((zI h (t + 1) 3) ≤ x4 → Q x3 h) ∧ (¬ (zI h (t + 1) 3) ≤ x4 → ∃ Q2 : zMem → Prop, zConV G mX9_markDaysInPlace d [.ref 0, .int x4, .int x1, .int x2] h Q2 ∧ (∀ h3, Q2 h3 → zSh1 h3 t ∧ ∃ Q5 : Int32 → zMem → Prop, zConI G mX9_alikePairs d [.ref 0] h3 Q5 ∧ (∀ v8 h6, Q5 v8 h6 → zSh1 h6 t ∧ (¬ v8 = 0 → zg G mX9_inPlace (d + 1) 30 [.ref 0, .int x1, .int x2, .int x3, .int (x4 + 1)] [] h6 (zPI Q)) ∧ (v8 = 0 → zg G mX9_inPlace (d + 1) 30 [.ref 0, .int x1, .int x2, .int (x3 + 1), .int (x4 + 1)] [] h6 (zPI Q)))))) : zg G mX9_inPlace (d + 1) 30 [.ref 0, .int x1, .int x2, .int x3, .int x4] [] h (zPI Q) := by
  refine z_iload 19 rfl rfl ?_
  refine z_aload_n 20 rfl rfl ?_
  refine z_getR 21 rfl lX9_67 rfl (hS.1.o 0 8 rfl rfl rfl) hS.2.2.1 ?_
  refine z_getR 22 rfl lX9_208 rfl (zS_to hS hS.2.1 0 6 rfl rfl) (zS_tr hS hS.2.1 0 0 1 rfl rfl rfl) ?_
  refine z_iconst (v := 3) 23 rfl (by decide) ?_
  refine z_iald_c 24 3 rfl (by decide) (zS_to hS hS.2.1 1 100 rfl rfl) (zin (zS_tl hS hS.2.1 1 4 rfl rfl) (zvp (by decide))) ?_
  refine z_icmp_ge 25 68 rfl (by decide) ⟨fun c1 => ?_, fun c1 => ?_⟩
  · have B := B.1 c1
    refine z_iload_n 37 rfl rfl ?_
    exact z_iret 38 rfl rfl rfl ⟨rfl, rfl⟩ ⟨_, rfl, B⟩
  · have B := B.2 c1
    refine z_aload_n 26 rfl rfl ?_
    refine z_iload 27 rfl rfl ?_
    refine z_iload_n 28 rfl rfl ?_
    refine z_iload_n 29 rfl rfl ?_
    obtain ⟨Q2, K4, B⟩ := B
    refine z_cVV3 (ν := mX9_markDaysInPlace) 30 rfl rfl fX9_markDaysInPlace gX9_240 ⟨_, rfl, rfl⟩ (by decide) (hS.1.o 0 8 rfl rfl rfl) (Nat.le_of_ble_eq_true rfl) K4 (fun h3 q => ?_)
    obtain ⟨hSh3, B⟩ := B h3 q
    refine z_aload_n 31 rfl rfl ?_
    obtain ⟨Q5, K7, B⟩ := B
    refine z_cVI0 (ν := mX9_alikePairs) 32 rfl rfl fX9_alikePairs gX9_205 ⟨_, rfl, rfl⟩ (by decide) (hSh3.1.o 0 8 rfl rfl rfl) (Nat.le_of_ble_eq_true rfl) K7 (fun v8 h6 q => ?_)
    obtain ⟨hSh6, B⟩ := B v8 h6 q
    refine z_if_ne 33 62 rfl (by decide) ⟨fun c9 => ?_, fun c9 => ?_⟩
    · have B := B.1 c9
      refine z_iinc (v := 1) 35 rfl rfl (by decide) (by decide) rfl ?_
      refine z_goto 36 30 rfl (by decide) ?_
      exact B
    · have B := B.2 c9
      refine z_iinc (v := 1) 34 rfl rfl (by decide) (by decide) rfl ?_
      refine z_iinc (v := 1) 35 rfl rfl (by decide) (by decide) rfl ?_
      refine z_goto 36 30 rfl (by decide) ?_
      exact B
set_option maxRecDepth 100000 in
set_option maxHeartbeats 4000000 in
theorem sg_X9_markDaysInPlace_0 {G : zG} {d : Nat} {h : zMem} {Q : zMem → Prop} {t : Nat} {x1 : Int32} {x2 : Int32} {x3 : Int32} (hS : zSh1 h t)  (B : ∃ Q1 : Int32 → zMem → Prop, zConI G mX9_keenNow d [.ref 0, .int x1] h Q1 ∧ (∀ v4 h2, Q1 v4 h2 → zSh1 h2 t ∧ vp_in x1 5 ∧ vp_in (zI h2 59 x1.toNatClampNeg) 6 ∧ zg G mX9_markDaysInPlace (d + 1) 29 [.ref 0, .int x1, .int x2, .int x3, .int v4, .int (zI h2 51 (zI h2 59 x1.toNatClampNeg).toNatClampNeg), .int (0 : Int32)] [] h2 (zPV Q))) : zg G mX9_markDaysInPlace (d + 1) 0 [.ref 0, .int x1, .int x2, .int x3, zU, zU, zU] [] h (zPV Q) := by
  refine z_aload_n 0 rfl rfl ?_
  refine z_iload_n 1 rfl rfl ?_
  obtain ⟨Q1, K3, B⟩ := B
  refine z_cVI1 (ν := mX9_keenNow) 2 rfl rfl fX9_keenNow gX9_169 ⟨_, rfl, rfl⟩ (by decide) (hS.1.o 0 8 rfl rfl rfl) (Nat.le_of_ble_eq_true rfl) K3 (fun v4 h2 q => ?_)
  obtain ⟨hSh2, B⟩ := B v4 h2 q
  refine z_istore 3 rfl (by decide) rfl ?_
  refine z_aload_n 4 rfl rfl ?_
  refine z_getR 5 rfl lX9_37 rfl (hSh2.1.o 0 8 rfl rfl rfl) (hSh2.1.r 0 4 48 rfl rfl rfl) ?_
  refine z_getR 6 rfl lX9_220 rfl (hSh2.1.o 48 5 rfl rfl rfl) (hSh2.1.r 48 2 51 rfl rfl rfl) ?_
  refine z_aload_n 7 rfl rfl ?_
  refine z_getR 8 rfl lX9_37 rfl (hSh2.1.o 0 8 rfl rfl rfl) (hSh2.1.r 0 4 48 rfl rfl rfl) ?_
  refine z_getR 9 rfl lX9_128 rfl (hSh2.1.o 48 5 rfl rfl rfl) (hSh2.1.r 48 4 59 rfl rfl rfl) ?_
  refine z_iload_n 10 rfl rfl ?_
  obtain ⟨o5, B⟩ := B
  refine z_iald 11 rfl (hSh2.1.o 59 100 rfl rfl rfl) (zin (hSh2.1.l 59 5 rfl rfl rfl) o5) ?_
  obtain ⟨o6, B⟩ := B
  refine z_iald 12 rfl (hSh2.1.o 51 100 rfl rfl rfl) (zin (hSh2.1.l 51 6 rfl rfl rfl) o6) ?_
  refine z_istore 13 rfl (by decide) rfl ?_
  refine z_iconst (v := 0) 14 rfl (by decide) ?_
  refine z_istore 15 rfl (by decide) rfl ?_
  exact B
theorem cn_X9_markDaysInPlace {G : zG} {d : Nat} {h : zMem} {Q : zMem → Prop} {x1 : Int32} {x2 : Int32} {x3 : Int32} (B : zg G mX9_markDaysInPlace (d + 1) 0 [.ref 0, .int x1, .int x2, .int x3, zU, zU, zU] [] h (zPV Q)) : zConV G mX9_markDaysInPlace (d + 1) [.ref 0, .int x1, .int x2, .int x3] h Q := zcon0 (by decide +kernel) eX9_markDaysInPlace (Nat.le_of_ble_eq_true rfl) rfl B
set_option maxRecDepth 100000 in
set_option maxHeartbeats 4000000 in
theorem sg_X9_markDaysInPlace_29 {G : zG} {d : Nat} {h : zMem} {Q : zMem → Prop} {t : Nat} {x1 : Int32} {x2 : Int32} {x3 : Int32} {x4 : Int32} {x5 : Int32} {x6 : Int32} (hS : zSh1 h t)  (B : ((zI h (t + 1) 1) ≤ x6 → Q h) ∧ (¬ (zI h (t + 1) 1) ≤ x6 → vp_in x6 8 ∧ vp_in x2 6 ∧ vp_in x3 6 ∧ vp_in x1 5 ∧ ∃ Q6 : Int32 → zMem → Prop, zConI G mX7_smelt d [.ref t, .ref 101, .int x5, .int x4, .int (zI (zsI (zsI (zcp h (t + 9 + 1 + x6.toNatClampNeg) 0 101 0 6) 101 x3.toNatClampNeg (zI (zcp h (t + 9 + 1 + x6.toNatClampNeg) 0 101 0 6) 101 x2.toNatClampNeg)) 101 x2.toNatClampNeg (0 : Int32)) 60 x1.toNatClampNeg)] (zsI (zsI (zcp h (t + 9 + 1 + x6.toNatClampNeg) 0 101 0 6) 101 x3.toNatClampNeg (zI (zcp h (t + 9 + 1 + x6.toNatClampNeg) 0 101 0 6) 101 x2.toNatClampNeg)) 101 x2.toNatClampNeg (0 : Int32)) Q6 ∧ (∀ v9 h7, Q6 v9 h7 → zSh1 h7 t ∧ zg G mX9_markDaysInPlace (d + 1) 29 [.ref 0, .int x1, .int x2, .int x3, .int x4, .int x5, .int (x6 + 1)] [] (zsI h7 102 x6.toNatClampNeg v9) (zPV Q)))) : zg G mX9_markDaysInPlace (d + 1) 29 [.ref 0, .int x1, .int x2, .int x3, .int x4, .int x5, .int x6] [] h (zPV Q) := by
  refine z_iload 16 rfl rfl ?_
  refine z_aload_n 17 rfl rfl ?_
  refine z_getR 18 rfl lX9_67 rfl (hS.1.o 0 8 rfl rfl rfl) hS.2.2.1 ?_
  refine z_getR 19 rfl lX9_208 rfl (zS_to hS hS.2.1 0 6 rfl rfl) (zS_tr hS hS.2.1 0 0 1 rfl rfl rfl) ?_
  refine z_iconst (v := 1) 20 rfl (by decide) ?_
  refine z_iald_c 21 1 rfl (by decide) (zS_to hS hS.2.1 1 100 rfl rfl) (zin (zS_tl hS hS.2.1 1 4 rfl rfl) (zvp (by decide))) ?_
  refine z_icmp_ge 22 120 rfl (by decide) ⟨fun c1 => ?_, fun c1 => ?_⟩
  · have B := B.1 c1
    exact z_vret 65 rfl rfl ⟨rfl, rfl⟩ ⟨rfl, B⟩
  · have B := B.2 c1
    refine z_aload_n 23 rfl rfl ?_
    refine z_getR 24 rfl lX9_67 rfl (hS.1.o 0 8 rfl rfl rfl) hS.2.2.1 ?_
    refine z_getR 25 rfl lX9_158 rfl (zS_to hS hS.2.1 0 6 rfl rfl) (zS_tr hS hS.2.1 0 4 9 rfl rfl rfl) ?_
    refine z_iload 26 rfl rfl ?_
    obtain ⟨o2, B⟩ := B
    refine z_aald 27 rfl (zS_to hS hS.2.1 9 104 rfl rfl) (zin (zS_tl hS hS.2.1 9 8 rfl rfl) o2) (zS_trow hS hS.2.1 9 8 6 rfl rfl rfl o2).1 ?_
    refine z_iconst (v := 0) 28 rfl (by decide) ?_
    refine z_aload_n 29 rfl rfl ?_
    refine z_getR 30 rfl lX9_58 rfl (hS.1.o 0 8 rfl rfl rfl) (hS.1.r 0 9 101 rfl rfl rfl) ?_
    refine z_iconst (v := 0) 31 rfl (by decide) ?_
    refine z_bipush (v := 6) 32 rfl (by decide) ?_
    refine z_acopy_c 33 0 0 6 rfl gacX9 (zS_trow hS hS.2.1 9 8 6 rfl rfl rfl o2).2.1 (hS.1.o 101 100 rfl rfl rfl) (zcpok_of (zS_trow hS hS.2.1 9 8 6 rfl rfl rfl o2).2.2 (hS.1.l 101 6 rfl rfl rfl) (by decide)) (Nat.le_of_ble_eq_true rfl) (by decide) (by decide) (by decide) ?_
    refine z_aload_n 34 rfl rfl ?_
    refine z_getR 35 rfl lX9_58 rfl (hS.1.o 0 8 rfl rfl rfl) (hS.1.r 0 9 101 rfl rfl rfl) ?_
    refine z_iload_n 36 rfl rfl ?_
    refine z_aload_n 37 rfl rfl ?_
    refine z_getR 38 rfl lX9_58 rfl (hS.1.o 0 8 rfl rfl rfl) (hS.1.r 0 9 101 rfl rfl rfl) ?_
    refine z_iload_n 39 rfl rfl ?_
    obtain ⟨o3, B⟩ := B
    refine z_iald 40 rfl (hS.1.o 101 100 rfl rfl rfl) (zin (hS.1.l 101 6 rfl rfl rfl) o3) ?_
    obtain ⟨o4, B⟩ := B
    refine z_iast 41 rfl (hS.1.o 101 100 rfl rfl rfl) (zin (hS.1.l 101 6 rfl rfl rfl) o4) ?_
    refine z_aload_n 42 rfl rfl ?_
    refine z_getR 43 rfl lX9_58 rfl (hS.1.o 0 8 rfl rfl rfl) (hS.1.r 0 9 101 rfl rfl rfl) ?_
    refine z_iload_n 44 rfl rfl ?_
    refine z_iconst (v := 0) 45 rfl (by decide) ?_
    refine z_iast 46 rfl (hS.1.o 101 100 rfl rfl rfl) (zin (hS.1.l 101 6 rfl rfl rfl) o3) ?_
    refine z_aload_n 47 rfl rfl ?_
    refine z_getR 48 rfl lX9_61 rfl (hS.1.o 0 8 rfl rfl rfl) (hS.1.r 0 10 102 rfl rfl rfl) ?_
    refine z_iload 49 rfl rfl ?_
    refine z_aload_n 50 rfl rfl ?_
    refine z_getR 51 rfl lX9_67 rfl (hS.1.o 0 8 rfl rfl rfl) hS.2.2.1 ?_
    refine z_aload_n 52 rfl rfl ?_
    refine z_getR 53 rfl lX9_58 rfl (hS.1.o 0 8 rfl rfl rfl) (hS.1.r 0 9 101 rfl rfl rfl) ?_
    refine z_iload 54 rfl rfl ?_
    refine z_iload 55 rfl rfl ?_
    refine z_aload_n 56 rfl rfl ?_
    refine z_getR 57 rfl lX9_37 rfl (hS.1.o 0 8 rfl rfl rfl) (hS.1.r 0 4 48 rfl rfl rfl) ?_
    refine z_getR 58 rfl lX9_134 rfl (hS.1.o 48 5 rfl rfl rfl) (hS.1.r 48 5 60 rfl rfl rfl) ?_
    refine z_iload_n 59 rfl rfl ?_
    obtain ⟨o5, B⟩ := B
    refine z_iald 60 rfl (hS.1.o 60 100 rfl rfl rfl) (zin (hS.1.l 60 5 rfl rfl rfl) o5) ?_
    obtain ⟨Q6, K8, B⟩ := B
    refine z_cVI4 (ν := mX7_smelt) 61 rfl rfl fX7_smelt gX9_249 ⟨_, rfl, rfl⟩ (by decide) (zS_to hS hS.2.1 0 6 rfl rfl) (Nat.le_of_ble_eq_true rfl) K8 (fun v9 h7 q => ?_)
    obtain ⟨hSh7, B⟩ := B v9 h7 q
    refine z_iast 62 rfl (hSh7.1.o 102 100 rfl rfl rfl) (zin (hSh7.1.l 102 8 rfl rfl rfl) o2) ?_
    refine z_iinc (v := 1) 63 rfl rfl (by decide) (by decide) rfl ?_
    refine z_goto 64 29 rfl (by decide) ?_
    exact B
set_option maxRecDepth 100000 in
set_option maxHeartbeats 4000000 in
theorem sg_X9_letter_0 {G : zG} {d : Nat} {h : zMem} {Q : Int32 → zMem → Prop} {t : Nat} {x1 : Int32} {x2 : Int32} {x3 : Int32} (hS : zSh1 h t)  (B : ∃ Q1 : Int32 → zMem → Prop, zConI G mX9_has d [.ref 0, .int (1 : Int32), .int x1] h Q1 ∧ (∀ v4 h2, Q1 v4 h2 → zSh1 h2 t ∧ (v4 = 0 → Q (-1 : Int32) h2) ∧ (¬ v4 = 0 → ∃ Q6 : Int32 → zMem → Prop, zConI G mX9_has d [.ref 0, .int (3 : Int32), .int x2] h2 Q6 ∧ (∀ v9 h7, Q6 v9 h7 → zSh1 h7 t ∧ (v9 = 0 → Q (-1 : Int32) h7) ∧ (¬ v9 = 0 → (x3 < 0 → Q (-1 : Int32) h7) ∧ (¬ x3 < 0 → (x3 ≤ (10 : Int32) → ∃ Q13 : Int32 → zMem → Prop, zConI G mX9_keenNow d [.ref 0, .int x2] h7 Q13 ∧ (∀ v16 h14, Q13 v16 h14 → zSh1 h14 t ∧ vp_in x1 8 ∧ ∃ Q18 : Int32 → zMem → Prop, zConI G mX7_smelt d [.ref t, .ref (t + 9 + 1 + x1.toNatClampNeg), .int ((100 : Int32) - ((10 : Int32) * x3)), .int v16, .int (0 : Int32)] h14 Q18 ∧ (∀ v21 h19, Q18 v21 h19 → zSh1 h19 t ∧ zg G mX9_letter (d + 1) 68 [.ref 0, .int x1, .int x2, .int x3, .int v16, .int v21, .int (0 : Int32)] [] h19 (zPI Q)))) ∧ (¬ x3 ≤ (10 : Int32) → Q (-1 : Int32) h7))))))) : zg G mX9_letter (d + 1) 0 [.ref 0, .int x1, .int x2, .int x3, zU, zU, zU] [] h (zPI Q) := by
  refine z_aload_n 0 rfl rfl ?_
  refine z_iconst (v := 1) 1 rfl (by decide) ?_
  refine z_iload_n 2 rfl rfl ?_
  obtain ⟨Q1, K3, B⟩ := B
  refine z_cVI2 (ν := mX9_has) 3 rfl rfl fX9_has gX9_117 ⟨_, rfl, rfl⟩ (by decide) (hS.1.o 0 8 rfl rfl rfl) (Nat.le_of_ble_eq_true rfl) K3 (fun v4 h2 q => ?_)
  obtain ⟨hSh2, B⟩ := B v4 h2 q
  refine z_if_eq 4 28 rfl (by decide) ⟨fun c5 => ?_, fun c5 => ?_⟩
  · have B := B.1 c5
    refine z_iconst (v := -1) 15 rfl (by decide) ?_
    exact z_iret 16 rfl rfl rfl ⟨rfl, rfl⟩ ⟨_, rfl, B⟩
  · have B := B.2 c5
    refine z_aload_n 5 rfl rfl ?_
    refine z_iconst (v := 3) 6 rfl (by decide) ?_
    refine z_iload_n 7 rfl rfl ?_
    obtain ⟨Q6, K8, B⟩ := B
    refine z_cVI2 (ν := mX9_has) 8 rfl rfl fX9_has gX9_117 ⟨_, rfl, rfl⟩ (by decide) (hSh2.1.o 0 8 rfl rfl rfl) (Nat.le_of_ble_eq_true rfl) K8 (fun v9 h7 q => ?_)
    obtain ⟨hSh7, B⟩ := B v9 h7 q
    refine z_if_eq 9 28 rfl (by decide) ⟨fun c10 => ?_, fun c10 => ?_⟩
    · have B := B.1 c10
      refine z_iconst (v := -1) 15 rfl (by decide) ?_
      exact z_iret 16 rfl rfl rfl ⟨rfl, rfl⟩ ⟨_, rfl, B⟩
    · have B := B.2 c10
      refine z_iload_n 10 rfl rfl ?_
      refine z_if_lt 11 28 rfl (by decide) ⟨fun c11 => ?_, fun c11 => ?_⟩
      · have B := B.1 c11
        refine z_iconst (v := -1) 15 rfl (by decide) ?_
        exact z_iret 16 rfl rfl rfl ⟨rfl, rfl⟩ ⟨_, rfl, B⟩
      · have B := B.2 c11
        refine z_iload_n 12 rfl rfl ?_
        refine z_bipush (v := 10) 13 rfl (by decide) ?_
        refine z_icmp_le 14 30 rfl (by decide) ⟨fun c12 => ?_, fun c12 => ?_⟩
        · have B := B.1 c12
          refine z_aload_n 17 rfl rfl ?_
          refine z_iload_n 18 rfl rfl ?_
          obtain ⟨Q13, K15, B⟩ := B
          refine z_cVI1 (ν := mX9_keenNow) 19 rfl rfl fX9_keenNow gX9_169 ⟨_, rfl, rfl⟩ (by decide) (hSh7.1.o 0 8 rfl rfl rfl) (Nat.le_of_ble_eq_true rfl) K15 (fun v16 h14 q => ?_)
          obtain ⟨hSh14, B⟩ := B v16 h14 q
          refine z_istore 20 rfl (by decide) rfl ?_
          refine z_aload_n 21 rfl rfl ?_
          refine z_getR 22 rfl lX9_67 rfl (hSh14.1.o 0 8 rfl rfl rfl) hSh14.2.2.1 ?_
          refine z_aload_n 23 rfl rfl ?_
          refine z_getR 24 rfl lX9_67 rfl (hSh14.1.o 0 8 rfl rfl rfl) hSh14.2.2.1 ?_
          refine z_getR 25 rfl lX9_158 rfl (zS_to hSh14 hSh14.2.1 0 6 rfl rfl) (zS_tr hSh14 hSh14.2.1 0 4 9 rfl rfl rfl) ?_
          refine z_iload_n 26 rfl rfl ?_
          obtain ⟨o17, B⟩ := B
          refine z_aald 27 rfl (zS_to hSh14 hSh14.2.1 9 104 rfl rfl) (zin (zS_tl hSh14 hSh14.2.1 9 8 rfl rfl) o17) (zS_trow hSh14 hSh14.2.1 9 8 6 rfl rfl rfl o17).1 ?_
          refine z_bipush (v := 100) 28 rfl (by decide) ?_
          refine z_bipush (v := 10) 29 rfl (by decide) ?_
          refine z_iload_n 30 rfl rfl ?_
          refine z_imul 31 rfl ?_
          refine z_isub 32 rfl ?_
          refine z_iload 33 rfl rfl ?_
          refine z_iconst (v := 0) 34 rfl (by decide) ?_
          obtain ⟨Q18, K20, B⟩ := B
          refine z_cVI4 (ν := mX7_smelt) 35 rfl rfl fX7_smelt gX9_249 ⟨_, rfl, rfl⟩ (by decide) (zS_to hSh14 hSh14.2.1 0 6 rfl rfl) (Nat.le_of_ble_eq_true rfl) K20 (fun v21 h19 q => ?_)
          obtain ⟨hSh19, B⟩ := B v21 h19 q
          refine z_istore 36 rfl (by decide) rfl ?_
          refine z_iconst (v := 0) 37 rfl (by decide) ?_
          refine z_istore 38 rfl (by decide) rfl ?_
          exact B
        · have B := B.2 c12
          refine z_iconst (v := -1) 15 rfl (by decide) ?_
          exact z_iret 16 rfl rfl rfl ⟨rfl, rfl⟩ ⟨_, rfl, B⟩
theorem cn_X9_letter {G : zG} {d : Nat} {h : zMem} {Q : Int32 → zMem → Prop} {x1 : Int32} {x2 : Int32} {x3 : Int32} (B : zg G mX9_letter (d + 1) 0 [.ref 0, .int x1, .int x2, .int x3, zU, zU, zU] [] h (zPI Q)) : zConI G mX9_letter (d + 1) [.ref 0, .int x1, .int x2, .int x3] h Q := zcon0 (by decide +kernel) eX9_letter (Nat.le_of_ble_eq_true rfl) rfl B
set_option maxRecDepth 100000 in
set_option maxHeartbeats 4000000 in
theorem sg_X9_letter_68 {G : zG} {d : Nat} {h : zMem} {Q : Int32 → zMem → Prop} {t : Nat} {x1 : Int32} {x2 : Int32} {x3 : Int32} {x4 : Int32} {x5 : Int32} {x6 : Int32} (hS : zSh1 h t)  (B : ((zI h (t + 1) 1) ≤ x6 → Q (-2 : Int32) h) ∧ (¬ (zI h (t + 1) 1) ≤ x6 → vp_in x6 8 ∧ ∃ Q3 : Int32 → zMem → Prop, zConI G mX7_smelt d [.ref t, .ref (t + 9 + 1 + x6.toNatClampNeg), .int (100 : Int32), .int x4, .int (0 : Int32)] h Q3 ∧ (∀ v6 h4, Q3 v6 h4 → zSh1 h4 t ∧ (¬ v6 = x5 → zg G mX9_letter (d + 1) 68 [.ref 0, .int x1, .int x2, .int x3, .int x4, .int x5, .int (x6 + 1)] [] h4 (zPI Q)) ∧ (v6 = x5 → Q x6 h4)))) : zg G mX9_letter (d + 1) 68 [.ref 0, .int x1, .int x2, .int x3, .int x4, .int x5, .int x6] [] h (zPI Q) := by
  refine z_iload 39 rfl rfl ?_
  refine z_aload_n 40 rfl rfl ?_
  refine z_getR 41 rfl lX9_67 rfl (hS.1.o 0 8 rfl rfl rfl) hS.2.2.1 ?_
  refine z_getR 42 rfl lX9_208 rfl (zS_to hS hS.2.1 0 6 rfl rfl) (zS_tr hS hS.2.1 0 0 1 rfl rfl rfl) ?_
  refine z_iconst (v := 1) 43 rfl (by decide) ?_
  refine z_iald_c 44 1 rfl (by decide) (zS_to hS hS.2.1 1 100 rfl rfl) (zin (zS_tl hS hS.2.1 1 4 rfl rfl) (zvp (by decide))) ?_
  refine z_icmp_ge 45 118 rfl (by decide) ⟨fun c1 => ?_, fun c1 => ?_⟩
  · have B := B.1 c1
    refine z_bipush (v := -2) 63 rfl (by decide) ?_
    exact z_iret 64 rfl rfl rfl ⟨rfl, rfl⟩ ⟨_, rfl, B⟩
  · have B := B.2 c1
    refine z_aload_n 46 rfl rfl ?_
    refine z_getR 47 rfl lX9_67 rfl (hS.1.o 0 8 rfl rfl rfl) hS.2.2.1 ?_
    refine z_aload_n 48 rfl rfl ?_
    refine z_getR 49 rfl lX9_67 rfl (hS.1.o 0 8 rfl rfl rfl) hS.2.2.1 ?_
    refine z_getR 50 rfl lX9_158 rfl (zS_to hS hS.2.1 0 6 rfl rfl) (zS_tr hS hS.2.1 0 4 9 rfl rfl rfl) ?_
    refine z_iload 51 rfl rfl ?_
    obtain ⟨o2, B⟩ := B
    refine z_aald 52 rfl (zS_to hS hS.2.1 9 104 rfl rfl) (zin (zS_tl hS hS.2.1 9 8 rfl rfl) o2) (zS_trow hS hS.2.1 9 8 6 rfl rfl rfl o2).1 ?_
    refine z_bipush (v := 100) 53 rfl (by decide) ?_
    refine z_iload 54 rfl rfl ?_
    refine z_iconst (v := 0) 55 rfl (by decide) ?_
    obtain ⟨Q3, K5, B⟩ := B
    refine z_cVI4 (ν := mX7_smelt) 56 rfl rfl fX7_smelt gX9_249 ⟨_, rfl, rfl⟩ (by decide) (zS_to hS hS.2.1 0 6 rfl rfl) (Nat.le_of_ble_eq_true rfl) K5 (fun v6 h4 q => ?_)
    obtain ⟨hSh4, B⟩ := B v6 h4 q
    refine z_iload 57 rfl rfl ?_
    refine z_icmp_ne 58 112 rfl (by decide) ⟨fun c7 => ?_, fun c7 => ?_⟩
    · have B := B.1 c7
      refine z_iinc (v := 1) 61 rfl rfl (by decide) (by decide) rfl ?_
      refine z_goto 62 68 rfl (by decide) ?_
      exact B
    · have B := B.2 c7
      refine z_iload 59 rfl rfl ?_
      exact z_iret 60 rfl rfl rfl ⟨rfl, rfl⟩ ⟨_, rfl, B⟩
set_option maxRecDepth 100000 in
set_option maxHeartbeats 4000000 in
theorem sg_X9_firstWrong_0 {G : zG} {d : Nat} {h : zMem} {Q : Int32 → zMem → Prop} {t : Nat} {x1 : Int32} (hS : zSh1 h t)  (B : (x1 < (1 : Int32) → Q (-1 : Int32) h) ∧ (¬ x1 < (1 : Int32) → (x1 ≤ (99 : Int32) → ∃ Q3 : zMem → Prop, zConV G mX5_copy d [.ref 82, .ref 48] h Q3 ∧ (∀ h4, Q3 h4 → zSh1 h4 t ∧ zg G mX9_firstWrong (d + 1) 26 [.ref 0, .int x1, .int (1 : Int32)] [] h4 (zPI Q))) ∧ (¬ x1 ≤ (99 : Int32) → Q (-1 : Int32) h))) : zg G mX9_firstWrong (d + 1) 0 [.ref 0, .int x1, zU] [] h (zPI Q) := by
  refine z_iload_n 0 rfl rfl ?_
  refine z_iconst (v := 1) 1 rfl (by decide) ?_
  refine z_icmp_lt 2 11 rfl (by decide) ⟨fun c1 => ?_, fun c1 => ?_⟩
  · have B := B.1 c1
    refine z_iconst (v := -1) 6 rfl (by decide) ?_
    exact z_iret 7 rfl rfl rfl ⟨rfl, rfl⟩ ⟨_, rfl, B⟩
  · have B := B.2 c1
    refine z_iload_n 3 rfl rfl ?_
    refine z_bipush (v := 99) 4 rfl (by decide) ?_
    refine z_icmp_le 5 13 rfl (by decide) ⟨fun c2 => ?_, fun c2 => ?_⟩
    · have B := B.1 c2
      refine z_aload_n 8 rfl rfl ?_
      refine z_getR 9 rfl lX9_44 rfl (hS.1.o 0 8 rfl rfl rfl) (hS.1.r 0 6 82 rfl rfl rfl) ?_
      refine z_aload_n 10 rfl rfl ?_
      refine z_getR 11 rfl lX9_37 rfl (hS.1.o 0 8 rfl rfl rfl) (hS.1.r 0 4 48 rfl rfl rfl) ?_
      obtain ⟨Q3, K5, B⟩ := B
      refine z_cVV1 (ν := mX5_copy) 12 rfl rfl fX5_copy gX9_226 ⟨_, rfl, rfl⟩ (by decide) (hS.1.o 82 5 rfl rfl rfl) (Nat.le_of_ble_eq_true rfl) K5 (fun h4 q => ?_)
      obtain ⟨hSh4, B⟩ := B h4 q
      refine z_iconst (v := 1) 13 rfl (by decide) ?_
      refine z_istore_n 14 rfl (by decide) rfl ?_
      exact B
    · have B := B.2 c2
      refine z_iconst (v := -1) 6 rfl (by decide) ?_
      exact z_iret 7 rfl rfl rfl ⟨rfl, rfl⟩ ⟨_, rfl, B⟩
theorem cn_X9_firstWrong {G : zG} {d : Nat} {h : zMem} {Q : Int32 → zMem → Prop} {x1 : Int32} (B : zg G mX9_firstWrong (d + 1) 0 [.ref 0, .int x1, zU] [] h (zPI Q)) : zConI G mX9_firstWrong (d + 1) [.ref 0, .int x1] h Q := zcon0 (by decide +kernel) eX9_firstWrong (Nat.le_of_ble_eq_true rfl) rfl B
set_option maxRecDepth 100000 in
set_option maxHeartbeats 4000000 in
theorem sg_X9_firstWrong_26 {G : zG} {d : Nat} {h : zMem} {Q : Int32 → zMem → Prop} {t : Nat} {x1 : Int32} {x2 : Int32} (hS : zSh1 h t)  (B : (x1 < x2 → Q (-2 : Int32) h) ∧ (¬ x1 < x2 → ∃ Q2 : zMem → Prop, zConV G mX5_goThroughMorning d [.ref 82, .ref t] h Q2 ∧ (∀ h3, Q2 h3 → zSh1 h3 t ∧ ((zI h3 82 13) ≤ (zI h3 48 13) → zg G mX9_firstWrong (d + 1) 26 [.ref 0, .int x1, .int (x2 + 1)] [] h3 (zPI Q)) ∧ (¬ (zI h3 82 13) ≤ (zI h3 48 13) → Q x2 h3)))) : zg G mX9_firstWrong (d + 1) 26 [.ref 0, .int x1, .int x2] [] h (zPI Q) := by
  refine z_iload_n 15 rfl rfl ?_
  refine z_iload_n 16 rfl rfl ?_
  refine z_icmp_gt 17 67 rfl (by decide) ⟨fun c1 => ?_, fun c1 => ?_⟩
  · have B := B.1 c1
    refine z_bipush (v := -2) 34 rfl (by decide) ?_
    exact z_iret 35 rfl rfl rfl ⟨rfl, rfl⟩ ⟨_, rfl, B⟩
  · have B := B.2 c1
    refine z_aload_n 18 rfl rfl ?_
    refine z_getR 19 rfl lX9_44 rfl (hS.1.o 0 8 rfl rfl rfl) (hS.1.r 0 6 82 rfl rfl rfl) ?_
    refine z_aload_n 20 rfl rfl ?_
    refine z_getR 21 rfl lX9_67 rfl (hS.1.o 0 8 rfl rfl rfl) hS.2.2.1 ?_
    obtain ⟨Q2, K4, B⟩ := B
    refine z_cVV1 (ν := mX5_goThroughMorning) 22 rfl rfl fX5_goThroughMorning gX9_198 ⟨_, rfl, rfl⟩ (by decide) (hS.1.o 82 5 rfl rfl rfl) (Nat.le_of_ble_eq_true rfl) K4 (fun h3 q => ?_)
    obtain ⟨hSh3, B⟩ := B h3 q
    refine z_aload_n 23 rfl rfl ?_
    refine z_getR 24 rfl lX9_44 rfl (hSh3.1.o 0 8 rfl rfl rfl) (hSh3.1.r 0 6 82 rfl rfl rfl) ?_
    refine z_getI 25 rfl lX9_253 rfl (hSh3.1.o 82 5 rfl rfl rfl) ?_
    refine z_aload_n 26 rfl rfl ?_
    refine z_getR 27 rfl lX9_37 rfl (hSh3.1.o 0 8 rfl rfl rfl) (hSh3.1.r 0 4 48 rfl rfl rfl) ?_
    refine z_getI 28 rfl lX9_253 rfl (hSh3.1.o 48 5 rfl rfl rfl) ?_
    refine z_icmp_le 29 61 rfl (by decide) ⟨fun c5 => ?_, fun c5 => ?_⟩
    · have B := B.1 c5
      refine z_iinc (v := 1) 32 rfl rfl (by decide) (by decide) rfl ?_
      refine z_goto 33 26 rfl (by decide) ?_
      exact B
    · have B := B.2 c5
      refine z_iload_n 30 rfl rfl ?_
      exact z_iret 31 rfl rfl rfl ⟨rfl, rfl⟩ ⟨_, rfl, B⟩
set_option maxRecDepth 100000 in
set_option maxHeartbeats 4000000 in
theorem sg_X9_rests_0 {G : zG} {d : Nat} {h : zMem} {Q : Int32 → zMem → Prop} {t : Nat} {x1 : Int32} (hS : zSh1 h t)  (B : ∃ Q1 : Int32 → zMem → Prop, zConI G mX9_canBurn d [.ref 0, .int x1] h Q1 ∧ (∀ v4 h2, Q1 v4 h2 → zSh1 h2 t ∧ (¬ v4 = 0 → ∃ Q6 : zMem → Prop, zConV G mX9_countFeastThinkers d [.ref 0, .int x1] h2 Q6 ∧ (∀ h7, Q6 h7 → zSh1 h7 t ∧ zg G mX9_rests (d + 1) 19 [.ref 0, .int x1, .int (0 : Int32), .int (0 : Int32), zU] [] h7 (zPI Q))) ∧ (v4 = 0 → Q (-1 : Int32) h2))) : zg G mX9_rests (d + 1) 0 [.ref 0, .int x1, zU, zU, zU] [] h (zPI Q) := by
  refine z_aload_n 0 rfl rfl ?_
  refine z_iload_n 1 rfl rfl ?_
  obtain ⟨Q1, K3, B⟩ := B
  refine z_cVI1 (ν := mX9_canBurn) 2 rfl rfl fX9_canBurn gX9_256 ⟨_, rfl, rfl⟩ (by decide) (hS.1.o 0 8 rfl rfl rfl) (Nat.le_of_ble_eq_true rfl) K3 (fun v4 h2 q => ?_)
  obtain ⟨hSh2, B⟩ := B v4 h2 q
  refine z_if_ne 3 10 rfl (by decide) ⟨fun c5 => ?_, fun c5 => ?_⟩
  · have B := B.1 c5
    refine z_aload_n 6 rfl rfl ?_
    refine z_iload_n 7 rfl rfl ?_
    obtain ⟨Q6, K8, B⟩ := B
    refine z_cVV1 (ν := mX9_countFeastThinkers) 8 rfl rfl fX9_countFeastThinkers gX9_260 ⟨_, rfl, rfl⟩ (by decide) (hSh2.1.o 0 8 rfl rfl rfl) (Nat.le_of_ble_eq_true rfl) K8 (fun h7 q => ?_)
    obtain ⟨hSh7, B⟩ := B h7 q
    refine z_iconst (v := 0) 9 rfl (by decide) ?_
    refine z_istore_n 10 rfl (by decide) rfl ?_
    refine z_iconst (v := 0) 11 rfl (by decide) ?_
    refine z_istore_n 12 rfl (by decide) rfl ?_
    exact B
  · have B := B.2 c5
    refine z_iconst (v := -1) 4 rfl (by decide) ?_
    exact z_iret 5 rfl rfl rfl ⟨rfl, rfl⟩ ⟨_, rfl, B⟩
theorem cn_X9_rests {G : zG} {d : Nat} {h : zMem} {Q : Int32 → zMem → Prop} {x1 : Int32} (B : zg G mX9_rests (d + 1) 0 [.ref 0, .int x1, zU, zU, zU] [] h (zPI Q)) : zConI G mX9_rests (d + 1) [.ref 0, .int x1] h Q := zcon0 (by decide +kernel) eX9_rests (Nat.le_of_ble_eq_true rfl) rfl B
set_option maxRecDepth 100000 in
set_option maxHeartbeats 4000000 in
theorem sg_X9_rests_19 {G : zG} {d : Nat} {h : zMem} {Q : Int32 → zMem → Prop} {t : Nat} {x1 : Int32} {x2 : Int32} {x3 : Int32} (hS : zSh1 h t)  (B : ((zI h (t + 1) 0) ≤ x3 → Q x2 h) ∧ (¬ (zI h (t + 1) 0) ≤ x3 → zg G mX9_rests (d + 1) 35 [.ref 0, .int x1, .int x2, .int x3, .int (0 : Int32)] [] h (zPI Q))) : zg G mX9_rests (d + 1) 19 [.ref 0, .int x1, .int x2, .int x3, zU] [] h (zPI Q) := by
  refine z_iload_n 13 rfl rfl ?_
  refine z_aload_n 14 rfl rfl ?_
  refine z_getR 15 rfl lX9_67 rfl (hS.1.o 0 8 rfl rfl rfl) hS.2.2.1 ?_
  refine z_getR 16 rfl lX9_208 rfl (zS_to hS hS.2.1 0 6 rfl rfl) (zS_tr hS hS.2.1 0 0 1 rfl rfl rfl) ?_
  refine z_iconst (v := 0) 17 rfl (by decide) ?_
  refine z_iald_c 18 0 rfl (by decide) (zS_to hS hS.2.1 1 100 rfl rfl) (zin (zS_tl hS hS.2.1 1 4 rfl rfl) (zvp (by decide))) ?_
  refine z_icmp_ge 19 74 rfl (by decide) ⟨fun c1 => ?_, fun c1 => ?_⟩
  · have B := B.1 c1
    refine z_iload_n 39 rfl rfl ?_
    exact z_iret 40 rfl rfl rfl ⟨rfl, rfl⟩ ⟨_, rfl, B⟩
  · have B := B.2 c1
    refine z_iconst (v := 0) 20 rfl (by decide) ?_
    refine z_istore 21 rfl (by decide) rfl ?_
    exact B
set_option maxRecDepth 100000 in
set_option maxHeartbeats 4000000 in
theorem sg_X9_rests_35 {G : zG} {d : Nat} {h : zMem} {Q : Int32 → zMem → Prop} {t : Nat} {x1 : Int32} {x2 : Int32} {x3 : Int32} {x4 : Int32} (hS : zSh1 h t)  (B : ((zI h (t + 1) 0) ≤ x4 → zg G mX9_rests (d + 1) 19 [.ref 0, .int x1, .int x2, .int (x3 + 1), zU] [] h (zPI Q)) ∧ (¬ (zI h (t + 1) 0) ≤ x4 → ∃ Q2 : Int32 → zMem → Prop, zConI G mX9_isRest d [.ref 0, .int x3, .int x4] h Q2 ∧ (∀ v5 h3, Q2 v5 h3 → zSh1 h3 t ∧ (v5 = 0 → zg G mX9_rests (d + 1) 35 [.ref 0, .int x1, .int x2, .int x3, .int (x4 + 1)] [] h3 (zPI Q)) ∧ (¬ v5 = 0 → zg G mX9_rests (d + 1) 35 [.ref 0, .int x1, .int (x2 + 1), .int x3, .int (x4 + 1)] [] h3 (zPI Q))))) : zg G mX9_rests (d + 1) 35 [.ref 0, .int x1, .int x2, .int x3, .int x4] [] h (zPI Q) := by
  refine z_iload 22 rfl rfl ?_
  refine z_aload_n 23 rfl rfl ?_
  refine z_getR 24 rfl lX9_67 rfl (hS.1.o 0 8 rfl rfl rfl) hS.2.2.1 ?_
  refine z_getR 25 rfl lX9_208 rfl (zS_to hS hS.2.1 0 6 rfl rfl) (zS_tr hS hS.2.1 0 0 1 rfl rfl rfl) ?_
  refine z_iconst (v := 0) 26 rfl (by decide) ?_
  refine z_iald_c 27 0 rfl (by decide) (zS_to hS hS.2.1 1 100 rfl rfl) (zin (zS_tl hS hS.2.1 1 4 rfl rfl) (zvp (by decide))) ?_
  refine z_icmp_ge 28 68 rfl (by decide) ⟨fun c1 => ?_, fun c1 => ?_⟩
  · have B := B.1 c1
    refine z_iinc (v := 1) 37 rfl rfl (by decide) (by decide) rfl ?_
    refine z_goto 38 19 rfl (by decide) ?_
    refine z_drop 4 ?_
    exact B
  · have B := B.2 c1
    refine z_aload_n 29 rfl rfl ?_
    refine z_iload_n 30 rfl rfl ?_
    refine z_iload 31 rfl rfl ?_
    obtain ⟨Q2, K4, B⟩ := B
    refine z_cVI2 (ν := mX9_isRest) 32 rfl rfl fX9_isRest gX9_263 ⟨_, rfl, rfl⟩ (by decide) (hS.1.o 0 8 rfl rfl rfl) (Nat.le_of_ble_eq_true rfl) K4 (fun v5 h3 q => ?_)
    obtain ⟨hSh3, B⟩ := B v5 h3 q
    refine z_if_eq 33 62 rfl (by decide) ⟨fun c6 => ?_, fun c6 => ?_⟩
    · have B := B.1 c6
      refine z_iinc (v := 1) 35 rfl rfl (by decide) (by decide) rfl ?_
      refine z_goto 36 35 rfl (by decide) ?_
      exact B
    · have B := B.2 c6
      refine z_iinc (v := 1) 34 rfl rfl (by decide) (by decide) rfl ?_
      refine z_iinc (v := 1) 35 rfl rfl (by decide) (by decide) rfl ?_
      refine z_goto 36 35 rfl (by decide) ?_
      exact B
set_option maxRecDepth 100000 in
set_option maxHeartbeats 4000000 in
theorem sg_X9_rest_0 {G : zG} {d : Nat} {h : zMem} {Q : Int32 → zMem → Prop} {t : Nat} {x1 : Int32} {x2 : Int32} (hS : zSh1 h t)  (B : ∃ Q1 : Int32 → zMem → Prop, zConI G mX9_canBurn d [.ref 0, .int x1] h Q1 ∧ (∀ v4 h2, Q1 v4 h2 → zSh1 h2 t ∧ (v4 = 0 → Q (-1 : Int32) h2) ∧ (¬ v4 = 0 → (0 ≤ x2 → ∃ Q7 : zMem → Prop, zConV G mX9_countFeastThinkers d [.ref 0, .int x1] h2 Q7 ∧ (∀ h8, Q7 h8 → zSh1 h8 t ∧ zg G mX9_rest (d + 1) 24 [.ref 0, .int x1, .int x2, .int x2, .int (0 : Int32), zU] [] h8 (zPI Q))) ∧ (¬ 0 ≤ x2 → Q (-1 : Int32) h2)))) : zg G mX9_rest (d + 1) 0 [.ref 0, .int x1, .int x2, zU, zU, zU] [] h (zPI Q) := by
  refine z_aload_n 0 rfl rfl ?_
  refine z_iload_n 1 rfl rfl ?_
  obtain ⟨Q1, K3, B⟩ := B
  refine z_cVI1 (ν := mX9_canBurn) 2 rfl rfl fX9_canBurn gX9_256 ⟨_, rfl, rfl⟩ (by decide) (hS.1.o 0 8 rfl rfl rfl) (Nat.le_of_ble_eq_true rfl) K3 (fun v4 h2 q => ?_)
  obtain ⟨hSh2, B⟩ := B v4 h2 q
  refine z_if_eq 3 12 rfl (by decide) ⟨fun c5 => ?_, fun c5 => ?_⟩
  · have B := B.1 c5
    refine z_iconst (v := -1) 6 rfl (by decide) ?_
    exact z_iret 7 rfl rfl rfl ⟨rfl, rfl⟩ ⟨_, rfl, B⟩
  · have B := B.2 c5
    refine z_iload_n 4 rfl rfl ?_
    refine z_if_ge 5 14 rfl (by decide) ⟨fun c6 => ?_, fun c6 => ?_⟩
    · have B := B.1 c6
      refine z_aload_n 8 rfl rfl ?_
      refine z_iload_n 9 rfl rfl ?_
      obtain ⟨Q7, K9, B⟩ := B
      refine z_cVV1 (ν := mX9_countFeastThinkers) 10 rfl rfl fX9_countFeastThinkers gX9_260 ⟨_, rfl, rfl⟩ (by decide) (hSh2.1.o 0 8 rfl rfl rfl) (Nat.le_of_ble_eq_true rfl) K9 (fun h8 q => ?_)
      obtain ⟨hSh8, B⟩ := B h8 q
      refine z_iload_n 11 rfl rfl ?_
      refine z_istore_n 12 rfl (by decide) rfl ?_
      refine z_iconst (v := 0) 13 rfl (by decide) ?_
      refine z_istore 14 rfl (by decide) rfl ?_
      exact B
    · have B := B.2 c6
      refine z_iconst (v := -1) 6 rfl (by decide) ?_
      exact z_iret 7 rfl rfl rfl ⟨rfl, rfl⟩ ⟨_, rfl, B⟩
theorem cn_X9_rest {G : zG} {d : Nat} {h : zMem} {Q : Int32 → zMem → Prop} {x1 : Int32} {x2 : Int32} (B : zg G mX9_rest (d + 1) 0 [.ref 0, .int x1, .int x2, zU, zU, zU] [] h (zPI Q)) : zConI G mX9_rest (d + 1) [.ref 0, .int x1, .int x2] h Q := zcon0 (by decide +kernel) eX9_rest (Nat.le_of_ble_eq_true rfl) rfl B
set_option maxRecDepth 100000 in
set_option maxHeartbeats 4000000 in
theorem sg_X9_rest_24 {G : zG} {d : Nat} {h : zMem} {Q : Int32 → zMem → Prop} {t : Nat} {x1 : Int32} {x2 : Int32} {x3 : Int32} {x4 : Int32} (hS : zSh1 h t)  (B : ((zI h (t + 1) 0) ≤ x4 → Q (-2 : Int32) h) ∧ (¬ (zI h (t + 1) 0) ≤ x4 → zg G mX9_rest (d + 1) 41 [.ref 0, .int x1, .int x2, .int x3, .int x4, .int (0 : Int32)] [] h (zPI Q))) : zg G mX9_rest (d + 1) 24 [.ref 0, .int x1, .int x2, .int x3, .int x4, zU] [] h (zPI Q) := by
  refine z_iload 15 rfl rfl ?_
  refine z_aload_n 16 rfl rfl ?_
  refine z_getR 17 rfl lX9_67 rfl (hS.1.o 0 8 rfl rfl rfl) hS.2.2.1 ?_
  refine z_getR 18 rfl lX9_208 rfl (zS_to hS hS.2.1 0 6 rfl rfl) (zS_tr hS hS.2.1 0 0 1 rfl rfl rfl) ?_
  refine z_iconst (v := 0) 19 rfl (by decide) ?_
  refine z_iald_c 20 0 rfl (by decide) (zS_to hS hS.2.1 1 100 rfl rfl) (zin (zS_tl hS hS.2.1 1 4 rfl rfl) (zvp (by decide))) ?_
  refine z_icmp_ge 21 94 rfl (by decide) ⟨fun c1 => ?_, fun c1 => ?_⟩
  · have B := B.1 c1
    refine z_bipush (v := -2) 49 rfl (by decide) ?_
    exact z_iret 50 rfl rfl rfl ⟨rfl, rfl⟩ ⟨_, rfl, B⟩
  · have B := B.2 c1
    refine z_iconst (v := 0) 22 rfl (by decide) ?_
    refine z_istore 23 rfl (by decide) rfl ?_
    exact B
set_option maxRecDepth 100000 in
set_option maxHeartbeats 4000000 in
theorem sg_X9_rest_41 {G : zG} {d : Nat} {h : zMem} {Q : Int32 → zMem → Prop} {t : Nat} {x1 : Int32} {x2 : Int32} {x3 : Int32} {x4 : Int32} {x5 : Int32} (hS : zSh1 h t)  (B : ((zI h (t + 1) 0) ≤ x5 → zg G mX9_rest (d + 1) 24 [.ref 0, .int x1, .int x2, .int x3, .int (x4 + 1), zU] [] h (zPI Q)) ∧ (¬ (zI h (t + 1) 0) ≤ x5 → ∃ Q2 : Int32 → zMem → Prop, zConI G mX9_isRest d [.ref 0, .int x4, .int x5] h Q2 ∧ (∀ v5 h3, Q2 v5 h3 → zSh1 h3 t ∧ (v5 = 0 → zg G mX9_rest (d + 1) 41 [.ref 0, .int x1, .int x2, .int x3, .int x4, .int (x5 + 1)] [] h3 (zPI Q)) ∧ (¬ v5 = 0 → (¬ x3 = 0 → zg G mX9_rest (d + 1) 41 [.ref 0, .int x1, .int x2, .int (x3 + (-1)), .int x4, .int (x5 + 1)] [] h3 (zPI Q)) ∧ (x3 = 0 → Q (((10 : Int32) * x4) + x5) h3))))) : zg G mX9_rest (d + 1) 41 [.ref 0, .int x1, .int x2, .int x3, .int x4, .int x5] [] h (zPI Q) := by
  refine z_iload 24 rfl rfl ?_
  refine z_aload_n 25 rfl rfl ?_
  refine z_getR 26 rfl lX9_67 rfl (hS.1.o 0 8 rfl rfl rfl) hS.2.2.1 ?_
  refine z_getR 27 rfl lX9_208 rfl (zS_to hS hS.2.1 0 6 rfl rfl) (zS_tr hS hS.2.1 0 0 1 rfl rfl rfl) ?_
  refine z_iconst (v := 0) 28 rfl (by decide) ?_
  refine z_iald_c 29 0 rfl (by decide) (zS_to hS hS.2.1 1 100 rfl rfl) (zin (zS_tl hS hS.2.1 1 4 rfl rfl) (zvp (by decide))) ?_
  refine z_icmp_ge 30 88 rfl (by decide) ⟨fun c1 => ?_, fun c1 => ?_⟩
  · have B := B.1 c1
    refine z_iinc (v := 1) 47 rfl rfl (by decide) (by decide) rfl ?_
    refine z_goto 48 24 rfl (by decide) ?_
    refine z_drop 5 ?_
    exact B
  · have B := B.2 c1
    refine z_aload_n 31 rfl rfl ?_
    refine z_iload 32 rfl rfl ?_
    refine z_iload 33 rfl rfl ?_
    obtain ⟨Q2, K4, B⟩ := B
    refine z_cVI2 (ν := mX9_isRest) 34 rfl rfl fX9_isRest gX9_263 ⟨_, rfl, rfl⟩ (by decide) (hS.1.o 0 8 rfl rfl rfl) (Nat.le_of_ble_eq_true rfl) K4 (fun v5 h3 q => ?_)
    obtain ⟨hSh3, B⟩ := B v5 h3 q
    refine z_if_eq 35 82 rfl (by decide) ⟨fun c6 => ?_, fun c6 => ?_⟩
    · have B := B.1 c6
      refine z_iinc (v := 1) 45 rfl rfl (by decide) (by decide) rfl ?_
      refine z_goto 46 41 rfl (by decide) ?_
      exact B
    · have B := B.2 c6
      refine z_iload_n 36 rfl rfl ?_
      refine z_if_ne 37 79 rfl (by decide) ⟨fun c7 => ?_, fun c7 => ?_⟩
      · have B := B.1 c7
        refine z_iinc (v := -1) 44 rfl rfl (by decide) (by decide) rfl ?_
        refine z_iinc (v := 1) 45 rfl rfl (by decide) (by decide) rfl ?_
        refine z_goto 46 41 rfl (by decide) ?_
        exact B
      · have B := B.2 c7
        refine z_bipush (v := 10) 38 rfl (by decide) ?_
        refine z_iload 39 rfl rfl ?_
        refine z_imul 40 rfl ?_
        refine z_iload 41 rfl rfl ?_
        refine z_iadd 42 rfl ?_
        exact z_iret 43 rfl rfl rfl ⟨rfl, rfl⟩ ⟨_, rfl, B⟩
set_option maxRecDepth 100000 in
set_option maxHeartbeats 4000000 in
theorem sg_X9_canBurn_0 {G : zG} {d : Nat} {h : zMem} {Q : Int32 → zMem → Prop} {t : Nat} {x1 : Int32} (hS : zSh1 h t)  (B : (x1 < (1 : Int32) → Q (0 : Int32) h) ∧ (¬ x1 < (1 : Int32) → ((99 : Int32) < x1 → Q (0 : Int32) h) ∧ (¬ (99 : Int32) < x1 → ((zI h (t + 1) 0) ≤ 0 → Q (0 : Int32) h) ∧ (¬ (zI h (t + 1) 0) ≤ 0 → ((zI h (t + 1) 1) ≤ 0 → Q (0 : Int32) h) ∧ (¬ (zI h (t + 1) 1) ≤ 0 → Q (1 : Int32) h))))) : zg G mX9_canBurn d 0 [.ref 0, .int x1] [] h (zPI Q) := by
  refine z_iload_n 0 rfl rfl ?_
  refine z_iconst (v := 1) 1 rfl (by decide) ?_
  refine z_icmp_lt 2 39 rfl (by decide) ⟨fun c1 => ?_, fun c1 => ?_⟩
  · have B := B.1 c1
    refine z_iconst (v := 0) 20 rfl (by decide) ?_
    exact z_iret 21 rfl rfl rfl ⟨rfl, rfl⟩ ⟨_, rfl, B⟩
  · have B := B.2 c1
    refine z_iload_n 3 rfl rfl ?_
    refine z_bipush (v := 99) 4 rfl (by decide) ?_
    refine z_icmp_gt 5 39 rfl (by decide) ⟨fun c2 => ?_, fun c2 => ?_⟩
    · have B := B.1 c2
      refine z_iconst (v := 0) 20 rfl (by decide) ?_
      exact z_iret 21 rfl rfl rfl ⟨rfl, rfl⟩ ⟨_, rfl, B⟩
    · have B := B.2 c2
      refine z_aload_n 6 rfl rfl ?_
      refine z_getR 7 rfl lX9_67 rfl (hS.1.o 0 8 rfl rfl rfl) hS.2.2.1 ?_
      refine z_getR 8 rfl lX9_208 rfl (zS_to hS hS.2.1 0 6 rfl rfl) (zS_tr hS hS.2.1 0 0 1 rfl rfl rfl) ?_
      refine z_iconst (v := 0) 9 rfl (by decide) ?_
      refine z_iald_c 10 0 rfl (by decide) (zS_to hS hS.2.1 1 100 rfl rfl) (zin (zS_tl hS hS.2.1 1 4 rfl rfl) (zvp (by decide))) ?_
      refine z_if_le 11 39 rfl (by decide) ⟨fun c3 => ?_, fun c3 => ?_⟩
      · have B := B.1 c3
        refine z_iconst (v := 0) 20 rfl (by decide) ?_
        exact z_iret 21 rfl rfl rfl ⟨rfl, rfl⟩ ⟨_, rfl, B⟩
      · have B := B.2 c3
        refine z_aload_n 12 rfl rfl ?_
        refine z_getR 13 rfl lX9_67 rfl (hS.1.o 0 8 rfl rfl rfl) hS.2.2.1 ?_
        refine z_getR 14 rfl lX9_208 rfl (zS_to hS hS.2.1 0 6 rfl rfl) (zS_tr hS hS.2.1 0 0 1 rfl rfl rfl) ?_
        refine z_iconst (v := 1) 15 rfl (by decide) ?_
        refine z_iald_c 16 1 rfl (by decide) (zS_to hS hS.2.1 1 100 rfl rfl) (zin (zS_tl hS hS.2.1 1 4 rfl rfl) (zvp (by decide))) ?_
        refine z_if_le 17 39 rfl (by decide) ⟨fun c4 => ?_, fun c4 => ?_⟩
        · have B := B.1 c4
          refine z_iconst (v := 0) 20 rfl (by decide) ?_
          exact z_iret 21 rfl rfl rfl ⟨rfl, rfl⟩ ⟨_, rfl, B⟩
        · have B := B.2 c4
          refine z_iconst (v := 1) 18 rfl (by decide) ?_
          refine z_goto 19 40 rfl (by decide) ?_
          exact z_iret 21 rfl rfl rfl ⟨rfl, rfl⟩ ⟨_, rfl, B⟩
theorem cn_X9_canBurn {G : zG} {d : Nat} {h : zMem} {Q : Int32 → zMem → Prop} {x1 : Int32} (B : zg G mX9_canBurn d 0 [.ref 0, .int x1] [] h (zPI Q)) : zConI G mX9_canBurn d [.ref 0, .int x1] h Q := zcon0 (by decide +kernel) eX9_canBurn (Nat.le_of_ble_eq_true rfl) rfl B
set_option maxRecDepth 100000 in
set_option maxHeartbeats 4000000 in
theorem sg_X9_countFeastThinkers_0 {G : zG} {d : Nat} {h : zMem} {Q : zMem → Prop} {t : Nat} {x1 : Int32} (hS : zSh1 h t)  (B : zg G mX9_countFeastThinkers (d + 1) 2 [.ref 0, .int x1, .int (0 : Int32), zU] [] h (zPV Q)) : zg G mX9_countFeastThinkers (d + 1) 0 [.ref 0, .int x1, zU, zU] [] h (zPV Q) := by
  refine z_iconst (v := 0) 0 rfl (by decide) ?_
  refine z_istore_n 1 rfl (by decide) rfl ?_
  exact B
theorem cn_X9_countFeastThinkers {G : zG} {d : Nat} {h : zMem} {Q : zMem → Prop} {x1 : Int32} (B : zg G mX9_countFeastThinkers (d + 1) 0 [.ref 0, .int x1, zU, zU] [] h (zPV Q)) : zConV G mX9_countFeastThinkers (d + 1) [.ref 0, .int x1] h Q := zcon0 (by decide +kernel) eX9_countFeastThinkers (Nat.le_of_ble_eq_true rfl) rfl B
set_option maxRecDepth 100000 in
set_option maxHeartbeats 4000000 in
theorem sg_X9_countFeastThinkers_2 {G : zG} {d : Nat} {h : zMem} {Q : zMem → Prop} {t : Nat} {x1 : Int32} {x2 : Int32} (hS : zSh1 h t)  (B : ((zI h (t + 1) 0) ≤ x2 → Q h) ∧ (¬ (zI h (t + 1) 0) ≤ x2 → zg G mX9_countFeastThinkers (d + 1) 17 [.ref 0, .int x1, .int x2, .int (0 : Int32)] [] h (zPV Q))) : zg G mX9_countFeastThinkers (d + 1) 2 [.ref 0, .int x1, .int x2, zU] [] h (zPV Q) := by
  refine z_iload_n 2 rfl rfl ?_
  refine z_aload_n 3 rfl rfl ?_
  refine z_getR 4 rfl lX9_67 rfl (hS.1.o 0 8 rfl rfl rfl) hS.2.2.1 ?_
  refine z_getR 5 rfl lX9_208 rfl (zS_to hS hS.2.1 0 6 rfl rfl) (zS_tr hS hS.2.1 0 0 1 rfl rfl rfl) ?_
  refine z_iconst (v := 0) 6 rfl (by decide) ?_
  refine z_iald_c 7 0 rfl (by decide) (zS_to hS hS.2.1 1 100 rfl rfl) (zin (zS_tl hS hS.2.1 1 4 rfl rfl) (zvp (by decide))) ?_
  refine z_icmp_ge 8 112 rfl (by decide) ⟨fun c1 => ?_, fun c1 => ?_⟩
  · have B := B.1 c1
    exact z_vret 63 rfl rfl ⟨rfl, rfl⟩ ⟨rfl, B⟩
  · have B := B.2 c1
    refine z_iconst (v := 0) 9 rfl (by decide) ?_
    refine z_istore_n 10 rfl (by decide) rfl ?_
    exact B
set_option maxRecDepth 100000 in
set_option maxHeartbeats 4000000 in
theorem sg_X9_countFeastThinkers_17 {G : zG} {d : Nat} {h : zMem} {Q : zMem → Prop} {t : Nat} {x1 : Int32} {x2 : Int32} {x3 : Int32} (hS : zSh1 h t)  (B : ((zI h (t + 1) 0) ≤ x3 → zg G mX9_countFeastThinkers (d + 1) 2 [.ref 0, .int x1, .int (x2 + 1), zU] [] h (zPV Q)) ∧ (¬ (zI h (t + 1) 0) ≤ x3 → ∃ Q2 : zMem → Prop, zConV G mX5_copy d [.ref 82, .ref 48] h Q2 ∧ (∀ h3, Q2 h3 → zSh1 h3 t ∧ vp_in x2 6 ∧ vp_in x3 6 ∧ ∃ Q7 : zMem → Prop, zConV G mX5_goThroughMorning d [.ref 82, .ref t] (zsI (zsI h3 84 x2.toNatClampNeg ((zI h3 84 x2.toNatClampNeg) + x1)) 84 x3.toNatClampNeg ((zI (zsI h3 84 x2.toNatClampNeg ((zI h3 84 x2.toNatClampNeg) + x1)) 84 x3.toNatClampNeg) + x1)) Q7 ∧ (∀ h8, Q7 h8 → zSh1 h8 t ∧ ∃ Q10 : Int32 → zMem → Prop, zConI G mX5_feastThinkers d [.ref 82, .ref t] h8 Q10 ∧ (∀ v13 h11, Q10 v13 h11 → zSh1 h11 t ∧ vp_in ((x2 * (6 : Int32)) + x3) 36 ∧ zg G mX9_countFeastThinkers (d + 1) 17 [.ref 0, .int x1, .int x2, .int (x3 + 1)] [] (zsI h11 100 ((x2 * (6 : Int32)) + x3).toNatClampNeg v13) (zPV Q)))))) : zg G mX9_countFeastThinkers (d + 1) 17 [.ref 0, .int x1, .int x2, .int x3] [] h (zPV Q) := by
  refine z_iload_n 11 rfl rfl ?_
  refine z_aload_n 12 rfl rfl ?_
  refine z_getR 13 rfl lX9_67 rfl (hS.1.o 0 8 rfl rfl rfl) hS.2.2.1 ?_
  refine z_getR 14 rfl lX9_208 rfl (zS_to hS hS.2.1 0 6 rfl rfl) (zS_tr hS hS.2.1 0 0 1 rfl rfl rfl) ?_
  refine z_iconst (v := 0) 15 rfl (by decide) ?_
  refine z_iald_c 16 0 rfl (by decide) (zS_to hS hS.2.1 1 100 rfl rfl) (zin (zS_tl hS hS.2.1 1 4 rfl rfl) (zvp (by decide))) ?_
  refine z_icmp_ge 17 106 rfl (by decide) ⟨fun c1 => ?_, fun c1 => ?_⟩
  · have B := B.1 c1
    refine z_iinc (v := 1) 61 rfl rfl (by decide) (by decide) rfl ?_
    refine z_goto 62 2 rfl (by decide) ?_
    refine z_drop 3 ?_
    exact B
  · have B := B.2 c1
    refine z_aload_n 18 rfl rfl ?_
    refine z_getR 19 rfl lX9_44 rfl (hS.1.o 0 8 rfl rfl rfl) (hS.1.r 0 6 82 rfl rfl rfl) ?_
    refine z_aload_n 20 rfl rfl ?_
    refine z_getR 21 rfl lX9_37 rfl (hS.1.o 0 8 rfl rfl rfl) (hS.1.r 0 4 48 rfl rfl rfl) ?_
    obtain ⟨Q2, K4, B⟩ := B
    refine z_cVV1 (ν := mX5_copy) 22 rfl rfl fX5_copy gX9_226 ⟨_, rfl, rfl⟩ (by decide) (hS.1.o 82 5 rfl rfl rfl) (Nat.le_of_ble_eq_true rfl) K4 (fun h3 q => ?_)
    obtain ⟨hSh3, B⟩ := B h3 q
    refine z_aload_n 23 rfl rfl ?_
    refine z_getR 24 rfl lX9_44 rfl (hSh3.1.o 0 8 rfl rfl rfl) (hSh3.1.r 0 6 82 rfl rfl rfl) ?_
    refine z_getR 25 rfl lX9_155 rfl (hSh3.1.o 82 5 rfl rfl rfl) (hSh3.1.r 82 1 84 rfl rfl rfl) ?_
    refine z_iload_n 26 rfl rfl ?_
    refine z_dup2 27 rfl rfl rfl ?_
    obtain ⟨o5, B⟩ := B
    refine z_iald 28 rfl (hSh3.1.o 84 100 rfl rfl rfl) (zin (hSh3.1.l 84 6 rfl rfl rfl) o5) ?_
    refine z_iload_n 29 rfl rfl ?_
    refine z_iadd 30 rfl ?_
    refine z_iast 31 rfl (hSh3.1.o 84 100 rfl rfl rfl) (zin (hSh3.1.l 84 6 rfl rfl rfl) o5) ?_
    refine z_aload_n 32 rfl rfl ?_
    refine z_getR 33 rfl lX9_44 rfl (hSh3.1.o 0 8 rfl rfl rfl) (hSh3.1.r 0 6 82 rfl rfl rfl) ?_
    refine z_getR 34 rfl lX9_155 rfl (hSh3.1.o 82 5 rfl rfl rfl) (hSh3.1.r 82 1 84 rfl rfl rfl) ?_
    refine z_iload_n 35 rfl rfl ?_
    refine z_dup2 36 rfl rfl rfl ?_
    obtain ⟨o6, B⟩ := B
    refine z_iald 37 rfl (hSh3.1.o 84 100 rfl rfl rfl) (zin (hSh3.1.l 84 6 rfl rfl rfl) o6) ?_
    refine z_iload_n 38 rfl rfl ?_
    refine z_iadd 39 rfl ?_
    refine z_iast 40 rfl (hSh3.1.o 84 100 rfl rfl rfl) (zin (hSh3.1.l 84 6 rfl rfl rfl) o6) ?_
    refine z_aload_n 41 rfl rfl ?_
    refine z_getR 42 rfl lX9_44 rfl (hSh3.1.o 0 8 rfl rfl rfl) (hSh3.1.r 0 6 82 rfl rfl rfl) ?_
    refine z_aload_n 43 rfl rfl ?_
    refine z_getR 44 rfl lX9_67 rfl (hSh3.1.o 0 8 rfl rfl rfl) hSh3.2.2.1 ?_
    obtain ⟨Q7, K9, B⟩ := B
    refine z_cVV1 (ν := mX5_goThroughMorning) 45 rfl rfl fX5_goThroughMorning gX9_198 ⟨_, rfl, rfl⟩ (by decide) (hSh3.1.o 82 5 rfl rfl rfl) (Nat.le_of_ble_eq_true rfl) K9 (fun h8 q => ?_)
    obtain ⟨hSh8, B⟩ := B h8 q
    refine z_aload_n 46 rfl rfl ?_
    refine z_getR 47 rfl lX9_54 rfl (hSh8.1.o 0 8 rfl rfl rfl) (hSh8.1.r 0 8 100 rfl rfl rfl) ?_
    refine z_iload_n 48 rfl rfl ?_
    refine z_bipush (v := 6) 49 rfl (by decide) ?_
    refine z_imul 50 rfl ?_
    refine z_iload_n 51 rfl rfl ?_
    refine z_iadd 52 rfl ?_
    refine z_aload_n 53 rfl rfl ?_
    refine z_getR 54 rfl lX9_44 rfl (hSh8.1.o 0 8 rfl rfl rfl) (hSh8.1.r 0 6 82 rfl rfl rfl) ?_
    refine z_aload_n 55 rfl rfl ?_
    refine z_getR 56 rfl lX9_67 rfl (hSh8.1.o 0 8 rfl rfl rfl) hSh8.2.2.1 ?_
    obtain ⟨Q10, K12, B⟩ := B
    refine z_cVI1 (ν := mX5_feastThinkers) 57 rfl rfl fX5_feastThinkers gX9_266 ⟨_, rfl, rfl⟩ (by decide) (hSh8.1.o 82 5 rfl rfl rfl) (Nat.le_of_ble_eq_true rfl) K12 (fun v13 h11 q => ?_)
    obtain ⟨hSh11, B⟩ := B v13 h11 q
    obtain ⟨o14, B⟩ := B
    refine z_iast 58 rfl (hSh11.1.o 100 100 rfl rfl rfl) (zin (hSh11.1.l 100 36 rfl rfl rfl) o14) ?_
    refine z_iinc (v := 1) 59 rfl rfl (by decide) (by decide) rfl ?_
    refine z_goto 60 17 rfl (by decide) ?_
    exact B
set_option maxRecDepth 100000 in
set_option maxHeartbeats 4000000 in
theorem sg_X9_isRest_0 {G : zG} {d : Nat} {h : zMem} {Q : Int32 → zMem → Prop} {t : Nat} {x1 : Int32} {x2 : Int32} (hS : zSh1 h t)  (B : vp_in ((x1 * (6 : Int32)) + x2) 36 ∧ zg G mX9_isRest d 15 [.ref 0, .int x1, .int x2, .int (zI h 100 ((x1 * (6 : Int32)) + x2).toNatClampNeg), .int (0 : Int32), zU, zU] [] h (zPI Q)) : zg G mX9_isRest d 0 [.ref 0, .int x1, .int x2, zU, zU, zU, zU] [] h (zPI Q) := by
  refine z_aload_n 0 rfl rfl ?_
  refine z_getR 1 rfl lX9_54 rfl (hS.1.o 0 8 rfl rfl rfl) (hS.1.r 0 8 100 rfl rfl rfl) ?_
  refine z_iload_n 2 rfl rfl ?_
  refine z_bipush (v := 6) 3 rfl (by decide) ?_
  refine z_imul 4 rfl ?_
  refine z_iload_n 5 rfl rfl ?_
  refine z_iadd 6 rfl ?_
  obtain ⟨o1, B⟩ := B
  refine z_iald 7 rfl (hS.1.o 100 100 rfl rfl rfl) (zin (hS.1.l 100 36 rfl rfl rfl) o1) ?_
  refine z_istore_n 8 rfl (by decide) rfl ?_
  refine z_iconst (v := 0) 9 rfl (by decide) ?_
  refine z_istore 10 rfl (by decide) rfl ?_
  exact B
theorem cn_X9_isRest {G : zG} {d : Nat} {h : zMem} {Q : Int32 → zMem → Prop} {x1 : Int32} {x2 : Int32} (B : zg G mX9_isRest d 0 [.ref 0, .int x1, .int x2, zU, zU, zU, zU] [] h (zPI Q)) : zConI G mX9_isRest d [.ref 0, .int x1, .int x2] h Q := zcon0 (by decide +kernel) eX9_isRest (Nat.le_of_ble_eq_true rfl) rfl B
set_option maxRecDepth 100000 in
set_option maxHeartbeats 4000000 in
theorem sg_X9_isRest_15 {G : zG} {d : Nat} {h : zMem} {Q : Int32 → zMem → Prop} {t : Nat} {x1 : Int32} {x2 : Int32} {x3 : Int32} {x4 : Int32} (hS : zSh1 h t)  (B : ((zI h (t + 1) 0) ≤ x4 → Q (1 : Int32) h) ∧ (¬ (zI h (t + 1) 0) ≤ x4 → vp_in ((x4 * (6 : Int32)) + x2) 36 ∧ ((zI h 100 ((x4 * (6 : Int32)) + x2).toNatClampNeg) ≤ x3 → vp_in ((x1 * (6 : Int32)) + x4) 36 ∧ (x3 ≤ (zI h 100 ((x1 * (6 : Int32)) + x4).toNatClampNeg) → (¬ (0 : Int32) = 0 → Q (0 : Int32) h) ∧ ((0 : Int32) = 0 → ((0 : Int32) = 0 → zg G mX9_isRest d 15 [.ref 0, .int x1, .int x2, .int x3, .int (x4 + 1), zU, zU] [] h (zPI Q)) ∧ (¬ (0 : Int32) = 0 → Q (0 : Int32) h))) ∧ (¬ x3 ≤ (zI h 100 ((x1 * (6 : Int32)) + x4).toNatClampNeg) → (¬ (0 : Int32) = 0 → Q (0 : Int32) h) ∧ ((0 : Int32) = 0 → ((1 : Int32) = 0 → zg G mX9_isRest d 15 [.ref 0, .int x1, .int x2, .int x3, .int (x4 + 1), zU, zU] [] h (zPI Q)) ∧ (¬ (1 : Int32) = 0 → Q (0 : Int32) h)))) ∧ (¬ (zI h 100 ((x4 * (6 : Int32)) + x2).toNatClampNeg) ≤ x3 → vp_in ((x1 * (6 : Int32)) + x4) 36 ∧ (x3 ≤ (zI h 100 ((x1 * (6 : Int32)) + x4).toNatClampNeg) → (¬ (1 : Int32) = 0 → Q (0 : Int32) h) ∧ ((1 : Int32) = 0 → ((0 : Int32) = 0 → zg G mX9_isRest d 15 [.ref 0, .int x1, .int x2, .int x3, .int (x4 + 1), zU, zU] [] h (zPI Q)) ∧ (¬ (0 : Int32) = 0 → Q (0 : Int32) h))) ∧ (¬ x3 ≤ (zI h 100 ((x1 * (6 : Int32)) + x4).toNatClampNeg) → (¬ (1 : Int32) = 0 → Q (0 : Int32) h) ∧ ((1 : Int32) = 0 → ((1 : Int32) = 0 → zg G mX9_isRest d 15 [.ref 0, .int x1, .int x2, .int x3, .int (x4 + 1), zU, zU] [] h (zPI Q)) ∧ (¬ (1 : Int32) = 0 → Q (0 : Int32) h)))))) : zg G mX9_isRest d 15 [.ref 0, .int x1, .int x2, .int x3, .int x4, zU, zU] [] h (zPI Q) := by
  refine z_iload 11 rfl rfl ?_
  refine z_aload_n 12 rfl rfl ?_
  refine z_getR 13 rfl lX9_67 rfl (hS.1.o 0 8 rfl rfl rfl) hS.2.2.1 ?_
  refine z_getR 14 rfl lX9_208 rfl (zS_to hS hS.2.1 0 6 rfl rfl) (zS_tr hS hS.2.1 0 0 1 rfl rfl rfl) ?_
  refine z_iconst (v := 0) 15 rfl (by decide) ?_
  refine z_iald_c 16 0 rfl (by decide) (zS_to hS hS.2.1 1 100 rfl rfl) (zin (zS_tl hS hS.2.1 1 4 rfl rfl) (zvp (by decide))) ?_
  refine z_icmp_ge 17 93 rfl (by decide) ⟨fun c1 => ?_, fun c1 => ?_⟩
  · have B := B.1 c1
    refine z_iconst (v := 1) 54 rfl (by decide) ?_
    exact z_iret 55 rfl rfl rfl ⟨rfl, rfl⟩ ⟨_, rfl, B⟩
  · have B := B.2 c1
    refine z_aload_n 18 rfl rfl ?_
    refine z_getR 19 rfl lX9_54 rfl (hS.1.o 0 8 rfl rfl rfl) (hS.1.r 0 8 100 rfl rfl rfl) ?_
    refine z_iload 20 rfl rfl ?_
    refine z_bipush (v := 6) 21 rfl (by decide) ?_
    refine z_imul 22 rfl ?_
    refine z_iload_n 23 rfl rfl ?_
    refine z_iadd 24 rfl ?_
    obtain ⟨o2, B⟩ := B
    refine z_iald 25 rfl (hS.1.o 100 100 rfl rfl rfl) (zin (hS.1.l 100 36 rfl rfl rfl) o2) ?_
    refine z_iload_n 26 rfl rfl ?_
    refine z_icmp_le 27 49 rfl (by decide) ⟨fun c3 => ?_, fun c3 => ?_⟩
    · have B := B.1 c3
      refine z_iconst (v := 0) 30 rfl (by decide) ?_
      refine z_istore 31 rfl (by decide) rfl ?_
      refine z_aload_n 32 rfl rfl ?_
      refine z_getR 33 rfl lX9_54 rfl (hS.1.o 0 8 rfl rfl rfl) (hS.1.r 0 8 100 rfl rfl rfl) ?_
      refine z_iload_n 34 rfl rfl ?_
      refine z_bipush (v := 6) 35 rfl (by decide) ?_
      refine z_imul 36 rfl ?_
      refine z_iload 37 rfl rfl ?_
      refine z_iadd 38 rfl ?_
      obtain ⟨o4, B⟩ := B
      refine z_iald 39 rfl (hS.1.o 100 100 rfl rfl rfl) (zin (hS.1.l 100 36 rfl rfl rfl) o4) ?_
      refine z_iload_n 40 rfl rfl ?_
      refine z_icmp_ge 41 72 rfl (by decide) ⟨fun c5 => ?_, fun c5 => ?_⟩
      · have B := B.1 c5
        refine z_iconst (v := 0) 44 rfl (by decide) ?_
        refine z_istore 45 rfl (by decide) rfl ?_
        refine z_iload 46 rfl rfl ?_
        refine z_if_ne 47 85 rfl (by decide) ⟨fun c6 => ?_, fun c6 => ?_⟩
        · have B := B.1 c6
          refine z_iconst (v := 0) 50 rfl (by decide) ?_
          exact z_iret 51 rfl rfl rfl ⟨rfl, rfl⟩ ⟨_, rfl, B⟩
        · have B := B.2 c6
          refine z_iload 48 rfl rfl ?_
          refine z_if_eq 49 87 rfl (by decide) ⟨fun c7 => ?_, fun c7 => ?_⟩
          · have B := B.1 c7
            refine z_iinc (v := 1) 52 rfl rfl (by decide) (by decide) rfl ?_
            refine z_goto 53 15 rfl (by decide) ?_
            refine z_drop 5 ?_
            refine z_drop 6 ?_
            exact B
          · have B := B.2 c7
            refine z_iconst (v := 0) 50 rfl (by decide) ?_
            exact z_iret 51 rfl rfl rfl ⟨rfl, rfl⟩ ⟨_, rfl, B⟩
      · have B := B.2 c5
        refine z_iconst (v := 1) 42 rfl (by decide) ?_
        refine z_goto 43 73 rfl (by decide) ?_
        refine z_istore 45 rfl (by decide) rfl ?_
        refine z_iload 46 rfl rfl ?_
        refine z_if_ne 47 85 rfl (by decide) ⟨fun c8 => ?_, fun c8 => ?_⟩
        · have B := B.1 c8
          refine z_iconst (v := 0) 50 rfl (by decide) ?_
          exact z_iret 51 rfl rfl rfl ⟨rfl, rfl⟩ ⟨_, rfl, B⟩
        · have B := B.2 c8
          refine z_iload 48 rfl rfl ?_
          refine z_if_eq 49 87 rfl (by decide) ⟨fun c9 => ?_, fun c9 => ?_⟩
          · have B := B.1 c9
            refine z_iinc (v := 1) 52 rfl rfl (by decide) (by decide) rfl ?_
            refine z_goto 53 15 rfl (by decide) ?_
            refine z_drop 5 ?_
            refine z_drop 6 ?_
            exact B
          · have B := B.2 c9
            refine z_iconst (v := 0) 50 rfl (by decide) ?_
            exact z_iret 51 rfl rfl rfl ⟨rfl, rfl⟩ ⟨_, rfl, B⟩
    · have B := B.2 c3
      refine z_iconst (v := 1) 28 rfl (by decide) ?_
      refine z_goto 29 50 rfl (by decide) ?_
      refine z_istore 31 rfl (by decide) rfl ?_
      refine z_aload_n 32 rfl rfl ?_
      refine z_getR 33 rfl lX9_54 rfl (hS.1.o 0 8 rfl rfl rfl) (hS.1.r 0 8 100 rfl rfl rfl) ?_
      refine z_iload_n 34 rfl rfl ?_
      refine z_bipush (v := 6) 35 rfl (by decide) ?_
      refine z_imul 36 rfl ?_
      refine z_iload 37 rfl rfl ?_
      refine z_iadd 38 rfl ?_
      obtain ⟨o10, B⟩ := B
      refine z_iald 39 rfl (hS.1.o 100 100 rfl rfl rfl) (zin (hS.1.l 100 36 rfl rfl rfl) o10) ?_
      refine z_iload_n 40 rfl rfl ?_
      refine z_icmp_ge 41 72 rfl (by decide) ⟨fun c11 => ?_, fun c11 => ?_⟩
      · have B := B.1 c11
        refine z_iconst (v := 0) 44 rfl (by decide) ?_
        refine z_istore 45 rfl (by decide) rfl ?_
        refine z_iload 46 rfl rfl ?_
        refine z_if_ne 47 85 rfl (by decide) ⟨fun c12 => ?_, fun c12 => ?_⟩
        · have B := B.1 c12
          refine z_iconst (v := 0) 50 rfl (by decide) ?_
          exact z_iret 51 rfl rfl rfl ⟨rfl, rfl⟩ ⟨_, rfl, B⟩
        · have B := B.2 c12
          refine z_iload 48 rfl rfl ?_
          refine z_if_eq 49 87 rfl (by decide) ⟨fun c13 => ?_, fun c13 => ?_⟩
          · have B := B.1 c13
            refine z_iinc (v := 1) 52 rfl rfl (by decide) (by decide) rfl ?_
            refine z_goto 53 15 rfl (by decide) ?_
            refine z_drop 5 ?_
            refine z_drop 6 ?_
            exact B
          · have B := B.2 c13
            refine z_iconst (v := 0) 50 rfl (by decide) ?_
            exact z_iret 51 rfl rfl rfl ⟨rfl, rfl⟩ ⟨_, rfl, B⟩
      · have B := B.2 c11
        refine z_iconst (v := 1) 42 rfl (by decide) ?_
        refine z_goto 43 73 rfl (by decide) ?_
        refine z_istore 45 rfl (by decide) rfl ?_
        refine z_iload 46 rfl rfl ?_
        refine z_if_ne 47 85 rfl (by decide) ⟨fun c14 => ?_, fun c14 => ?_⟩
        · have B := B.1 c14
          refine z_iconst (v := 0) 50 rfl (by decide) ?_
          exact z_iret 51 rfl rfl rfl ⟨rfl, rfl⟩ ⟨_, rfl, B⟩
        · have B := B.2 c14
          refine z_iload 48 rfl rfl ?_
          refine z_if_eq 49 87 rfl (by decide) ⟨fun c15 => ?_, fun c15 => ?_⟩
          · have B := B.1 c15
            refine z_iinc (v := 1) 52 rfl rfl (by decide) (by decide) rfl ?_
            refine z_goto 53 15 rfl (by decide) ?_
            refine z_drop 5 ?_
            refine z_drop 6 ?_
            exact B
          · have B := B.2 c15
            refine z_iconst (v := 0) 50 rfl (by decide) ?_
            exact z_iret 51 rfl rfl rfl ⟨rfl, rfl⟩ ⟨_, rfl, B⟩
set_option maxRecDepth 100000 in
set_option maxHeartbeats 4000000 in
theorem sg_X9_note_0 {G : zG} {d : Nat} {h : zMem} {Q : Int32 → zMem → Prop} {t : Nat} {x1 : Int32} {x2 : Int32} {x3 : Int32} {x4 : Int32} (hS : zSh1 h t)  (B : (x1 < (1 : Int32) → Q (-1 : Int32) h) ∧ (¬ x1 < (1 : Int32) → ((40 : Int32) < x1 → Q (-1 : Int32) h) ∧ (¬ (40 : Int32) < x1 → ∃ Q3 : Int32 → zMem → Prop, zConI G mX9_has d [.ref 0, .int (3 : Int32), .int x2] h Q3 ∧ (∀ v6 h4, Q3 v6 h4 → zSh1 h4 t ∧ (v6 = 0 → Q (-1 : Int32) h4) ∧ (¬ v6 = 0 → ∃ Q8 : Int32 → zMem → Prop, zConI G mX9_has d [.ref 0, .int (1 : Int32), .int x3] h4 Q8 ∧ (∀ v11 h9, Q8 v11 h9 → zSh1 h9 t ∧ (¬ v11 = 0 → ∃ Q13 : Int32 → zMem → Prop, zConI G mX1_add d [.ref 37, .int x1, .int x2, .int x3, .int x4] h9 Q13 ∧ (∀ v16 h14, Q13 v16 h14 → zSh1 h14 t ∧ Q v16 h14)) ∧ (v11 = 0 → Q (-1 : Int32) h9))))))) : zg G mX9_note (d + 1) 0 [.ref 0, .int x1, .int x2, .int x3, .int x4] [] h (zPI Q) := by
  refine z_iload_n 0 rfl rfl ?_
  refine z_iconst (v := 1) 1 rfl (by decide) ?_
  refine z_icmp_lt 2 29 rfl (by decide) ⟨fun c1 => ?_, fun c1 => ?_⟩
  · have B := B.1 c1
    refine z_iconst (v := -1) 16 rfl (by decide) ?_
    exact z_iret 17 rfl rfl rfl ⟨rfl, rfl⟩ ⟨_, rfl, B⟩
  · have B := B.2 c1
    refine z_iload_n 3 rfl rfl ?_
    refine z_bipush (v := 40) 4 rfl (by decide) ?_
    refine z_icmp_gt 5 29 rfl (by decide) ⟨fun c2 => ?_, fun c2 => ?_⟩
    · have B := B.1 c2
      refine z_iconst (v := -1) 16 rfl (by decide) ?_
      exact z_iret 17 rfl rfl rfl ⟨rfl, rfl⟩ ⟨_, rfl, B⟩
    · have B := B.2 c2
      refine z_aload_n 6 rfl rfl ?_
      refine z_iconst (v := 3) 7 rfl (by decide) ?_
      refine z_iload_n 8 rfl rfl ?_
      obtain ⟨Q3, K5, B⟩ := B
      refine z_cVI2 (ν := mX9_has) 9 rfl rfl fX9_has gX9_117 ⟨_, rfl, rfl⟩ (by decide) (hS.1.o 0 8 rfl rfl rfl) (Nat.le_of_ble_eq_true rfl) K5 (fun v6 h4 q => ?_)
      obtain ⟨hSh4, B⟩ := B v6 h4 q
      refine z_if_eq 10 29 rfl (by decide) ⟨fun c7 => ?_, fun c7 => ?_⟩
      · have B := B.1 c7
        refine z_iconst (v := -1) 16 rfl (by decide) ?_
        exact z_iret 17 rfl rfl rfl ⟨rfl, rfl⟩ ⟨_, rfl, B⟩
      · have B := B.2 c7
        refine z_aload_n 11 rfl rfl ?_
        refine z_iconst (v := 1) 12 rfl (by decide) ?_
        refine z_iload_n 13 rfl rfl ?_
        obtain ⟨Q8, K10, B⟩ := B
        refine z_cVI2 (ν := mX9_has) 14 rfl rfl fX9_has gX9_117 ⟨_, rfl, rfl⟩ (by decide) (hSh4.1.o 0 8 rfl rfl rfl) (Nat.le_of_ble_eq_true rfl) K10 (fun v11 h9 q => ?_)
        obtain ⟨hSh9, B⟩ := B v11 h9 q
        refine z_if_ne 15 31 rfl (by decide) ⟨fun c12 => ?_, fun c12 => ?_⟩
        · have B := B.1 c12
          refine z_aload_n 18 rfl rfl ?_
          refine z_getR 19 rfl lX9_23 rfl (hSh9.1.o 0 8 rfl rfl rfl) (hSh9.1.r 0 2 37 rfl rfl rfl) ?_
          refine z_iload_n 20 rfl rfl ?_
          refine z_iload_n 21 rfl rfl ?_
          refine z_iload_n 22 rfl rfl ?_
          refine z_iload 23 rfl rfl ?_
          obtain ⟨Q13, K15, B⟩ := B
          refine z_cVI4 (ν := mX1_add) 24 rfl rfl fX1_add gX9_268 ⟨_, rfl, rfl⟩ (by decide) (hSh9.1.o 37 1 rfl rfl rfl) (Nat.le_of_ble_eq_true rfl) K15 (fun v16 h14 q => ?_)
          obtain ⟨hSh14, B⟩ := B v16 h14 q
          exact z_iret 25 rfl rfl rfl ⟨rfl, rfl⟩ ⟨_, rfl, B⟩
        · have B := B.2 c12
          refine z_iconst (v := -1) 16 rfl (by decide) ?_
          exact z_iret 17 rfl rfl rfl ⟨rfl, rfl⟩ ⟨_, rfl, B⟩
theorem cn_X9_note {G : zG} {d : Nat} {h : zMem} {Q : Int32 → zMem → Prop} {x1 : Int32} {x2 : Int32} {x3 : Int32} {x4 : Int32} (B : zg G mX9_note (d + 1) 0 [.ref 0, .int x1, .int x2, .int x3, .int x4] [] h (zPI Q)) : zConI G mX9_note (d + 1) [.ref 0, .int x1, .int x2, .int x3, .int x4] h Q := zcon0 (by decide +kernel) eX9_note (Nat.le_of_ble_eq_true rfl) rfl B
set_option maxRecDepth 100000 in
set_option maxHeartbeats 4000000 in
theorem sg_X9_out_0 {G : zG} {d : Nat} {h : zMem} {Q : Int32 → zMem → Prop} {t : Nat} {x1 : Int32} (hS : zSh1 h t)  (B : ∃ Q1 : Int32 → zMem → Prop, zConI G mX1_strike d [.ref 37, .int x1] h Q1 ∧ (∀ v4 h2, Q1 v4 h2 → zSh1 h2 t ∧ Q v4 h2)) : zg G mX9_out (d + 1) 0 [.ref 0, .int x1] [] h (zPI Q) := by
  refine z_aload_n 0 rfl rfl ?_
  refine z_getR 1 rfl lX9_23 rfl (hS.1.o 0 8 rfl rfl rfl) (hS.1.r 0 2 37 rfl rfl rfl) ?_
  refine z_iload_n 2 rfl rfl ?_
  obtain ⟨Q1, K3, B⟩ := B
  refine z_cVI1 (ν := mX1_strike) 3 rfl rfl fX1_strike gX9_271 ⟨_, rfl, rfl⟩ (by decide) (hS.1.o 37 1 rfl rfl rfl) (Nat.le_of_ble_eq_true rfl) K3 (fun v4 h2 q => ?_)
  obtain ⟨hSh2, B⟩ := B v4 h2 q
  exact z_iret 4 rfl rfl rfl ⟨rfl, rfl⟩ ⟨_, rfl, B⟩
theorem cn_X9_out {G : zG} {d : Nat} {h : zMem} {Q : Int32 → zMem → Prop} {x1 : Int32} (B : zg G mX9_out (d + 1) 0 [.ref 0, .int x1] [] h (zPI Q)) : zConI G mX9_out (d + 1) [.ref 0, .int x1] h Q := zcon0 (by decide +kernel) eX9_out (Nat.le_of_ble_eq_true rfl) rfl B
set_option maxRecDepth 100000 in
set_option maxHeartbeats 4000000 in
theorem sg_X9_known_0 {G : zG} {d : Nat} {h : zMem} {Q : Int32 → zMem → Prop} {t : Nat} {x1 : Int32} (hS : zSh1 h t)  (B : (x1 < (-1 : Int32) → Q (0 : Int32) h) ∧ (¬ x1 < (-1 : Int32) → (x1 ≤ (zI h 37 6) → Q (1 : Int32) (zsI h 37 7 x1)) ∧ (¬ x1 ≤ (zI h 37 6) → Q (0 : Int32) h))) : zg G mX9_known d 0 [.ref 0, .int x1] [] h (zPI Q) := by
  refine z_iload_n 0 rfl rfl ?_
  refine z_iconst (v := -1) 1 rfl (by decide) ?_
  refine z_icmp_lt 2 16 rfl (by decide) ⟨fun c1 => ?_, fun c1 => ?_⟩
  · have B := B.1 c1
    refine z_iconst (v := 0) 8 rfl (by decide) ?_
    exact z_iret 9 rfl rfl rfl ⟨rfl, rfl⟩ ⟨_, rfl, B⟩
  · have B := B.2 c1
    refine z_iload_n 3 rfl rfl ?_
    refine z_aload_n 4 rfl rfl ?_
    refine z_getR 5 rfl lX9_23 rfl (hS.1.o 0 8 rfl rfl rfl) (hS.1.r 0 2 37 rfl rfl rfl) ?_
    refine z_getI 6 rfl lX9_274 rfl (hS.1.o 37 1 rfl rfl rfl) ?_
    refine z_icmp_le 7 18 rfl (by decide) ⟨fun c2 => ?_, fun c2 => ?_⟩
    · have B := B.1 c2
      refine z_aload_n 10 rfl rfl ?_
      refine z_getR 11 rfl lX9_23 rfl (hS.1.o 0 8 rfl rfl rfl) (hS.1.r 0 2 37 rfl rfl rfl) ?_
      refine z_iload_n 12 rfl rfl ?_
      refine z_putI 13 rfl lX9_277 ⟨_, _, _, rfl, rfl⟩ rfl rfl rfl (hS.1.o 37 1 rfl rfl rfl) ?_
      refine z_iconst (v := 1) 14 rfl (by decide) ?_
      exact z_iret 15 rfl rfl rfl ⟨rfl, rfl⟩ ⟨_, rfl, B⟩
    · have B := B.2 c2
      refine z_iconst (v := 0) 8 rfl (by decide) ?_
      exact z_iret 9 rfl rfl rfl ⟨rfl, rfl⟩ ⟨_, rfl, B⟩
theorem cn_X9_known {G : zG} {d : Nat} {h : zMem} {Q : Int32 → zMem → Prop} {x1 : Int32} (B : zg G mX9_known d 0 [.ref 0, .int x1] [] h (zPI Q)) : zConI G mX9_known d [.ref 0, .int x1] h Q := zcon0 (by decide +kernel) eX9_known (Nat.le_of_ble_eq_true rfl) rfl B
set_option maxRecDepth 100000 in
set_option maxHeartbeats 4000000 in
theorem sg_X9_colds_0 {G : zG} {d : Nat} {h : zMem} {Q : Int32 → zMem → Prop} {t : Nat} {x1 : Int32} (hS : zSh1 h t)  (B : ∃ Q1 : Int32 → zMem → Prop, zConI G mX9_has d [.ref 0, .int (3 : Int32), .int x1] h Q1 ∧ (∀ v4 h2, Q1 v4 h2 → zSh1 h2 t ∧ (¬ v4 = 0 → ∃ Q6 : zMem → Prop, zConV G mX1_weigh d [.ref 37] h2 Q6 ∧ (∀ h7, Q6 h7 → zSh1 h7 t ∧ zg G mX9_colds (d + 1) 22 [.ref 0, .int x1, .int (0 : Int32), .int (0 : Int32)] [] h7 (zPI Q))) ∧ (v4 = 0 → Q (-1 : Int32) h2))) : zg G mX9_colds (d + 1) 0 [.ref 0, .int x1, zU, zU] [] h (zPI Q) := by
  refine z_aload_n 0 rfl rfl ?_
  refine z_iconst (v := 3) 1 rfl (by decide) ?_
  refine z_iload_n 2 rfl rfl ?_
  obtain ⟨Q1, K3, B⟩ := B
  refine z_cVI2 (ν := mX9_has) 3 rfl rfl fX9_has gX9_117 ⟨_, rfl, rfl⟩ (by decide) (hS.1.o 0 8 rfl rfl rfl) (Nat.le_of_ble_eq_true rfl) K3 (fun v4 h2 q => ?_)
  obtain ⟨hSh2, B⟩ := B v4 h2 q
  refine z_if_ne 4 11 rfl (by decide) ⟨fun c5 => ?_, fun c5 => ?_⟩
  · have B := B.1 c5
    refine z_aload_n 7 rfl rfl ?_
    refine z_getR 8 rfl lX9_23 rfl (hSh2.1.o 0 8 rfl rfl rfl) (hSh2.1.r 0 2 37 rfl rfl rfl) ?_
    obtain ⟨Q6, K8, B⟩ := B
    refine z_cVV0 (ν := mX1_weigh) 9 rfl rfl fX1_weigh gX9_280 ⟨_, rfl, rfl⟩ (by decide) (hSh2.1.o 37 1 rfl rfl rfl) (Nat.le_of_ble_eq_true rfl) K8 (fun h7 q => ?_)
    obtain ⟨hSh7, B⟩ := B h7 q
    refine z_iconst (v := 0) 10 rfl (by decide) ?_
    refine z_istore_n 11 rfl (by decide) rfl ?_
    refine z_iconst (v := 0) 12 rfl (by decide) ?_
    refine z_istore_n 13 rfl (by decide) rfl ?_
    exact B
  · have B := B.2 c5
    refine z_iconst (v := -1) 5 rfl (by decide) ?_
    exact z_iret 6 rfl rfl rfl ⟨rfl, rfl⟩ ⟨_, rfl, B⟩
theorem cn_X9_colds {G : zG} {d : Nat} {h : zMem} {Q : Int32 → zMem → Prop} {x1 : Int32} (B : zg G mX9_colds (d + 1) 0 [.ref 0, .int x1, zU, zU] [] h (zPI Q)) : zConI G mX9_colds (d + 1) [.ref 0, .int x1] h Q := zcon0 (by decide +kernel) eX9_colds (Nat.le_of_ble_eq_true rfl) rfl B
set_option maxRecDepth 100000 in
set_option maxHeartbeats 4000000 in
theorem sg_X9_colds_22 {G : zG} {d : Nat} {h : zMem} {Q : Int32 → zMem → Prop} {t : Nat} {x1 : Int32} {x2 : Int32} {x3 : Int32} (hS : zSh1 h t)  (B : ((zI h (t + 1) 0) < x3 → Q x2 h) ∧ (¬ (zI h (t + 1) 0) < x3 → ∃ Q2 : zMem → Prop, zConV G mX5_begin d [.ref 82, .ref t] h Q2 ∧ (∀ h3, Q2 h3 → zSh1 h3 t ∧ ((zI h3 (t + 1) 0) ≤ x3 → ∃ Q6 : Int32 → zMem → Prop, zConI G mX9_agreesWithNotes d [.ref 0] h3 Q6 ∧ (∀ v9 h7, Q6 v9 h7 → zSh1 h7 t ∧ (v9 = 0 → zg G mX9_colds (d + 1) 22 [.ref 0, .int x1, .int x2, .int (x3 + 1)] [] h7 (zPI Q)) ∧ (¬ v9 = 0 → zg G mX9_colds (d + 1) 22 [.ref 0, .int x1, .int (x2 ||| ((1 : Int32) <<< (x3 &&& 31))), .int (x3 + 1)] [] h7 (zPI Q)))) ∧ (¬ (zI h3 (t + 1) 0) ≤ x3 → vp_in x1 5 ∧ ∃ Q12 : Int32 → zMem → Prop, zConI G mX9_agreesWithNotes d [.ref 0] (zsI h3 94 x1.toNatClampNeg ((1 : Int32) <<< (x3 &&& 31))) Q12 ∧ (∀ v15 h13, Q12 v15 h13 → zSh1 h13 t ∧ (v15 = 0 → zg G mX9_colds (d + 1) 22 [.ref 0, .int x1, .int x2, .int (x3 + 1)] [] h13 (zPI Q)) ∧ (¬ v15 = 0 → zg G mX9_colds (d + 1) 22 [.ref 0, .int x1, .int (x2 ||| ((1 : Int32) <<< (x3 &&& 31))), .int (x3 + 1)] [] h13 (zPI Q))))))) : zg G mX9_colds (d + 1) 22 [.ref 0, .int x1, .int x2, .int x3] [] h (zPI Q) := by
  refine z_iload_n 14 rfl rfl ?_
  refine z_aload_n 15 rfl rfl ?_
  refine z_getR 16 rfl lX9_67 rfl (hS.1.o 0 8 rfl rfl rfl) hS.2.2.1 ?_
  refine z_getR 17 rfl lX9_208 rfl (zS_to hS hS.2.1 0 6 rfl rfl) (zS_tr hS hS.2.1 0 0 1 rfl rfl rfl) ?_
  refine z_iconst (v := 0) 18 rfl (by decide) ?_
  refine z_iald_c 19 0 rfl (by decide) (zS_to hS hS.2.1 1 100 rfl rfl) (zin (zS_tl hS hS.2.1 1 4 rfl rfl) (zvp (by decide))) ?_
  refine z_icmp_gt 20 90 rfl (by decide) ⟨fun c1 => ?_, fun c1 => ?_⟩
  · have B := B.1 c1
    refine z_iload_n 52 rfl rfl ?_
    exact z_iret 53 rfl rfl rfl ⟨rfl, rfl⟩ ⟨_, rfl, B⟩
  · have B := B.2 c1
    refine z_aload_n 21 rfl rfl ?_
    refine z_getR 22 rfl lX9_44 rfl (hS.1.o 0 8 rfl rfl rfl) (hS.1.r 0 6 82 rfl rfl rfl) ?_
    refine z_aload_n 23 rfl rfl ?_
    refine z_getR 24 rfl lX9_67 rfl (hS.1.o 0 8 rfl rfl rfl) hS.2.2.1 ?_
    obtain ⟨Q2, K4, B⟩ := B
    refine z_cVV1 (ν := mX5_begin) 25 rfl rfl fX5_begin gX9_71 ⟨_, rfl, rfl⟩ (by decide) (hS.1.o 82 5 rfl rfl rfl) (Nat.le_of_ble_eq_true rfl) K4 (fun h3 q => ?_)
    obtain ⟨hSh3, B⟩ := B h3 q
    refine z_iload_n 26 rfl rfl ?_
    refine z_aload_n 27 rfl rfl ?_
    refine z_getR 28 rfl lX9_67 rfl (hSh3.1.o 0 8 rfl rfl rfl) hSh3.2.2.1 ?_
    refine z_getR 29 rfl lX9_208 rfl (zS_to hSh3 hSh3.2.1 0 6 rfl rfl) (zS_tr hSh3 hSh3.2.1 0 0 1 rfl rfl rfl) ?_
    refine z_iconst (v := 0) 30 rfl (by decide) ?_
    refine z_iald_c 31 0 rfl (by decide) (zS_to hSh3 hSh3.2.1 1 100 rfl rfl) (zin (zS_tl hSh3 hSh3.2.1 1 4 rfl rfl) (zvp (by decide))) ?_
    refine z_icmp_ge 32 71 rfl (by decide) ⟨fun c5 => ?_, fun c5 => ?_⟩
    · have B := B.1 c5
      refine z_aload_n 41 rfl rfl ?_
      obtain ⟨Q6, K8, B⟩ := B
      refine z_cVI0 (ν := mX9_agreesWithNotes) 42 rfl rfl fX9_agreesWithNotes gX9_283 ⟨_, rfl, rfl⟩ (by decide) (hSh3.1.o 0 8 rfl rfl rfl) (Nat.le_of_ble_eq_true rfl) K8 (fun v9 h7 q => ?_)
      obtain ⟨hSh7, B⟩ := B v9 h7 q
      refine z_if_eq 43 84 rfl (by decide) ⟨fun c10 => ?_, fun c10 => ?_⟩
      · have B := B.1 c10
        refine z_iinc (v := 1) 50 rfl rfl (by decide) (by decide) rfl ?_
        refine z_goto 51 22 rfl (by decide) ?_
        exact B
      · have B := B.2 c10
        refine z_iload_n 44 rfl rfl ?_
        refine z_iconst (v := 1) 45 rfl (by decide) ?_
        refine z_iload_n 46 rfl rfl ?_
        refine z_ishl 47 rfl ?_
        refine z_ior 48 rfl ?_
        refine z_istore_n 49 rfl (by decide) rfl ?_
        refine z_iinc (v := 1) 50 rfl rfl (by decide) (by decide) rfl ?_
        refine z_goto 51 22 rfl (by decide) ?_
        exact B
    · have B := B.2 c5
      refine z_aload_n 33 rfl rfl ?_
      refine z_getR 34 rfl lX9_44 rfl (hSh3.1.o 0 8 rfl rfl rfl) (hSh3.1.r 0 6 82 rfl rfl rfl) ?_
      refine z_getR 35 rfl lX9_134 rfl (hSh3.1.o 82 5 rfl rfl rfl) (hSh3.1.r 82 5 94 rfl rfl rfl) ?_
      refine z_iload_n 36 rfl rfl ?_
      refine z_iconst (v := 1) 37 rfl (by decide) ?_
      refine z_iload_n 38 rfl rfl ?_
      refine z_ishl 39 rfl ?_
      obtain ⟨o11, B⟩ := B
      refine z_iast 40 rfl (hSh3.1.o 94 100 rfl rfl rfl) (zin (hSh3.1.l 94 5 rfl rfl rfl) o11) ?_
      refine z_aload_n 41 rfl rfl ?_
      obtain ⟨Q12, K14, B⟩ := B
      refine z_cVI0 (ν := mX9_agreesWithNotes) 42 rfl rfl fX9_agreesWithNotes gX9_283 ⟨_, rfl, rfl⟩ (by decide) (hSh3.1.o 0 8 rfl rfl rfl) (Nat.le_of_ble_eq_true rfl) K14 (fun v15 h13 q => ?_)
      obtain ⟨hSh13, B⟩ := B v15 h13 q
      refine z_if_eq 43 84 rfl (by decide) ⟨fun c16 => ?_, fun c16 => ?_⟩
      · have B := B.1 c16
        refine z_iinc (v := 1) 50 rfl rfl (by decide) (by decide) rfl ?_
        refine z_goto 51 22 rfl (by decide) ?_
        exact B
      · have B := B.2 c16
        refine z_iload_n 44 rfl rfl ?_
        refine z_iconst (v := 1) 45 rfl (by decide) ?_
        refine z_iload_n 46 rfl rfl ?_
        refine z_ishl 47 rfl ?_
        refine z_ior 48 rfl ?_
        refine z_istore_n 49 rfl (by decide) rfl ?_
        refine z_iinc (v := 1) 50 rfl rfl (by decide) (by decide) rfl ?_
        refine z_goto 51 22 rfl (by decide) ?_
        exact B
set_option maxRecDepth 100000 in
set_option maxHeartbeats 4000000 in
theorem sg_X9_agreesWithNotes_0 {G : zG} {d : Nat} {h : zMem} {Q : Int32 → zMem → Prop} {t : Nat}  (hS : zSh1 h t)  (B : ∃ Q1 : Int32 → zMem → Prop, zConI G mX1_lastMorning d [.ref 37] h Q1 ∧ (∀ v4 h2, Q1 v4 h2 → zSh1 h2 t ∧ zg G mX9_agreesWithNotes (d + 1) 10 [.ref 0, .int v4, .int (1 : Int32)] [] h2 (zPI Q))) : zg G mX9_agreesWithNotes (d + 1) 0 [.ref 0, zU, zU] [] h (zPI Q) := by
  refine z_aload_n 0 rfl rfl ?_
  refine z_getR 1 rfl lX9_23 rfl (hS.1.o 0 8 rfl rfl rfl) (hS.1.r 0 2 37 rfl rfl rfl) ?_
  obtain ⟨Q1, K3, B⟩ := B
  refine z_cVI0 (ν := mX1_lastMorning) 2 rfl rfl fX1_lastMorning gX9_286 ⟨_, rfl, rfl⟩ (by decide) (hS.1.o 37 1 rfl rfl rfl) (Nat.le_of_ble_eq_true rfl) K3 (fun v4 h2 q => ?_)
  obtain ⟨hSh2, B⟩ := B v4 h2 q
  refine z_istore_n 3 rfl (by decide) rfl ?_
  refine z_iconst (v := 1) 4 rfl (by decide) ?_
  refine z_istore_n 5 rfl (by decide) rfl ?_
  exact B
theorem cn_X9_agreesWithNotes {G : zG} {d : Nat} {h : zMem} {Q : Int32 → zMem → Prop}  (B : zg G mX9_agreesWithNotes (d + 1) 0 [.ref 0, zU, zU] [] h (zPI Q)) : zConI G mX9_agreesWithNotes (d + 1) [.ref 0] h Q := zcon0 (by decide +kernel) eX9_agreesWithNotes (Nat.le_of_ble_eq_true rfl) rfl B
set_option maxRecDepth 100000 in
set_option maxHeartbeats 4000000 in
theorem sg_X9_agreesWithNotes_10 {G : zG} {d : Nat} {h : zMem} {Q : Int32 → zMem → Prop} {t : Nat} {x1 : Int32} {x2 : Int32} (hS : zSh1 h t)  (B : (x1 < x2 → Q (1 : Int32) h) ∧ (¬ x1 < x2 → ∃ Q2 : zMem → Prop, zConV G mX5_goThroughMorning d [.ref 82, .ref t] h Q2 ∧ (∀ h3, Q2 h3 → zSh1 h3 t ∧ ∃ Q5 : Int32 → zMem → Prop, zConI G mX1_allow d [.ref 37, .int x2, .ref 96] h3 Q5 ∧ (∀ v8 h6, Q5 v8 h6 → zSh1 h6 t ∧ (¬ v8 = 0 → zg G mX9_agreesWithNotes (d + 1) 10 [.ref 0, .int x1, .int (x2 + 1)] [] h6 (zPI Q)) ∧ (v8 = 0 → Q (0 : Int32) h6))))) : zg G mX9_agreesWithNotes (d + 1) 10 [.ref 0, .int x1, .int x2] [] h (zPI Q) := by
  refine z_iload_n 6 rfl rfl ?_
  refine z_iload_n 7 rfl rfl ?_
  refine z_icmp_gt 8 52 rfl (by decide) ⟨fun c1 => ?_, fun c1 => ?_⟩
  · have B := B.1 c1
    refine z_iconst (v := 1) 26 rfl (by decide) ?_
    exact z_iret 27 rfl rfl rfl ⟨rfl, rfl⟩ ⟨_, rfl, B⟩
  · have B := B.2 c1
    refine z_aload_n 9 rfl rfl ?_
    refine z_getR 10 rfl lX9_44 rfl (hS.1.o 0 8 rfl rfl rfl) (hS.1.r 0 6 82 rfl rfl rfl) ?_
    refine z_aload_n 11 rfl rfl ?_
    refine z_getR 12 rfl lX9_67 rfl (hS.1.o 0 8 rfl rfl rfl) hS.2.2.1 ?_
    obtain ⟨Q2, K4, B⟩ := B
    refine z_cVV1 (ν := mX5_goThroughMorning) 13 rfl rfl fX5_goThroughMorning gX9_198 ⟨_, rfl, rfl⟩ (by decide) (hS.1.o 82 5 rfl rfl rfl) (Nat.le_of_ble_eq_true rfl) K4 (fun h3 q => ?_)
    obtain ⟨hSh3, B⟩ := B h3 q
    refine z_aload_n 14 rfl rfl ?_
    refine z_getR 15 rfl lX9_23 rfl (hSh3.1.o 0 8 rfl rfl rfl) (hSh3.1.r 0 2 37 rfl rfl rfl) ?_
    refine z_iload_n 16 rfl rfl ?_
    refine z_aload_n 17 rfl rfl ?_
    refine z_getR 18 rfl lX9_44 rfl (hSh3.1.o 0 8 rfl rfl rfl) (hSh3.1.r 0 6 82 rfl rfl rfl) ?_
    refine z_getR 19 rfl lX9_140 rfl (hSh3.1.o 82 5 rfl rfl rfl) (hSh3.1.r 82 7 96 rfl rfl rfl) ?_
    obtain ⟨Q5, K7, B⟩ := B
    refine z_cVI2 (ν := mX1_allow) 20 rfl rfl fX1_allow gX9_289 ⟨_, rfl, rfl⟩ (by decide) (hSh3.1.o 37 1 rfl rfl rfl) (Nat.le_of_ble_eq_true rfl) K7 (fun v8 h6 q => ?_)
    obtain ⟨hSh6, B⟩ := B v8 h6 q
    refine z_if_ne 21 46 rfl (by decide) ⟨fun c9 => ?_, fun c9 => ?_⟩
    · have B := B.1 c9
      refine z_iinc (v := 1) 24 rfl rfl (by decide) (by decide) rfl ?_
      refine z_goto 25 10 rfl (by decide) ?_
      exact B
    · have B := B.2 c9
      refine z_iconst (v := 0) 22 rfl (by decide) ?_
      exact z_iret 23 rfl rfl rfl ⟨rfl, rfl⟩ ⟨_, rfl, B⟩
