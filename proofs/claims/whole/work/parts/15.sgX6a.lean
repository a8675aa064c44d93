theorem zsw_X6_strength_1 {x : Int32} (z1 : ¬ x.toInt < 12) (z2 : ¬ 31 < x.toInt) (c12 : ¬ x = 12) (c13 : ¬ x = 13) (c14 : ¬ x = 14) (c28 : ¬ x = 28) (c29 : ¬ x = 29) (c30 : ¬ x = 30) (c31 : ¬ x = 31) : (#[95, 97, 99, 106, 106, 106, 106, 106, 106, 106, 106, 106, 106, 106, 106, 106, 101, 101, 103, 103] : Array Int)[(x.toInt - 12).toNat]? = some 106 := by
  obtain ⟨v, hv⟩ : ∃ v : Int, v = x.toInt := ⟨_, rfl⟩
  have c12 : v ≠ 12 := fun e => c12 (Int32.toInt_inj.mp (by rw [← hv, e]; decide))
  have c13 : v ≠ 13 := fun e => c13 (Int32.toInt_inj.mp (by rw [← hv, e]; decide))
  have c14 : v ≠ 14 := fun e => c14 (Int32.toInt_inj.mp (by rw [← hv, e]; decide))
  have c28 : v ≠ 28 := fun e => c28 (Int32.toInt_inj.mp (by rw [← hv, e]; decide))
  have c29 : v ≠ 29 := fun e => c29 (Int32.toInt_inj.mp (by rw [← hv, e]; decide))
  have c30 : v ≠ 30 := fun e => c30 (Int32.toInt_inj.mp (by rw [← hv, e]; decide))
  have c31 : v ≠ 31 := fun e => c31 (Int32.toInt_inj.mp (by rw [← hv, e]; decide))
  rw [← hv] at z1 z2 ⊢
  rcases (show v = 12 ∨ v = 13 ∨ v = 14 ∨ v = 15 ∨ v = 16 ∨ v = 17 ∨ v = 18 ∨ v = 19 ∨ v = 20 ∨ v = 21 ∨ v = 22 ∨ v = 23 ∨ v = 24 ∨ v = 25 ∨ v = 26 ∨ v = 27 ∨ v = 28 ∨ v = 29 ∨ v = 30 ∨ v = 31 by omega) with rfl | rfl | rfl | rfl | rfl | rfl | rfl | rfl | rfl | rfl | rfl | rfl | rfl | rfl | rfl | rfl | rfl | rfl | rfl | rfl
  all_goals first | exact absurd rfl (by assumption) | decide
set_option maxRecDepth 100000 in
set_option maxHeartbeats 4000000 in
theorem sg_X6_strength_0 {G : zG} {d : Nat} {h : zMem} {Q : Int32 → zMem → Prop} {x0 : Int32}   (B : (x0 = 12 → Q (1 : Int32) h) ∧ (x0 = 13 → Q (2 : Int32) h) ∧ (x0 = 14 → Q (3 : Int32) h) ∧ (x0 = 28 → Q (5 : Int32) h) ∧ (x0 = 29 → Q (5 : Int32) h) ∧ (x0 = 30 → Q (6 : Int32) h) ∧ (x0 = 31 → Q (6 : Int32) h) ∧ (¬ x0 = 12 → ¬ x0 = 13 → ¬ x0 = 14 → ¬ x0 = 28 → ¬ x0 = 29 → ¬ x0 = 30 → ¬ x0 = 31 → (x0 < (22 : Int32) → Q (0 : Int32) h) ∧ (¬ x0 < (22 : Int32) → ((27 : Int32) < x0 → Q (0 : Int32) h) ∧ (¬ (27 : Int32) < x0 → Q (4 : Int32) h)))) : zg G mX6_strength d 0 [.int x0] [] h (zPI Q) := by
  refine z_iload_n 0 rfl rfl ?_
  by_cases c3_12 : x0 = 12
  · obtain ⟨B, -⟩ := B
    refine z_tableIn 1 96 rfl 12 (by rw [c3_12]; decide) (by decide) (by decide) rfl (by decide) ?_
    have B := B c3_12
    refine z_iconst (v := 1) 2 rfl (by decide) ?_
    exact z_iret 3 rfl rfl rfl ⟨rfl, rfl⟩ ⟨_, rfl, B⟩
  obtain ⟨-, B⟩ := B
  by_cases c3_13 : x0 = 13
  · obtain ⟨B, -⟩ := B
    refine z_tableIn 1 98 rfl 13 (by rw [c3_13]; decide) (by decide) (by decide) rfl (by decide) ?_
    have B := B c3_13
    refine z_iconst (v := 2) 4 rfl (by decide) ?_
    exact z_iret 5 rfl rfl rfl ⟨rfl, rfl⟩ ⟨_, rfl, B⟩
  obtain ⟨-, B⟩ := B
  by_cases c3_14 : x0 = 14
  · obtain ⟨B, -⟩ := B
    refine z_tableIn 1 100 rfl 14 (by rw [c3_14]; decide) (by decide) (by decide) rfl (by decide) ?_
    have B := B c3_14
    refine z_iconst (v := 3) 6 rfl (by decide) ?_
    exact z_iret 7 rfl rfl rfl ⟨rfl, rfl⟩ ⟨_, rfl, B⟩
  obtain ⟨-, B⟩ := B
  by_cases c3_28 : x0 = 28
  · obtain ⟨B, -⟩ := B
    refine z_tableIn 1 102 rfl 28 (by rw [c3_28]; decide) (by decide) (by decide) rfl (by decide) ?_
    have B := B c3_28
    refine z_iconst (v := 5) 8 rfl (by decide) ?_
    exact z_iret 9 rfl rfl rfl ⟨rfl, rfl⟩ ⟨_, rfl, B⟩
  obtain ⟨-, B⟩ := B
  by_cases c3_29 : x0 = 29
  · obtain ⟨B, -⟩ := B
    refine z_tableIn 1 102 rfl 29 (by rw [c3_29]; decide) (by decide) (by decide) rfl (by decide) ?_
    have B := B c3_29
    refine z_iconst (v := 5) 8 rfl (by decide) ?_
    exact z_iret 9 rfl rfl rfl ⟨rfl, rfl⟩ ⟨_, rfl, B⟩
  obtain ⟨-, B⟩ := B
  by_cases c3_30 : x0 = 30
  · obtain ⟨B, -⟩ := B
    refine z_tableIn 1 104 rfl 30 (by rw [c3_30]; decide) (by decide) (by decide) rfl (by decide) ?_
    have B := B c3_30
    refine z_bipush (v := 6) 10 rfl (by decide) ?_
    exact z_iret 11 rfl rfl rfl ⟨rfl, rfl⟩ ⟨_, rfl, B⟩
  obtain ⟨-, B⟩ := B
  by_cases c3_31 : x0 = 31
  · obtain ⟨B, -⟩ := B
    refine z_tableIn 1 104 rfl 31 (by rw [c3_31]; decide) (by decide) (by decide) rfl (by decide) ?_
    have B := B c3_31
    refine z_bipush (v := 6) 10 rfl (by decide) ?_
    exact z_iret 11 rfl rfl rfl ⟨rfl, rfl⟩ ⟨_, rfl, B⟩
  obtain ⟨-, B⟩ := B
  have B := B c3_12 c3_13 c3_14 c3_28 c3_29 c3_30 c3_31
  refine z_tableD 1 107 rfl (by decide) (by
    intro z1 z2
    refine zsw_X6_strength_1 z1 z2 c3_12 c3_13 c3_14 c3_28 c3_29 c3_30 c3_31) ?_
  refine z_iload_n 12 rfl rfl ?_
  refine z_bipush (v := 22) 13 rfl (by decide) ?_
  refine z_icmp_lt 14 123 rfl (by decide) ⟨fun c1 => ?_, fun c1 => ?_⟩
  · have B := B.1 c1
    refine z_iconst (v := 0) 20 rfl (by decide) ?_
    exact z_iret 21 rfl rfl rfl ⟨rfl, rfl⟩ ⟨_, rfl, B⟩
  · have B := B.2 c1
    refine z_iload_n 15 rfl rfl ?_
    refine z_bipush (v := 27) 16 rfl (by decide) ?_
    refine z_icmp_gt 17 123 rfl (by decide) ⟨fun c2 => ?_, fun c2 => ?_⟩
    · have B := B.1 c2
      refine z_iconst (v := 0) 20 rfl (by decide) ?_
      exact z_iret 21 rfl rfl rfl ⟨rfl, rfl⟩ ⟨_, rfl, B⟩
    · have B := B.2 c2
      refine z_iconst (v := 4) 18 rfl (by decide) ?_
      refine z_goto 19 124 rfl (by decide) ?_
      exact z_iret 21 rfl rfl rfl ⟨rfl, rfl⟩ ⟨_, rfl, B⟩
theorem cn_X6_strength {G : zG} {d : Nat} {h : zMem} {Q : Int32 → zMem → Prop} {x0 : Int32} (B : zg G mX6_strength d 0 [.int x0] [] h (zPI Q)) : zConI G mX6_strength d [.int x0] h Q := zcon0 (by decide +kernel) eX6_strength (Nat.le_of_ble_eq_true rfl) rfl B
