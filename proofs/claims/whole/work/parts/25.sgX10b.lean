theorem zsw_X10_line_96 {x : Int32} (z1 : ¬ x.toInt < 0) (z2 : ¬ 6 < x.toInt) (c0 : ¬ x = 0) (c1 : ¬ x = 1) (c2 : ¬ x = 2) (c3 : ¬ x = 3) (c4 : ¬ x = 4) (c5 : ¬ x = 5) (c6 : ¬ x = 6) : (#[44, 103, 118, 125, 183, 268, 283] : Array Int)[(x.toInt - 0).toNat]? = some 299 := by
  obtain ⟨v, hv⟩ : ∃ v : Int, v = x.toInt := ⟨_, rfl⟩
  have c0 : v ≠ 0 := fun e => c0 (Int32.toInt_inj.mp (by rw [← hv, e]; decide))
  have c1 : v ≠ 1 := fun e => c1 (Int32.toInt_inj.mp (by rw [← hv, e]; decide))
  have c2 : v ≠ 2 := fun e => c2 (Int32.toInt_inj.mp (by rw [← hv, e]; decide))
  have c3 : v ≠ 3 := fun e => c3 (Int32.toInt_inj.mp (by rw [← hv, e]; decide))
  have c4 : v ≠ 4 := fun e => c4 (Int32.toInt_inj.mp (by rw [← hv, e]; decide))
  have c5 : v ≠ 5 := fun e => c5 (Int32.toInt_inj.mp (by rw [← hv, e]; decide))
  have c6 : v ≠ 6 := fun e => c6 (Int32.toInt_inj.mp (by rw [← hv, e]; decide))
  rw [← hv] at z1 z2 ⊢
  rcases (show v = 0 ∨ v = 1 ∨ v = 2 ∨ v = 3 ∨ v = 4 ∨ v = 5 ∨ v = 6 by omega) with rfl | rfl | rfl | rfl | rfl | rfl | rfl
  all_goals first | exact absurd rfl (by assumption) | decide
set_option maxRecDepth 100000 in
set_option maxHeartbeats 4000000 in
theorem sg_X10_line_0 {G : zG} {d : Nat} {h : zMem} {Q : zMem → Prop} {a0 : Nat} (B : zO h a0 9 ∧ (¬ (zI h a0 23) = 0 → zg G mX10_line (d + 1) 16 [.ref a0, zU, zU, zU, zU] [] h (zPV Q)) ∧ ((zI h a0 23) = 0 → ((zI h a0 24) ≤ (7 : Int32) → ∃ Q4 : Int32 → zMem → Prop, zConI G mX10_isFull d [.ref a0, .int (zI h a0 24)] h Q4 ∧ (∀ v7 h5, Q4 v7 h5 → (v7 = 0 → ((zI h a0 24) = (5 : Int32) → zg G mX10_line (d + 1) 54 [.ref a0, .int (zI h a0 24), zU, zU, zU] [] h5 (zPV Q)) ∧ (¬ (zI h a0 24) = (5 : Int32) → (¬ (zI h a0 24) = (6 : Int32) → zg G mX10_line (d + 1) 71 [.ref a0, .int (zI h a0 24), zU, zU, zU] [] h5 (zPV Q)) ∧ ((zI h a0 24) = (6 : Int32) → zg G mX10_line (d + 1) 54 [.ref a0, .int (zI h a0 24), zU, zU, zU] [] h5 (zPV Q)))) ∧ (¬ v7 = 0 → zO h5 a0 9 ∧ ∃ Q11 : zMem → Prop, zConV G mX10_wrong d [.ref a0, .int (2 : Int32)] h5 Q11 ∧ (∀ h12, Q11 h12 → zg G mX10_line (d + 1) 71 [.ref a0, .int (zI h a0 24), zU, zU, zU] [] h12 (zPV Q))))) ∧ (¬ (zI h a0 24) ≤ (7 : Int32) → zg G mX10_line (d + 1) 16 [.ref a0, zU, zU, zU, zU] [] h (zPV Q)))) : zg G mX10_line (d + 1) 0 [.ref a0, zU, zU, zU, zU] [] h (zPV Q) := by
  refine z_aload_n 0 rfl rfl ?_
  obtain ⟨o1, B⟩ := B
  refine z_getI 1 rfl lX10_179 rfl o1 ?_
  refine z_if_ne 2 16 rfl (by decide) ⟨fun c2 => ?_, fun c2 => ?_⟩
  · have B := B.1 c2
    exact B
  · have B := B.2 c2
    refine z_aload_n 3 rfl rfl ?_
    refine z_getI 4 rfl lX10_189 rfl o1 ?_
    refine z_bipush (v := 7) 5 rfl (by decide) ?_
    refine z_icmp_le 6 22 rfl (by decide) ⟨fun c3 => ?_, fun c3 => ?_⟩
    · have B := B.1 c3
      refine z_aload_n 11 rfl rfl ?_
      refine z_getI 12 rfl lX10_189 rfl o1 ?_
      refine z_istore_n 13 rfl (by decide) rfl ?_
      refine z_aload_n 14 rfl rfl ?_
      refine z_iload_n 15 rfl rfl ?_
      obtain ⟨Q4, K6, B⟩ := B
      refine z_cVI1 (ν := mX10_isFull) 16 rfl rfl fX10_isFull gX10_234 ⟨_, rfl, rfl⟩ (by decide) o1 (Nat.le_of_ble_eq_true rfl) K6 (fun v7 h5 q => ?_)
      have B := B v7 h5 q
      refine z_if_eq 17 43 rfl (by decide) ⟨fun c8 => ?_, fun c8 => ?_⟩
      · have B := B.1 c8
        refine z_iload_n 22 rfl rfl ?_
        refine z_iconst (v := 5) 23 rfl (by decide) ?_
        refine z_icmp_eq 24 54 rfl (by decide) ⟨fun c9 => ?_, fun c9 => ?_⟩
        · have B := B.1 c9
          exact B
        · have B := B.2 c9
          refine z_iload_n 25 rfl rfl ?_
          refine z_bipush (v := 6) 26 rfl (by decide) ?_
          refine z_icmp_ne 27 71 rfl (by decide) ⟨fun c10 => ?_, fun c10 => ?_⟩
          · have B := B.1 c10
            exact B
          · have B := B.2 c10
            exact B
      · have B := B.2 c8
        refine z_aload_n 18 rfl rfl ?_
        refine z_iconst (v := 2) 19 rfl (by decide) ?_
        obtain ⟨o14, B⟩ := B
        obtain ⟨Q11, K13, B⟩ := B
        refine z_cVV1 (ν := mX10_wrong) 20 rfl rfl fX10_wrong gX10_223 ⟨_, rfl, rfl⟩ (by decide) o14 (Nat.le_of_ble_eq_true rfl) K13 (fun h12 q => ?_)
        have B := B h12 q
        refine z_goto 21 71 rfl (by decide) ?_
        exact B
    · have B := B.2 c3
      exact B
theorem cn_X10_line {G : zG} {d : Nat} {h : zMem} {Q : zMem → Prop} {a0 : Nat} (B : zg G mX10_line (d + 1) 0 [.ref a0, zU, zU, zU, zU] [] h (zPV Q)) : zConV G mX10_line (d + 1) [.ref a0] h Q := zcon0 (by decide +kernel) eX10_line (Nat.le_of_ble_eq_true rfl) rfl B
set_option maxRecDepth 100000 in
set_option maxHeartbeats 4000000 in
theorem sg_X10_line_16 {G : zG} {d : Nat} {h : zMem} {Q : zMem → Prop} {a0 : Nat} (B : zO h a0 9 ∧ ∃ Q1 : zMem → Prop, zConV G mX10_wrong d [.ref a0, .int (1 : Int32)] h Q1 ∧ (∀ h2, Q1 h2 → Q h2)) : zg G mX10_line (d + 1) 16 [.ref a0, zU, zU, zU, zU] [] h (zPV Q) := by
  refine z_aload_n 7 rfl rfl ?_
  refine z_iconst (v := 1) 8 rfl (by decide) ?_
  obtain ⟨o4, B⟩ := B
  obtain ⟨Q1, K3, B⟩ := B
  refine z_cVV1 (ν := mX10_wrong) 9 rfl rfl fX10_wrong gX10_223 ⟨_, rfl, rfl⟩ (by decide) o4 (Nat.le_of_ble_eq_true rfl) K3 (fun h2 q => ?_)
  have B := B h2 q
  exact z_vret 10 rfl rfl ⟨rfl, rfl⟩ ⟨rfl, B⟩
set_option maxRecDepth 100000 in
set_option maxHeartbeats 4000000 in
theorem sg_X10_line_54 {G : zG} {d : Nat} {h : zMem} {Q : zMem → Prop} {a0 : Nat} {x1 : Int32} (B : zO h a0 9 ∧ (¬ (((zI h a0 18) >>> (x1 &&& 31)) &&& (1 : Int32)) = (1 : Int32) → zg G mX10_line (d + 1) 71 [.ref a0, .int x1, zU, zU, zU] [] h (zPV Q)) ∧ ((((zI h a0 18) >>> (x1 &&& 31)) &&& (1 : Int32)) = (1 : Int32) → ∃ Q3 : zMem → Prop, zConV G mX10_wrong d [.ref a0, .int (3 : Int32)] h Q3 ∧ (∀ h4, Q3 h4 → zg G mX10_line (d + 1) 71 [.ref a0, .int x1, zU, zU, zU] [] h4 (zPV Q)))) : zg G mX10_line (d + 1) 54 [.ref a0, .int x1, zU, zU, zU] [] h (zPV Q) := by
  refine z_aload_n 28 rfl rfl ?_
  obtain ⟨o1, B⟩ := B
  refine z_getI 29 rfl lX10_237 rfl o1 ?_
  refine z_iload_n 30 rfl rfl ?_
  refine z_ishr 31 rfl ?_
  refine z_iconst (v := 1) 32 rfl (by decide) ?_
  refine z_iand 33 rfl ?_
  refine z_iconst (v := 1) 34 rfl (by decide) ?_
  refine z_icmp_ne 35 71 rfl (by decide) ⟨fun c2 => ?_, fun c2 => ?_⟩
  · have B := B.1 c2
    exact B
  · have B := B.2 c2
    refine z_aload_n 36 rfl rfl ?_
    refine z_iconst (v := 3) 37 rfl (by decide) ?_
    obtain ⟨Q3, K5, B⟩ := B
    refine z_cVV1 (ν := mX10_wrong) 38 rfl rfl fX10_wrong gX10_223 ⟨_, rfl, rfl⟩ (by decide) o1 (Nat.le_of_ble_eq_true rfl) K5 (fun h4 q => ?_)
    have B := B h4 q
    exact B
set_option maxRecDepth 100000 in
set_option maxHeartbeats 4000000 in
theorem sg_X10_line_71 {G : zG} {d : Nat} {h : zMem} {Q : zMem → Prop} {a0 : Nat} {x1 : Int32} (B : zO h a0 9 ∧ ((zI h a0 25) = 0 → ∃ Q3 : zMem → Prop, zConV G mX10_token d [.ref a0] (zsI h a0 18 ((zI h a0 18) ||| ((1 : Int32) <<< (x1 &&& 31)))) Q3 ∧ (∀ h4, Q3 h4 → (x1 = 0 → zO h4 a0 9 ∧ ∃ Q6 : Int32 → zMem → Prop, zConI G mX10_fresher d [.ref a0, .int (0 : Int32)] h4 Q6 ∧ (∀ v9 h7, Q6 v9 h7 → zO h7 a0 9 ∧ ∃ r11, zR h7 a0 4 = some r11 ∧ ∃ Q12 : Int32 → zMem → Prop, zConI G mX10_fresher d [.ref a0, .int (0 : Int32)] h7 Q12 ∧ (∀ v15 h13, Q12 v15 h13 → zO h13 a0 9 ∧ ∃ Q16 : Int32 → zMem → Prop, zConI G mX10_fresh d [.ref a0, .ref r11, .int (6 : Int32), .int v15] h13 Q16 ∧ (∀ v19 h17, Q16 v19 h17 → zO h17 r11 100 ∧ vp_in ((6 : Int32) + v9) (zLen h17 r11) ∧ zO h17 a0 9 ∧ ∃ r23, zR h17 a0 5 = some r23 ∧ ∃ Q24 : Int32 → zMem → Prop, zConI G mX10_numeral d [.ref a0, .int (0 : Int32), .int (999 : Int32)] (zsI h17 r11 ((6 : Int32) + v9).toNatClampNeg v19) Q24 ∧ (∀ v27 h25, Q24 v27 h25 → zO h25 r23 100 ∧ vp_in ((6 : Int32) + v9) (zLen h25 r23) ∧ zO h25 a0 9 ∧ ∃ Q30 : Int32 → zMem → Prop, zConI G mX10_fresher d [.ref a0, .int (0 : Int32)] (zsI h25 r23 ((6 : Int32) + v9).toNatClampNeg v27) Q30 ∧ (∀ v33 h31, Q30 v33 h31 → zO h31 a0 9 ∧ ∃ Q34 : zMem → Prop, zConV G mX10_reads d [.ref a0, .int (0 : Int32), .int (v33 + (1 : Int32))] h31 Q34 ∧ (∀ h35, Q34 h35 → zg G mX10_line (d + 1) 399 [.ref a0, .int x1, zU, zU, zU] [] h35 (zPV Q)))))))) ∧ (x1 = 1 → zO h4 a0 9 ∧ ∃ Q41 : Int32 → zMem → Prop, zConI G mX10_fresher d [.ref a0, .int (1 : Int32)] h4 Q41 ∧ (∀ v44 h42, Q41 v44 h42 → zO h42 a0 9 ∧ ∃ Q45 : zMem → Prop, zConV G mX10_dayLine d [.ref a0, .int ((8 : Int32) + v44)] h42 Q45 ∧ (∀ h46, Q45 h46 → zg G mX10_line (d + 1) 399 [.ref a0, .int x1, zU, zU, zU] [] h46 (zPV Q)))) ∧ (x1 = 2 → zO h4 a0 9 ∧ ∃ Q50 : zMem → Prop, zConV G mX10_mixLine d [.ref a0] h4 Q50 ∧ (∀ h51, Q50 h51 → zg G mX10_line (d + 1) 399 [.ref a0, .int x1, zU, zU, zU] [] h51 (zPV Q))) ∧ (x1 = 3 → zO h4 a0 9 ∧ ∃ Q54 : Int32 → zMem → Prop, zConI G mX10_fresher d [.ref a0, .int (3 : Int32)] h4 Q54 ∧ (∀ v57 h55, Q54 v57 h55 → zO h55 a0 9 ∧ ∃ r59, zR h55 a0 9 = some r59 ∧ ∃ Q60 : Int32 → zMem → Prop, zConI G mX10_fresher d [.ref a0, .int (3 : Int32)] h55 Q60 ∧ (∀ v63 h61, Q60 v63 h61 → zO h61 a0 9 ∧ ∃ Q64 : Int32 → zMem → Prop, zConI G mX10_fresh d [.ref a0, .ref r59, .int (6 : Int32), .int v63] h61 Q64 ∧ (∀ v67 h65, Q64 v67 h65 → zO h65 r59 100 ∧ vp_in ((6 : Int32) + v57) (zLen h65 r59) ∧ zO h65 a0 9 ∧ ∃ r71, zR h65 a0 10 = some r71 ∧ ∃ Q72 : Int32 → zMem → Prop, zConI G mX10_numeral d [.ref a0, .int (0 : Int32), .int (100 : Int32)] (zsI h65 r59 ((6 : Int32) + v57).toNatClampNeg v67) Q72 ∧ (∀ v75 h73, Q72 v75 h73 → zO h73 r71 100 ∧ vp_in ((6 : Int32) + v57) (zLen h73 r71) ∧ zO h73 a0 9 ∧ ∃ Q78 : Int32 → zMem → Prop, zConI G mX10_fresher d [.ref a0, .int (3 : Int32)] (zsI h73 r71 ((6 : Int32) + v57).toNatClampNeg v75) Q78 ∧ (∀ v81 h79, Q78 v81 h79 → zO h79 a0 9 ∧ ∃ Q82 : zMem → Prop, zConV G mX10_reads d [.ref a0, .int (3 : Int32), .int (v81 + (1 : Int32))] h79 Q82 ∧ (∀ h83, Q82 h83 → zg G mX10_line (d + 1) 399 [.ref a0, .int x1, zU, zU, zU] [] h83 (zPV Q)))))))) ∧ (x1 = 4 → zO h4 a0 9 ∧ ∃ Q89 : Int32 → zMem → Prop, zConI G mX10_fresher d [.ref a0, .int (4 : Int32)] h4 Q89 ∧ (∀ v92 h90, Q89 v92 h90 → zO h90 a0 9 ∧ ∃ r94, zR h90 a0 11 = some r94 ∧ ∃ Q95 : Int32 → zMem → Prop, zConI G mX10_fresher d [.ref a0, .int (4 : Int32)] h90 Q95 ∧ (∀ v98 h96, Q95 v98 h96 → zO h96 a0 9 ∧ ∃ Q99 : Int32 → zMem → Prop, zConI G mX10_fresh d [.ref a0, .ref r94, .int (5 : Int32), .int v98] h96 Q99 ∧ (∀ v102 h100, Q99 v102 h100 → zO h100 r94 100 ∧ vp_in ((5 : Int32) + v92) (zLen h100 r94) ∧ zO h100 a0 9 ∧ ∃ r106, zR h100 a0 12 = some r106 ∧ ∃ r107, zR h100 a0 9 = some r107 ∧ ∃ Q108 : Int32 → zMem → Prop, zConI G mX10_fresher d [.ref a0, .int (3 : Int32)] (zsI h100 r94 ((5 : Int32) + v92).toNatClampNeg v102) Q108 ∧ (∀ v111 h109, Q108 v111 h109 → zO h109 a0 9 ∧ ∃ Q112 : Int32 → zMem → Prop, zConI G mX10_toldAhead d [.ref a0, .ref r107, .int (6 : Int32), .int v111] h109 Q112 ∧ (∀ v115 h113, Q112 v115 h113 → zO h113 r106 100 ∧ vp_in ((5 : Int32) + v92) (zLen h113 r106) ∧ zO h113 a0 9 ∧ ∃ Q118 : zMem → Prop, zConV G mX10_goOn d [.ref a0] (zsI h113 r106 ((5 : Int32) + v92).toNatClampNeg v115) Q118 ∧ (∀ h119, Q118 h119 → zO h119 a0 9 ∧ ∃ r122, zR h119 a0 13 = some r122 ∧ ∃ Q123 : Int32 → zMem → Prop, zConI G mX10_numeral d [.ref a0, .int (1 : Int32), .int (99 : Int32)] h119 Q123 ∧ (∀ v126 h124, Q123 v126 h124 → zO h124 r122 100 ∧ vp_in ((5 : Int32) + v92) (zLen h124 r122) ∧ zO h124 a0 9 ∧ ∃ Q129 : Int32 → zMem → Prop, zConI G mX10_fresher d [.ref a0, .int (4 : Int32)] (zsI h124 r122 ((5 : Int32) + v92).toNatClampNeg v126) Q129 ∧ (∀ v132 h130, Q129 v132 h130 → zO h130 a0 9 ∧ ∃ Q133 : zMem → Prop, zConV G mX10_reads d [.ref a0, .int (4 : Int32), .int (v132 + (1 : Int32))] h130 Q133 ∧ (∀ h134, Q133 h134 → zg G mX10_line (d + 1) 399 [.ref a0, .int x1, zU, zU, zU] [] h134 (zPV Q))))))))))) ∧ (x1 = 5 → zO h4 a0 9 ∧ ∃ Q142 : Int32 → zMem → Prop, zConI G mX10_numeral d [.ref a0, .int (0 : Int32), .int (100 : Int32)] h4 Q142 ∧ (∀ v145 h143, Q142 v145 h143 → zO h143 a0 9 ∧ ∃ Q146 : zMem → Prop, zConV G mX10_reads d [.ref a0, .int (5 : Int32), .int v145] h143 Q146 ∧ (∀ h147, Q146 h147 → zg G mX10_line (d + 1) 399 [.ref a0, .int x1, zU, zU, zU] [] h147 (zPV Q)))) ∧ (x1 = 6 → zO h4 a0 9 ∧ ∃ Q151 : Int32 → zMem → Prop, zConI G mX10_numeral d [.ref a0, .int (0 : Int32), .int (99999 : Int32)] h4 Q151 ∧ (∀ v154 h152, Q151 v154 h152 → zO h152 a0 9 ∧ ∃ Q155 : zMem → Prop, zConV G mX10_reads d [.ref a0, .int (6 : Int32), .int v154] h152 Q155 ∧ (∀ h156, Q155 h156 → zg G mX10_line (d + 1) 399 [.ref a0, .int x1, zU, zU, zU] [] h156 (zPV Q)))) ∧ (¬ x1 = 0 → ¬ x1 = 1 → ¬ x1 = 2 → ¬ x1 = 3 → ¬ x1 = 4 → ¬ x1 = 5 → ¬ x1 = 6 → zO h4 a0 9 ∧ ∃ Q160 : zMem → Prop, zConV G mX10_lawLine d [.ref a0] h4 Q160 ∧ (∀ h161, Q160 h161 → zg G mX10_line (d + 1) 399 [.ref a0, .int x1, zU, zU, zU] [] h161 (zPV Q))))) ∧ (¬ (zI h a0 25) = 0 → Q h)) : zg G mX10_line (d + 1) 71 [.ref a0, .int x1, zU, zU, zU] [] h (zPV Q) := by
  refine z_aload_n 39 rfl rfl ?_
  obtain ⟨o1, B⟩ := B
  refine z_getI 40 rfl lX10_214 rfl o1 ?_
  refine z_if_eq 41 79 rfl (by decide) ⟨fun c2 => ?_, fun c2 => ?_⟩
  · have B := B.1 c2
    refine z_aload_n 43 rfl rfl ?_
    refine z_dup 44 rfl rfl ?_
    refine z_getI 45 rfl lX10_237 rfl o1 ?_
    refine z_iconst (v := 1) 46 rfl (by decide) ?_
    refine z_iload_n 47 rfl rfl ?_
    refine z_ishl 48 rfl ?_
    refine z_ior 49 rfl ?_
    refine z_putI 50 rfl lX10_237 ⟨_, _, _, rfl, rfl⟩ rfl rfl rfl o1 ?_
    refine z_aload_n 51 rfl rfl ?_
    obtain ⟨Q3, K5, B⟩ := B
    refine z_cVV0 (ν := mX10_token) 52 rfl rfl fX10_token gX10_220 ⟨_, rfl, rfl⟩ (by decide) o1 (Nat.le_of_ble_eq_true rfl) K5 (fun h4 q => ?_)
    have B := B h4 q
    refine z_iload_n 53 rfl rfl ?_
    by_cases c164_0 : x1 = 0
    · obtain ⟨B, -⟩ := B
      refine z_tableIn 54 140 rfl 0 (by rw [c164_0]; decide) (by decide) (by decide) rfl (by decide) ?_
      have B := B c164_0
      refine z_bipush (v := 6) 55 rfl (by decide) ?_
      refine z_aload_n 56 rfl rfl ?_
      refine z_iconst (v := 0) 57 rfl (by decide) ?_
      obtain ⟨o40, B⟩ := B
      obtain ⟨Q6, K8, B⟩ := B
      refine z_cVI1 (ν := mX10_fresher) 58 rfl rfl fX10_fresher gX10_230 ⟨_, rfl, rfl⟩ (by decide) o40 (Nat.le_of_ble_eq_true rfl) K8 (fun v9 h7 q => ?_)
      have B := B v9 h7 q
      refine z_iadd 59 rfl ?_
      refine z_istore_n 60 rfl (by decide) rfl ?_
      refine z_aload_n 61 rfl rfl ?_
      obtain ⟨o10, B⟩ := B
      obtain ⟨r11, hr11, B⟩ := B
      refine z_getR 62 rfl lX10_16 rfl o10 hr11 ?_
      refine z_iload_n 63 rfl rfl ?_
      refine z_aload_n 64 rfl rfl ?_
      refine z_aload_n 65 rfl rfl ?_
      refine z_getR 66 rfl lX10_16 rfl o10 hr11 ?_
      refine z_bipush (v := 6) 67 rfl (by decide) ?_
      refine z_aload_n 68 rfl rfl ?_
      refine z_iconst (v := 0) 69 rfl (by decide) ?_
      obtain ⟨Q12, K14, B⟩ := B
      refine z_cVI1 (ν := mX10_fresher) 70 rfl rfl fX10_fresher gX10_230 ⟨_, rfl, rfl⟩ (by decide) o10 (Nat.le_of_ble_eq_true rfl) K14 (fun v15 h13 q => ?_)
      have B := B v15 h13 q
      obtain ⟨o39, B⟩ := B
      obtain ⟨Q16, K18, B⟩ := B
      refine z_cVI3 (ν := mX10_fresh) 71 rfl rfl fX10_fresh gX10_240 ⟨_, rfl, rfl⟩ (by decide) o39 (Nat.le_of_ble_eq_true rfl) K18 (fun v19 h17 q => ?_)
      have B := B v19 h17 q
      obtain ⟨o20, B⟩ := B
      obtain ⟨o21, B⟩ := B
      refine z_iast 72 rfl o20 o21 ?_
      refine z_aload_n 73 rfl rfl ?_
      obtain ⟨o22, B⟩ := B
      obtain ⟨r23, hr23, B⟩ := B
      refine z_getR 74 rfl lX10_19 rfl o22 hr23 ?_
      refine z_iload_n 75 rfl rfl ?_
      refine z_aload_n 76 rfl rfl ?_
      refine z_iconst (v := 0) 77 rfl (by decide) ?_
      refine z_sipush (v := 999) 78 rfl (by decide) ?_
      obtain ⟨Q24, K26, B⟩ := B
      refine z_cVI2 (ν := mX10_numeral) 79 rfl rfl fX10_numeral gX10_244 ⟨_, rfl, rfl⟩ (by decide) o22 (Nat.le_of_ble_eq_true rfl) K26 (fun v27 h25 q => ?_)
      have B := B v27 h25 q
      obtain ⟨o28, B⟩ := B
      obtain ⟨o29, B⟩ := B
      refine z_iast 80 rfl o28 o29 ?_
      refine z_aload_n 81 rfl rfl ?_
      refine z_iconst (v := 0) 82 rfl (by decide) ?_
      refine z_aload_n 83 rfl rfl ?_
      refine z_iconst (v := 0) 84 rfl (by decide) ?_
      obtain ⟨o38, B⟩ := B
      obtain ⟨Q30, K32, B⟩ := B
      refine z_cVI1 (ν := mX10_fresher) 85 rfl rfl fX10_fresher gX10_230 ⟨_, rfl, rfl⟩ (by decide) o38 (Nat.le_of_ble_eq_true rfl) K32 (fun v33 h31 q => ?_)
      have B := B v33 h31 q
      refine z_iconst (v := 1) 86 rfl (by decide) ?_
      refine z_iadd 87 rfl ?_
      obtain ⟨o37, B⟩ := B
      obtain ⟨Q34, K36, B⟩ := B
      refine z_cVV2 (ν := mX10_reads) 88 rfl rfl fX10_reads gX10_248 ⟨_, rfl, rfl⟩ (by decide) o37 (Nat.le_of_ble_eq_true rfl) K36 (fun h35 q => ?_)
      have B := B h35 q
      refine z_goto 89 399 rfl (by decide) ?_
      refine z_drop 2 ?_
      exact B
    obtain ⟨-, B⟩ := B
    by_cases c164_1 : x1 = 1
    · obtain ⟨B, -⟩ := B
      refine z_tableIn 54 199 rfl 1 (by rw [c164_1]; decide) (by decide) (by decide) rfl (by decide) ?_
      have B := B c164_1
      refine z_aload_n 90 rfl rfl ?_
      refine z_bipush (v := 8) 91 rfl (by decide) ?_
      refine z_aload_n 92 rfl rfl ?_
      refine z_iconst (v := 1) 93 rfl (by decide) ?_
      obtain ⟨o49, B⟩ := B
      obtain ⟨Q41, K43, B⟩ := B
      refine z_cVI1 (ν := mX10_fresher) 94 rfl rfl fX10_fresher gX10_230 ⟨_, rfl, rfl⟩ (by decide) o49 (Nat.le_of_ble_eq_true rfl) K43 (fun v44 h42 q => ?_)
      have B := B v44 h42 q
      refine z_iadd 95 rfl ?_
      obtain ⟨o48, B⟩ := B
      obtain ⟨Q45, K47, B⟩ := B
      refine z_cVV1 (ν := mX10_dayLine) 96 rfl rfl fX10_dayLine gX10_252 ⟨_, rfl, rfl⟩ (by decide) o48 (Nat.le_of_ble_eq_true rfl) K47 (fun h46 q => ?_)
      have B := B h46 q
      refine z_goto 97 399 rfl (by decide) ?_
      exact B
    obtain ⟨-, B⟩ := B
    by_cases c164_2 : x1 = 2
    · obtain ⟨B, -⟩ := B
      refine z_tableIn 54 214 rfl 2 (by rw [c164_2]; decide) (by decide) (by decide) rfl (by decide) ?_
      have B := B c164_2
      refine z_aload_n 98 rfl rfl ?_
      obtain ⟨o53, B⟩ := B
      obtain ⟨Q50, K52, B⟩ := B
      refine z_cVV0 (ν := mX10_mixLine) 99 rfl rfl fX10_mixLine gX10_255 ⟨_, rfl, rfl⟩ (by decide) o53 (Nat.le_of_ble_eq_true rfl) K52 (fun h51 q => ?_)
      have B := B h51 q
      refine z_goto 100 399 rfl (by decide) ?_
      exact B
    obtain ⟨-, B⟩ := B
    by_cases c164_3 : x1 = 3
    · obtain ⟨B, -⟩ := B
      refine z_tableIn 54 221 rfl 3 (by rw [c164_3]; decide) (by decide) (by decide) rfl (by decide) ?_
      have B := B c164_3
      refine z_bipush (v := 6) 101 rfl (by decide) ?_
      refine z_aload_n 102 rfl rfl ?_
      refine z_iconst (v := 3) 103 rfl (by decide) ?_
      obtain ⟨o88, B⟩ := B
      obtain ⟨Q54, K56, B⟩ := B
      refine z_cVI1 (ν := mX10_fresher) 104 rfl rfl fX10_fresher gX10_230 ⟨_, rfl, rfl⟩ (by decide) o88 (Nat.le_of_ble_eq_true rfl) K56 (fun v57 h55 q => ?_)
      have B := B v57 h55 q
      refine z_iadd 105 rfl ?_
      refine z_istore_n 106 rfl (by decide) rfl ?_
      refine z_aload_n 107 rfl rfl ?_
      obtain ⟨o58, B⟩ := B
      obtain ⟨r59, hr59, B⟩ := B
      refine z_getR 108 rfl lX10_31 rfl o58 hr59 ?_
      refine z_iload_n 109 rfl rfl ?_
      refine z_aload_n 110 rfl rfl ?_
      refine z_aload_n 111 rfl rfl ?_
      refine z_getR 112 rfl lX10_31 rfl o58 hr59 ?_
      refine z_bipush (v := 6) 113 rfl (by decide) ?_
      refine z_aload_n 114 rfl rfl ?_
      refine z_iconst (v := 3) 115 rfl (by decide) ?_
      obtain ⟨Q60, K62, B⟩ := B
      refine z_cVI1 (ν := mX10_fresher) 116 rfl rfl fX10_fresher gX10_230 ⟨_, rfl, rfl⟩ (by decide) o58 (Nat.le_of_ble_eq_true rfl) K62 (fun v63 h61 q => ?_)
      have B := B v63 h61 q
      obtain ⟨o87, B⟩ := B
      obtain ⟨Q64, K66, B⟩ := B
      refine z_cVI3 (ν := mX10_fresh) 117 rfl rfl fX10_fresh gX10_240 ⟨_, rfl, rfl⟩ (by decide) o87 (Nat.le_of_ble_eq_true rfl) K66 (fun v67 h65 q => ?_)
      have B := B v67 h65 q
      obtain ⟨o68, B⟩ := B
      obtain ⟨o69, B⟩ := B
      refine z_iast 118 rfl o68 o69 ?_
      refine z_aload_n 119 rfl rfl ?_
      obtain ⟨o70, B⟩ := B
      obtain ⟨r71, hr71, B⟩ := B
      refine z_getR 120 rfl lX10_34 rfl o70 hr71 ?_
      refine z_iload_n 121 rfl rfl ?_
      refine z_aload_n 122 rfl rfl ?_
      refine z_iconst (v := 0) 123 rfl (by decide) ?_
      refine z_bipush (v := 100) 124 rfl (by decide) ?_
      obtain ⟨Q72, K74, B⟩ := B
      refine z_cVI2 (ν := mX10_numeral) 125 rfl rfl fX10_numeral gX10_244 ⟨_, rfl, rfl⟩ (by decide) o70 (Nat.le_of_ble_eq_true rfl) K74 (fun v75 h73 q => ?_)
      have B := B v75 h73 q
      obtain ⟨o76, B⟩ := B
      obtain ⟨o77, B⟩ := B
      refine z_iast 126 rfl o76 o77 ?_
      refine z_aload_n 127 rfl rfl ?_
      refine z_iconst (v := 3) 128 rfl (by decide) ?_
      refine z_aload_n 129 rfl rfl ?_
      refine z_iconst (v := 3) 130 rfl (by decide) ?_
      obtain ⟨o86, B⟩ := B
      obtain ⟨Q78, K80, B⟩ := B
      refine z_cVI1 (ν := mX10_fresher) 131 rfl rfl fX10_fresher gX10_230 ⟨_, rfl, rfl⟩ (by decide) o86 (Nat.le_of_ble_eq_true rfl) K80 (fun v81 h79 q => ?_)
      have B := B v81 h79 q
      refine z_iconst (v := 1) 132 rfl (by decide) ?_
      refine z_iadd 133 rfl ?_
      obtain ⟨o85, B⟩ := B
      obtain ⟨Q82, K84, B⟩ := B
      refine z_cVV2 (ν := mX10_reads) 134 rfl rfl fX10_reads gX10_248 ⟨_, rfl, rfl⟩ (by decide) o85 (Nat.le_of_ble_eq_true rfl) K84 (fun h83 q => ?_)
      have B := B h83 q
      refine z_goto 135 399 rfl (by decide) ?_
      refine z_drop 3 ?_
      exact B
    obtain ⟨-, B⟩ := B
    by_cases c164_4 : x1 = 4
    · obtain ⟨B, -⟩ := B
      refine z_tableIn 54 279 rfl 4 (by rw [c164_4]; decide) (by decide) (by decide) rfl (by decide) ?_
      have B := B c164_4
      refine z_iconst (v := 5) 136 rfl (by decide) ?_
      refine z_aload_n 137 rfl rfl ?_
      refine z_iconst (v := 4) 138 rfl (by decide) ?_
      obtain ⟨o141, B⟩ := B
      obtain ⟨Q89, K91, B⟩ := B
      refine z_cVI1 (ν := mX10_fresher) 139 rfl rfl fX10_fresher gX10_230 ⟨_, rfl, rfl⟩ (by decide) o141 (Nat.le_of_ble_eq_true rfl) K91 (fun v92 h90 q => ?_)
      have B := B v92 h90 q
      refine z_iadd 140 rfl ?_
      refine z_istore 141 rfl (by decide) rfl ?_
      refine z_aload_n 142 rfl rfl ?_
      obtain ⟨o93, B⟩ := B
      obtain ⟨r94, hr94, B⟩ := B
      refine z_getR 143 rfl lX10_37 rfl o93 hr94 ?_
      refine z_iload 144 rfl rfl ?_
      refine z_aload_n 145 rfl rfl ?_
      refine z_aload_n 146 rfl rfl ?_
      refine z_getR 147 rfl lX10_37 rfl o93 hr94 ?_
      refine z_iconst (v := 5) 148 rfl (by decide) ?_
      refine z_aload_n 149 rfl rfl ?_
      refine z_iconst (v := 4) 150 rfl (by decide) ?_
      obtain ⟨Q95, K97, B⟩ := B
      refine z_cVI1 (ν := mX10_fresher) 151 rfl rfl fX10_fresher gX10_230 ⟨_, rfl, rfl⟩ (by decide) o93 (Nat.le_of_ble_eq_true rfl) K97 (fun v98 h96 q => ?_)
      have B := B v98 h96 q
      obtain ⟨o140, B⟩ := B
      obtain ⟨Q99, K101, B⟩ := B
      refine z_cVI3 (ν := mX10_fresh) 152 rfl rfl fX10_fresh gX10_240 ⟨_, rfl, rfl⟩ (by decide) o140 (Nat.le_of_ble_eq_true rfl) K101 (fun v102 h100 q => ?_)
      have B := B v102 h100 q
      obtain ⟨o103, B⟩ := B
      obtain ⟨o104, B⟩ := B
      refine z_iast 153 rfl o103 o104 ?_
      refine z_aload_n 154 rfl rfl ?_
      obtain ⟨o105, B⟩ := B
      obtain ⟨r106, hr106, B⟩ := B
      refine z_getR 155 rfl lX10_40 rfl o105 hr106 ?_
      refine z_iload 156 rfl rfl ?_
      refine z_aload_n 157 rfl rfl ?_
      refine z_aload_n 158 rfl rfl ?_
      obtain ⟨r107, hr107, B⟩ := B
      refine z_getR 159 rfl lX10_31 rfl o105 hr107 ?_
      refine z_bipush (v := 6) 160 rfl (by decide) ?_
      refine z_aload_n 161 rfl rfl ?_
      refine z_iconst (v := 3) 162 rfl (by decide) ?_
      obtain ⟨Q108, K110, B⟩ := B
      refine z_cVI1 (ν := mX10_fresher) 163 rfl rfl fX10_fresher gX10_230 ⟨_, rfl, rfl⟩ (by decide) o105 (Nat.le_of_ble_eq_true rfl) K110 (fun v111 h109 q => ?_)
      have B := B v111 h109 q
      obtain ⟨o139, B⟩ := B
      obtain ⟨Q112, K114, B⟩ := B
      refine z_cVI3 (ν := mX10_toldAhead) 164 rfl rfl fX10_toldAhead gX10_258 ⟨_, rfl, rfl⟩ (by decide) o139 (Nat.le_of_ble_eq_true rfl) K114 (fun v115 h113 q => ?_)
      have B := B v115 h113 q
      obtain ⟨o116, B⟩ := B
      obtain ⟨o117, B⟩ := B
      refine z_iast 165 rfl o116 o117 ?_
      refine z_aload_n 166 rfl rfl ?_
      obtain ⟨o138, B⟩ := B
      obtain ⟨Q118, K120, B⟩ := B
      refine z_cVV0 (ν := mX10_goOn) 167 rfl rfl fX10_goOn gX10_261 ⟨_, rfl, rfl⟩ (by decide) o138 (Nat.le_of_ble_eq_true rfl) K120 (fun h119 q => ?_)
      have B := B h119 q
      refine z_aload_n 168 rfl rfl ?_
      obtain ⟨o121, B⟩ := B
      obtain ⟨r122, hr122, B⟩ := B
      refine z_getR 169 rfl lX10_43 rfl o121 hr122 ?_
      refine z_iload 170 rfl rfl ?_
      refine z_aload_n 171 rfl rfl ?_
      refine z_iconst (v := 1) 172 rfl (by decide) ?_
      refine z_bipush (v := 99) 173 rfl (by decide) ?_
      obtain ⟨Q123, K125, B⟩ := B
      refine z_cVI2 (ν := mX10_numeral) 174 rfl rfl fX10_numeral gX10_244 ⟨_, rfl, rfl⟩ (by decide) o121 (Nat.le_of_ble_eq_true rfl) K125 (fun v126 h124 q => ?_)
      have B := B v126 h124 q
      obtain ⟨o127, B⟩ := B
      obtain ⟨o128, B⟩ := B
      refine z_iast 175 rfl o127 o128 ?_
      refine z_aload_n 176 rfl rfl ?_
      refine z_iconst (v := 4) 177 rfl (by decide) ?_
      refine z_aload_n 178 rfl rfl ?_
      refine z_iconst (v := 4) 179 rfl (by decide) ?_
      obtain ⟨o137, B⟩ := B
      obtain ⟨Q129, K131, B⟩ := B
      refine z_cVI1 (ν := mX10_fresher) 180 rfl rfl fX10_fresher gX10_230 ⟨_, rfl, rfl⟩ (by decide) o137 (Nat.le_of_ble_eq_true rfl) K131 (fun v132 h130 q => ?_)
      have B := B v132 h130 q
      refine z_iconst (v := 1) 181 rfl (by decide) ?_
      refine z_iadd 182 rfl ?_
      obtain ⟨o136, B⟩ := B
      obtain ⟨Q133, K135, B⟩ := B
      refine z_cVV2 (ν := mX10_reads) 183 rfl rfl fX10_reads gX10_248 ⟨_, rfl, rfl⟩ (by decide) o136 (Nat.le_of_ble_eq_true rfl) K135 (fun h134 q => ?_)
      have B := B h134 q
      refine z_goto 184 399 rfl (by decide) ?_
      refine z_drop 4 ?_
      exact B
    obtain ⟨-, B⟩ := B
    by_cases c164_5 : x1 = 5
    · obtain ⟨B, -⟩ := B
      refine z_tableIn 54 364 rfl 5 (by rw [c164_5]; decide) (by decide) (by decide) rfl (by decide) ?_
      have B := B c164_5
      refine z_aload_n 185 rfl rfl ?_
      refine z_iconst (v := 5) 186 rfl (by decide) ?_
      refine z_aload_n 187 rfl rfl ?_
      refine z_iconst (v := 0) 188 rfl (by decide) ?_
      refine z_bipush (v := 100) 189 rfl (by decide) ?_
      obtain ⟨o150, B⟩ := B
      obtain ⟨Q142, K144, B⟩ := B
      refine z_cVI2 (ν := mX10_numeral) 190 rfl rfl fX10_numeral gX10_244 ⟨_, rfl, rfl⟩ (by decide) o150 (Nat.le_of_ble_eq_true rfl) K144 (fun v145 h143 q => ?_)
      have B := B v145 h143 q
      obtain ⟨o149, B⟩ := B
      obtain ⟨Q146, K148, B⟩ := B
      refine z_cVV2 (ν := mX10_reads) 191 rfl rfl fX10_reads gX10_248 ⟨_, rfl, rfl⟩ (by decide) o149 (Nat.le_of_ble_eq_true rfl) K148 (fun h147 q => ?_)
      have B := B h147 q
      refine z_goto 192 399 rfl (by decide) ?_
      exact B
    obtain ⟨-, B⟩ := B
    by_cases c164_6 : x1 = 6
    · obtain ⟨B, -⟩ := B
      refine z_tableIn 54 379 rfl 6 (by rw [c164_6]; decide) (by decide) (by decide) rfl (by decide) ?_
      have B := B c164_6
      refine z_aload_n 193 rfl rfl ?_
      refine z_bipush (v := 6) 194 rfl (by decide) ?_
      refine z_aload_n 195 rfl rfl ?_
      refine z_iconst (v := 0) 196 rfl (by decide) ?_
      refine z_ldc 197 rfl kX10_198 ?_
      obtain ⟨o159, B⟩ := B
      obtain ⟨Q151, K153, B⟩ := B
      refine z_cVI2 (ν := mX10_numeral) 198 rfl rfl fX10_numeral gX10_244 ⟨_, rfl, rfl⟩ (by decide) o159 (Nat.le_of_ble_eq_true rfl) K153 (fun v154 h152 q => ?_)
      have B := B v154 h152 q
      obtain ⟨o158, B⟩ := B
      obtain ⟨Q155, K157, B⟩ := B
      refine z_cVV2 (ν := mX10_reads) 199 rfl rfl fX10_reads gX10_248 ⟨_, rfl, rfl⟩ (by decide) o158 (Nat.le_of_ble_eq_true rfl) K157 (fun h156 q => ?_)
      have B := B h156 q
      refine z_goto 200 399 rfl (by decide) ?_
      exact B
    obtain ⟨-, B⟩ := B
    have B := B c164_0 c164_1 c164_2 c164_3 c164_4 c164_5 c164_6
    refine z_tableD 54 395 rfl (by decide) (by
      intro z1 z2
      refine zsw_X10_line_96 z1 z2 c164_0 c164_1 c164_2 c164_3 c164_4 c164_5 c164_6) ?_
    refine z_aload_n 201 rfl rfl ?_
    obtain ⟨o163, B⟩ := B
    obtain ⟨Q160, K162, B⟩ := B
    refine z_cVV0 (ν := mX10_lawLine) 202 rfl rfl fX10_lawLine gX10_264 ⟨_, rfl, rfl⟩ (by decide) o163 (Nat.le_of_ble_eq_true rfl) K162 (fun h161 q => ?_)
    have B := B h161 q
    exact B
  · have B := B.2 c2
    exact z_vret 42 rfl rfl ⟨rfl, rfl⟩ ⟨rfl, B⟩
set_option maxRecDepth 100000 in
set_option maxHeartbeats 4000000 in
theorem sg_X10_line_399 {G : zG} {d : Nat} {h : zMem} {Q : zMem → Prop} {a0 : Nat} {x1 : Int32} (B : zO h a0 9 ∧ ((zI h a0 25) = 0 → ∃ Q3 : Int32 → zMem → Prop, zConI G mX10_isSign d [.ref a0, .int (59 : Int32)] h Q3 ∧ (∀ v6 h4, Q3 v6 h4 → (¬ v6 = 0 → zO h4 a0 9 ∧ ∃ Q8 : zMem → Prop, zConV G mX10_token d [.ref a0] h4 Q8 ∧ (∀ h9, Q8 h9 → zO h9 a0 9 ∧ Q (zsI h9 a0 19 ((zI h9 a0 19) + (1 : Int32))))) ∧ (v6 = 0 → zO h4 a0 9 ∧ ∃ Q13 : zMem → Prop, zConV G mX10_wrong d [.ref a0, .int (1 : Int32)] h4 Q13 ∧ (∀ h14, Q13 h14 → zO h14 a0 9 ∧ Q (zsI h14 a0 19 ((zI h14 a0 19) + (1 : Int32))))))) ∧ (¬ (zI h a0 25) = 0 → Q h)) : zg G mX10_line (d + 1) 399 [.ref a0, .int x1, zU, zU, zU] [] h (zPV Q) := by
  refine z_aload_n 203 rfl rfl ?_
  obtain ⟨o1, B⟩ := B
  refine z_getI 204 rfl lX10_214 rfl o1 ?_
  refine z_if_eq 205 407 rfl (by decide) ⟨fun c2 => ?_, fun c2 => ?_⟩
  · have B := B.1 c2
    refine z_aload_n 207 rfl rfl ?_
    refine z_bipush (v := 59) 208 rfl (by decide) ?_
    obtain ⟨Q3, K5, B⟩ := B
    refine z_cVI1 (ν := mX10_isSign) 209 rfl rfl fX10_isSign gX10_267 ⟨_, rfl, rfl⟩ (by decide) o1 (Nat.le_of_ble_eq_true rfl) K5 (fun v6 h4 q => ?_)
    have B := B v6 h4 q
    refine z_if_ne 210 424 rfl (by decide) ⟨fun c7 => ?_, fun c7 => ?_⟩
    · have B := B.1 c7
      refine z_aload_n 215 rfl rfl ?_
      obtain ⟨o12, B⟩ := B
      obtain ⟨Q8, K10, B⟩ := B
      refine z_cVV0 (ν := mX10_token) 216 rfl rfl fX10_token gX10_220 ⟨_, rfl, rfl⟩ (by decide) o12 (Nat.le_of_ble_eq_true rfl) K10 (fun h9 q => ?_)
      have B := B h9 q
      refine z_aload_n 217 rfl rfl ?_
      refine z_dup 218 rfl rfl ?_
      obtain ⟨o11, B⟩ := B
      refine z_getI 219 rfl lX10_270 rfl o11 ?_
      refine z_iconst (v := 1) 220 rfl (by decide) ?_
      refine z_iadd 221 rfl ?_
      refine z_putI 222 rfl lX10_270 ⟨_, _, _, rfl, rfl⟩ rfl rfl rfl o11 ?_
      exact z_vret 223 rfl rfl ⟨rfl, rfl⟩ ⟨rfl, B⟩
    · have B := B.2 c7
      refine z_aload_n 211 rfl rfl ?_
      refine z_iconst (v := 1) 212 rfl (by decide) ?_
      obtain ⟨o17, B⟩ := B
      obtain ⟨Q13, K15, B⟩ := B
      refine z_cVV1 (ν := mX10_wrong) 213 rfl rfl fX10_wrong gX10_223 ⟨_, rfl, rfl⟩ (by decide) o17 (Nat.le_of_ble_eq_true rfl) K15 (fun h14 q => ?_)
      have B := B h14 q
      refine z_goto 214 428 rfl (by decide) ?_
      refine z_aload_n 217 rfl rfl ?_
      refine z_dup 218 rfl rfl ?_
      obtain ⟨o16, B⟩ := B
      refine z_getI 219 rfl lX10_270 rfl o16 ?_
      refine z_iconst (v := 1) 220 rfl (by decide) ?_
      refine z_iadd 221 rfl ?_
      refine z_putI 222 rfl lX10_270 ⟨_, _, _, rfl, rfl⟩ rfl rfl rfl o16 ?_
      exact z_vret 223 rfl rfl ⟨rfl, rfl⟩ ⟨rfl, B⟩
  · have B := B.2 c2
    exact z_vret 206 rfl rfl ⟨rfl, rfl⟩ ⟨rfl, B⟩
set_option maxRecDepth 100000 in
set_option maxHeartbeats 4000000 in
theorem sg_X10_toldAhead_0 {G : zG} {d : Nat} {h : zMem} {Q : Int32 → zMem → Prop} {a0 : Nat} {a1 : Nat} {x2 : Int32} {x3 : Int32} (B : zO h a0 9 ∧ ((zI h a0 25) = 0 → ((zI h a0 23) = (1 : Int32) → ∃ Q4 : Int32 → zMem → Prop, zConI G mX10_found d [.ref a1, .int x2, .int x3, .int (zI h a0 24)] h Q4 ∧ (∀ v7 h5, Q4 v7 h5 → (¬ v7 = (-1 : Int32) → zO h5 a0 9 ∧ ((zI h5 a0 25) = 0 → ∃ Q11 : Int32 → zMem → Prop, zConI G mX10_found d [.ref a1, .int x2, .int x3, .int (zI h5 a0 24)] h5 Q11 ∧ (∀ v14 h12, Q11 v14 h12 → Q v14 h12)) ∧ (¬ (zI h5 a0 25) = 0 → Q (0 : Int32) h5)) ∧ (v7 = (-1 : Int32) → zO h5 a0 9 ∧ ∃ Q15 : zMem → Prop, zConV G mX10_wrong d [.ref a0, .int (4 : Int32)] h5 Q15 ∧ (∀ h16, Q15 h16 → zO h16 a0 9 ∧ ((zI h16 a0 25) = 0 → ∃ Q20 : Int32 → zMem → Prop, zConI G mX10_found d [.ref a1, .int x2, .int x3, .int (zI h16 a0 24)] h16 Q20 ∧ (∀ v23 h21, Q20 v23 h21 → Q v23 h21)) ∧ (¬ (zI h16 a0 25) = 0 → Q (0 : Int32) h16))))) ∧ (¬ (zI h a0 23) = (1 : Int32) → ∃ Q25 : zMem → Prop, zConV G mX10_wrong d [.ref a0, .int (1 : Int32)] h Q25 ∧ (∀ h26, Q25 h26 → zO h26 a0 9 ∧ ((zI h26 a0 25) = 0 → ∃ Q30 : Int32 → zMem → Prop, zConI G mX10_found d [.ref a1, .int x2, .int x3, .int (zI h26 a0 24)] h26 Q30 ∧ (∀ v33 h31, Q30 v33 h31 → Q v33 h31)) ∧ (¬ (zI h26 a0 25) = 0 → Q (0 : Int32) h26)))) ∧ (¬ (zI h a0 25) = 0 → Q (0 : Int32) h)) : zg G mX10_toldAhead (d + 1) 0 [.ref a0, .ref a1, .int x2, .int x3] [] h (zPI Q) := by
  refine z_aload_n 0 rfl rfl ?_
  obtain ⟨o1, B⟩ := B
  refine z_getI 1 rfl lX10_214 rfl o1 ?_
  refine z_if_eq 2 9 rfl (by decide) ⟨fun c2 => ?_, fun c2 => ?_⟩
  · have B := B.1 c2
    refine z_aload_n 5 rfl rfl ?_
    refine z_getI 6 rfl lX10_179 rfl o1 ?_
    refine z_iconst (v := 1) 7 rfl (by decide) ?_
    refine z_icmp_eq 8 25 rfl (by decide) ⟨fun c3 => ?_, fun c3 => ?_⟩
    · have B := B.1 c3
      refine z_aload_n 13 rfl rfl ?_
      refine z_iload_n 14 rfl rfl ?_
      refine z_iload_n 15 rfl rfl ?_
      refine z_aload_n 16 rfl rfl ?_
      refine z_getI 17 rfl lX10_189 rfl o1 ?_
      obtain ⟨Q4, K6, B⟩ := B
      refine z_cSI4 (ν := mX10_found) 18 rfl rfl fX10_found gX10_226 (Nat.le_of_ble_eq_true rfl) K6 (fun v7 h5 q => ?_)
      have B := B v7 h5 q
      refine z_iconst (v := -1) 19 rfl (by decide) ?_
      refine z_icmp_ne 20 44 rfl (by decide) ⟨fun c8 => ?_, fun c8 => ?_⟩
      · have B := B.1 c8
        refine z_aload_n 24 rfl rfl ?_
        obtain ⟨o9, B⟩ := B
        refine z_getI 25 rfl lX10_214 rfl o9 ?_
        refine z_if_eq 26 55 rfl (by decide) ⟨fun c10 => ?_, fun c10 => ?_⟩
        · have B := B.1 c10
          refine z_aload_n 29 rfl rfl ?_
          refine z_iload_n 30 rfl rfl ?_
          refine z_iload_n 31 rfl rfl ?_
          refine z_aload_n 32 rfl rfl ?_
          refine z_getI 33 rfl lX10_189 rfl o9 ?_
          obtain ⟨Q11, K13, B⟩ := B
          refine z_cSI4 (ν := mX10_found) 34 rfl rfl fX10_found gX10_226 (Nat.le_of_ble_eq_true rfl) K13 (fun v14 h12 q => ?_)
          have B := B v14 h12 q
          exact z_iret 35 rfl rfl rfl ⟨rfl, rfl⟩ ⟨_, rfl, B⟩
        · have B := B.2 c10
          refine z_iconst (v := 0) 27 rfl (by decide) ?_
          refine z_goto 28 65 rfl (by decide) ?_
          exact z_iret 35 rfl rfl rfl ⟨rfl, rfl⟩ ⟨_, rfl, B⟩
      · have B := B.2 c8
        refine z_aload_n 21 rfl rfl ?_
        refine z_iconst (v := 4) 22 rfl (by decide) ?_
        obtain ⟨o24, B⟩ := B
        obtain ⟨Q15, K17, B⟩ := B
        refine z_cVV1 (ν := mX10_wrong) 23 rfl rfl fX10_wrong gX10_223 ⟨_, rfl, rfl⟩ (by decide) o24 (Nat.le_of_ble_eq_true rfl) K17 (fun h16 q => ?_)
        have B := B h16 q
        refine z_aload_n 24 rfl rfl ?_
        obtain ⟨o18, B⟩ := B
        refine z_getI 25 rfl lX10_214 rfl o18 ?_
        refine z_if_eq 26 55 rfl (by decide) ⟨fun c19 => ?_, fun c19 => ?_⟩
        · have B := B.1 c19
          refine z_aload_n 29 rfl rfl ?_
          refine z_iload_n 30 rfl rfl ?_
          refine z_iload_n 31 rfl rfl ?_
          refine z_aload_n 32 rfl rfl ?_
          refine z_getI 33 rfl lX10_189 rfl o18 ?_
          obtain ⟨Q20, K22, B⟩ := B
          refine z_cSI4 (ν := mX10_found) 34 rfl rfl fX10_found gX10_226 (Nat.le_of_ble_eq_true rfl) K22 (fun v23 h21 q => ?_)
          have B := B v23 h21 q
          exact z_iret 35 rfl rfl rfl ⟨rfl, rfl⟩ ⟨_, rfl, B⟩
        · have B := B.2 c19
          refine z_iconst (v := 0) 27 rfl (by decide) ?_
          refine z_goto 28 65 rfl (by decide) ?_
          exact z_iret 35 rfl rfl rfl ⟨rfl, rfl⟩ ⟨_, rfl, B⟩
    · have B := B.2 c3
      refine z_aload_n 9 rfl rfl ?_
      refine z_iconst (v := 1) 10 rfl (by decide) ?_
      obtain ⟨Q25, K27, B⟩ := B
      refine z_cVV1 (ν := mX10_wrong) 11 rfl rfl fX10_wrong gX10_223 ⟨_, rfl, rfl⟩ (by decide) o1 (Nat.le_of_ble_eq_true rfl) K27 (fun h26 q => ?_)
      have B := B h26 q
      refine z_goto 12 44 rfl (by decide) ?_
      refine z_aload_n 24 rfl rfl ?_
      obtain ⟨o28, B⟩ := B
      refine z_getI 25 rfl lX10_214 rfl o28 ?_
      refine z_if_eq 26 55 rfl (by decide) ⟨fun c29 => ?_, fun c29 => ?_⟩
      · have B := B.1 c29
        refine z_aload_n 29 rfl rfl ?_
        refine z_iload_n 30 rfl rfl ?_
        refine z_iload_n 31 rfl rfl ?_
        refine z_aload_n 32 rfl rfl ?_
        refine z_getI 33 rfl lX10_189 rfl o28 ?_
        obtain ⟨Q30, K32, B⟩ := B
        refine z_cSI4 (ν := mX10_found) 34 rfl rfl fX10_found gX10_226 (Nat.le_of_ble_eq_true rfl) K32 (fun v33 h31 q => ?_)
        have B := B v33 h31 q
        exact z_iret 35 rfl rfl rfl ⟨rfl, rfl⟩ ⟨_, rfl, B⟩
      · have B := B.2 c29
        refine z_iconst (v := 0) 27 rfl (by decide) ?_
        refine z_goto 28 65 rfl (by decide) ?_
        exact z_iret 35 rfl rfl rfl ⟨rfl, rfl⟩ ⟨_, rfl, B⟩
  · have B := B.2 c2
    refine z_iconst (v := 0) 3 rfl (by decide) ?_
    exact z_iret 4 rfl rfl rfl ⟨rfl, rfl⟩ ⟨_, rfl, B⟩
theorem cn_X10_toldAhead {G : zG} {d : Nat} {h : zMem} {Q : Int32 → zMem → Prop} {a0 : Nat} {a1 : Nat} {x2 : Int32} {x3 : Int32} (B : zg G mX10_toldAhead (d + 1) 0 [.ref a0, .ref a1, .int x2, .int x3] [] h (zPI Q)) : zConI G mX10_toldAhead (d + 1) [.ref a0, .ref a1, .int x2, .int x3] h Q := zcon0 (by decide +kernel) eX10_toldAhead (Nat.le_of_ble_eq_true rfl) rfl B
set_option maxRecDepth 100000 in
set_option maxHeartbeats 4000000 in
theorem sg_X10_dayLine_0 {G : zG} {d : Nat} {h : zMem} {Q : zMem → Prop} {a0 : Nat} {x1 : Int32} (B : zO h a0 9 ∧ ∃ r2, zR h a0 6 = some r2 ∧ ∃ Q3 : Int32 → zMem → Prop, zConI G mX10_fresher d [.ref a0, .int (1 : Int32)] h Q3 ∧ (∀ v6 h4, Q3 v6 h4 → zO h4 a0 9 ∧ ∃ Q7 : Int32 → zMem → Prop, zConI G mX10_fresh d [.ref a0, .ref r2, .int (8 : Int32), .int v6] h4 Q7 ∧ (∀ v10 h8, Q7 v10 h8 → zO h8 r2 100 ∧ vp_in x1 (zLen h8 r2) ∧ zO h8 a0 9 ∧ ((zI (zsI h8 r2 x1.toNatClampNeg v10) a0 25) = 0 → ∃ r15, zR h8 a0 7 = some r15 ∧ ∃ Q16 : Int32 → zMem → Prop, zConI G mX10_isWord d [.ref a0, .int (8 : Int32)] (zsI h8 r2 x1.toNatClampNeg v10) Q16 ∧ (∀ v19 h17, Q16 v19 h17 → (v19 = 0 → zO h17 r15 100 ∧ vp_in x1 (zLen h17 r15) ∧ zO h17 a0 9 ∧ ∃ r24, zR h17 a0 7 = some r24 ∧ zO h17 r24 100 ∧ vp_in x1 (zLen h17 r24) ∧ (¬ (zI (zsI h17 r15 x1.toNatClampNeg (0 : Int32)) r24 x1.toNatClampNeg) = (1 : Int32) → zg G mX10_dayLine (d + 1) 65 [.ref a0, .int x1, .int (0 : Int32)] [] (zsI h17 r15 x1.toNatClampNeg (0 : Int32)) (zPV Q)) ∧ ((zI (zsI h17 r15 x1.toNatClampNeg (0 : Int32)) r24 x1.toNatClampNeg) = (1 : Int32) → ∃ Q28 : zMem → Prop, zConV G mX10_token d [.ref a0] (zsI h17 r15 x1.toNatClampNeg (0 : Int32)) Q28 ∧ (∀ h29, Q28 h29 → zg G mX10_dayLine (d + 1) 65 [.ref a0, .int x1, .int (0 : Int32)] [] h29 (zPV Q)))) ∧ (¬ v19 = 0 → zO h17 r15 100 ∧ vp_in x1 (zLen h17 r15) ∧ zO h17 a0 9 ∧ ∃ r34, zR h17 a0 7 = some r34 ∧ zO h17 r34 100 ∧ vp_in x1 (zLen h17 r34) ∧ (¬ (zI (zsI h17 r15 x1.toNatClampNeg (1 : Int32)) r34 x1.toNatClampNeg) = (1 : Int32) → zg G mX10_dayLine (d + 1) 65 [.ref a0, .int x1, .int (0 : Int32)] [] (zsI h17 r15 x1.toNatClampNeg (1 : Int32)) (zPV Q)) ∧ ((zI (zsI h17 r15 x1.toNatClampNeg (1 : Int32)) r34 x1.toNatClampNeg) = (1 : Int32) → ∃ Q38 : zMem → Prop, zConV G mX10_token d [.ref a0] (zsI h17 r15 x1.toNatClampNeg (1 : Int32)) Q38 ∧ (∀ h39, Q38 h39 → zg G mX10_dayLine (d + 1) 65 [.ref a0, .int x1, .int (0 : Int32)] [] h39 (zPV Q)))))) ∧ (¬ (zI (zsI h8 r2 x1.toNatClampNeg v10) a0 25) = 0 → Q (zsI h8 r2 x1.toNatClampNeg v10))))) : zg G mX10_dayLine (d + 1) 0 [.ref a0, .int x1, zU] [] h (zPV Q) := by
  refine z_aload_n 0 rfl rfl ?_
  obtain ⟨o1, B⟩ := B
  obtain ⟨r2, hr2, B⟩ := B
  refine z_getR 1 rfl lX10_22 rfl o1 hr2 ?_
  refine z_iload_n 2 rfl rfl ?_
  refine z_aload_n 3 rfl rfl ?_
  refine z_aload_n 4 rfl rfl ?_
  refine z_getR 5 rfl lX10_22 rfl o1 hr2 ?_
  refine z_bipush (v := 8) 6 rfl (by decide) ?_
  refine z_aload_n 7 rfl rfl ?_
  refine z_iconst (v := 1) 8 rfl (by decide) ?_
  obtain ⟨Q3, K5, B⟩ := B
  refine z_cVI1 (ν := mX10_fresher) 9 rfl rfl fX10_fresher gX10_230 ⟨_, rfl, rfl⟩ (by decide) o1 (Nat.le_of_ble_eq_true rfl) K5 (fun v6 h4 q => ?_)
  have B := B v6 h4 q
  obtain ⟨o41, B⟩ := B
  obtain ⟨Q7, K9, B⟩ := B
  refine z_cVI3 (ν := mX10_fresh) 10 rfl rfl fX10_fresh gX10_240 ⟨_, rfl, rfl⟩ (by decide) o41 (Nat.le_of_ble_eq_true rfl) K9 (fun v10 h8 q => ?_)
  have B := B v10 h8 q
  obtain ⟨o11, B⟩ := B
  obtain ⟨o12, B⟩ := B
  refine z_iast 11 rfl o11 o12 ?_
  refine z_aload_n 12 rfl rfl ?_
  obtain ⟨o13, B⟩ := B
  refine z_getI 13 rfl lX10_214 rfl o13 ?_
  refine z_if_eq 14 29 rfl (by decide) ⟨fun c14 => ?_, fun c14 => ?_⟩
  · have B := B.1 c14
    refine z_aload_n 16 rfl rfl ?_
    obtain ⟨r15, hr15, B⟩ := B
    refine z_getR 17 rfl lX10_25 rfl o13 hr15 ?_
    refine z_iload_n 18 rfl rfl ?_
    refine z_aload_n 19 rfl rfl ?_
    refine z_bipush (v := 8) 20 rfl (by decide) ?_
    obtain ⟨Q16, K18, B⟩ := B
    refine z_cVI1 (ν := mX10_isWord) 21 rfl rfl fX10_isWord gX10_273 ⟨_, rfl, rfl⟩ (by decide) o13 (Nat.le_of_ble_eq_true rfl) K18 (fun v19 h17 q => ?_)
    have B := B v19 h17 q
    refine z_if_eq 22 47 rfl (by decide) ⟨fun c20 => ?_, fun c20 => ?_⟩
    · have B := B.1 c20
      refine z_iconst (v := 0) 25 rfl (by decide) ?_
      obtain ⟨o21, B⟩ := B
      obtain ⟨o22, B⟩ := B
      refine z_iast 26 rfl o21 o22 ?_
      refine z_aload_n 27 rfl rfl ?_
      obtain ⟨o23, B⟩ := B
      obtain ⟨r24, hr24, B⟩ := B
      refine z_getR 28 rfl lX10_25 rfl o23 hr24 ?_
      refine z_iload_n 29 rfl rfl ?_
      obtain ⟨o25, B⟩ := B
      obtain ⟨o26, B⟩ := B
      refine z_iald 30 rfl o25 o26 ?_
      refine z_iconst (v := 1) 31 rfl (by decide) ?_
      refine z_icmp_ne 32 63 rfl (by decide) ⟨fun c27 => ?_, fun c27 => ?_⟩
      · have B := B.1 c27
        refine z_iconst (v := 0) 35 rfl (by decide) ?_
        refine z_istore_n 36 rfl (by decide) rfl ?_
        exact B
      · have B := B.2 c27
        refine z_aload_n 33 rfl rfl ?_
        obtain ⟨Q28, K30, B⟩ := B
        refine z_cVV0 (ν := mX10_token) 34 rfl rfl fX10_token gX10_220 ⟨_, rfl, rfl⟩ (by decide) o23 (Nat.le_of_ble_eq_true rfl) K30 (fun h29 q => ?_)
        have B := B h29 q
        refine z_iconst (v := 0) 35 rfl (by decide) ?_
        refine z_istore_n 36 rfl (by decide) rfl ?_
        exact B
    · have B := B.2 c20
      refine z_iconst (v := 1) 23 rfl (by decide) ?_
      refine z_goto 24 48 rfl (by decide) ?_
      obtain ⟨o31, B⟩ := B
      obtain ⟨o32, B⟩ := B
      refine z_iast 26 rfl o31 o32 ?_
      refine z_aload_n 27 rfl rfl ?_
      obtain ⟨o33, B⟩ := B
      obtain ⟨r34, hr34, B⟩ := B
      refine z_getR 28 rfl lX10_25 rfl o33 hr34 ?_
      refine z_iload_n 29 rfl rfl ?_
      obtain ⟨o35, B⟩ := B
      obtain ⟨o36, B⟩ := B
      refine z_iald 30 rfl o35 o36 ?_
      refine z_iconst (v := 1) 31 rfl (by decide) ?_
      refine z_icmp_ne 32 63 rfl (by decide) ⟨fun c37 => ?_, fun c37 => ?_⟩
      · have B := B.1 c37
        refine z_iconst (v := 0) 35 rfl (by decide) ?_
        refine z_istore_n 36 rfl (by decide) rfl ?_
        exact B
      · have B := B.2 c37
        refine z_aload_n 33 rfl rfl ?_
        obtain ⟨Q38, K40, B⟩ := B
        refine z_cVV0 (ν := mX10_token) 34 rfl rfl fX10_token gX10_220 ⟨_, rfl, rfl⟩ (by decide) o33 (Nat.le_of_ble_eq_true rfl) K40 (fun h39 q => ?_)
        have B := B h39 q
        refine z_iconst (v := 0) 35 rfl (by decide) ?_
        refine z_istore_n 36 rfl (by decide) rfl ?_
        exact B
  · have B := B.2 c14
    exact z_vret 15 rfl rfl ⟨rfl, rfl⟩ ⟨rfl, B⟩
theorem cn_X10_dayLine {G : zG} {d : Nat} {h : zMem} {Q : zMem → Prop} {a0 : Nat} {x1 : Int32} (B : zg G mX10_dayLine (d + 1) 0 [.ref a0, .int x1, zU] [] h (zPV Q)) : zConV G mX10_dayLine (d + 1) [.ref a0, .int x1] h Q := zcon0 (by decide +kernel) eX10_dayLine (Nat.le_of_ble_eq_true rfl) rfl B
set_option maxRecDepth 100000 in
set_option maxHeartbeats 4000000 in
theorem sg_X10_dayLine_65 {G : zG} {d : Nat} {h : zMem} {Q : zMem → Prop} {a0 : Nat} {x1 : Int32} {x2 : Int32} (B : ((6 : Int32) ≤ x2 → zO h a0 9 ∧ ∃ Q2 : Int32 → zMem → Prop, zConI G mX10_fresher d [.ref a0, .int (1 : Int32)] h Q2 ∧ (∀ v5 h3, Q2 v5 h3 → zO h3 a0 9 ∧ ∃ Q6 : zMem → Prop, zConV G mX10_reads d [.ref a0, .int (1 : Int32), .int (v5 + (1 : Int32))] h3 Q6 ∧ (∀ h7, Q6 h7 → Q h7))) ∧ (¬ (6 : Int32) ≤ x2 → zO h a0 9 ∧ ∃ r12, zR h a0 8 = some r12 ∧ zO h r12 100 ∧ vp_in (((6 : Int32) * x1) + x2) (zLen h r12) ∧ zg G mX10_dayLine (d + 1) 65 [.ref a0, .int x1, .int (x2 + 1)] [] (zsI h r12 (((6 : Int32) * x1) + x2).toNatClampNeg (0 : Int32)) (zPV Q))) : zg G mX10_dayLine (d + 1) 65 [.ref a0, .int x1, .int x2] [] h (zPV Q) := by
  refine z_iload_n 37 rfl rfl ?_
  refine z_bipush (v := 6) 38 rfl (by decide) ?_
  refine z_icmp_ge 39 89 rfl (by decide) ⟨fun c1 => ?_, fun c1 => ?_⟩
  · have B := B.1 c1
    refine z_aload_n 51 rfl rfl ?_
    refine z_iconst (v := 1) 52 rfl (by decide) ?_
    refine z_aload_n 53 rfl rfl ?_
    refine z_iconst (v := 1) 54 rfl (by decide) ?_
    obtain ⟨o10, B⟩ := B
    obtain ⟨Q2, K4, B⟩ := B
    refine z_cVI1 (ν := mX10_fresher) 55 rfl rfl fX10_fresher gX10_230 ⟨_, rfl, rfl⟩ (by decide) o10 (Nat.le_of_ble_eq_true rfl) K4 (fun v5 h3 q => ?_)
    have B := B v5 h3 q
    refine z_iconst (v := 1) 56 rfl (by decide) ?_
    refine z_iadd 57 rfl ?_
    obtain ⟨o9, B⟩ := B
    obtain ⟨Q6, K8, B⟩ := B
    refine z_cVV2 (ν := mX10_reads) 58 rfl rfl fX10_reads gX10_248 ⟨_, rfl, rfl⟩ (by decide) o9 (Nat.le_of_ble_eq_true rfl) K8 (fun h7 q => ?_)
    have B := B h7 q
    exact z_vret 59 rfl rfl ⟨rfl, rfl⟩ ⟨rfl, B⟩
  · have B := B.2 c1
    refine z_aload_n 40 rfl rfl ?_
    obtain ⟨o11, B⟩ := B
    obtain ⟨r12, hr12, B⟩ := B
    refine z_getR 41 rfl lX10_28 rfl o11 hr12 ?_
    refine z_bipush (v := 6) 42 rfl (by decide) ?_
    refine z_iload_n 43 rfl rfl ?_
    refine z_imul 44 rfl ?_
    refine z_iload_n 45 rfl rfl ?_
    refine z_iadd 46 rfl ?_
    refine z_iconst (v := 0) 47 rfl (by decide) ?_
    obtain ⟨o13, B⟩ := B
    obtain ⟨o14, B⟩ := B
    refine z_iast 48 rfl o13 o14 ?_
    refine z_iinc (v := 1) 49 rfl rfl (by decide) (by decide) rfl ?_
    refine z_goto 50 65 rfl (by decide) ?_
    exact B
set_option maxRecDepth 100000 in
set_option maxHeartbeats 4000000 in
theorem sg_X10_mixLine_0 {G : zG} {d : Nat} {h : zMem} {Q : zMem → Prop} {a0 : Nat} (B : zO h a0 9 ∧ ∃ r2, zR h a0 6 = some r2 ∧ ∃ Q3 : Int32 → zMem → Prop, zConI G mX10_fresher d [.ref a0, .int (1 : Int32)] h Q3 ∧ (∀ v6 h4, Q3 v6 h4 → zO h4 a0 9 ∧ ∃ Q7 : Int32 → zMem → Prop, zConI G mX10_toldAhead d [.ref a0, .ref r2, .int (8 : Int32), .int v6] h4 Q7 ∧ (∀ v10 h8, Q7 v10 h8 → zO h8 a0 9 ∧ ∃ Q11 : zMem → Prop, zConV G mX10_goOn d [.ref a0] h8 Q11 ∧ (∀ h12, Q11 h12 → zO h12 a0 9 ∧ ∃ r15, zR h12 a0 4 = some r15 ∧ ∃ Q16 : Int32 → zMem → Prop, zConI G mX10_fresher d [.ref a0, .int (0 : Int32)] h12 Q16 ∧ (∀ v19 h17, Q16 v19 h17 → zO h17 a0 9 ∧ ∃ Q20 : Int32 → zMem → Prop, zConI G mX10_toldAhead d [.ref a0, .ref r15, .int (6 : Int32), .int v19] h17 Q20 ∧ (∀ v23 h21, Q20 v23 h21 → zO h21 a0 9 ∧ (¬ (zI h21 a0 25) = 0 → ∃ Q26 : zMem → Prop, zConV G mX10_goOn d [.ref a0] h21 Q26 ∧ (∀ h27, Q26 h27 → zO h27 a0 9 ∧ ∃ Q29 : Int32 → zMem → Prop, zConI G mX10_numeral d [.ref a0, .int (1 : Int32), .int (99 : Int32)] h27 Q29 ∧ (∀ v32 h30, Q29 v32 h30 → zO h30 a0 9 ∧ ((zI h30 a0 25) = 0 → ∃ r35, zR h30 a0 8 = some r35 ∧ zO h30 r35 100 ∧ vp_in (((6 : Int32) * ((8 : Int32) + v10)) + v23) (zLen h30 r35) ∧ ∃ Q38 : Int32 → zMem → Prop, zConI G mX10_fresher d [.ref a0, .int (2 : Int32)] (zsI h30 r35 (((6 : Int32) * ((8 : Int32) + v10)) + v23).toNatClampNeg v32) Q38 ∧ (∀ v41 h39, Q38 v41 h39 → zO h39 a0 9 ∧ ∃ Q42 : zMem → Prop, zConV G mX10_reads d [.ref a0, .int (2 : Int32), .int (v41 + (1 : Int32))] h39 Q42 ∧ (∀ h43, Q42 h43 → Q h43))) ∧ (¬ (zI h30 a0 25) = 0 → Q h30)))) ∧ ((zI h21 a0 25) = 0 → ∃ r47, zR h21 a0 8 = some r47 ∧ zO h21 r47 100 ∧ vp_in (((6 : Int32) * ((8 : Int32) + v10)) + v23) (zLen h21 r47) ∧ ((zI h21 r47 (((6 : Int32) * ((8 : Int32) + v10)) + v23).toNatClampNeg) ≤ 0 → ∃ Q51 : zMem → Prop, zConV G mX10_goOn d [.ref a0] h21 Q51 ∧ (∀ h52, Q51 h52 → zO h52 a0 9 ∧ ∃ Q54 : Int32 → zMem → Prop, zConI G mX10_numeral d [.ref a0, .int (1 : Int32), .int (99 : Int32)] h52 Q54 ∧ (∀ v57 h55, Q54 v57 h55 → zO h55 a0 9 ∧ ((zI h55 a0 25) = 0 → ∃ r60, zR h55 a0 8 = some r60 ∧ zO h55 r60 100 ∧ vp_in (((6 : Int32) * ((8 : Int32) + v10)) + v23) (zLen h55 r60) ∧ ∃ Q63 : Int32 → zMem → Prop, zConI G mX10_fresher d [.ref a0, .int (2 : Int32)] (zsI h55 r60 (((6 : Int32) * ((8 : Int32) + v10)) + v23).toNatClampNeg v57) Q63 ∧ (∀ v66 h64, Q63 v66 h64 → zO h64 a0 9 ∧ ∃ Q67 : zMem → Prop, zConV G mX10_reads d [.ref a0, .int (2 : Int32), .int (v66 + (1 : Int32))] h64 Q67 ∧ (∀ h68, Q67 h68 → Q h68))) ∧ (¬ (zI h55 a0 25) = 0 → Q h55)))) ∧ (¬ (zI h21 r47 (((6 : Int32) * ((8 : Int32) + v10)) + v23).toNatClampNeg) ≤ 0 → ∃ Q72 : zMem → Prop, zConV G mX10_wrong d [.ref a0, .int (3 : Int32)] h21 Q72 ∧ (∀ h73, Q72 h73 → zO h73 a0 9 ∧ ∃ Q75 : zMem → Prop, zConV G mX10_goOn d [.ref a0] h73 Q75 ∧ (∀ h76, Q75 h76 → zO h76 a0 9 ∧ ∃ Q78 : Int32 → zMem → Prop, zConI G mX10_numeral d [.ref a0, .int (1 : Int32), .int (99 : Int32)] h76 Q78 ∧ (∀ v81 h79, Q78 v81 h79 → zO h79 a0 9 ∧ ((zI h79 a0 25) = 0 → ∃ r84, zR h79 a0 8 = some r84 ∧ zO h79 r84 100 ∧ vp_in (((6 : Int32) * ((8 : Int32) + v10)) + v23) (zLen h79 r84) ∧ ∃ Q87 : Int32 → zMem → Prop, zConI G mX10_fresher d [.ref a0, .int (2 : Int32)] (zsI h79 r84 (((6 : Int32) * ((8 : Int32) + v10)) + v23).toNatClampNeg v81) Q87 ∧ (∀ v90 h88, Q87 v90 h88 → zO h88 a0 9 ∧ ∃ Q91 : zMem → Prop, zConV G mX10_reads d [.ref a0, .int (2 : Int32), .int (v90 + (1 : Int32))] h88 Q91 ∧ (∀ h92, Q91 h92 → Q h92))) ∧ (¬ (zI h79 a0 25) = 0 → Q h79)))))))))))) : zg G mX10_mixLine (d + 1) 0 [.ref a0, zU, zU, zU] [] h (zPV Q) := by
  refine z_bipush (v := 8) 0 rfl (by decide) ?_
  refine z_aload_n 1 rfl rfl ?_
  refine z_aload_n 2 rfl rfl ?_
  obtain ⟨o1, B⟩ := B
  obtain ⟨r2, hr2, B⟩ := B
  refine z_getR 3 rfl lX10_22 rfl o1 hr2 ?_
  refine z_bipush (v := 8) 4 rfl (by decide) ?_
  refine z_aload_n 5 rfl rfl ?_
  refine z_iconst (v := 1) 6 rfl (by decide) ?_
  obtain ⟨Q3, K5, B⟩ := B
  refine z_cVI1 (ν := mX10_fresher) 7 rfl rfl fX10_fresher gX10_230 ⟨_, rfl, rfl⟩ (by decide) o1 (Nat.le_of_ble_eq_true rfl) K5 (fun v6 h4 q => ?_)
  have B := B v6 h4 q
  obtain ⟨o99, B⟩ := B
  obtain ⟨Q7, K9, B⟩ := B
  refine z_cVI3 (ν := mX10_toldAhead) 8 rfl rfl fX10_toldAhead gX10_258 ⟨_, rfl, rfl⟩ (by decide) o99 (Nat.le_of_ble_eq_true rfl) K9 (fun v10 h8 q => ?_)
  have B := B v10 h8 q
  refine z_iadd 9 rfl ?_
  refine z_istore_n 10 rfl (by decide) rfl ?_
  refine z_aload_n 11 rfl rfl ?_
  obtain ⟨o98, B⟩ := B
  obtain ⟨Q11, K13, B⟩ := B
  refine z_cVV0 (ν := mX10_goOn) 12 rfl rfl fX10_goOn gX10_261 ⟨_, rfl, rfl⟩ (by decide) o98 (Nat.le_of_ble_eq_true rfl) K13 (fun h12 q => ?_)
  have B := B h12 q
  refine z_aload_n 13 rfl rfl ?_
  refine z_aload_n 14 rfl rfl ?_
  obtain ⟨o14, B⟩ := B
  obtain ⟨r15, hr15, B⟩ := B
  refine z_getR 15 rfl lX10_16 rfl o14 hr15 ?_
  refine z_bipush (v := 6) 16 rfl (by decide) ?_
  refine z_aload_n 17 rfl rfl ?_
  refine z_iconst (v := 0) 18 rfl (by decide) ?_
  obtain ⟨Q16, K18, B⟩ := B
  refine z_cVI1 (ν := mX10_fresher) 19 rfl rfl fX10_fresher gX10_230 ⟨_, rfl, rfl⟩ (by decide) o14 (Nat.le_of_ble_eq_true rfl) K18 (fun v19 h17 q => ?_)
  have B := B v19 h17 q
  obtain ⟨o97, B⟩ := B
  obtain ⟨Q20, K22, B⟩ := B
  refine z_cVI3 (ν := mX10_toldAhead) 20 rfl rfl fX10_toldAhead gX10_258 ⟨_, rfl, rfl⟩ (by decide) o97 (Nat.le_of_ble_eq_true rfl) K22 (fun v23 h21 q => ?_)
  have B := B v23 h21 q
  refine z_istore_n 21 rfl (by decide) rfl ?_
  refine z_aload_n 22 rfl rfl ?_
  obtain ⟨o24, B⟩ := B
  refine z_getI 23 rfl lX10_214 rfl o24 ?_
  refine z_if_ne 24 65 rfl (by decide) ⟨fun c25 => ?_, fun c25 => ?_⟩
  · have B := B.1 c25
    refine z_aload_n 37 rfl rfl ?_
    obtain ⟨Q26, K28, B⟩ := B
    refine z_cVV0 (ν := mX10_goOn) 38 rfl rfl fX10_goOn gX10_261 ⟨_, rfl, rfl⟩ (by decide) o24 (Nat.le_of_ble_eq_true rfl) K28 (fun h27 q => ?_)
    have B := B h27 q
    refine z_aload_n 39 rfl rfl ?_
    refine z_iconst (v := 1) 40 rfl (by decide) ?_
    refine z_bipush (v := 99) 41 rfl (by decide) ?_
    obtain ⟨o46, B⟩ := B
    obtain ⟨Q29, K31, B⟩ := B
    refine z_cVI2 (ν := mX10_numeral) 42 rfl rfl fX10_numeral gX10_244 ⟨_, rfl, rfl⟩ (by decide) o46 (Nat.le_of_ble_eq_true rfl) K31 (fun v32 h30 q => ?_)
    have B := B v32 h30 q
    refine z_istore_n 43 rfl (by decide) rfl ?_
    refine z_aload_n 44 rfl rfl ?_
    obtain ⟨o33, B⟩ := B
    refine z_getI 45 rfl lX10_214 rfl o33 ?_
    refine z_if_eq 46 85 rfl (by decide) ⟨fun c34 => ?_, fun c34 => ?_⟩
    · have B := B.1 c34
      refine z_aload_n 48 rfl rfl ?_
      obtain ⟨r35, hr35, B⟩ := B
      refine z_getR 49 rfl lX10_28 rfl o33 hr35 ?_
      refine z_bipush (v := 6) 50 rfl (by decide) ?_
      refine z_iload_n 51 rfl rfl ?_
      refine z_imul 52 rfl ?_
      refine z_iload_n 53 rfl rfl ?_
      refine z_iadd 54 rfl ?_
      refine z_iload_n 55 rfl rfl ?_
      obtain ⟨o36, B⟩ := B
      obtain ⟨o37, B⟩ := B
      refine z_iast 56 rfl o36 o37 ?_
      refine z_aload_n 57 rfl rfl ?_
      refine z_iconst (v := 2) 58 rfl (by decide) ?_
      refine z_aload_n 59 rfl rfl ?_
      refine z_iconst (v := 2) 60 rfl (by decide) ?_
      obtain ⟨Q38, K40, B⟩ := B
      refine z_cVI1 (ν := mX10_fresher) 61 rfl rfl fX10_fresher gX10_230 ⟨_, rfl, rfl⟩ (by decide) o33 (Nat.le_of_ble_eq_true rfl) K40 (fun v41 h39 q => ?_)
      have B := B v41 h39 q
      refine z_iconst (v := 1) 62 rfl (by decide) ?_
      refine z_iadd 63 rfl ?_
      obtain ⟨o45, B⟩ := B
      obtain ⟨Q42, K44, B⟩ := B
      refine z_cVV2 (ν := mX10_reads) 64 rfl rfl fX10_reads gX10_248 ⟨_, rfl, rfl⟩ (by decide) o45 (Nat.le_of_ble_eq_true rfl) K44 (fun h43 q => ?_)
      have B := B h43 q
      exact z_vret 65 rfl rfl ⟨rfl, rfl⟩ ⟨rfl, B⟩
    · have B := B.2 c34
      exact z_vret 47 rfl rfl ⟨rfl, rfl⟩ ⟨rfl, B⟩
  · have B := B.2 c25
    refine z_aload_n 25 rfl rfl ?_
    obtain ⟨r47, hr47, B⟩ := B
    refine z_getR 26 rfl lX10_28 rfl o24 hr47 ?_
    refine z_bipush (v := 6) 27 rfl (by decide) ?_
    refine z_iload_n 28 rfl rfl ?_
    refine z_imul 29 rfl ?_
    refine z_iload_n 30 rfl rfl ?_
    refine z_iadd 31 rfl ?_
    obtain ⟨o48, B⟩ := B
    obtain ⟨o49, B⟩ := B
    refine z_iald 32 rfl o48 o49 ?_
    refine z_if_le 33 65 rfl (by decide) ⟨fun c50 => ?_, fun c50 => ?_⟩
    · have B := B.1 c50
      refine z_aload_n 37 rfl rfl ?_
      obtain ⟨Q51, K53, B⟩ := B
      refine z_cVV0 (ν := mX10_goOn) 38 rfl rfl fX10_goOn gX10_261 ⟨_, rfl, rfl⟩ (by decide) o24 (Nat.le_of_ble_eq_true rfl) K53 (fun h52 q => ?_)
      have B := B h52 q
      refine z_aload_n 39 rfl rfl ?_
      refine z_iconst (v := 1) 40 rfl (by decide) ?_
      refine z_bipush (v := 99) 41 rfl (by decide) ?_
      obtain ⟨o71, B⟩ := B
      obtain ⟨Q54, K56, B⟩ := B
      refine z_cVI2 (ν := mX10_numeral) 42 rfl rfl fX10_numeral gX10_244 ⟨_, rfl, rfl⟩ (by decide) o71 (Nat.le_of_ble_eq_true rfl) K56 (fun v57 h55 q => ?_)
      have B := B v57 h55 q
      refine z_istore_n 43 rfl (by decide) rfl ?_
      refine z_aload_n 44 rfl rfl ?_
      obtain ⟨o58, B⟩ := B
      refine z_getI 45 rfl lX10_214 rfl o58 ?_
      refine z_if_eq 46 85 rfl (by decide) ⟨fun c59 => ?_, fun c59 => ?_⟩
      · have B := B.1 c59
        refine z_aload_n 48 rfl rfl ?_
        obtain ⟨r60, hr60, B⟩ := B
        refine z_getR 49 rfl lX10_28 rfl o58 hr60 ?_
        refine z_bipush (v := 6) 50 rfl (by decide) ?_
        refine z_iload_n 51 rfl rfl ?_
        refine z_imul 52 rfl ?_
        refine z_iload_n 53 rfl rfl ?_
        refine z_iadd 54 rfl ?_
        refine z_iload_n 55 rfl rfl ?_
        obtain ⟨o61, B⟩ := B
        obtain ⟨o62, B⟩ := B
        refine z_iast 56 rfl o61 o62 ?_
        refine z_aload_n 57 rfl rfl ?_
        refine z_iconst (v := 2) 58 rfl (by decide) ?_
        refine z_aload_n 59 rfl rfl ?_
        refine z_iconst (v := 2) 60 rfl (by decide) ?_
        obtain ⟨Q63, K65, B⟩ := B
        refine z_cVI1 (ν := mX10_fresher) 61 rfl rfl fX10_fresher gX10_230 ⟨_, rfl, rfl⟩ (by decide) o58 (Nat.le_of_ble_eq_true rfl) K65 (fun v66 h64 q => ?_)
        have B := B v66 h64 q
        refine z_iconst (v := 1) 62 rfl (by decide) ?_
        refine z_iadd 63 rfl ?_
        obtain ⟨o70, B⟩ := B
        obtain ⟨Q67, K69, B⟩ := B
        refine z_cVV2 (ν := mX10_reads) 64 rfl rfl fX10_reads gX10_248 ⟨_, rfl, rfl⟩ (by decide) o70 (Nat.le_of_ble_eq_true rfl) K69 (fun h68 q => ?_)
        have B := B h68 q
        exact z_vret 65 rfl rfl ⟨rfl, rfl⟩ ⟨rfl, B⟩
      · have B := B.2 c59
        exact z_vret 47 rfl rfl ⟨rfl, rfl⟩ ⟨rfl, B⟩
    · have B := B.2 c50
      refine z_aload_n 34 rfl rfl ?_
      refine z_iconst (v := 3) 35 rfl (by decide) ?_
      obtain ⟨Q72, K74, B⟩ := B
      refine z_cVV1 (ν := mX10_wrong) 36 rfl rfl fX10_wrong gX10_223 ⟨_, rfl, rfl⟩ (by decide) o24 (Nat.le_of_ble_eq_true rfl) K74 (fun h73 q => ?_)
      have B := B h73 q
      refine z_aload_n 37 rfl rfl ?_
      obtain ⟨o96, B⟩ := B
      obtain ⟨Q75, K77, B⟩ := B
      refine z_cVV0 (ν := mX10_goOn) 38 rfl rfl fX10_goOn gX10_261 ⟨_, rfl, rfl⟩ (by decide) o96 (Nat.le_of_ble_eq_true rfl) K77 (fun h76 q => ?_)
      have B := B h76 q
      refine z_aload_n 39 rfl rfl ?_
      refine z_iconst (v := 1) 40 rfl (by decide) ?_
      refine z_bipush (v := 99) 41 rfl (by decide) ?_
      obtain ⟨o95, B⟩ := B
      obtain ⟨Q78, K80, B⟩ := B
      refine z_cVI2 (ν := mX10_numeral) 42 rfl rfl fX10_numeral gX10_244 ⟨_, rfl, rfl⟩ (by decide) o95 (Nat.le_of_ble_eq_true rfl) K80 (fun v81 h79 q => ?_)
      have B := B v81 h79 q
      refine z_istore_n 43 rfl (by decide) rfl ?_
      refine z_aload_n 44 rfl rfl ?_
      obtain ⟨o82, B⟩ := B
      refine z_getI 45 rfl lX10_214 rfl o82 ?_
      refine z_if_eq 46 85 rfl (by decide) ⟨fun c83 => ?_, fun c83 => ?_⟩
      · have B := B.1 c83
        refine z_aload_n 48 rfl rfl ?_
        obtain ⟨r84, hr84, B⟩ := B
        refine z_getR 49 rfl lX10_28 rfl o82 hr84 ?_
        refine z_bipush (v := 6) 50 rfl (by decide) ?_
        refine z_iload_n 51 rfl rfl ?_
        refine z_imul 52 rfl ?_
        refine z_iload_n 53 rfl rfl ?_
        refine z_iadd 54 rfl ?_
        refine z_iload_n 55 rfl rfl ?_
        obtain ⟨o85, B⟩ := B
        obtain ⟨o86, B⟩ := B
        refine z_iast 56 rfl o85 o86 ?_
        refine z_aload_n 57 rfl rfl ?_
        refine z_iconst (v := 2) 58 rfl (by decide) ?_
        refine z_aload_n 59 rfl rfl ?_
        refine z_iconst (v := 2) 60 rfl (by decide) ?_
        obtain ⟨Q87, K89, B⟩ := B
        refine z_cVI1 (ν := mX10_fresher) 61 rfl rfl fX10_fresher gX10_230 ⟨_, rfl, rfl⟩ (by decide) o82 (Nat.le_of_ble_eq_true rfl) K89 (fun v90 h88 q => ?_)
        have B := B v90 h88 q
        refine z_iconst (v := 1) 62 rfl (by decide) ?_
        refine z_iadd 63 rfl ?_
        obtain ⟨o94, B⟩ := B
        obtain ⟨Q91, K93, B⟩ := B
        refine z_cVV2 (ν := mX10_reads) 64 rfl rfl fX10_reads gX10_248 ⟨_, rfl, rfl⟩ (by decide) o94 (Nat.le_of_ble_eq_true rfl) K93 (fun h92 q => ?_)
        have B := B h92 q
        exact z_vret 65 rfl rfl ⟨rfl, rfl⟩ ⟨rfl, B⟩
      · have B := B.2 c83
        exact z_vret 47 rfl rfl ⟨rfl, rfl⟩ ⟨rfl, B⟩
theorem cn_X10_mixLine {G : zG} {d : Nat} {h : zMem} {Q : zMem → Prop} {a0 : Nat} (B : zg G mX10_mixLine (d + 1) 0 [.ref a0, zU, zU, zU] [] h (zPV Q)) : zConV G mX10_mixLine (d + 1) [.ref a0] h Q := zcon0 (by decide +kernel) eX10_mixLine (Nat.le_of_ble_eq_true rfl) rfl B
set_option maxRecDepth 100000 in
set_option maxHeartbeats 4000000 in
theorem sg_X10_lawLine_0 {G : zG} {d : Nat} {h : zMem} {Q : zMem → Prop} {a0 : Nat} (B : zO h a0 9 ∧ (¬ (zI h a0 23) = 0 → zg G mX10_lawLine (d + 1) 25 [.ref a0, zU] [] h (zPV Q)) ∧ ((zI h a0 23) = 0 → ((zI h a0 24) < (9 : Int32) → zg G mX10_lawLine (d + 1) 25 [.ref a0, zU] [] h (zPV Q)) ∧ (¬ (zI h a0 24) < (9 : Int32) → ((zI h a0 24) ≤ (11 : Int32) → (¬ (zI h a0 25) = 0 → ((zI h a0 25) = 0 → ∃ Q7 : zMem → Prop, zConV G mX10_token d [.ref a0] (zsI h a0 18 ((zI h a0 18) ||| ((1 : Int32) <<< (((16 : Int32) + ((zI h a0 24) - (9 : Int32))) &&& 31)))) Q7 ∧ (∀ h8, Q7 h8 → zO h8 a0 9 ∧ ∃ r11, zR h8 a0 14 = some r11 ∧ ∃ Q12 : Int32 → zMem → Prop, zConI G mX10_fresher d [.ref a0, .int (7 : Int32)] h8 Q12 ∧ (∀ v15 h13, Q12 v15 h13 → zO h13 r11 100 ∧ vp_in ((3 : Int32) + ((zI h a0 24) - (9 : Int32))) (zLen h13 r11) ∧ zO h13 a0 9 ∧ ∃ Q18 : zMem → Prop, zConV G mX10_expression d [.ref a0] (zsI h13 r11 ((3 : Int32) + ((zI h a0 24) - (9 : Int32))).toNatClampNeg v15) Q18 ∧ (∀ h19, Q18 h19 → zO h19 a0 9 ∧ ∃ r22, zR h19 a0 15 = some r22 ∧ ∃ Q23 : Int32 → zMem → Prop, zConI G mX10_fresher d [.ref a0, .int (7 : Int32)] h19 Q23 ∧ (∀ v26 h24, Q23 v26 h24 → zO h24 r22 100 ∧ vp_in ((3 : Int32) + ((zI h a0 24) - (9 : Int32))) (zLen h24 r22) ∧ Q (zsI h24 r22 ((3 : Int32) + ((zI h a0 24) - (9 : Int32))).toNatClampNeg v26)))))) ∧ (¬ (zI h a0 25) = 0 → Q h)) ∧ ((zI h a0 25) = 0 → (¬ (((zI h a0 18) >>> (((16 : Int32) + ((zI h a0 24) - (9 : Int32))) &&& 31)) &&& (1 : Int32)) = (1 : Int32) → ((zI h a0 25) = 0 → ∃ Q32 : zMem → Prop, zConV G mX10_token d [.ref a0] (zsI h a0 18 ((zI h a0 18) ||| ((1 : Int32) <<< (((16 : Int32) + ((zI h a0 24) - (9 : Int32))) &&& 31)))) Q32 ∧ (∀ h33, Q32 h33 → zO h33 a0 9 ∧ ∃ r36, zR h33 a0 14 = some r36 ∧ ∃ Q37 : Int32 → zMem → Prop, zConI G mX10_fresher d [.ref a0, .int (7 : Int32)] h33 Q37 ∧ (∀ v40 h38, Q37 v40 h38 → zO h38 r36 100 ∧ vp_in ((3 : Int32) + ((zI h a0 24) - (9 : Int32))) (zLen h38 r36) ∧ zO h38 a0 9 ∧ ∃ Q43 : zMem → Prop, zConV G mX10_expression d [.ref a0] (zsI h38 r36 ((3 : Int32) + ((zI h a0 24) - (9 : Int32))).toNatClampNeg v40) Q43 ∧ (∀ h44, Q43 h44 → zO h44 a0 9 ∧ ∃ r47, zR h44 a0 15 = some r47 ∧ ∃ Q48 : Int32 → zMem → Prop, zConI G mX10_fresher d [.ref a0, .int (7 : Int32)] h44 Q48 ∧ (∀ v51 h49, Q48 v51 h49 → zO h49 r47 100 ∧ vp_in ((3 : Int32) + ((zI h a0 24) - (9 : Int32))) (zLen h49 r47) ∧ Q (zsI h49 r47 ((3 : Int32) + ((zI h a0 24) - (9 : Int32))).toNatClampNeg v51)))))) ∧ (¬ (zI h a0 25) = 0 → Q h)) ∧ ((((zI h a0 18) >>> (((16 : Int32) + ((zI h a0 24) - (9 : Int32))) &&& 31)) &&& (1 : Int32)) = (1 : Int32) → ∃ Q55 : zMem → Prop, zConV G mX10_wrong d [.ref a0, .int (3 : Int32)] h Q55 ∧ (∀ h56, Q55 h56 → zO h56 a0 9 ∧ ((zI h56 a0 25) = 0 → ∃ Q60 : zMem → Prop, zConV G mX10_token d [.ref a0] (zsI h56 a0 18 ((zI h56 a0 18) ||| ((1 : Int32) <<< (((16 : Int32) + ((zI h a0 24) - (9 : Int32))) &&& 31)))) Q60 ∧ (∀ h61, Q60 h61 → zO h61 a0 9 ∧ ∃ r64, zR h61 a0 14 = some r64 ∧ ∃ Q65 : Int32 → zMem → Prop, zConI G mX10_fresher d [.ref a0, .int (7 : Int32)] h61 Q65 ∧ (∀ v68 h66, Q65 v68 h66 → zO h66 r64 100 ∧ vp_in ((3 : Int32) + ((zI h a0 24) - (9 : Int32))) (zLen h66 r64) ∧ zO h66 a0 9 ∧ ∃ Q71 : zMem → Prop, zConV G mX10_expression d [.ref a0] (zsI h66 r64 ((3 : Int32) + ((zI h a0 24) - (9 : Int32))).toNatClampNeg v68) Q71 ∧ (∀ h72, Q71 h72 → zO h72 a0 9 ∧ ∃ r75, zR h72 a0 15 = some r75 ∧ ∃ Q76 : Int32 → zMem → Prop, zConI G mX10_fresher d [.ref a0, .int (7 : Int32)] h72 Q76 ∧ (∀ v79 h77, Q76 v79 h77 → zO h77 r75 100 ∧ vp_in ((3 : Int32) + ((zI h a0 24) - (9 : Int32))) (zLen h77 r75) ∧ Q (zsI h77 r75 ((3 : Int32) + ((zI h a0 24) - (9 : Int32))).toNatClampNeg v79)))))) ∧ (¬ (zI h56 a0 25) = 0 → Q h56))))) ∧ (¬ (zI h a0 24) ≤ (11 : Int32) → zg G mX10_lawLine (d + 1) 25 [.ref a0, zU] [] h (zPV Q))))) : zg G mX10_lawLine (d + 1) 0 [.ref a0, zU] [] h (zPV Q) := by
  refine z_aload_n 0 rfl rfl ?_
  obtain ⟨o1, B⟩ := B
  refine z_getI 1 rfl lX10_179 rfl o1 ?_
  refine z_if_ne 2 25 rfl (by decide) ⟨fun c2 => ?_, fun c2 => ?_⟩
  · have B := B.1 c2
    exact B
  · have B := B.2 c2
    refine z_aload_n 3 rfl rfl ?_
    refine z_getI 4 rfl lX10_189 rfl o1 ?_
    refine z_bipush (v := 9) 5 rfl (by decide) ?_
    refine z_icmp_lt 6 25 rfl (by decide) ⟨fun c3 => ?_, fun c3 => ?_⟩
    · have B := B.1 c3
      exact B
    · have B := B.2 c3
      refine z_aload_n 7 rfl rfl ?_
      refine z_getI 8 rfl lX10_189 rfl o1 ?_
      refine z_bipush (v := 11) 9 rfl (by decide) ?_
      refine z_icmp_le 10 30 rfl (by decide) ⟨fun c4 => ?_, fun c4 => ?_⟩
      · have B := B.1 c4
        refine z_aload_n 14 rfl rfl ?_
        refine z_getI 15 rfl lX10_189 rfl o1 ?_
        refine z_bipush (v := 9) 16 rfl (by decide) ?_
        refine z_isub 17 rfl ?_
        refine z_istore_n 18 rfl (by decide) rfl ?_
        refine z_aload_n 19 rfl rfl ?_
        refine z_getI 20 rfl lX10_214 rfl o1 ?_
        refine z_if_ne 21 65 rfl (by decide) ⟨fun c5 => ?_, fun c5 => ?_⟩
        · have B := B.1 c5
          refine z_aload_n 35 rfl rfl ?_
          refine z_getI 36 rfl lX10_214 rfl o1 ?_
          refine z_if_eq 37 73 rfl (by decide) ⟨fun c6 => ?_, fun c6 => ?_⟩
          · have B := B.1 c6
            refine z_aload_n 39 rfl rfl ?_
            refine z_dup 40 rfl rfl ?_
            refine z_getI 41 rfl lX10_237 rfl o1 ?_
            refine z_iconst (v := 1) 42 rfl (by decide) ?_
            refine z_bipush (v := 16) 43 rfl (by decide) ?_
            refine z_iload_n 44 rfl rfl ?_
            refine z_iadd 45 rfl ?_
            refine z_ishl 46 rfl ?_
            refine z_ior 47 rfl ?_
            refine z_putI 48 rfl lX10_237 ⟨_, _, _, rfl, rfl⟩ rfl rfl rfl o1 ?_
            refine z_aload_n 49 rfl rfl ?_
            obtain ⟨Q7, K9, B⟩ := B
            refine z_cVV0 (ν := mX10_token) 50 rfl rfl fX10_token gX10_220 ⟨_, rfl, rfl⟩ (by decide) o1 (Nat.le_of_ble_eq_true rfl) K9 (fun h8 q => ?_)
            have B := B h8 q
            refine z_aload_n 51 rfl rfl ?_
            obtain ⟨o10, B⟩ := B
            obtain ⟨r11, hr11, B⟩ := B
            refine z_getR 52 rfl lX10_46 rfl o10 hr11 ?_
            refine z_iconst (v := 3) 53 rfl (by decide) ?_
            refine z_iload_n 54 rfl rfl ?_
            refine z_iadd 55 rfl ?_
            refine z_aload_n 56 rfl rfl ?_
            refine z_bipush (v := 7) 57 rfl (by decide) ?_
            obtain ⟨Q12, K14, B⟩ := B
            refine z_cVI1 (ν := mX10_fresher) 58 rfl rfl fX10_fresher gX10_230 ⟨_, rfl, rfl⟩ (by decide) o10 (Nat.le_of_ble_eq_true rfl) K14 (fun v15 h13 q => ?_)
            have B := B v15 h13 q
            obtain ⟨o16, B⟩ := B
            obtain ⟨o17, B⟩ := B
            refine z_iast 59 rfl o16 o17 ?_
            refine z_aload_n 60 rfl rfl ?_
            obtain ⟨o29, B⟩ := B
            obtain ⟨Q18, K20, B⟩ := B
            refine z_cVV0 (ν := mX10_expression) 61 rfl rfl fX10_expression gX10_276 ⟨_, rfl, rfl⟩ (by decide) o29 (Nat.le_of_ble_eq_true rfl) K20 (fun h19 q => ?_)
            have B := B h19 q
            refine z_aload_n 62 rfl rfl ?_
            obtain ⟨o21, B⟩ := B
            obtain ⟨r22, hr22, B⟩ := B
            refine z_getR 63 rfl lX10_49 rfl o21 hr22 ?_
            refine z_iconst (v := 3) 64 rfl (by decide) ?_
            refine z_iload_n 65 rfl rfl ?_
            refine z_iadd 66 rfl ?_
            refine z_aload_n 67 rfl rfl ?_
            refine z_bipush (v := 7) 68 rfl (by decide) ?_
            obtain ⟨Q23, K25, B⟩ := B
            refine z_cVI1 (ν := mX10_fresher) 69 rfl rfl fX10_fresher gX10_230 ⟨_, rfl, rfl⟩ (by decide) o21 (Nat.le_of_ble_eq_true rfl) K25 (fun v26 h24 q => ?_)
            have B := B v26 h24 q
            obtain ⟨o27, B⟩ := B
            obtain ⟨o28, B⟩ := B
            refine z_iast 70 rfl o27 o28 ?_
            exact z_vret 71 rfl rfl ⟨rfl, rfl⟩ ⟨rfl, B⟩
          · have B := B.2 c6
            exact z_vret 38 rfl rfl ⟨rfl, rfl⟩ ⟨rfl, B⟩
        · have B := B.2 c5
          refine z_aload_n 22 rfl rfl ?_
          refine z_getI 23 rfl lX10_237 rfl o1 ?_
          refine z_bipush (v := 16) 24 rfl (by decide) ?_
          refine z_iload_n 25 rfl rfl ?_
          refine z_iadd 26 rfl ?_
          refine z_ishr 27 rfl ?_
          refine z_iconst (v := 1) 28 rfl (by decide) ?_
          refine z_iand 29 rfl ?_
          refine z_iconst (v := 1) 30 rfl (by decide) ?_
          refine z_icmp_ne 31 65 rfl (by decide) ⟨fun c30 => ?_, fun c30 => ?_⟩
          · have B := B.1 c30
            refine z_aload_n 35 rfl rfl ?_
            refine z_getI 36 rfl lX10_214 rfl o1 ?_
            refine z_if_eq 37 73 rfl (by decide) ⟨fun c31 => ?_, fun c31 => ?_⟩
            · have B := B.1 c31
              refine z_aload_n 39 rfl rfl ?_
              refine z_dup 40 rfl rfl ?_
              refine z_getI 41 rfl lX10_237 rfl o1 ?_
              refine z_iconst (v := 1) 42 rfl (by decide) ?_
              refine z_bipush (v := 16) 43 rfl (by decide) ?_
              refine z_iload_n 44 rfl rfl ?_
              refine z_iadd 45 rfl ?_
              refine z_ishl 46 rfl ?_
              refine z_ior 47 rfl ?_
              refine z_putI 48 rfl lX10_237 ⟨_, _, _, rfl, rfl⟩ rfl rfl rfl o1 ?_
              refine z_aload_n 49 rfl rfl ?_
              obtain ⟨Q32, K34, B⟩ := B
              refine z_cVV0 (ν := mX10_token) 50 rfl rfl fX10_token gX10_220 ⟨_, rfl, rfl⟩ (by decide) o1 (Nat.le_of_ble_eq_true rfl) K34 (fun h33 q => ?_)
              have B := B h33 q
              refine z_aload_n 51 rfl rfl ?_
              obtain ⟨o35, B⟩ := B
              obtain ⟨r36, hr36, B⟩ := B
              refine z_getR 52 rfl lX10_46 rfl o35 hr36 ?_
              refine z_iconst (v := 3) 53 rfl (by decide) ?_
              refine z_iload_n 54 rfl rfl ?_
              refine z_iadd 55 rfl ?_
              refine z_aload_n 56 rfl rfl ?_
              refine z_bipush (v := 7) 57 rfl (by decide) ?_
              obtain ⟨Q37, K39, B⟩ := B
              refine z_cVI1 (ν := mX10_fresher) 58 rfl rfl fX10_fresher gX10_230 ⟨_, rfl, rfl⟩ (by decide) o35 (Nat.le_of_ble_eq_true rfl) K39 (fun v40 h38 q => ?_)
              have B := B v40 h38 q
              obtain ⟨o41, B⟩ := B
              obtain ⟨o42, B⟩ := B
              refine z_iast 59 rfl o41 o42 ?_
              refine z_aload_n 60 rfl rfl ?_
              obtain ⟨o54, B⟩ := B
              obtain ⟨Q43, K45, B⟩ := B
              refine z_cVV0 (ν := mX10_expression) 61 rfl rfl fX10_expression gX10_276 ⟨_, rfl, rfl⟩ (by decide) o54 (Nat.le_of_ble_eq_true rfl) K45 (fun h44 q => ?_)
              have B := B h44 q
              refine z_aload_n 62 rfl rfl ?_
              obtain ⟨o46, B⟩ := B
              obtain ⟨r47, hr47, B⟩ := B
              refine z_getR 63 rfl lX10_49 rfl o46 hr47 ?_
              refine z_iconst (v := 3) 64 rfl (by decide) ?_
              refine z_iload_n 65 rfl rfl ?_
              refine z_iadd 66 rfl ?_
              refine z_aload_n 67 rfl rfl ?_
              refine z_bipush (v := 7) 68 rfl (by decide) ?_
              obtain ⟨Q48, K50, B⟩ := B
              refine z_cVI1 (ν := mX10_fresher) 69 rfl rfl fX10_fresher gX10_230 ⟨_, rfl, rfl⟩ (by decide) o46 (Nat.le_of_ble_eq_true rfl) K50 (fun v51 h49 q => ?_)
              have B := B v51 h49 q
              obtain ⟨o52, B⟩ := B
              obtain ⟨o53, B⟩ := B
              refine z_iast 70 rfl o52 o53 ?_
              exact z_vret 71 rfl rfl ⟨rfl, rfl⟩ ⟨rfl, B⟩
            · have B := B.2 c31
              exact z_vret 38 rfl rfl ⟨rfl, rfl⟩ ⟨rfl, B⟩
          · have B := B.2 c30
            refine z_aload_n 32 rfl rfl ?_
            refine z_iconst (v := 3) 33 rfl (by decide) ?_
            obtain ⟨Q55, K57, B⟩ := B
            refine z_cVV1 (ν := mX10_wrong) 34 rfl rfl fX10_wrong gX10_223 ⟨_, rfl, rfl⟩ (by decide) o1 (Nat.le_of_ble_eq_true rfl) K57 (fun h56 q => ?_)
            have B := B h56 q
            refine z_aload_n 35 rfl rfl ?_
            obtain ⟨o58, B⟩ := B
            refine z_getI 36 rfl lX10_214 rfl o58 ?_
            refine z_if_eq 37 73 rfl (by decide) ⟨fun c59 => ?_, fun c59 => ?_⟩
            · have B := B.1 c59
              refine z_aload_n 39 rfl rfl ?_
              refine z_dup 40 rfl rfl ?_
              refine z_getI 41 rfl lX10_237 rfl o58 ?_
              refine z_iconst (v := 1) 42 rfl (by decide) ?_
              refine z_bipush (v := 16) 43 rfl (by decide) ?_
              refine z_iload_n 44 rfl rfl ?_
              refine z_iadd 45 rfl ?_
              refine z_ishl 46 rfl ?_
              refine z_ior 47 rfl ?_
              refine z_putI 48 rfl lX10_237 ⟨_, _, _, rfl, rfl⟩ rfl rfl rfl o58 ?_
              refine z_aload_n 49 rfl rfl ?_
              obtain ⟨Q60, K62, B⟩ := B
              refine z_cVV0 (ν := mX10_token) 50 rfl rfl fX10_token gX10_220 ⟨_, rfl, rfl⟩ (by decide) o58 (Nat.le_of_ble_eq_true rfl) K62 (fun h61 q => ?_)
              have B := B h61 q
              refine z_aload_n 51 rfl rfl ?_
              obtain ⟨o63, B⟩ := B
              obtain ⟨r64, hr64, B⟩ := B
              refine z_getR 52 rfl lX10_46 rfl o63 hr64 ?_
              refine z_iconst (v := 3) 53 rfl (by decide) ?_
              refine z_iload_n 54 rfl rfl ?_
              refine z_iadd 55 rfl ?_
              refine z_aload_n 56 rfl rfl ?_
              refine z_bipush (v := 7) 57 rfl (by decide) ?_
              obtain ⟨Q65, K67, B⟩ := B
              refine z_cVI1 (ν := mX10_fresher) 58 rfl rfl fX10_fresher gX10_230 ⟨_, rfl, rfl⟩ (by decide) o63 (Nat.le_of_ble_eq_true rfl) K67 (fun v68 h66 q => ?_)
              have B := B v68 h66 q
              obtain ⟨o69, B⟩ := B
              obtain ⟨o70, B⟩ := B
              refine z_iast 59 rfl o69 o70 ?_
              refine z_aload_n 60 rfl rfl ?_
              obtain ⟨o82, B⟩ := B
              obtain ⟨Q71, K73, B⟩ := B
              refine z_cVV0 (ν := mX10_expression) 61 rfl rfl fX10_expression gX10_276 ⟨_, rfl, rfl⟩ (by decide) o82 (Nat.le_of_ble_eq_true rfl) K73 (fun h72 q => ?_)
              have B := B h72 q
              refine z_aload_n 62 rfl rfl ?_
              obtain ⟨o74, B⟩ := B
              obtain ⟨r75, hr75, B⟩ := B
              refine z_getR 63 rfl lX10_49 rfl o74 hr75 ?_
              refine z_iconst (v := 3) 64 rfl (by decide) ?_
              refine z_iload_n 65 rfl rfl ?_
              refine z_iadd 66 rfl ?_
              refine z_aload_n 67 rfl rfl ?_
              refine z_bipush (v := 7) 68 rfl (by decide) ?_
              obtain ⟨Q76, K78, B⟩ := B
              refine z_cVI1 (ν := mX10_fresher) 69 rfl rfl fX10_fresher gX10_230 ⟨_, rfl, rfl⟩ (by decide) o74 (Nat.le_of_ble_eq_true rfl) K78 (fun v79 h77 q => ?_)
              have B := B v79 h77 q
              obtain ⟨o80, B⟩ := B
              obtain ⟨o81, B⟩ := B
              refine z_iast 70 rfl o80 o81 ?_
              exact z_vret 71 rfl rfl ⟨rfl, rfl⟩ ⟨rfl, B⟩
            · have B := B.2 c59
              exact z_vret 38 rfl rfl ⟨rfl, rfl⟩ ⟨rfl, B⟩
      · have B := B.2 c4
        exact B
theorem cn_X10_lawLine {G : zG} {d : Nat} {h : zMem} {Q : zMem → Prop} {a0 : Nat} (B : zg G mX10_lawLine (d + 1) 0 [.ref a0, zU] [] h (zPV Q)) : zConV G mX10_lawLine (d + 1) [.ref a0] h Q := zcon0 (by decide +kernel) eX10_lawLine (Nat.le_of_ble_eq_true rfl) rfl B
set_option maxRecDepth 100000 in
set_option maxHeartbeats 4000000 in
theorem sg_X10_lawLine_25 {G : zG} {d : Nat} {h : zMem} {Q : zMem → Prop} {a0 : Nat} (B : zO h a0 9 ∧ ∃ Q1 : zMem → Prop, zConV G mX10_wrong d [.ref a0, .int (1 : Int32)] h Q1 ∧ (∀ h2, Q1 h2 → zO h2 a0 9 ∧ (¬ (zI h2 a0 25) = 0 → ((zI h2 a0 25) = 0 → ∃ Q7 : zMem → Prop, zConV G mX10_token d [.ref a0] (zsI h2 a0 18 ((zI h2 a0 18) ||| ((1 : Int32) <<< (((16 : Int32) + ((zI h2 a0 24) - (9 : Int32))) &&& 31)))) Q7 ∧ (∀ h8, Q7 h8 → zO h8 a0 9 ∧ ∃ r11, zR h8 a0 14 = some r11 ∧ ∃ Q12 : Int32 → zMem → Prop, zConI G mX10_fresher d [.ref a0, .int (7 : Int32)] h8 Q12 ∧ (∀ v15 h13, Q12 v15 h13 → zO h13 r11 100 ∧ vp_in ((3 : Int32) + ((zI h2 a0 24) - (9 : Int32))) (zLen h13 r11) ∧ zO h13 a0 9 ∧ ∃ Q18 : zMem → Prop, zConV G mX10_expression d [.ref a0] (zsI h13 r11 ((3 : Int32) + ((zI h2 a0 24) - (9 : Int32))).toNatClampNeg v15) Q18 ∧ (∀ h19, Q18 h19 → zO h19 a0 9 ∧ ∃ r22, zR h19 a0 15 = some r22 ∧ ∃ Q23 : Int32 → zMem → Prop, zConI G mX10_fresher d [.ref a0, .int (7 : Int32)] h19 Q23 ∧ (∀ v26 h24, Q23 v26 h24 → zO h24 r22 100 ∧ vp_in ((3 : Int32) + ((zI h2 a0 24) - (9 : Int32))) (zLen h24 r22) ∧ Q (zsI h24 r22 ((3 : Int32) + ((zI h2 a0 24) - (9 : Int32))).toNatClampNeg v26)))))) ∧ (¬ (zI h2 a0 25) = 0 → Q h2)) ∧ ((zI h2 a0 25) = 0 → (¬ (((zI h2 a0 18) >>> (((16 : Int32) + ((zI h2 a0 24) - (9 : Int32))) &&& 31)) &&& (1 : Int32)) = (1 : Int32) → ((zI h2 a0 25) = 0 → ∃ Q32 : zMem → Prop, zConV G mX10_token d [.ref a0] (zsI h2 a0 18 ((zI h2 a0 18) ||| ((1 : Int32) <<< (((16 : Int32) + ((zI h2 a0 24) - (9 : Int32))) &&& 31)))) Q32 ∧ (∀ h33, Q32 h33 → zO h33 a0 9 ∧ ∃ r36, zR h33 a0 14 = some r36 ∧ ∃ Q37 : Int32 → zMem → Prop, zConI G mX10_fresher d [.ref a0, .int (7 : Int32)] h33 Q37 ∧ (∀ v40 h38, Q37 v40 h38 → zO h38 r36 100 ∧ vp_in ((3 : Int32) + ((zI h2 a0 24) - (9 : Int32))) (zLen h38 r36) ∧ zO h38 a0 9 ∧ ∃ Q43 : zMem → Prop, zConV G mX10_expression d [.ref a0] (zsI h38 r36 ((3 : Int32) + ((zI h2 a0 24) - (9 : Int32))).toNatClampNeg v40) Q43 ∧ (∀ h44, Q43 h44 → zO h44 a0 9 ∧ ∃ r47, zR h44 a0 15 = some r47 ∧ ∃ Q48 : Int32 → zMem → Prop, zConI G mX10_fresher d [.ref a0, .int (7 : Int32)] h44 Q48 ∧ (∀ v51 h49, Q48 v51 h49 → zO h49 r47 100 ∧ vp_in ((3 : Int32) + ((zI h2 a0 24) - (9 : Int32))) (zLen h49 r47) ∧ Q (zsI h49 r47 ((3 : Int32) + ((zI h2 a0 24) - (9 : Int32))).toNatClampNeg v51)))))) ∧ (¬ (zI h2 a0 25) = 0 → Q h2)) ∧ ((((zI h2 a0 18) >>> (((16 : Int32) + ((zI h2 a0 24) - (9 : Int32))) &&& 31)) &&& (1 : Int32)) = (1 : Int32) → ∃ Q55 : zMem → Prop, zConV G mX10_wrong d [.ref a0, .int (3 : Int32)] h2 Q55 ∧ (∀ h56, Q55 h56 → zO h56 a0 9 ∧ ((zI h56 a0 25) = 0 → ∃ Q60 : zMem → Prop, zConV G mX10_token d [.ref a0] (zsI h56 a0 18 ((zI h56 a0 18) ||| ((1 : Int32) <<< (((16 : Int32) + ((zI h2 a0 24) - (9 : Int32))) &&& 31)))) Q60 ∧ (∀ h61, Q60 h61 → zO h61 a0 9 ∧ ∃ r64, zR h61 a0 14 = some r64 ∧ ∃ Q65 : Int32 → zMem → Prop, zConI G mX10_fresher d [.ref a0, .int (7 : Int32)] h61 Q65 ∧ (∀ v68 h66, Q65 v68 h66 → zO h66 r64 100 ∧ vp_in ((3 : Int32) + ((zI h2 a0 24) - (9 : Int32))) (zLen h66 r64) ∧ zO h66 a0 9 ∧ ∃ Q71 : zMem → Prop, zConV G mX10_expression d [.ref a0] (zsI h66 r64 ((3 : Int32) + ((zI h2 a0 24) - (9 : Int32))).toNatClampNeg v68) Q71 ∧ (∀ h72, Q71 h72 → zO h72 a0 9 ∧ ∃ r75, zR h72 a0 15 = some r75 ∧ ∃ Q76 : Int32 → zMem → Prop, zConI G mX10_fresher d [.ref a0, .int (7 : Int32)] h72 Q76 ∧ (∀ v79 h77, Q76 v79 h77 → zO h77 r75 100 ∧ vp_in ((3 : Int32) + ((zI h2 a0 24) - (9 : Int32))) (zLen h77 r75) ∧ Q (zsI h77 r75 ((3 : Int32) + ((zI h2 a0 24) - (9 : Int32))).toNatClampNeg v79)))))) ∧ (¬ (zI h56 a0 25) = 0 → Q h56)))))) : zg G mX10_lawLine (d + 1) 25 [.ref a0, zU] [] h (zPV Q) := by
  refine z_aload_n 11 rfl rfl ?_
  refine z_iconst (v := 1) 12 rfl (by decide) ?_
  obtain ⟨o83, B⟩ := B
  obtain ⟨Q1, K3, B⟩ := B
  refine z_cVV1 (ν := mX10_wrong) 13 rfl rfl fX10_wrong gX10_223 ⟨_, rfl, rfl⟩ (by decide) o83 (Nat.le_of_ble_eq_true rfl) K3 (fun h2 q => ?_)
  have B := B h2 q
  refine z_aload_n 14 rfl rfl ?_
  obtain ⟨o4, B⟩ := B
  refine z_getI 15 rfl lX10_189 rfl o4 ?_
  refine z_bipush (v := 9) 16 rfl (by decide) ?_
  refine z_isub 17 rfl ?_
  refine z_istore_n 18 rfl (by decide) rfl ?_
  refine z_aload_n 19 rfl rfl ?_
  refine z_getI 20 rfl lX10_214 rfl o4 ?_
  refine z_if_ne 21 65 rfl (by decide) ⟨fun c5 => ?_, fun c5 => ?_⟩
  · have B := B.1 c5
    refine z_aload_n 35 rfl rfl ?_
    refine z_getI 36 rfl lX10_214 rfl o4 ?_
    refine z_if_eq 37 73 rfl (by decide) ⟨fun c6 => ?_, fun c6 => ?_⟩
    · have B := B.1 c6
      refine z_aload_n 39 rfl rfl ?_
      refine z_dup 40 rfl rfl ?_
      refine z_getI 41 rfl lX10_237 rfl o4 ?_
      refine z_iconst (v := 1) 42 rfl (by decide) ?_
      refine z_bipush (v := 16) 43 rfl (by decide) ?_
      refine z_iload_n 44 rfl rfl ?_
      refine z_iadd 45 rfl ?_
      refine z_ishl 46 rfl ?_
      refine z_ior 47 rfl ?_
      refine z_putI 48 rfl lX10_237 ⟨_, _, _, rfl, rfl⟩ rfl rfl rfl o4 ?_
      refine z_aload_n 49 rfl rfl ?_
      obtain ⟨Q7, K9, B⟩ := B
      refine z_cVV0 (ν := mX10_token) 50 rfl rfl fX10_token gX10_220 ⟨_, rfl, rfl⟩ (by decide) o4 (Nat.le_of_ble_eq_true rfl) K9 (fun h8 q => ?_)
      have B := B h8 q
      refine z_aload_n 51 rfl rfl ?_
      obtain ⟨o10, B⟩ := B
      obtain ⟨r11, hr11, B⟩ := B
      refine z_getR 52 rfl lX10_46 rfl o10 hr11 ?_
      refine z_iconst (v := 3) 53 rfl (by decide) ?_
      refine z_iload_n 54 rfl rfl ?_
      refine z_iadd 55 rfl ?_
      refine z_aload_n 56 rfl rfl ?_
      refine z_bipush (v := 7) 57 rfl (by decide) ?_
      obtain ⟨Q12, K14, B⟩ := B
      refine z_cVI1 (ν := mX10_fresher) 58 rfl rfl fX10_fresher gX10_230 ⟨_, rfl, rfl⟩ (by decide) o10 (Nat.le_of_ble_eq_true rfl) K14 (fun v15 h13 q => ?_)
      have B := B v15 h13 q
      obtain ⟨o16, B⟩ := B
      obtain ⟨o17, B⟩ := B
      refine z_iast 59 rfl o16 o17 ?_
      refine z_aload_n 60 rfl rfl ?_
      obtain ⟨o29, B⟩ := B
      obtain ⟨Q18, K20, B⟩ := B
      refine z_cVV0 (ν := mX10_expression) 61 rfl rfl fX10_expression gX10_276 ⟨_, rfl, rfl⟩ (by decide) o29 (Nat.le_of_ble_eq_true rfl) K20 (fun h19 q => ?_)
      have B := B h19 q
      refine z_aload_n 62 rfl rfl ?_
      obtain ⟨o21, B⟩ := B
      obtain ⟨r22, hr22, B⟩ := B
      refine z_getR 63 rfl lX10_49 rfl o21 hr22 ?_
      refine z_iconst (v := 3) 64 rfl (by decide) ?_
      refine z_iload_n 65 rfl rfl ?_
      refine z_iadd 66 rfl ?_
      refine z_aload_n 67 rfl rfl ?_
      refine z_bipush (v := 7) 68 rfl (by decide) ?_
      obtain ⟨Q23, K25, B⟩ := B
      refine z_cVI1 (ν := mX10_fresher) 69 rfl rfl fX10_fresher gX10_230 ⟨_, rfl, rfl⟩ (by decide) o21 (Nat.le_of_ble_eq_true rfl) K25 (fun v26 h24 q => ?_)
      have B := B v26 h24 q
      obtain ⟨o27, B⟩ := B
      obtain ⟨o28, B⟩ := B
      refine z_iast 70 rfl o27 o28 ?_
      exact z_vret 71 rfl rfl ⟨rfl, rfl⟩ ⟨rfl, B⟩
    · have B := B.2 c6
      exact z_vret 38 rfl rfl ⟨rfl, rfl⟩ ⟨rfl, B⟩
  · have B := B.2 c5
    refine z_aload_n 22 rfl rfl ?_
    refine z_getI 23 rfl lX10_237 rfl o4 ?_
    refine z_bipush (v := 16) 24 rfl (by decide) ?_
    refine z_iload_n 25 rfl rfl ?_
    refine z_iadd 26 rfl ?_
    refine z_ishr 27 rfl ?_
    refine z_iconst (v := 1) 28 rfl (by decide) ?_
    refine z_iand 29 rfl ?_
    refine z_iconst (v := 1) 30 rfl (by decide) ?_
    refine z_icmp_ne 31 65 rfl (by decide) ⟨fun c30 => ?_, fun c30 => ?_⟩
    · have B := B.1 c30
      refine z_aload_n 35 rfl rfl ?_
      refine z_getI 36 rfl lX10_214 rfl o4 ?_
      refine z_if_eq 37 73 rfl (by decide) ⟨fun c31 => ?_, fun c31 => ?_⟩
      · have B := B.1 c31
        refine z_aload_n 39 rfl rfl ?_
        refine z_dup 40 rfl rfl ?_
        refine z_getI 41 rfl lX10_237 rfl o4 ?_
        refine z_iconst (v := 1) 42 rfl (by decide) ?_
        refine z_bipush (v := 16) 43 rfl (by decide) ?_
        refine z_iload_n 44 rfl rfl ?_
        refine z_iadd 45 rfl ?_
        refine z_ishl 46 rfl ?_
        refine z_ior 47 rfl ?_
        refine z_putI 48 rfl lX10_237 ⟨_, _, _, rfl, rfl⟩ rfl rfl rfl o4 ?_
        refine z_aload_n 49 rfl rfl ?_
        obtain ⟨Q32, K34, B⟩ := B
        refine z_cVV0 (ν := mX10_token) 50 rfl rfl fX10_token gX10_220 ⟨_, rfl, rfl⟩ (by decide) o4 (Nat.le_of_ble_eq_true rfl) K34 (fun h33 q => ?_)
        have B := B h33 q
        refine z_aload_n 51 rfl rfl ?_
        obtain ⟨o35, B⟩ := B
        obtain ⟨r36, hr36, B⟩ := B
        refine z_getR 52 rfl lX10_46 rfl o35 hr36 ?_
        refine z_iconst (v := 3) 53 rfl (by decide) ?_
        refine z_iload_n 54 rfl rfl ?_
        refine z_iadd 55 rfl ?_
        refine z_aload_n 56 rfl rfl ?_
        refine z_bipush (v := 7) 57 rfl (by decide) ?_
        obtain ⟨Q37, K39, B⟩ := B
        refine z_cVI1 (ν := mX10_fresher) 58 rfl rfl fX10_fresher gX10_230 ⟨_, rfl, rfl⟩ (by decide) o35 (Nat.le_of_ble_eq_true rfl) K39 (fun v40 h38 q => ?_)
        have B := B v40 h38 q
        obtain ⟨o41, B⟩ := B
        obtain ⟨o42, B⟩ := B
        refine z_iast 59 rfl o41 o42 ?_
        refine z_aload_n 60 rfl rfl ?_
        obtain ⟨o54, B⟩ := B
        obtain ⟨Q43, K45, B⟩ := B
        refine z_cVV0 (ν := mX10_expression) 61 rfl rfl fX10_expression gX10_276 ⟨_, rfl, rfl⟩ (by decide) o54 (Nat.le_of_ble_eq_true rfl) K45 (fun h44 q => ?_)
        have B := B h44 q
        refine z_aload_n 62 rfl rfl ?_
        obtain ⟨o46, B⟩ := B
        obtain ⟨r47, hr47, B⟩ := B
        refine z_getR 63 rfl lX10_49 rfl o46 hr47 ?_
        refine z_iconst (v := 3) 64 rfl (by decide) ?_
        refine z_iload_n 65 rfl rfl ?_
        refine z_iadd 66 rfl ?_
        refine z_aload_n 67 rfl rfl ?_
        refine z_bipush (v := 7) 68 rfl (by decide) ?_
        obtain ⟨Q48, K50, B⟩ := B
        refine z_cVI1 (ν := mX10_fresher) 69 rfl rfl fX10_fresher gX10_230 ⟨_, rfl, rfl⟩ (by decide) o46 (Nat.le_of_ble_eq_true rfl) K50 (fun v51 h49 q => ?_)
        have B := B v51 h49 q
        obtain ⟨o52, B⟩ := B
        obtain ⟨o53, B⟩ := B
        refine z_iast 70 rfl o52 o53 ?_
        exact z_vret 71 rfl rfl ⟨rfl, rfl⟩ ⟨rfl, B⟩
      · have B := B.2 c31
        exact z_vret 38 rfl rfl ⟨rfl, rfl⟩ ⟨rfl, B⟩
    · have B := B.2 c30
      refine z_aload_n 32 rfl rfl ?_
      refine z_iconst (v := 3) 33 rfl (by decide) ?_
      obtain ⟨Q55, K57, B⟩ := B
      refine z_cVV1 (ν := mX10_wrong) 34 rfl rfl fX10_wrong gX10_223 ⟨_, rfl, rfl⟩ (by decide) o4 (Nat.le_of_ble_eq_true rfl) K57 (fun h56 q => ?_)
      have B := B h56 q
      refine z_aload_n 35 rfl rfl ?_
      obtain ⟨o58, B⟩ := B
      refine z_getI 36 rfl lX10_214 rfl o58 ?_
      refine z_if_eq 37 73 rfl (by decide) ⟨fun c59 => ?_, fun c59 => ?_⟩
      · have B := B.1 c59
        refine z_aload_n 39 rfl rfl ?_
        refine z_dup 40 rfl rfl ?_
        refine z_getI 41 rfl lX10_237 rfl o58 ?_
        refine z_iconst (v := 1) 42 rfl (by decide) ?_
        refine z_bipush (v := 16) 43 rfl (by decide) ?_
        refine z_iload_n 44 rfl rfl ?_
        refine z_iadd 45 rfl ?_
        refine z_ishl 46 rfl ?_
        refine z_ior 47 rfl ?_
        refine z_putI 48 rfl lX10_237 ⟨_, _, _, rfl, rfl⟩ rfl rfl rfl o58 ?_
        refine z_aload_n 49 rfl rfl ?_
        obtain ⟨Q60, K62, B⟩ := B
        refine z_cVV0 (ν := mX10_token) 50 rfl rfl fX10_token gX10_220 ⟨_, rfl, rfl⟩ (by decide) o58 (Nat.le_of_ble_eq_true rfl) K62 (fun h61 q => ?_)
        have B := B h61 q
        refine z_aload_n 51 rfl rfl ?_
        obtain ⟨o63, B⟩ := B
        obtain ⟨r64, hr64, B⟩ := B
        refine z_getR 52 rfl lX10_46 rfl o63 hr64 ?_
        refine z_iconst (v := 3) 53 rfl (by decide) ?_
        refine z_iload_n 54 rfl rfl ?_
        refine z_iadd 55 rfl ?_
        refine z_aload_n 56 rfl rfl ?_
        refine z_bipush (v := 7) 57 rfl (by decide) ?_
        obtain ⟨Q65, K67, B⟩ := B
        refine z_cVI1 (ν := mX10_fresher) 58 rfl rfl fX10_fresher gX10_230 ⟨_, rfl, rfl⟩ (by decide) o63 (Nat.le_of_ble_eq_true rfl) K67 (fun v68 h66 q => ?_)
        have B := B v68 h66 q
        obtain ⟨o69, B⟩ := B
        obtain ⟨o70, B⟩ := B
        refine z_iast 59 rfl o69 o70 ?_
        refine z_aload_n 60 rfl rfl ?_
        obtain ⟨o82, B⟩ := B
        obtain ⟨Q71, K73, B⟩ := B
        refine z_cVV0 (ν := mX10_expression) 61 rfl rfl fX10_expression gX10_276 ⟨_, rfl, rfl⟩ (by decide) o82 (Nat.le_of_ble_eq_true rfl) K73 (fun h72 q => ?_)
        have B := B h72 q
        refine z_aload_n 62 rfl rfl ?_
        obtain ⟨o74, B⟩ := B
        obtain ⟨r75, hr75, B⟩ := B
        refine z_getR 63 rfl lX10_49 rfl o74 hr75 ?_
        refine z_iconst (v := 3) 64 rfl (by decide) ?_
        refine z_iload_n 65 rfl rfl ?_
        refine z_iadd 66 rfl ?_
        refine z_aload_n 67 rfl rfl ?_
        refine z_bipush (v := 7) 68 rfl (by decide) ?_
        obtain ⟨Q76, K78, B⟩ := B
        refine z_cVI1 (ν := mX10_fresher) 69 rfl rfl fX10_fresher gX10_230 ⟨_, rfl, rfl⟩ (by decide) o74 (Nat.le_of_ble_eq_true rfl) K78 (fun v79 h77 q => ?_)
        have B := B v79 h77 q
        obtain ⟨o80, B⟩ := B
        obtain ⟨o81, B⟩ := B
        refine z_iast 70 rfl o80 o81 ?_
        exact z_vret 71 rfl rfl ⟨rfl, rfl⟩ ⟨rfl, B⟩
      · have B := B.2 c59
        exact z_vret 38 rfl rfl ⟨rfl, rfl⟩ ⟨rfl, B⟩
set_option maxRecDepth 100000 in
set_option maxHeartbeats 4000000 in
theorem sg_X10_puts_0 {G : zG} {d : Nat} {h : zMem} {Q : zMem → Prop} {a0 : Nat} {x1 : Int32} {x2 : Int32} (B : zO h a0 9 ∧ ((zI h a0 25) = 0 → ∃ r3, zR h a0 16 = some r3 ∧ ∃ Q4 : Int32 → zMem → Prop, zConI G mX10_fresher d [.ref a0, .int (7 : Int32)] h Q4 ∧ (∀ v7 h5, Q4 v7 h5 → zO h5 r3 100 ∧ vp_in ((64 : Int32) + v7) (zLen h5 r3) ∧ zO h5 a0 9 ∧ ∃ r11, zR h5 a0 17 = some r11 ∧ ∃ Q12 : Int32 → zMem → Prop, zConI G mX10_fresher d [.ref a0, .int (7 : Int32)] (zsI h5 r3 ((64 : Int32) + v7).toNatClampNeg x1) Q12 ∧ (∀ v15 h13, Q12 v15 h13 → zO h13 r11 100 ∧ vp_in ((64 : Int32) + v15) (zLen h13 r11) ∧ zO h13 a0 9 ∧ ∃ Q18 : Int32 → zMem → Prop, zConI G mX10_fresher d [.ref a0, .int (7 : Int32)] (zsI h13 r11 ((64 : Int32) + v15).toNatClampNeg x2) Q18 ∧ (∀ v21 h19, Q18 v21 h19 → zO h19 a0 9 ∧ ∃ Q22 : zMem → Prop, zConV G mX10_reads d [.ref a0, .int (7 : Int32), .int (v21 + (1 : Int32))] h19 Q22 ∧ (∀ h23, Q22 h23 → Q h23))))) ∧ (¬ (zI h a0 25) = 0 → Q h)) : zg G mX10_puts (d + 1) 0 [.ref a0, .int x1, .int x2] [] h (zPV Q) := by
  refine z_aload_n 0 rfl rfl ?_
  obtain ⟨o1, B⟩ := B
  refine z_getI 1 rfl lX10_214 rfl o1 ?_
  refine z_if_eq 2 8 rfl (by decide) ⟨fun c2 => ?_, fun c2 => ?_⟩
  · have B := B.1 c2
    refine z_aload_n 4 rfl rfl ?_
    obtain ⟨r3, hr3, B⟩ := B
    refine z_getR 5 rfl lX10_52 rfl o1 hr3 ?_
    refine z_bipush (v := 64) 6 rfl (by decide) ?_
    refine z_aload_n 7 rfl rfl ?_
    refine z_bipush (v := 7) 8 rfl (by decide) ?_
    obtain ⟨Q4, K6, B⟩ := B
    refine z_cVI1 (ν := mX10_fresher) 9 rfl rfl fX10_fresher gX10_230 ⟨_, rfl, rfl⟩ (by decide) o1 (Nat.le_of_ble_eq_true rfl) K6 (fun v7 h5 q => ?_)
    have B := B v7 h5 q
    refine z_iadd 10 rfl ?_
    refine z_iload_n 11 rfl rfl ?_
    obtain ⟨o8, B⟩ := B
    obtain ⟨o9, B⟩ := B
    refine z_iast 12 rfl o8 o9 ?_
    refine z_aload_n 13 rfl rfl ?_
    obtain ⟨o10, B⟩ := B
    obtain ⟨r11, hr11, B⟩ := B
    refine z_getR 14 rfl lX10_55 rfl o10 hr11 ?_
    refine z_bipush (v := 64) 15 rfl (by decide) ?_
    refine z_aload_n 16 rfl rfl ?_
    refine z_bipush (v := 7) 17 rfl (by decide) ?_
    obtain ⟨Q12, K14, B⟩ := B
    refine z_cVI1 (ν := mX10_fresher) 18 rfl rfl fX10_fresher gX10_230 ⟨_, rfl, rfl⟩ (by decide) o10 (Nat.le_of_ble_eq_true rfl) K14 (fun v15 h13 q => ?_)
    have B := B v15 h13 q
    refine z_iadd 19 rfl ?_
    refine z_iload_n 20 rfl rfl ?_
    obtain ⟨o16, B⟩ := B
    obtain ⟨o17, B⟩ := B
    refine z_iast 21 rfl o16 o17 ?_
    refine z_aload_n 22 rfl rfl ?_
    refine z_bipush (v := 7) 23 rfl (by decide) ?_
    refine z_aload_n 24 rfl rfl ?_
    refine z_bipush (v := 7) 25 rfl (by decide) ?_
    obtain ⟨o26, B⟩ := B
    obtain ⟨Q18, K20, B⟩ := B
    refine z_cVI1 (ν := mX10_fresher) 26 rfl rfl fX10_fresher gX10_230 ⟨_, rfl, rfl⟩ (by decide) o26 (Nat.le_of_ble_eq_true rfl) K20 (fun v21 h19 q => ?_)
    have B := B v21 h19 q
    refine z_iconst (v := 1) 27 rfl (by decide) ?_
    refine z_iadd 28 rfl ?_
    obtain ⟨o25, B⟩ := B
    obtain ⟨Q22, K24, B⟩ := B
    refine z_cVV2 (ν := mX10_reads) 29 rfl rfl fX10_reads gX10_248 ⟨_, rfl, rfl⟩ (by decide) o25 (Nat.le_of_ble_eq_true rfl) K24 (fun h23 q => ?_)
    have B := B h23 q
    exact z_vret 30 rfl rfl ⟨rfl, rfl⟩ ⟨rfl, B⟩
  · have B := B.2 c2
    exact z_vret 3 rfl rfl ⟨rfl, rfl⟩ ⟨rfl, B⟩
theorem cn_X10_puts {G : zG} {d : Nat} {h : zMem} {Q : zMem → Prop} {a0 : Nat} {x1 : Int32} {x2 : Int32} (B : zg G mX10_puts (d + 1) 0 [.ref a0, .int x1, .int x2] [] h (zPV Q)) : zConV G mX10_puts (d + 1) [.ref a0, .int x1, .int x2] h Q := zcon0 (by decide +kernel) eX10_puts (Nat.le_of_ble_eq_true rfl) rfl B
