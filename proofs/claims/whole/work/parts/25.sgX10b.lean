theorem zsw_X10_line_96 {x : Int32} (z1 : ¬ x.toInt < 0) (z2 : ¬ 6 < x.toInt) (c0 : ¬ x = 0) (c1 : ¬ x = 1) (c2 : ¬ x = 2) (c3 : ¬ x = 3) (c4 : ¬ x = 4) (c5 : ¬ x = 5) (c6 : ¬ x = 6) : (#[44, 103, 118, 125, 183, 268, 283] : Array Int)[(x.toInt - 0).toNat]? = some 299 := by
  obtain ⟨v, hv⟩ : ∃ v : Int, v = x.toInt := ⟨_, rfl⟩
  have c0 : v ≠ 0 := fun e => c0 (Int32.toInt_inj.mp (by rw [← hv, e]; decide))
  have c1 : v ≠ 1 := fun e => c1 (Int32.toInt_inj.mp (by rw [← hv, e]; decide))
  have c2 : v ≠ 2 := fun e => c2 (Int32.toInt_inj.mp (by rw [← hv, e]; decide))
  have c3 : v ≠ 3 := fun e => c3 (Int32.toInt_inj.mp (by rw [← hv, e]; decide))
  have c4 : v ≠ 4 := fun e => c4 (Int32.toInt_inj.mp (by rw [← hv, e]; decide))
  have c5 : v ≠ 5 := fun e => c5 (Int32.toInt_inj.mp (by rw [← hv, e]; decide))
  have c6 : v ≠ 6 := fun e => c6 (Int32.toInt_inj.mp (by rw [← hv, e]; decide))
  rw [← hv] at z1 z2 ⊢
  rcases (show v = 0 ∨ v = 1 ∨ v = 2 ∨ v = 3 ∨ v = 4 ∨ v = 5 ∨ v = 6 by omega) with rfl | rfl | rfl | rfl | rfl | rfl | rfl
  all_goals first | exact absurd rfl (by assumption) | decide
set_option maxRecDepth 100000 in
set_option maxHeartbeats 4000000 in
theorem sg_X10_line_0 {G : zG} {d : Nat} {h : zMem} {Q : zMem → Prop}  (hS : zSh2 h)  (B : (¬ (zI h 132 23) = 0 → ∃ Q2 : zMem → Prop, zConV G mX10_wrong d [.ref 132, .int (1 : Int32)] h Q2 ∧ (∀ h3, Q2 h3 → zSh2 h3 ∧ Q h3)) ∧ ((zI h 132 23) = 0 → ((zI h 132 24) ≤ (7 : Int32) → ∃ Q6 : Int32 → zMem → Prop, zConI G mX10_isFull d [.ref 132, .int (zI h 132 24)] h Q6 ∧ (∀ v9 h7, Q6 v9 h7 → zSh2 h7 ∧ (v9 = 0 → ((zI h 132 24) = (5 : Int32) → (¬ (((zI h7 132 18) >>> ((zI h 132 24) &&& 31)) &&& (1 : Int32)) = (1 : Int32) → zg G mX10_line (d + 1) 71 [.ref 132, .int (zI h 132 24), zU, zU, zU] [] h7 (zPV Q)) ∧ ((((zI h7 132 18) >>> ((zI h 132 24) &&& 31)) &&& (1 : Int32)) = (1 : Int32) → ∃ Q13 : zMem → Prop, zConV G mX10_wrong d [.ref 132, .int (3 : Int32)] h7 Q13 ∧ (∀ h14, Q13 h14 → zSh2 h14 ∧ zg G mX10_line (d + 1) 71 [.ref 132, .int (zI h 132 24), zU, zU, zU] [] h14 (zPV Q)))) ∧ (¬ (zI h 132 24) = (5 : Int32) → (¬ (zI h 132 24) = (6 : Int32) → zg G mX10_line (d + 1) 71 [.ref 132, .int (zI h 132 24), zU, zU, zU] [] h7 (zPV Q)) ∧ ((zI h 132 24) = (6 : Int32) → (¬ (((zI h7 132 18) >>> ((zI h 132 24) &&& 31)) &&& (1 : Int32)) = (1 : Int32) → zg G mX10_line (d + 1) 71 [.ref 132, .int (zI h 132 24), zU, zU, zU] [] h7 (zPV Q)) ∧ ((((zI h7 132 18) >>> ((zI h 132 24) &&& 31)) &&& (1 : Int32)) = (1 : Int32) → ∃ Q18 : zMem → Prop, zConV G mX10_wrong d [.ref 132, .int (3 : Int32)] h7 Q18 ∧ (∀ h19, Q18 h19 → zSh2 h19 ∧ zg G mX10_line (d + 1) 71 [.ref 132, .int (zI h 132 24), zU, zU, zU] [] h19 (zPV Q)))))) ∧ (¬ v9 = 0 → ∃ Q21 : zMem → Prop, zConV G mX10_wrong d [.ref 132, .int (2 : Int32)] h7 Q21 ∧ (∀ h22, Q21 h22 → zSh2 h22 ∧ zg G mX10_line (d + 1) 71 [.ref 132, .int (zI h 132 24), zU, zU, zU] [] h22 (zPV Q))))) ∧ (¬ (zI h 132 24) ≤ (7 : Int32) → ∃ Q24 : zMem → Prop, zConV G mX10_wrong d [.ref 132, .int (1 : Int32)] h Q24 ∧ (∀ h25, Q24 h25 → zSh2 h25 ∧ Q h25)))) : zg G mX10_line (d + 1) 0 [.ref 132, zU, zU, zU, zU] [] h (zPV Q) := by
  refine z_aload_n 0 rfl rfl ?_
  refine z_getI 1 rfl lX10_179 rfl (zcl1.o hS 132 9 rfl rfl rfl) ?_
  refine z_if_ne 2 16 rfl (by decide) ⟨fun c1 => ?_, fun c1 => ?_⟩
  · have B := B.1 c1
    refine z_aload_n 7 rfl rfl ?_
    refine z_iconst (v := 1) 8 rfl (by decide) ?_
    obtain ⟨Q2, K4, B⟩ := B
    refine z_cVV1 (ν := mX10_wrong) 9 rfl rfl fX10_wrong gX10_223 ⟨_, rfl, rfl⟩ (by decide) (zcl1.o hS 132 9 rfl rfl rfl) (Nat.le_of_ble_eq_true rfl) K4 (fun h3 q => ?_)
    obtain ⟨hSh3, B⟩ := B h3 q
    exact z_vret 10 rfl rfl ⟨rfl, rfl⟩ ⟨rfl, B⟩
  · have B := B.2 c1
    refine z_aload_n 3 rfl rfl ?_
    refine z_getI 4 rfl lX10_189 rfl (zcl1.o hS 132 9 rfl rfl rfl) ?_
    refine z_bipush (v := 7) 5 rfl (by decide) ?_
    refine z_icmp_le 6 22 rfl (by decide) ⟨fun c5 => ?_, fun c5 => ?_⟩
    · have B := B.1 c5
      refine z_aload_n 11 rfl rfl ?_
      refine z_getI 12 rfl lX10_189 rfl (zcl1.o hS 132 9 rfl rfl rfl) ?_
      refine z_istore_n 13 rfl (by decide) rfl ?_
      refine z_aload_n 14 rfl rfl ?_
      refine z_iload_n 15 rfl rfl ?_
      obtain ⟨Q6, K8, B⟩ := B
      refine z_cVI1 (ν := mX10_isFull) 16 rfl rfl fX10_isFull gX10_234 ⟨_, rfl, rfl⟩ (by decide) (zcl1.o hS 132 9 rfl rfl rfl) (Nat.le_of_ble_eq_true rfl) K8 (fun v9 h7 q => ?_)
      obtain ⟨hSh7, B⟩ := B v9 h7 q
      refine z_if_eq 17 43 rfl (by decide) ⟨fun c10 => ?_, fun c10 => ?_⟩
      · have B := B.1 c10
        refine z_iload_n 22 rfl rfl ?_
        refine z_iconst (v := 5) 23 rfl (by decide) ?_
        refine z_icmp_eq 24 54 rfl (by decide) ⟨fun c11 => ?_, fun c11 => ?_⟩
        · have B := B.1 c11
          refine z_aload_n 28 rfl rfl ?_
          refine z_getI 29 rfl lX10_237 rfl (zcl1.o hSh7 132 9 rfl rfl rfl) ?_
          refine z_iload_n 30 rfl rfl ?_
          refine z_ishr 31 rfl ?_
          refine z_iconst (v := 1) 32 rfl (by decide) ?_
          refine z_iand 33 rfl ?_
          refine z_iconst (v := 1) 34 rfl (by decide) ?_
          refine z_icmp_ne 35 71 rfl (by decide) ⟨fun c12 => ?_, fun c12 => ?_⟩
          · have B := B.1 c12
            exact B
          · have B := B.2 c12
            refine z_aload_n 36 rfl rfl ?_
            refine z_iconst (v := 3) 37 rfl (by decide) ?_
            obtain ⟨Q13, K15, B⟩ := B
            refine z_cVV1 (ν := mX10_wrong) 38 rfl rfl fX10_wrong gX10_223 ⟨_, rfl, rfl⟩ (by decide) (zcl1.o hSh7 132 9 rfl rfl rfl) (Nat.le_of_ble_eq_true rfl) K15 (fun h14 q => ?_)
            obtain ⟨hSh14, B⟩ := B h14 q
            exact B
        · have B := B.2 c11
          refine z_iload_n 25 rfl rfl ?_
          refine z_bipush (v := 6) 26 rfl (by decide) ?_
          refine z_icmp_ne 27 71 rfl (by decide) ⟨fun c16 => ?_, fun c16 => ?_⟩
          · have B := B.1 c16
            exact B
          · have B := B.2 c16
            refine z_aload_n 28 rfl rfl ?_
            refine z_getI 29 rfl lX10_237 rfl (zcl1.o hSh7 132 9 rfl rfl rfl) ?_
            refine z_iload_n 30 rfl rfl ?_
            refine z_ishr 31 rfl ?_
            refine z_iconst (v := 1) 32 rfl (by decide) ?_
            refine z_iand 33 rfl ?_
            refine z_iconst (v := 1) 34 rfl (by decide) ?_
            refine z_icmp_ne 35 71 rfl (by decide) ⟨fun c17 => ?_, fun c17 => ?_⟩
            · have B := B.1 c17
              exact B
            · have B := B.2 c17
              refine z_aload_n 36 rfl rfl ?_
              refine z_iconst (v := 3) 37 rfl (by decide) ?_
              obtain ⟨Q18, K20, B⟩ := B
              refine z_cVV1 (ν := mX10_wrong) 38 rfl rfl fX10_wrong gX10_223 ⟨_, rfl, rfl⟩ (by decide) (zcl1.o hSh7 132 9 rfl rfl rfl) (Nat.le_of_ble_eq_true rfl) K20 (fun h19 q => ?_)
              obtain ⟨hSh19, B⟩ := B h19 q
              exact B
      · have B := B.2 c10
        refine z_aload_n 18 rfl rfl ?_
        refine z_iconst (v := 2) 19 rfl (by decide) ?_
        obtain ⟨Q21, K23, B⟩ := B
        refine z_cVV1 (ν := mX10_wrong) 20 rfl rfl fX10_wrong gX10_223 ⟨_, rfl, rfl⟩ (by decide) (zcl1.o hSh7 132 9 rfl rfl rfl) (Nat.le_of_ble_eq_true rfl) K23 (fun h22 q => ?_)
        obtain ⟨hSh22, B⟩ := B h22 q
        refine z_goto 21 71 rfl (by decide) ?_
        exact B
    · have B := B.2 c5
      refine z_aload_n 7 rfl rfl ?_
      refine z_iconst (v := 1) 8 rfl (by decide) ?_
      obtain ⟨Q24, K26, B⟩ := B
      refine z_cVV1 (ν := mX10_wrong) 9 rfl rfl fX10_wrong gX10_223 ⟨_, rfl, rfl⟩ (by decide) (zcl1.o hS 132 9 rfl rfl rfl) (Nat.le_of_ble_eq_true rfl) K26 (fun h25 q => ?_)
      obtain ⟨hSh25, B⟩ := B h25 q
      exact z_vret 10 rfl rfl ⟨rfl, rfl⟩ ⟨rfl, B⟩
theorem cn_X10_line {G : zG} {d : Nat} {h : zMem} {Q : zMem → Prop}  (B : zg G mX10_line (d + 1) 0 [.ref 132, zU, zU, zU, zU] [] h (zPV Q)) : zConV G mX10_line (d + 1) [.ref 132] h Q := zcon0 (by decide +kernel) eX10_line (Nat.le_of_ble_eq_true rfl) rfl B
set_option maxRecDepth 100000 in
set_option maxHeartbeats 4000000 in
theorem sg_X10_line_71 {G : zG} {d : Nat} {h : zMem} {Q : zMem → Prop} {x1 : Int32} (hS : zSh2 h)  (B : ((zI h 132 25) = 0 → ∃ Q2 : zMem → Prop, zConV G mX10_token d [.ref 132] (zsI h 132 18 ((zI h 132 18) ||| ((1 : Int32) <<< (x1 &&& 31)))) Q2 ∧ (∀ h3, Q2 h3 → zSh2 h3 ∧ (x1 = 0 → ∃ Q5 : Int32 → zMem → Prop, zConI G mX10_fresher d [.ref 132, .int (0 : Int32)] h3 Q5 ∧ (∀ v8 h6, Q5 v8 h6 → zSh2 h6 ∧ ∃ Q9 : Int32 → zMem → Prop, zConI G mX10_fresher d [.ref 132, .int (0 : Int32)] h6 Q9 ∧ (∀ v12 h10, Q9 v12 h10 → zSh2 h10 ∧ ∃ Q13 : Int32 → zMem → Prop, zConI G mX10_fresh d [.ref 132, .ref 135, .int (6 : Int32), .int v12] h10 Q13 ∧ (∀ v16 h14, Q13 v16 h14 → zSh2 h14 ∧ vp_in ((6 : Int32) + v8) 12 ∧ ∃ Q18 : Int32 → zMem → Prop, zConI G mX10_numeral d [.ref 132, .int (0 : Int32), .int (999 : Int32)] (zsI h14 135 ((6 : Int32) + v8).toNatClampNeg v16) Q18 ∧ (∀ v21 h19, Q18 v21 h19 → zSh2 h19 ∧ ∃ Q22 : Int32 → zMem → Prop, zConI G mX10_fresher d [.ref 132, .int (0 : Int32)] (zsI h19 136 ((6 : Int32) + v8).toNatClampNeg v21) Q22 ∧ (∀ v25 h23, Q22 v25 h23 → zSh2 h23 ∧ ∃ Q26 : zMem → Prop, zConV G mX10_reads d [.ref 132, .int (0 : Int32), .int (v25 + (1 : Int32))] h23 Q26 ∧ (∀ h27, Q26 h27 → zSh2 h27 ∧ zg G mX10_line (d + 1) 399 [.ref 132, .int x1, zU, zU, zU] [] h27 (zPV Q)))))))) ∧ (x1 = 1 → ∃ Q29 : Int32 → zMem → Prop, zConI G mX10_fresher d [.ref 132, .int (1 : Int32)] h3 Q29 ∧ (∀ v32 h30, Q29 v32 h30 → zSh2 h30 ∧ ∃ Q33 : zMem → Prop, zConV G mX10_dayLine d [.ref 132, .int ((8 : Int32) + v32)] h30 Q33 ∧ (∀ h34, Q33 h34 → zSh2 h34 ∧ zg G mX10_line (d + 1) 399 [.ref 132, .int x1, zU, zU, zU] [] h34 (zPV Q)))) ∧ (x1 = 2 → ∃ Q36 : zMem → Prop, zConV G mX10_mixLine d [.ref 132] h3 Q36 ∧ (∀ h37, Q36 h37 → zSh2 h37 ∧ zg G mX10_line (d + 1) 399 [.ref 132, .int x1, zU, zU, zU] [] h37 (zPV Q))) ∧ (x1 = 3 → ∃ Q39 : Int32 → zMem → Prop, zConI G mX10_fresher d [.ref 132, .int (3 : Int32)] h3 Q39 ∧ (∀ v42 h40, Q39 v42 h40 → zSh2 h40 ∧ ∃ Q43 : Int32 → zMem → Prop, zConI G mX10_fresher d [.ref 132, .int (3 : Int32)] h40 Q43 ∧ (∀ v46 h44, Q43 v46 h44 → zSh2 h44 ∧ ∃ Q47 : Int32 → zMem → Prop, zConI G mX10_fresh d [.ref 132, .ref 140, .int (6 : Int32), .int v46] h44 Q47 ∧ (∀ v50 h48, Q47 v50 h48 → zSh2 h48 ∧ vp_in ((6 : Int32) + v42) 12 ∧ ∃ Q52 : Int32 → zMem → Prop, zConI G mX10_numeral d [.ref 132, .int (0 : Int32), .int (100 : Int32)] (zsI h48 140 ((6 : Int32) + v42).toNatClampNeg v50) Q52 ∧ (∀ v55 h53, Q52 v55 h53 → zSh2 h53 ∧ ∃ Q56 : Int32 → zMem → Prop, zConI G mX10_fresher d [.ref 132, .int (3 : Int32)] (zsI h53 141 ((6 : Int32) + v42).toNatClampNeg v55) Q56 ∧ (∀ v59 h57, Q56 v59 h57 → zSh2 h57 ∧ ∃ Q60 : zMem → Prop, zConV G mX10_reads d [.ref 132, .int (3 : Int32), .int (v59 + (1 : Int32))] h57 Q60 ∧ (∀ h61, Q60 h61 → zSh2 h61 ∧ zg G mX10_line (d + 1) 399 [.ref 132, .int x1, zU, zU, zU] [] h61 (zPV Q)))))))) ∧ (x1 = 4 → ∃ Q63 : Int32 → zMem → Prop, zConI G mX10_fresher d [.ref 132, .int (4 : Int32)] h3 Q63 ∧ (∀ v66 h64, Q63 v66 h64 → zSh2 h64 ∧ ∃ Q67 : Int32 → zMem → Prop, zConI G mX10_fresher d [.ref 132, .int (4 : Int32)] h64 Q67 ∧ (∀ v70 h68, Q67 v70 h68 → zSh2 h68 ∧ ∃ Q71 : Int32 → zMem → Prop, zConI G mX10_fresh d [.ref 132, .ref 142, .int (5 : Int32), .int v70] h68 Q71 ∧ (∀ v74 h72, Q71 v74 h72 → zSh2 h72 ∧ vp_in ((5 : Int32) + v66) 10 ∧ ∃ Q76 : Int32 → zMem → Prop, zConI G mX10_fresher d [.ref 132, .int (3 : Int32)] (zsI h72 142 ((5 : Int32) + v66).toNatClampNeg v74) Q76 ∧ (∀ v79 h77, Q76 v79 h77 → zSh2 h77 ∧ ∃ Q80 : Int32 → zMem → Prop, zConI G mX10_toldAhead d [.ref 132, .ref 140, .int (6 : Int32), .int v79] h77 Q80 ∧ (∀ v83 h81, Q80 v83 h81 → zSh2 h81 ∧ ∃ Q84 : zMem → Prop, zConV G mX10_goOn d [.ref 132] (zsI h81 143 ((5 : Int32) + v66).toNatClampNeg v83) Q84 ∧ (∀ h85, Q84 h85 → zSh2 h85 ∧ ∃ Q87 : Int32 → zMem → Prop, zConI G mX10_numeral d [.ref 132, .int (1 : Int32), .int (99 : Int32)] h85 Q87 ∧ (∀ v90 h88, Q87 v90 h88 → zSh2 h88 ∧ ∃ Q91 : Int32 → zMem → Prop, zConI G mX10_fresher d [.ref 132, .int (4 : Int32)] (zsI h88 144 ((5 : Int32) + v66).toNatClampNeg v90) Q91 ∧ (∀ v94 h92, Q91 v94 h92 → zSh2 h92 ∧ ∃ Q95 : zMem → Prop, zConV G mX10_reads d [.ref 132, .int (4 : Int32), .int (v94 + (1 : Int32))] h92 Q95 ∧ (∀ h96, Q95 h96 → zSh2 h96 ∧ zg G mX10_line (d + 1) 399 [.ref 132, .int x1, zU, zU, zU] [] h96 (zPV Q))))))))))) ∧ (x1 = 5 → ∃ Q98 : Int32 → zMem → Prop, zConI G mX10_numeral d [.ref 132, .int (0 : Int32), .int (100 : Int32)] h3 Q98 ∧ (∀ v101 h99, Q98 v101 h99 → zSh2 h99 ∧ ∃ Q102 : zMem → Prop, zConV G mX10_reads d [.ref 132, .int (5 : Int32), .int v101] h99 Q102 ∧ (∀ h103, Q102 h103 → zSh2 h103 ∧ zg G mX10_line (d + 1) 399 [.ref 132, .int x1, zU, zU, zU] [] h103 (zPV Q)))) ∧ (x1 = 6 → ∃ Q105 : Int32 → zMem → Prop, zConI G mX10_numeral d [.ref 132, .int (0 : Int32), .int (99999 : Int32)] h3 Q105 ∧ (∀ v108 h106, Q105 v108 h106 → zSh2 h106 ∧ ∃ Q109 : zMem → Prop, zConV G mX10_reads d [.ref 132, .int (6 : Int32), .int v108] h106 Q109 ∧ (∀ h110, Q109 h110 → zSh2 h110 ∧ zg G mX10_line (d + 1) 399 [.ref 132, .int x1, zU, zU, zU] [] h110 (zPV Q)))) ∧ (¬ x1 = 0 → ¬ x1 = 1 → ¬ x1 = 2 → ¬ x1 = 3 → ¬ x1 = 4 → ¬ x1 = 5 → ¬ x1 = 6 → ∃ Q112 : zMem → Prop, zConV G mX10_lawLine d [.ref 132] h3 Q112 ∧ (∀ h113, Q112 h113 → zSh2 h113 ∧ zg G mX10_line (d + 1) 399 [.ref 132, .int x1, zU, zU, zU] [] h113 (zPV Q))))) ∧ (¬ (zI h 132 25) = 0 → Q h)) : zg G mX10_line (d + 1) 71 [.ref 132, .int x1, zU, zU, zU] [] h (zPV Q) := by
  refine z_aload_n 39 rfl rfl ?_
  refine z_getI 40 rfl lX10_214 rfl (zcl1.o hS 132 9 rfl rfl rfl) ?_
  refine z_if_eq 41 79 rfl (by decide) ⟨fun c1 => ?_, fun c1 => ?_⟩
  · have B := B.1 c1
    refine z_aload_n 43 rfl rfl ?_
    refine z_dup 44 rfl rfl ?_
    refine z_getI 45 rfl lX10_237 rfl (zcl1.o hS 132 9 rfl rfl rfl) ?_
    refine z_iconst (v := 1) 46 rfl (by decide) ?_
    refine z_iload_n 47 rfl rfl ?_
    refine z_ishl 48 rfl ?_
    refine z_ior 49 rfl ?_
    refine z_putI 50 rfl lX10_237 ⟨_, _, _, rfl, rfl⟩ rfl rfl rfl (zcl1.o hS 132 9 rfl rfl rfl) ?_
    refine z_aload_n 51 rfl rfl ?_
    obtain ⟨Q2, K4, B⟩ := B
    refine z_cVV0 (ν := mX10_token) 52 rfl rfl fX10_token gX10_220 ⟨_, rfl, rfl⟩ (by decide) (zcl1.o hS 132 9 rfl rfl rfl) (Nat.le_of_ble_eq_true rfl) K4 (fun h3 q => ?_)
    obtain ⟨hSh3, B⟩ := B h3 q
    refine z_iload_n 53 rfl rfl ?_
    by_cases c115_0 : x1 = 0
    · obtain ⟨B, -⟩ := B
      refine z_tableIn 54 140 rfl 0 (by rw [c115_0]; decide) (by decide) (by decide) rfl (by decide) ?_
      have B := B c115_0
      refine z_bipush (v := 6) 55 rfl (by decide) ?_
      refine z_aload_n 56 rfl rfl ?_
      refine z_iconst (v := 0) 57 rfl (by decide) ?_
      obtain ⟨Q5, K7, B⟩ := B
      refine z_cVI1 (ν := mX10_fresher) 58 rfl rfl fX10_fresher gX10_230 ⟨_, rfl, rfl⟩ (by decide) (zcl1.o hSh3 132 9 rfl rfl rfl) (Nat.le_of_ble_eq_true rfl) K7 (fun v8 h6 q => ?_)
      obtain ⟨hSh6, B⟩ := B v8 h6 q
      refine z_iadd 59 rfl ?_
      refine z_istore_n 60 rfl (by decide) rfl ?_
      refine z_aload_n 61 rfl rfl ?_
      refine z_getR 62 rfl lX10_16 rfl (zcl1.o hSh6 132 9 rfl rfl rfl) (zcl1.r hSh6 132 4 135 rfl rfl rfl) ?_
      refine z_iload_n 63 rfl rfl ?_
      refine z_aload_n 64 rfl rfl ?_
      refine z_aload_n 65 rfl rfl ?_
      refine z_getR 66 rfl lX10_16 rfl (zcl1.o hSh6 132 9 rfl rfl rfl) (zcl1.r hSh6 132 4 135 rfl rfl rfl) ?_
      refine z_bipush (v := 6) 67 rfl (by decide) ?_
      refine z_aload_n 68 rfl rfl ?_
      refine z_iconst (v := 0) 69 rfl (by decide) ?_
      obtain ⟨Q9, K11, B⟩ := B
      refine z_cVI1 (ν := mX10_fresher) 70 rfl rfl fX10_fresher gX10_230 ⟨_, rfl, rfl⟩ (by decide) (zcl1.o hSh6 132 9 rfl rfl rfl) (Nat.le_of_ble_eq_true rfl) K11 (fun v12 h10 q => ?_)
      obtain ⟨hSh10, B⟩ := B v12 h10 q
      obtain ⟨Q13, K15, B⟩ := B
      refine z_cVI3 (ν := mX10_fresh) 71 rfl rfl fX10_fresh gX10_240 ⟨_, rfl, rfl⟩ (by decide) (zcl1.o hSh10 132 9 rfl rfl rfl) (Nat.le_of_ble_eq_true rfl) K15 (fun v16 h14 q => ?_)
      obtain ⟨hSh14, B⟩ := B v16 h14 q
      obtain ⟨o17, B⟩ := B
      refine z_iast 72 rfl (zcl1.o hSh14 135 100 rfl rfl rfl) (zin (zcl1.l hSh14 135 12 rfl rfl rfl) o17) ?_
      refine z_aload_n 73 rfl rfl ?_
      refine z_getR 74 rfl lX10_19 rfl (zcl1.o hSh14 132 9 rfl rfl rfl) (zcl1.r hSh14 132 5 136 rfl rfl rfl) ?_
      refine z_iload_n 75 rfl rfl ?_
      refine z_aload_n 76 rfl rfl ?_
      refine z_iconst (v := 0) 77 rfl (by decide) ?_
      refine z_sipush (v := 999) 78 rfl (by decide) ?_
      obtain ⟨Q18, K20, B⟩ := B
      refine z_cVI2 (ν := mX10_numeral) 79 rfl rfl fX10_numeral gX10_244 ⟨_, rfl, rfl⟩ (by decide) (zcl1.o hSh14 132 9 rfl rfl rfl) (Nat.le_of_ble_eq_true rfl) K20 (fun v21 h19 q => ?_)
      obtain ⟨hSh19, B⟩ := B v21 h19 q
      refine z_iast 80 rfl (zcl1.o hSh19 136 100 rfl rfl rfl) (zin (zcl1.l hSh19 136 12 rfl rfl rfl) o17) ?_
      refine z_aload_n 81 rfl rfl ?_
      refine z_iconst (v := 0) 82 rfl (by decide) ?_
      refine z_aload_n 83 rfl rfl ?_
      refine z_iconst (v := 0) 84 rfl (by decide) ?_
      obtain ⟨Q22, K24, B⟩ := B
      refine z_cVI1 (ν := mX10_fresher) 85 rfl rfl fX10_fresher gX10_230 ⟨_, rfl, rfl⟩ (by decide) (zcl1.o hSh19 132 9 rfl rfl rfl) (Nat.le_of_ble_eq_true rfl) K24 (fun v25 h23 q => ?_)
      obtain ⟨hSh23, B⟩ := B v25 h23 q
      refine z_iconst (v := 1) 86 rfl (by decide) ?_
      refine z_iadd 87 rfl ?_
      obtain ⟨Q26, K28, B⟩ := B
      refine z_cVV2 (ν := mX10_reads) 88 rfl rfl fX10_reads gX10_248 ⟨_, rfl, rfl⟩ (by decide) (zcl1.o hSh23 132 9 rfl rfl rfl) (Nat.le_of_ble_eq_true rfl) K28 (fun h27 q => ?_)
      obtain ⟨hSh27, B⟩ := B h27 q
      refine z_goto 89 399 rfl (by decide) ?_
      refine z_drop 2 ?_
      exact B
    obtain ⟨-, B⟩ := B
    by_cases c115_1 : x1 = 1
    · obtain ⟨B, -⟩ := B
      refine z_tableIn 54 199 rfl 1 (by rw [c115_1]; decide) (by decide) (by decide) rfl (by decide) ?_
      have B := B c115_1
      refine z_aload_n 90 rfl rfl ?_
      refine z_bipush (v := 8) 91 rfl (by decide) ?_
      refine z_aload_n 92 rfl rfl ?_
      refine z_iconst (v := 1) 93 rfl (by decide) ?_
      obtain ⟨Q29, K31, B⟩ := B
      refine z_cVI1 (ν := mX10_fresher) 94 rfl rfl fX10_fresher gX10_230 ⟨_, rfl, rfl⟩ (by decide) (zcl1.o hSh3 132 9 rfl rfl rfl) (Nat.le_of_ble_eq_true rfl) K31 (fun v32 h30 q => ?_)
      obtain ⟨hSh30, B⟩ := B v32 h30 q
      refine z_iadd 95 rfl ?_
      obtain ⟨Q33, K35, B⟩ := B
      refine z_cVV1 (ν := mX10_dayLine) 96 rfl rfl fX10_dayLine gX10_252 ⟨_, rfl, rfl⟩ (by decide) (zcl1.o hSh30 132 9 rfl rfl rfl) (Nat.le_of_ble_eq_true rfl) K35 (fun h34 q => ?_)
      obtain ⟨hSh34, B⟩ := B h34 q
      refine z_goto 97 399 rfl (by decide) ?_
      exact B
    obtain ⟨-, B⟩ := B
    by_cases c115_2 : x1 = 2
    · obtain ⟨B, -⟩ := B
      refine z_tableIn 54 214 rfl 2 (by rw [c115_2]; decide) (by decide) (by decide) rfl (by decide) ?_
      have B := B c115_2
      refine z_aload_n 98 rfl rfl ?_
      obtain ⟨Q36, K38, B⟩ := B
      refine z_cVV0 (ν := mX10_mixLine) 99 rfl rfl fX10_mixLine gX10_255 ⟨_, rfl, rfl⟩ (by decide) (zcl1.o hSh3 132 9 rfl rfl rfl) (Nat.le_of_ble_eq_true rfl) K38 (fun h37 q => ?_)
      obtain ⟨hSh37, B⟩ := B h37 q
      refine z_goto 100 399 rfl (by decide) ?_
      exact B
    obtain ⟨-, B⟩ := B
    by_cases c115_3 : x1 = 3
    · obtain ⟨B, -⟩ := B
      refine z_tableIn 54 221 rfl 3 (by rw [c115_3]; decide) (by decide) (by decide) rfl (by decide) ?_
      have B := B c115_3
      refine z_bipush (v := 6) 101 rfl (by decide) ?_
      refine z_aload_n 102 rfl rfl ?_
      refine z_iconst (v := 3) 103 rfl (by decide) ?_
      obtain ⟨Q39, K41, B⟩ := B
      refine z_cVI1 (ν := mX10_fresher) 104 rfl rfl fX10_fresher gX10_230 ⟨_, rfl, rfl⟩ (by decide) (zcl1.o hSh3 132 9 rfl rfl rfl) (Nat.le_of_ble_eq_true rfl) K41 (fun v42 h40 q => ?_)
      obtain ⟨hSh40, B⟩ := B v42 h40 q
      refine z_iadd 105 rfl ?_
      refine z_istore_n 106 rfl (by decide) rfl ?_
      refine z_aload_n 107 rfl rfl ?_
      refine z_getR 108 rfl lX10_31 rfl (zcl1.o hSh40 132 9 rfl rfl rfl) (zcl1.r hSh40 132 9 140 rfl rfl rfl) ?_
      refine z_iload_n 109 rfl rfl ?_
      refine z_aload_n 110 rfl rfl ?_
      refine z_aload_n 111 rfl rfl ?_
      refine z_getR 112 rfl lX10_31 rfl (zcl1.o hSh40 132 9 rfl rfl rfl) (zcl1.r hSh40 132 9 140 rfl rfl rfl) ?_
      refine z_bipush (v := 6) 113 rfl (by decide) ?_
      refine z_aload_n 114 rfl rfl ?_
      refine z_iconst (v := 3) 115 rfl (by decide) ?_
      obtain ⟨Q43, K45, B⟩ := B
      refine z_cVI1 (ν := mX10_fresher) 116 rfl rfl fX10_fresher gX10_230 ⟨_, rfl, rfl⟩ (by decide) (zcl1.o hSh40 132 9 rfl rfl rfl) (Nat.le_of_ble_eq_true rfl) K45 (fun v46 h44 q => ?_)
      obtain ⟨hSh44, B⟩ := B v46 h44 q
      obtain ⟨Q47, K49, B⟩ := B
      refine z_cVI3 (ν := mX10_fresh) 117 rfl rfl fX10_fresh gX10_240 ⟨_, rfl, rfl⟩ (by decide) (zcl1.o hSh44 132 9 rfl rfl rfl) (Nat.le_of_ble_eq_true rfl) K49 (fun v50 h48 q => ?_)
      obtain ⟨hSh48, B⟩ := B v50 h48 q
      obtain ⟨o51, B⟩ := B
      refine z_iast 118 rfl (zcl1.o hSh48 140 100 rfl rfl rfl) (zin (zcl1.l hSh48 140 12 rfl rfl rfl) o51) ?_
      refine z_aload_n 119 rfl rfl ?_
      refine z_getR 120 rfl lX10_34 rfl (zcl1.o hSh48 132 9 rfl rfl rfl) (zcl1.r hSh48 132 10 141 rfl rfl rfl) ?_
      refine z_iload_n 121 rfl rfl ?_
      refine z_aload_n 122 rfl rfl ?_
      refine z_iconst (v := 0) 123 rfl (by decide) ?_
      refine z_bipush (v := 100) 124 rfl (by decide) ?_
      obtain ⟨Q52, K54, B⟩ := B
      refine z_cVI2 (ν := mX10_numeral) 125 rfl rfl fX10_numeral gX10_244 ⟨_, rfl, rfl⟩ (by decide) (zcl1.o hSh48 132 9 rfl rfl rfl) (Nat.le_of_ble_eq_true rfl) K54 (fun v55 h53 q => ?_)
      obtain ⟨hSh53, B⟩ := B v55 h53 q
      refine z_iast 126 rfl (zcl1.o hSh53 141 100 rfl rfl rfl) (zin (zcl1.l hSh53 141 12 rfl rfl rfl) o51) ?_
      refine z_aload_n 127 rfl rfl ?_
      refine z_iconst (v := 3) 128 rfl (by decide) ?_
      refine z_aload_n 129 rfl rfl ?_
      refine z_iconst (v := 3) 130 rfl (by decide) ?_
      obtain ⟨Q56, K58, B⟩ := B
      refine z_cVI1 (ν := mX10_fresher) 131 rfl rfl fX10_fresher gX10_230 ⟨_, rfl, rfl⟩ (by decide) (zcl1.o hSh53 132 9 rfl rfl rfl) (Nat.le_of_ble_eq_true rfl) K58 (fun v59 h57 q => ?_)
      obtain ⟨hSh57, B⟩ := B v59 h57 q
      refine z_iconst (v := 1) 132 rfl (by decide) ?_
      refine z_iadd 133 rfl ?_
      obtain ⟨Q60, K62, B⟩ := B
      refine z_cVV2 (ν := mX10_reads) 134 rfl rfl fX10_reads gX10_248 ⟨_, rfl, rfl⟩ (by decide) (zcl1.o hSh57 132 9 rfl rfl rfl) (Nat.le_of_ble_eq_true rfl) K62 (fun h61 q => ?_)
      obtain ⟨hSh61, B⟩ := B h61 q
      refine z_goto 135 399 rfl (by decide) ?_
      refine z_drop 3 ?_
      exact B
    obtain ⟨-, B⟩ := B
    by_cases c115_4 : x1 = 4
    · obtain ⟨B, -⟩ := B
      refine z_tableIn 54 279 rfl 4 (by rw [c115_4]; decide) (by decide) (by decide) rfl (by decide) ?_
      have B := B c115_4
      refine z_iconst (v := 5) 136 rfl (by decide) ?_
      refine z_aload_n 137 rfl rfl ?_
      refine z_iconst (v := 4) 138 rfl (by decide) ?_
      obtain ⟨Q63, K65, B⟩ := B
      refine z_cVI1 (ν := mX10_fresher) 139 rfl rfl fX10_fresher gX10_230 ⟨_, rfl, rfl⟩ (by decide) (zcl1.o hSh3 132 9 rfl rfl rfl) (Nat.le_of_ble_eq_true rfl) K65 (fun v66 h64 q => ?_)
      obtain ⟨hSh64, B⟩ := B v66 h64 q
      refine z_iadd 140 rfl ?_
      refine z_istore 141 rfl (by decide) rfl ?_
      refine z_aload_n 142 rfl rfl ?_
      refine z_getR 143 rfl lX10_37 rfl (zcl1.o hSh64 132 9 rfl rfl rfl) (zcl1.r hSh64 132 11 142 rfl rfl rfl) ?_
      refine z_iload 144 rfl rfl ?_
      refine z_aload_n 145 rfl rfl ?_
      refine z_aload_n 146 rfl rfl ?_
      refine z_getR 147 rfl lX10_37 rfl (zcl1.o hSh64 132 9 rfl rfl rfl) (zcl1.r hSh64 132 11 142 rfl rfl rfl) ?_
      refine z_iconst (v := 5) 148 rfl (by decide) ?_
      refine z_aload_n 149 rfl rfl ?_
      refine z_iconst (v := 4) 150 rfl (by decide) ?_
      obtain ⟨Q67, K69, B⟩ := B
      refine z_cVI1 (ν := mX10_fresher) 151 rfl rfl fX10_fresher gX10_230 ⟨_, rfl, rfl⟩ (by decide) (zcl1.o hSh64 132 9 rfl rfl rfl) (Nat.le_of_ble_eq_true rfl) K69 (fun v70 h68 q => ?_)
      obtain ⟨hSh68, B⟩ := B v70 h68 q
      obtain ⟨Q71, K73, B⟩ := B
      refine z_cVI3 (ν := mX10_fresh) 152 rfl rfl fX10_fresh gX10_240 ⟨_, rfl, rfl⟩ (by decide) (zcl1.o hSh68 132 9 rfl rfl rfl) (Nat.le_of_ble_eq_true rfl) K73 (fun v74 h72 q => ?_)
      obtain ⟨hSh72, B⟩ := B v74 h72 q
      obtain ⟨o75, B⟩ := B
      refine z_iast 153 rfl (zcl1.o hSh72 142 100 rfl rfl rfl) (zin (zcl1.l hSh72 142 10 rfl rfl rfl) o75) ?_
      refine z_aload_n 154 rfl rfl ?_
      refine z_getR 155 rfl lX10_40 rfl (zcl1.o hSh72 132 9 rfl rfl rfl) (zcl1.r hSh72 132 12 143 rfl rfl rfl) ?_
      refine z_iload 156 rfl rfl ?_
      refine z_aload_n 157 rfl rfl ?_
      refine z_aload_n 158 rfl rfl ?_
      refine z_getR 159 rfl lX10_31 rfl (zcl1.o hSh72 132 9 rfl rfl rfl) (zcl1.r hSh72 132 9 140 rfl rfl rfl) ?_
      refine z_bipush (v := 6) 160 rfl (by decide) ?_
      refine z_aload_n 161 rfl rfl ?_
      refine z_iconst (v := 3) 162 rfl (by decide) ?_
      obtain ⟨Q76, K78, B⟩ := B
      refine z_cVI1 (ν := mX10_fresher) 163 rfl rfl fX10_fresher gX10_230 ⟨_, rfl, rfl⟩ (by decide) (zcl1.o hSh72 132 9 rfl rfl rfl) (Nat.le_of_ble_eq_true rfl) K78 (fun v79 h77 q => ?_)
      obtain ⟨hSh77, B⟩ := B v79 h77 q
      obtain ⟨Q80, K82, B⟩ := B
      refine z_cVI3 (ν := mX10_toldAhead) 164 rfl rfl fX10_toldAhead gX10_258 ⟨_, rfl, rfl⟩ (by decide) (zcl1.o hSh77 132 9 rfl rfl rfl) (Nat.le_of_ble_eq_true rfl) K82 (fun v83 h81 q => ?_)
      obtain ⟨hSh81, B⟩ := B v83 h81 q
      refine z_iast 165 rfl (zcl1.o hSh81 143 100 rfl rfl rfl) (zin (zcl1.l hSh81 143 10 rfl rfl rfl) o75) ?_
      refine z_aload_n 166 rfl rfl ?_
      obtain ⟨Q84, K86, B⟩ := B
      refine z_cVV0 (ν := mX10_goOn) 167 rfl rfl fX10_goOn gX10_261 ⟨_, rfl, rfl⟩ (by decide) (zcl1.o hSh81 132 9 rfl rfl rfl) (Nat.le_of_ble_eq_true rfl) K86 (fun h85 q => ?_)
      obtain ⟨hSh85, B⟩ := B h85 q
      refine z_aload_n 168 rfl rfl ?_
      refine z_getR 169 rfl lX10_43 rfl (zcl1.o hSh85 132 9 rfl rfl rfl) (zcl1.r hSh85 132 13 144 rfl rfl rfl) ?_
      refine z_iload 170 rfl rfl ?_
      refine z_aload_n 171 rfl rfl ?_
      refine z_iconst (v := 1) 172 rfl (by decide) ?_
      refine z_bipush (v := 99) 173 rfl (by decide) ?_
      obtain ⟨Q87, K89, B⟩ := B
      refine z_cVI2 (ν := mX10_numeral) 174 rfl rfl fX10_numeral gX10_244 ⟨_, rfl, rfl⟩ (by decide) (zcl1.o hSh85 132 9 rfl rfl rfl) (Nat.le_of_ble_eq_true rfl) K89 (fun v90 h88 q => ?_)
      obtain ⟨hSh88, B⟩ := B v90 h88 q
      refine z_iast 175 rfl (zcl1.o hSh88 144 100 rfl rfl rfl) (zin (zcl1.l hSh88 144 10 rfl rfl rfl) o75) ?_
      refine z_aload_n 176 rfl rfl ?_
      refine z_iconst (v := 4) 177 rfl (by decide) ?_
      refine z_aload_n 178 rfl rfl ?_
      refine z_iconst (v := 4) 179 rfl (by decide) ?_
      obtain ⟨Q91, K93, B⟩ := B
      refine z_cVI1 (ν := mX10_fresher) 180 rfl rfl fX10_fresher gX10_230 ⟨_, rfl, rfl⟩ (by decide) (zcl1.o hSh88 132 9 rfl rfl rfl) (Nat.le_of_ble_eq_true rfl) K93 (fun v94 h92 q => ?_)
      obtain ⟨hSh92, B⟩ := B v94 h92 q
      refine z_iconst (v := 1) 181 rfl (by decide) ?_
      refine z_iadd 182 rfl ?_
      obtain ⟨Q95, K97, B⟩ := B
      refine z_cVV2 (ν := mX10_reads) 183 rfl rfl fX10_reads gX10_248 ⟨_, rfl, rfl⟩ (by decide) (zcl1.o hSh92 132 9 rfl rfl rfl) (Nat.le_of_ble_eq_true rfl) K97 (fun h96 q => ?_)
      obtain ⟨hSh96, B⟩ := B h96 q
      refine z_goto 184 399 rfl (by decide) ?_
      refine z_drop 4 ?_
      exact B
    obtain ⟨-, B⟩ := B
    by_cases c115_5 : x1 = 5
    · obtain ⟨B, -⟩ := B
      refine z_tableIn 54 364 rfl 5 (by rw [c115_5]; decide) (by decide) (by decide) rfl (by decide) ?_
      have B := B c115_5
      refine z_aload_n 185 rfl rfl ?_
      refine z_iconst (v := 5) 186 rfl (by decide) ?_
      refine z_aload_n 187 rfl rfl ?_
      refine z_iconst (v := 0) 188 rfl (by decide) ?_
      refine z_bipush (v := 100) 189 rfl (by decide) ?_
      obtain ⟨Q98, K100, B⟩ := B
      refine z_cVI2 (ν := mX10_numeral) 190 rfl rfl fX10_numeral gX10_244 ⟨_, rfl, rfl⟩ (by decide) (zcl1.o hSh3 132 9 rfl rfl rfl) (Nat.le_of_ble_eq_true rfl) K100 (fun v101 h99 q => ?_)
      obtain ⟨hSh99, B⟩ := B v101 h99 q
      obtain ⟨Q102, K104, B⟩ := B
      refine z_cVV2 (ν := mX10_reads) 191 rfl rfl fX10_reads gX10_248 ⟨_, rfl, rfl⟩ (by decide) (zcl1.o hSh99 132 9 rfl rfl rfl) (Nat.le_of_ble_eq_true rfl) K104 (fun h103 q => ?_)
      obtain ⟨hSh103, B⟩ := B h103 q
      refine z_goto 192 399 rfl (by decide) ?_
      exact B
    obtain ⟨-, B⟩ := B
    by_cases c115_6 : x1 = 6
    · obtain ⟨B, -⟩ := B
      refine z_tableIn 54 379 rfl 6 (by rw [c115_6]; decide) (by decide) (by decide) rfl (by decide) ?_
      have B := B c115_6
      refine z_aload_n 193 rfl rfl ?_
      refine z_bipush (v := 6) 194 rfl (by decide) ?_
      refine z_aload_n 195 rfl rfl ?_
      refine z_iconst (v := 0) 196 rfl (by decide) ?_
      refine z_ldc 197 rfl kX10_198 ?_
      obtain ⟨Q105, K107, B⟩ := B
      refine z_cVI2 (ν := mX10_numeral) 198 rfl rfl fX10_numeral gX10_244 ⟨_, rfl, rfl⟩ (by decide) (zcl1.o hSh3 132 9 rfl rfl rfl) (Nat.le_of_ble_eq_true rfl) K107 (fun v108 h106 q => ?_)
      obtain ⟨hSh106, B⟩ := B v108 h106 q
      obtain ⟨Q109, K111, B⟩ := B
      refine z_cVV2 (ν := mX10_reads) 199 rfl rfl fX10_reads gX10_248 ⟨_, rfl, rfl⟩ (by decide) (zcl1.o hSh106 132 9 rfl rfl rfl) (Nat.le_of_ble_eq_true rfl) K111 (fun h110 q => ?_)
      obtain ⟨hSh110, B⟩ := B h110 q
      refine z_goto 200 399 rfl (by decide) ?_
      exact B
    obtain ⟨-, B⟩ := B
    have B := B c115_0 c115_1 c115_2 c115_3 c115_4 c115_5 c115_6
    refine z_tableD 54 395 rfl (by decide) (by
      intro z1 z2
      refine zsw_X10_line_96 z1 z2 c115_0 c115_1 c115_2 c115_3 c115_4 c115_5 c115_6) ?_
    refine z_aload_n 201 rfl rfl ?_
    obtain ⟨Q112, K114, B⟩ := B
    refine z_cVV0 (ν := mX10_lawLine) 202 rfl rfl fX10_lawLine gX10_264 ⟨_, rfl, rfl⟩ (by decide) (zcl1.o hSh3 132 9 rfl rfl rfl) (Nat.le_of_ble_eq_true rfl) K114 (fun h113 q => ?_)
    obtain ⟨hSh113, B⟩ := B h113 q
    exact B
  · have B := B.2 c1
    exact z_vret 42 rfl rfl ⟨rfl, rfl⟩ ⟨rfl, B⟩
set_option maxRecDepth 100000 in
set_option maxHeartbeats 4000000 in
theorem sg_X10_line_399 {G : zG} {d : Nat} {h : zMem} {Q : zMem → Prop} {x1 : Int32} (hS : zSh2 h)  (B : ((zI h 132 25) = 0 → ∃ Q2 : Int32 → zMem → Prop, zConI G mX10_isSign d [.ref 132, .int (59 : Int32)] h Q2 ∧ (∀ v5 h3, Q2 v5 h3 → zSh2 h3 ∧ (¬ v5 = 0 → ∃ Q7 : zMem → Prop, zConV G mX10_token d [.ref 132] h3 Q7 ∧ (∀ h8, Q7 h8 → zSh2 h8 ∧ Q (zsI h8 132 19 ((zI h8 132 19) + (1 : Int32))))) ∧ (v5 = 0 → ∃ Q10 : zMem → Prop, zConV G mX10_wrong d [.ref 132, .int (1 : Int32)] h3 Q10 ∧ (∀ h11, Q10 h11 → zSh2 h11 ∧ Q (zsI h11 132 19 ((zI h11 132 19) + (1 : Int32))))))) ∧ (¬ (zI h 132 25) = 0 → Q h)) : zg G mX10_line (d + 1) 399 [.ref 132, .int x1, zU, zU, zU] [] h (zPV Q) := by
  refine z_aload_n 203 rfl rfl ?_
  refine z_getI 204 rfl lX10_214 rfl (zcl1.o hS 132 9 rfl rfl rfl) ?_
  refine z_if_eq 205 407 rfl (by decide) ⟨fun c1 => ?_, fun c1 => ?_⟩
  · have B := B.1 c1
    refine z_aload_n 207 rfl rfl ?_
    refine z_bipush (v := 59) 208 rfl (by decide) ?_
    obtain ⟨Q2, K4, B⟩ := B
    refine z_cVI1 (ν := mX10_isSign) 209 rfl rfl fX10_isSign gX10_267 ⟨_, rfl, rfl⟩ (by decide) (zcl1.o hS 132 9 rfl rfl rfl) (Nat.le_of_ble_eq_true rfl) K4 (fun v5 h3 q => ?_)
    obtain ⟨hSh3, B⟩ := B v5 h3 q
    refine z_if_ne 210 424 rfl (by decide) ⟨fun c6 => ?_, fun c6 => ?_⟩
    · have B := B.1 c6
      refine z_aload_n 215 rfl rfl ?_
      obtain ⟨Q7, K9, B⟩ := B
      refine z_cVV0 (ν := mX10_token) 216 rfl rfl fX10_token gX10_220 ⟨_, rfl, rfl⟩ (by decide) (zcl1.o hSh3 132 9 rfl rfl rfl) (Nat.le_of_ble_eq_true rfl) K9 (fun h8 q => ?_)
      obtain ⟨hSh8, B⟩ := B h8 q
      refine z_aload_n 217 rfl rfl ?_
      refine z_dup 218 rfl rfl ?_
      refine z_getI 219 rfl lX10_270 rfl (zcl1.o hSh8 132 9 rfl rfl rfl) ?_
      refine z_iconst (v := 1) 220 rfl (by decide) ?_
      refine z_iadd 221 rfl ?_
      refine z_putI 222 rfl lX10_270 ⟨_, _, _, rfl, rfl⟩ rfl rfl rfl (zcl1.o hSh8 132 9 rfl rfl rfl) ?_
      exact z_vret 223 rfl rfl ⟨rfl, rfl⟩ ⟨rfl, B⟩
    · have B := B.2 c6
      refine z_aload_n 211 rfl rfl ?_
      refine z_iconst (v := 1) 212 rfl (by decide) ?_
      obtain ⟨Q10, K12, B⟩ := B
      refine z_cVV1 (ν := mX10_wrong) 213 rfl rfl fX10_wrong gX10_223 ⟨_, rfl, rfl⟩ (by decide) (zcl1.o hSh3 132 9 rfl rfl rfl) (Nat.le_of_ble_eq_true rfl) K12 (fun h11 q => ?_)
      obtain ⟨hSh11, B⟩ := B h11 q
      refine z_goto 214 428 rfl (by decide) ?_
      refine z_aload_n 217 rfl rfl ?_
      refine z_dup 218 rfl rfl ?_
      refine z_getI 219 rfl lX10_270 rfl (zcl1.o hSh11 132 9 rfl rfl rfl) ?_
      refine z_iconst (v := 1) 220 rfl (by decide) ?_
      refine z_iadd 221 rfl ?_
      refine z_putI 222 rfl lX10_270 ⟨_, _, _, rfl, rfl⟩ rfl rfl rfl (zcl1.o hSh11 132 9 rfl rfl rfl) ?_
      exact z_vret 223 rfl rfl ⟨rfl, rfl⟩ ⟨rfl, B⟩
  · have B := B.2 c1
    exact z_vret 206 rfl rfl ⟨rfl, rfl⟩ ⟨rfl, B⟩
set_option maxRecDepth 100000 in
set_option maxHeartbeats 4000000 in
theorem sg_X10_toldAhead_0 {G : zG} {d : Nat} {h : zMem} {Q : Int32 → zMem → Prop} {a1 : Nat} {x2 : Int32} {x3 : Int32} (hS : zSh2 h)  (B : ((zI h 132 25) = 0 → ((zI h 132 23) = (1 : Int32) → ∃ Q3 : Int32 → zMem → Prop, zConI G mX10_found d [.ref a1, .int x2, .int x3, .int (zI h 132 24)] h Q3 ∧ (∀ v6 h4, Q3 v6 h4 → zSh2 h4 ∧ (¬ v6 = (-1 : Int32) → ((zI h4 132 25) = 0 → ∃ Q9 : Int32 → zMem → Prop, zConI G mX10_found d [.ref a1, .int x2, .int x3, .int (zI h4 132 24)] h4 Q9 ∧ (∀ v12 h10, Q9 v12 h10 → zSh2 h10 ∧ Q v12 h10)) ∧ (¬ (zI h4 132 25) = 0 → Q (0 : Int32) h4)) ∧ (v6 = (-1 : Int32) → ∃ Q13 : zMem → Prop, zConV G mX10_wrong d [.ref 132, .int (4 : Int32)] h4 Q13 ∧ (∀ h14, Q13 h14 → zSh2 h14 ∧ ((zI h14 132 25) = 0 → ∃ Q17 : Int32 → zMem → Prop, zConI G mX10_found d [.ref a1, .int x2, .int x3, .int (zI h14 132 24)] h14 Q17 ∧ (∀ v20 h18, Q17 v20 h18 → zSh2 h18 ∧ Q v20 h18)) ∧ (¬ (zI h14 132 25) = 0 → Q (0 : Int32) h14))))) ∧ (¬ (zI h 132 23) = (1 : Int32) → ∃ Q21 : zMem → Prop, zConV G mX10_wrong d [.ref 132, .int (1 : Int32)] h Q21 ∧ (∀ h22, Q21 h22 → zSh2 h22 ∧ ((zI h22 132 25) = 0 → ∃ Q25 : Int32 → zMem → Prop, zConI G mX10_found d [.ref a1, .int x2, .int x3, .int (zI h22 132 24)] h22 Q25 ∧ (∀ v28 h26, Q25 v28 h26 → zSh2 h26 ∧ Q v28 h26)) ∧ (¬ (zI h22 132 25) = 0 → Q (0 : Int32) h22)))) ∧ (¬ (zI h 132 25) = 0 → Q (0 : Int32) h)) : zg G mX10_toldAhead (d + 1) 0 [.ref 132, .ref a1, .int x2, .int x3] [] h (zPI Q) := by
  refine z_aload_n 0 rfl rfl ?_
  refine z_getI 1 rfl lX10_214 rfl (zcl1.o hS 132 9 rfl rfl rfl) ?_
  refine z_if_eq 2 9 rfl (by decide) ⟨fun c1 => ?_, fun c1 => ?_⟩
  · have B := B.1 c1
    refine z_aload_n 5 rfl rfl ?_
    refine z_getI 6 rfl lX10_179 rfl (zcl1.o hS 132 9 rfl rfl rfl) ?_
    refine z_iconst (v := 1) 7 rfl (by decide) ?_
    refine z_icmp_eq 8 25 rfl (by decide) ⟨fun c2 => ?_, fun c2 => ?_⟩
    · have B := B.1 c2
      refine z_aload_n 13 rfl rfl ?_
      refine z_iload_n 14 rfl rfl ?_
      refine z_iload_n 15 rfl rfl ?_
      refine z_aload_n 16 rfl rfl ?_
      refine z_getI 17 rfl lX10_189 rfl (zcl1.o hS 132 9 rfl rfl rfl) ?_
      obtain ⟨Q3, K5, B⟩ := B
      refine z_cSI4 (ν := mX10_found) 18 rfl rfl fX10_found gX10_226 (Nat.le_of_ble_eq_true rfl) K5 (fun v6 h4 q => ?_)
      obtain ⟨hSh4, B⟩ := B v6 h4 q
      refine z_iconst (v := -1) 19 rfl (by decide) ?_
      refine z_icmp_ne 20 44 rfl (by decide) ⟨fun c7 => ?_, fun c7 => ?_⟩
      · have B := B.1 c7
        refine z_aload_n 24 rfl rfl ?_
        refine z_getI 25 rfl lX10_214 rfl (zcl1.o hSh4 132 9 rfl rfl rfl) ?_
        refine z_if_eq 26 55 rfl (by decide) ⟨fun c8 => ?_, fun c8 => ?_⟩
        · have B := B.1 c8
          refine z_aload_n 29 rfl rfl ?_
          refine z_iload_n 30 rfl rfl ?_
          refine z_iload_n 31 rfl rfl ?_
          refine z_aload_n 32 rfl rfl ?_
          refine z_getI 33 rfl lX10_189 rfl (zcl1.o hSh4 132 9 rfl rfl rfl) ?_
          obtain ⟨Q9, K11, B⟩ := B
          refine z_cSI4 (ν := mX10_found) 34 rfl rfl fX10_found gX10_226 (Nat.le_of_ble_eq_true rfl) K11 (fun v12 h10 q => ?_)
          obtain ⟨hSh10, B⟩ := B v12 h10 q
          exact z_iret 35 rfl rfl rfl ⟨rfl, rfl⟩ ⟨_, rfl, B⟩
        · have B := B.2 c8
          refine z_iconst (v := 0) 27 rfl (by decide) ?_
          refine z_goto 28 65 rfl (by decide) ?_
          exact z_iret 35 rfl rfl rfl ⟨rfl, rfl⟩ ⟨_, rfl, B⟩
      · have B := B.2 c7
        refine z_aload_n 21 rfl rfl ?_
        refine z_iconst (v := 4) 22 rfl (by decide) ?_
        obtain ⟨Q13, K15, B⟩ := B
        refine z_cVV1 (ν := mX10_wrong) 23 rfl rfl fX10_wrong gX10_223 ⟨_, rfl, rfl⟩ (by decide) (zcl1.o hSh4 132 9 rfl rfl rfl) (Nat.le_of_ble_eq_true rfl) K15 (fun h14 q => ?_)
        obtain ⟨hSh14, B⟩ := B h14 q
        refine z_aload_n 24 rfl rfl ?_
        refine z_getI 25 rfl lX10_214 rfl (zcl1.o hSh14 132 9 rfl rfl rfl) ?_
        refine z_if_eq 26 55 rfl (by decide) ⟨fun c16 => ?_, fun c16 => ?_⟩
        · have B := B.1 c16
          refine z_aload_n 29 rfl rfl ?_
          refine z_iload_n 30 rfl rfl ?_
          refine z_iload_n 31 rfl rfl ?_
          refine z_aload_n 32 rfl rfl ?_
          refine z_getI 33 rfl lX10_189 rfl (zcl1.o hSh14 132 9 rfl rfl rfl) ?_
          obtain ⟨Q17, K19, B⟩ := B
          refine z_cSI4 (ν := mX10_found) 34 rfl rfl fX10_found gX10_226 (Nat.le_of_ble_eq_true rfl) K19 (fun v20 h18 q => ?_)
          obtain ⟨hSh18, B⟩ := B v20 h18 q
          exact z_iret 35 rfl rfl rfl ⟨rfl, rfl⟩ ⟨_, rfl, B⟩
        · have B := B.2 c16
          refine z_iconst (v := 0) 27 rfl (by decide) ?_
          refine z_goto 28 65 rfl (by decide) ?_
          exact z_iret 35 rfl rfl rfl ⟨rfl, rfl⟩ ⟨_, rfl, B⟩
    · have B := B.2 c2
      refine z_aload_n 9 rfl rfl ?_
      refine z_iconst (v := 1) 10 rfl (by decide) ?_
      obtain ⟨Q21, K23, B⟩ := B
      refine z_cVV1 (ν := mX10_wrong) 11 rfl rfl fX10_wrong gX10_223 ⟨_, rfl, rfl⟩ (by decide) (zcl1.o hS 132 9 rfl rfl rfl) (Nat.le_of_ble_eq_true rfl) K23 (fun h22 q => ?_)
      obtain ⟨hSh22, B⟩ := B h22 q
      refine z_goto 12 44 rfl (by decide) ?_
      refine z_aload_n 24 rfl rfl ?_
      refine z_getI 25 rfl lX10_214 rfl (zcl1.o hSh22 132 9 rfl rfl rfl) ?_
      refine z_if_eq 26 55 rfl (by decide) ⟨fun c24 => ?_, fun c24 => ?_⟩
      · have B := B.1 c24
        refine z_aload_n 29 rfl rfl ?_
        refine z_iload_n 30 rfl rfl ?_
        refine z_iload_n 31 rfl rfl ?_
        refine z_aload_n 32 rfl rfl ?_
        refine z_getI 33 rfl lX10_189 rfl (zcl1.o hSh22 132 9 rfl rfl rfl) ?_
        obtain ⟨Q25, K27, B⟩ := B
        refine z_cSI4 (ν := mX10_found) 34 rfl rfl fX10_found gX10_226 (Nat.le_of_ble_eq_true rfl) K27 (fun v28 h26 q => ?_)
        obtain ⟨hSh26, B⟩ := B v28 h26 q
        exact z_iret 35 rfl rfl rfl ⟨rfl, rfl⟩ ⟨_, rfl, B⟩
      · have B := B.2 c24
        refine z_iconst (v := 0) 27 rfl (by decide) ?_
        refine z_goto 28 65 rfl (by decide) ?_
        exact z_iret 35 rfl rfl rfl ⟨rfl, rfl⟩ ⟨_, rfl, B⟩
  · have B := B.2 c1
    refine z_iconst (v := 0) 3 rfl (by decide) ?_
    exact z_iret 4 rfl rfl rfl ⟨rfl, rfl⟩ ⟨_, rfl, B⟩
theorem cn_X10_toldAhead {G : zG} {d : Nat} {h : zMem} {Q : Int32 → zMem → Prop} {a1 : Nat} {x2 : Int32} {x3 : Int32} (B : zg G mX10_toldAhead (d + 1) 0 [.ref 132, .ref a1, .int x2, .int x3] [] h (zPI Q)) : zConI G mX10_toldAhead (d + 1) [.ref 132, .ref a1, .int x2, .int x3] h Q := zcon0 (by decide +kernel) eX10_toldAhead (Nat.le_of_ble_eq_true rfl) rfl B
set_option maxRecDepth 100000 in
set_option maxHeartbeats 4000000 in
theorem sg_X10_dayLine_0 {G : zG} {d : Nat} {h : zMem} {Q : zMem → Prop} {x1 : Int32} (hS : zSh2 h)  (B : ∃ Q1 : Int32 → zMem → Prop, zConI G mX10_fresher d [.ref 132, .int (1 : Int32)] h Q1 ∧ (∀ v4 h2, Q1 v4 h2 → zSh2 h2 ∧ ∃ Q5 : Int32 → zMem → Prop, zConI G mX10_fresh d [.ref 132, .ref 137, .int (8 : Int32), .int v4] h2 Q5 ∧ (∀ v8 h6, Q5 v8 h6 → zSh2 h6 ∧ vp_in x1 16 ∧ ((zI (zsI h6 137 x1.toNatClampNeg v8) 132 25) = 0 → ∃ Q11 : Int32 → zMem → Prop, zConI G mX10_isWord d [.ref 132, .int (8 : Int32)] (zsI h6 137 x1.toNatClampNeg v8) Q11 ∧ (∀ v14 h12, Q11 v14 h12 → zSh2 h12 ∧ (v14 = 0 → (¬ (zI (zsI h12 138 x1.toNatClampNeg (0 : Int32)) 138 x1.toNatClampNeg) = (1 : Int32) → zg G mX10_dayLine (d + 1) 65 [.ref 132, .int x1, .int (0 : Int32)] [] (zsI h12 138 x1.toNatClampNeg (0 : Int32)) (zPV Q)) ∧ ((zI (zsI h12 138 x1.toNatClampNeg (0 : Int32)) 138 x1.toNatClampNeg) = (1 : Int32) → ∃ Q17 : zMem → Prop, zConV G mX10_token d [.ref 132] (zsI h12 138 x1.toNatClampNeg (0 : Int32)) Q17 ∧ (∀ h18, Q17 h18 → zSh2 h18 ∧ zg G mX10_dayLine (d + 1) 65 [.ref 132, .int x1, .int (0 : Int32)] [] h18 (zPV Q)))) ∧ (¬ v14 = 0 → (¬ (zI (zsI h12 138 x1.toNatClampNeg (1 : Int32)) 138 x1.toNatClampNeg) = (1 : Int32) → zg G mX10_dayLine (d + 1) 65 [.ref 132, .int x1, .int (0 : Int32)] [] (zsI h12 138 x1.toNatClampNeg (1 : Int32)) (zPV Q)) ∧ ((zI (zsI h12 138 x1.toNatClampNeg (1 : Int32)) 138 x1.toNatClampNeg) = (1 : Int32) → ∃ Q21 : zMem → Prop, zConV G mX10_token d [.ref 132] (zsI h12 138 x1.toNatClampNeg (1 : Int32)) Q21 ∧ (∀ h22, Q21 h22 → zSh2 h22 ∧ zg G mX10_dayLine (d + 1) 65 [.ref 132, .int x1, .int (0 : Int32)] [] h22 (zPV Q)))))) ∧ (¬ (zI (zsI h6 137 x1.toNatClampNeg v8) 132 25) = 0 → Q (zsI h6 137 x1.toNatClampNeg v8))))) : zg G mX10_dayLine (d + 1) 0 [.ref 132, .int x1, zU] [] h (zPV Q) := by
  refine z_aload_n 0 rfl rfl ?_
  refine z_getR 1 rfl lX10_22 rfl (zcl1.o hS 132 9 rfl rfl rfl) (zcl1.r hS 132 6 137 rfl rfl rfl) ?_
  refine z_iload_n 2 rfl rfl ?_
  refine z_aload_n 3 rfl rfl ?_
  refine z_aload_n 4 rfl rfl ?_
  refine z_getR 5 rfl lX10_22 rfl (zcl1.o hS 132 9 rfl rfl rfl) (zcl1.r hS 132 6 137 rfl rfl rfl) ?_
  refine z_bipush (v := 8) 6 rfl (by decide) ?_
  refine z_aload_n 7 rfl rfl ?_
  refine z_iconst (v := 1) 8 rfl (by decide) ?_
  obtain ⟨Q1, K3, B⟩ := B
  refine z_cVI1 (ν := mX10_fresher) 9 rfl rfl fX10_fresher gX10_230 ⟨_, rfl, rfl⟩ (by decide) (zcl1.o hS 132 9 rfl rfl rfl) (Nat.le_of_ble_eq_true rfl) K3 (fun v4 h2 q => ?_)
  obtain ⟨hSh2, B⟩ := B v4 h2 q
  obtain ⟨Q5, K7, B⟩ := B
  refine z_cVI3 (ν := mX10_fresh) 10 rfl rfl fX10_fresh gX10_240 ⟨_, rfl, rfl⟩ (by decide) (zcl1.o hSh2 132 9 rfl rfl rfl) (Nat.le_of_ble_eq_true rfl) K7 (fun v8 h6 q => ?_)
  obtain ⟨hSh6, B⟩ := B v8 h6 q
  obtain ⟨o9, B⟩ := B
  refine z_iast 11 rfl (zcl1.o hSh6 137 100 rfl rfl rfl) (zin (zcl1.l hSh6 137 16 rfl rfl rfl) o9) ?_
  refine z_aload_n 12 rfl rfl ?_
  refine z_getI 13 rfl lX10_214 rfl (zcl1.o hSh6 132 9 rfl rfl rfl) ?_
  refine z_if_eq 14 29 rfl (by decide) ⟨fun c10 => ?_, fun c10 => ?_⟩
  · have B := B.1 c10
    refine z_aload_n 16 rfl rfl ?_
    refine z_getR 17 rfl lX10_25 rfl (zcl1.o hSh6 132 9 rfl rfl rfl) (zcl1.r hSh6 132 7 138 rfl rfl rfl) ?_
    refine z_iload_n 18 rfl rfl ?_
    refine z_aload_n 19 rfl rfl ?_
    refine z_bipush (v := 8) 20 rfl (by decide) ?_
    obtain ⟨Q11, K13, B⟩ := B
    refine z_cVI1 (ν := mX10_isWord) 21 rfl rfl fX10_isWord gX10_273 ⟨_, rfl, rfl⟩ (by decide) (zcl1.o hSh6 132 9 rfl rfl rfl) (Nat.le_of_ble_eq_true rfl) K13 (fun v14 h12 q => ?_)
    obtain ⟨hSh12, B⟩ := B v14 h12 q
    refine z_if_eq 22 47 rfl (by decide) ⟨fun c15 => ?_, fun c15 => ?_⟩
    · have B := B.1 c15
      refine z_iconst (v := 0) 25 rfl (by decide) ?_
      refine z_iast 26 rfl (zcl1.o hSh12 138 100 rfl rfl rfl) (zin (zcl1.l hSh12 138 16 rfl rfl rfl) o9) ?_
      refine z_aload_n 27 rfl rfl ?_
      refine z_getR 28 rfl lX10_25 rfl (zcl1.o hSh12 132 9 rfl rfl rfl) (zcl1.r hSh12 132 7 138 rfl rfl rfl) ?_
      refine z_iload_n 29 rfl rfl ?_
      refine z_iald 30 rfl (zcl1.o hSh12 138 100 rfl rfl rfl) (zin (zcl1.l hSh12 138 16 rfl rfl rfl) o9) ?_
      refine z_iconst (v := 1) 31 rfl (by decide) ?_
      refine z_icmp_ne 32 63 rfl (by decide) ⟨fun c16 => ?_, fun c16 => ?_⟩
      · have B := B.1 c16
        refine z_iconst (v := 0) 35 rfl (by decide) ?_
        refine z_istore_n 36 rfl (by decide) rfl ?_
        exact B
      · have B := B.2 c16
        refine z_aload_n 33 rfl rfl ?_
        obtain ⟨Q17, K19, B⟩ := B
        refine z_cVV0 (ν := mX10_token) 34 rfl rfl fX10_token gX10_220 ⟨_, rfl, rfl⟩ (by decide) (zcl1.o hSh12 132 9 rfl rfl rfl) (Nat.le_of_ble_eq_true rfl) K19 (fun h18 q => ?_)
        obtain ⟨hSh18, B⟩ := B h18 q
        refine z_iconst (v := 0) 35 rfl (by decide) ?_
        refine z_istore_n 36 rfl (by decide) rfl ?_
        exact B
    · have B := B.2 c15
      refine z_iconst (v := 1) 23 rfl (by decide) ?_
      refine z_goto 24 48 rfl (by decide) ?_
      refine z_iast 26 rfl (zcl1.o hSh12 138 100 rfl rfl rfl) (zin (zcl1.l hSh12 138 16 rfl rfl rfl) o9) ?_
      refine z_aload_n 27 rfl rfl ?_
      refine z_getR 28 rfl lX10_25 rfl (zcl1.o hSh12 132 9 rfl rfl rfl) (zcl1.r hSh12 132 7 138 rfl rfl rfl) ?_
      refine z_iload_n 29 rfl rfl ?_
      refine z_iald 30 rfl (zcl1.o hSh12 138 100 rfl rfl rfl) (zin (zcl1.l hSh12 138 16 rfl rfl rfl) o9) ?_
      refine z_iconst (v := 1) 31 rfl (by decide) ?_
      refine z_icmp_ne 32 63 rfl (by decide) ⟨fun c20 => ?_, fun c20 => ?_⟩
      · have B := B.1 c20
        refine z_iconst (v := 0) 35 rfl (by decide) ?_
        refine z_istore_n 36 rfl (by decide) rfl ?_
        exact B
      · have B := B.2 c20
        refine z_aload_n 33 rfl rfl ?_
        obtain ⟨Q21, K23, B⟩ := B
        refine z_cVV0 (ν := mX10_token) 34 rfl rfl fX10_token gX10_220 ⟨_, rfl, rfl⟩ (by decide) (zcl1.o hSh12 132 9 rfl rfl rfl) (Nat.le_of_ble_eq_true rfl) K23 (fun h22 q => ?_)
        obtain ⟨hSh22, B⟩ := B h22 q
        refine z_iconst (v := 0) 35 rfl (by decide) ?_
        refine z_istore_n 36 rfl (by decide) rfl ?_
        exact B
  · have B := B.2 c10
    exact z_vret 15 rfl rfl ⟨rfl, rfl⟩ ⟨rfl, B⟩
theorem cn_X10_dayLine {G : zG} {d : Nat} {h : zMem} {Q : zMem → Prop} {x1 : Int32} (B : zg G mX10_dayLine (d + 1) 0 [.ref 132, .int x1, zU] [] h (zPV Q)) : zConV G mX10_dayLine (d + 1) [.ref 132, .int x1] h Q := zcon0 (by decide +kernel) eX10_dayLine (Nat.le_of_ble_eq_true rfl) rfl B
set_option maxRecDepth 100000 in
set_option maxHeartbeats 4000000 in
theorem sg_X10_dayLine_65 {G : zG} {d : Nat} {h : zMem} {Q : zMem → Prop} {x1 : Int32} {x2 : Int32} (hS : zSh2 h)  (B : ((6 : Int32) ≤ x2 → ∃ Q2 : Int32 → zMem → Prop, zConI G mX10_fresher d [.ref 132, .int (1 : Int32)] h Q2 ∧ (∀ v5 h3, Q2 v5 h3 → zSh2 h3 ∧ ∃ Q6 : zMem → Prop, zConV G mX10_reads d [.ref 132, .int (1 : Int32), .int (v5 + (1 : Int32))] h3 Q6 ∧ (∀ h7, Q6 h7 → zSh2 h7 ∧ Q h7))) ∧ (¬ (6 : Int32) ≤ x2 → vp_in (((6 : Int32) * x1) + x2) 96 ∧ zg G mX10_dayLine (d + 1) 65 [.ref 132, .int x1, .int (x2 + 1)] [] (zsI h 139 (((6 : Int32) * x1) + x2).toNatClampNeg (0 : Int32)) (zPV Q))) : zg G mX10_dayLine (d + 1) 65 [.ref 132, .int x1, .int x2] [] h (zPV Q) := by
  refine z_iload_n 37 rfl rfl ?_
  refine z_bipush (v := 6) 38 rfl (by decide) ?_
  refine z_icmp_ge 39 89 rfl (by decide) ⟨fun c1 => ?_, fun c1 => ?_⟩
  · have B := B.1 c1
    refine z_aload_n 51 rfl rfl ?_
    refine z_iconst (v := 1) 52 rfl (by decide) ?_
    refine z_aload_n 53 rfl rfl ?_
    refine z_iconst (v := 1) 54 rfl (by decide) ?_
    obtain ⟨Q2, K4, B⟩ := B
    refine z_cVI1 (ν := mX10_fresher) 55 rfl rfl fX10_fresher gX10_230 ⟨_, rfl, rfl⟩ (by decide) (zcl1.o hS 132 9 rfl rfl rfl) (Nat.le_of_ble_eq_true rfl) K4 (fun v5 h3 q => ?_)
    obtain ⟨hSh3, B⟩ := B v5 h3 q
    refine z_iconst (v := 1) 56 rfl (by decide) ?_
    refine z_iadd 57 rfl ?_
    obtain ⟨Q6, K8, B⟩ := B
    refine z_cVV2 (ν := mX10_reads) 58 rfl rfl fX10_reads gX10_248 ⟨_, rfl, rfl⟩ (by decide) (zcl1.o hSh3 132 9 rfl rfl rfl) (Nat.le_of_ble_eq_true rfl) K8 (fun h7 q => ?_)
    obtain ⟨hSh7, B⟩ := B h7 q
    exact z_vret 59 rfl rfl ⟨rfl, rfl⟩ ⟨rfl, B⟩
  · have B := B.2 c1
    refine z_aload_n 40 rfl rfl ?_
    refine z_getR 41 rfl lX10_28 rfl (zcl1.o hS 132 9 rfl rfl rfl) (zcl1.r hS 132 8 139 rfl rfl rfl) ?_
    refine z_bipush (v := 6) 42 rfl (by decide) ?_
    refine z_iload_n 43 rfl rfl ?_
    refine z_imul 44 rfl ?_
    refine z_iload_n 45 rfl rfl ?_
    refine z_iadd 46 rfl ?_
    refine z_iconst (v := 0) 47 rfl (by decide) ?_
    obtain ⟨o9, B⟩ := B
    refine z_iast 48 rfl (zcl1.o hS 139 100 rfl rfl rfl) (zin (zcl1.l hS 139 96 rfl rfl rfl) o9) ?_
    refine z_iinc (v := 1) 49 rfl rfl (by decide) (by decide) rfl ?_
    refine z_goto 50 65 rfl (by decide) ?_
    exact B
set_option maxRecDepth 100000 in
set_option maxHeartbeats 4000000 in
theorem sg_X10_mixLine_0 {G : zG} {d : Nat} {h : zMem} {Q : zMem → Prop}  (hS : zSh2 h)  (B : ∃ Q1 : Int32 → zMem → Prop, zConI G mX10_fresher d [.ref 132, .int (1 : Int32)] h Q1 ∧ (∀ v4 h2, Q1 v4 h2 → zSh2 h2 ∧ ∃ Q5 : Int32 → zMem → Prop, zConI G mX10_toldAhead d [.ref 132, .ref 137, .int (8 : Int32), .int v4] h2 Q5 ∧ (∀ v8 h6, Q5 v8 h6 → zSh2 h6 ∧ ∃ Q9 : zMem → Prop, zConV G mX10_goOn d [.ref 132] h6 Q9 ∧ (∀ h10, Q9 h10 → zSh2 h10 ∧ ∃ Q12 : Int32 → zMem → Prop, zConI G mX10_fresher d [.ref 132, .int (0 : Int32)] h10 Q12 ∧ (∀ v15 h13, Q12 v15 h13 → zSh2 h13 ∧ ∃ Q16 : Int32 → zMem → Prop, zConI G mX10_toldAhead d [.ref 132, .ref 135, .int (6 : Int32), .int v15] h13 Q16 ∧ (∀ v19 h17, Q16 v19 h17 → zSh2 h17 ∧ (¬ (zI h17 132 25) = 0 → ∃ Q21 : zMem → Prop, zConV G mX10_goOn d [.ref 132] h17 Q21 ∧ (∀ h22, Q21 h22 → zSh2 h22 ∧ ∃ Q24 : Int32 → zMem → Prop, zConI G mX10_numeral d [.ref 132, .int (1 : Int32), .int (99 : Int32)] h22 Q24 ∧ (∀ v27 h25, Q24 v27 h25 → zSh2 h25 ∧ ((zI h25 132 25) = 0 → vp_in (((6 : Int32) * ((8 : Int32) + v8)) + v19) 96 ∧ ∃ Q30 : Int32 → zMem → Prop, zConI G mX10_fresher d [.ref 132, .int (2 : Int32)] (zsI h25 139 (((6 : Int32) * ((8 : Int32) + v8)) + v19).toNatClampNeg v27) Q30 ∧ (∀ v33 h31, Q30 v33 h31 → zSh2 h31 ∧ ∃ Q34 : zMem → Prop, zConV G mX10_reads d [.ref 132, .int (2 : Int32), .int (v33 + (1 : Int32))] h31 Q34 ∧ (∀ h35, Q34 h35 → zSh2 h35 ∧ Q h35))) ∧ (¬ (zI h25 132 25) = 0 → Q h25)))) ∧ ((zI h17 132 25) = 0 → vp_in (((6 : Int32) * ((8 : Int32) + v8)) + v19) 96 ∧ ((zI h17 139 (((6 : Int32) * ((8 : Int32) + v8)) + v19).toNatClampNeg) ≤ 0 → ∃ Q39 : zMem → Prop, zConV G mX10_goOn d [.ref 132] h17 Q39 ∧ (∀ h40, Q39 h40 → zSh2 h40 ∧ ∃ Q42 : Int32 → zMem → Prop, zConI G mX10_numeral d [.ref 132, .int (1 : Int32), .int (99 : Int32)] h40 Q42 ∧ (∀ v45 h43, Q42 v45 h43 → zSh2 h43 ∧ ((zI h43 132 25) = 0 → ∃ Q47 : Int32 → zMem → Prop, zConI G mX10_fresher d [.ref 132, .int (2 : Int32)] (zsI h43 139 (((6 : Int32) * ((8 : Int32) + v8)) + v19).toNatClampNeg v45) Q47 ∧ (∀ v50 h48, Q47 v50 h48 → zSh2 h48 ∧ ∃ Q51 : zMem → Prop, zConV G mX10_reads d [.ref 132, .int (2 : Int32), .int (v50 + (1 : Int32))] h48 Q51 ∧ (∀ h52, Q51 h52 → zSh2 h52 ∧ Q h52))) ∧ (¬ (zI h43 132 25) = 0 → Q h43)))) ∧ (¬ (zI h17 139 (((6 : Int32) * ((8 : Int32) + v8)) + v19).toNatClampNeg) ≤ 0 → ∃ Q54 : zMem → Prop, zConV G mX10_wrong d [.ref 132, .int (3 : Int32)] h17 Q54 ∧ (∀ h55, Q54 h55 → zSh2 h55 ∧ ∃ Q57 : zMem → Prop, zConV G mX10_goOn d [.ref 132] h55 Q57 ∧ (∀ h58, Q57 h58 → zSh2 h58 ∧ ∃ Q60 : Int32 → zMem → Prop, zConI G mX10_numeral d [.ref 132, .int (1 : Int32), .int (99 : Int32)] h58 Q60 ∧ (∀ v63 h61, Q60 v63 h61 → zSh2 h61 ∧ ((zI h61 132 25) = 0 → ∃ Q65 : Int32 → zMem → Prop, zConI G mX10_fresher d [.ref 132, .int (2 : Int32)] (zsI h61 139 (((6 : Int32) * ((8 : Int32) + v8)) + v19).toNatClampNeg v63) Q65 ∧ (∀ v68 h66, Q65 v68 h66 → zSh2 h66 ∧ ∃ Q69 : zMem → Prop, zConV G mX10_reads d [.ref 132, .int (2 : Int32), .int (v68 + (1 : Int32))] h66 Q69 ∧ (∀ h70, Q69 h70 → zSh2 h70 ∧ Q h70))) ∧ (¬ (zI h61 132 25) = 0 → Q h61)))))))))))) : zg G mX10_mixLine (d + 1) 0 [.ref 132, zU, zU, zU] [] h (zPV Q) := by
  refine z_bipush (v := 8) 0 rfl (by decide) ?_
  refine z_aload_n 1 rfl rfl ?_
  refine z_aload_n 2 rfl rfl ?_
  refine z_getR 3 rfl lX10_22 rfl (zcl1.o hS 132 9 rfl rfl rfl) (zcl1.r hS 132 6 137 rfl rfl rfl) ?_
  refine z_bipush (v := 8) 4 rfl (by decide) ?_
  refine z_aload_n 5 rfl rfl ?_
  refine z_iconst (v := 1) 6 rfl (by decide) ?_
  obtain ⟨Q1, K3, B⟩ := B
  refine z_cVI1 (ν := mX10_fresher) 7 rfl rfl fX10_fresher gX10_230 ⟨_, rfl, rfl⟩ (by decide) (zcl1.o hS 132 9 rfl rfl rfl) (Nat.le_of_ble_eq_true rfl) K3 (fun v4 h2 q => ?_)
  obtain ⟨hSh2, B⟩ := B v4 h2 q
  obtain ⟨Q5, K7, B⟩ := B
  refine z_cVI3 (ν := mX10_toldAhead) 8 rfl rfl fX10_toldAhead gX10_258 ⟨_, rfl, rfl⟩ (by decide) (zcl1.o hSh2 132 9 rfl rfl rfl) (Nat.le_of_ble_eq_true rfl) K7 (fun v8 h6 q => ?_)
  obtain ⟨hSh6, B⟩ := B v8 h6 q
  refine z_iadd 9 rfl ?_
  refine z_istore_n 10 rfl (by decide) rfl ?_
  refine z_aload_n 11 rfl rfl ?_
  obtain ⟨Q9, K11, B⟩ := B
  refine z_cVV0 (ν := mX10_goOn) 12 rfl rfl fX10_goOn gX10_261 ⟨_, rfl, rfl⟩ (by decide) (zcl1.o hSh6 132 9 rfl rfl rfl) (Nat.le_of_ble_eq_true rfl) K11 (fun h10 q => ?_)
  obtain ⟨hSh10, B⟩ := B h10 q
  refine z_aload_n 13 rfl rfl ?_
  refine z_aload_n 14 rfl rfl ?_
  refine z_getR 15 rfl lX10_16 rfl (zcl1.o hSh10 132 9 rfl rfl rfl) (zcl1.r hSh10 132 4 135 rfl rfl rfl) ?_
  refine z_bipush (v := 6) 16 rfl (by decide) ?_
  refine z_aload_n 17 rfl rfl ?_
  refine z_iconst (v := 0) 18 rfl (by decide) ?_
  obtain ⟨Q12, K14, B⟩ := B
  refine z_cVI1 (ν := mX10_fresher) 19 rfl rfl fX10_fresher gX10_230 ⟨_, rfl, rfl⟩ (by decide) (zcl1.o hSh10 132 9 rfl rfl rfl) (Nat.le_of_ble_eq_true rfl) K14 (fun v15 h13 q => ?_)
  obtain ⟨hSh13, B⟩ := B v15 h13 q
  obtain ⟨Q16, K18, B⟩ := B
  refine z_cVI3 (ν := mX10_toldAhead) 20 rfl rfl fX10_toldAhead gX10_258 ⟨_, rfl, rfl⟩ (by decide) (zcl1.o hSh13 132 9 rfl rfl rfl) (Nat.le_of_ble_eq_true rfl) K18 (fun v19 h17 q => ?_)
  obtain ⟨hSh17, B⟩ := B v19 h17 q
  refine z_istore_n 21 rfl (by decide) rfl ?_
  refine z_aload_n 22 rfl rfl ?_
  refine z_getI 23 rfl lX10_214 rfl (zcl1.o hSh17 132 9 rfl rfl rfl) ?_
  refine z_if_ne 24 65 rfl (by decide) ⟨fun c20 => ?_, fun c20 => ?_⟩
  · have B := B.1 c20
    refine z_aload_n 37 rfl rfl ?_
    obtain ⟨Q21, K23, B⟩ := B
    refine z_cVV0 (ν := mX10_goOn) 38 rfl rfl fX10_goOn gX10_261 ⟨_, rfl, rfl⟩ (by decide) (zcl1.o hSh17 132 9 rfl rfl rfl) (Nat.le_of_ble_eq_true rfl) K23 (fun h22 q => ?_)
    obtain ⟨hSh22, B⟩ := B h22 q
    refine z_aload_n 39 rfl rfl ?_
    refine z_iconst (v := 1) 40 rfl (by decide) ?_
    refine z_bipush (v := 99) 41 rfl (by decide) ?_
    obtain ⟨Q24, K26, B⟩ := B
    refine z_cVI2 (ν := mX10_numeral) 42 rfl rfl fX10_numeral gX10_244 ⟨_, rfl, rfl⟩ (by decide) (zcl1.o hSh22 132 9 rfl rfl rfl) (Nat.le_of_ble_eq_true rfl) K26 (fun v27 h25 q => ?_)
    obtain ⟨hSh25, B⟩ := B v27 h25 q
    refine z_istore_n 43 rfl (by decide) rfl ?_
    refine z_aload_n 44 rfl rfl ?_
    refine z_getI 45 rfl lX10_214 rfl (zcl1.o hSh25 132 9 rfl rfl rfl) ?_
    refine z_if_eq 46 85 rfl (by decide) ⟨fun c28 => ?_, fun c28 => ?_⟩
    · have B := B.1 c28
      refine z_aload_n 48 rfl rfl ?_
      refine z_getR 49 rfl lX10_28 rfl (zcl1.o hSh25 132 9 rfl rfl rfl) (zcl1.r hSh25 132 8 139 rfl rfl rfl) ?_
      refine z_bipush (v := 6) 50 rfl (by decide) ?_
      refine z_iload_n 51 rfl rfl ?_
      refine z_imul 52 rfl ?_
      refine z_iload_n 53 rfl rfl ?_
      refine z_iadd 54 rfl ?_
      refine z_iload_n 55 rfl rfl ?_
      obtain ⟨o29, B⟩ := B
      refine z_iast 56 rfl (zcl1.o hSh25 139 100 rfl rfl rfl) (zin (zcl1.l hSh25 139 96 rfl rfl rfl) o29) ?_
      refine z_aload_n 57 rfl rfl ?_
      refine z_iconst (v := 2) 58 rfl (by decide) ?_
      refine z_aload_n 59 rfl rfl ?_
      refine z_iconst (v := 2) 60 rfl (by decide) ?_
      obtain ⟨Q30, K32, B⟩ := B
      refine z_cVI1 (ν := mX10_fresher) 61 rfl rfl fX10_fresher gX10_230 ⟨_, rfl, rfl⟩ (by decide) (zcl1.o hSh25 132 9 rfl rfl rfl) (Nat.le_of_ble_eq_true rfl) K32 (fun v33 h31 q => ?_)
      obtain ⟨hSh31, B⟩ := B v33 h31 q
      refine z_iconst (v := 1) 62 rfl (by decide) ?_
      refine z_iadd 63 rfl ?_
      obtain ⟨Q34, K36, B⟩ := B
      refine z_cVV2 (ν := mX10_reads) 64 rfl rfl fX10_reads gX10_248 ⟨_, rfl, rfl⟩ (by decide) (zcl1.o hSh31 132 9 rfl rfl rfl) (Nat.le_of_ble_eq_true rfl) K36 (fun h35 q => ?_)
      obtain ⟨hSh35, B⟩ := B h35 q
      exact z_vret 65 rfl rfl ⟨rfl, rfl⟩ ⟨rfl, B⟩
    · have B := B.2 c28
      exact z_vret 47 rfl rfl ⟨rfl, rfl⟩ ⟨rfl, B⟩
  · have B := B.2 c20
    refine z_aload_n 25 rfl rfl ?_
    refine z_getR 26 rfl lX10_28 rfl (zcl1.o hSh17 132 9 rfl rfl rfl) (zcl1.r hSh17 132 8 139 rfl rfl rfl) ?_
    refine z_bipush (v := 6) 27 rfl (by decide) ?_
    refine z_iload_n 28 rfl rfl ?_
    refine z_imul 29 rfl ?_
    refine z_iload_n 30 rfl rfl ?_
    refine z_iadd 31 rfl ?_
    obtain ⟨o37, B⟩ := B
    refine z_iald 32 rfl (zcl1.o hSh17 139 100 rfl rfl rfl) (zin (zcl1.l hSh17 139 96 rfl rfl rfl) o37) ?_
    refine z_if_le 33 65 rfl (by decide) ⟨fun c38 => ?_, fun c38 => ?_⟩
    · have B := B.1 c38
      refine z_aload_n 37 rfl rfl ?_
      obtain ⟨Q39, K41, B⟩ := B
      refine z_cVV0 (ν := mX10_goOn) 38 rfl rfl fX10_goOn gX10_261 ⟨_, rfl, rfl⟩ (by decide) (zcl1.o hSh17 132 9 rfl rfl rfl) (Nat.le_of_ble_eq_true rfl) K41 (fun h40 q => ?_)
      obtain ⟨hSh40, B⟩ := B h40 q
      refine z_aload_n 39 rfl rfl ?_
      refine z_iconst (v := 1) 40 rfl (by decide) ?_
      refine z_bipush (v := 99) 41 rfl (by decide) ?_
      obtain ⟨Q42, K44, B⟩ := B
      refine z_cVI2 (ν := mX10_numeral) 42 rfl rfl fX10_numeral gX10_244 ⟨_, rfl, rfl⟩ (by decide) (zcl1.o hSh40 132 9 rfl rfl rfl) (Nat.le_of_ble_eq_true rfl) K44 (fun v45 h43 q => ?_)
      obtain ⟨hSh43, B⟩ := B v45 h43 q
      refine z_istore_n 43 rfl (by decide) rfl ?_
      refine z_aload_n 44 rfl rfl ?_
      refine z_getI 45 rfl lX10_214 rfl (zcl1.o hSh43 132 9 rfl rfl rfl) ?_
      refine z_if_eq 46 85 rfl (by decide) ⟨fun c46 => ?_, fun c46 => ?_⟩
      · have B := B.1 c46
        refine z_aload_n 48 rfl rfl ?_
        refine z_getR 49 rfl lX10_28 rfl (zcl1.o hSh43 132 9 rfl rfl rfl) (zcl1.r hSh43 132 8 139 rfl rfl rfl) ?_
        refine z_bipush (v := 6) 50 rfl (by decide) ?_
        refine z_iload_n 51 rfl rfl ?_
        refine z_imul 52 rfl ?_
        refine z_iload_n 53 rfl rfl ?_
        refine z_iadd 54 rfl ?_
        refine z_iload_n 55 rfl rfl ?_
        refine z_iast 56 rfl (zcl1.o hSh43 139 100 rfl rfl rfl) (zin (zcl1.l hSh43 139 96 rfl rfl rfl) o37) ?_
        refine z_aload_n 57 rfl rfl ?_
        refine z_iconst (v := 2) 58 rfl (by decide) ?_
        refine z_aload_n 59 rfl rfl ?_
        refine z_iconst (v := 2) 60 rfl (by decide) ?_
        obtain ⟨Q47, K49, B⟩ := B
        refine z_cVI1 (ν := mX10_fresher) 61 rfl rfl fX10_fresher gX10_230 ⟨_, rfl, rfl⟩ (by decide) (zcl1.o hSh43 132 9 rfl rfl rfl) (Nat.le_of_ble_eq_true rfl) K49 (fun v50 h48 q => ?_)
        obtain ⟨hSh48, B⟩ := B v50 h48 q
        refine z_iconst (v := 1) 62 rfl (by decide) ?_
        refine z_iadd 63 rfl ?_
        obtain ⟨Q51, K53, B⟩ := B
        refine z_cVV2 (ν := mX10_reads) 64 rfl rfl fX10_reads gX10_248 ⟨_, rfl, rfl⟩ (by decide) (zcl1.o hSh48 132 9 rfl rfl rfl) (Nat.le_of_ble_eq_true rfl) K53 (fun h52 q => ?_)
        obtain ⟨hSh52, B⟩ := B h52 q
        exact z_vret 65 rfl rfl ⟨rfl, rfl⟩ ⟨rfl, B⟩
      · have B := B.2 c46
        exact z_vret 47 rfl rfl ⟨rfl, rfl⟩ ⟨rfl, B⟩
    · have B := B.2 c38
      refine z_aload_n 34 rfl rfl ?_
      refine z_iconst (v := 3) 35 rfl (by decide) ?_
      obtain ⟨Q54, K56, B⟩ := B
      refine z_cVV1 (ν := mX10_wrong) 36 rfl rfl fX10_wrong gX10_223 ⟨_, rfl, rfl⟩ (by decide) (zcl1.o hSh17 132 9 rfl rfl rfl) (Nat.le_of_ble_eq_true rfl) K56 (fun h55 q => ?_)
      obtain ⟨hSh55, B⟩ := B h55 q
      refine z_aload_n 37 rfl rfl ?_
      obtain ⟨Q57, K59, B⟩ := B
      refine z_cVV0 (ν := mX10_goOn) 38 rfl rfl fX10_goOn gX10_261 ⟨_, rfl, rfl⟩ (by decide) (zcl1.o hSh55 132 9 rfl rfl rfl) (Nat.le_of_ble_eq_true rfl) K59 (fun h58 q => ?_)
      obtain ⟨hSh58, B⟩ := B h58 q
      refine z_aload_n 39 rfl rfl ?_
      refine z_iconst (v := 1) 40 rfl (by decide) ?_
      refine z_bipush (v := 99) 41 rfl (by decide) ?_
      obtain ⟨Q60, K62, B⟩ := B
      refine z_cVI2 (ν := mX10_numeral) 42 rfl rfl fX10_numeral gX10_244 ⟨_, rfl, rfl⟩ (by decide) (zcl1.o hSh58 132 9 rfl rfl rfl) (Nat.le_of_ble_eq_true rfl) K62 (fun v63 h61 q => ?_)
      obtain ⟨hSh61, B⟩ := B v63 h61 q
      refine z_istore_n 43 rfl (by decide) rfl ?_
      refine z_aload_n 44 rfl rfl ?_
      refine z_getI 45 rfl lX10_214 rfl (zcl1.o hSh61 132 9 rfl rfl rfl) ?_
      refine z_if_eq 46 85 rfl (by decide) ⟨fun c64 => ?_, fun c64 => ?_⟩
      · have B := B.1 c64
        refine z_aload_n 48 rfl rfl ?_
        refine z_getR 49 rfl lX10_28 rfl (zcl1.o hSh61 132 9 rfl rfl rfl) (zcl1.r hSh61 132 8 139 rfl rfl rfl) ?_
        refine z_bipush (v := 6) 50 rfl (by decide) ?_
        refine z_iload_n 51 rfl rfl ?_
        refine z_imul 52 rfl ?_
        refine z_iload_n 53 rfl rfl ?_
        refine z_iadd 54 rfl ?_
        refine z_iload_n 55 rfl rfl ?_
        refine z_iast 56 rfl (zcl1.o hSh61 139 100 rfl rfl rfl) (zin (zcl1.l hSh61 139 96 rfl rfl rfl) o37) ?_
        refine z_aload_n 57 rfl rfl ?_
        refine z_iconst (v := 2) 58 rfl (by decide) ?_
        refine z_aload_n 59 rfl rfl ?_
        refine z_iconst (v := 2) 60 rfl (by decide) ?_
        obtain ⟨Q65, K67, B⟩ := B
        refine z_cVI1 (ν := mX10_fresher) 61 rfl rfl fX10_fresher gX10_230 ⟨_, rfl, rfl⟩ (by decide) (zcl1.o hSh61 132 9 rfl rfl rfl) (Nat.le_of_ble_eq_true rfl) K67 (fun v68 h66 q => ?_)
        obtain ⟨hSh66, B⟩ := B v68 h66 q
        refine z_iconst (v := 1) 62 rfl (by decide) ?_
        refine z_iadd 63 rfl ?_
        obtain ⟨Q69, K71, B⟩ := B
        refine z_cVV2 (ν := mX10_reads) 64 rfl rfl fX10_reads gX10_248 ⟨_, rfl, rfl⟩ (by decide) (zcl1.o hSh66 132 9 rfl rfl rfl) (Nat.le_of_ble_eq_true rfl) K71 (fun h70 q => ?_)
        obtain ⟨hSh70, B⟩ := B h70 q
        exact z_vret 65 rfl rfl ⟨rfl, rfl⟩ ⟨rfl, B⟩
      · have B := B.2 c64
        exact z_vret 47 rfl rfl ⟨rfl, rfl⟩ ⟨rfl, B⟩
theorem cn_X10_mixLine {G : zG} {d : Nat} {h : zMem} {Q : zMem → Prop}  (B : zg G mX10_mixLine (d + 1) 0 [.ref 132, zU, zU, zU] [] h (zPV Q)) : zConV G mX10_mixLine (d + 1) [.ref 132] h Q := zcon0 (by decide +kernel) eX10_mixLine (Nat.le_of_ble_eq_true rfl) rfl B
set_option maxRecDepth 100000 in
set_option maxHeartbeats 4000000 in
theorem sg_X10_lawLine_0 {G : zG} {d : Nat} {h : zMem} {Q : zMem → Prop}  (hS : zSh2 h)  (B : (¬ (zI h 132 23) = 0 → ∃ Q2 : zMem → Prop, zConV G mX10_wrong d [.ref 132, .int (1 : Int32)] h Q2 ∧ (∀ h3, Q2 h3 → zSh2 h3 ∧ (¬ (zI h3 132 25) = 0 → zg G mX10_lawLine (d + 1) 65 [.ref 132, .int ((zI h3 132 24) - (9 : Int32))] [] h3 (zPV Q)) ∧ ((zI h3 132 25) = 0 → (¬ (((zI h3 132 18) >>> (((16 : Int32) + ((zI h3 132 24) - (9 : Int32))) &&& 31)) &&& (1 : Int32)) = (1 : Int32) → zg G mX10_lawLine (d + 1) 65 [.ref 132, .int ((zI h3 132 24) - (9 : Int32))] [] h3 (zPV Q)) ∧ ((((zI h3 132 18) >>> (((16 : Int32) + ((zI h3 132 24) - (9 : Int32))) &&& 31)) &&& (1 : Int32)) = (1 : Int32) → ∃ Q7 : zMem → Prop, zConV G mX10_wrong d [.ref 132, .int (3 : Int32)] h3 Q7 ∧ (∀ h8, Q7 h8 → zSh2 h8 ∧ zg G mX10_lawLine (d + 1) 65 [.ref 132, .int ((zI h3 132 24) - (9 : Int32))] [] h8 (zPV Q)))))) ∧ ((zI h 132 23) = 0 → ((zI h 132 24) < (9 : Int32) → ∃ Q11 : zMem → Prop, zConV G mX10_wrong d [.ref 132, .int (1 : Int32)] h Q11 ∧ (∀ h12, Q11 h12 → zSh2 h12 ∧ (¬ (zI h12 132 25) = 0 → zg G mX10_lawLine (d + 1) 65 [.ref 132, .int ((zI h12 132 24) - (9 : Int32))] [] h12 (zPV Q)) ∧ ((zI h12 132 25) = 0 → (¬ (((zI h12 132 18) >>> (((16 : Int32) + ((zI h12 132 24) - (9 : Int32))) &&& 31)) &&& (1 : Int32)) = (1 : Int32) → zg G mX10_lawLine (d + 1) 65 [.ref 132, .int ((zI h12 132 24) - (9 : Int32))] [] h12 (zPV Q)) ∧ ((((zI h12 132 18) >>> (((16 : Int32) + ((zI h12 132 24) - (9 : Int32))) &&& 31)) &&& (1 : Int32)) = (1 : Int32) → ∃ Q16 : zMem → Prop, zConV G mX10_wrong d [.ref 132, .int (3 : Int32)] h12 Q16 ∧ (∀ h17, Q16 h17 → zSh2 h17 ∧ zg G mX10_lawLine (d + 1) 65 [.ref 132, .int ((zI h12 132 24) - (9 : Int32))] [] h17 (zPV Q)))))) ∧ (¬ (zI h 132 24) < (9 : Int32) → ((zI h 132 24) ≤ (11 : Int32) → (¬ (zI h 132 25) = 0 → zg G mX10_lawLine (d + 1) 65 [.ref 132, .int ((zI h 132 24) - (9 : Int32))] [] h (zPV Q)) ∧ ((zI h 132 25) = 0 → (¬ (((zI h 132 18) >>> (((16 : Int32) + ((zI h 132 24) - (9 : Int32))) &&& 31)) &&& (1 : Int32)) = (1 : Int32) → zg G mX10_lawLine (d + 1) 65 [.ref 132, .int ((zI h 132 24) - (9 : Int32))] [] h (zPV Q)) ∧ ((((zI h 132 18) >>> (((16 : Int32) + ((zI h 132 24) - (9 : Int32))) &&& 31)) &&& (1 : Int32)) = (1 : Int32) → ∃ Q22 : zMem → Prop, zConV G mX10_wrong d [.ref 132, .int (3 : Int32)] h Q22 ∧ (∀ h23, Q22 h23 → zSh2 h23 ∧ zg G mX10_lawLine (d + 1) 65 [.ref 132, .int ((zI h 132 24) - (9 : Int32))] [] h23 (zPV Q))))) ∧ (¬ (zI h 132 24) ≤ (11 : Int32) → ∃ Q25 : zMem → Prop, zConV G mX10_wrong d [.ref 132, .int (1 : Int32)] h Q25 ∧ (∀ h26, Q25 h26 → zSh2 h26 ∧ (¬ (zI h26 132 25) = 0 → zg G mX10_lawLine (d + 1) 65 [.ref 132, .int ((zI h26 132 24) - (9 : Int32))] [] h26 (zPV Q)) ∧ ((zI h26 132 25) = 0 → (¬ (((zI h26 132 18) >>> (((16 : Int32) + ((zI h26 132 24) - (9 : Int32))) &&& 31)) &&& (1 : Int32)) = (1 : Int32) → zg G mX10_lawLine (d + 1) 65 [.ref 132, .int ((zI h26 132 24) - (9 : Int32))] [] h26 (zPV Q)) ∧ ((((zI h26 132 18) >>> (((16 : Int32) + ((zI h26 132 24) - (9 : Int32))) &&& 31)) &&& (1 : Int32)) = (1 : Int32) → ∃ Q30 : zMem → Prop, zConV G mX10_wrong d [.ref 132, .int (3 : Int32)] h26 Q30 ∧ (∀ h31, Q30 h31 → zSh2 h31 ∧ zg G mX10_lawLine (d + 1) 65 [.ref 132, .int ((zI h26 132 24) - (9 : Int32))] [] h31 (zPV Q))))))))) : zg G mX10_lawLine (d + 1) 0 [.ref 132, zU] [] h (zPV Q) := by
  refine z_aload_n 0 rfl rfl ?_
  refine z_getI 1 rfl lX10_179 rfl (zcl1.o hS 132 9 rfl rfl rfl) ?_
  refine z_if_ne 2 25 rfl (by decide) ⟨fun c1 => ?_, fun c1 => ?_⟩
  · have B := B.1 c1
    refine z_aload_n 11 rfl rfl ?_
    refine z_iconst (v := 1) 12 rfl (by decide) ?_
    obtain ⟨Q2, K4, B⟩ := B
    refine z_cVV1 (ν := mX10_wrong) 13 rfl rfl fX10_wrong gX10_223 ⟨_, rfl, rfl⟩ (by decide) (zcl1.o hS 132 9 rfl rfl rfl) (Nat.le_of_ble_eq_true rfl) K4 (fun h3 q => ?_)
    obtain ⟨hSh3, B⟩ := B h3 q
    refine z_aload_n 14 rfl rfl ?_
    refine z_getI 15 rfl lX10_189 rfl (zcl1.o hSh3 132 9 rfl rfl rfl) ?_
    refine z_bipush (v := 9) 16 rfl (by decide) ?_
    refine z_isub 17 rfl ?_
    refine z_istore_n 18 rfl (by decide) rfl ?_
    refine z_aload_n 19 rfl rfl ?_
    refine z_getI 20 rfl lX10_214 rfl (zcl1.o hSh3 132 9 rfl rfl rfl) ?_
    refine z_if_ne 21 65 rfl (by decide) ⟨fun c5 => ?_, fun c5 => ?_⟩
    · have B := B.1 c5
      exact B
    · have B := B.2 c5
      refine z_aload_n 22 rfl rfl ?_
      refine z_getI 23 rfl lX10_237 rfl (zcl1.o hSh3 132 9 rfl rfl rfl) ?_
      refine z_bipush (v := 16) 24 rfl (by decide) ?_
      refine z_iload_n 25 rfl rfl ?_
      refine z_iadd 26 rfl ?_
      refine z_ishr 27 rfl ?_
      refine z_iconst (v := 1) 28 rfl (by decide) ?_
      refine z_iand 29 rfl ?_
      refine z_iconst (v := 1) 30 rfl (by decide) ?_
      refine z_icmp_ne 31 65 rfl (by decide) ⟨fun c6 => ?_, fun c6 => ?_⟩
      · have B := B.1 c6
        exact B
      · have B := B.2 c6
        refine z_aload_n 32 rfl rfl ?_
        refine z_iconst (v := 3) 33 rfl (by decide) ?_
        obtain ⟨Q7, K9, B⟩ := B
        refine z_cVV1 (ν := mX10_wrong) 34 rfl rfl fX10_wrong gX10_223 ⟨_, rfl, rfl⟩ (by decide) (zcl1.o hSh3 132 9 rfl rfl rfl) (Nat.le_of_ble_eq_true rfl) K9 (fun h8 q => ?_)
        obtain ⟨hSh8, B⟩ := B h8 q
        exact B
  · have B := B.2 c1
    refine z_aload_n 3 rfl rfl ?_
    refine z_getI 4 rfl lX10_189 rfl (zcl1.o hS 132 9 rfl rfl rfl) ?_
    refine z_bipush (v := 9) 5 rfl (by decide) ?_
    refine z_icmp_lt 6 25 rfl (by decide) ⟨fun c10 => ?_, fun c10 => ?_⟩
    · have B := B.1 c10
      refine z_aload_n 11 rfl rfl ?_
      refine z_iconst (v := 1) 12 rfl (by decide) ?_
      obtain ⟨Q11, K13, B⟩ := B
      refine z_cVV1 (ν := mX10_wrong) 13 rfl rfl fX10_wrong gX10_223 ⟨_, rfl, rfl⟩ (by decide) (zcl1.o hS 132 9 rfl rfl rfl) (Nat.le_of_ble_eq_true rfl) K13 (fun h12 q => ?_)
      obtain ⟨hSh12, B⟩ := B h12 q
      refine z_aload_n 14 rfl rfl ?_
      refine z_getI 15 rfl lX10_189 rfl (zcl1.o hSh12 132 9 rfl rfl rfl) ?_
      refine z_bipush (v := 9) 16 rfl (by decide) ?_
      refine z_isub 17 rfl ?_
      refine z_istore_n 18 rfl (by decide) rfl ?_
      refine z_aload_n 19 rfl rfl ?_
      refine z_getI 20 rfl lX10_214 rfl (zcl1.o hSh12 132 9 rfl rfl rfl) ?_
      refine z_if_ne 21 65 rfl (by decide) ⟨fun c14 => ?_, fun c14 => ?_⟩
      · have B := B.1 c14
        exact B
      · have B := B.2 c14
        refine z_aload_n 22 rfl rfl ?_
        refine z_getI 23 rfl lX10_237 rfl (zcl1.o hSh12 132 9 rfl rfl rfl) ?_
        refine z_bipush (v := 16) 24 rfl (by decide) ?_
        refine z_iload_n 25 rfl rfl ?_
        refine z_iadd 26 rfl ?_
        refine z_ishr 27 rfl ?_
        refine z_iconst (v := 1) 28 rfl (by decide) ?_
        refine z_iand 29 rfl ?_
        refine z_iconst (v := 1) 30 rfl (by decide) ?_
        refine z_icmp_ne 31 65 rfl (by decide) ⟨fun c15 => ?_, fun c15 => ?_⟩
        · have B := B.1 c15
          exact B
        · have B := B.2 c15
          refine z_aload_n 32 rfl rfl ?_
          refine z_iconst (v := 3) 33 rfl (by decide) ?_
          obtain ⟨Q16, K18, B⟩ := B
          refine z_cVV1 (ν := mX10_wrong) 34 rfl rfl fX10_wrong gX10_223 ⟨_, rfl, rfl⟩ (by decide) (zcl1.o hSh12 132 9 rfl rfl rfl) (Nat.le_of_ble_eq_true rfl) K18 (fun h17 q => ?_)
          obtain ⟨hSh17, B⟩ := B h17 q
          exact B
    · have B := B.2 c10
      refine z_aload_n 7 rfl rfl ?_
      refine z_getI 8 rfl lX10_189 rfl (zcl1.o hS 132 9 rfl rfl rfl) ?_
      refine z_bipush (v := 11) 9 rfl (by decide) ?_
      refine z_icmp_le 10 30 rfl (by decide) ⟨fun c19 => ?_, fun c19 => ?_⟩
      · have B := B.1 c19
        refine z_aload_n 14 rfl rfl ?_
        refine z_getI 15 rfl lX10_189 rfl (zcl1.o hS 132 9 rfl rfl rfl) ?_
        refine z_bipush (v := 9) 16 rfl (by decide) ?_
        refine z_isub 17 rfl ?_
        refine z_istore_n 18 rfl (by decide) rfl ?_
        refine z_aload_n 19 rfl rfl ?_
        refine z_getI 20 rfl lX10_214 rfl (zcl1.o hS 132 9 rfl rfl rfl) ?_
        refine z_if_ne 21 65 rfl (by decide) ⟨fun c20 => ?_, fun c20 => ?_⟩
        · have B := B.1 c20
          exact B
        · have B := B.2 c20
          refine z_aload_n 22 rfl rfl ?_
          refine z_getI 23 rfl lX10_237 rfl (zcl1.o hS 132 9 rfl rfl rfl) ?_
          refine z_bipush (v := 16) 24 rfl (by decide) ?_
          refine z_iload_n 25 rfl rfl ?_
          refine z_iadd 26 rfl ?_
          refine z_ishr 27 rfl ?_
          refine z_iconst (v := 1) 28 rfl (by decide) ?_
          refine z_iand 29 rfl ?_
          refine z_iconst (v := 1) 30 rfl (by decide) ?_
          refine z_icmp_ne 31 65 rfl (by decide) ⟨fun c21 => ?_, fun c21 => ?_⟩
          · have B := B.1 c21
            exact B
          · have B := B.2 c21
            refine z_aload_n 32 rfl rfl ?_
            refine z_iconst (v := 3) 33 rfl (by decide) ?_
            obtain ⟨Q22, K24, B⟩ := B
            refine z_cVV1 (ν := mX10_wrong) 34 rfl rfl fX10_wrong gX10_223 ⟨_, rfl, rfl⟩ (by decide) (zcl1.o hS 132 9 rfl rfl rfl) (Nat.le_of_ble_eq_true rfl) K24 (fun h23 q => ?_)
            obtain ⟨hSh23, B⟩ := B h23 q
            exact B
      · have B := B.2 c19
        refine z_aload_n 11 rfl rfl ?_
        refine z_iconst (v := 1) 12 rfl (by decide) ?_
        obtain ⟨Q25, K27, B⟩ := B
        refine z_cVV1 (ν := mX10_wrong) 13 rfl rfl fX10_wrong gX10_223 ⟨_, rfl, rfl⟩ (by decide) (zcl1.o hS 132 9 rfl rfl rfl) (Nat.le_of_ble_eq_true rfl) K27 (fun h26 q => ?_)
        obtain ⟨hSh26, B⟩ := B h26 q
        refine z_aload_n 14 rfl rfl ?_
        refine z_getI 15 rfl lX10_189 rfl (zcl1.o hSh26 132 9 rfl rfl rfl) ?_
        refine z_bipush (v := 9) 16 rfl (by decide) ?_
        refine z_isub 17 rfl ?_
        refine z_istore_n 18 rfl (by decide) rfl ?_
        refine z_aload_n 19 rfl rfl ?_
        refine z_getI 20 rfl lX10_214 rfl (zcl1.o hSh26 132 9 rfl rfl rfl) ?_
        refine z_if_ne 21 65 rfl (by decide) ⟨fun c28 => ?_, fun c28 => ?_⟩
        · have B := B.1 c28
          exact B
        · have B := B.2 c28
          refine z_aload_n 22 rfl rfl ?_
          refine z_getI 23 rfl lX10_237 rfl (zcl1.o hSh26 132 9 rfl rfl rfl) ?_
          refine z_bipush (v := 16) 24 rfl (by decide) ?_
          refine z_iload_n 25 rfl rfl ?_
          refine z_iadd 26 rfl ?_
          refine z_ishr 27 rfl ?_
          refine z_iconst (v := 1) 28 rfl (by decide) ?_
          refine z_iand 29 rfl ?_
          refine z_iconst (v := 1) 30 rfl (by decide) ?_
          refine z_icmp_ne 31 65 rfl (by decide) ⟨fun c29 => ?_, fun c29 => ?_⟩
          · have B := B.1 c29
            exact B
          · have B := B.2 c29
            refine z_aload_n 32 rfl rfl ?_
            refine z_iconst (v := 3) 33 rfl (by decide) ?_
            obtain ⟨Q30, K32, B⟩ := B
            refine z_cVV1 (ν := mX10_wrong) 34 rfl rfl fX10_wrong gX10_223 ⟨_, rfl, rfl⟩ (by decide) (zcl1.o hSh26 132 9 rfl rfl rfl) (Nat.le_of_ble_eq_true rfl) K32 (fun h31 q => ?_)
            obtain ⟨hSh31, B⟩ := B h31 q
            exact B
theorem cn_X10_lawLine {G : zG} {d : Nat} {h : zMem} {Q : zMem → Prop}  (B : zg G mX10_lawLine (d + 1) 0 [.ref 132, zU] [] h (zPV Q)) : zConV G mX10_lawLine (d + 1) [.ref 132] h Q := zcon0 (by decide +kernel) eX10_lawLine (Nat.le_of_ble_eq_true rfl) rfl B
set_option maxRecDepth 100000 in
set_option maxHeartbeats 4000000 in
theorem sg_X10_lawLine_65 {G : zG} {d : Nat} {h : zMem} {Q : zMem → Prop} {x1 : Int32} (hS : zSh2 h)  (B : ((zI h 132 25) = 0 → ∃ Q2 : zMem → Prop, zConV G mX10_token d [.ref 132] (zsI h 132 18 ((zI h 132 18) ||| ((1 : Int32) <<< (((16 : Int32) + x1) &&& 31)))) Q2 ∧ (∀ h3, Q2 h3 → zSh2 h3 ∧ ∃ Q5 : Int32 → zMem → Prop, zConI G mX10_fresher d [.ref 132, .int (7 : Int32)] h3 Q5 ∧ (∀ v8 h6, Q5 v8 h6 → zSh2 h6 ∧ vp_in ((3 : Int32) + x1) 6 ∧ ∃ Q10 : zMem → Prop, zConV G mX10_expression d [.ref 132] (zsI h6 145 ((3 : Int32) + x1).toNatClampNeg v8) Q10 ∧ (∀ h11, Q10 h11 → zSh2 h11 ∧ ∃ Q13 : Int32 → zMem → Prop, zConI G mX10_fresher d [.ref 132, .int (7 : Int32)] h11 Q13 ∧ (∀ v16 h14, Q13 v16 h14 → zSh2 h14 ∧ Q (zsI h14 146 ((3 : Int32) + x1).toNatClampNeg v16)))))) ∧ (¬ (zI h 132 25) = 0 → Q h)) : zg G mX10_lawLine (d + 1) 65 [.ref 132, .int x1] [] h (zPV Q) := by
  refine z_aload_n 35 rfl rfl ?_
  refine z_getI 36 rfl lX10_214 rfl (zcl1.o hS 132 9 rfl rfl rfl) ?_
  refine z_if_eq 37 73 rfl (by decide) ⟨fun c1 => ?_, fun c1 => ?_⟩
  · have B := B.1 c1
    refine z_aload_n 39 rfl rfl ?_
    refine z_dup 40 rfl rfl ?_
    refine z_getI 41 rfl lX10_237 rfl (zcl1.o hS 132 9 rfl rfl rfl) ?_
    refine z_iconst (v := 1) 42 rfl (by decide) ?_
    refine z_bipush (v := 16) 43 rfl (by decide) ?_
    refine z_iload_n 44 rfl rfl ?_
    refine z_iadd 45 rfl ?_
    refine z_ishl 46 rfl ?_
    refine z_ior 47 rfl ?_
    refine z_putI 48 rfl lX10_237 ⟨_, _, _, rfl, rfl⟩ rfl rfl rfl (zcl1.o hS 132 9 rfl rfl rfl) ?_
    refine z_aload_n 49 rfl rfl ?_
    obtain ⟨Q2, K4, B⟩ := B
    refine z_cVV0 (ν := mX10_token) 50 rfl rfl fX10_token gX10_220 ⟨_, rfl, rfl⟩ (by decide) (zcl1.o hS 132 9 rfl rfl rfl) (Nat.le_of_ble_eq_true rfl) K4 (fun h3 q => ?_)
    obtain ⟨hSh3, B⟩ := B h3 q
    refine z_aload_n 51 rfl rfl ?_
    refine z_getR 52 rfl lX10_46 rfl (zcl1.o hSh3 132 9 rfl rfl rfl) (zcl1.r hSh3 132 14 145 rfl rfl rfl) ?_
    refine z_iconst (v := 3) 53 rfl (by decide) ?_
    refine z_iload_n 54 rfl rfl ?_
    refine z_iadd 55 rfl ?_
    refine z_aload_n 56 rfl rfl ?_
    refine z_bipush (v := 7) 57 rfl (by decide) ?_
    obtain ⟨Q5, K7, B⟩ := B
    refine z_cVI1 (ν := mX10_fresher) 58 rfl rfl fX10_fresher gX10_230 ⟨_, rfl, rfl⟩ (by decide) (zcl1.o hSh3 132 9 rfl rfl rfl) (Nat.le_of_ble_eq_true rfl) K7 (fun v8 h6 q => ?_)
    obtain ⟨hSh6, B⟩ := B v8 h6 q
    obtain ⟨o9, B⟩ := B
    refine z_iast 59 rfl (zcl1.o hSh6 145 100 rfl rfl rfl) (zin (zcl1.l hSh6 145 6 rfl rfl rfl) o9) ?_
    refine z_aload_n 60 rfl rfl ?_
    obtain ⟨Q10, K12, B⟩ := B
    refine z_cVV0 (ν := mX10_expression) 61 rfl rfl fX10_expression gX10_276 ⟨_, rfl, rfl⟩ (by decide) (zcl1.o hSh6 132 9 rfl rfl rfl) (Nat.le_of_ble_eq_true rfl) K12 (fun h11 q => ?_)
    obtain ⟨hSh11, B⟩ := B h11 q
    refine z_aload_n 62 rfl rfl ?_
    refine z_getR 63 rfl lX10_49 rfl (zcl1.o hSh11 132 9 rfl rfl rfl) (zcl1.r hSh11 132 15 146 rfl rfl rfl) ?_
    refine z_iconst (v := 3) 64 rfl (by decide) ?_
    refine z_iload_n 65 rfl rfl ?_
    refine z_iadd 66 rfl ?_
    refine z_aload_n 67 rfl rfl ?_
    refine z_bipush (v := 7) 68 rfl (by decide) ?_
    obtain ⟨Q13, K15, B⟩ := B
    refine z_cVI1 (ν := mX10_fresher) 69 rfl rfl fX10_fresher gX10_230 ⟨_, rfl, rfl⟩ (by decide) (zcl1.o hSh11 132 9 rfl rfl rfl) (Nat.le_of_ble_eq_true rfl) K15 (fun v16 h14 q => ?_)
    obtain ⟨hSh14, B⟩ := B v16 h14 q
    refine z_iast 70 rfl (zcl1.o hSh14 146 100 rfl rfl rfl) (zin (zcl1.l hSh14 146 6 rfl rfl rfl) o9) ?_
    exact z_vret 71 rfl rfl ⟨rfl, rfl⟩ ⟨rfl, B⟩
  · have B := B.2 c1
    exact z_vret 38 rfl rfl ⟨rfl, rfl⟩ ⟨rfl, B⟩
set_option maxRecDepth 100000 in
set_option maxHeartbeats 4000000 in
theorem sg_X10_puts_0 {G : zG} {d : Nat} {h : zMem} {Q : zMem → Prop} {x1 : Int32} {x2 : Int32} (hS : zSh2 h)  (B : ((zI h 132 25) = 0 → ∃ Q2 : Int32 → zMem → Prop, zConI G mX10_fresher d [.ref 132, .int (7 : Int32)] h Q2 ∧ (∀ v5 h3, Q2 v5 h3 → zSh2 h3 ∧ vp_in ((64 : Int32) + v5) 128 ∧ ∃ Q7 : Int32 → zMem → Prop, zConI G mX10_fresher d [.ref 132, .int (7 : Int32)] (zsI h3 147 ((64 : Int32) + v5).toNatClampNeg x1) Q7 ∧ (∀ v10 h8, Q7 v10 h8 → zSh2 h8 ∧ vp_in ((64 : Int32) + v10) 128 ∧ ∃ Q12 : Int32 → zMem → Prop, zConI G mX10_fresher d [.ref 132, .int (7 : Int32)] (zsI h8 148 ((64 : Int32) + v10).toNatClampNeg x2) Q12 ∧ (∀ v15 h13, Q12 v15 h13 → zSh2 h13 ∧ ∃ Q16 : zMem → Prop, zConV G mX10_reads d [.ref 132, .int (7 : Int32), .int (v15 + (1 : Int32))] h13 Q16 ∧ (∀ h17, Q16 h17 → zSh2 h17 ∧ Q h17))))) ∧ (¬ (zI h 132 25) = 0 → Q h)) : zg G mX10_puts (d + 1) 0 [.ref 132, .int x1, .int x2] [] h (zPV Q) := by
  refine z_aload_n 0 rfl rfl ?_
  refine z_getI 1 rfl lX10_214 rfl (zcl1.o hS 132 9 rfl rfl rfl) ?_
  refine z_if_eq 2 8 rfl (by decide) ⟨fun c1 => ?_, fun c1 => ?_⟩
  · have B := B.1 c1
    refine z_aload_n 4 rfl rfl ?_
    refine z_getR 5 rfl lX10_52 rfl (zcl1.o hS 132 9 rfl rfl rfl) (zcl1.r hS 132 16 147 rfl rfl rfl) ?_
    refine z_bipush (v := 64) 6 rfl (by decide) ?_
    refine z_aload_n 7 rfl rfl ?_
    refine z_bipush (v := 7) 8 rfl (by decide) ?_
    obtain ⟨Q2, K4, B⟩ := B
    refine z_cVI1 (ν := mX10_fresher) 9 rfl rfl fX10_fresher gX10_230 ⟨_, rfl, rfl⟩ (by decide) (zcl1.o hS 132 9 rfl rfl rfl) (Nat.le_of_ble_eq_true rfl) K4 (fun v5 h3 q => ?_)
    obtain ⟨hSh3, B⟩ := B v5 h3 q
    refine z_iadd 10 rfl ?_
    refine z_iload_n 11 rfl rfl ?_
    obtain ⟨o6, B⟩ := B
    refine z_iast 12 rfl (zcl1.o hSh3 147 100 rfl rfl rfl) (zin (zcl1.l hSh3 147 128 rfl rfl rfl) o6) ?_
    refine z_aload_n 13 rfl rfl ?_
    refine z_getR 14 rfl lX10_55 rfl (zcl1.o hSh3 132 9 rfl rfl rfl) (zcl1.r hSh3 132 17 148 rfl rfl rfl) ?_
    refine z_bipush (v := 64) 15 rfl (by decide) ?_
    refine z_aload_n 16 rfl rfl ?_
    refine z_bipush (v := 7) 17 rfl (by decide) ?_
    obtain ⟨Q7, K9, B⟩ := B
    refine z_cVI1 (ν := mX10_fresher) 18 rfl rfl fX10_fresher gX10_230 ⟨_, rfl, rfl⟩ (by decide) (zcl1.o hSh3 132 9 rfl rfl rfl) (Nat.le_of_ble_eq_true rfl) K9 (fun v10 h8 q => ?_)
    obtain ⟨hSh8, B⟩ := B v10 h8 q
    refine z_iadd 19 rfl ?_
    refine z_iload_n 20 rfl rfl ?_
    obtain ⟨o11, B⟩ := B
    refine z_iast 21 rfl (zcl1.o hSh8 148 100 rfl rfl rfl) (zin (zcl1.l hSh8 148 128 rfl rfl rfl) o11) ?_
    refine z_aload_n 22 rfl rfl ?_
    refine z_bipush (v := 7) 23 rfl (by decide) ?_
    refine z_aload_n 24 rfl rfl ?_
    refine z_bipush (v := 7) 25 rfl (by decide) ?_
    obtain ⟨Q12, K14, B⟩ := B
    refine z_cVI1 (ν := mX10_fresher) 26 rfl rfl fX10_fresher gX10_230 ⟨_, rfl, rfl⟩ (by decide) (zcl1.o hSh8 132 9 rfl rfl rfl) (Nat.le_of_ble_eq_true rfl) K14 (fun v15 h13 q => ?_)
    obtain ⟨hSh13, B⟩ := B v15 h13 q
    refine z_iconst (v := 1) 27 rfl (by decide) ?_
    refine z_iadd 28 rfl ?_
    obtain ⟨Q16, K18, B⟩ := B
    refine z_cVV2 (ν := mX10_reads) 29 rfl rfl fX10_reads gX10_248 ⟨_, rfl, rfl⟩ (by decide) (zcl1.o hSh13 132 9 rfl rfl rfl) (Nat.le_of_ble_eq_true rfl) K18 (fun h17 q => ?_)
    obtain ⟨hSh17, B⟩ := B h17 q
    exact z_vret 30 rfl rfl ⟨rfl, rfl⟩ ⟨rfl, B⟩
  · have B := B.2 c1
    exact z_vret 3 rfl rfl ⟨rfl, rfl⟩ ⟨rfl, B⟩
theorem cn_X10_puts {G : zG} {d : Nat} {h : zMem} {Q : zMem → Prop} {x1 : Int32} {x2 : Int32} (B : zg G mX10_puts (d + 1) 0 [.ref 132, .int x1, .int x2] [] h (zPV Q)) : zConV G mX10_puts (d + 1) [.ref 132, .int x1, .int x2] h Q := zcon0 (by decide +kernel) eX10_puts (Nat.le_of_ble_eq_true rfl) rfl B
set_option maxRecDepth 100000 in
set_option maxHeartbeats 4000000 in
theorem sg_X10_knot_0 {G : zG} {d : Nat} {h : zMem} {Q : zMem → Prop}  (hS : zSh2 h)  (B : ((zI h 132 25) = 0 → (¬ (zI h 132 30) = (64 : Int32) → Q (zsI h 132 30 ((zI h 132 30) + (1 : Int32)))) ∧ ((zI h 132 30) = (64 : Int32) → ∃ Q3 : zMem → Prop, zConV G mX10_wrong d [.ref 132, .int (2 : Int32)] h Q3 ∧ (∀ h4, Q3 h4 → zSh2 h4 ∧ Q h4))) ∧ (¬ (zI h 132 25) = 0 → Q h)) : zg G mX10_knot (d + 1) 0 [.ref 132] [] h (zPV Q) := by
  refine z_aload_n 0 rfl rfl ?_
  refine z_getI 1 rfl lX10_214 rfl (zcl1.o hS 132 9 rfl rfl rfl) ?_
  refine z_if_eq 2 8 rfl (by decide) ⟨fun c1 => ?_, fun c1 => ?_⟩
  · have B := B.1 c1
    refine z_aload_n 4 rfl rfl ?_
    refine z_getI 5 rfl lX10_279 rfl (zcl1.o hS 132 9 rfl rfl rfl) ?_
    refine z_bipush (v := 64) 6 rfl (by decide) ?_
    refine z_icmp_ne 7 25 rfl (by decide) ⟨fun c2 => ?_, fun c2 => ?_⟩
    · have B := B.1 c2
      refine z_aload_n 12 rfl rfl ?_
      refine z_dup 13 rfl rfl ?_
      refine z_getI 14 rfl lX10_279 rfl (zcl1.o hS 132 9 rfl rfl rfl) ?_
      refine z_iconst (v := 1) 15 rfl (by decide) ?_
      refine z_iadd 16 rfl ?_
      refine z_putI 17 rfl lX10_279 ⟨_, _, _, rfl, rfl⟩ rfl rfl rfl (zcl1.o hS 132 9 rfl rfl rfl) ?_
      exact z_vret 18 rfl rfl ⟨rfl, rfl⟩ ⟨rfl, B⟩
    · have B := B.2 c2
      refine z_aload_n 8 rfl rfl ?_
      refine z_iconst (v := 2) 9 rfl (by decide) ?_
      obtain ⟨Q3, K5, B⟩ := B
      refine z_cVV1 (ν := mX10_wrong) 10 rfl rfl fX10_wrong gX10_223 ⟨_, rfl, rfl⟩ (by decide) (zcl1.o hS 132 9 rfl rfl rfl) (Nat.le_of_ble_eq_true rfl) K5 (fun h4 q => ?_)
      obtain ⟨hSh4, B⟩ := B h4 q
      refine z_goto 11 35 rfl (by decide) ?_
      exact z_vret 18 rfl rfl ⟨rfl, rfl⟩ ⟨rfl, B⟩
  · have B := B.2 c1
    exact z_vret 3 rfl rfl ⟨rfl, rfl⟩ ⟨rfl, B⟩
theorem cn_X10_knot {G : zG} {d : Nat} {h : zMem} {Q : zMem → Prop}  (B : zg G mX10_knot (d + 1) 0 [.ref 132] [] h (zPV Q)) : zConV G mX10_knot (d + 1) [.ref 132] h Q := zcon0 (by decide +kernel) eX10_knot (Nat.le_of_ble_eq_true rfl) rfl B
set_option maxRecDepth 100000 in
set_option maxHeartbeats 4000000 in
theorem sg_X10_expression_0 {G : zG} {d : Nat} {h : zMem} {Q : zMem → Prop}  (hS : zSh2 h)  (B : ∃ Q1 : zMem → Prop, zConV G mX10_conjunction d [.ref 132] h Q1 ∧ (∀ h2, Q1 h2 → zSh2 h2 ∧ zg G mX10_expression (d + 1) 4 [.ref 132] [] h2 (zPV Q))) : zg G mX10_expression (d + 1) 0 [.ref 132] [] h (zPV Q) := by
  refine z_aload_n 0 rfl rfl ?_
  obtain ⟨Q1, K3, B⟩ := B
  refine z_cVV0 (ν := mX10_conjunction) 1 rfl rfl fX10_conjunction gX10_282 ⟨_, rfl, rfl⟩ (by decide) (zcl1.o hS 132 9 rfl rfl rfl) (Nat.le_of_ble_eq_true rfl) K3 (fun h2 q => ?_)
  obtain ⟨hSh2, B⟩ := B h2 q
  exact B
theorem cn_X10_expression {G : zG} {d : Nat} {h : zMem} {Q : zMem → Prop}  (B : zg G mX10_expression (d + 1) 0 [.ref 132] [] h (zPV Q)) : zConV G mX10_expression (d + 1) [.ref 132] h Q := zcon0 (by decide +kernel) eX10_expression (Nat.le_of_ble_eq_true rfl) rfl B
set_option maxRecDepth 100000 in
set_option maxHeartbeats 4000000 in
theorem sg_X10_expression_4 {G : zG} {d : Nat} {h : zMem} {Q : zMem → Prop}  (hS : zSh2 h)  (B : ∃ Q1 : Int32 → zMem → Prop, zConI G mX10_isWord d [.ref 132, .int (12 : Int32)] h Q1 ∧ (∀ v4 h2, Q1 v4 h2 → zSh2 h2 ∧ (v4 = 0 → Q h2) ∧ (¬ v4 = 0 → ∃ Q6 : zMem → Prop, zConV G mX10_knot d [.ref 132] h2 Q6 ∧ (∀ h7, Q6 h7 → zSh2 h7 ∧ ∃ Q9 : zMem → Prop, zConV G mX10_goOn d [.ref 132] h7 Q9 ∧ (∀ h10, Q9 h10 → zSh2 h10 ∧ ∃ Q12 : zMem → Prop, zConV G mX10_conjunction d [.ref 132] h10 Q12 ∧ (∀ h13, Q12 h13 → zSh2 h13 ∧ ∃ Q15 : zMem → Prop, zConV G mX10_puts d [.ref 132, .int (2 : Int32), .int (262 : Int32)] h13 Q15 ∧ (∀ h16, Q15 h16 → zSh2 h16 ∧ zg G mX10_expression (d + 1) 4 [.ref 132] [] h16 (zPV Q)))))))) : zg G mX10_expression (d + 1) 4 [.ref 132] [] h (zPV Q) := by
  refine z_aload_n 2 rfl rfl ?_
  refine z_bipush (v := 12) 3 rfl (by decide) ?_
  obtain ⟨Q1, K3, B⟩ := B
  refine z_cVI1 (ν := mX10_isWord) 4 rfl rfl fX10_isWord gX10_273 ⟨_, rfl, rfl⟩ (by decide) (zcl1.o hS 132 9 rfl rfl rfl) (Nat.le_of_ble_eq_true rfl) K3 (fun v4 h2 q => ?_)
  obtain ⟨hSh2, B⟩ := B v4 h2 q
  refine z_if_eq 5 36 rfl (by decide) ⟨fun c5 => ?_, fun c5 => ?_⟩
  · have B := B.1 c5
    exact z_vret 17 rfl rfl ⟨rfl, rfl⟩ ⟨rfl, B⟩
  · have B := B.2 c5
    refine z_aload_n 6 rfl rfl ?_
    obtain ⟨Q6, K8, B⟩ := B
    refine z_cVV0 (ν := mX10_knot) 7 rfl rfl fX10_knot gX10_285 ⟨_, rfl, rfl⟩ (by decide) (zcl1.o hSh2 132 9 rfl rfl rfl) (Nat.le_of_ble_eq_true rfl) K8 (fun h7 q => ?_)
    obtain ⟨hSh7, B⟩ := B h7 q
    refine z_aload_n 8 rfl rfl ?_
    obtain ⟨Q9, K11, B⟩ := B
    refine z_cVV0 (ν := mX10_goOn) 9 rfl rfl fX10_goOn gX10_261 ⟨_, rfl, rfl⟩ (by decide) (zcl1.o hSh7 132 9 rfl rfl rfl) (Nat.le_of_ble_eq_true rfl) K11 (fun h10 q => ?_)
    obtain ⟨hSh10, B⟩ := B h10 q
    refine z_aload_n 10 rfl rfl ?_
    obtain ⟨Q12, K14, B⟩ := B
    refine z_cVV0 (ν := mX10_conjunction) 11 rfl rfl fX10_conjunction gX10_282 ⟨_, rfl, rfl⟩ (by decide) (zcl1.o hSh10 132 9 rfl rfl rfl) (Nat.le_of_ble_eq_true rfl) K14 (fun h13 q => ?_)
    obtain ⟨hSh13, B⟩ := B h13 q
    refine z_aload_n 12 rfl rfl ?_
    refine z_iconst (v := 2) 13 rfl (by decide) ?_
    refine z_sipush (v := 262) 14 rfl (by decide) ?_
    obtain ⟨Q15, K17, B⟩ := B
    refine z_cVV2 (ν := mX10_puts) 15 rfl rfl fX10_puts gX10_288 ⟨_, rfl, rfl⟩ (by decide) (zcl1.o hSh13 132 9 rfl rfl rfl) (Nat.le_of_ble_eq_true rfl) K17 (fun h16 q => ?_)
    obtain ⟨hSh16, B⟩ := B h16 q
    refine z_goto 16 4 rfl (by decide) ?_
    exact B
set_option maxRecDepth 100000 in
set_option maxHeartbeats 4000000 in
theorem sg_X10_conjunction_0 {G : zG} {d : Nat} {h : zMem} {Q : zMem → Prop}  (hS : zSh2 h)  (B : ∃ Q1 : zMem → Prop, zConV G mX10_negation d [.ref 132] h Q1 ∧ (∀ h2, Q1 h2 → zSh2 h2 ∧ zg G mX10_conjunction (d + 1) 4 [.ref 132] [] h2 (zPV Q))) : zg G mX10_conjunction (d + 1) 0 [.ref 132] [] h (zPV Q) := by
  refine z_aload_n 0 rfl rfl ?_
  obtain ⟨Q1, K3, B⟩ := B
  refine z_cVV0 (ν := mX10_negation) 1 rfl rfl fX10_negation gX10_291 ⟨_, rfl, rfl⟩ (by decide) (zcl1.o hS 132 9 rfl rfl rfl) (Nat.le_of_ble_eq_true rfl) K3 (fun h2 q => ?_)
  obtain ⟨hSh2, B⟩ := B h2 q
  exact B
theorem cn_X10_conjunction {G : zG} {d : Nat} {h : zMem} {Q : zMem → Prop}  (B : zg G mX10_conjunction (d + 1) 0 [.ref 132] [] h (zPV Q)) : zConV G mX10_conjunction (d + 1) [.ref 132] h Q := zcon0 (by decide +kernel) eX10_conjunction (Nat.le_of_ble_eq_true rfl) rfl B
set_option maxRecDepth 100000 in
set_option maxHeartbeats 4000000 in
theorem sg_X10_conjunction_4 {G : zG} {d : Nat} {h : zMem} {Q : zMem → Prop}  (hS : zSh2 h)  (B : ∃ Q1 : Int32 → zMem → Prop, zConI G mX10_isWord d [.ref 132, .int (13 : Int32)] h Q1 ∧ (∀ v4 h2, Q1 v4 h2 → zSh2 h2 ∧ (v4 = 0 → Q h2) ∧ (¬ v4 = 0 → ∃ Q6 : zMem → Prop, zConV G mX10_knot d [.ref 132] h2 Q6 ∧ (∀ h7, Q6 h7 → zSh2 h7 ∧ ∃ Q9 : zMem → Prop, zConV G mX10_goOn d [.ref 132] h7 Q9 ∧ (∀ h10, Q9 h10 → zSh2 h10 ∧ ∃ Q12 : zMem → Prop, zConV G mX10_negation d [.ref 132] h10 Q12 ∧ (∀ h13, Q12 h13 → zSh2 h13 ∧ ∃ Q15 : zMem → Prop, zConV G mX10_puts d [.ref 132, .int (2 : Int32), .int (261 : Int32)] h13 Q15 ∧ (∀ h16, Q15 h16 → zSh2 h16 ∧ zg G mX10_conjunction (d + 1) 4 [.ref 132] [] h16 (zPV Q)))))))) : zg G mX10_conjunction (d + 1) 4 [.ref 132] [] h (zPV Q) := by
  refine z_aload_n 2 rfl rfl ?_
  refine z_bipush (v := 13) 3 rfl (by decide) ?_
  obtain ⟨Q1, K3, B⟩ := B
  refine z_cVI1 (ν := mX10_isWord) 4 rfl rfl fX10_isWord gX10_273 ⟨_, rfl, rfl⟩ (by decide) (zcl1.o hS 132 9 rfl rfl rfl) (Nat.le_of_ble_eq_true rfl) K3 (fun v4 h2 q => ?_)
  obtain ⟨hSh2, B⟩ := B v4 h2 q
  refine z_if_eq 5 36 rfl (by decide) ⟨fun c5 => ?_, fun c5 => ?_⟩
  · have B := B.1 c5
    exact z_vret 17 rfl rfl ⟨rfl, rfl⟩ ⟨rfl, B⟩
  · have B := B.2 c5
    refine z_aload_n 6 rfl rfl ?_
    obtain ⟨Q6, K8, B⟩ := B
    refine z_cVV0 (ν := mX10_knot) 7 rfl rfl fX10_knot gX10_285 ⟨_, rfl, rfl⟩ (by decide) (zcl1.o hSh2 132 9 rfl rfl rfl) (Nat.le_of_ble_eq_true rfl) K8 (fun h7 q => ?_)
    obtain ⟨hSh7, B⟩ := B h7 q
    refine z_aload_n 8 rfl rfl ?_
    obtain ⟨Q9, K11, B⟩ := B
    refine z_cVV0 (ν := mX10_goOn) 9 rfl rfl fX10_goOn gX10_261 ⟨_, rfl, rfl⟩ (by decide) (zcl1.o hSh7 132 9 rfl rfl rfl) (Nat.le_of_ble_eq_true rfl) K11 (fun h10 q => ?_)
    obtain ⟨hSh10, B⟩ := B h10 q
    refine z_aload_n 10 rfl rfl ?_
    obtain ⟨Q12, K14, B⟩ := B
    refine z_cVV0 (ν := mX10_negation) 11 rfl rfl fX10_negation gX10_291 ⟨_, rfl, rfl⟩ (by decide) (zcl1.o hSh10 132 9 rfl rfl rfl) (Nat.le_of_ble_eq_true rfl) K14 (fun h13 q => ?_)
    obtain ⟨hSh13, B⟩ := B h13 q
    refine z_aload_n 12 rfl rfl ?_
    refine z_iconst (v := 2) 13 rfl (by decide) ?_
    refine z_sipush (v := 261) 14 rfl (by decide) ?_
    obtain ⟨Q15, K17, B⟩ := B
    refine z_cVV2 (ν := mX10_puts) 15 rfl rfl fX10_puts gX10_288 ⟨_, rfl, rfl⟩ (by decide) (zcl1.o hSh13 132 9 rfl rfl rfl) (Nat.le_of_ble_eq_true rfl) K17 (fun h16 q => ?_)
    obtain ⟨hSh16, B⟩ := B h16 q
    refine z_goto 16 4 rfl (by decide) ?_
    exact B
set_option maxRecDepth 100000 in
set_option maxHeartbeats 4000000 in
theorem sg_X10_negation_0 {G : zG} {d : Nat} {h : zMem} {Q : zMem → Prop}  (hS : zSh2 h)  (B : ∃ Q1 : Int32 → zMem → Prop, zConI G mX10_isWord d [.ref 132, .int (14 : Int32)] h Q1 ∧ (∀ v4 h2, Q1 v4 h2 → zSh2 h2 ∧ (v4 = 0 → ∃ Q6 : zMem → Prop, zConV G mX10_sum d [.ref 132] h2 Q6 ∧ (∀ h7, Q6 h7 → zSh2 h7 ∧ (¬ (zI h7 132 25) = 0 → Q h7) ∧ ((zI h7 132 25) = 0 → (¬ (zI h7 132 23) = (3 : Int32) → Q h7) ∧ ((zI h7 132 23) = (3 : Int32) → ((zI h7 132 24) = (60 : Int32) → ∃ Q12 : zMem → Prop, zConV G mX10_knot d [.ref 132] h7 Q12 ∧ (∀ h13, Q12 h13 → zSh2 h13 ∧ ∃ Q15 : zMem → Prop, zConV G mX10_goOn d [.ref 132] h13 Q15 ∧ (∀ h16, Q15 h16 → zSh2 h16 ∧ ∃ Q18 : zMem → Prop, zConV G mX10_sum d [.ref 132] h16 Q18 ∧ (∀ h19, Q18 h19 → zSh2 h19 ∧ ∃ Q21 : zMem → Prop, zConV G mX10_puts d [.ref 132, .int (2 : Int32), .int (zI h7 132 24)] h19 Q21 ∧ (∀ h22, Q21 h22 → zSh2 h22 ∧ Q h22))))) ∧ (¬ (zI h7 132 24) = (60 : Int32) → ((zI h7 132 24) = (62 : Int32) → ∃ Q25 : zMem → Prop, zConV G mX10_knot d [.ref 132] h7 Q25 ∧ (∀ h26, Q25 h26 → zSh2 h26 ∧ ∃ Q28 : zMem → Prop, zConV G mX10_goOn d [.ref 132] h26 Q28 ∧ (∀ h29, Q28 h29 → zSh2 h29 ∧ ∃ Q31 : zMem → Prop, zConV G mX10_sum d [.ref 132] h29 Q31 ∧ (∀ h32, Q31 h32 → zSh2 h32 ∧ ∃ Q34 : zMem → Prop, zConV G mX10_puts d [.ref 132, .int (2 : Int32), .int (zI h7 132 24)] h32 Q34 ∧ (∀ h35, Q34 h35 → zSh2 h35 ∧ Q h35))))) ∧ (¬ (zI h7 132 24) = (62 : Int32) → ((zI h7 132 24) = (61 : Int32) → ∃ Q38 : zMem → Prop, zConV G mX10_knot d [.ref 132] h7 Q38 ∧ (∀ h39, Q38 h39 → zSh2 h39 ∧ ∃ Q41 : zMem → Prop, zConV G mX10_goOn d [.ref 132] h39 Q41 ∧ (∀ h42, Q41 h42 → zSh2 h42 ∧ ∃ Q44 : zMem → Prop, zConV G mX10_sum d [.ref 132] h42 Q44 ∧ (∀ h45, Q44 h45 → zSh2 h45 ∧ ∃ Q47 : zMem → Prop, zConV G mX10_puts d [.ref 132, .int (2 : Int32), .int (zI h7 132 24)] h45 Q47 ∧ (∀ h48, Q47 h48 → zSh2 h48 ∧ Q h48))))) ∧ (¬ (zI h7 132 24) = (61 : Int32) → ((256 : Int32) ≤ (zI h7 132 24) → ∃ Q51 : zMem → Prop, zConV G mX10_knot d [.ref 132] h7 Q51 ∧ (∀ h52, Q51 h52 → zSh2 h52 ∧ ∃ Q54 : zMem → Prop, zConV G mX10_goOn d [.ref 132] h52 Q54 ∧ (∀ h55, Q54 h55 → zSh2 h55 ∧ ∃ Q57 : zMem → Prop, zConV G mX10_sum d [.ref 132] h55 Q57 ∧ (∀ h58, Q57 h58 → zSh2 h58 ∧ ∃ Q60 : zMem → Prop, zConV G mX10_puts d [.ref 132, .int (2 : Int32), .int (zI h7 132 24)] h58 Q60 ∧ (∀ h61, Q60 h61 → zSh2 h61 ∧ Q h61))))) ∧ (¬ (256 : Int32) ≤ (zI h7 132 24) → Q h7)))))))) ∧ (¬ v4 = 0 → ∃ Q63 : zMem → Prop, zConV G mX10_knot d [.ref 132] h2 Q63 ∧ (∀ h64, Q63 h64 → zSh2 h64 ∧ ∃ Q66 : zMem → Prop, zConV G mX10_goOn d [.ref 132] h64 Q66 ∧ (∀ h67, Q66 h67 → zSh2 h67 ∧ ∃ Q69 : zMem → Prop, zConV G mX10_negation d [.ref 132] h67 Q69 ∧ (∀ h70, Q69 h70 → zSh2 h70 ∧ ∃ Q72 : zMem → Prop, zConV G mX10_puts d [.ref 132, .int (2 : Int32), .int (260 : Int32)] h70 Q72 ∧ (∀ h73, Q72 h73 → zSh2 h73 ∧ Q h73))))))) : zg G mX10_negation (d + 1) 0 [.ref 132, zU] [] h (zPV Q) := by
  refine z_aload_n 0 rfl rfl ?_
  refine z_bipush (v := 14) 1 rfl (by decide) ?_
  obtain ⟨Q1, K3, B⟩ := B
  refine z_cVI1 (ν := mX10_isWord) 2 rfl rfl fX10_isWord gX10_273 ⟨_, rfl, rfl⟩ (by decide) (zcl1.o hS 132 9 rfl rfl rfl) (Nat.le_of_ble_eq_true rfl) K3 (fun v4 h2 q => ?_)
  obtain ⟨hSh2, B⟩ := B v4 h2 q
  refine z_if_eq 3 30 rfl (by decide) ⟨fun c5 => ?_, fun c5 => ?_⟩
  · have B := B.1 c5
    refine z_aload_n 15 rfl rfl ?_
    obtain ⟨Q6, K8, B⟩ := B
    refine z_cVV0 (ν := mX10_sum) 16 rfl rfl fX10_sum gX10_294 ⟨_, rfl, rfl⟩ (by decide) (zcl1.o hSh2 132 9 rfl rfl rfl) (Nat.le_of_ble_eq_true rfl) K8 (fun h7 q => ?_)
    obtain ⟨hSh7, B⟩ := B h7 q
    refine z_aload_n 17 rfl rfl ?_
    refine z_getI 18 rfl lX10_214 rfl (zcl1.o hSh7 132 9 rfl rfl rfl) ?_
    refine z_if_ne 19 86 rfl (by decide) ⟨fun c9 => ?_, fun c9 => ?_⟩
    · have B := B.1 c9
      exact z_vret 40 rfl rfl ⟨rfl, rfl⟩ ⟨rfl, B⟩
    · have B := B.2 c9
      refine z_aload_n 20 rfl rfl ?_
      refine z_getI 21 rfl lX10_179 rfl (zcl1.o hSh7 132 9 rfl rfl rfl) ?_
      refine z_iconst (v := 3) 22 rfl (by decide) ?_
      refine z_icmp_ne 23 86 rfl (by decide) ⟨fun c10 => ?_, fun c10 => ?_⟩
      · have B := B.1 c10
        exact z_vret 40 rfl rfl ⟨rfl, rfl⟩ ⟨rfl, B⟩
      · have B := B.2 c10
        refine z_aload_n 24 rfl rfl ?_
        refine z_getI 25 rfl lX10_189 rfl (zcl1.o hSh7 132 9 rfl rfl rfl) ?_
        refine z_bipush (v := 60) 26 rfl (by decide) ?_
        refine z_icmp_eq 27 87 rfl (by decide) ⟨fun c11 => ?_, fun c11 => ?_⟩
        · have B := B.1 c11
          refine z_aload_n 41 rfl rfl ?_
          refine z_getI 42 rfl lX10_189 rfl (zcl1.o hSh7 132 9 rfl rfl rfl) ?_
          refine z_istore_n 43 rfl (by decide) rfl ?_
          refine z_aload_n 44 rfl rfl ?_
          obtain ⟨Q12, K14, B⟩ := B
          refine z_cVV0 (ν := mX10_knot) 45 rfl rfl fX10_knot gX10_285 ⟨_, rfl, rfl⟩ (by decide) (zcl1.o hSh7 132 9 rfl rfl rfl) (Nat.le_of_ble_eq_true rfl) K14 (fun h13 q => ?_)
          obtain ⟨hSh13, B⟩ := B h13 q
          refine z_aload_n 46 rfl rfl ?_
          obtain ⟨Q15, K17, B⟩ := B
          refine z_cVV0 (ν := mX10_goOn) 47 rfl rfl fX10_goOn gX10_261 ⟨_, rfl, rfl⟩ (by decide) (zcl1.o hSh13 132 9 rfl rfl rfl) (Nat.le_of_ble_eq_true rfl) K17 (fun h16 q => ?_)
          obtain ⟨hSh16, B⟩ := B h16 q
          refine z_aload_n 48 rfl rfl ?_
          obtain ⟨Q18, K20, B⟩ := B
          refine z_cVV0 (ν := mX10_sum) 49 rfl rfl fX10_sum gX10_294 ⟨_, rfl, rfl⟩ (by decide) (zcl1.o hSh16 132 9 rfl rfl rfl) (Nat.le_of_ble_eq_true rfl) K20 (fun h19 q => ?_)
          obtain ⟨hSh19, B⟩ := B h19 q
          refine z_aload_n 50 rfl rfl ?_
          refine z_iconst (v := 2) 51 rfl (by decide) ?_
          refine z_iload_n 52 rfl rfl ?_
          obtain ⟨Q21, K23, B⟩ := B
          refine z_cVV2 (ν := mX10_puts) 53 rfl rfl fX10_puts gX10_288 ⟨_, rfl, rfl⟩ (by decide) (zcl1.o hSh19 132 9 rfl rfl rfl) (Nat.le_of_ble_eq_true rfl) K23 (fun h22 q => ?_)
          obtain ⟨hSh22, B⟩ := B h22 q
          exact z_vret 54 rfl rfl ⟨rfl, rfl⟩ ⟨rfl, B⟩
        · have B := B.2 c11
          refine z_aload_n 28 rfl rfl ?_
          refine z_getI 29 rfl lX10_189 rfl (zcl1.o hSh7 132 9 rfl rfl rfl) ?_
          refine z_bipush (v := 62) 30 rfl (by decide) ?_
          refine z_icmp_eq 31 87 rfl (by decide) ⟨fun c24 => ?_, fun c24 => ?_⟩
          · have B := B.1 c24
            refine z_aload_n 41 rfl rfl ?_
            refine z_getI 42 rfl lX10_189 rfl (zcl1.o hSh7 132 9 rfl rfl rfl) ?_
            refine z_istore_n 43 rfl (by decide) rfl ?_
            refine z_aload_n 44 rfl rfl ?_
            obtain ⟨Q25, K27, B⟩ := B
            refine z_cVV0 (ν := mX10_knot) 45 rfl rfl fX10_knot gX10_285 ⟨_, rfl, rfl⟩ (by decide) (zcl1.o hSh7 132 9 rfl rfl rfl) (Nat.le_of_ble_eq_true rfl) K27 (fun h26 q => ?_)
            obtain ⟨hSh26, B⟩ := B h26 q
            refine z_aload_n 46 rfl rfl ?_
            obtain ⟨Q28, K30, B⟩ := B
            refine z_cVV0 (ν := mX10_goOn) 47 rfl rfl fX10_goOn gX10_261 ⟨_, rfl, rfl⟩ (by decide) (zcl1.o hSh26 132 9 rfl rfl rfl) (Nat.le_of_ble_eq_true rfl) K30 (fun h29 q => ?_)
            obtain ⟨hSh29, B⟩ := B h29 q
            refine z_aload_n 48 rfl rfl ?_
            obtain ⟨Q31, K33, B⟩ := B
            refine z_cVV0 (ν := mX10_sum) 49 rfl rfl fX10_sum gX10_294 ⟨_, rfl, rfl⟩ (by decide) (zcl1.o hSh29 132 9 rfl rfl rfl) (Nat.le_of_ble_eq_true rfl) K33 (fun h32 q => ?_)
            obtain ⟨hSh32, B⟩ := B h32 q
            refine z_aload_n 50 rfl rfl ?_
            refine z_iconst (v := 2) 51 rfl (by decide) ?_
            refine z_iload_n 52 rfl rfl ?_
            obtain ⟨Q34, K36, B⟩ := B
            refine z_cVV2 (ν := mX10_puts) 53 rfl rfl fX10_puts gX10_288 ⟨_, rfl, rfl⟩ (by decide) (zcl1.o hSh32 132 9 rfl rfl rfl) (Nat.le_of_ble_eq_true rfl) K36 (fun h35 q => ?_)
            obtain ⟨hSh35, B⟩ := B h35 q
            exact z_vret 54 rfl rfl ⟨rfl, rfl⟩ ⟨rfl, B⟩
          · have B := B.2 c24
            refine z_aload_n 32 rfl rfl ?_
            refine z_getI 33 rfl lX10_189 rfl (zcl1.o hSh7 132 9 rfl rfl rfl) ?_
            refine z_bipush (v := 61) 34 rfl (by decide) ?_
            refine z_icmp_eq 35 87 rfl (by decide) ⟨fun c37 => ?_, fun c37 => ?_⟩
            · have B := B.1 c37
              refine z_aload_n 41 rfl rfl ?_
              refine z_getI 42 rfl lX10_189 rfl (zcl1.o hSh7 132 9 rfl rfl rfl) ?_
              refine z_istore_n 43 rfl (by decide) rfl ?_
              refine z_aload_n 44 rfl rfl ?_
              obtain ⟨Q38, K40, B⟩ := B
              refine z_cVV0 (ν := mX10_knot) 45 rfl rfl fX10_knot gX10_285 ⟨_, rfl, rfl⟩ (by decide) (zcl1.o hSh7 132 9 rfl rfl rfl) (Nat.le_of_ble_eq_true rfl) K40 (fun h39 q => ?_)
              obtain ⟨hSh39, B⟩ := B h39 q
              refine z_aload_n 46 rfl rfl ?_
              obtain ⟨Q41, K43, B⟩ := B
              refine z_cVV0 (ν := mX10_goOn) 47 rfl rfl fX10_goOn gX10_261 ⟨_, rfl, rfl⟩ (by decide) (zcl1.o hSh39 132 9 rfl rfl rfl) (Nat.le_of_ble_eq_true rfl) K43 (fun h42 q => ?_)
              obtain ⟨hSh42, B⟩ := B h42 q
              refine z_aload_n 48 rfl rfl ?_
              obtain ⟨Q44, K46, B⟩ := B
              refine z_cVV0 (ν := mX10_sum) 49 rfl rfl fX10_sum gX10_294 ⟨_, rfl, rfl⟩ (by decide) (zcl1.o hSh42 132 9 rfl rfl rfl) (Nat.le_of_ble_eq_true rfl) K46 (fun h45 q => ?_)
              obtain ⟨hSh45, B⟩ := B h45 q
              refine z_aload_n 50 rfl rfl ?_
              refine z_iconst (v := 2) 51 rfl (by decide) ?_
              refine z_iload_n 52 rfl rfl ?_
              obtain ⟨Q47, K49, B⟩ := B
              refine z_cVV2 (ν := mX10_puts) 53 rfl rfl fX10_puts gX10_288 ⟨_, rfl, rfl⟩ (by decide) (zcl1.o hSh45 132 9 rfl rfl rfl) (Nat.le_of_ble_eq_true rfl) K49 (fun h48 q => ?_)
              obtain ⟨hSh48, B⟩ := B h48 q
              exact z_vret 54 rfl rfl ⟨rfl, rfl⟩ ⟨rfl, B⟩
            · have B := B.2 c37
              refine z_aload_n 36 rfl rfl ?_
              refine z_getI 37 rfl lX10_189 rfl (zcl1.o hSh7 132 9 rfl rfl rfl) ?_
              refine z_sipush (v := 256) 38 rfl (by decide) ?_
              refine z_icmp_ge 39 87 rfl (by decide) ⟨fun c50 => ?_, fun c50 => ?_⟩
              · have B := B.1 c50
                refine z_aload_n 41 rfl rfl ?_
                refine z_getI 42 rfl lX10_189 rfl (zcl1.o hSh7 132 9 rfl rfl rfl) ?_
                refine z_istore_n 43 rfl (by decide) rfl ?_
                refine z_aload_n 44 rfl rfl ?_
                obtain ⟨Q51, K53, B⟩ := B
                refine z_cVV0 (ν := mX10_knot) 45 rfl rfl fX10_knot gX10_285 ⟨_, rfl, rfl⟩ (by decide) (zcl1.o hSh7 132 9 rfl rfl rfl) (Nat.le_of_ble_eq_true rfl) K53 (fun h52 q => ?_)
                obtain ⟨hSh52, B⟩ := B h52 q
                refine z_aload_n 46 rfl rfl ?_
                obtain ⟨Q54, K56, B⟩ := B
                refine z_cVV0 (ν := mX10_goOn) 47 rfl rfl fX10_goOn gX10_261 ⟨_, rfl, rfl⟩ (by decide) (zcl1.o hSh52 132 9 rfl rfl rfl) (Nat.le_of_ble_eq_true rfl) K56 (fun h55 q => ?_)
                obtain ⟨hSh55, B⟩ := B h55 q
                refine z_aload_n 48 rfl rfl ?_
                obtain ⟨Q57, K59, B⟩ := B
                refine z_cVV0 (ν := mX10_sum) 49 rfl rfl fX10_sum gX10_294 ⟨_, rfl, rfl⟩ (by decide) (zcl1.o hSh55 132 9 rfl rfl rfl) (Nat.le_of_ble_eq_true rfl) K59 (fun h58 q => ?_)
                obtain ⟨hSh58, B⟩ := B h58 q
                refine z_aload_n 50 rfl rfl ?_
                refine z_iconst (v := 2) 51 rfl (by decide) ?_
                refine z_iload_n 52 rfl rfl ?_
                obtain ⟨Q60, K62, B⟩ := B
                refine z_cVV2 (ν := mX10_puts) 53 rfl rfl fX10_puts gX10_288 ⟨_, rfl, rfl⟩ (by decide) (zcl1.o hSh58 132 9 rfl rfl rfl) (Nat.le_of_ble_eq_true rfl) K62 (fun h61 q => ?_)
                obtain ⟨hSh61, B⟩ := B h61 q
                exact z_vret 54 rfl rfl ⟨rfl, rfl⟩ ⟨rfl, B⟩
              · have B := B.2 c50
                exact z_vret 40 rfl rfl ⟨rfl, rfl⟩ ⟨rfl, B⟩
  · have B := B.2 c5
    refine z_aload_n 4 rfl rfl ?_
    obtain ⟨Q63, K65, B⟩ := B
    refine z_cVV0 (ν := mX10_knot) 5 rfl rfl fX10_knot gX10_285 ⟨_, rfl, rfl⟩ (by decide) (zcl1.o hSh2 132 9 rfl rfl rfl) (Nat.le_of_ble_eq_true rfl) K65 (fun h64 q => ?_)
    obtain ⟨hSh64, B⟩ := B h64 q
    refine z_aload_n 6 rfl rfl ?_
    obtain ⟨Q66, K68, B⟩ := B
    refine z_cVV0 (ν := mX10_goOn) 7 rfl rfl fX10_goOn gX10_261 ⟨_, rfl, rfl⟩ (by decide) (zcl1.o hSh64 132 9 rfl rfl rfl) (Nat.le_of_ble_eq_true rfl) K68 (fun h67 q => ?_)
    obtain ⟨hSh67, B⟩ := B h67 q
    refine z_aload_n 8 rfl rfl ?_
    obtain ⟨Q69, K71, B⟩ := B
    refine z_cVV0 (ν := mX10_negation) 9 rfl rfl fX10_negation gX10_291 ⟨_, rfl, rfl⟩ (by decide) (zcl1.o hSh67 132 9 rfl rfl rfl) (Nat.le_of_ble_eq_true rfl) K71 (fun h70 q => ?_)
    obtain ⟨hSh70, B⟩ := B h70 q
    refine z_aload_n 10 rfl rfl ?_
    refine z_iconst (v := 2) 11 rfl (by decide) ?_
    refine z_sipush (v := 260) 12 rfl (by decide) ?_
    obtain ⟨Q72, K74, B⟩ := B
    refine z_cVV2 (ν := mX10_puts) 13 rfl rfl fX10_puts gX10_288 ⟨_, rfl, rfl⟩ (by decide) (zcl1.o hSh70 132 9 rfl rfl rfl) (Nat.le_of_ble_eq_true rfl) K74 (fun h73 q => ?_)
    obtain ⟨hSh73, B⟩ := B h73 q
    exact z_vret 14 rfl rfl ⟨rfl, rfl⟩ ⟨rfl, B⟩
theorem cn_X10_negation {G : zG} {d : Nat} {h : zMem} {Q : zMem → Prop}  (B : zg G mX10_negation (d + 1) 0 [.ref 132, zU] [] h (zPV Q)) : zConV G mX10_negation (d + 1) [.ref 132] h Q := zcon0 (by decide +kernel) eX10_negation (Nat.le_of_ble_eq_true rfl) rfl B
