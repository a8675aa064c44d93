set_option maxRecDepth 100000 in
set_option maxHeartbeats 4000000 in
theorem sg_X10_text_0 {G : zG} {d : Nat} {h : zMem} {Q : Int32 → zMem → Prop} {a0 : Nat} {x1 : Int32} (B : zO h a0 9 ∧ (x1 < 0 → Q (-2 : Int32) (zsI h a0 0 (0 : Int32))) ∧ (¬ x1 < 0 → (x1 ≤ (zI (zsI h a0 0 (0 : Int32)) a0 2) → zg G mX10_text (d + 1) 47 [.ref a0, .int x1, .int (0 : Int32)] [] (zsI (zsI (zsI (zsI (zsI (zsI h a0 0 (0 : Int32)) a0 20 x1) a0 2 (0 : Int32)) a0 21 (0 : Int32)) a0 25 (0 : Int32)) a0 26 (-1 : Int32)) (zPI Q)) ∧ (¬ x1 ≤ (zI (zsI h a0 0 (0 : Int32)) a0 2) → Q (-2 : Int32) (zsI h a0 0 (0 : Int32))))) : zg G mX10_text (d + 1) 0 [.ref a0, .int x1, zU] [] h (zPI Q) := by
  refine z_aload_n 0 rfl rfl ?_
  refine z_iconst (v := 0) 1 rfl (by decide) ?_
  obtain ⟨o1, B⟩ := B
  refine z_putI 2 rfl lX10_160 ⟨_, _, _, rfl, rfl⟩ rfl rfl rfl o1 ?_
  refine z_iload_n 3 rfl rfl ?_
  refine z_if_lt 4 17 rfl (by decide) ⟨fun c2 => ?_, fun c2 => ?_⟩
  · have B := B.1 c2
    refine z_bipush (v := -2) 9 rfl (by decide) ?_
    exact z_iret 10 rfl rfl rfl ⟨rfl, rfl⟩ ⟨_, rfl, B⟩
  · have B := B.2 c2
    refine z_iload_n 5 rfl rfl ?_
    refine z_aload_n 6 rfl rfl ?_
    refine z_getI 7 rfl lX10_163 rfl o1 ?_
    refine z_icmp_le 8 20 rfl (by decide) ⟨fun c3 => ?_, fun c3 => ?_⟩
    · have B := B.1 c3
      refine z_aload_n 11 rfl rfl ?_
      refine z_iload_n 12 rfl rfl ?_
      refine z_putI 13 rfl lX10_169 ⟨_, _, _, rfl, rfl⟩ rfl rfl rfl o1 ?_
      refine z_aload_n 14 rfl rfl ?_
      refine z_iconst (v := 0) 15 rfl (by decide) ?_
      refine z_putI 16 rfl lX10_163 ⟨_, _, _, rfl, rfl⟩ rfl rfl rfl o1 ?_
      refine z_aload_n 17 rfl rfl ?_
      refine z_iconst (v := 0) 18 rfl (by decide) ?_
      refine z_putI 19 rfl lX10_166 ⟨_, _, _, rfl, rfl⟩ rfl rfl rfl o1 ?_
      refine z_aload_n 20 rfl rfl ?_
      refine z_iconst (v := 0) 21 rfl (by decide) ?_
      refine z_putI 22 rfl lX10_214 ⟨_, _, _, rfl, rfl⟩ rfl rfl rfl o1 ?_
      refine z_aload_n 23 rfl rfl ?_
      refine z_iconst (v := -1) 24 rfl (by decide) ?_
      refine z_putI 25 rfl lX10_217 ⟨_, _, _, rfl, rfl⟩ rfl rfl rfl o1 ?_
      refine z_iconst (v := 0) 26 rfl (by decide) ?_
      refine z_istore_n 27 rfl (by decide) rfl ?_
      exact B
    · have B := B.2 c3
      refine z_bipush (v := -2) 9 rfl (by decide) ?_
      exact z_iret 10 rfl rfl rfl ⟨rfl, rfl⟩ ⟨_, rfl, B⟩
theorem cn_X10_text {G : zG} {d : Nat} {h : zMem} {Q : Int32 → zMem → Prop} {a0 : Nat} {x1 : Int32} (B : zg G mX10_text (d + 1) 0 [.ref a0, .int x1, zU] [] h (zPI Q)) : zConI G mX10_text (d + 1) [.ref a0, .int x1] h Q := zcon0 (by decide +kernel) eX10_text (Nat.le_of_ble_eq_true rfl) rfl B
set_option maxRecDepth 100000 in
set_option maxHeartbeats 4000000 in
theorem sg_X10_text_47 {G : zG} {d : Nat} {h : zMem} {Q : Int32 → zMem → Prop} {a0 : Nat} {x1 : Int32} {x2 : Int32} (B : ((8 : Int32) ≤ x2 → zg G mX10_text (d + 1) 67 [.ref a0, .int x1, .int (3 : Int32)] [] h (zPI Q)) ∧ (¬ (8 : Int32) ≤ x2 → zO h a0 9 ∧ ∃ Q2 : zMem → Prop, zConV G mX10_reads d [.ref a0, .int x2, .int (0 : Int32)] h Q2 ∧ (∀ h3, Q2 h3 → zg G mX10_text (d + 1) 47 [.ref a0, .int x1, .int (x2 + 1)] [] h3 (zPI Q)))) : zg G mX10_text (d + 1) 47 [.ref a0, .int x1, .int x2] [] h (zPI Q) := by
  refine z_iload_n 28 rfl rfl ?_
  refine z_bipush (v := 8) 29 rfl (by decide) ?_
  refine z_icmp_ge 30 65 rfl (by decide) ⟨fun c1 => ?_, fun c1 => ?_⟩
  · have B := B.1 c1
    refine z_iconst (v := 3) 37 rfl (by decide) ?_
    refine z_istore_n 38 rfl (by decide) rfl ?_
    exact B
  · have B := B.2 c1
    refine z_aload_n 31 rfl rfl ?_
    refine z_iload_n 32 rfl rfl ?_
    refine z_iconst (v := 0) 33 rfl (by decide) ?_
    obtain ⟨o5, B⟩ := B
    obtain ⟨Q2, K4, B⟩ := B
    refine z_cVV2 (ν := mX10_reads) 34 rfl rfl fX10_reads gX10_248 ⟨_, rfl, rfl⟩ (by decide) o5 (Nat.le_of_ble_eq_true rfl) K4 (fun h3 q => ?_)
    have B := B h3 q
    refine z_iinc (v := 1) 35 rfl rfl (by decide) (by decide) rfl ?_
    refine z_goto 36 47 rfl (by decide) ?_
    exact B
set_option maxRecDepth 100000 in
set_option maxHeartbeats 4000000 in
theorem sg_X10_text_67 {G : zG} {d : Nat} {h : zMem} {Q : Int32 → zMem → Prop} {a0 : Nat} {x1 : Int32} {x2 : Int32} (B : ((6 : Int32) ≤ x2 → zO h a0 9 ∧ ∃ Q3 : zMem → Prop, zConV G mX10_token d [.ref a0] (zsI (zsI (zsI (zsI h a0 18 (0 : Int32)) a0 19 (0 : Int32)) a0 29 (0 : Int32)) a0 30 (0 : Int32)) Q3 ∧ (∀ h4, Q3 h4 → zg G mX10_text (d + 1) 117 [.ref a0, .int x1, .int x2] [] h4 (zPI Q))) ∧ (¬ (6 : Int32) ≤ x2 → zO h a0 9 ∧ ∃ r7, zR h a0 14 = some r7 ∧ zO h r7 100 ∧ vp_in x2 (zLen h r7) ∧ ∃ r10, zR h a0 15 = some r10 ∧ zO h r10 100 ∧ vp_in x2 (zLen h r10) ∧ zg G mX10_text (d + 1) 67 [.ref a0, .int x1, .int (x2 + 1)] [] (zsI (zsI h r7 x2.toNatClampNeg (0 : Int32)) r10 x2.toNatClampNeg (0 : Int32)) (zPI Q))) : zg G mX10_text (d + 1) 67 [.ref a0, .int x1, .int x2] [] h (zPI Q) := by
  refine z_iload_n 39 rfl rfl ?_
  refine z_bipush (v := 6) 40 rfl (by decide) ?_
  refine z_icmp_ge 41 93 rfl (by decide) ⟨fun c1 => ?_, fun c1 => ?_⟩
  · have B := B.1 c1
    refine z_aload_n 54 rfl rfl ?_
    refine z_iconst (v := 0) 55 rfl (by decide) ?_
    obtain ⟨o2, B⟩ := B
    refine z_putI 56 rfl lX10_237 ⟨_, _, _, rfl, rfl⟩ rfl rfl rfl o2 ?_
    refine z_aload_n 57 rfl rfl ?_
    refine z_iconst (v := 0) 58 rfl (by decide) ?_
    refine z_putI 59 rfl lX10_270 ⟨_, _, _, rfl, rfl⟩ rfl rfl rfl o2 ?_
    refine z_aload_n 60 rfl rfl ?_
    refine z_iconst (v := 0) 61 rfl (by decide) ?_
    refine z_putI 62 rfl lX10_303 ⟨_, _, _, rfl, rfl⟩ rfl rfl rfl o2 ?_
    refine z_aload_n 63 rfl rfl ?_
    refine z_iconst (v := 0) 64 rfl (by decide) ?_
    refine z_putI 65 rfl lX10_279 ⟨_, _, _, rfl, rfl⟩ rfl rfl rfl o2 ?_
    refine z_aload_n 66 rfl rfl ?_
    obtain ⟨Q3, K5, B⟩ := B
    refine z_cVV0 (ν := mX10_token) 67 rfl rfl fX10_token gX10_220 ⟨_, rfl, rfl⟩ (by decide) o2 (Nat.le_of_ble_eq_true rfl) K5 (fun h4 q => ?_)
    have B := B h4 q
    exact B
  · have B := B.2 c1
    refine z_aload_n 42 rfl rfl ?_
    obtain ⟨o6, B⟩ := B
    obtain ⟨r7, hr7, B⟩ := B
    refine z_getR 43 rfl lX10_46 rfl o6 hr7 ?_
    refine z_iload_n 44 rfl rfl ?_
    refine z_iconst (v := 0) 45 rfl (by decide) ?_
    obtain ⟨o8, B⟩ := B
    obtain ⟨o9, B⟩ := B
    refine z_iast 46 rfl o8 o9 ?_
    refine z_aload_n 47 rfl rfl ?_
    obtain ⟨r10, hr10, B⟩ := B
    refine z_getR 48 rfl lX10_49 rfl o6 hr10 ?_
    refine z_iload_n 49 rfl rfl ?_
    refine z_iconst (v := 0) 50 rfl (by decide) ?_
    obtain ⟨o11, B⟩ := B
    obtain ⟨o12, B⟩ := B
    refine z_iast 51 rfl o11 o12 ?_
    refine z_iinc (v := 1) 52 rfl rfl (by decide) (by decide) rfl ?_
    refine z_goto 53 67 rfl (by decide) ?_
    exact B
set_option maxRecDepth 100000 in
set_option maxHeartbeats 4000000 in
theorem sg_X10_text_117 {G : zG} {d : Nat} {h : zMem} {Q : Int32 → zMem → Prop} {a0 : Nat} {x1 : Int32} {x2 : Int32} (B : zO h a0 9 ∧ (¬ (zI h a0 25) = 0 → ((zI (zsI (zsI h a0 27 (zI h a0 25)) a0 28 (zI (zsI h a0 27 (zI h a0 25)) a0 26)) a0 25) = 0 → ∃ r4, zR h a0 3 = some r4 ∧ ∃ Q5 : zMem → Prop, zConV G mX10_half d [.ref r4] (zsI (zsI h a0 27 (zI h a0 25)) a0 28 (zI (zsI h a0 27 (zI h a0 25)) a0 26)) Q5 ∧ (∀ h6, Q5 h6 → zO h6 a0 9 ∧ ∃ r9, zR h6 a0 4 = some r9 ∧ ∃ Q10 : zMem → Prop, zConV G mX10_half d [.ref r9] h6 Q10 ∧ (∀ h11, Q10 h11 → zO h11 a0 9 ∧ ∃ r14, zR h11 a0 5 = some r14 ∧ ∃ Q15 : zMem → Prop, zConV G mX10_half d [.ref r14] h11 Q15 ∧ (∀ h16, Q15 h16 → zO h16 a0 9 ∧ ∃ r19, zR h16 a0 6 = some r19 ∧ ∃ Q20 : zMem → Prop, zConV G mX10_half d [.ref r19] h16 Q20 ∧ (∀ h21, Q20 h21 → zO h21 a0 9 ∧ ∃ r24, zR h21 a0 7 = some r24 ∧ ∃ Q25 : zMem → Prop, zConV G mX10_half d [.ref r24] h21 Q25 ∧ (∀ h26, Q25 h26 → zO h26 a0 9 ∧ ∃ r29, zR h26 a0 8 = some r29 ∧ ∃ Q30 : zMem → Prop, zConV G mX10_half d [.ref r29] h26 Q30 ∧ (∀ h31, Q30 h31 → zO h31 a0 9 ∧ ∃ r34, zR h31 a0 9 = some r34 ∧ ∃ Q35 : zMem → Prop, zConV G mX10_half d [.ref r34] h31 Q35 ∧ (∀ h36, Q35 h36 → zO h36 a0 9 ∧ ∃ r39, zR h36 a0 10 = some r39 ∧ ∃ Q40 : zMem → Prop, zConV G mX10_half d [.ref r39] h36 Q40 ∧ (∀ h41, Q40 h41 → zO h41 a0 9 ∧ ∃ r44, zR h41 a0 11 = some r44 ∧ ∃ Q45 : zMem → Prop, zConV G mX10_half d [.ref r44] h41 Q45 ∧ (∀ h46, Q45 h46 → zO h46 a0 9 ∧ ∃ r49, zR h46 a0 12 = some r49 ∧ ∃ Q50 : zMem → Prop, zConV G mX10_half d [.ref r49] h46 Q50 ∧ (∀ h51, Q50 h51 → zO h51 a0 9 ∧ ∃ r54, zR h51 a0 13 = some r54 ∧ ∃ Q55 : zMem → Prop, zConV G mX10_half d [.ref r54] h51 Q55 ∧ (∀ h56, Q55 h56 → zO h56 a0 9 ∧ ∃ r59, zR h56 a0 14 = some r59 ∧ ∃ Q60 : zMem → Prop, zConV G mX10_half d [.ref r59] h56 Q60 ∧ (∀ h61, Q60 h61 → zO h61 a0 9 ∧ ∃ r64, zR h61 a0 15 = some r64 ∧ ∃ Q65 : zMem → Prop, zConV G mX10_half d [.ref r64] h61 Q65 ∧ (∀ h66, Q65 h66 → zO h66 a0 9 ∧ ∃ r69, zR h66 a0 16 = some r69 ∧ ∃ Q70 : zMem → Prop, zConV G mX10_half d [.ref r69] h66 Q70 ∧ (∀ h71, Q70 h71 → zO h71 a0 9 ∧ ∃ r74, zR h71 a0 17 = some r74 ∧ ∃ Q75 : zMem → Prop, zConV G mX10_half d [.ref r74] h71 Q75 ∧ (∀ h76, Q75 h76 → zO h76 a0 9 ∧ ∃ Q79 : zMem → Prop, zConV G mX10_begins d [.ref a0] (zsI (zsI (zsI (zsI h76 a0 60 (0 : Int32)) a0 61 (-1 : Int32)) a0 46 (0 : Int32)) a0 47 (0 : Int32)) Q79 ∧ (∀ h80, Q79 h80 → zO h80 a0 9 ∧ Q (zI h80 a0 19) h80))))))))))))))))) ∧ (¬ (zI (zsI (zsI h a0 27 (zI h a0 25)) a0 28 (zI (zsI h a0 27 (zI h a0 25)) a0 26)) a0 25) = 0 → Q (-1 : Int32) (zsI (zsI h a0 27 (zI h a0 25)) a0 28 (zI (zsI h a0 27 (zI h a0 25)) a0 26)))) ∧ ((zI h a0 25) = 0 → ((zI h a0 23) = (4 : Int32) → ((zI (zsI (zsI h a0 27 (zI h a0 25)) a0 28 (zI (zsI h a0 27 (zI h a0 25)) a0 26)) a0 25) = 0 → ∃ r85, zR h a0 3 = some r85 ∧ ∃ Q86 : zMem → Prop, zConV G mX10_half d [.ref r85] (zsI (zsI h a0 27 (zI h a0 25)) a0 28 (zI (zsI h a0 27 (zI h a0 25)) a0 26)) Q86 ∧ (∀ h87, Q86 h87 → zO h87 a0 9 ∧ ∃ r90, zR h87 a0 4 = some r90 ∧ ∃ Q91 : zMem → Prop, zConV G mX10_half d [.ref r90] h87 Q91 ∧ (∀ h92, Q91 h92 → zO h92 a0 9 ∧ ∃ r95, zR h92 a0 5 = some r95 ∧ ∃ Q96 : zMem → Prop, zConV G mX10_half d [.ref r95] h92 Q96 ∧ (∀ h97, Q96 h97 → zO h97 a0 9 ∧ ∃ r100, zR h97 a0 6 = some r100 ∧ ∃ Q101 : zMem → Prop, zConV G mX10_half d [.ref r100] h97 Q101 ∧ (∀ h102, Q101 h102 → zO h102 a0 9 ∧ ∃ r105, zR h102 a0 7 = some r105 ∧ ∃ Q106 : zMem → Prop, zConV G mX10_half d [.ref r105] h102 Q106 ∧ (∀ h107, Q106 h107 → zO h107 a0 9 ∧ ∃ r110, zR h107 a0 8 = some r110 ∧ ∃ Q111 : zMem → Prop, zConV G mX10_half d [.ref r110] h107 Q111 ∧ (∀ h112, Q111 h112 → zO h112 a0 9 ∧ ∃ r115, zR h112 a0 9 = some r115 ∧ ∃ Q116 : zMem → Prop, zConV G mX10_half d [.ref r115] h112 Q116 ∧ (∀ h117, Q116 h117 → zO h117 a0 9 ∧ ∃ r120, zR h117 a0 10 = some r120 ∧ ∃ Q121 : zMem → Prop, zConV G mX10_half d [.ref r120] h117 Q121 ∧ (∀ h122, Q121 h122 → zO h122 a0 9 ∧ ∃ r125, zR h122 a0 11 = some r125 ∧ ∃ Q126 : zMem → Prop, zConV G mX10_half d [.ref r125] h122 Q126 ∧ (∀ h127, Q126 h127 → zO h127 a0 9 ∧ ∃ r130, zR h127 a0 12 = some r130 ∧ ∃ Q131 : zMem → Prop, zConV G mX10_half d [.ref r130] h127 Q131 ∧ (∀ h132, Q131 h132 → zO h132 a0 9 ∧ ∃ r135, zR h132 a0 13 = some r135 ∧ ∃ Q136 : zMem → Prop, zConV G mX10_half d [.ref r135] h132 Q136 ∧ (∀ h137, Q136 h137 → zO h137 a0 9 ∧ ∃ r140, zR h137 a0 14 = some r140 ∧ ∃ Q141 : zMem → Prop, zConV G mX10_half d [.ref r140] h137 Q141 ∧ (∀ h142, Q141 h142 → zO h142 a0 9 ∧ ∃ r145, zR h142 a0 15 = some r145 ∧ ∃ Q146 : zMem → Prop, zConV G mX10_half d [.ref r145] h142 Q146 ∧ (∀ h147, Q146 h147 → zO h147 a0 9 ∧ ∃ r150, zR h147 a0 16 = some r150 ∧ ∃ Q151 : zMem → Prop, zConV G mX10_half d [.ref r150] h147 Q151 ∧ (∀ h152, Q151 h152 → zO h152 a0 9 ∧ ∃ r155, zR h152 a0 17 = some r155 ∧ ∃ Q156 : zMem → Prop, zConV G mX10_half d [.ref r155] h152 Q156 ∧ (∀ h157, Q156 h157 → zO h157 a0 9 ∧ ∃ Q160 : zMem → Prop, zConV G mX10_begins d [.ref a0] (zsI (zsI (zsI (zsI h157 a0 60 (0 : Int32)) a0 61 (-1 : Int32)) a0 46 (0 : Int32)) a0 47 (0 : Int32)) Q160 ∧ (∀ h161, Q160 h161 → zO h161 a0 9 ∧ Q (zI h161 a0 19) h161))))))))))))))))) ∧ (¬ (zI (zsI (zsI h a0 27 (zI h a0 25)) a0 28 (zI (zsI h a0 27 (zI h a0 25)) a0 26)) a0 25) = 0 → Q (-1 : Int32) (zsI (zsI h a0 27 (zI h a0 25)) a0 28 (zI (zsI h a0 27 (zI h a0 25)) a0 26)))) ∧ (¬ (zI h a0 23) = (4 : Int32) → ∃ Q164 : zMem → Prop, zConV G mX10_line d [.ref a0] h Q164 ∧ (∀ h165, Q164 h165 → zg G mX10_text (d + 1) 117 [.ref a0, .int x1, .int x2] [] h165 (zPI Q))))) : zg G mX10_text (d + 1) 117 [.ref a0, .int x1, .int x2] [] h (zPI Q) := by
  refine z_aload_n 68 rfl rfl ?_
  obtain ⟨o1, B⟩ := B
  refine z_getI 69 rfl lX10_214 rfl o1 ?_
  refine z_if_ne 70 139 rfl (by decide) ⟨fun c2 => ?_, fun c2 => ?_⟩
  · have B := B.1 c2
    refine z_aload_n 78 rfl rfl ?_
    refine z_aload_n 79 rfl rfl ?_
    refine z_getI 80 rfl lX10_214 rfl o1 ?_
    refine z_putI 81 rfl lX10_309 ⟨_, _, _, rfl, rfl⟩ rfl rfl rfl o1 ?_
    refine z_aload_n 82 rfl rfl ?_
    refine z_aload_n 83 rfl rfl ?_
    refine z_getI 84 rfl lX10_217 rfl o1 ?_
    refine z_putI 85 rfl lX10_58 ⟨_, _, _, rfl, rfl⟩ rfl rfl rfl o1 ?_
    refine z_aload_n 86 rfl rfl ?_
    refine z_getI 87 rfl lX10_214 rfl o1 ?_
    refine z_if_eq 88 164 rfl (by decide) ⟨fun c3 => ?_, fun c3 => ?_⟩
    · have B := B.1 c3
      refine z_aload_n 91 rfl rfl ?_
      obtain ⟨r4, hr4, B⟩ := B
      refine z_getR 92 rfl lX10_13 rfl o1 hr4 ?_
      obtain ⟨Q5, K7, B⟩ := B
      refine z_cSV1 (ν := mX10_half) 93 rfl rfl fX10_half gX10_312 (Nat.le_of_ble_eq_true rfl) K7 (fun h6 q => ?_)
      have B := B h6 q
      refine z_aload_n 94 rfl rfl ?_
      obtain ⟨o8, B⟩ := B
      obtain ⟨r9, hr9, B⟩ := B
      refine z_getR 95 rfl lX10_16 rfl o8 hr9 ?_
      obtain ⟨Q10, K12, B⟩ := B
      refine z_cSV1 (ν := mX10_half) 96 rfl rfl fX10_half gX10_312 (Nat.le_of_ble_eq_true rfl) K12 (fun h11 q => ?_)
      have B := B h11 q
      refine z_aload_n 97 rfl rfl ?_
      obtain ⟨o13, B⟩ := B
      obtain ⟨r14, hr14, B⟩ := B
      refine z_getR 98 rfl lX10_19 rfl o13 hr14 ?_
      obtain ⟨Q15, K17, B⟩ := B
      refine z_cSV1 (ν := mX10_half) 99 rfl rfl fX10_half gX10_312 (Nat.le_of_ble_eq_true rfl) K17 (fun h16 q => ?_)
      have B := B h16 q
      refine z_aload_n 100 rfl rfl ?_
      obtain ⟨o18, B⟩ := B
      obtain ⟨r19, hr19, B⟩ := B
      refine z_getR 101 rfl lX10_22 rfl o18 hr19 ?_
      obtain ⟨Q20, K22, B⟩ := B
      refine z_cSV1 (ν := mX10_half) 102 rfl rfl fX10_half gX10_312 (Nat.le_of_ble_eq_true rfl) K22 (fun h21 q => ?_)
      have B := B h21 q
      refine z_aload_n 103 rfl rfl ?_
      obtain ⟨o23, B⟩ := B
      obtain ⟨r24, hr24, B⟩ := B
      refine z_getR 104 rfl lX10_25 rfl o23 hr24 ?_
      obtain ⟨Q25, K27, B⟩ := B
      refine z_cSV1 (ν := mX10_half) 105 rfl rfl fX10_half gX10_312 (Nat.le_of_ble_eq_true rfl) K27 (fun h26 q => ?_)
      have B := B h26 q
      refine z_aload_n 106 rfl rfl ?_
      obtain ⟨o28, B⟩ := B
      obtain ⟨r29, hr29, B⟩ := B
      refine z_getR 107 rfl lX10_28 rfl o28 hr29 ?_
      obtain ⟨Q30, K32, B⟩ := B
      refine z_cSV1 (ν := mX10_half) 108 rfl rfl fX10_half gX10_312 (Nat.le_of_ble_eq_true rfl) K32 (fun h31 q => ?_)
      have B := B h31 q
      refine z_aload_n 109 rfl rfl ?_
      obtain ⟨o33, B⟩ := B
      obtain ⟨r34, hr34, B⟩ := B
      refine z_getR 110 rfl lX10_31 rfl o33 hr34 ?_
      obtain ⟨Q35, K37, B⟩ := B
      refine z_cSV1 (ν := mX10_half) 111 rfl rfl fX10_half gX10_312 (Nat.le_of_ble_eq_true rfl) K37 (fun h36 q => ?_)
      have B := B h36 q
      refine z_aload_n 112 rfl rfl ?_
      obtain ⟨o38, B⟩ := B
      obtain ⟨r39, hr39, B⟩ := B
      refine z_getR 113 rfl lX10_34 rfl o38 hr39 ?_
      obtain ⟨Q40, K42, B⟩ := B
      refine z_cSV1 (ν := mX10_half) 114 rfl rfl fX10_half gX10_312 (Nat.le_of_ble_eq_true rfl) K42 (fun h41 q => ?_)
      have B := B h41 q
      refine z_aload_n 115 rfl rfl ?_
      obtain ⟨o43, B⟩ := B
      obtain ⟨r44, hr44, B⟩ := B
      refine z_getR 116 rfl lX10_37 rfl o43 hr44 ?_
      obtain ⟨Q45, K47, B⟩ := B
      refine z_cSV1 (ν := mX10_half) 117 rfl rfl fX10_half gX10_312 (Nat.le_of_ble_eq_true rfl) K47 (fun h46 q => ?_)
      have B := B h46 q
      refine z_aload_n 118 rfl rfl ?_
      obtain ⟨o48, B⟩ := B
      obtain ⟨r49, hr49, B⟩ := B
      refine z_getR 119 rfl lX10_40 rfl o48 hr49 ?_
      obtain ⟨Q50, K52, B⟩ := B
      refine z_cSV1 (ν := mX10_half) 120 rfl rfl fX10_half gX10_312 (Nat.le_of_ble_eq_true rfl) K52 (fun h51 q => ?_)
      have B := B h51 q
      refine z_aload_n 121 rfl rfl ?_
      obtain ⟨o53, B⟩ := B
      obtain ⟨r54, hr54, B⟩ := B
      refine z_getR 122 rfl lX10_43 rfl o53 hr54 ?_
      obtain ⟨Q55, K57, B⟩ := B
      refine z_cSV1 (ν := mX10_half) 123 rfl rfl fX10_half gX10_312 (Nat.le_of_ble_eq_true rfl) K57 (fun h56 q => ?_)
      have B := B h56 q
      refine z_aload_n 124 rfl rfl ?_
      obtain ⟨o58, B⟩ := B
      obtain ⟨r59, hr59, B⟩ := B
      refine z_getR 125 rfl lX10_46 rfl o58 hr59 ?_
      obtain ⟨Q60, K62, B⟩ := B
      refine z_cSV1 (ν := mX10_half) 126 rfl rfl fX10_half gX10_312 (Nat.le_of_ble_eq_true rfl) K62 (fun h61 q => ?_)
      have B := B h61 q
      refine z_aload_n 127 rfl rfl ?_
      obtain ⟨o63, B⟩ := B
      obtain ⟨r64, hr64, B⟩ := B
      refine z_getR 128 rfl lX10_49 rfl o63 hr64 ?_
      obtain ⟨Q65, K67, B⟩ := B
      refine z_cSV1 (ν := mX10_half) 129 rfl rfl fX10_half gX10_312 (Nat.le_of_ble_eq_true rfl) K67 (fun h66 q => ?_)
      have B := B h66 q
      refine z_aload_n 130 rfl rfl ?_
      obtain ⟨o68, B⟩ := B
      obtain ⟨r69, hr69, B⟩ := B
      refine z_getR 131 rfl lX10_52 rfl o68 hr69 ?_
      obtain ⟨Q70, K72, B⟩ := B
      refine z_cSV1 (ν := mX10_half) 132 rfl rfl fX10_half gX10_312 (Nat.le_of_ble_eq_true rfl) K72 (fun h71 q => ?_)
      have B := B h71 q
      refine z_aload_n 133 rfl rfl ?_
      obtain ⟨o73, B⟩ := B
      obtain ⟨r74, hr74, B⟩ := B
      refine z_getR 134 rfl lX10_55 rfl o73 hr74 ?_
      obtain ⟨Q75, K77, B⟩ := B
      refine z_cSV1 (ν := mX10_half) 135 rfl rfl fX10_half gX10_312 (Nat.le_of_ble_eq_true rfl) K77 (fun h76 q => ?_)
      have B := B h76 q
      refine z_aload_n 136 rfl rfl ?_
      refine z_iconst (v := 0) 137 rfl (by decide) ?_
      obtain ⟨o78, B⟩ := B
      refine z_putI 138 rfl lX10_316 ⟨_, _, _, rfl, rfl⟩ rfl rfl rfl o78 ?_
      refine z_aload_n 139 rfl rfl ?_
      refine z_iconst (v := -1) 140 rfl (by decide) ?_
      refine z_putI 141 rfl lX10_135 ⟨_, _, _, rfl, rfl⟩ rfl rfl rfl o78 ?_
      refine z_aload_n 142 rfl rfl ?_
      refine z_iconst (v := 0) 143 rfl (by decide) ?_
      refine z_putI 144 rfl lX10_319 ⟨_, _, _, rfl, rfl⟩ rfl rfl rfl o78 ?_
      refine z_aload_n 145 rfl rfl ?_
      refine z_iconst (v := 0) 146 rfl (by decide) ?_
      refine z_putI 147 rfl lX10_323 ⟨_, _, _, rfl, rfl⟩ rfl rfl rfl o78 ?_
      refine z_aload_n 148 rfl rfl ?_
      obtain ⟨Q79, K81, B⟩ := B
      refine z_cVV0 (ν := mX10_begins) 149 rfl rfl fX10_begins gX10_157 ⟨_, rfl, rfl⟩ (by decide) o78 (Nat.le_of_ble_eq_true rfl) K81 (fun h80 q => ?_)
      have B := B h80 q
      refine z_aload_n 150 rfl rfl ?_
      obtain ⟨o82, B⟩ := B
      refine z_getI 151 rfl lX10_270 rfl o82 ?_
      exact z_iret 152 rfl rfl rfl ⟨rfl, rfl⟩ ⟨_, rfl, B⟩
    · have B := B.2 c3
      refine z_iconst (v := -1) 89 rfl (by decide) ?_
      exact z_iret 90 rfl rfl rfl ⟨rfl, rfl⟩ ⟨_, rfl, B⟩
  · have B := B.2 c2
    refine z_aload_n 71 rfl rfl ?_
    refine z_getI 72 rfl lX10_179 rfl o1 ?_
    refine z_iconst (v := 4) 73 rfl (by decide) ?_
    refine z_icmp_eq 74 139 rfl (by decide) ⟨fun c83 => ?_, fun c83 => ?_⟩
    · have B := B.1 c83
      refine z_aload_n 78 rfl rfl ?_
      refine z_aload_n 79 rfl rfl ?_
      refine z_getI 80 rfl lX10_214 rfl o1 ?_
      refine z_putI 81 rfl lX10_309 ⟨_, _, _, rfl, rfl⟩ rfl rfl rfl o1 ?_
      refine z_aload_n 82 rfl rfl ?_
      refine z_aload_n 83 rfl rfl ?_
      refine z_getI 84 rfl lX10_217 rfl o1 ?_
      refine z_putI 85 rfl lX10_58 ⟨_, _, _, rfl, rfl⟩ rfl rfl rfl o1 ?_
      refine z_aload_n 86 rfl rfl ?_
      refine z_getI 87 rfl lX10_214 rfl o1 ?_
      refine z_if_eq 88 164 rfl (by decide) ⟨fun c84 => ?_, fun c84 => ?_⟩
      · have B := B.1 c84
        refine z_aload_n 91 rfl rfl ?_
        obtain ⟨r85, hr85, B⟩ := B
        refine z_getR 92 rfl lX10_13 rfl o1 hr85 ?_
        obtain ⟨Q86, K88, B⟩ := B
        refine z_cSV1 (ν := mX10_half) 93 rfl rfl fX10_half gX10_312 (Nat.le_of_ble_eq_true rfl) K88 (fun h87 q => ?_)
        have B := B h87 q
        refine z_aload_n 94 rfl rfl ?_
        obtain ⟨o89, B⟩ := B
        obtain ⟨r90, hr90, B⟩ := B
        refine z_getR 95 rfl lX10_16 rfl o89 hr90 ?_
        obtain ⟨Q91, K93, B⟩ := B
        refine z_cSV1 (ν := mX10_half) 96 rfl rfl fX10_half gX10_312 (Nat.le_of_ble_eq_true rfl) K93 (fun h92 q => ?_)
        have B := B h92 q
        refine z_aload_n 97 rfl rfl ?_
        obtain ⟨o94, B⟩ := B
        obtain ⟨r95, hr95, B⟩ := B
        refine z_getR 98 rfl lX10_19 rfl o94 hr95 ?_
        obtain ⟨Q96, K98, B⟩ := B
        refine z_cSV1 (ν := mX10_half) 99 rfl rfl fX10_half gX10_312 (Nat.le_of_ble_eq_true rfl) K98 (fun h97 q => ?_)
        have B := B h97 q
        refine z_aload_n 100 rfl rfl ?_
        obtain ⟨o99, B⟩ := B
        obtain ⟨r100, hr100, B⟩ := B
        refine z_getR 101 rfl lX10_22 rfl o99 hr100 ?_
        obtain ⟨Q101, K103, B⟩ := B
        refine z_cSV1 (ν := mX10_half) 102 rfl rfl fX10_half gX10_312 (Nat.le_of_ble_eq_true rfl) K103 (fun h102 q => ?_)
        have B := B h102 q
        refine z_aload_n 103 rfl rfl ?_
        obtain ⟨o104, B⟩ := B
        obtain ⟨r105, hr105, B⟩ := B
        refine z_getR 104 rfl lX10_25 rfl o104 hr105 ?_
        obtain ⟨Q106, K108, B⟩ := B
        refine z_cSV1 (ν := mX10_half) 105 rfl rfl fX10_half gX10_312 (Nat.le_of_ble_eq_true rfl) K108 (fun h107 q => ?_)
        have B := B h107 q
        refine z_aload_n 106 rfl rfl ?_
        obtain ⟨o109, B⟩ := B
        obtain ⟨r110, hr110, B⟩ := B
        refine z_getR 107 rfl lX10_28 rfl o109 hr110 ?_
        obtain ⟨Q111, K113, B⟩ := B
        refine z_cSV1 (ν := mX10_half) 108 rfl rfl fX10_half gX10_312 (Nat.le_of_ble_eq_true rfl) K113 (fun h112 q => ?_)
        have B := B h112 q
        refine z_aload_n 109 rfl rfl ?_
        obtain ⟨o114, B⟩ := B
        obtain ⟨r115, hr115, B⟩ := B
        refine z_getR 110 rfl lX10_31 rfl o114 hr115 ?_
        obtain ⟨Q116, K118, B⟩ := B
        refine z_cSV1 (ν := mX10_half) 111 rfl rfl fX10_half gX10_312 (Nat.le_of_ble_eq_true rfl) K118 (fun h117 q => ?_)
        have B := B h117 q
        refine z_aload_n 112 rfl rfl ?_
        obtain ⟨o119, B⟩ := B
        obtain ⟨r120, hr120, B⟩ := B
        refine z_getR 113 rfl lX10_34 rfl o119 hr120 ?_
        obtain ⟨Q121, K123, B⟩ := B
        refine z_cSV1 (ν := mX10_half) 114 rfl rfl fX10_half gX10_312 (Nat.le_of_ble_eq_true rfl) K123 (fun h122 q => ?_)
        have B := B h122 q
        refine z_aload_n 115 rfl rfl ?_
        obtain ⟨o124, B⟩ := B
        obtain ⟨r125, hr125, B⟩ := B
        refine z_getR 116 rfl lX10_37 rfl o124 hr125 ?_
        obtain ⟨Q126, K128, B⟩ := B
        refine z_cSV1 (ν := mX10_half) 117 rfl rfl fX10_half gX10_312 (Nat.le_of_ble_eq_true rfl) K128 (fun h127 q => ?_)
        have B := B h127 q
        refine z_aload_n 118 rfl rfl ?_
        obtain ⟨o129, B⟩ := B
        obtain ⟨r130, hr130, B⟩ := B
        refine z_getR 119 rfl lX10_40 rfl o129 hr130 ?_
        obtain ⟨Q131, K133, B⟩ := B
        refine z_cSV1 (ν := mX10_half) 120 rfl rfl fX10_half gX10_312 (Nat.le_of_ble_eq_true rfl) K133 (fun h132 q => ?_)
        have B := B h132 q
        refine z_aload_n 121 rfl rfl ?_
        obtain ⟨o134, B⟩ := B
        obtain ⟨r135, hr135, B⟩ := B
        refine z_getR 122 rfl lX10_43 rfl o134 hr135 ?_
        obtain ⟨Q136, K138, B⟩ := B
        refine z_cSV1 (ν := mX10_half) 123 rfl rfl fX10_half gX10_312 (Nat.le_of_ble_eq_true rfl) K138 (fun h137 q => ?_)
        have B := B h137 q
        refine z_aload_n 124 rfl rfl ?_
        obtain ⟨o139, B⟩ := B
        obtain ⟨r140, hr140, B⟩ := B
        refine z_getR 125 rfl lX10_46 rfl o139 hr140 ?_
        obtain ⟨Q141, K143, B⟩ := B
        refine z_cSV1 (ν := mX10_half) 126 rfl rfl fX10_half gX10_312 (Nat.le_of_ble_eq_true rfl) K143 (fun h142 q => ?_)
        have B := B h142 q
        refine z_aload_n 127 rfl rfl ?_
        obtain ⟨o144, B⟩ := B
        obtain ⟨r145, hr145, B⟩ := B
        refine z_getR 128 rfl lX10_49 rfl o144 hr145 ?_
        obtain ⟨Q146, K148, B⟩ := B
        refine z_cSV1 (ν := mX10_half) 129 rfl rfl fX10_half gX10_312 (Nat.le_of_ble_eq_true rfl) K148 (fun h147 q => ?_)
        have B := B h147 q
        refine z_aload_n 130 rfl rfl ?_
        obtain ⟨o149, B⟩ := B
        obtain ⟨r150, hr150, B⟩ := B
        refine z_getR 131 rfl lX10_52 rfl o149 hr150 ?_
        obtain ⟨Q151, K153, B⟩ := B
        refine z_cSV1 (ν := mX10_half) 132 rfl rfl fX10_half gX10_312 (Nat.le_of_ble_eq_true rfl) K153 (fun h152 q => ?_)
        have B := B h152 q
        refine z_aload_n 133 rfl rfl ?_
        obtain ⟨o154, B⟩ := B
        obtain ⟨r155, hr155, B⟩ := B
        refine z_getR 134 rfl lX10_55 rfl o154 hr155 ?_
        obtain ⟨Q156, K158, B⟩ := B
        refine z_cSV1 (ν := mX10_half) 135 rfl rfl fX10_half gX10_312 (Nat.le_of_ble_eq_true rfl) K158 (fun h157 q => ?_)
        have B := B h157 q
        refine z_aload_n 136 rfl rfl ?_
        refine z_iconst (v := 0) 137 rfl (by decide) ?_
        obtain ⟨o159, B⟩ := B
        refine z_putI 138 rfl lX10_316 ⟨_, _, _, rfl, rfl⟩ rfl rfl rfl o159 ?_
        refine z_aload_n 139 rfl rfl ?_
        refine z_iconst (v := -1) 140 rfl (by decide) ?_
        refine z_putI 141 rfl lX10_135 ⟨_, _, _, rfl, rfl⟩ rfl rfl rfl o159 ?_
        refine z_aload_n 142 rfl rfl ?_
        refine z_iconst (v := 0) 143 rfl (by decide) ?_
        refine z_putI 144 rfl lX10_319 ⟨_, _, _, rfl, rfl⟩ rfl rfl rfl o159 ?_
        refine z_aload_n 145 rfl rfl ?_
        refine z_iconst (v := 0) 146 rfl (by decide) ?_
        refine z_putI 147 rfl lX10_323 ⟨_, _, _, rfl, rfl⟩ rfl rfl rfl o159 ?_
        refine z_aload_n 148 rfl rfl ?_
        obtain ⟨Q160, K162, B⟩ := B
        refine z_cVV0 (ν := mX10_begins) 149 rfl rfl fX10_begins gX10_157 ⟨_, rfl, rfl⟩ (by decide) o159 (Nat.le_of_ble_eq_true rfl) K162 (fun h161 q => ?_)
        have B := B h161 q
        refine z_aload_n 150 rfl rfl ?_
        obtain ⟨o163, B⟩ := B
        refine z_getI 151 rfl lX10_270 rfl o163 ?_
        exact z_iret 152 rfl rfl rfl ⟨rfl, rfl⟩ ⟨_, rfl, B⟩
      · have B := B.2 c84
        refine z_iconst (v := -1) 89 rfl (by decide) ?_
        exact z_iret 90 rfl rfl rfl ⟨rfl, rfl⟩ ⟨_, rfl, B⟩
    · have B := B.2 c83
      refine z_aload_n 75 rfl rfl ?_
      obtain ⟨Q164, K166, B⟩ := B
      refine z_cVV0 (ν := mX10_line) 76 rfl rfl fX10_line gX10_306 ⟨_, rfl, rfl⟩ (by decide) o1 (Nat.le_of_ble_eq_true rfl) K166 (fun h165 q => ?_)
      have B := B h165 q
      refine z_goto 77 117 rfl (by decide) ?_
      exact B
set_option maxRecDepth 100000 in
set_option maxHeartbeats 4000000 in
theorem sg_X10_fault_0 {G : zG} {d : Nat} {h : zMem} {Q : Int32 → zMem → Prop} {a0 : Nat} {x1 : Int32} (B : zO h a0 9 ∧ (¬ x1 = 0 → (¬ x1 = (1 : Int32) → Q (-1 : Int32) (zsI h a0 0 (0 : Int32))) ∧ (x1 = (1 : Int32) → Q (zI (zsI h a0 0 (0 : Int32)) a0 28) (zsI h a0 0 (0 : Int32)))) ∧ (x1 = 0 → Q (zI (zsI h a0 0 (0 : Int32)) a0 27) (zsI h a0 0 (0 : Int32)))) : zg G mX10_fault d 0 [.ref a0, .int x1] [] h (zPI Q) := by
  refine z_aload_n 0 rfl rfl ?_
  refine z_iconst (v := 0) 1 rfl (by decide) ?_
  obtain ⟨o1, B⟩ := B
  refine z_putI 2 rfl lX10_160 ⟨_, _, _, rfl, rfl⟩ rfl rfl rfl o1 ?_
  refine z_iload_n 3 rfl rfl ?_
  refine z_if_ne 4 16 rfl (by decide) ⟨fun c2 => ?_, fun c2 => ?_⟩
  · have B := B.1 c2
    refine z_iload_n 8 rfl rfl ?_
    refine z_iconst (v := 1) 9 rfl (by decide) ?_
    refine z_icmp_ne 10 28 rfl (by decide) ⟨fun c3 => ?_, fun c3 => ?_⟩
    · have B := B.1 c3
      refine z_iconst (v := -1) 14 rfl (by decide) ?_
      exact z_iret 15 rfl rfl rfl ⟨rfl, rfl⟩ ⟨_, rfl, B⟩
    · have B := B.2 c3
      refine z_aload_n 11 rfl rfl ?_
      refine z_getI 12 rfl lX10_58 rfl o1 ?_
      refine z_goto 13 29 rfl (by decide) ?_
      exact z_iret 15 rfl rfl rfl ⟨rfl, rfl⟩ ⟨_, rfl, B⟩
  · have B := B.2 c2
    refine z_aload_n 5 rfl rfl ?_
    refine z_getI 6 rfl lX10_309 rfl o1 ?_
    refine z_goto 7 29 rfl (by decide) ?_
    exact z_iret 15 rfl rfl rfl ⟨rfl, rfl⟩ ⟨_, rfl, B⟩
theorem cn_X10_fault {G : zG} {d : Nat} {h : zMem} {Q : Int32 → zMem → Prop} {a0 : Nat} {x1 : Int32} (B : zg G mX10_fault d 0 [.ref a0, .int x1] [] h (zPI Q)) : zConI G mX10_fault d [.ref a0, .int x1] h Q := zcon0 (by decide +kernel) eX10_fault (Nat.le_of_ble_eq_true rfl) rfl B
theorem zsw_X10_named_6 {x : Int32} (z1 : ¬ x.toInt < 0) (z2 : ¬ 3 < x.toInt) (c0 : ¬ x = 0) (c1 : ¬ x = 1) (c2 : ¬ x = 2) (c3 : ¬ x = 3) : (#[30, 46, 62, 78] : Array Int)[(x.toInt - 0).toNat]? = some 94 := by
  obtain ⟨v, hv⟩ : ∃ v : Int, v = x.toInt := ⟨_, rfl⟩
  have c0 : v ≠ 0 := fun e => c0 (Int32.toInt_inj.mp (by rw [← hv, e]; decide))
  have c1 : v ≠ 1 := fun e => c1 (Int32.toInt_inj.mp (by rw [← hv, e]; decide))
  have c2 : v ≠ 2 := fun e => c2 (Int32.toInt_inj.mp (by rw [← hv, e]; decide))
  have c3 : v ≠ 3 := fun e => c3 (Int32.toInt_inj.mp (by rw [← hv, e]; decide))
  rw [← hv] at z1 z2 ⊢
  rcases (show v = 0 ∨ v = 1 ∨ v = 2 ∨ v = 3 by omega) with rfl | rfl | rfl | rfl
  all_goals first | exact absurd rfl (by assumption) | decide
set_option maxRecDepth 100000 in
set_option maxHeartbeats 4000000 in
theorem sg_X10_named_0 {G : zG} {d : Nat} {h : zMem} {Q : Int32 → zMem → Prop} {a0 : Nat} {x1 : Int32} {x2 : Int32} (B : zO h a0 9 ∧ (x1 = 0 → ∃ r2, zR h a0 4 = some r2 ∧ ∃ r3, zR h a0 3 = some r3 ∧ zO h r3 100 ∧ vp_in (0 : Int32) (zLen h r3) ∧ ∃ Q6 : Int32 → zMem → Prop, zConI G mX10_found d [.ref r2, .int (0 : Int32), .int (zI (zsI h a0 0 (0 : Int32)) r3 (0 : Int32).toNatClampNeg), .int x2] (zsI h a0 0 (0 : Int32)) Q6 ∧ (∀ v9 h7, Q6 v9 h7 → Q v9 h7)) ∧ (x1 = 1 → ∃ r10, zR h a0 6 = some r10 ∧ ∃ r11, zR h a0 3 = some r11 ∧ zO h r11 100 ∧ vp_in (1 : Int32) (zLen h r11) ∧ ∃ Q14 : Int32 → zMem → Prop, zConI G mX10_found d [.ref r10, .int (0 : Int32), .int (zI (zsI h a0 0 (0 : Int32)) r11 (1 : Int32).toNatClampNeg), .int x2] (zsI h a0 0 (0 : Int32)) Q14 ∧ (∀ v17 h15, Q14 v17 h15 → Q v17 h15)) ∧ (x1 = 2 → ∃ r18, zR h a0 9 = some r18 ∧ ∃ r19, zR h a0 3 = some r19 ∧ zO h r19 100 ∧ vp_in (3 : Int32) (zLen h r19) ∧ ∃ Q22 : Int32 → zMem → Prop, zConI G mX10_found d [.ref r18, .int (0 : Int32), .int (zI (zsI h a0 0 (0 : Int32)) r19 (3 : Int32).toNatClampNeg), .int x2] (zsI h a0 0 (0 : Int32)) Q22 ∧ (∀ v25 h23, Q22 v25 h23 → Q v25 h23)) ∧ (x1 = 3 → ∃ r26, zR h a0 11 = some r26 ∧ ∃ r27, zR h a0 3 = some r27 ∧ zO h r27 100 ∧ vp_in (4 : Int32) (zLen h r27) ∧ ∃ Q30 : Int32 → zMem → Prop, zConI G mX10_found d [.ref r26, .int (0 : Int32), .int (zI (zsI h a0 0 (0 : Int32)) r27 (4 : Int32).toNatClampNeg), .int x2] (zsI h a0 0 (0 : Int32)) Q30 ∧ (∀ v33 h31, Q30 v33 h31 → Q v33 h31)) ∧ (¬ x1 = 0 → ¬ x1 = 1 → ¬ x1 = 2 → ¬ x1 = 3 → Q (-1 : Int32) (zsI h a0 0 (0 : Int32)))) : zg G mX10_named (d + 1) 0 [.ref a0, .int x1, .int x2] [] h (zPI Q) := by
  refine z_aload_n 0 rfl rfl ?_
  refine z_iconst (v := 0) 1 rfl (by decide) ?_
  obtain ⟨o1, B⟩ := B
  refine z_putI 2 rfl lX10_160 ⟨_, _, _, rfl, rfl⟩ rfl rfl rfl o1 ?_
  refine z_iload_n 3 rfl rfl ?_
  by_cases c34_0 : x1 = 0
  · obtain ⟨B, -⟩ := B
    refine z_tableIn 4 36 rfl 0 (by rw [c34_0]; decide) (by decide) (by decide) rfl (by decide) ?_
    have B := B c34_0
    refine z_aload_n 5 rfl rfl ?_
    obtain ⟨r2, hr2, B⟩ := B
    refine z_getR 6 rfl lX10_16 rfl o1 hr2 ?_
    refine z_iconst (v := 0) 7 rfl (by decide) ?_
    refine z_aload_n 8 rfl rfl ?_
    obtain ⟨r3, hr3, B⟩ := B
    refine z_getR 9 rfl lX10_13 rfl o1 hr3 ?_
    refine z_iconst (v := 0) 10 rfl (by decide) ?_
    obtain ⟨o4, B⟩ := B
    obtain ⟨o5, B⟩ := B
    refine z_iald 11 rfl o4 o5 ?_
    refine z_iload_n 12 rfl rfl ?_
    obtain ⟨Q6, K8, B⟩ := B
    refine z_cSI4 (ν := mX10_found) 13 rfl rfl fX10_found gX10_226 (Nat.le_of_ble_eq_true rfl) K8 (fun v9 h7 q => ?_)
    have B := B v9 h7 q
    exact z_iret 14 rfl rfl rfl ⟨rfl, rfl⟩ ⟨_, rfl, B⟩
  obtain ⟨-, B⟩ := B
  by_cases c34_1 : x1 = 1
  · obtain ⟨B, -⟩ := B
    refine z_tableIn 4 52 rfl 1 (by rw [c34_1]; decide) (by decide) (by decide) rfl (by decide) ?_
    have B := B c34_1
    refine z_aload_n 15 rfl rfl ?_
    obtain ⟨r10, hr10, B⟩ := B
    refine z_getR 16 rfl lX10_22 rfl o1 hr10 ?_
    refine z_iconst (v := 0) 17 rfl (by decide) ?_
    refine z_aload_n 18 rfl rfl ?_
    obtain ⟨r11, hr11, B⟩ := B
    refine z_getR 19 rfl lX10_13 rfl o1 hr11 ?_
    refine z_iconst (v := 1) 20 rfl (by decide) ?_
    obtain ⟨o12, B⟩ := B
    obtain ⟨o13, B⟩ := B
    refine z_iald 21 rfl o12 o13 ?_
    refine z_iload_n 22 rfl rfl ?_
    obtain ⟨Q14, K16, B⟩ := B
    refine z_cSI4 (ν := mX10_found) 23 rfl rfl fX10_found gX10_226 (Nat.le_of_ble_eq_true rfl) K16 (fun v17 h15 q => ?_)
    have B := B v17 h15 q
    exact z_iret 24 rfl rfl rfl ⟨rfl, rfl⟩ ⟨_, rfl, B⟩
  obtain ⟨-, B⟩ := B
  by_cases c34_2 : x1 = 2
  · obtain ⟨B, -⟩ := B
    refine z_tableIn 4 68 rfl 2 (by rw [c34_2]; decide) (by decide) (by decide) rfl (by decide) ?_
    have B := B c34_2
    refine z_aload_n 25 rfl rfl ?_
    obtain ⟨r18, hr18, B⟩ := B
    refine z_getR 26 rfl lX10_31 rfl o1 hr18 ?_
    refine z_iconst (v := 0) 27 rfl (by decide) ?_
    refine z_aload_n 28 rfl rfl ?_
    obtain ⟨r19, hr19, B⟩ := B
    refine z_getR 29 rfl lX10_13 rfl o1 hr19 ?_
    refine z_iconst (v := 3) 30 rfl (by decide) ?_
    obtain ⟨o20, B⟩ := B
    obtain ⟨o21, B⟩ := B
    refine z_iald 31 rfl o20 o21 ?_
    refine z_iload_n 32 rfl rfl ?_
    obtain ⟨Q22, K24, B⟩ := B
    refine z_cSI4 (ν := mX10_found) 33 rfl rfl fX10_found gX10_226 (Nat.le_of_ble_eq_true rfl) K24 (fun v25 h23 q => ?_)
    have B := B v25 h23 q
    exact z_iret 34 rfl rfl rfl ⟨rfl, rfl⟩ ⟨_, rfl, B⟩
  obtain ⟨-, B⟩ := B
  by_cases c34_3 : x1 = 3
  · obtain ⟨B, -⟩ := B
    refine z_tableIn 4 84 rfl 3 (by rw [c34_3]; decide) (by decide) (by decide) rfl (by decide) ?_
    have B := B c34_3
    refine z_aload_n 35 rfl rfl ?_
    obtain ⟨r26, hr26, B⟩ := B
    refine z_getR 36 rfl lX10_37 rfl o1 hr26 ?_
    refine z_iconst (v := 0) 37 rfl (by decide) ?_
    refine z_aload_n 38 rfl rfl ?_
    obtain ⟨r27, hr27, B⟩ := B
    refine z_getR 39 rfl lX10_13 rfl o1 hr27 ?_
    refine z_iconst (v := 4) 40 rfl (by decide) ?_
    obtain ⟨o28, B⟩ := B
    obtain ⟨o29, B⟩ := B
    refine z_iald 41 rfl o28 o29 ?_
    refine z_iload_n 42 rfl rfl ?_
    obtain ⟨Q30, K32, B⟩ := B
    refine z_cSI4 (ν := mX10_found) 43 rfl rfl fX10_found gX10_226 (Nat.le_of_ble_eq_true rfl) K32 (fun v33 h31 q => ?_)
    have B := B v33 h31 q
    exact z_iret 44 rfl rfl rfl ⟨rfl, rfl⟩ ⟨_, rfl, B⟩
  obtain ⟨-, B⟩ := B
  have B := B c34_0 c34_1 c34_2 c34_3
  refine z_tableD 4 100 rfl (by decide) (by
    intro z1 z2
    refine zsw_X10_named_6 z1 z2 c34_0 c34_1 c34_2 c34_3) ?_
  refine z_iconst (v := -1) 45 rfl (by decide) ?_
  exact z_iret 46 rfl rfl rfl ⟨rfl, rfl⟩ ⟨_, rfl, B⟩
theorem cn_X10_named {G : zG} {d : Nat} {h : zMem} {Q : Int32 → zMem → Prop} {a0 : Nat} {x1 : Int32} {x2 : Int32} (B : zg G mX10_named (d + 1) 0 [.ref a0, .int x1, .int x2] [] h (zPI Q)) : zConI G mX10_named (d + 1) [.ref a0, .int x1, .int x2] h Q := zcon0 (by decide +kernel) eX10_named (Nat.le_of_ble_eq_true rfl) rfl B
set_option maxRecDepth 100000 in
set_option maxHeartbeats 4000000 in
theorem sg_X10_is_0 {G : zG} {d : Nat} {h : zMem} {Q : Int64 → zMem → Prop} {x0 : Int32} (B : (x0 = 0 → Q (0 : Int64) h) ∧ (¬ x0 = 0 → Q (1 : Int64) h)) : zg G mX10_is d 0 [.int x0] [] h (zPL Q) := by
  refine z_iload_n 0 rfl rfl ?_
  refine z_if_eq 1 8 rfl (by decide) ⟨fun c1 => ?_, fun c1 => ?_⟩
  · have B := B.1 c1
    refine z_lconst (v := 0) 4 rfl (by decide) ?_
    exact z_lret 5 rfl rfl ⟨rfl, rfl⟩ ⟨_, rfl, B⟩
  · have B := B.2 c1
    refine z_lconst (v := 1) 2 rfl (by decide) ?_
    refine z_goto 3 9 rfl (by decide) ?_
    exact z_lret 5 rfl rfl ⟨rfl, rfl⟩ ⟨_, rfl, B⟩
theorem cn_X10_is {G : zG} {d : Nat} {h : zMem} {Q : Int64 → zMem → Prop} {x0 : Int32} (B : zg G mX10_is d 0 [.int x0] [] h (zPL Q)) : zConL G mX10_is d [.int x0] h Q := zcon0 (by decide +kernel) eX10_is (Nat.le_of_ble_eq_true rfl) rfl B
theorem zlk_X10_works_70 {x : Int32} (c42 : ¬ x = 42) (c43 : ¬ x = 43) (c45 : ¬ x = 45) (c47 : ¬ x = 47) (c60 : ¬ x = 60) (c61 : ¬ x = 61) (c62 : ¬ x = 62) (c256 : ¬ x = 256) (c257 : ¬ x = 257) (c258 : ¬ x = 258) (c261 : ¬ x = 261) : Op.lookupswitch.offset (#[(42, 116), (43, 98), (45, 107), (47, 151), (60, 168), (61, 208), (62, 188), (256, 228), (257, 268), (258, 248), (261, 288)] : Array (Int × Int)).toList 314 x.toInt = 314 := by
  have c42 : ¬ (42 : Int) = x.toInt := fun e => c42 (Int32.toInt_inj.mp (by rw [← e]; decide))
  have c43 : ¬ (43 : Int) = x.toInt := fun e => c43 (Int32.toInt_inj.mp (by rw [← e]; decide))
  have c45 : ¬ (45 : Int) = x.toInt := fun e => c45 (Int32.toInt_inj.mp (by rw [← e]; decide))
  have c47 : ¬ (47 : Int) = x.toInt := fun e => c47 (Int32.toInt_inj.mp (by rw [← e]; decide))
  have c60 : ¬ (60 : Int) = x.toInt := fun e => c60 (Int32.toInt_inj.mp (by rw [← e]; decide))
  have c61 : ¬ (61 : Int) = x.toInt := fun e => c61 (Int32.toInt_inj.mp (by rw [← e]; decide))
  have c62 : ¬ (62 : Int) = x.toInt := fun e => c62 (Int32.toInt_inj.mp (by rw [← e]; decide))
  have c256 : ¬ (256 : Int) = x.toInt := fun e => c256 (Int32.toInt_inj.mp (by rw [← e]; decide))
  have c257 : ¬ (257 : Int) = x.toInt := fun e => c257 (Int32.toInt_inj.mp (by rw [← e]; decide))
  have c258 : ¬ (258 : Int) = x.toInt := fun e => c258 (Int32.toInt_inj.mp (by rw [← e]; decide))
  have c261 : ¬ (261 : Int) = x.toInt := fun e => c261 (Int32.toInt_inj.mp (by rw [← e]; decide))
  simp [Op.lookupswitch.offset, c42, Ne.symm c42, c43, Ne.symm c43, c45, Ne.symm c45, c47, Ne.symm c47, c60, Ne.symm c60, c61, Ne.symm c61, c62, Ne.symm c62, c256, Ne.symm c256, c257, Ne.symm c257, c258, Ne.symm c258, c261, Ne.symm c261]
set_option maxRecDepth 100000 in
set_option maxHeartbeats 4000000 in
theorem sg_X10_works_0 {G : zG} {d : Nat} {h : zMem} {Q : Int32 → zMem → Prop} {a0 : Nat} {x1 : Int32} (B : zO h a0 9 ∧ ∃ r2, zR h a0 32 = some r2 ∧ zO h r2 101 ∧ vp_in ((zI h a0 33) - (1 : Int32)) (zLen h r2) ∧ (¬ x1 = (260 : Int32) → vp_in ((zI h a0 33) - (2 : Int32)) (zLen h r2) ∧ (x1 = 42 → ((lg_cmp (zL h r2 ((zI h a0 33) - (2 : Int32)).toNatClampNeg) (0 : Int64)) = 0 → zg G mX10_works (d + 1) 212 [.ref a0, .int x1, .long (zL h r2 ((zI h a0 33) - (1 : Int32)).toNatClampNeg), zU, .long (zL h r2 ((zI h a0 33) - (2 : Int32)).toNatClampNeg), zU, zU, zU] [] (zsI h a0 33 ((zI h a0 33) - (1 : Int32))) (zPI Q)) ∧ (¬ (lg_cmp (zL h r2 ((zI h a0 33) - (2 : Int32)).toNatClampNeg) (0 : Int64)) = 0 → ¬ (if 0 < (zL h r2 ((zI h a0 33) - (2 : Int32)).toNatClampNeg) then (zL h r2 ((zI h a0 33) - (2 : Int32)).toNatClampNeg) else if (zL h r2 ((zI h a0 33) - (2 : Int32)).toNatClampNeg) = 0 then (zL h r2 ((zI h a0 33) - (2 : Int32)).toNatClampNeg) else -(zL h r2 ((zI h a0 33) - (2 : Int32)).toNatClampNeg)) = 0 ∧ ((lg_cmp (if 0 < (zL h r2 ((zI h a0 33) - (1 : Int32)).toNatClampNeg) then (zL h r2 ((zI h a0 33) - (1 : Int32)).toNatClampNeg) else if (zL h r2 ((zI h a0 33) - (1 : Int32)).toNatClampNeg) = 0 then (zL h r2 ((zI h a0 33) - (1 : Int32)).toNatClampNeg) else -(zL h r2 ((zI h a0 33) - (1 : Int32)).toNatClampNeg)) ((1000000000000 : Int64) / (if 0 < (zL h r2 ((zI h a0 33) - (2 : Int32)).toNatClampNeg) then (zL h r2 ((zI h a0 33) - (2 : Int32)).toNatClampNeg) else if (zL h r2 ((zI h a0 33) - (2 : Int32)).toNatClampNeg) = 0 then (zL h r2 ((zI h a0 33) - (2 : Int32)).toNatClampNeg) else -(zL h r2 ((zI h a0 33) - (2 : Int32)).toNatClampNeg)))) ≤ 0 → zg G mX10_works (d + 1) 212 [.ref a0, .int x1, .long (zL h r2 ((zI h a0 33) - (1 : Int32)).toNatClampNeg), zU, .long (zL h r2 ((zI h a0 33) - (2 : Int32)).toNatClampNeg), zU, zU, zU] [] (zsI h a0 33 ((zI h a0 33) - (1 : Int32))) (zPI Q)) ∧ (¬ (lg_cmp (if 0 < (zL h r2 ((zI h a0 33) - (1 : Int32)).toNatClampNeg) then (zL h r2 ((zI h a0 33) - (1 : Int32)).toNatClampNeg) else if (zL h r2 ((zI h a0 33) - (1 : Int32)).toNatClampNeg) = 0 then (zL h r2 ((zI h a0 33) - (1 : Int32)).toNatClampNeg) else -(zL h r2 ((zI h a0 33) - (1 : Int32)).toNatClampNeg)) ((1000000000000 : Int64) / (if 0 < (zL h r2 ((zI h a0 33) - (2 : Int32)).toNatClampNeg) then (zL h r2 ((zI h a0 33) - (2 : Int32)).toNatClampNeg) else if (zL h r2 ((zI h a0 33) - (2 : Int32)).toNatClampNeg) = 0 then (zL h r2 ((zI h a0 33) - (2 : Int32)).toNatClampNeg) else -(zL h r2 ((zI h a0 33) - (2 : Int32)).toNatClampNeg)))) ≤ 0 → Q (0 : Int32) (zsI h a0 33 ((zI h a0 33) - (1 : Int32)))))) ∧ (x1 = 43 → zg G mX10_works (d + 1) 407 [.ref a0, .int x1, .long (zL h r2 ((zI h a0 33) - (1 : Int32)).toNatClampNeg), zU, .long (zL h r2 ((zI h a0 33) - (2 : Int32)).toNatClampNeg), zU, .long ((zL h r2 ((zI h a0 33) - (2 : Int32)).toNatClampNeg) + (zL h r2 ((zI h a0 33) - (1 : Int32)).toNatClampNeg)), zU] [] (zsI h a0 33 ((zI h a0 33) - (1 : Int32))) (zPI Q)) ∧ (x1 = 45 → zg G mX10_works (d + 1) 407 [.ref a0, .int x1, .long (zL h r2 ((zI h a0 33) - (1 : Int32)).toNatClampNeg), zU, .long (zL h r2 ((zI h a0 33) - (2 : Int32)).toNatClampNeg), zU, .long ((zL h r2 ((zI h a0 33) - (2 : Int32)).toNatClampNeg) - (zL h r2 ((zI h a0 33) - (1 : Int32)).toNatClampNeg)), zU] [] (zsI h a0 33 ((zI h a0 33) - (1 : Int32))) (zPI Q)) ∧ (x1 = 47 → (¬ (lg_cmp (zL h r2 ((zI h a0 33) - (1 : Int32)).toNatClampNeg) (0 : Int64)) = 0 → ¬ (zL h r2 ((zI h a0 33) - (1 : Int32)).toNatClampNeg) = 0 ∧ zg G mX10_works (d + 1) 407 [.ref a0, .int x1, .long (zL h r2 ((zI h a0 33) - (1 : Int32)).toNatClampNeg), zU, .long (zL h r2 ((zI h a0 33) - (2 : Int32)).toNatClampNeg), zU, .long ((zL h r2 ((zI h a0 33) - (2 : Int32)).toNatClampNeg) / (zL h r2 ((zI h a0 33) - (1 : Int32)).toNatClampNeg)), zU] [] (zsI h a0 33 ((zI h a0 33) - (1 : Int32))) (zPI Q)) ∧ ((lg_cmp (zL h r2 ((zI h a0 33) - (1 : Int32)).toNatClampNeg) (0 : Int64)) = 0 → Q (0 : Int32) (zsI h a0 33 ((zI h a0 33) - (1 : Int32))))) ∧ (x1 = 60 → (0 ≤ (lg_cmp (zL h r2 ((zI h a0 33) - (2 : Int32)).toNatClampNeg) (zL h r2 ((zI h a0 33) - (1 : Int32)).toNatClampNeg)) → zg G mX10_works (d + 1) 250 [.ref a0, .int x1, .long (zL h r2 ((zI h a0 33) - (1 : Int32)).toNatClampNeg), zU, .long (zL h r2 ((zI h a0 33) - (2 : Int32)).toNatClampNeg), zU, zU, zU] [.int (0 : Int32)] (zsI h a0 33 ((zI h a0 33) - (1 : Int32))) (zPI Q)) ∧ (¬ 0 ≤ (lg_cmp (zL h r2 ((zI h a0 33) - (2 : Int32)).toNatClampNeg) (zL h r2 ((zI h a0 33) - (1 : Int32)).toNatClampNeg)) → zg G mX10_works (d + 1) 250 [.ref a0, .int x1, .long (zL h r2 ((zI h a0 33) - (1 : Int32)).toNatClampNeg), zU, .long (zL h r2 ((zI h a0 33) - (2 : Int32)).toNatClampNeg), zU, zU, zU] [.int (1 : Int32)] (zsI h a0 33 ((zI h a0 33) - (1 : Int32))) (zPI Q))) ∧ (x1 = 61 → (¬ (lg_cmp (zL h r2 ((zI h a0 33) - (2 : Int32)).toNatClampNeg) (zL h r2 ((zI h a0 33) - (1 : Int32)).toNatClampNeg)) = 0 → zg G mX10_works (d + 1) 290 [.ref a0, .int x1, .long (zL h r2 ((zI h a0 33) - (1 : Int32)).toNatClampNeg), zU, .long (zL h r2 ((zI h a0 33) - (2 : Int32)).toNatClampNeg), zU, zU, zU] [.int (0 : Int32)] (zsI h a0 33 ((zI h a0 33) - (1 : Int32))) (zPI Q)) ∧ ((lg_cmp (zL h r2 ((zI h a0 33) - (2 : Int32)).toNatClampNeg) (zL h r2 ((zI h a0 33) - (1 : Int32)).toNatClampNeg)) = 0 → zg G mX10_works (d + 1) 290 [.ref a0, .int x1, .long (zL h r2 ((zI h a0 33) - (1 : Int32)).toNatClampNeg), zU, .long (zL h r2 ((zI h a0 33) - (2 : Int32)).toNatClampNeg), zU, zU, zU] [.int (1 : Int32)] (zsI h a0 33 ((zI h a0 33) - (1 : Int32))) (zPI Q))) ∧ (x1 = 62 → ((lg_cmp (zL h r2 ((zI h a0 33) - (2 : Int32)).toNatClampNeg) (zL h r2 ((zI h a0 33) - (1 : Int32)).toNatClampNeg)) ≤ 0 → zg G mX10_works (d + 1) 270 [.ref a0, .int x1, .long (zL h r2 ((zI h a0 33) - (1 : Int32)).toNatClampNeg), zU, .long (zL h r2 ((zI h a0 33) - (2 : Int32)).toNatClampNeg), zU, zU, zU] [.int (0 : Int32)] (zsI h a0 33 ((zI h a0 33) - (1 : Int32))) (zPI Q)) ∧ (¬ (lg_cmp (zL h r2 ((zI h a0 33) - (2 : Int32)).toNatClampNeg) (zL h r2 ((zI h a0 33) - (1 : Int32)).toNatClampNeg)) ≤ 0 → zg G mX10_works (d + 1) 270 [.ref a0, .int x1, .long (zL h r2 ((zI h a0 33) - (1 : Int32)).toNatClampNeg), zU, .long (zL h r2 ((zI h a0 33) - (2 : Int32)).toNatClampNeg), zU, zU, zU] [.int (1 : Int32)] (zsI h a0 33 ((zI h a0 33) - (1 : Int32))) (zPI Q))) ∧ (x1 = 256 → (0 < (lg_cmp (zL h r2 ((zI h a0 33) - (2 : Int32)).toNatClampNeg) (zL h r2 ((zI h a0 33) - (1 : Int32)).toNatClampNeg)) → zg G mX10_works (d + 1) 310 [.ref a0, .int x1, .long (zL h r2 ((zI h a0 33) - (1 : Int32)).toNatClampNeg), zU, .long (zL h r2 ((zI h a0 33) - (2 : Int32)).toNatClampNeg), zU, zU, zU] [.int (0 : Int32)] (zsI h a0 33 ((zI h a0 33) - (1 : Int32))) (zPI Q)) ∧ (¬ 0 < (lg_cmp (zL h r2 ((zI h a0 33) - (2 : Int32)).toNatClampNeg) (zL h r2 ((zI h a0 33) - (1 : Int32)).toNatClampNeg)) → zg G mX10_works (d + 1) 310 [.ref a0, .int x1, .long (zL h r2 ((zI h a0 33) - (1 : Int32)).toNatClampNeg), zU, .long (zL h r2 ((zI h a0 33) - (2 : Int32)).toNatClampNeg), zU, zU, zU] [.int (1 : Int32)] (zsI h a0 33 ((zI h a0 33) - (1 : Int32))) (zPI Q))) ∧ (x1 = 257 → ((lg_cmp (zL h r2 ((zI h a0 33) - (2 : Int32)).toNatClampNeg) (zL h r2 ((zI h a0 33) - (1 : Int32)).toNatClampNeg)) = 0 → zg G mX10_works (d + 1) 350 [.ref a0, .int x1, .long (zL h r2 ((zI h a0 33) - (1 : Int32)).toNatClampNeg), zU, .long (zL h r2 ((zI h a0 33) - (2 : Int32)).toNatClampNeg), zU, zU, zU] [.int (0 : Int32)] (zsI h a0 33 ((zI h a0 33) - (1 : Int32))) (zPI Q)) ∧ (¬ (lg_cmp (zL h r2 ((zI h a0 33) - (2 : Int32)).toNatClampNeg) (zL h r2 ((zI h a0 33) - (1 : Int32)).toNatClampNeg)) = 0 → zg G mX10_works (d + 1) 350 [.ref a0, .int x1, .long (zL h r2 ((zI h a0 33) - (1 : Int32)).toNatClampNeg), zU, .long (zL h r2 ((zI h a0 33) - (2 : Int32)).toNatClampNeg), zU, zU, zU] [.int (1 : Int32)] (zsI h a0 33 ((zI h a0 33) - (1 : Int32))) (zPI Q))) ∧ (x1 = 258 → ((lg_cmp (zL h r2 ((zI h a0 33) - (2 : Int32)).toNatClampNeg) (zL h r2 ((zI h a0 33) - (1 : Int32)).toNatClampNeg)) < 0 → zg G mX10_works (d + 1) 330 [.ref a0, .int x1, .long (zL h r2 ((zI h a0 33) - (1 : Int32)).toNatClampNeg), zU, .long (zL h r2 ((zI h a0 33) - (2 : Int32)).toNatClampNeg), zU, zU, zU] [.int (0 : Int32)] (zsI h a0 33 ((zI h a0 33) - (1 : Int32))) (zPI Q)) ∧ (¬ (lg_cmp (zL h r2 ((zI h a0 33) - (2 : Int32)).toNatClampNeg) (zL h r2 ((zI h a0 33) - (1 : Int32)).toNatClampNeg)) < 0 → zg G mX10_works (d + 1) 330 [.ref a0, .int x1, .long (zL h r2 ((zI h a0 33) - (1 : Int32)).toNatClampNeg), zU, .long (zL h r2 ((zI h a0 33) - (2 : Int32)).toNatClampNeg), zU, zU, zU] [.int (1 : Int32)] (zsI h a0 33 ((zI h a0 33) - (1 : Int32))) (zPI Q))) ∧ (x1 = 261 → ((lg_cmp (zL h r2 ((zI h a0 33) - (2 : Int32)).toNatClampNeg) (0 : Int64)) = 0 → zg G mX10_works (d + 1) 375 [.ref a0, .int x1, .long (zL h r2 ((zI h a0 33) - (1 : Int32)).toNatClampNeg), zU, .long (zL h r2 ((zI h a0 33) - (2 : Int32)).toNatClampNeg), zU, zU, zU] [] (zsI h a0 33 ((zI h a0 33) - (1 : Int32))) (zPI Q)) ∧ (¬ (lg_cmp (zL h r2 ((zI h a0 33) - (2 : Int32)).toNatClampNeg) (0 : Int64)) = 0 → ((lg_cmp (zL h r2 ((zI h a0 33) - (1 : Int32)).toNatClampNeg) (0 : Int64)) = 0 → zg G mX10_works (d + 1) 375 [.ref a0, .int x1, .long (zL h r2 ((zI h a0 33) - (1 : Int32)).toNatClampNeg), zU, .long (zL h r2 ((zI h a0 33) - (2 : Int32)).toNatClampNeg), zU, zU, zU] [] (zsI h a0 33 ((zI h a0 33) - (1 : Int32))) (zPI Q)) ∧ (¬ (lg_cmp (zL h r2 ((zI h a0 33) - (1 : Int32)).toNatClampNeg) (0 : Int64)) = 0 → ∃ Q20 : Int64 → zMem → Prop, zConL G mX10_is d [.int (1 : Int32)] (zsI h a0 33 ((zI h a0 33) - (1 : Int32))) Q20 ∧ (∀ v23 h21, Q20 v23 h21 → zg G mX10_works (d + 1) 407 [.ref a0, .int x1, .long (zL h r2 ((zI h a0 33) - (1 : Int32)).toNatClampNeg), zU, .long (zL h r2 ((zI h a0 33) - (2 : Int32)).toNatClampNeg), zU, .long v23, zU] [] h21 (zPI Q))))) ∧ (¬ x1 = 42 → ¬ x1 = 43 → ¬ x1 = 45 → ¬ x1 = 47 → ¬ x1 = 60 → ¬ x1 = 61 → ¬ x1 = 62 → ¬ x1 = 256 → ¬ x1 = 257 → ¬ x1 = 258 → ¬ x1 = 261 → (¬ (lg_cmp (zL h r2 ((zI h a0 33) - (2 : Int32)).toNatClampNeg) (0 : Int64)) = 0 → zg G mX10_works (d + 1) 397 [.ref a0, .int x1, .long (zL h r2 ((zI h a0 33) - (1 : Int32)).toNatClampNeg), zU, .long (zL h r2 ((zI h a0 33) - (2 : Int32)).toNatClampNeg), zU, zU, zU] [] (zsI h a0 33 ((zI h a0 33) - (1 : Int32))) (zPI Q)) ∧ ((lg_cmp (zL h r2 ((zI h a0 33) - (2 : Int32)).toNatClampNeg) (0 : Int64)) = 0 → ((lg_cmp (zL h r2 ((zI h a0 33) - (1 : Int32)).toNatClampNeg) (0 : Int64)) = 0 → ∃ Q26 : Int64 → zMem → Prop, zConL G mX10_is d [.int (0 : Int32)] (zsI h a0 33 ((zI h a0 33) - (1 : Int32))) Q26 ∧ (∀ v29 h27, Q26 v29 h27 → zg G mX10_works (d + 1) 407 [.ref a0, .int x1, .long (zL h r2 ((zI h a0 33) - (1 : Int32)).toNatClampNeg), zU, .long (zL h r2 ((zI h a0 33) - (2 : Int32)).toNatClampNeg), zU, .long v29, zU] [] h27 (zPI Q))) ∧ (¬ (lg_cmp (zL h r2 ((zI h a0 33) - (1 : Int32)).toNatClampNeg) (0 : Int64)) = 0 → zg G mX10_works (d + 1) 397 [.ref a0, .int x1, .long (zL h r2 ((zI h a0 33) - (1 : Int32)).toNatClampNeg), zU, .long (zL h r2 ((zI h a0 33) - (2 : Int32)).toNatClampNeg), zU, zU, zU] [] (zsI h a0 33 ((zI h a0 33) - (1 : Int32))) (zPI Q))))) ∧ (x1 = (260 : Int32) → (¬ (lg_cmp (zL h r2 ((zI h a0 33) - (1 : Int32)).toNatClampNeg) (0 : Int64)) = 0 → zg G mX10_works (d + 1) 40 [.ref a0, .int x1, .long (zL h r2 ((zI h a0 33) - (1 : Int32)).toNatClampNeg), zU, zU, zU, zU, zU] [.int (0 : Int32), .int ((zI h a0 33) - (1 : Int32)), .ref r2] h (zPI Q)) ∧ ((lg_cmp (zL h r2 ((zI h a0 33) - (1 : Int32)).toNatClampNeg) (0 : Int64)) = 0 → zg G mX10_works (d + 1) 40 [.ref a0, .int x1, .long (zL h r2 ((zI h a0 33) - (1 : Int32)).toNatClampNeg), zU, zU, zU, zU, zU] [.int (1 : Int32), .int ((zI h a0 33) - (1 : Int32)), .ref r2] h (zPI Q)))) : zg G mX10_works (d + 1) 0 [.ref a0, .int x1, zU, zU, zU, zU, zU, zU] [] h (zPI Q) := by
  refine z_aload_n 0 rfl rfl ?_
  obtain ⟨o1, B⟩ := B
  obtain ⟨r2, hr2, B⟩ := B
  refine z_getR 1 rfl lX10_66 rfl o1 hr2 ?_
  refine z_aload_n 2 rfl rfl ?_
  refine z_getI 3 rfl lX10_326 rfl o1 ?_
  refine z_iconst (v := 1) 4 rfl (by decide) ?_
  refine z_isub 5 rfl ?_
  obtain ⟨o3, B⟩ := B
  obtain ⟨o4, B⟩ := B
  refine z_lald 6 rfl o3 o4 ?_
  refine z_lstore_n 7 rfl (by decide) rfl ?_
  refine z_iload_n 8 rfl rfl ?_
  refine z_sipush (v := 260) 9 rfl (by decide) ?_
  refine z_icmp_ne 10 46 rfl (by decide) ⟨fun c5 => ?_, fun c5 => ?_⟩
  · have B := B.1 c5
    refine z_aload_n 28 rfl rfl ?_
    refine z_getR 29 rfl lX10_66 rfl o1 hr2 ?_
    refine z_aload_n 30 rfl rfl ?_
    refine z_getI 31 rfl lX10_326 rfl o1 ?_
    refine z_iconst (v := 2) 32 rfl (by decide) ?_
    refine z_isub 33 rfl ?_
    obtain ⟨o6, B⟩ := B
    refine z_lald 34 rfl o3 o6 ?_
    refine z_lstore 35 rfl (by decide) rfl ?_
    refine z_aload_n 36 rfl rfl ?_
    refine z_dup 37 rfl rfl ?_
    refine z_getI 38 rfl lX10_326 rfl o1 ?_
    refine z_iconst (v := 1) 39 rfl (by decide) ?_
    refine z_isub 40 rfl ?_
    refine z_putI 41 rfl lX10_326 ⟨_, _, _, rfl, rfl⟩ rfl rfl rfl o1 ?_
    refine z_iload_n 42 rfl rfl ?_
    by_cases c30_42 : x1 = 42
    · obtain ⟨B, -⟩ := B
      refine z_lookup 43 186 rfl (by decide) (by rw [c30_42]; try rfl) (by decide) ?_
      have B := B c30_42
      refine z_lload 54 rfl rfl ?_
      refine z_lconst (v := 0) 55 rfl (by decide) ?_
      refine z_lcmp 56 rfl ?_
      refine z_if_eq 57 212 rfl (by decide) ⟨fun c7 => ?_, fun c7 => ?_⟩
      · have B := B.1 c7
        exact B
      · have B := B.2 c7
        refine z_lload_n 58 rfl rfl ?_
        refine z_labs 59 rfl rfl gmX10_333 (Nat.le_of_ble_eq_true rfl) ?_
        refine z_ldc2 60 rfl kX10_339 ?_
        refine z_lload 61 rfl rfl ?_
        refine z_labs 62 rfl rfl gmX10_333 (Nat.le_of_ble_eq_true rfl) ?_
        obtain ⟨o8, B⟩ := B
        refine z_ldiv 63 rfl o8 ?_
        refine z_lcmp 64 rfl ?_
        refine z_if_le 65 212 rfl (by decide) ⟨fun c9 => ?_, fun c9 => ?_⟩
        · have B := B.1 c9
          exact B
        · have B := B.2 c9
          refine z_iconst (v := 0) 66 rfl (by decide) ?_
          exact z_iret 67 rfl rfl rfl ⟨rfl, rfl⟩ ⟨_, rfl, B⟩
    obtain ⟨-, B⟩ := B
    by_cases c30_43 : x1 = 43
    · obtain ⟨B, -⟩ := B
      refine z_lookup 43 168 rfl (by decide) (by rw [c30_43]; try rfl) (by decide) ?_
      have B := B c30_43
      refine z_lload 44 rfl rfl ?_
      refine z_lload_n 45 rfl rfl ?_
      refine z_ladd 46 rfl ?_
      refine z_lstore 47 rfl (by decide) rfl ?_
      refine z_goto 48 407 rfl (by decide) ?_
      exact B
    obtain ⟨-, B⟩ := B
    by_cases c30_45 : x1 = 45
    · obtain ⟨B, -⟩ := B
      refine z_lookup 43 177 rfl (by decide) (by rw [c30_45]; try rfl) (by decide) ?_
      have B := B c30_45
      refine z_lload 49 rfl rfl ?_
      refine z_lload_n 50 rfl rfl ?_
      refine z_lsub 51 rfl ?_
      refine z_lstore 52 rfl (by decide) rfl ?_
      refine z_goto 53 407 rfl (by decide) ?_
      exact B
    obtain ⟨-, B⟩ := B
    by_cases c30_47 : x1 = 47
    · obtain ⟨B, -⟩ := B
      refine z_lookup 43 221 rfl (by decide) (by rw [c30_47]; try rfl) (by decide) ?_
      have B := B c30_47
      refine z_lload_n 73 rfl rfl ?_
      refine z_lconst (v := 0) 74 rfl (by decide) ?_
      refine z_lcmp 75 rfl ?_
      refine z_if_ne 76 229 rfl (by decide) ⟨fun c10 => ?_, fun c10 => ?_⟩
      · have B := B.1 c10
        refine z_lload 79 rfl rfl ?_
        refine z_lload_n 80 rfl rfl ?_
        obtain ⟨o11, B⟩ := B
        refine z_ldiv 81 rfl o11 ?_
        refine z_lstore 82 rfl (by decide) rfl ?_
        refine z_goto 83 407 rfl (by decide) ?_
        exact B
      · have B := B.2 c10
        refine z_iconst (v := 0) 77 rfl (by decide) ?_
        exact z_iret 78 rfl rfl rfl ⟨rfl, rfl⟩ ⟨_, rfl, B⟩
    obtain ⟨-, B⟩ := B
    by_cases c30_60 : x1 = 60
    · obtain ⟨B, -⟩ := B
      refine z_lookup 43 238 rfl (by decide) (by rw [c30_60]; try rfl) (by decide) ?_
      have B := B c30_60
      refine z_lload 84 rfl rfl ?_
      refine z_lload_n 85 rfl rfl ?_
      refine z_lcmp 86 rfl ?_
      refine z_if_ge 87 249 rfl (by decide) ⟨fun c12 => ?_, fun c12 => ?_⟩
      · have B := B.1 c12
        refine z_iconst (v := 0) 90 rfl (by decide) ?_
        exact B
      · have B := B.2 c12
        refine z_iconst (v := 1) 88 rfl (by decide) ?_
        refine z_goto 89 250 rfl (by decide) ?_
        exact B
    obtain ⟨-, B⟩ := B
    by_cases c30_61 : x1 = 61
    · obtain ⟨B, -⟩ := B
      refine z_lookup 43 278 rfl (by decide) (by rw [c30_61]; try rfl) (by decide) ?_
      have B := B c30_61
      refine z_lload 104 rfl rfl ?_
      refine z_lload_n 105 rfl rfl ?_
      refine z_lcmp 106 rfl ?_
      refine z_if_ne 107 289 rfl (by decide) ⟨fun c13 => ?_, fun c13 => ?_⟩
      · have B := B.1 c13
        refine z_iconst (v := 0) 110 rfl (by decide) ?_
        exact B
      · have B := B.2 c13
        refine z_iconst (v := 1) 108 rfl (by decide) ?_
        refine z_goto 109 290 rfl (by decide) ?_
        exact B
    obtain ⟨-, B⟩ := B
    by_cases c30_62 : x1 = 62
    · obtain ⟨B, -⟩ := B
      refine z_lookup 43 258 rfl (by decide) (by rw [c30_62]; try rfl) (by decide) ?_
      have B := B c30_62
      refine z_lload 94 rfl rfl ?_
      refine z_lload_n 95 rfl rfl ?_
      refine z_lcmp 96 rfl ?_
      refine z_if_le 97 269 rfl (by decide) ⟨fun c14 => ?_, fun c14 => ?_⟩
      · have B := B.1 c14
        refine z_iconst (v := 0) 100 rfl (by decide) ?_
        exact B
      · have B := B.2 c14
        refine z_iconst (v := 1) 98 rfl (by decide) ?_
        refine z_goto 99 270 rfl (by decide) ?_
        exact B
    obtain ⟨-, B⟩ := B
    by_cases c30_256 : x1 = 256
    · obtain ⟨B, -⟩ := B
      refine z_lookup 43 298 rfl (by decide) (by rw [c30_256]; try rfl) (by decide) ?_
      have B := B c30_256
      refine z_lload 114 rfl rfl ?_
      refine z_lload_n 115 rfl rfl ?_
      refine z_lcmp 116 rfl ?_
      refine z_if_gt 117 309 rfl (by decide) ⟨fun c15 => ?_, fun c15 => ?_⟩
      · have B := B.1 c15
        refine z_iconst (v := 0) 120 rfl (by decide) ?_
        exact B
      · have B := B.2 c15
        refine z_iconst (v := 1) 118 rfl (by decide) ?_
        refine z_goto 119 310 rfl (by decide) ?_
        exact B
    obtain ⟨-, B⟩ := B
    by_cases c30_257 : x1 = 257
    · obtain ⟨B, -⟩ := B
      refine z_lookup 43 338 rfl (by decide) (by rw [c30_257]; try rfl) (by decide) ?_
      have B := B c30_257
      refine z_lload 134 rfl rfl ?_
      refine z_lload_n 135 rfl rfl ?_
      refine z_lcmp 136 rfl ?_
      refine z_if_eq 137 349 rfl (by decide) ⟨fun c16 => ?_, fun c16 => ?_⟩
      · have B := B.1 c16
        refine z_iconst (v := 0) 140 rfl (by decide) ?_
        exact B
      · have B := B.2 c16
        refine z_iconst (v := 1) 138 rfl (by decide) ?_
        refine z_goto 139 350 rfl (by decide) ?_
        exact B
    obtain ⟨-, B⟩ := B
    by_cases c30_258 : x1 = 258
    · obtain ⟨B, -⟩ := B
      refine z_lookup 43 318 rfl (by decide) (by rw [c30_258]; try rfl) (by decide) ?_
      have B := B c30_258
      refine z_lload 124 rfl rfl ?_
      refine z_lload_n 125 rfl rfl ?_
      refine z_lcmp 126 rfl ?_
      refine z_if_lt 127 329 rfl (by decide) ⟨fun c17 => ?_, fun c17 => ?_⟩
      · have B := B.1 c17
        refine z_iconst (v := 0) 130 rfl (by decide) ?_
        exact B
      · have B := B.2 c17
        refine z_iconst (v := 1) 128 rfl (by decide) ?_
        refine z_goto 129 330 rfl (by decide) ?_
        exact B
    obtain ⟨-, B⟩ := B
    by_cases c30_261 : x1 = 261
    · obtain ⟨B, -⟩ := B
      refine z_lookup 43 358 rfl (by decide) (by rw [c30_261]; try rfl) (by decide) ?_
      have B := B c30_261
      refine z_lload 144 rfl rfl ?_
      refine z_lconst (v := 0) 145 rfl (by decide) ?_
      refine z_lcmp 146 rfl ?_
      refine z_if_eq 147 375 rfl (by decide) ⟨fun c18 => ?_, fun c18 => ?_⟩
      · have B := B.1 c18
        exact B
      · have B := B.2 c18
        refine z_lload_n 148 rfl rfl ?_
        refine z_lconst (v := 0) 149 rfl (by decide) ?_
        refine z_lcmp 150 rfl ?_
        refine z_if_eq 151 375 rfl (by decide) ⟨fun c19 => ?_, fun c19 => ?_⟩
        · have B := B.1 c19
          exact B
        · have B := B.2 c19
          refine z_iconst (v := 1) 152 rfl (by decide) ?_
          refine z_goto 153 376 rfl (by decide) ?_
          obtain ⟨Q20, K22, B⟩ := B
          refine z_cSL1 (ν := mX10_is) 155 rfl rfl fX10_is gX10_329 (Nat.le_of_ble_eq_true rfl) K22 (fun v23 h21 q => ?_)
          have B := B v23 h21 q
          refine z_lstore 156 rfl (by decide) rfl ?_
          refine z_goto 157 407 rfl (by decide) ?_
          exact B
    obtain ⟨-, B⟩ := B
    have B := B c30_42 c30_43 c30_45 c30_47 c30_60 c30_61 c30_62 c30_256 c30_257 c30_258 c30_261
    refine z_lookup 43 384 rfl (by decide) (zlk_X10_works_70 c30_42 c30_43 c30_45 c30_47 c30_60 c30_61 c30_62 c30_256 c30_257 c30_258 c30_261) (by decide) ?_
    refine z_lload 158 rfl rfl ?_
    refine z_lconst (v := 0) 159 rfl (by decide) ?_
    refine z_lcmp 160 rfl ?_
    refine z_if_ne 161 397 rfl (by decide) ⟨fun c24 => ?_, fun c24 => ?_⟩
    · have B := B.1 c24
      exact B
    · have B := B.2 c24
      refine z_lload_n 162 rfl rfl ?_
      refine z_lconst (v := 0) 163 rfl (by decide) ?_
      refine z_lcmp 164 rfl ?_
      refine z_if_eq 165 401 rfl (by decide) ⟨fun c25 => ?_, fun c25 => ?_⟩
      · have B := B.1 c25
        refine z_iconst (v := 0) 168 rfl (by decide) ?_
        obtain ⟨Q26, K28, B⟩ := B
        refine z_cSL1 (ν := mX10_is) 169 rfl rfl fX10_is gX10_329 (Nat.le_of_ble_eq_true rfl) K28 (fun v29 h27 q => ?_)
        have B := B v29 h27 q
        refine z_lstore 170 rfl (by decide) rfl ?_
        exact B
      · have B := B.2 c25
        exact B
  · have B := B.2 c5
    refine z_aload_n 11 rfl rfl ?_
    refine z_getR 12 rfl lX10_66 rfl o1 hr2 ?_
    refine z_aload_n 13 rfl rfl ?_
    refine z_getI 14 rfl lX10_326 rfl o1 ?_
    refine z_iconst (v := 1) 15 rfl (by decide) ?_
    refine z_isub 16 rfl ?_
    refine z_lload_n 17 rfl rfl ?_
    refine z_lconst (v := 0) 18 rfl (by decide) ?_
    refine z_lcmp 19 rfl ?_
    refine z_if_ne 20 39 rfl (by decide) ⟨fun c31 => ?_, fun c31 => ?_⟩
    · have B := B.1 c31
      refine z_iconst (v := 0) 23 rfl (by decide) ?_
      exact B
    · have B := B.2 c31
      refine z_iconst (v := 1) 21 rfl (by decide) ?_
      refine z_goto 22 40 rfl (by decide) ?_
      exact B
theorem cn_X10_works {G : zG} {d : Nat} {h : zMem} {Q : Int32 → zMem → Prop} {a0 : Nat} {x1 : Int32} (B : zg G mX10_works (d + 1) 0 [.ref a0, .int x1, zU, zU, zU, zU, zU, zU] [] h (zPI Q)) : zConI G mX10_works (d + 1) [.ref a0, .int x1] h Q := zcon0 (by decide +kernel) eX10_works (Nat.le_of_ble_eq_true rfl) rfl B
set_option maxRecDepth 100000 in
set_option maxHeartbeats 4000000 in
theorem sg_X10_works_40 {G : zG} {d : Nat} {h : zMem} {Q : Int32 → zMem → Prop} {a0 : Nat} {x1 : Int32} {y2 : Int64} {xs0 : Int32} {xs1 : Int32} {as2 : Nat} (B : ∃ Q1 : Int64 → zMem → Prop, zConL G mX10_is d [.int xs0] h Q1 ∧ (∀ v4 h2, Q1 v4 h2 → zO h2 as2 101 ∧ vp_in xs1 (zLen h2 as2) ∧ Q (1 : Int32) (zsL h2 as2 xs1.toNatClampNeg v4))) : zg G mX10_works (d + 1) 40 [.ref a0, .int x1, .long y2, zU, zU, zU, zU, zU] [.int xs0, .int xs1, .ref as2] h (zPI Q) := by
  obtain ⟨Q1, K3, B⟩ := B
  refine z_cSL1 (ν := mX10_is) 24 rfl rfl fX10_is gX10_329 (Nat.le_of_ble_eq_true rfl) K3 (fun v4 h2 q => ?_)
  have B := B v4 h2 q
  obtain ⟨o5, B⟩ := B
  obtain ⟨o6, B⟩ := B
  refine z_last 25 rfl o5 o6 ?_
  refine z_iconst (v := 1) 26 rfl (by decide) ?_
  exact z_iret 27 rfl rfl rfl ⟨rfl, rfl⟩ ⟨_, rfl, B⟩
set_option maxRecDepth 100000 in
set_option maxHeartbeats 4000000 in
theorem sg_X10_works_212 {G : zG} {d : Nat} {h : zMem} {Q : Int32 → zMem → Prop} {a0 : Nat} {x1 : Int32} {y2 : Int64} {y4 : Int64} (B : zg G mX10_works (d + 1) 407 [.ref a0, .int x1, .long y2, zU, .long y4, zU, .long (y4 * y2), zU] [] h (zPI Q)) : zg G mX10_works (d + 1) 212 [.ref a0, .int x1, .long y2, zU, .long y4, zU, zU, zU] [] h (zPI Q) := by
  refine z_lload 68 rfl rfl ?_
  refine z_lload_n 69 rfl rfl ?_
  refine z_lmul 70 rfl ?_
  refine z_lstore 71 rfl (by decide) rfl ?_
  refine z_goto 72 407 rfl (by decide) ?_
  exact B
set_option maxRecDepth 100000 in
set_option maxHeartbeats 4000000 in
theorem sg_X10_works_250 {G : zG} {d : Nat} {h : zMem} {Q : Int32 → zMem → Prop} {a0 : Nat} {x1 : Int32} {y2 : Int64} {y4 : Int64} {xs0 : Int32} (B : ∃ Q1 : Int64 → zMem → Prop, zConL G mX10_is d [.int xs0] h Q1 ∧ (∀ v4 h2, Q1 v4 h2 → zg G mX10_works (d + 1) 407 [.ref a0, .int x1, .long y2, zU, .long y4, zU, .long v4, zU] [] h2 (zPI Q))) : zg G mX10_works (d + 1) 250 [.ref a0, .int x1, .long y2, zU, .long y4, zU, zU, zU] [.int xs0] h (zPI Q) := by
  obtain ⟨Q1, K3, B⟩ := B
  refine z_cSL1 (ν := mX10_is) 91 rfl rfl fX10_is gX10_329 (Nat.le_of_ble_eq_true rfl) K3 (fun v4 h2 q => ?_)
  have B := B v4 h2 q
  refine z_lstore 92 rfl (by decide) rfl ?_
  refine z_goto 93 407 rfl (by decide) ?_
  exact B
set_option maxRecDepth 100000 in
set_option maxHeartbeats 4000000 in
theorem sg_X10_works_270 {G : zG} {d : Nat} {h : zMem} {Q : Int32 → zMem → Prop} {a0 : Nat} {x1 : Int32} {y2 : Int64} {y4 : Int64} {xs0 : Int32} (B : ∃ Q1 : Int64 → zMem → Prop, zConL G mX10_is d [.int xs0] h Q1 ∧ (∀ v4 h2, Q1 v4 h2 → zg G mX10_works (d + 1) 407 [.ref a0, .int x1, .long y2, zU, .long y4, zU, .long v4, zU] [] h2 (zPI Q))) : zg G mX10_works (d + 1) 270 [.ref a0, .int x1, .long y2, zU, .long y4, zU, zU, zU] [.int xs0] h (zPI Q) := by
  obtain ⟨Q1, K3, B⟩ := B
  refine z_cSL1 (ν := mX10_is) 101 rfl rfl fX10_is gX10_329 (Nat.le_of_ble_eq_true rfl) K3 (fun v4 h2 q => ?_)
  have B := B v4 h2 q
  refine z_lstore 102 rfl (by decide) rfl ?_
  refine z_goto 103 407 rfl (by decide) ?_
  exact B
set_option maxRecDepth 100000 in
set_option maxHeartbeats 4000000 in
theorem sg_X10_works_290 {G : zG} {d : Nat} {h : zMem} {Q : Int32 → zMem → Prop} {a0 : Nat} {x1 : Int32} {y2 : Int64} {y4 : Int64} {xs0 : Int32} (B : ∃ Q1 : Int64 → zMem → Prop, zConL G mX10_is d [.int xs0] h Q1 ∧ (∀ v4 h2, Q1 v4 h2 → zg G mX10_works (d + 1) 407 [.ref a0, .int x1, .long y2, zU, .long y4, zU, .long v4, zU] [] h2 (zPI Q))) : zg G mX10_works (d + 1) 290 [.ref a0, .int x1, .long y2, zU, .long y4, zU, zU, zU] [.int xs0] h (zPI Q) := by
  obtain ⟨Q1, K3, B⟩ := B
  refine z_cSL1 (ν := mX10_is) 111 rfl rfl fX10_is gX10_329 (Nat.le_of_ble_eq_true rfl) K3 (fun v4 h2 q => ?_)
  have B := B v4 h2 q
  refine z_lstore 112 rfl (by decide) rfl ?_
  refine z_goto 113 407 rfl (by decide) ?_
  exact B
set_option maxRecDepth 100000 in
set_option maxHeartbeats 4000000 in
theorem sg_X10_works_310 {G : zG} {d : Nat} {h : zMem} {Q : Int32 → zMem → Prop} {a0 : Nat} {x1 : Int32} {y2 : Int64} {y4 : Int64} {xs0 : Int32} (B : ∃ Q1 : Int64 → zMem → Prop, zConL G mX10_is d [.int xs0] h Q1 ∧ (∀ v4 h2, Q1 v4 h2 → zg G mX10_works (d + 1) 407 [.ref a0, .int x1, .long y2, zU, .long y4, zU, .long v4, zU] [] h2 (zPI Q))) : zg G mX10_works (d + 1) 310 [.ref a0, .int x1, .long y2, zU, .long y4, zU, zU, zU] [.int xs0] h (zPI Q) := by
  obtain ⟨Q1, K3, B⟩ := B
  refine z_cSL1 (ν := mX10_is) 121 rfl rfl fX10_is gX10_329 (Nat.le_of_ble_eq_true rfl) K3 (fun v4 h2 q => ?_)
  have B := B v4 h2 q
  refine z_lstore 122 rfl (by decide) rfl ?_
  refine z_goto 123 407 rfl (by decide) ?_
  exact B
set_option maxRecDepth 100000 in
set_option maxHeartbeats 4000000 in
theorem sg_X10_works_330 {G : zG} {d : Nat} {h : zMem} {Q : Int32 → zMem → Prop} {a0 : Nat} {x1 : Int32} {y2 : Int64} {y4 : Int64} {xs0 : Int32} (B : ∃ Q1 : Int64 → zMem → Prop, zConL G mX10_is d [.int xs0] h Q1 ∧ (∀ v4 h2, Q1 v4 h2 → zg G mX10_works (d + 1) 407 [.ref a0, .int x1, .long y2, zU, .long y4, zU, .long v4, zU] [] h2 (zPI Q))) : zg G mX10_works (d + 1) 330 [.ref a0, .int x1, .long y2, zU, .long y4, zU, zU, zU] [.int xs0] h (zPI Q) := by
  obtain ⟨Q1, K3, B⟩ := B
  refine z_cSL1 (ν := mX10_is) 131 rfl rfl fX10_is gX10_329 (Nat.le_of_ble_eq_true rfl) K3 (fun v4 h2 q => ?_)
  have B := B v4 h2 q
  refine z_lstore 132 rfl (by decide) rfl ?_
  refine z_goto 133 407 rfl (by decide) ?_
  exact B
set_option maxRecDepth 100000 in
set_option maxHeartbeats 4000000 in
theorem sg_X10_works_350 {G : zG} {d : Nat} {h : zMem} {Q : Int32 → zMem → Prop} {a0 : Nat} {x1 : Int32} {y2 : Int64} {y4 : Int64} {xs0 : Int32} (B : ∃ Q1 : Int64 → zMem → Prop, zConL G mX10_is d [.int xs0] h Q1 ∧ (∀ v4 h2, Q1 v4 h2 → zg G mX10_works (d + 1) 407 [.ref a0, .int x1, .long y2, zU, .long y4, zU, .long v4, zU] [] h2 (zPI Q))) : zg G mX10_works (d + 1) 350 [.ref a0, .int x1, .long y2, zU, .long y4, zU, zU, zU] [.int xs0] h (zPI Q) := by
  obtain ⟨Q1, K3, B⟩ := B
  refine z_cSL1 (ν := mX10_is) 141 rfl rfl fX10_is gX10_329 (Nat.le_of_ble_eq_true rfl) K3 (fun v4 h2 q => ?_)
  have B := B v4 h2 q
  refine z_lstore 142 rfl (by decide) rfl ?_
  refine z_goto 143 407 rfl (by decide) ?_
  exact B
set_option maxRecDepth 100000 in
set_option maxHeartbeats 4000000 in
theorem sg_X10_works_375 {G : zG} {d : Nat} {h : zMem} {Q : Int32 → zMem → Prop} {a0 : Nat} {x1 : Int32} {y2 : Int64} {y4 : Int64} (B : ∃ Q1 : Int64 → zMem → Prop, zConL G mX10_is d [.int (0 : Int32)] h Q1 ∧ (∀ v4 h2, Q1 v4 h2 → zg G mX10_works (d + 1) 407 [.ref a0, .int x1, .long y2, zU, .long y4, zU, .long v4, zU] [] h2 (zPI Q))) : zg G mX10_works (d + 1) 375 [.ref a0, .int x1, .long y2, zU, .long y4, zU, zU, zU] [] h (zPI Q) := by
  refine z_iconst (v := 0) 154 rfl (by decide) ?_
  obtain ⟨Q1, K3, B⟩ := B
  refine z_cSL1 (ν := mX10_is) 155 rfl rfl fX10_is gX10_329 (Nat.le_of_ble_eq_true rfl) K3 (fun v4 h2 q => ?_)
  have B := B v4 h2 q
  refine z_lstore 156 rfl (by decide) rfl ?_
  refine z_goto 157 407 rfl (by decide) ?_
  exact B
set_option maxRecDepth 100000 in
set_option maxHeartbeats 4000000 in
theorem sg_X10_works_397 {G : zG} {d : Nat} {h : zMem} {Q : Int32 → zMem → Prop} {a0 : Nat} {x1 : Int32} {y2 : Int64} {y4 : Int64} (B : ∃ Q1 : Int64 → zMem → Prop, zConL G mX10_is d [.int (1 : Int32)] h Q1 ∧ (∀ v4 h2, Q1 v4 h2 → zg G mX10_works (d + 1) 407 [.ref a0, .int x1, .long y2, zU, .long y4, zU, .long v4, zU] [] h2 (zPI Q))) : zg G mX10_works (d + 1) 397 [.ref a0, .int x1, .long y2, zU, .long y4, zU, zU, zU] [] h (zPI Q) := by
  refine z_iconst (v := 1) 166 rfl (by decide) ?_
  refine z_goto 167 402 rfl (by decide) ?_
  obtain ⟨Q1, K3, B⟩ := B
  refine z_cSL1 (ν := mX10_is) 169 rfl rfl fX10_is gX10_329 (Nat.le_of_ble_eq_true rfl) K3 (fun v4 h2 q => ?_)
  have B := B v4 h2 q
  refine z_lstore 170 rfl (by decide) rfl ?_
  exact B
set_option maxRecDepth 100000 in
set_option maxHeartbeats 4000000 in
theorem sg_X10_works_407 {G : zG} {d : Nat} {h : zMem} {Q : Int32 → zMem → Prop} {a0 : Nat} {x1 : Int32} {y2 : Int64} {y4 : Int64} {y6 : Int64} (B : zO h a0 9 ∧ ∃ r2, zR h a0 32 = some r2 ∧ zO h r2 101 ∧ vp_in ((zI h a0 33) - (1 : Int32)) (zLen h r2) ∧ (0 < (lg_cmp y6 (1000000000000 : Int64)) → Q (0 : Int32) (zsL h r2 ((zI h a0 33) - (1 : Int32)).toNatClampNeg y6)) ∧ (¬ 0 < (lg_cmp y6 (1000000000000 : Int64)) → ((lg_cmp y6 (-1000000000000 : Int64)) < 0 → Q (0 : Int32) (zsL h r2 ((zI h a0 33) - (1 : Int32)).toNatClampNeg y6)) ∧ (¬ (lg_cmp y6 (-1000000000000 : Int64)) < 0 → Q (1 : Int32) (zsL h r2 ((zI h a0 33) - (1 : Int32)).toNatClampNeg y6)))) : zg G mX10_works (d + 1) 407 [.ref a0, .int x1, .long y2, zU, .long y4, zU, .long y6, zU] [] h (zPI Q) := by
  refine z_aload_n 171 rfl rfl ?_
  obtain ⟨o1, B⟩ := B
  obtain ⟨r2, hr2, B⟩ := B
  refine z_getR 172 rfl lX10_66 rfl o1 hr2 ?_
  refine z_aload_n 173 rfl rfl ?_
  refine z_getI 174 rfl lX10_326 rfl o1 ?_
  refine z_iconst (v := 1) 175 rfl (by decide) ?_
  refine z_isub 176 rfl ?_
  refine z_lload 177 rfl rfl ?_
  obtain ⟨o3, B⟩ := B
  obtain ⟨o4, B⟩ := B
  refine z_last 178 rfl o3 o4 ?_
  refine z_lload 179 rfl rfl ?_
  refine z_ldc2 180 rfl kX10_339 ?_
  refine z_lcmp 181 rfl ?_
  refine z_if_gt 182 442 rfl (by decide) ⟨fun c5 => ?_, fun c5 => ?_⟩
  · have B := B.1 c5
    refine z_iconst (v := 0) 189 rfl (by decide) ?_
    exact z_iret 190 rfl rfl rfl ⟨rfl, rfl⟩ ⟨_, rfl, B⟩
  · have B := B.2 c5
    refine z_lload 183 rfl rfl ?_
    refine z_ldc2 184 rfl kX10_341 ?_
    refine z_lcmp 185 rfl ?_
    refine z_if_lt 186 442 rfl (by decide) ⟨fun c6 => ?_, fun c6 => ?_⟩
    · have B := B.1 c6
      refine z_iconst (v := 0) 189 rfl (by decide) ?_
      exact z_iret 190 rfl rfl rfl ⟨rfl, rfl⟩ ⟨_, rfl, B⟩
    · have B := B.2 c6
      refine z_iconst (v := 1) 187 rfl (by decide) ?_
      refine z_goto 188 443 rfl (by decide) ?_
      exact z_iret 190 rfl rfl rfl ⟨rfl, rfl⟩ ⟨_, rfl, B⟩
set_option maxRecDepth 100000 in
set_option maxHeartbeats 4000000 in
theorem sg_X10_comesOut_0 {G : zG} {d : Nat} {h : zMem} {Q : Int32 → zMem → Prop} {a0 : Nat} {x1 : Int32} (B : zO h a0 9 ∧ ∃ r2, zR h a0 14 = some r2 ∧ zO h r2 100 ∧ vp_in x1 (zLen h r2) ∧ zg G mX10_comesOut (d + 1) 12 [.ref a0, .int x1, .int (zI (zsI h a0 33 (0 : Int32)) r2 x1.toNatClampNeg)] [] (zsI h a0 33 (0 : Int32)) (zPI Q)) : zg G mX10_comesOut (d + 1) 0 [.ref a0, .int x1, zU] [] h (zPI Q) := by
  refine z_aload_n 0 rfl rfl ?_
  refine z_iconst (v := 0) 1 rfl (by decide) ?_
  obtain ⟨o1, B⟩ := B
  refine z_putI 2 rfl lX10_326 ⟨_, _, _, rfl, rfl⟩ rfl rfl rfl o1 ?_
  refine z_aload_n 3 rfl rfl ?_
  obtain ⟨r2, hr2, B⟩ := B
  refine z_getR 4 rfl lX10_46 rfl o1 hr2 ?_
  refine z_iload_n 5 rfl rfl ?_
  obtain ⟨o3, B⟩ := B
  obtain ⟨o4, B⟩ := B
  refine z_iald 6 rfl o3 o4 ?_
  refine z_istore_n 7 rfl (by decide) rfl ?_
  exact B
theorem cn_X10_comesOut {G : zG} {d : Nat} {h : zMem} {Q : Int32 → zMem → Prop} {a0 : Nat} {x1 : Int32} (B : zg G mX10_comesOut (d + 1) 0 [.ref a0, .int x1, zU] [] h (zPI Q)) : zConI G mX10_comesOut (d + 1) [.ref a0, .int x1] h Q := zcon0 (by decide +kernel) eX10_comesOut (Nat.le_of_ble_eq_true rfl) rfl B
set_option maxRecDepth 100000 in
set_option maxHeartbeats 4000000 in
theorem sg_X10_comesOut_12 {G : zG} {d : Nat} {h : zMem} {Q : Int32 → zMem → Prop} {a0 : Nat} {x1 : Int32} {x2 : Int32} (B : zO h a0 9 ∧ ∃ r2, zR h a0 15 = some r2 ∧ zO h r2 100 ∧ vp_in x1 (zLen h r2) ∧ ((zI h r2 x1.toNatClampNeg) ≤ x2 → Q (1 : Int32) h) ∧ (¬ (zI h r2 x1.toNatClampNeg) ≤ x2 → ∃ r6, zR h a0 16 = some r6 ∧ zO h r6 100 ∧ vp_in x2 (zLen h r6) ∧ (¬ (zI h r6 x2.toNatClampNeg) = (2 : Int32) → ∃ r10, zR h a0 32 = some r10 ∧ (¬ (zI h r6 x2.toNatClampNeg) = 0 → ∃ r12, zR h a0 31 = some r12 ∧ ∃ r13, zR h a0 17 = some r13 ∧ zO h r13 100 ∧ vp_in x2 (zLen h r13) ∧ zO h r12 101 ∧ vp_in (zI h r13 x2.toNatClampNeg) (zLen h r12) ∧ zO h r10 101 ∧ vp_in (zI h a0 33) (zLen h r10) ∧ zg G mX10_comesOut (d + 1) 12 [.ref a0, .int x1, .int (x2 + 1)] [] (zsI (zsL h r10 (zI h a0 33).toNatClampNeg (zL h r12 (zI h r13 x2.toNatClampNeg).toNatClampNeg)) a0 33 ((zI (zsL h r10 (zI h a0 33).toNatClampNeg (zL h r12 (zI h r13 x2.toNatClampNeg).toNatClampNeg)) a0 33) + (1 : Int32))) (zPI Q)) ∧ ((zI h r6 x2.toNatClampNeg) = 0 → ∃ r20, zR h a0 17 = some r20 ∧ zO h r20 100 ∧ vp_in x2 (zLen h r20) ∧ zO h r10 101 ∧ vp_in (zI h a0 33) (zLen h r10) ∧ zg G mX10_comesOut (d + 1) 12 [.ref a0, .int x1, .int (x2 + 1)] [] (zsI (zsL h r10 (zI h a0 33).toNatClampNeg ((zI h r20 x2.toNatClampNeg).toInt64)) a0 33 ((zI (zsL h r10 (zI h a0 33).toNatClampNeg ((zI h r20 x2.toNatClampNeg).toInt64)) a0 33) + (1 : Int32))) (zPI Q))) ∧ ((zI h r6 x2.toNatClampNeg) = (2 : Int32) → ∃ r25, zR h a0 17 = some r25 ∧ zO h r25 100 ∧ vp_in x2 (zLen h r25) ∧ ∃ Q28 : Int32 → zMem → Prop, zConI G mX10_works d [.ref a0, .int (zI h r25 x2.toNatClampNeg)] h Q28 ∧ (∀ v31 h29, Q28 v31 h29 → (¬ v31 = 0 → zg G mX10_comesOut (d + 1) 12 [.ref a0, .int x1, .int (x2 + 1)] [] h29 (zPI Q)) ∧ (v31 = 0 → Q (0 : Int32) h29))))) : zg G mX10_comesOut (d + 1) 12 [.ref a0, .int x1, .int x2] [] h (zPI Q) := by
  refine z_iload_n 8 rfl rfl ?_
  refine z_aload_n 9 rfl rfl ?_
  obtain ⟨o1, B⟩ := B
  obtain ⟨r2, hr2, B⟩ := B
  refine z_getR 10 rfl lX10_49 rfl o1 hr2 ?_
  refine z_iload_n 11 rfl rfl ?_
  obtain ⟨o3, B⟩ := B
  obtain ⟨o4, B⟩ := B
  refine z_iald 12 rfl o3 o4 ?_
  refine z_icmp_ge 13 102 rfl (by decide) ⟨fun c5 => ?_, fun c5 => ?_⟩
  · have B := B.1 c5
    refine z_iconst (v := 1) 60 rfl (by decide) ?_
    exact z_iret 61 rfl rfl rfl ⟨rfl, rfl⟩ ⟨_, rfl, B⟩
  · have B := B.2 c5
    refine z_aload_n 14 rfl rfl ?_
    obtain ⟨r6, hr6, B⟩ := B
    refine z_getR 15 rfl lX10_52 rfl o1 hr6 ?_
    refine z_iload_n 16 rfl rfl ?_
    obtain ⟨o7, B⟩ := B
    obtain ⟨o8, B⟩ := B
    refine z_iald 17 rfl o7 o8 ?_
    refine z_iconst (v := 2) 18 rfl (by decide) ?_
    refine z_icmp_ne 19 47 rfl (by decide) ⟨fun c9 => ?_, fun c9 => ?_⟩
    · have B := B.1 c9
      refine z_aload_n 29 rfl rfl ?_
      obtain ⟨r10, hr10, B⟩ := B
      refine z_getR 30 rfl lX10_66 rfl o1 hr10 ?_
      refine z_aload_n 31 rfl rfl ?_
      refine z_getI 32 rfl lX10_326 rfl o1 ?_
      refine z_aload_n 33 rfl rfl ?_
      refine z_getR 34 rfl lX10_52 rfl o1 hr6 ?_
      refine z_iload_n 35 rfl rfl ?_
      refine z_iald 36 rfl o7 o8 ?_
      refine z_if_ne 37 74 rfl (by decide) ⟨fun c11 => ?_, fun c11 => ?_⟩
      · have B := B.1 c11
        refine z_aload_n 44 rfl rfl ?_
        obtain ⟨r12, hr12, B⟩ := B
        refine z_getR 45 rfl lX10_62 rfl o1 hr12 ?_
        refine z_aload_n 46 rfl rfl ?_
        obtain ⟨r13, hr13, B⟩ := B
        refine z_getR 47 rfl lX10_55 rfl o1 hr13 ?_
        refine z_iload_n 48 rfl rfl ?_
        obtain ⟨o14, B⟩ := B
        obtain ⟨o15, B⟩ := B
        refine z_iald 49 rfl o14 o15 ?_
        obtain ⟨o16, B⟩ := B
        obtain ⟨o17, B⟩ := B
        refine z_lald 50 rfl o16 o17 ?_
        obtain ⟨o18, B⟩ := B
        obtain ⟨o19, B⟩ := B
        refine z_last 51 rfl o18 o19 ?_
        refine z_aload_n 52 rfl rfl ?_
        refine z_dup 53 rfl rfl ?_
        refine z_getI 54 rfl lX10_326 rfl o1 ?_
        refine z_iconst (v := 1) 55 rfl (by decide) ?_
        refine z_iadd 56 rfl ?_
        refine z_putI 57 rfl lX10_326 ⟨_, _, _, rfl, rfl⟩ rfl rfl rfl o1 ?_
        refine z_iinc (v := 1) 58 rfl rfl (by decide) (by decide) rfl ?_
        refine z_goto 59 12 rfl (by decide) ?_
        exact B
      · have B := B.2 c11
        refine z_aload_n 38 rfl rfl ?_
        obtain ⟨r20, hr20, B⟩ := B
        refine z_getR 39 rfl lX10_55 rfl o1 hr20 ?_
        refine z_iload_n 40 rfl rfl ?_
        obtain ⟨o21, B⟩ := B
        obtain ⟨o22, B⟩ := B
        refine z_iald 41 rfl o21 o22 ?_
        refine z_i2l 42 rfl ?_
        refine z_goto 43 85 rfl (by decide) ?_
        obtain ⟨o23, B⟩ := B
        obtain ⟨o24, B⟩ := B
        refine z_last 51 rfl o23 o24 ?_
        refine z_aload_n 52 rfl rfl ?_
        refine z_dup 53 rfl rfl ?_
        refine z_getI 54 rfl lX10_326 rfl o1 ?_
        refine z_iconst (v := 1) 55 rfl (by decide) ?_
        refine z_iadd 56 rfl ?_
        refine z_putI 57 rfl lX10_326 ⟨_, _, _, rfl, rfl⟩ rfl rfl rfl o1 ?_
        refine z_iinc (v := 1) 58 rfl rfl (by decide) (by decide) rfl ?_
        refine z_goto 59 12 rfl (by decide) ?_
        exact B
    · have B := B.2 c9
      refine z_aload_n 20 rfl rfl ?_
      refine z_aload_n 21 rfl rfl ?_
      obtain ⟨r25, hr25, B⟩ := B
      refine z_getR 22 rfl lX10_55 rfl o1 hr25 ?_
      refine z_iload_n 23 rfl rfl ?_
      obtain ⟨o26, B⟩ := B
      obtain ⟨o27, B⟩ := B
      refine z_iald 24 rfl o26 o27 ?_
      obtain ⟨Q28, K30, B⟩ := B
      refine z_cVI1 (ν := mX10_works) 25 rfl rfl fX10_works gX10_343 ⟨_, rfl, rfl⟩ (by decide) o1 (Nat.le_of_ble_eq_true rfl) K30 (fun v31 h29 q => ?_)
      have B := B v31 h29 q
      refine z_if_ne 26 96 rfl (by decide) ⟨fun c32 => ?_, fun c32 => ?_⟩
      · have B := B.1 c32
        refine z_iinc (v := 1) 58 rfl rfl (by decide) (by decide) rfl ?_
        refine z_goto 59 12 rfl (by decide) ?_
        exact B
      · have B := B.2 c32
        refine z_iconst (v := 0) 27 rfl (by decide) ?_
        exact z_iret 28 rfl rfl rfl ⟨rfl, rfl⟩ ⟨_, rfl, B⟩
set_option maxRecDepth 100000 in
set_option maxHeartbeats 4000000 in
theorem sg_X10_hasLaw_0 {G : zG} {d : Nat} {h : zMem} {Q : Int32 → zMem → Prop} {a0 : Nat} {x1 : Int32} (B : zO h a0 9 ∧ ∃ r2, zR h a0 15 = some r2 ∧ zO h r2 100 ∧ vp_in x1 (zLen h r2) ∧ ∃ r5, zR h a0 14 = some r5 ∧ zO h r5 100 ∧ vp_in x1 (zLen h r5) ∧ ((zI h r2 x1.toNatClampNeg) ≤ (zI h r5 x1.toNatClampNeg) → Q (0 : Int32) h) ∧ (¬ (zI h r2 x1.toNatClampNeg) ≤ (zI h r5 x1.toNatClampNeg) → Q (1 : Int32) h)) : zg G mX10_hasLaw d 0 [.ref a0, .int x1] [] h (zPI Q) := by
  refine z_aload_n 0 rfl rfl ?_
  obtain ⟨o1, B⟩ := B
  obtain ⟨r2, hr2, B⟩ := B
  refine z_getR 1 rfl lX10_49 rfl o1 hr2 ?_
  refine z_iload_n 2 rfl rfl ?_
  obtain ⟨o3, B⟩ := B
  obtain ⟨o4, B⟩ := B
  refine z_iald 3 rfl o3 o4 ?_
  refine z_aload_n 4 rfl rfl ?_
  obtain ⟨r5, hr5, B⟩ := B
  refine z_getR 5 rfl lX10_46 rfl o1 hr5 ?_
  refine z_iload_n 6 rfl rfl ?_
  obtain ⟨o6, B⟩ := B
  obtain ⟨o7, B⟩ := B
  refine z_iald 7 rfl o6 o7 ?_
  refine z_icmp_le 8 19 rfl (by decide) ⟨fun c8 => ?_, fun c8 => ?_⟩
  · have B := B.1 c8
    refine z_iconst (v := 0) 11 rfl (by decide) ?_
    exact z_iret 12 rfl rfl rfl ⟨rfl, rfl⟩ ⟨_, rfl, B⟩
  · have B := B.2 c8
    refine z_iconst (v := 1) 9 rfl (by decide) ?_
    refine z_goto 10 20 rfl (by decide) ?_
    exact z_iret 12 rfl rfl rfl ⟨rfl, rfl⟩ ⟨_, rfl, B⟩
theorem cn_X10_hasLaw {G : zG} {d : Nat} {h : zMem} {Q : Int32 → zMem → Prop} {a0 : Nat} {x1 : Int32} (B : zg G mX10_hasLaw d 0 [.ref a0, .int x1] [] h (zPI Q)) : zConI G mX10_hasLaw d [.ref a0, .int x1] h Q := zcon0 (by decide +kernel) eX10_hasLaw (Nat.le_of_ble_eq_true rfl) rfl B
set_option maxRecDepth 100000 in
set_option maxHeartbeats 4000000 in
theorem sg_X10_starts_0 {G : zG} {d : Nat} {h : zMem} {Q : zMem → Prop} {a0 : Nat} {x1 : Int32} (B : zO h a0 9 ∧ ∃ r2, zR h a0 34 = some r2 ∧ zO h r2 100 ∧ vp_in x1 (zLen h r2) ∧ ∃ r5, zR h a0 35 = some r5 ∧ zO h r5 100 ∧ vp_in x1 (zLen h r5) ∧ ∃ r8, zR h a0 36 = some r8 ∧ zO h r8 100 ∧ vp_in x1 (zLen h r8) ∧ ∃ r11, zR h a0 37 = some r11 ∧ zO h r11 100 ∧ vp_in x1 (zLen h r11) ∧ ∃ r14, zR h a0 38 = some r14 ∧ ∃ r15, zR h a0 3 = some r15 ∧ zO h r15 100 ∧ vp_in (6 : Int32) (zLen h r15) ∧ zO h r14 100 ∧ vp_in x1 (zLen h r14) ∧ zg G mX10_starts d 43 [.ref a0, .int x1, .int (0 : Int32), zU] [] (zsI (zsI (zsI (zsI (zsI h r2 x1.toNatClampNeg (0 : Int32)) r5 x1.toNatClampNeg (-1 : Int32)) r8 x1.toNatClampNeg (0 : Int32)) r11 x1.toNatClampNeg (0 : Int32)) r14 x1.toNatClampNeg (zI (zsI (zsI (zsI (zsI h r2 x1.toNatClampNeg (0 : Int32)) r5 x1.toNatClampNeg (-1 : Int32)) r8 x1.toNatClampNeg (0 : Int32)) r11 x1.toNatClampNeg (0 : Int32)) r15 (6 : Int32).toNatClampNeg)) (zPV Q)) : zg G mX10_starts d 0 [.ref a0, .int x1, zU, zU] [] h (zPV Q) := by
  refine z_aload_n 0 rfl rfl ?_
  obtain ⟨o1, B⟩ := B
  obtain ⟨r2, hr2, B⟩ := B
  refine z_getR 1 rfl lX10_69 rfl o1 hr2 ?_
  refine z_iload_n 2 rfl rfl ?_
  refine z_iconst (v := 0) 3 rfl (by decide) ?_
  obtain ⟨o3, B⟩ := B
  obtain ⟨o4, B⟩ := B
  refine z_iast 4 rfl o3 o4 ?_
  refine z_aload_n 5 rfl rfl ?_
  obtain ⟨r5, hr5, B⟩ := B
  refine z_getR 6 rfl lX10_72 rfl o1 hr5 ?_
  refine z_iload_n 7 rfl rfl ?_
  refine z_iconst (v := -1) 8 rfl (by decide) ?_
  obtain ⟨o6, B⟩ := B
  obtain ⟨o7, B⟩ := B
  refine z_iast 9 rfl o6 o7 ?_
  refine z_aload_n 10 rfl rfl ?_
  obtain ⟨r8, hr8, B⟩ := B
  refine z_getR 11 rfl lX10_75 rfl o1 hr8 ?_
  refine z_iload_n 12 rfl rfl ?_
  refine z_iconst (v := 0) 13 rfl (by decide) ?_
  obtain ⟨o9, B⟩ := B
  obtain ⟨o10, B⟩ := B
  refine z_iast 14 rfl o9 o10 ?_
  refine z_aload_n 15 rfl rfl ?_
  obtain ⟨r11, hr11, B⟩ := B
  refine z_getR 16 rfl lX10_78 rfl o1 hr11 ?_
  refine z_iload_n 17 rfl rfl ?_
  refine z_iconst (v := 0) 18 rfl (by decide) ?_
  obtain ⟨o12, B⟩ := B
  obtain ⟨o13, B⟩ := B
  refine z_iast 19 rfl o12 o13 ?_
  refine z_aload_n 20 rfl rfl ?_
  obtain ⟨r14, hr14, B⟩ := B
  refine z_getR 21 rfl lX10_81 rfl o1 hr14 ?_
  refine z_iload_n 22 rfl rfl ?_
  refine z_aload_n 23 rfl rfl ?_
  obtain ⟨r15, hr15, B⟩ := B
  refine z_getR 24 rfl lX10_13 rfl o1 hr15 ?_
  refine z_bipush (v := 6) 25 rfl (by decide) ?_
  obtain ⟨o16, B⟩ := B
  obtain ⟨o17, B⟩ := B
  refine z_iald 26 rfl o16 o17 ?_
  obtain ⟨o18, B⟩ := B
  obtain ⟨o19, B⟩ := B
  refine z_iast 27 rfl o18 o19 ?_
  refine z_iconst (v := 0) 28 rfl (by decide) ?_
  refine z_istore_n 29 rfl (by decide) rfl ?_
  exact B
theorem cn_X10_starts {G : zG} {d : Nat} {h : zMem} {Q : zMem → Prop} {a0 : Nat} {x1 : Int32} (B : zg G mX10_starts d 0 [.ref a0, .int x1, zU, zU] [] h (zPV Q)) : zConV G mX10_starts d [.ref a0, .int x1] h Q := zcon0 (by decide +kernel) eX10_starts (Nat.le_of_ble_eq_true rfl) rfl B
set_option maxRecDepth 100000 in
set_option maxHeartbeats 4000000 in
theorem sg_X10_starts_43 {G : zG} {d : Nat} {h : zMem} {Q : zMem → Prop} {a0 : Nat} {x1 : Int32} {x2 : Int32} (B : ((6 : Int32) ≤ x2 → zg G mX10_starts d 131 [.ref a0, .int x1, .int (0 : Int32), zU] [] h (zPV Q)) ∧ (¬ (6 : Int32) ≤ x2 → zO h a0 9 ∧ ∃ r3, zR h a0 39 = some r3 ∧ ∃ r4, zR h a0 3 = some r4 ∧ zO h r4 100 ∧ vp_in (0 : Int32) (zLen h r4) ∧ ((zI h r4 (0 : Int32).toNatClampNeg) ≤ x2 → zO h r3 100 ∧ vp_in (((6 : Int32) * x1) + x2) (zLen h r3) ∧ ∃ r10, zR h a0 40 = some r10 ∧ zO h r10 100 ∧ vp_in (((6 : Int32) * x1) + x2) (zLen h r10) ∧ zg G mX10_starts d 94 [.ref a0, .int x1, .int x2, .int (0 : Int32)] [] (zsI (zsI h r3 (((6 : Int32) * x1) + x2).toNatClampNeg (0 : Int32)) r10 (((6 : Int32) * x1) + x2).toNatClampNeg (0 : Int32)) (zPV Q)) ∧ (¬ (zI h r4 (0 : Int32).toNatClampNeg) ≤ x2 → ∃ r13, zR h a0 5 = some r13 ∧ zO h r13 100 ∧ vp_in x2 (zLen h r13) ∧ zO h r3 100 ∧ vp_in (((6 : Int32) * x1) + x2) (zLen h r3) ∧ ∃ r18, zR h a0 40 = some r18 ∧ zO h r18 100 ∧ vp_in (((6 : Int32) * x1) + x2) (zLen h r18) ∧ zg G mX10_starts d 94 [.ref a0, .int x1, .int x2, .int (0 : Int32)] [] (zsI (zsI h r3 (((6 : Int32) * x1) + x2).toNatClampNeg (zI h r13 x2.toNatClampNeg)) r18 (((6 : Int32) * x1) + x2).toNatClampNeg (0 : Int32)) (zPV Q)))) : zg G mX10_starts d 43 [.ref a0, .int x1, .int x2, zU] [] h (zPV Q) := by
  refine z_iload_n 30 rfl rfl ?_
  refine z_bipush (v := 6) 31 rfl (by decide) ?_
  refine z_icmp_ge 32 129 rfl (by decide) ⟨fun c1 => ?_, fun c1 => ?_⟩
  · have B := B.1 c1
    refine z_iconst (v := 0) 84 rfl (by decide) ?_
    refine z_istore_n 85 rfl (by decide) rfl ?_
    exact B
  · have B := B.2 c1
    refine z_aload_n 33 rfl rfl ?_
    obtain ⟨o2, B⟩ := B
    obtain ⟨r3, hr3, B⟩ := B
    refine z_getR 34 rfl lX10_84 rfl o2 hr3 ?_
    refine z_bipush (v := 6) 35 rfl (by decide) ?_
    refine z_iload_n 36 rfl rfl ?_
    refine z_imul 37 rfl ?_
    refine z_iload_n 38 rfl rfl ?_
    refine z_iadd 39 rfl ?_
    refine z_iload_n 40 rfl rfl ?_
    refine z_aload_n 41 rfl rfl ?_
    obtain ⟨r4, hr4, B⟩ := B
    refine z_getR 42 rfl lX10_13 rfl o2 hr4 ?_
    refine z_iconst (v := 0) 43 rfl (by decide) ?_
    obtain ⟨o5, B⟩ := B
    obtain ⟨o6, B⟩ := B
    refine z_iald 44 rfl o5 o6 ?_
    refine z_icmp_ge 45 78 rfl (by decide) ⟨fun c7 => ?_, fun c7 => ?_⟩
    · have B := B.1 c7
      refine z_iconst (v := 0) 51 rfl (by decide) ?_
      obtain ⟨o8, B⟩ := B
      obtain ⟨o9, B⟩ := B
      refine z_iast 52 rfl o8 o9 ?_
      refine z_aload_n 53 rfl rfl ?_
      obtain ⟨r10, hr10, B⟩ := B
      refine z_getR 54 rfl lX10_87 rfl o2 hr10 ?_
      refine z_bipush (v := 6) 55 rfl (by decide) ?_
      refine z_iload_n 56 rfl rfl ?_
      refine z_imul 57 rfl ?_
      refine z_iload_n 58 rfl rfl ?_
      refine z_iadd 59 rfl ?_
      refine z_iconst (v := 0) 60 rfl (by decide) ?_
      obtain ⟨o11, B⟩ := B
      obtain ⟨o12, B⟩ := B
      refine z_iast 61 rfl o11 o12 ?_
      refine z_iconst (v := 0) 62 rfl (by decide) ?_
      refine z_istore_n 63 rfl (by decide) rfl ?_
      exact B
    · have B := B.2 c7
      refine z_aload_n 46 rfl rfl ?_
      obtain ⟨r13, hr13, B⟩ := B
      refine z_getR 47 rfl lX10_19 rfl o2 hr13 ?_
      refine z_iload_n 48 rfl rfl ?_
      obtain ⟨o14, B⟩ := B
      obtain ⟨o15, B⟩ := B
      refine z_iald 49 rfl o14 o15 ?_
      refine z_goto 50 79 rfl (by decide) ?_
      obtain ⟨o16, B⟩ := B
      obtain ⟨o17, B⟩ := B
      refine z_iast 52 rfl o16 o17 ?_
      refine z_aload_n 53 rfl rfl ?_
      obtain ⟨r18, hr18, B⟩ := B
      refine z_getR 54 rfl lX10_87 rfl o2 hr18 ?_
      refine z_bipush (v := 6) 55 rfl (by decide) ?_
      refine z_iload_n 56 rfl rfl ?_
      refine z_imul 57 rfl ?_
      refine z_iload_n 58 rfl rfl ?_
      refine z_iadd 59 rfl ?_
      refine z_iconst (v := 0) 60 rfl (by decide) ?_
      obtain ⟨o19, B⟩ := B
      obtain ⟨o20, B⟩ := B
      refine z_iast 61 rfl o19 o20 ?_
      refine z_iconst (v := 0) 62 rfl (by decide) ?_
      refine z_istore_n 63 rfl (by decide) rfl ?_
      exact B
set_option maxRecDepth 100000 in
set_option maxHeartbeats 4000000 in
theorem sg_X10_starts_94 {G : zG} {d : Nat} {h : zMem} {Q : zMem → Prop} {a0 : Nat} {x1 : Int32} {x2 : Int32} {x3 : Int32} (B : ((6 : Int32) ≤ x3 → zg G mX10_starts d 43 [.ref a0, .int x1, .int (x2 + 1), zU] [] h (zPV Q)) ∧ (¬ (6 : Int32) ≤ x3 → zO h a0 9 ∧ ∃ r3, zR h a0 41 = some r3 ∧ zO h r3 100 ∧ vp_in ((((36 : Int32) * x1) + ((6 : Int32) * x3)) + x2) (zLen h r3) ∧ zg G mX10_starts d 94 [.ref a0, .int x1, .int x2, .int (x3 + 1)] [] (zsI h r3 ((((36 : Int32) * x1) + ((6 : Int32) * x3)) + x2).toNatClampNeg (0 : Int32)) (zPV Q))) : zg G mX10_starts d 94 [.ref a0, .int x1, .int x2, .int x3] [] h (zPV Q) := by
  refine z_iload_n 64 rfl rfl ?_
  refine z_bipush (v := 6) 65 rfl (by decide) ?_
  refine z_icmp_ge 66 123 rfl (by decide) ⟨fun c1 => ?_, fun c1 => ?_⟩
  · have B := B.1 c1
    refine z_iinc (v := 1) 82 rfl rfl (by decide) (by decide) rfl ?_
    refine z_goto 83 43 rfl (by decide) ?_
    refine z_drop 3 ?_
    exact B
  · have B := B.2 c1
    refine z_aload_n 67 rfl rfl ?_
    obtain ⟨o2, B⟩ := B
    obtain ⟨r3, hr3, B⟩ := B
    refine z_getR 68 rfl lX10_90 rfl o2 hr3 ?_
    refine z_bipush (v := 36) 69 rfl (by decide) ?_
    refine z_iload_n 70 rfl rfl ?_
    refine z_imul 71 rfl ?_
    refine z_bipush (v := 6) 72 rfl (by decide) ?_
    refine z_iload_n 73 rfl rfl ?_
    refine z_imul 74 rfl ?_
    refine z_iadd 75 rfl ?_
    refine z_iload_n 76 rfl rfl ?_
    refine z_iadd 77 rfl ?_
    refine z_iconst (v := 0) 78 rfl (by decide) ?_
    obtain ⟨o4, B⟩ := B
    obtain ⟨o5, B⟩ := B
    refine z_iast 79 rfl o4 o5 ?_
    refine z_iinc (v := 1) 80 rfl rfl (by decide) (by decide) rfl ?_
    refine z_goto 81 94 rfl (by decide) ?_
    exact B
set_option maxRecDepth 100000 in
set_option maxHeartbeats 4000000 in
theorem sg_X10_starts_131 {G : zG} {d : Nat} {h : zMem} {Q : zMem → Prop} {a0 : Nat} {x1 : Int32} {x2 : Int32} (B : zO h a0 9 ∧ ∃ r2, zR h a0 3 = some r2 ∧ zO h r2 100 ∧ vp_in (4 : Int32) (zLen h r2) ∧ ((zI h r2 (4 : Int32).toNatClampNeg) ≤ x2 → Q h) ∧ (¬ (zI h r2 (4 : Int32).toNatClampNeg) ≤ x2 → ∃ r6, zR h a0 42 = some r6 ∧ ∃ r7, zR h a0 12 = some r7 ∧ zO h r7 100 ∧ vp_in x2 (zLen h r7) ∧ zO h r6 100 ∧ vp_in (((5 : Int32) * x1) + x2) (zLen h r6) ∧ ∃ r12, zR h a0 43 = some r12 ∧ zO h r12 100 ∧ vp_in (((5 : Int32) * x1) + x2) (zLen h r12) ∧ ∃ r15, zR h a0 44 = some r15 ∧ zO h r15 100 ∧ vp_in (((5 : Int32) * x1) + x2) (zLen h r15) ∧ ∃ r18, zR h a0 45 = some r18 ∧ vp_in (1 : Int32) (zLen h r2) ∧ zO h r18 100 ∧ vp_in (((5 : Int32) * x1) + x2) (zLen h r18) ∧ zg G mX10_starts d 131 [.ref a0, .int x1, .int (x2 + 1), zU] [] (zsI (zsI (zsI (zsI h r6 (((5 : Int32) * x1) + x2).toNatClampNeg (zI h r7 x2.toNatClampNeg)) r12 (((5 : Int32) * x1) + x2).toNatClampNeg (0 : Int32)) r15 (((5 : Int32) * x1) + x2).toNatClampNeg (0 : Int32)) r18 (((5 : Int32) * x1) + x2).toNatClampNeg ((zI (zsI (zsI (zsI h r6 (((5 : Int32) * x1) + x2).toNatClampNeg (zI h r7 x2.toNatClampNeg)) r12 (((5 : Int32) * x1) + x2).toNatClampNeg (0 : Int32)) r15 (((5 : Int32) * x1) + x2).toNatClampNeg (0 : Int32)) r2 (1 : Int32).toNatClampNeg) - (1 : Int32))) (zPV Q))) : zg G mX10_starts d 131 [.ref a0, .int x1, .int x2, zU] [] h (zPV Q) := by
  refine z_iload_n 86 rfl rfl ?_
  refine z_aload_n 87 rfl rfl ?_
  obtain ⟨o1, B⟩ := B
  obtain ⟨r2, hr2, B⟩ := B
  refine z_getR 88 rfl lX10_13 rfl o1 hr2 ?_
  refine z_iconst (v := 4) 89 rfl (by decide) ?_
  obtain ⟨o3, B⟩ := B
  obtain ⟨o4, B⟩ := B
  refine z_iald 90 rfl o3 o4 ?_
  refine z_icmp_ge 91 203 rfl (by decide) ⟨fun c5 => ?_, fun c5 => ?_⟩
  · have B := B.1 c5
    exact z_vret 138 rfl rfl ⟨rfl, rfl⟩ ⟨rfl, B⟩
  · have B := B.2 c5
    refine z_aload_n 92 rfl rfl ?_
    obtain ⟨r6, hr6, B⟩ := B
    refine z_getR 93 rfl lX10_93 rfl o1 hr6 ?_
    refine z_iconst (v := 5) 94 rfl (by decide) ?_
    refine z_iload_n 95 rfl rfl ?_
    refine z_imul 96 rfl ?_
    refine z_iload_n 97 rfl rfl ?_
    refine z_iadd 98 rfl ?_
    refine z_aload_n 99 rfl rfl ?_
    obtain ⟨r7, hr7, B⟩ := B
    refine z_getR 100 rfl lX10_40 rfl o1 hr7 ?_
    refine z_iload_n 101 rfl rfl ?_
    obtain ⟨o8, B⟩ := B
    obtain ⟨o9, B⟩ := B
    refine z_iald 102 rfl o8 o9 ?_
    obtain ⟨o10, B⟩ := B
    obtain ⟨o11, B⟩ := B
    refine z_iast 103 rfl o10 o11 ?_
    refine z_aload_n 104 rfl rfl ?_
    obtain ⟨r12, hr12, B⟩ := B
    refine z_getR 105 rfl lX10_96 rfl o1 hr12 ?_
    refine z_iconst (v := 5) 106 rfl (by decide) ?_
    refine z_iload_n 107 rfl rfl ?_
    refine z_imul 108 rfl ?_
    refine z_iload_n 109 rfl rfl ?_
    refine z_iadd 110 rfl ?_
    refine z_iconst (v := 0) 111 rfl (by decide) ?_
    obtain ⟨o13, B⟩ := B
    obtain ⟨o14, B⟩ := B
    refine z_iast 112 rfl o13 o14 ?_
    refine z_aload_n 113 rfl rfl ?_
    obtain ⟨r15, hr15, B⟩ := B
    refine z_getR 114 rfl lX10_99 rfl o1 hr15 ?_
    refine z_iconst (v := 5) 115 rfl (by decide) ?_
    refine z_iload_n 116 rfl rfl ?_
    refine z_imul 117 rfl ?_
    refine z_iload_n 118 rfl rfl ?_
    refine z_iadd 119 rfl ?_
    refine z_iconst (v := 0) 120 rfl (by decide) ?_
    obtain ⟨o16, B⟩ := B
    obtain ⟨o17, B⟩ := B
    refine z_iast 121 rfl o16 o17 ?_
    refine z_aload_n 122 rfl rfl ?_
    obtain ⟨r18, hr18, B⟩ := B
    refine z_getR 123 rfl lX10_102 rfl o1 hr18 ?_
    refine z_iconst (v := 5) 124 rfl (by decide) ?_
    refine z_iload_n 125 rfl rfl ?_
    refine z_imul 126 rfl ?_
    refine z_iload_n 127 rfl rfl ?_
    refine z_iadd 128 rfl ?_
    refine z_aload_n 129 rfl rfl ?_
    refine z_getR 130 rfl lX10_13 rfl o1 hr2 ?_
    refine z_iconst (v := 1) 131 rfl (by decide) ?_
    obtain ⟨o19, B⟩ := B
    refine z_iald 132 rfl o3 o19 ?_
    refine z_iconst (v := 1) 133 rfl (by decide) ?_
    refine z_isub 134 rfl ?_
    obtain ⟨o20, B⟩ := B
    obtain ⟨o21, B⟩ := B
    refine z_iast 135 rfl o20 o21 ?_
    refine z_iinc (v := 1) 136 rfl rfl (by decide) (by decide) rfl ?_
    refine z_goto 137 131 rfl (by decide) ?_
    exact B
set_option maxRecDepth 100000 in
set_option maxHeartbeats 4000000 in
theorem sg_X10_begins_0 {G : zG} {d : Nat} {h : zMem} {Q : zMem → Prop} {a0 : Nat} (B : zO h a0 9 ∧ ∃ Q1 : zMem → Prop, zConV G mX10_starts d [.ref a0, .int (0 : Int32)] h Q1 ∧ (∀ h2, Q1 h2 → Q h2)) : zg G mX10_begins (d + 1) 0 [.ref a0] [] h (zPV Q) := by
  refine z_aload_n 0 rfl rfl ?_
  refine z_iconst (v := 0) 1 rfl (by decide) ?_
  obtain ⟨o4, B⟩ := B
  obtain ⟨Q1, K3, B⟩ := B
  refine z_cVV1 (ν := mX10_starts) 2 rfl rfl fX10_starts gX10_346 ⟨_, rfl, rfl⟩ (by decide) o4 (Nat.le_of_ble_eq_true rfl) K3 (fun h2 q => ?_)
  have B := B h2 q
  exact z_vret 3 rfl rfl ⟨rfl, rfl⟩ ⟨rfl, B⟩
theorem cn_X10_begins {G : zG} {d : Nat} {h : zMem} {Q : zMem → Prop} {a0 : Nat} (B : zg G mX10_begins (d + 1) 0 [.ref a0] [] h (zPV Q)) : zConV G mX10_begins (d + 1) [.ref a0] h Q := zcon0 (by decide +kernel) eX10_begins (Nat.le_of_ble_eq_true rfl) rfl B
