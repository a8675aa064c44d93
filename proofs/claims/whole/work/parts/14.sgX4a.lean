set_option maxRecDepth 100000 in
set_option maxHeartbeats 4000000 in
theorem sg_X4_open_0 {G : zG} {d : Nat} {h : zMem} {Q : zMem → Prop} {t : Nat} {a1 : Nat} {x2 : Int32} (hS : zSh1 h t)  (B : zO h a1 102 ∧ ∃ Q2 : zMem → Prop, zConV G mX4_advance d [.ref 3] (zsI (zsI (zsR h 3 1 (some a1)) 3 2 (if (nI (zLen h a1)) < x2 then (nI (zLen h a1)) else x2)) 3 3 (0 : Int32)) Q2 ∧ (∀ h3, Q2 h3 → zSh1 h3 t ∧ Q h3)) : zg G mX4_open (d + 1) 0 [.ref 3, .ref a1, .int x2] [] h (zPV Q) := by
  refine z_aload_n 0 rfl rfl ?_
  refine z_aload_n 1 rfl rfl ?_
  refine z_putR 2 rfl lX4_15 ⟨_, _, _, rfl, rfl⟩ rfl (hS.1.o 3 4 rfl rfl rfl) ?_
  refine z_aload_n 3 rfl rfl ?_
  refine z_iload_n 4 rfl rfl ?_
  refine z_aload_n 5 rfl rfl ?_
  obtain ⟨o1, B⟩ := B
  refine z_alen 6 rfl o1 (Or.inr (Or.inr (Or.inl rfl))) ?_
  refine z_mmin 7 rfl rfl gmX4_31 (Nat.le_of_ble_eq_true rfl) ?_
  refine z_putI 8 rfl lX4_37 ⟨_, _, _, rfl, rfl⟩ rfl rfl rfl (hS.1.o 3 4 rfl rfl rfl) ?_
  refine z_aload_n 9 rfl rfl ?_
  refine z_iconst (v := 0) 10 rfl (by decide) ?_
  refine z_putI 11 rfl lX4_40 ⟨_, _, _, rfl, rfl⟩ rfl rfl rfl (hS.1.o 3 4 rfl rfl rfl) ?_
  refine z_aload_n 12 rfl rfl ?_
  obtain ⟨Q2, K4, B⟩ := B
  refine z_cVV0 (ν := mX4_advance) 13 rfl rfl fX4_advance gX4_43 ⟨_, rfl, rfl⟩ (by decide) (hS.1.o 3 4 rfl rfl rfl) (Nat.le_of_ble_eq_true rfl) K4 (fun h3 q => ?_)
  obtain ⟨hSh3, B⟩ := B h3 q
  exact z_vret 14 rfl rfl ⟨rfl, rfl⟩ ⟨rfl, B⟩
theorem cn_X4_open {G : zG} {d : Nat} {h : zMem} {Q : zMem → Prop} {a1 : Nat} {x2 : Int32} (B : zg G mX4_open (d + 1) 0 [.ref 3, .ref a1, .int x2] [] h (zPV Q)) : zConV G mX4_open (d + 1) [.ref 3, .ref a1, .int x2] h Q := zcon0 (by decide +kernel) eX4_open (Nat.le_of_ble_eq_true rfl) rfl B
set_option maxRecDepth 100000 in
set_option maxHeartbeats 4000000 in
theorem sg_X4_advance_0 {G : zG} {d : Nat} {h : zMem} {Q : zMem → Prop} {t : Nat}  (hS : zSh1 h t)  (B : ((zI h 3 2) ≤ (zI h 3 3) → ((zI (zsI h 3 5 (zI h 3 3)) 3 3) < (zI (zsI h 3 5 (zI h 3 3)) 3 2) → ∃ r3, zR h 3 1 = some r3 ∧ zO h r3 102 ∧ vp_in (zI (zsI h 3 5 (zI h 3 3)) 3 3) (zLen h r3) ∧ ∃ Q6 : Int32 → zMem → Prop, zConI G mX4_isLetter d [.int (zI (zsI h 3 5 (zI h 3 3)) r3 (zI (zsI h 3 5 (zI h 3 3)) 3 3).toNatClampNeg)] (zsI h 3 5 (zI h 3 3)) Q6 ∧ (∀ v9 h7, Q6 v9 h7 → zSh1 h7 t ∧ (v9 = 0 → ∃ r11, zR h7 3 1 = some r11 ∧ zO h7 r11 102 ∧ vp_in (zI h7 3 3) (zLen h7 r11) ∧ ∃ Q14 : Int32 → zMem → Prop, zConI G mX4_isDigit d [.int (zI h7 r11 (zI h7 3 3).toNatClampNeg)] h7 Q14 ∧ (∀ v17 h15, Q14 v17 h15 → zSh1 h15 t ∧ (v17 = 0 → ∃ r19, zR h15 3 1 = some r19 ∧ zO h15 r19 102 ∧ vp_in (zI (zsI h15 3 3 ((zI h15 3 3) + (1 : Int32))) 3 5) (zLen h15 r19) ∧ ∃ Q22 : Int32 → zMem → Prop, zConI G mX4_signOf d [.ref 3, .int (zI (zsI h15 3 3 ((zI h15 3 3) + (1 : Int32))) r19 (zI (zsI h15 3 3 ((zI h15 3 3) + (1 : Int32))) 3 5).toNatClampNeg)] (zsI h15 3 3 ((zI h15 3 3) + (1 : Int32))) Q22 ∧ (∀ v25 h23, Q22 v25 h23 → zSh1 h23 t ∧ Q (zsI h23 3 4 v25))) ∧ (¬ v17 = 0 → ∃ Q26 : zMem → Prop, zConV G mX4_readNumber d [.ref 3] h15 Q26 ∧ (∀ h27, Q26 h27 → zSh1 h27 t ∧ Q h27)))) ∧ (¬ v9 = 0 → ∃ Q29 : zMem → Prop, zConV G mX4_readWord d [.ref 3] h7 Q29 ∧ (∀ h30, Q29 h30 → zSh1 h30 t ∧ Q h30)))) ∧ (¬ (zI (zsI h 3 5 (zI h 3 3)) 3 3) < (zI (zsI h 3 5 (zI h 3 3)) 3 2) → Q (zsI (zsI h 3 5 (zI h 3 3)) 3 4 (37 : Int32)))) ∧ (¬ (zI h 3 2) ≤ (zI h 3 3) → ∃ r32, zR h 3 1 = some r32 ∧ zO h r32 102 ∧ vp_in (zI h 3 3) (zLen h r32) ∧ ((zI h r32 (zI h 3 3).toNatClampNeg) = (10 : Int32) → zg G mX4_advance (d + 1) 0 [.ref 3] [] (zsI h 3 3 ((zI h 3 3) + (1 : Int32))) (zPV Q)) ∧ (¬ (zI h r32 (zI h 3 3).toNatClampNeg) = (10 : Int32) → (¬ (zI h r32 (zI h 3 3).toNatClampNeg) = (32 : Int32) → ((zI (zsI h 3 5 (zI h 3 3)) 3 3) < (zI (zsI h 3 5 (zI h 3 3)) 3 2) → vp_in (zI (zsI h 3 5 (zI h 3 3)) 3 3) (zLen h r32) ∧ ∃ Q39 : Int32 → zMem → Prop, zConI G mX4_isLetter d [.int (zI (zsI h 3 5 (zI h 3 3)) r32 (zI (zsI h 3 5 (zI h 3 3)) 3 3).toNatClampNeg)] (zsI h 3 5 (zI h 3 3)) Q39 ∧ (∀ v42 h40, Q39 v42 h40 → zSh1 h40 t ∧ (v42 = 0 → ∃ r44, zR h40 3 1 = some r44 ∧ zO h40 r44 102 ∧ vp_in (zI h40 3 3) (zLen h40 r44) ∧ ∃ Q47 : Int32 → zMem → Prop, zConI G mX4_isDigit d [.int (zI h40 r44 (zI h40 3 3).toNatClampNeg)] h40 Q47 ∧ (∀ v50 h48, Q47 v50 h48 → zSh1 h48 t ∧ (v50 = 0 → ∃ r52, zR h48 3 1 = some r52 ∧ zO h48 r52 102 ∧ vp_in (zI (zsI h48 3 3 ((zI h48 3 3) + (1 : Int32))) 3 5) (zLen h48 r52) ∧ ∃ Q55 : Int32 → zMem → Prop, zConI G mX4_signOf d [.ref 3, .int (zI (zsI h48 3 3 ((zI h48 3 3) + (1 : Int32))) r52 (zI (zsI h48 3 3 ((zI h48 3 3) + (1 : Int32))) 3 5).toNatClampNeg)] (zsI h48 3 3 ((zI h48 3 3) + (1 : Int32))) Q55 ∧ (∀ v58 h56, Q55 v58 h56 → zSh1 h56 t ∧ Q (zsI h56 3 4 v58))) ∧ (¬ v50 = 0 → ∃ Q59 : zMem → Prop, zConV G mX4_readNumber d [.ref 3] h48 Q59 ∧ (∀ h60, Q59 h60 → zSh1 h60 t ∧ Q h60)))) ∧ (¬ v42 = 0 → ∃ Q62 : zMem → Prop, zConV G mX4_readWord d [.ref 3] h40 Q62 ∧ (∀ h63, Q62 h63 → zSh1 h63 t ∧ Q h63)))) ∧ (¬ (zI (zsI h 3 5 (zI h 3 3)) 3 3) < (zI (zsI h 3 5 (zI h 3 3)) 3 2) → Q (zsI (zsI h 3 5 (zI h 3 3)) 3 4 (37 : Int32)))) ∧ ((zI h r32 (zI h 3 3).toNatClampNeg) = (32 : Int32) → zg G mX4_advance (d + 1) 0 [.ref 3] [] (zsI h 3 3 ((zI h 3 3) + (1 : Int32))) (zPV Q))))) : zg G mX4_advance (d + 1) 0 [.ref 3] [] h (zPV Q) := by
  refine z_aload_n 0 rfl rfl ?_
  refine z_getI 1 rfl lX4_40 rfl (hS.1.o 3 4 rfl rfl rfl) ?_
  refine z_aload_n 2 rfl rfl ?_
  refine z_getI 3 rfl lX4_37 rfl (hS.1.o 3 4 rfl rfl rfl) ?_
  refine z_icmp_ge 4 52 rfl (by decide) ⟨fun c1 => ?_, fun c1 => ?_⟩
  · have B := B.1 c1
    refine z_aload_n 26 rfl rfl ?_
    refine z_aload_n 27 rfl rfl ?_
    refine z_getI 28 rfl lX4_40 rfl (hS.1.o 3 4 rfl rfl rfl) ?_
    refine z_putI 29 rfl lX4_46 ⟨_, _, _, rfl, rfl⟩ rfl rfl rfl (hS.1.o 3 4 rfl rfl rfl) ?_
    refine z_aload_n 30 rfl rfl ?_
    refine z_getI 31 rfl lX4_40 rfl (hS.1.o 3 4 rfl rfl rfl) ?_
    refine z_aload_n 32 rfl rfl ?_
    refine z_getI 33 rfl lX4_37 rfl (hS.1.o 3 4 rfl rfl rfl) ?_
    refine z_icmp_lt 34 80 rfl (by decide) ⟨fun c2 => ?_, fun c2 => ?_⟩
    · have B := B.1 c2
      refine z_aload_n 39 rfl rfl ?_
      obtain ⟨r3, hr3, B⟩ := B
      refine z_getR 40 rfl lX4_15 rfl (hS.1.o 3 4 rfl rfl rfl) hr3 ?_
      refine z_aload_n 41 rfl rfl ?_
      refine z_getI 42 rfl lX4_40 rfl (hS.1.o 3 4 rfl rfl rfl) ?_
      obtain ⟨o4, B⟩ := B
      obtain ⟨o5, B⟩ := B
      refine z_bald 43 rfl o4 o5 ?_
      obtain ⟨Q6, K8, B⟩ := B
      refine z_cSI1 (ν := mX4_isLetter) 44 rfl rfl fX4_isLetter gX4_52 (Nat.le_of_ble_eq_true rfl) K8 (fun v9 h7 q => ?_)
      obtain ⟨hSh7, B⟩ := B v9 h7 q
      refine z_if_eq 45 102 rfl (by decide) ⟨fun c10 => ?_, fun c10 => ?_⟩
      · have B := B.1 c10
        refine z_aload_n 49 rfl rfl ?_
        obtain ⟨r11, hr11, B⟩ := B
        refine z_getR 50 rfl lX4_15 rfl (hSh7.1.o 3 4 rfl rfl rfl) hr11 ?_
        refine z_aload_n 51 rfl rfl ?_
        refine z_getI 52 rfl lX4_40 rfl (hSh7.1.o 3 4 rfl rfl rfl) ?_
        obtain ⟨o12, B⟩ := B
        obtain ⟨o13, B⟩ := B
        refine z_bald 53 rfl o12 o13 ?_
        obtain ⟨Q14, K16, B⟩ := B
        refine z_cSI1 (ν := mX4_isDigit) 54 rfl rfl fX4_isDigit gX4_59 (Nat.le_of_ble_eq_true rfl) K16 (fun v17 h15 q => ?_)
        obtain ⟨hSh15, B⟩ := B v17 h15 q
        refine z_if_eq 55 124 rfl (by decide) ⟨fun c18 => ?_, fun c18 => ?_⟩
        · have B := B.1 c18
          refine z_aload_n 59 rfl rfl ?_
          refine z_dup 60 rfl rfl ?_
          refine z_getI 61 rfl lX4_40 rfl (hSh15.1.o 3 4 rfl rfl rfl) ?_
          refine z_iconst (v := 1) 62 rfl (by decide) ?_
          refine z_iadd 63 rfl ?_
          refine z_putI 64 rfl lX4_40 ⟨_, _, _, rfl, rfl⟩ rfl rfl rfl (hSh15.1.o 3 4 rfl rfl rfl) ?_
          refine z_aload_n 65 rfl rfl ?_
          refine z_aload_n 66 rfl rfl ?_
          refine z_aload_n 67 rfl rfl ?_
          obtain ⟨r19, hr19, B⟩ := B
          refine z_getR 68 rfl lX4_15 rfl (hSh15.1.o 3 4 rfl rfl rfl) hr19 ?_
          refine z_aload_n 69 rfl rfl ?_
          refine z_getI 70 rfl lX4_46 rfl (hSh15.1.o 3 4 rfl rfl rfl) ?_
          obtain ⟨o20, B⟩ := B
          obtain ⟨o21, B⟩ := B
          refine z_bald 71 rfl o20 o21 ?_
          obtain ⟨Q22, K24, B⟩ := B
          refine z_cVI1 (ν := mX4_signOf) 72 rfl rfl fX4_signOf gX4_65 ⟨_, rfl, rfl⟩ (by decide) (hSh15.1.o 3 4 rfl rfl rfl) (Nat.le_of_ble_eq_true rfl) K24 (fun v25 h23 q => ?_)
          obtain ⟨hSh23, B⟩ := B v25 h23 q
          refine z_putI 73 rfl lX4_49 ⟨_, _, _, rfl, rfl⟩ rfl rfl rfl (hSh23.1.o 3 4 rfl rfl rfl) ?_
          exact z_vret 74 rfl rfl ⟨rfl, rfl⟩ ⟨rfl, B⟩
        · have B := B.2 c18
          refine z_aload_n 56 rfl rfl ?_
          obtain ⟨Q26, K28, B⟩ := B
          refine z_cVV0 (ν := mX4_readNumber) 57 rfl rfl fX4_readNumber gX4_62 ⟨_, rfl, rfl⟩ (by decide) (hSh15.1.o 3 4 rfl rfl rfl) (Nat.le_of_ble_eq_true rfl) K28 (fun h27 q => ?_)
          obtain ⟨hSh27, B⟩ := B h27 q
          refine z_goto 58 151 rfl (by decide) ?_
          exact z_vret 74 rfl rfl ⟨rfl, rfl⟩ ⟨rfl, B⟩
      · have B := B.2 c10
        refine z_aload_n 46 rfl rfl ?_
        obtain ⟨Q29, K31, B⟩ := B
        refine z_cVV0 (ν := mX4_readWord) 47 rfl rfl fX4_readWord gX4_56 ⟨_, rfl, rfl⟩ (by decide) (hSh7.1.o 3 4 rfl rfl rfl) (Nat.le_of_ble_eq_true rfl) K31 (fun h30 q => ?_)
        obtain ⟨hSh30, B⟩ := B h30 q
        refine z_goto 48 151 rfl (by decide) ?_
        exact z_vret 74 rfl rfl ⟨rfl, rfl⟩ ⟨rfl, B⟩
    · have B := B.2 c2
      refine z_aload_n 35 rfl rfl ?_
      refine z_bipush (v := 37) 36 rfl (by decide) ?_
      refine z_putI 37 rfl lX4_49 ⟨_, _, _, rfl, rfl⟩ rfl rfl rfl (hS.1.o 3 4 rfl rfl rfl) ?_
      refine z_goto 38 151 rfl (by decide) ?_
      exact z_vret 74 rfl rfl ⟨rfl, rfl⟩ ⟨rfl, B⟩
  · have B := B.2 c1
    refine z_aload_n 5 rfl rfl ?_
    obtain ⟨r32, hr32, B⟩ := B
    refine z_getR 6 rfl lX4_15 rfl (hS.1.o 3 4 rfl rfl rfl) hr32 ?_
    refine z_aload_n 7 rfl rfl ?_
    refine z_getI 8 rfl lX4_40 rfl (hS.1.o 3 4 rfl rfl rfl) ?_
    obtain ⟨o33, B⟩ := B
    obtain ⟨o34, B⟩ := B
    refine z_bald 9 rfl o33 o34 ?_
    refine z_bipush (v := 10) 10 rfl (by decide) ?_
    refine z_icmp_eq 11 39 rfl (by decide) ⟨fun c35 => ?_, fun c35 => ?_⟩
    · have B := B.1 c35
      refine z_aload_n 19 rfl rfl ?_
      refine z_dup 20 rfl rfl ?_
      refine z_getI 21 rfl lX4_40 rfl (hS.1.o 3 4 rfl rfl rfl) ?_
      refine z_iconst (v := 1) 22 rfl (by decide) ?_
      refine z_iadd 23 rfl ?_
      refine z_putI 24 rfl lX4_40 ⟨_, _, _, rfl, rfl⟩ rfl rfl rfl (hS.1.o 3 4 rfl rfl rfl) ?_
      refine z_goto 25 0 rfl (by decide) ?_
      exact B
    · have B := B.2 c35
      refine z_aload_n 12 rfl rfl ?_
      refine z_getR 13 rfl lX4_15 rfl (hS.1.o 3 4 rfl rfl rfl) hr32 ?_
      refine z_aload_n 14 rfl rfl ?_
      refine z_getI 15 rfl lX4_40 rfl (hS.1.o 3 4 rfl rfl rfl) ?_
      refine z_bald 16 rfl o33 o34 ?_
      refine z_bipush (v := 32) 17 rfl (by decide) ?_
      refine z_icmp_ne 18 52 rfl (by decide) ⟨fun c36 => ?_, fun c36 => ?_⟩
      · have B := B.1 c36
        refine z_aload_n 26 rfl rfl ?_
        refine z_aload_n 27 rfl rfl ?_
        refine z_getI 28 rfl lX4_40 rfl (hS.1.o 3 4 rfl rfl rfl) ?_
        refine z_putI 29 rfl lX4_46 ⟨_, _, _, rfl, rfl⟩ rfl rfl rfl (hS.1.o 3 4 rfl rfl rfl) ?_
        refine z_aload_n 30 rfl rfl ?_
        refine z_getI 31 rfl lX4_40 rfl (hS.1.o 3 4 rfl rfl rfl) ?_
        refine z_aload_n 32 rfl rfl ?_
        refine z_getI 33 rfl lX4_37 rfl (hS.1.o 3 4 rfl rfl rfl) ?_
        refine z_icmp_lt 34 80 rfl (by decide) ⟨fun c37 => ?_, fun c37 => ?_⟩
        · have B := B.1 c37
          refine z_aload_n 39 rfl rfl ?_
          refine z_getR 40 rfl lX4_15 rfl (hS.1.o 3 4 rfl rfl rfl) hr32 ?_
          refine z_aload_n 41 rfl rfl ?_
          refine z_getI 42 rfl lX4_40 rfl (hS.1.o 3 4 rfl rfl rfl) ?_
          obtain ⟨o38, B⟩ := B
          refine z_bald 43 rfl o33 o38 ?_
          obtain ⟨Q39, K41, B⟩ := B
          refine z_cSI1 (ν := mX4_isLetter) 44 rfl rfl fX4_isLetter gX4_52 (Nat.le_of_ble_eq_true rfl) K41 (fun v42 h40 q => ?_)
          obtain ⟨hSh40, B⟩ := B v42 h40 q
          refine z_if_eq 45 102 rfl (by decide) ⟨fun c43 => ?_, fun c43 => ?_⟩
          · have B := B.1 c43
            refine z_aload_n 49 rfl rfl ?_
            obtain ⟨r44, hr44, B⟩ := B
            refine z_getR 50 rfl lX4_15 rfl (hSh40.1.o 3 4 rfl rfl rfl) hr44 ?_
            refine z_aload_n 51 rfl rfl ?_
            refine z_getI 52 rfl lX4_40 rfl (hSh40.1.o 3 4 rfl rfl rfl) ?_
            obtain ⟨o45, B⟩ := B
            obtain ⟨o46, B⟩ := B
            refine z_bald 53 rfl o45 o46 ?_
            obtain ⟨Q47, K49, B⟩ := B
            refine z_cSI1 (ν := mX4_isDigit) 54 rfl rfl fX4_isDigit gX4_59 (Nat.le_of_ble_eq_true rfl) K49 (fun v50 h48 q => ?_)
            obtain ⟨hSh48, B⟩ := B v50 h48 q
            refine z_if_eq 55 124 rfl (by decide) ⟨fun c51 => ?_, fun c51 => ?_⟩
            · have B := B.1 c51
              refine z_aload_n 59 rfl rfl ?_
              refine z_dup 60 rfl rfl ?_
              refine z_getI 61 rfl lX4_40 rfl (hSh48.1.o 3 4 rfl rfl rfl) ?_
              refine z_iconst (v := 1) 62 rfl (by decide) ?_
              refine z_iadd 63 rfl ?_
              refine z_putI 64 rfl lX4_40 ⟨_, _, _, rfl, rfl⟩ rfl rfl rfl (hSh48.1.o 3 4 rfl rfl rfl) ?_
              refine z_aload_n 65 rfl rfl ?_
              refine z_aload_n 66 rfl rfl ?_
              refine z_aload_n 67 rfl rfl ?_
              obtain ⟨r52, hr52, B⟩ := B
              refine z_getR 68 rfl lX4_15 rfl (hSh48.1.o 3 4 rfl rfl rfl) hr52 ?_
              refine z_aload_n 69 rfl rfl ?_
              refine z_getI 70 rfl lX4_46 rfl (hSh48.1.o 3 4 rfl rfl rfl) ?_
              obtain ⟨o53, B⟩ := B
              obtain ⟨o54, B⟩ := B
              refine z_bald 71 rfl o53 o54 ?_
              obtain ⟨Q55, K57, B⟩ := B
              refine z_cVI1 (ν := mX4_signOf) 72 rfl rfl fX4_signOf gX4_65 ⟨_, rfl, rfl⟩ (by decide) (hSh48.1.o 3 4 rfl rfl rfl) (Nat.le_of_ble_eq_true rfl) K57 (fun v58 h56 q => ?_)
              obtain ⟨hSh56, B⟩ := B v58 h56 q
              refine z_putI 73 rfl lX4_49 ⟨_, _, _, rfl, rfl⟩ rfl rfl rfl (hSh56.1.o 3 4 rfl rfl rfl) ?_
              exact z_vret 74 rfl rfl ⟨rfl, rfl⟩ ⟨rfl, B⟩
            · have B := B.2 c51
              refine z_aload_n 56 rfl rfl ?_
              obtain ⟨Q59, K61, B⟩ := B
              refine z_cVV0 (ν := mX4_readNumber) 57 rfl rfl fX4_readNumber gX4_62 ⟨_, rfl, rfl⟩ (by decide) (hSh48.1.o 3 4 rfl rfl rfl) (Nat.le_of_ble_eq_true rfl) K61 (fun h60 q => ?_)
              obtain ⟨hSh60, B⟩ := B h60 q
              refine z_goto 58 151 rfl (by decide) ?_
              exact z_vret 74 rfl rfl ⟨rfl, rfl⟩ ⟨rfl, B⟩
          · have B := B.2 c43
            refine z_aload_n 46 rfl rfl ?_
            obtain ⟨Q62, K64, B⟩ := B
            refine z_cVV0 (ν := mX4_readWord) 47 rfl rfl fX4_readWord gX4_56 ⟨_, rfl, rfl⟩ (by decide) (hSh40.1.o 3 4 rfl rfl rfl) (Nat.le_of_ble_eq_true rfl) K64 (fun h63 q => ?_)
            obtain ⟨hSh63, B⟩ := B h63 q
            refine z_goto 48 151 rfl (by decide) ?_
            exact z_vret 74 rfl rfl ⟨rfl, rfl⟩ ⟨rfl, B⟩
        · have B := B.2 c37
          refine z_aload_n 35 rfl rfl ?_
          refine z_bipush (v := 37) 36 rfl (by decide) ?_
          refine z_putI 37 rfl lX4_49 ⟨_, _, _, rfl, rfl⟩ rfl rfl rfl (hS.1.o 3 4 rfl rfl rfl) ?_
          refine z_goto 38 151 rfl (by decide) ?_
          exact z_vret 74 rfl rfl ⟨rfl, rfl⟩ ⟨rfl, B⟩
      · have B := B.2 c36
        refine z_aload_n 19 rfl rfl ?_
        refine z_dup 20 rfl rfl ?_
        refine z_getI 21 rfl lX4_40 rfl (hS.1.o 3 4 rfl rfl rfl) ?_
        refine z_iconst (v := 1) 22 rfl (by decide) ?_
        refine z_iadd 23 rfl ?_
        refine z_putI 24 rfl lX4_40 ⟨_, _, _, rfl, rfl⟩ rfl rfl rfl (hS.1.o 3 4 rfl rfl rfl) ?_
        refine z_goto 25 0 rfl (by decide) ?_
        exact B
theorem cn_X4_advance {G : zG} {d : Nat} {h : zMem} {Q : zMem → Prop}  (B : zg G mX4_advance (d + 1) 0 [.ref 3] [] h (zPV Q)) : zConV G mX4_advance (d + 1) [.ref 3] h Q := zcon0 (by decide +kernel) eX4_advance (Nat.le_of_ble_eq_true rfl) rfl B
set_option maxRecDepth 100000 in
set_option maxHeartbeats 4000000 in
theorem sg_X4_isLetter_0 {G : zG} {d : Nat} {h : zMem} {Q : Int32 → zMem → Prop} {t : Nat} {x0 : Int32} (hS : zSh1 h t)  (B : (x0 < (97 : Int32) → Q (0 : Int32) h) ∧ (¬ x0 < (97 : Int32) → ((122 : Int32) < x0 → Q (0 : Int32) h) ∧ (¬ (122 : Int32) < x0 → Q (1 : Int32) h))) : zg G mX4_isLetter d 0 [.int x0] [] h (zPI Q) := by
  refine z_iload_n 0 rfl rfl ?_
  refine z_bipush (v := 97) 1 rfl (by decide) ?_
  refine z_icmp_lt 2 16 rfl (by decide) ⟨fun c1 => ?_, fun c1 => ?_⟩
  · have B := B.1 c1
    refine z_iconst (v := 0) 8 rfl (by decide) ?_
    exact z_iret 9 rfl rfl rfl ⟨rfl, rfl⟩ ⟨_, rfl, B⟩
  · have B := B.2 c1
    refine z_iload_n 3 rfl rfl ?_
    refine z_bipush (v := 122) 4 rfl (by decide) ?_
    refine z_icmp_gt 5 16 rfl (by decide) ⟨fun c2 => ?_, fun c2 => ?_⟩
    · have B := B.1 c2
      refine z_iconst (v := 0) 8 rfl (by decide) ?_
      exact z_iret 9 rfl rfl rfl ⟨rfl, rfl⟩ ⟨_, rfl, B⟩
    · have B := B.2 c2
      refine z_iconst (v := 1) 6 rfl (by decide) ?_
      refine z_goto 7 17 rfl (by decide) ?_
      exact z_iret 9 rfl rfl rfl ⟨rfl, rfl⟩ ⟨_, rfl, B⟩
theorem cn_X4_isLetter {G : zG} {d : Nat} {h : zMem} {Q : Int32 → zMem → Prop} {x0 : Int32} (B : zg G mX4_isLetter d 0 [.int x0] [] h (zPI Q)) : zConI G mX4_isLetter d [.int x0] h Q := zcon0 (by decide +kernel) eX4_isLetter (Nat.le_of_ble_eq_true rfl) rfl B
set_option maxRecDepth 100000 in
set_option maxHeartbeats 4000000 in
theorem sg_X4_isDigit_0 {G : zG} {d : Nat} {h : zMem} {Q : Int32 → zMem → Prop} {t : Nat} {x0 : Int32} (hS : zSh1 h t)  (B : (x0 < (48 : Int32) → Q (0 : Int32) h) ∧ (¬ x0 < (48 : Int32) → ((57 : Int32) < x0 → Q (0 : Int32) h) ∧ (¬ (57 : Int32) < x0 → Q (1 : Int32) h))) : zg G mX4_isDigit d 0 [.int x0] [] h (zPI Q) := by
  refine z_iload_n 0 rfl rfl ?_
  refine z_bipush (v := 48) 1 rfl (by decide) ?_
  refine z_icmp_lt 2 16 rfl (by decide) ⟨fun c1 => ?_, fun c1 => ?_⟩
  · have B := B.1 c1
    refine z_iconst (v := 0) 8 rfl (by decide) ?_
    exact z_iret 9 rfl rfl rfl ⟨rfl, rfl⟩ ⟨_, rfl, B⟩
  · have B := B.2 c1
    refine z_iload_n 3 rfl rfl ?_
    refine z_bipush (v := 57) 4 rfl (by decide) ?_
    refine z_icmp_gt 5 16 rfl (by decide) ⟨fun c2 => ?_, fun c2 => ?_⟩
    · have B := B.1 c2
      refine z_iconst (v := 0) 8 rfl (by decide) ?_
      exact z_iret 9 rfl rfl rfl ⟨rfl, rfl⟩ ⟨_, rfl, B⟩
    · have B := B.2 c2
      refine z_iconst (v := 1) 6 rfl (by decide) ?_
      refine z_goto 7 17 rfl (by decide) ?_
      exact z_iret 9 rfl rfl rfl ⟨rfl, rfl⟩ ⟨_, rfl, B⟩
theorem cn_X4_isDigit {G : zG} {d : Nat} {h : zMem} {Q : Int32 → zMem → Prop} {x0 : Int32} (B : zg G mX4_isDigit d 0 [.int x0] [] h (zPI Q)) : zConI G mX4_isDigit d [.int x0] h Q := zcon0 (by decide +kernel) eX4_isDigit (Nat.le_of_ble_eq_true rfl) rfl B
set_option maxRecDepth 100000 in
set_option maxHeartbeats 4000000 in
theorem sg_X4_readWord_0 {G : zG} {d : Nat} {h : zMem} {Q : zMem → Prop} {t : Nat}  (hS : zSh1 h t)  (B : zg G mX4_readWord (d + 1) 4 [.ref 3, .int (0 : Int32), .int (0 : Int32), zU] [] h (zPV Q)) : zg G mX4_readWord (d + 1) 0 [.ref 3, zU, zU, zU] [] h (zPV Q) := by
  refine z_iconst (v := 0) 0 rfl (by decide) ?_
  refine z_istore_n 1 rfl (by decide) rfl ?_
  refine z_iconst (v := 0) 2 rfl (by decide) ?_
  refine z_istore_n 3 rfl (by decide) rfl ?_
  exact B
theorem cn_X4_readWord {G : zG} {d : Nat} {h : zMem} {Q : zMem → Prop}  (B : zg G mX4_readWord (d + 1) 0 [.ref 3, zU, zU, zU] [] h (zPV Q)) : zConV G mX4_readWord (d + 1) [.ref 3] h Q := zcon0 (by decide +kernel) eX4_readWord (Nat.le_of_ble_eq_true rfl) rfl B
set_option maxRecDepth 100000 in
set_option maxHeartbeats 4000000 in
theorem sg_X4_readWord_4 {G : zG} {d : Nat} {h : zMem} {Q : zMem → Prop} {t : Nat} {x1 : Int32} {x2 : Int32} (hS : zSh1 h t)  (B : ((zI h 3 2) ≤ (zI h 3 3) → (x1 ≤ (6 : Int32) → zg G mX4_readWord (d + 1) 98 [.ref 3, .int x1, .int x2, .int (0 : Int32)] [] (zsI (zsI h 3 6 (x2 <<< (((5 : Int32) * ((6 : Int32) - x1)) &&& 31))) 3 4 (35 : Int32)) (zPV Q)) ∧ (¬ x1 ≤ (6 : Int32) → Q (zsI h 3 4 (38 : Int32)))) ∧ (¬ (zI h 3 2) ≤ (zI h 3 3) → ∃ r3, zR h 3 1 = some r3 ∧ zO h r3 102 ∧ vp_in (zI h 3 3) (zLen h r3) ∧ ∃ Q6 : Int32 → zMem → Prop, zConI G mX4_isLetter d [.int (zI h r3 (zI h 3 3).toNatClampNeg)] h Q6 ∧ (∀ v9 h7, Q6 v9 h7 → zSh1 h7 t ∧ (v9 = 0 → (x1 ≤ (6 : Int32) → zg G mX4_readWord (d + 1) 98 [.ref 3, .int x1, .int x2, .int (0 : Int32)] [] (zsI (zsI h7 3 6 (x2 <<< (((5 : Int32) * ((6 : Int32) - x1)) &&& 31))) 3 4 (35 : Int32)) (zPV Q)) ∧ (¬ x1 ≤ (6 : Int32) → Q (zsI h7 3 4 (38 : Int32)))) ∧ (¬ v9 = 0 → ∃ r12, zR h7 3 1 = some r12 ∧ zO h7 r12 102 ∧ vp_in (zI h7 3 3) (zLen h7 r12) ∧ zg G mX4_readWord (d + 1) 4 [.ref 3, .int (x1 + 1), .int ((x2 <<< ((5 : Int32) &&& 31)) ||| (((zI h7 r12 (zI h7 3 3).toNatClampNeg) - (97 : Int32)) + (1 : Int32))), zU] [] (zsI h7 3 3 ((zI h7 3 3) + (1 : Int32))) (zPV Q))))) : zg G mX4_readWord (d + 1) 4 [.ref 3, .int x1, .int x2, zU] [] h (zPV Q) := by
  refine z_aload_n 4 rfl rfl ?_
  refine z_getI 5 rfl lX4_40 rfl (hS.1.o 3 4 rfl rfl rfl) ?_
  refine z_aload_n 6 rfl rfl ?_
  refine z_getI 7 rfl lX4_37 rfl (hS.1.o 3 4 rfl rfl rfl) ?_
  refine z_icmp_ge 8 65 rfl (by decide) ⟨fun c1 => ?_, fun c1 => ?_⟩
  · have B := B.1 c1
    refine z_iload_n 38 rfl rfl ?_
    refine z_bipush (v := 6) 39 rfl (by decide) ?_
    refine z_icmp_le 40 78 rfl (by decide) ⟨fun c2 => ?_, fun c2 => ?_⟩
    · have B := B.1 c2
      refine z_aload_n 45 rfl rfl ?_
      refine z_iload_n 46 rfl rfl ?_
      refine z_iconst (v := 5) 47 rfl (by decide) ?_
      refine z_bipush (v := 6) 48 rfl (by decide) ?_
      refine z_iload_n 49 rfl rfl ?_
      refine z_isub 50 rfl ?_
      refine z_imul 51 rfl ?_
      refine z_ishl 52 rfl ?_
      refine z_putI 53 rfl lX4_69 ⟨_, _, _, rfl, rfl⟩ rfl rfl rfl (hS.1.o 3 4 rfl rfl rfl) ?_
      refine z_aload_n 54 rfl rfl ?_
      refine z_bipush (v := 35) 55 rfl (by decide) ?_
      refine z_putI 56 rfl lX4_49 ⟨_, _, _, rfl, rfl⟩ rfl rfl rfl (hS.1.o 3 4 rfl rfl rfl) ?_
      refine z_iconst (v := 0) 57 rfl (by decide) ?_
      refine z_istore_n 58 rfl (by decide) rfl ?_
      exact B
    · have B := B.2 c2
      refine z_aload_n 41 rfl rfl ?_
      refine z_bipush (v := 38) 42 rfl (by decide) ?_
      refine z_putI 43 rfl lX4_49 ⟨_, _, _, rfl, rfl⟩ rfl rfl rfl (hS.1.o 3 4 rfl rfl rfl) ?_
      exact z_vret 44 rfl rfl ⟨rfl, rfl⟩ ⟨rfl, B⟩
  · have B := B.2 c1
    refine z_aload_n 9 rfl rfl ?_
    obtain ⟨r3, hr3, B⟩ := B
    refine z_getR 10 rfl lX4_15 rfl (hS.1.o 3 4 rfl rfl rfl) hr3 ?_
    refine z_aload_n 11 rfl rfl ?_
    refine z_getI 12 rfl lX4_40 rfl (hS.1.o 3 4 rfl rfl rfl) ?_
    obtain ⟨o4, B⟩ := B
    obtain ⟨o5, B⟩ := B
    refine z_bald 13 rfl o4 o5 ?_
    obtain ⟨Q6, K8, B⟩ := B
    refine z_cSI1 (ν := mX4_isLetter) 14 rfl rfl fX4_isLetter gX4_52 (Nat.le_of_ble_eq_true rfl) K8 (fun v9 h7 q => ?_)
    obtain ⟨hSh7, B⟩ := B v9 h7 q
    refine z_if_eq 15 65 rfl (by decide) ⟨fun c10 => ?_, fun c10 => ?_⟩
    · have B := B.1 c10
      refine z_iload_n 38 rfl rfl ?_
      refine z_bipush (v := 6) 39 rfl (by decide) ?_
      refine z_icmp_le 40 78 rfl (by decide) ⟨fun c11 => ?_, fun c11 => ?_⟩
      · have B := B.1 c11
        refine z_aload_n 45 rfl rfl ?_
        refine z_iload_n 46 rfl rfl ?_
        refine z_iconst (v := 5) 47 rfl (by decide) ?_
        refine z_bipush (v := 6) 48 rfl (by decide) ?_
        refine z_iload_n 49 rfl rfl ?_
        refine z_isub 50 rfl ?_
        refine z_imul 51 rfl ?_
        refine z_ishl 52 rfl ?_
        refine z_putI 53 rfl lX4_69 ⟨_, _, _, rfl, rfl⟩ rfl rfl rfl (hSh7.1.o 3 4 rfl rfl rfl) ?_
        refine z_aload_n 54 rfl rfl ?_
        refine z_bipush (v := 35) 55 rfl (by decide) ?_
        refine z_putI 56 rfl lX4_49 ⟨_, _, _, rfl, rfl⟩ rfl rfl rfl (hSh7.1.o 3 4 rfl rfl rfl) ?_
        refine z_iconst (v := 0) 57 rfl (by decide) ?_
        refine z_istore_n 58 rfl (by decide) rfl ?_
        exact B
      · have B := B.2 c11
        refine z_aload_n 41 rfl rfl ?_
        refine z_bipush (v := 38) 42 rfl (by decide) ?_
        refine z_putI 43 rfl lX4_49 ⟨_, _, _, rfl, rfl⟩ rfl rfl rfl (hSh7.1.o 3 4 rfl rfl rfl) ?_
        exact z_vret 44 rfl rfl ⟨rfl, rfl⟩ ⟨rfl, B⟩
    · have B := B.2 c10
      refine z_iload_n 16 rfl rfl ?_
      refine z_iconst (v := 5) 17 rfl (by decide) ?_
      refine z_ishl 18 rfl ?_
      refine z_aload_n 19 rfl rfl ?_
      obtain ⟨r12, hr12, B⟩ := B
      refine z_getR 20 rfl lX4_15 rfl (hSh7.1.o 3 4 rfl rfl rfl) hr12 ?_
      refine z_aload_n 21 rfl rfl ?_
      refine z_getI 22 rfl lX4_40 rfl (hSh7.1.o 3 4 rfl rfl rfl) ?_
      obtain ⟨o13, B⟩ := B
      obtain ⟨o14, B⟩ := B
      refine z_bald 23 rfl o13 o14 ?_
      refine z_bipush (v := 97) 24 rfl (by decide) ?_
      refine z_isub 25 rfl ?_
      refine z_iconst (v := 1) 26 rfl (by decide) ?_
      refine z_iadd 27 rfl ?_
      refine z_ior 28 rfl ?_
      refine z_istore_n 29 rfl (by decide) rfl ?_
      refine z_iinc (v := 1) 30 rfl rfl (by decide) (by decide) rfl ?_
      refine z_aload_n 31 rfl rfl ?_
      refine z_dup 32 rfl rfl ?_
      refine z_getI 33 rfl lX4_40 rfl (hSh7.1.o 3 4 rfl rfl rfl) ?_
      refine z_iconst (v := 1) 34 rfl (by decide) ?_
      refine z_iadd 35 rfl ?_
      refine z_putI 36 rfl lX4_40 ⟨_, _, _, rfl, rfl⟩ rfl rfl rfl (hSh7.1.o 3 4 rfl rfl rfl) ?_
      refine z_goto 37 4 rfl (by decide) ?_
      exact B
set_option maxRecDepth 100000 in
set_option maxHeartbeats 4000000 in
theorem sg_X4_readWord_98 {G : zG} {d : Nat} {h : zMem} {Q : zMem → Prop} {t : Nat} {x1 : Int32} {x2 : Int32} {x3 : Int32} (hS : zSh1 h t)  (B : ((nI 22) ≤ x3 → Q h) ∧ (¬ (nI 22) ≤ x3 → vp_in x3 22 ∧ (¬ (zI h 4 x3.toNatClampNeg) = (zI h 3 6) → zg G mX4_readWord (d + 1) 98 [.ref 3, .int x1, .int x2, .int (x3 + 1)] [] h (zPV Q)) ∧ ((zI h 4 x3.toNatClampNeg) = (zI h 3 6) → zg G mX4_readWord (d + 1) 98 [.ref 3, .int x1, .int x2, .int (x3 + 1)] [] (zsI h 3 4 x3) (zPV Q)))) : zg G mX4_readWord (d + 1) 98 [.ref 3, .int x1, .int x2, .int x3] [] h (zPV Q) := by
  refine z_iload_n 59 rfl rfl ?_
  refine z_aload_n 60 rfl rfl ?_
  refine z_getR 61 rfl lX4_9 rfl (hS.1.o 3 4 rfl rfl rfl) (hS.1.r 3 0 4 rfl rfl rfl) ?_
  refine z_alen 62 rfl (hS.1.o 4 100 rfl rfl rfl) (Or.inl rfl) ?_
  rw [(hS.1.l 4 22 rfl rfl rfl)]
  refine z_icmp_ge 63 131 rfl (by decide) ⟨fun c1 => ?_, fun c1 => ?_⟩
  · have B := B.1 c1
    exact z_vret 76 rfl rfl ⟨rfl, rfl⟩ ⟨rfl, B⟩
  · have B := B.2 c1
    refine z_aload_n 64 rfl rfl ?_
    refine z_getR 65 rfl lX4_9 rfl (hS.1.o 3 4 rfl rfl rfl) (hS.1.r 3 0 4 rfl rfl rfl) ?_
    refine z_iload_n 66 rfl rfl ?_
    obtain ⟨o2, B⟩ := B
    refine z_iald 67 rfl (hS.1.o 4 100 rfl rfl rfl) (zin (hS.1.l 4 22 rfl rfl rfl) o2) ?_
    refine z_aload_n 68 rfl rfl ?_
    refine z_getI 69 rfl lX4_69 rfl (hS.1.o 3 4 rfl rfl rfl) ?_
    refine z_icmp_ne 70 125 rfl (by decide) ⟨fun c3 => ?_, fun c3 => ?_⟩
    · have B := B.1 c3
      refine z_iinc (v := 1) 74 rfl rfl (by decide) (by decide) rfl ?_
      refine z_goto 75 98 rfl (by decide) ?_
      exact B
    · have B := B.2 c3
      refine z_aload_n 71 rfl rfl ?_
      refine z_iload_n 72 rfl rfl ?_
      refine z_putI 73 rfl lX4_49 ⟨_, _, _, rfl, rfl⟩ rfl rfl rfl (hS.1.o 3 4 rfl rfl rfl) ?_
      refine z_iinc (v := 1) 74 rfl rfl (by decide) (by decide) rfl ?_
      refine z_goto 75 98 rfl (by decide) ?_
      exact B
set_option maxRecDepth 100000 in
set_option maxHeartbeats 4000000 in
theorem sg_X4_readNumber_0 {G : zG} {d : Nat} {h : zMem} {Q : zMem → Prop} {t : Nat}  (hS : zSh1 h t)  (B : zg G mX4_readNumber (d + 1) 5 [.ref 3] [] (zsI h 3 7 (0 : Int32)) (zPV Q)) : zg G mX4_readNumber (d + 1) 0 [.ref 3] [] h (zPV Q) := by
  refine z_aload_n 0 rfl rfl ?_
  refine z_iconst (v := 0) 1 rfl (by decide) ?_
  refine z_putI 2 rfl lX4_72 ⟨_, _, _, rfl, rfl⟩ rfl rfl rfl (hS.1.o 3 4 rfl rfl rfl) ?_
  exact B
theorem cn_X4_readNumber {G : zG} {d : Nat} {h : zMem} {Q : zMem → Prop}  (B : zg G mX4_readNumber (d + 1) 0 [.ref 3] [] h (zPV Q)) : zConV G mX4_readNumber (d + 1) [.ref 3] h Q := zcon0 (by decide +kernel) eX4_readNumber (Nat.le_of_ble_eq_true rfl) rfl B
set_option maxRecDepth 100000 in
set_option maxHeartbeats 4000000 in
theorem sg_X4_readNumber_5 {G : zG} {d : Nat} {h : zMem} {Q : zMem → Prop} {t : Nat}  (hS : zSh1 h t)  (B : ((zI h 3 2) ≤ (zI h 3 3) → Q (zsI h 3 4 (36 : Int32))) ∧ (¬ (zI h 3 2) ≤ (zI h 3 3) → ∃ r2, zR h 3 1 = some r2 ∧ zO h r2 102 ∧ vp_in (zI h 3 3) (zLen h r2) ∧ ∃ Q5 : Int32 → zMem → Prop, zConI G mX4_isDigit d [.int (zI h r2 (zI h 3 3).toNatClampNeg)] h Q5 ∧ (∀ v8 h6, Q5 v8 h6 → zSh1 h6 t ∧ (v8 = 0 → Q (zsI h6 3 4 (36 : Int32))) ∧ (¬ v8 = 0 → ∃ r10, zR h6 3 1 = some r10 ∧ zO h6 r10 102 ∧ vp_in (zI h6 3 3) (zLen h6 r10) ∧ zg G mX4_readNumber (d + 1) 5 [.ref 3] [] (zsI (zsI h6 3 7 (if ((((zI h6 3 7) * (10 : Int32)) + (zI h6 r10 (zI h6 3 3).toNatClampNeg)) - (48 : Int32)) < (1000000 : Int32) then ((((zI h6 3 7) * (10 : Int32)) + (zI h6 r10 (zI h6 3 3).toNatClampNeg)) - (48 : Int32)) else (1000000 : Int32))) 3 3 ((zI (zsI h6 3 7 (if ((((zI h6 3 7) * (10 : Int32)) + (zI h6 r10 (zI h6 3 3).toNatClampNeg)) - (48 : Int32)) < (1000000 : Int32) then ((((zI h6 3 7) * (10 : Int32)) + (zI h6 r10 (zI h6 3 3).toNatClampNeg)) - (48 : Int32)) else (1000000 : Int32))) 3 3) + (1 : Int32))) (zPV Q))))) : zg G mX4_readNumber (d + 1) 5 [.ref 3] [] h (zPV Q) := by
  refine z_aload_n 3 rfl rfl ?_
  refine z_getI 4 rfl lX4_40 rfl (hS.1.o 3 4 rfl rfl rfl) ?_
  refine z_aload_n 5 rfl rfl ?_
  refine z_getI 6 rfl lX4_37 rfl (hS.1.o 3 4 rfl rfl rfl) ?_
  refine z_icmp_ge 7 73 rfl (by decide) ⟨fun c1 => ?_, fun c1 => ?_⟩
  · have B := B.1 c1
    refine z_aload_n 38 rfl rfl ?_
    refine z_bipush (v := 36) 39 rfl (by decide) ?_
    refine z_putI 40 rfl lX4_49 ⟨_, _, _, rfl, rfl⟩ rfl rfl rfl (hS.1.o 3 4 rfl rfl rfl) ?_
    exact z_vret 41 rfl rfl ⟨rfl, rfl⟩ ⟨rfl, B⟩
  · have B := B.2 c1
    refine z_aload_n 8 rfl rfl ?_
    obtain ⟨r2, hr2, B⟩ := B
    refine z_getR 9 rfl lX4_15 rfl (hS.1.o 3 4 rfl rfl rfl) hr2 ?_
    refine z_aload_n 10 rfl rfl ?_
    refine z_getI 11 rfl lX4_40 rfl (hS.1.o 3 4 rfl rfl rfl) ?_
    obtain ⟨o3, B⟩ := B
    obtain ⟨o4, B⟩ := B
    refine z_bald 12 rfl o3 o4 ?_
    obtain ⟨Q5, K7, B⟩ := B
    refine z_cSI1 (ν := mX4_isDigit) 13 rfl rfl fX4_isDigit gX4_59 (Nat.le_of_ble_eq_true rfl) K7 (fun v8 h6 q => ?_)
    obtain ⟨hSh6, B⟩ := B v8 h6 q
    refine z_if_eq 14 73 rfl (by decide) ⟨fun c9 => ?_, fun c9 => ?_⟩
    · have B := B.1 c9
      refine z_aload_n 38 rfl rfl ?_
      refine z_bipush (v := 36) 39 rfl (by decide) ?_
      refine z_putI 40 rfl lX4_49 ⟨_, _, _, rfl, rfl⟩ rfl rfl rfl (hSh6.1.o 3 4 rfl rfl rfl) ?_
      exact z_vret 41 rfl rfl ⟨rfl, rfl⟩ ⟨rfl, B⟩
    · have B := B.2 c9
      refine z_aload_n 15 rfl rfl ?_
      refine z_ldc 16 rfl kX4_75 ?_
      refine z_aload_n 17 rfl rfl ?_
      refine z_getI 18 rfl lX4_72 rfl (hSh6.1.o 3 4 rfl rfl rfl) ?_
      refine z_bipush (v := 10) 19 rfl (by decide) ?_
      refine z_imul 20 rfl ?_
      refine z_aload_n 21 rfl rfl ?_
      obtain ⟨r10, hr10, B⟩ := B
      refine z_getR 22 rfl lX4_15 rfl (hSh6.1.o 3 4 rfl rfl rfl) hr10 ?_
      refine z_aload_n 23 rfl rfl ?_
      refine z_getI 24 rfl lX4_40 rfl (hSh6.1.o 3 4 rfl rfl rfl) ?_
      obtain ⟨o11, B⟩ := B
      obtain ⟨o12, B⟩ := B
      refine z_bald 25 rfl o11 o12 ?_
      refine z_iadd 26 rfl ?_
      refine z_bipush (v := 48) 27 rfl (by decide) ?_
      refine z_isub 28 rfl ?_
      refine z_mmin 29 rfl rfl gmX4_31 (Nat.le_of_ble_eq_true rfl) ?_
      refine z_putI 30 rfl lX4_72 ⟨_, _, _, rfl, rfl⟩ rfl rfl rfl (hSh6.1.o 3 4 rfl rfl rfl) ?_
      refine z_aload_n 31 rfl rfl ?_
      refine z_dup 32 rfl rfl ?_
      refine z_getI 33 rfl lX4_40 rfl (hSh6.1.o 3 4 rfl rfl rfl) ?_
      refine z_iconst (v := 1) 34 rfl (by decide) ?_
      refine z_iadd 35 rfl ?_
      refine z_putI 36 rfl lX4_40 ⟨_, _, _, rfl, rfl⟩ rfl rfl rfl (hSh6.1.o 3 4 rfl rfl rfl) ?_
      refine z_goto 37 5 rfl (by decide) ?_
      exact B
theorem zsw_X4_signOf_1 {x : Int32} (z1 : ¬ x.toInt < 40) (z2 : ¬ 62 < x.toInt) (c40 : ¬ x = 40) (c41 : ¬ x = 41) (c42 : ¬ x = 42) (c43 : ¬ x = 43) (c45 : ¬ x = 45) (c47 : ¬ x = 47) (c59 : ¬ x = 59) (c60 : ¬ x = 60) (c61 : ¬ x = 61) (c62 : ¬ x = 62) : (#[170, 173, 164, 158, 179, 161, 179, 167, 179, 179, 179, 179, 179, 179, 179, 179, 179, 179, 179, 176, 107, 155, 138] : Array Int)[(x.toInt - 40).toNat]? = some 179 := by
  obtain ⟨v, hv⟩ : ∃ v : Int, v = x.toInt := ⟨_, rfl⟩
  have c40 : v ≠ 40 := fun e => c40 (Int32.toInt_inj.mp (by rw [← hv, e]; decide))
  have c41 : v ≠ 41 := fun e => c41 (Int32.toInt_inj.mp (by rw [← hv, e]; decide))
  have c42 : v ≠ 42 := fun e => c42 (Int32.toInt_inj.mp (by rw [← hv, e]; decide))
  have c43 : v ≠ 43 := fun e => c43 (Int32.toInt_inj.mp (by rw [← hv, e]; decide))
  have c45 : v ≠ 45 := fun e => c45 (Int32.toInt_inj.mp (by rw [← hv, e]; decide))
  have c47 : v ≠ 47 := fun e => c47 (Int32.toInt_inj.mp (by rw [← hv, e]; decide))
  have c59 : v ≠ 59 := fun e => c59 (Int32.toInt_inj.mp (by rw [← hv, e]; decide))
  have c60 : v ≠ 60 := fun e => c60 (Int32.toInt_inj.mp (by rw [← hv, e]; decide))
  have c61 : v ≠ 61 := fun e => c61 (Int32.toInt_inj.mp (by rw [← hv, e]; decide))
  have c62 : v ≠ 62 := fun e => c62 (Int32.toInt_inj.mp (by rw [← hv, e]; decide))
  rw [← hv] at z1 z2 ⊢
  rcases (show v = 40 ∨ v = 41 ∨ v = 42 ∨ v = 43 ∨ v = 44 ∨ v = 45 ∨ v = 46 ∨ v = 47 ∨ v = 48 ∨ v = 49 ∨ v = 50 ∨ v = 51 ∨ v = 52 ∨ v = 53 ∨ v = 54 ∨ v = 55 ∨ v = 56 ∨ v = 57 ∨ v = 58 ∨ v = 59 ∨ v = 60 ∨ v = 61 ∨ v = 62 by omega) with rfl | rfl | rfl | rfl | rfl | rfl | rfl | rfl | rfl | rfl | rfl | rfl | rfl | rfl | rfl | rfl | rfl | rfl | rfl | rfl | rfl | rfl | rfl
  all_goals first | exact absurd rfl (by assumption) | decide
set_option maxRecDepth 100000 in
set_option maxHeartbeats 4000000 in
theorem sg_X4_signOf_0 {G : zG} {d : Nat} {h : zMem} {Q : Int32 → zMem → Prop} {t : Nat} {x1 : Int32} (hS : zSh1 h t)  (B : (x1 = 40 → Q (32 : Int32) h) ∧ (x1 = 41 → Q (33 : Int32) h) ∧ (x1 = 42 → Q (30 : Int32) h) ∧ (x1 = 43 → Q (28 : Int32) h) ∧ (x1 = 45 → Q (29 : Int32) h) ∧ (x1 = 47 → Q (31 : Int32) h) ∧ (x1 = 59 → Q (34 : Int32) h) ∧ (x1 = 60 → ∃ Q1 : Int32 → zMem → Prop, zConI G mX4_takes d [.ref 3, .int (61 : Int32)] h Q1 ∧ (∀ v4 h2, Q1 v4 h2 → zSh1 h2 t ∧ (v4 = 0 → ∃ Q6 : Int32 → zMem → Prop, zConI G mX4_takes d [.ref 3, .int (62 : Int32)] h2 Q6 ∧ (∀ v9 h7, Q6 v9 h7 → zSh1 h7 t ∧ (v9 = 0 → Q (22 : Int32) h7) ∧ (¬ v9 = 0 → Q (25 : Int32) h7))) ∧ (¬ v4 = 0 → Q (23 : Int32) h2))) ∧ (x1 = 61 → Q (24 : Int32) h) ∧ (x1 = 62 → ∃ Q11 : Int32 → zMem → Prop, zConI G mX4_takes d [.ref 3, .int (61 : Int32)] h Q11 ∧ (∀ v14 h12, Q11 v14 h12 → zSh1 h12 t ∧ (v14 = 0 → Q (27 : Int32) h12) ∧ (¬ v14 = 0 → Q (26 : Int32) h12))) ∧ (¬ x1 = 40 → ¬ x1 = 41 → ¬ x1 = 42 → ¬ x1 = 43 → ¬ x1 = 45 → ¬ x1 = 47 → ¬ x1 = 59 → ¬ x1 = 60 → ¬ x1 = 61 → ¬ x1 = 62 → Q (38 : Int32) h)) : zg G mX4_signOf (d + 1) 0 [.ref 3, .int x1] [] h (zPI Q) := by
  refine z_iload_n 0 rfl rfl ?_
  by_cases c16_40 : x1 = 40
  · obtain ⟨B, -⟩ := B
    refine z_tableIn 1 171 rfl 40 (by rw [c16_40]; decide) (by decide) (by decide) rfl (by decide) ?_
    have B := B c16_40
    refine z_bipush (v := 32) 34 rfl (by decide) ?_
    exact z_iret 35 rfl rfl rfl ⟨rfl, rfl⟩ ⟨_, rfl, B⟩
  obtain ⟨-, B⟩ := B
  by_cases c16_41 : x1 = 41
  · obtain ⟨B, -⟩ := B
    refine z_tableIn 1 174 rfl 41 (by rw [c16_41]; decide) (by decide) (by decide) rfl (by decide) ?_
    have B := B c16_41
    refine z_bipush (v := 33) 36 rfl (by decide) ?_
    exact z_iret 37 rfl rfl rfl ⟨rfl, rfl⟩ ⟨_, rfl, B⟩
  obtain ⟨-, B⟩ := B
  by_cases c16_42 : x1 = 42
  · obtain ⟨B, -⟩ := B
    refine z_tableIn 1 165 rfl 42 (by rw [c16_42]; decide) (by decide) (by decide) rfl (by decide) ?_
    have B := B c16_42
    refine z_bipush (v := 30) 30 rfl (by decide) ?_
    exact z_iret 31 rfl rfl rfl ⟨rfl, rfl⟩ ⟨_, rfl, B⟩
  obtain ⟨-, B⟩ := B
  by_cases c16_43 : x1 = 43
  · obtain ⟨B, -⟩ := B
    refine z_tableIn 1 159 rfl 43 (by rw [c16_43]; decide) (by decide) (by decide) rfl (by decide) ?_
    have B := B c16_43
    refine z_bipush (v := 28) 26 rfl (by decide) ?_
    exact z_iret 27 rfl rfl rfl ⟨rfl, rfl⟩ ⟨_, rfl, B⟩
  obtain ⟨-, B⟩ := B
  by_cases c16_45 : x1 = 45
  · obtain ⟨B, -⟩ := B
    refine z_tableIn 1 162 rfl 45 (by rw [c16_45]; decide) (by decide) (by decide) rfl (by decide) ?_
    have B := B c16_45
    refine z_bipush (v := 29) 28 rfl (by decide) ?_
    exact z_iret 29 rfl rfl rfl ⟨rfl, rfl⟩ ⟨_, rfl, B⟩
  obtain ⟨-, B⟩ := B
  by_cases c16_47 : x1 = 47
  · obtain ⟨B, -⟩ := B
    refine z_tableIn 1 168 rfl 47 (by rw [c16_47]; decide) (by decide) (by decide) rfl (by decide) ?_
    have B := B c16_47
    refine z_bipush (v := 31) 32 rfl (by decide) ?_
    exact z_iret 33 rfl rfl rfl ⟨rfl, rfl⟩ ⟨_, rfl, B⟩
  obtain ⟨-, B⟩ := B
  by_cases c16_59 : x1 = 59
  · obtain ⟨B, -⟩ := B
    refine z_tableIn 1 177 rfl 59 (by rw [c16_59]; decide) (by decide) (by decide) rfl (by decide) ?_
    have B := B c16_59
    refine z_bipush (v := 34) 38 rfl (by decide) ?_
    exact z_iret 39 rfl rfl rfl ⟨rfl, rfl⟩ ⟨_, rfl, B⟩
  obtain ⟨-, B⟩ := B
  by_cases c16_60 : x1 = 60
  · obtain ⟨B, -⟩ := B
    refine z_tableIn 1 108 rfl 60 (by rw [c16_60]; decide) (by decide) (by decide) rfl (by decide) ?_
    have B := B c16_60
    refine z_aload_n 2 rfl rfl ?_
    refine z_bipush (v := 61) 3 rfl (by decide) ?_
    obtain ⟨Q1, K3, B⟩ := B
    refine z_cVI1 (ν := mX4_takes) 4 rfl rfl fX4_takes gX4_76 ⟨_, rfl, rfl⟩ (by decide) (hS.1.o 3 4 rfl rfl rfl) (Nat.le_of_ble_eq_true rfl) K3 (fun v4 h2 q => ?_)
    obtain ⟨hSh2, B⟩ := B v4 h2 q
    refine z_if_eq 5 122 rfl (by decide) ⟨fun c5 => ?_, fun c5 => ?_⟩
    · have B := B.1 c5
      refine z_aload_n 8 rfl rfl ?_
      refine z_bipush (v := 62) 9 rfl (by decide) ?_
      obtain ⟨Q6, K8, B⟩ := B
      refine z_cVI1 (ν := mX4_takes) 10 rfl rfl fX4_takes gX4_76 ⟨_, rfl, rfl⟩ (by decide) (hSh2.1.o 3 4 rfl rfl rfl) (Nat.le_of_ble_eq_true rfl) K8 (fun v9 h7 q => ?_)
      obtain ⟨hSh7, B⟩ := B v9 h7 q
      refine z_if_eq 11 136 rfl (by decide) ⟨fun c10 => ?_, fun c10 => ?_⟩
      · have B := B.1 c10
        refine z_bipush (v := 22) 14 rfl (by decide) ?_
        exact z_iret 15 rfl rfl rfl ⟨rfl, rfl⟩ ⟨_, rfl, B⟩
      · have B := B.2 c10
        refine z_bipush (v := 25) 12 rfl (by decide) ?_
        refine z_goto 13 138 rfl (by decide) ?_
        exact z_iret 15 rfl rfl rfl ⟨rfl, rfl⟩ ⟨_, rfl, B⟩
    · have B := B.2 c5
      refine z_bipush (v := 23) 6 rfl (by decide) ?_
      refine z_goto 7 138 rfl (by decide) ?_
      exact z_iret 15 rfl rfl rfl ⟨rfl, rfl⟩ ⟨_, rfl, B⟩
  obtain ⟨-, B⟩ := B
  by_cases c16_61 : x1 = 61
  · obtain ⟨B, -⟩ := B
    refine z_tableIn 1 156 rfl 61 (by rw [c16_61]; decide) (by decide) (by decide) rfl (by decide) ?_
    have B := B c16_61
    refine z_bipush (v := 24) 24 rfl (by decide) ?_
    exact z_iret 25 rfl rfl rfl ⟨rfl, rfl⟩ ⟨_, rfl, B⟩
  obtain ⟨-, B⟩ := B
  by_cases c16_62 : x1 = 62
  · obtain ⟨B, -⟩ := B
    refine z_tableIn 1 139 rfl 62 (by rw [c16_62]; decide) (by decide) (by decide) rfl (by decide) ?_
    have B := B c16_62
    refine z_aload_n 16 rfl rfl ?_
    refine z_bipush (v := 61) 17 rfl (by decide) ?_
    obtain ⟨Q11, K13, B⟩ := B
    refine z_cVI1 (ν := mX4_takes) 18 rfl rfl fX4_takes gX4_76 ⟨_, rfl, rfl⟩ (by decide) (hS.1.o 3 4 rfl rfl rfl) (Nat.le_of_ble_eq_true rfl) K13 (fun v14 h12 q => ?_)
    obtain ⟨hSh12, B⟩ := B v14 h12 q
    refine z_if_eq 19 153 rfl (by decide) ⟨fun c15 => ?_, fun c15 => ?_⟩
    · have B := B.1 c15
      refine z_bipush (v := 27) 22 rfl (by decide) ?_
      exact z_iret 23 rfl rfl rfl ⟨rfl, rfl⟩ ⟨_, rfl, B⟩
    · have B := B.2 c15
      refine z_bipush (v := 26) 20 rfl (by decide) ?_
      refine z_goto 21 155 rfl (by decide) ?_
      exact z_iret 23 rfl rfl rfl ⟨rfl, rfl⟩ ⟨_, rfl, B⟩
  obtain ⟨-, B⟩ := B
  have B := B c16_40 c16_41 c16_42 c16_43 c16_45 c16_47 c16_59 c16_60 c16_61 c16_62
  refine z_tableD 1 180 rfl (by decide) (by
    intro z1 z2
    refine zsw_X4_signOf_1 z1 z2 c16_40 c16_41 c16_42 c16_43 c16_45 c16_47 c16_59 c16_60 c16_61 c16_62) ?_
  refine z_bipush (v := 38) 40 rfl (by decide) ?_
  exact z_iret 41 rfl rfl rfl ⟨rfl, rfl⟩ ⟨_, rfl, B⟩
theorem cn_X4_signOf {G : zG} {d : Nat} {h : zMem} {Q : Int32 → zMem → Prop} {x1 : Int32} (B : zg G mX4_signOf (d + 1) 0 [.ref 3, .int x1] [] h (zPI Q)) : zConI G mX4_signOf (d + 1) [.ref 3, .int x1] h Q := zcon0 (by decide +kernel) eX4_signOf (Nat.le_of_ble_eq_true rfl) rfl B
set_option maxRecDepth 100000 in
set_option maxHeartbeats 4000000 in
theorem sg_X4_takes_0 {G : zG} {d : Nat} {h : zMem} {Q : Int32 → zMem → Prop} {t : Nat} {x1 : Int32} (hS : zSh1 h t)  (B : ((zI h 3 2) ≤ (zI h 3 3) → Q (0 : Int32) h) ∧ (¬ (zI h 3 2) ≤ (zI h 3 3) → ∃ r2, zR h 3 1 = some r2 ∧ zO h r2 102 ∧ vp_in (zI h 3 3) (zLen h r2) ∧ (¬ (zI h r2 (zI h 3 3).toNatClampNeg) = x1 → Q (0 : Int32) h) ∧ ((zI h r2 (zI h 3 3).toNatClampNeg) = x1 → Q (1 : Int32) (zsI h 3 3 ((zI h 3 3) + (1 : Int32)))))) : zg G mX4_takes d 0 [.ref 3, .int x1] [] h (zPI Q) := by
  refine z_aload_n 0 rfl rfl ?_
  refine z_getI 1 rfl lX4_40 rfl (hS.1.o 3 4 rfl rfl rfl) ?_
  refine z_aload_n 2 rfl rfl ?_
  refine z_getI 3 rfl lX4_37 rfl (hS.1.o 3 4 rfl rfl rfl) ?_
  refine z_icmp_ge 4 36 rfl (by decide) ⟨fun c1 => ?_, fun c1 => ?_⟩
  · have B := B.1 c1
    refine z_iconst (v := 0) 20 rfl (by decide) ?_
    exact z_iret 21 rfl rfl rfl ⟨rfl, rfl⟩ ⟨_, rfl, B⟩
  · have B := B.2 c1
    refine z_aload_n 5 rfl rfl ?_
    obtain ⟨r2, hr2, B⟩ := B
    refine z_getR 6 rfl lX4_15 rfl (hS.1.o 3 4 rfl rfl rfl) hr2 ?_
    refine z_aload_n 7 rfl rfl ?_
    refine z_getI 8 rfl lX4_40 rfl (hS.1.o 3 4 rfl rfl rfl) ?_
    obtain ⟨o3, B⟩ := B
    obtain ⟨o4, B⟩ := B
    refine z_bald 9 rfl o3 o4 ?_
    refine z_iload_n 10 rfl rfl ?_
    refine z_icmp_ne 11 36 rfl (by decide) ⟨fun c5 => ?_, fun c5 => ?_⟩
    · have B := B.1 c5
      refine z_iconst (v := 0) 20 rfl (by decide) ?_
      exact z_iret 21 rfl rfl rfl ⟨rfl, rfl⟩ ⟨_, rfl, B⟩
    · have B := B.2 c5
      refine z_aload_n 12 rfl rfl ?_
      refine z_dup 13 rfl rfl ?_
      refine z_getI 14 rfl lX4_40 rfl (hS.1.o 3 4 rfl rfl rfl) ?_
      refine z_iconst (v := 1) 15 rfl (by decide) ?_
      refine z_iadd 16 rfl ?_
      refine z_putI 17 rfl lX4_40 ⟨_, _, _, rfl, rfl⟩ rfl rfl rfl (hS.1.o 3 4 rfl rfl rfl) ?_
      refine z_iconst (v := 1) 18 rfl (by decide) ?_
      exact z_iret 19 rfl rfl rfl ⟨rfl, rfl⟩ ⟨_, rfl, B⟩
theorem cn_X4_takes {G : zG} {d : Nat} {h : zMem} {Q : Int32 → zMem → Prop} {x1 : Int32} (B : zg G mX4_takes d 0 [.ref 3, .int x1] [] h (zPI Q)) : zConI G mX4_takes d [.ref 3, .int x1] h Q := zcon0 (by decide +kernel) eX4_takes (Nat.le_of_ble_eq_true rfl) rfl B
