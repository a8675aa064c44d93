set_option maxRecDepth 100000 in
set_option maxHeartbeats 4000000 in
theorem sg_X4_open_0 {G : zG} {d : Nat} {h : zMem} {Q : zMem → Prop} {a0 : Nat} {a1 : Nat} {x2 : Int32} (B : zO h a0 4 ∧ zO h a1 102 ∧ ∃ Q3 : zMem → Prop, zConV G mX4_advance d [.ref a0] (zsI (zsI (zsR h a0 1 (some a1)) a0 2 (if (nI (zLen h a1)) < x2 then (nI (zLen h a1)) else x2)) a0 3 (0 : Int32)) Q3 ∧ (∀ h4, Q3 h4 → Q h4)) : zg G mX4_open (d + 1) 0 [.ref a0, .ref a1, .int x2] [] h (zPV Q) := by
  refine z_aload_n 0 rfl rfl ?_
  refine z_aload_n 1 rfl rfl ?_
  obtain ⟨o1, B⟩ := B
  refine z_putR 2 rfl lX4_15 ⟨_, _, _, rfl, rfl⟩ rfl o1 ?_
  refine z_aload_n 3 rfl rfl ?_
  refine z_iload_n 4 rfl rfl ?_
  refine z_aload_n 5 rfl rfl ?_
  obtain ⟨o2, B⟩ := B
  refine z_alen 6 rfl o2 (Or.inr (Or.inr (Or.inl rfl))) ?_
  refine z_mmin 7 rfl rfl gmX4_31 (Nat.le_of_ble_eq_true rfl) ?_
  refine z_putI 8 rfl lX4_37 ⟨_, _, _, rfl, rfl⟩ rfl rfl rfl o1 ?_
  refine z_aload_n 9 rfl rfl ?_
  refine z_iconst (v := 0) 10 rfl (by decide) ?_
  refine z_putI 11 rfl lX4_40 ⟨_, _, _, rfl, rfl⟩ rfl rfl rfl o1 ?_
  refine z_aload_n 12 rfl rfl ?_
  obtain ⟨Q3, K5, B⟩ := B
  refine z_cVV0 (ν := mX4_advance) 13 rfl rfl fX4_advance gX4_43 ⟨_, rfl, rfl⟩ (by decide) o1 (Nat.le_of_ble_eq_true rfl) K5 (fun h4 q => ?_)
  have B := B h4 q
  exact z_vret 14 rfl rfl ⟨rfl, rfl⟩ ⟨rfl, B⟩
theorem cn_X4_open {G : zG} {d : Nat} {h : zMem} {Q : zMem → Prop} {a0 : Nat} {a1 : Nat} {x2 : Int32} (B : zg G mX4_open (d + 1) 0 [.ref a0, .ref a1, .int x2] [] h (zPV Q)) : zConV G mX4_open (d + 1) [.ref a0, .ref a1, .int x2] h Q := zcon0 (by decide +kernel) eX4_open (Nat.le_of_ble_eq_true rfl) rfl B
set_option maxRecDepth 100000 in
set_option maxHeartbeats 4000000 in
theorem sg_X4_advance_0 {G : zG} {d : Nat} {h : zMem} {Q : zMem → Prop} {a0 : Nat} (B : zO h a0 4 ∧ ((zI h a0 2) ≤ (zI h a0 3) → ((zI (zsI h a0 5 (zI h a0 3)) a0 3) < (zI (zsI h a0 5 (zI h a0 3)) a0 2) → ∃ r4, zR h a0 1 = some r4 ∧ zO h r4 102 ∧ vp_in (zI (zsI h a0 5 (zI h a0 3)) a0 3) (zLen h r4) ∧ ∃ Q7 : Int32 → zMem → Prop, zConI G mX4_isLetter d [.int (zI (zsI h a0 5 (zI h a0 3)) r4 (zI (zsI h a0 5 (zI h a0 3)) a0 3).toNatClampNeg)] (zsI h a0 5 (zI h a0 3)) Q7 ∧ (∀ v10 h8, Q7 v10 h8 → (v10 = 0 → zO h8 a0 4 ∧ ∃ r13, zR h8 a0 1 = some r13 ∧ zO h8 r13 102 ∧ vp_in (zI h8 a0 3) (zLen h8 r13) ∧ ∃ Q16 : Int32 → zMem → Prop, zConI G mX4_isDigit d [.int (zI h8 r13 (zI h8 a0 3).toNatClampNeg)] h8 Q16 ∧ (∀ v19 h17, Q16 v19 h17 → (v19 = 0 → zO h17 a0 4 ∧ ∃ r22, zR h17 a0 1 = some r22 ∧ zO h17 r22 102 ∧ vp_in (zI (zsI h17 a0 3 ((zI h17 a0 3) + (1 : Int32))) a0 5) (zLen h17 r22) ∧ ∃ Q25 : Int32 → zMem → Prop, zConI G mX4_signOf d [.ref a0, .int (zI (zsI h17 a0 3 ((zI h17 a0 3) + (1 : Int32))) r22 (zI (zsI h17 a0 3 ((zI h17 a0 3) + (1 : Int32))) a0 5).toNatClampNeg)] (zsI h17 a0 3 ((zI h17 a0 3) + (1 : Int32))) Q25 ∧ (∀ v28 h26, Q25 v28 h26 → zO h26 a0 4 ∧ Q (zsI h26 a0 4 v28))) ∧ (¬ v19 = 0 → zO h17 a0 4 ∧ ∃ Q30 : zMem → Prop, zConV G mX4_readNumber d [.ref a0] h17 Q30 ∧ (∀ h31, Q30 h31 → Q h31)))) ∧ (¬ v10 = 0 → zO h8 a0 4 ∧ ∃ Q34 : zMem → Prop, zConV G mX4_readWord d [.ref a0] h8 Q34 ∧ (∀ h35, Q34 h35 → Q h35)))) ∧ (¬ (zI (zsI h a0 5 (zI h a0 3)) a0 3) < (zI (zsI h a0 5 (zI h a0 3)) a0 2) → Q (zsI (zsI h a0 5 (zI h a0 3)) a0 4 (37 : Int32)))) ∧ (¬ (zI h a0 2) ≤ (zI h a0 3) → ∃ r38, zR h a0 1 = some r38 ∧ zO h r38 102 ∧ vp_in (zI h a0 3) (zLen h r38) ∧ ((zI h r38 (zI h a0 3).toNatClampNeg) = (10 : Int32) → zg G mX4_advance (d + 1) 0 [.ref a0] [] (zsI h a0 3 ((zI h a0 3) + (1 : Int32))) (zPV Q)) ∧ (¬ (zI h r38 (zI h a0 3).toNatClampNeg) = (10 : Int32) → (¬ (zI h r38 (zI h a0 3).toNatClampNeg) = (32 : Int32) → ((zI (zsI h a0 5 (zI h a0 3)) a0 3) < (zI (zsI h a0 5 (zI h a0 3)) a0 2) → vp_in (zI (zsI h a0 5 (zI h a0 3)) a0 3) (zLen h r38) ∧ ∃ Q45 : Int32 → zMem → Prop, zConI G mX4_isLetter d [.int (zI (zsI h a0 5 (zI h a0 3)) r38 (zI (zsI h a0 5 (zI h a0 3)) a0 3).toNatClampNeg)] (zsI h a0 5 (zI h a0 3)) Q45 ∧ (∀ v48 h46, Q45 v48 h46 → (v48 = 0 → zO h46 a0 4 ∧ ∃ r51, zR h46 a0 1 = some r51 ∧ zO h46 r51 102 ∧ vp_in (zI h46 a0 3) (zLen h46 r51) ∧ ∃ Q54 : Int32 → zMem → Prop, zConI G mX4_isDigit d [.int (zI h46 r51 (zI h46 a0 3).toNatClampNeg)] h46 Q54 ∧ (∀ v57 h55, Q54 v57 h55 → (v57 = 0 → zO h55 a0 4 ∧ ∃ r60, zR h55 a0 1 = some r60 ∧ zO h55 r60 102 ∧ vp_in (zI (zsI h55 a0 3 ((zI h55 a0 3) + (1 : Int32))) a0 5) (zLen h55 r60) ∧ ∃ Q63 : Int32 → zMem → Prop, zConI G mX4_signOf d [.ref a0, .int (zI (zsI h55 a0 3 ((zI h55 a0 3) + (1 : Int32))) r60 (zI (zsI h55 a0 3 ((zI h55 a0 3) + (1 : Int32))) a0 5).toNatClampNeg)] (zsI h55 a0 3 ((zI h55 a0 3) + (1 : Int32))) Q63 ∧ (∀ v66 h64, Q63 v66 h64 → zO h64 a0 4 ∧ Q (zsI h64 a0 4 v66))) ∧ (¬ v57 = 0 → zO h55 a0 4 ∧ ∃ Q68 : zMem → Prop, zConV G mX4_readNumber d [.ref a0] h55 Q68 ∧ (∀ h69, Q68 h69 → Q h69)))) ∧ (¬ v48 = 0 → zO h46 a0 4 ∧ ∃ Q72 : zMem → Prop, zConV G mX4_readWord d [.ref a0] h46 Q72 ∧ (∀ h73, Q72 h73 → Q h73)))) ∧ (¬ (zI (zsI h a0 5 (zI h a0 3)) a0 3) < (zI (zsI h a0 5 (zI h a0 3)) a0 2) → Q (zsI (zsI h a0 5 (zI h a0 3)) a0 4 (37 : Int32)))) ∧ ((zI h r38 (zI h a0 3).toNatClampNeg) = (32 : Int32) → zg G mX4_advance (d + 1) 0 [.ref a0] [] (zsI h a0 3 ((zI h a0 3) + (1 : Int32))) (zPV Q))))) : zg G mX4_advance (d + 1) 0 [.ref a0] [] h (zPV Q) := by
  refine z_aload_n 0 rfl rfl ?_
  obtain ⟨o1, B⟩ := B
  refine z_getI 1 rfl lX4_40 rfl o1 ?_
  refine z_aload_n 2 rfl rfl ?_
  refine z_getI 3 rfl lX4_37 rfl o1 ?_
  refine z_icmp_ge 4 52 rfl (by decide) ⟨fun c2 => ?_, fun c2 => ?_⟩
  · have B := B.1 c2
    refine z_aload_n 26 rfl rfl ?_
    refine z_aload_n 27 rfl rfl ?_
    refine z_getI 28 rfl lX4_40 rfl o1 ?_
    refine z_putI 29 rfl lX4_46 ⟨_, _, _, rfl, rfl⟩ rfl rfl rfl o1 ?_
    refine z_aload_n 30 rfl rfl ?_
    refine z_getI 31 rfl lX4_40 rfl o1 ?_
    refine z_aload_n 32 rfl rfl ?_
    refine z_getI 33 rfl lX4_37 rfl o1 ?_
    refine z_icmp_lt 34 80 rfl (by decide) ⟨fun c3 => ?_, fun c3 => ?_⟩
    · have B := B.1 c3
      refine z_aload_n 39 rfl rfl ?_
      obtain ⟨r4, hr4, B⟩ := B
      refine z_getR 40 rfl lX4_15 rfl o1 hr4 ?_
      refine z_aload_n 41 rfl rfl ?_
      refine z_getI 42 rfl lX4_40 rfl o1 ?_
      obtain ⟨o5, B⟩ := B
      obtain ⟨o6, B⟩ := B
      refine z_bald 43 rfl o5 o6 ?_
      obtain ⟨Q7, K9, B⟩ := B
      refine z_cSI1 (ν := mX4_isLetter) 44 rfl rfl fX4_isLetter gX4_52 (Nat.le_of_ble_eq_true rfl) K9 (fun v10 h8 q => ?_)
      have B := B v10 h8 q
      refine z_if_eq 45 102 rfl (by decide) ⟨fun c11 => ?_, fun c11 => ?_⟩
      · have B := B.1 c11
        refine z_aload_n 49 rfl rfl ?_
        obtain ⟨o12, B⟩ := B
        obtain ⟨r13, hr13, B⟩ := B
        refine z_getR 50 rfl lX4_15 rfl o12 hr13 ?_
        refine z_aload_n 51 rfl rfl ?_
        refine z_getI 52 rfl lX4_40 rfl o12 ?_
        obtain ⟨o14, B⟩ := B
        obtain ⟨o15, B⟩ := B
        refine z_bald 53 rfl o14 o15 ?_
        obtain ⟨Q16, K18, B⟩ := B
        refine z_cSI1 (ν := mX4_isDigit) 54 rfl rfl fX4_isDigit gX4_59 (Nat.le_of_ble_eq_true rfl) K18 (fun v19 h17 q => ?_)
        have B := B v19 h17 q
        refine z_if_eq 55 124 rfl (by decide) ⟨fun c20 => ?_, fun c20 => ?_⟩
        · have B := B.1 c20
          refine z_aload_n 59 rfl rfl ?_
          refine z_dup 60 rfl rfl ?_
          obtain ⟨o21, B⟩ := B
          refine z_getI 61 rfl lX4_40 rfl o21 ?_
          refine z_iconst (v := 1) 62 rfl (by decide) ?_
          refine z_iadd 63 rfl ?_
          refine z_putI 64 rfl lX4_40 ⟨_, _, _, rfl, rfl⟩ rfl rfl rfl o21 ?_
          refine z_aload_n 65 rfl rfl ?_
          refine z_aload_n 66 rfl rfl ?_
          refine z_aload_n 67 rfl rfl ?_
          obtain ⟨r22, hr22, B⟩ := B
          refine z_getR 68 rfl lX4_15 rfl o21 hr22 ?_
          refine z_aload_n 69 rfl rfl ?_
          refine z_getI 70 rfl lX4_46 rfl o21 ?_
          obtain ⟨o23, B⟩ := B
          obtain ⟨o24, B⟩ := B
          refine z_bald 71 rfl o23 o24 ?_
          obtain ⟨Q25, K27, B⟩ := B
          refine z_cVI1 (ν := mX4_signOf) 72 rfl rfl fX4_signOf gX4_65 ⟨_, rfl, rfl⟩ (by decide) o21 (Nat.le_of_ble_eq_true rfl) K27 (fun v28 h26 q => ?_)
          have B := B v28 h26 q
          obtain ⟨o29, B⟩ := B
          refine z_putI 73 rfl lX4_49 ⟨_, _, _, rfl, rfl⟩ rfl rfl rfl o29 ?_
          exact z_vret 74 rfl rfl ⟨rfl, rfl⟩ ⟨rfl, B⟩
        · have B := B.2 c20
          refine z_aload_n 56 rfl rfl ?_
          obtain ⟨o33, B⟩ := B
          obtain ⟨Q30, K32, B⟩ := B
          refine z_cVV0 (ν := mX4_readNumber) 57 rfl rfl fX4_readNumber gX4_62 ⟨_, rfl, rfl⟩ (by decide) o33 (Nat.le_of_ble_eq_true rfl) K32 (fun h31 q => ?_)
          have B := B h31 q
          refine z_goto 58 151 rfl (by decide) ?_
          exact z_vret 74 rfl rfl ⟨rfl, rfl⟩ ⟨rfl, B⟩
      · have B := B.2 c11
        refine z_aload_n 46 rfl rfl ?_
        obtain ⟨o37, B⟩ := B
        obtain ⟨Q34, K36, B⟩ := B
        refine z_cVV0 (ν := mX4_readWord) 47 rfl rfl fX4_readWord gX4_56 ⟨_, rfl, rfl⟩ (by decide) o37 (Nat.le_of_ble_eq_true rfl) K36 (fun h35 q => ?_)
        have B := B h35 q
        refine z_goto 48 151 rfl (by decide) ?_
        exact z_vret 74 rfl rfl ⟨rfl, rfl⟩ ⟨rfl, B⟩
    · have B := B.2 c3
      refine z_aload_n 35 rfl rfl ?_
      refine z_bipush (v := 37) 36 rfl (by decide) ?_
      refine z_putI 37 rfl lX4_49 ⟨_, _, _, rfl, rfl⟩ rfl rfl rfl o1 ?_
      refine z_goto 38 151 rfl (by decide) ?_
      exact z_vret 74 rfl rfl ⟨rfl, rfl⟩ ⟨rfl, B⟩
  · have B := B.2 c2
    refine z_aload_n 5 rfl rfl ?_
    obtain ⟨r38, hr38, B⟩ := B
    refine z_getR 6 rfl lX4_15 rfl o1 hr38 ?_
    refine z_aload_n 7 rfl rfl ?_
    refine z_getI 8 rfl lX4_40 rfl o1 ?_
    obtain ⟨o39, B⟩ := B
    obtain ⟨o40, B⟩ := B
    refine z_bald 9 rfl o39 o40 ?_
    refine z_bipush (v := 10) 10 rfl (by decide) ?_
    refine z_icmp_eq 11 39 rfl (by decide) ⟨fun c41 => ?_, fun c41 => ?_⟩
    · have B := B.1 c41
      refine z_aload_n 19 rfl rfl ?_
      refine z_dup 20 rfl rfl ?_
      refine z_getI 21 rfl lX4_40 rfl o1 ?_
      refine z_iconst (v := 1) 22 rfl (by decide) ?_
      refine z_iadd 23 rfl ?_
      refine z_putI 24 rfl lX4_40 ⟨_, _, _, rfl, rfl⟩ rfl rfl rfl o1 ?_
      refine z_goto 25 0 rfl (by decide) ?_
      exact B
    · have B := B.2 c41
      refine z_aload_n 12 rfl rfl ?_
      refine z_getR 13 rfl lX4_15 rfl o1 hr38 ?_
      refine z_aload_n 14 rfl rfl ?_
      refine z_getI 15 rfl lX4_40 rfl o1 ?_
      refine z_bald 16 rfl o39 o40 ?_
      refine z_bipush (v := 32) 17 rfl (by decide) ?_
      refine z_icmp_ne 18 52 rfl (by decide) ⟨fun c42 => ?_, fun c42 => ?_⟩
      · have B := B.1 c42
        refine z_aload_n 26 rfl rfl ?_
        refine z_aload_n 27 rfl rfl ?_
        refine z_getI 28 rfl lX4_40 rfl o1 ?_
        refine z_putI 29 rfl lX4_46 ⟨_, _, _, rfl, rfl⟩ rfl rfl rfl o1 ?_
        refine z_aload_n 30 rfl rfl ?_
        refine z_getI 31 rfl lX4_40 rfl o1 ?_
        refine z_aload_n 32 rfl rfl ?_
        refine z_getI 33 rfl lX4_37 rfl o1 ?_
        refine z_icmp_lt 34 80 rfl (by decide) ⟨fun c43 => ?_, fun c43 => ?_⟩
        · have B := B.1 c43
          refine z_aload_n 39 rfl rfl ?_
          refine z_getR 40 rfl lX4_15 rfl o1 hr38 ?_
          refine z_aload_n 41 rfl rfl ?_
          refine z_getI 42 rfl lX4_40 rfl o1 ?_
          obtain ⟨o44, B⟩ := B
          refine z_bald 43 rfl o39 o44 ?_
          obtain ⟨Q45, K47, B⟩ := B
          refine z_cSI1 (ν := mX4_isLetter) 44 rfl rfl fX4_isLetter gX4_52 (Nat.le_of_ble_eq_true rfl) K47 (fun v48 h46 q => ?_)
          have B := B v48 h46 q
          refine z_if_eq 45 102 rfl (by decide) ⟨fun c49 => ?_, fun c49 => ?_⟩
          · have B := B.1 c49
            refine z_aload_n 49 rfl rfl ?_
            obtain ⟨o50, B⟩ := B
            obtain ⟨r51, hr51, B⟩ := B
            refine z_getR 50 rfl lX4_15 rfl o50 hr51 ?_
            refine z_aload_n 51 rfl rfl ?_
            refine z_getI 52 rfl lX4_40 rfl o50 ?_
            obtain ⟨o52, B⟩ := B
            obtain ⟨o53, B⟩ := B
            refine z_bald 53 rfl o52 o53 ?_
            obtain ⟨Q54, K56, B⟩ := B
            refine z_cSI1 (ν := mX4_isDigit) 54 rfl rfl fX4_isDigit gX4_59 (Nat.le_of_ble_eq_true rfl) K56 (fun v57 h55 q => ?_)
            have B := B v57 h55 q
            refine z_if_eq 55 124 rfl (by decide) ⟨fun c58 => ?_, fun c58 => ?_⟩
            · have B := B.1 c58
              refine z_aload_n 59 rfl rfl ?_
              refine z_dup 60 rfl rfl ?_
              obtain ⟨o59, B⟩ := B
              refine z_getI 61 rfl lX4_40 rfl o59 ?_
              refine z_iconst (v := 1) 62 rfl (by decide) ?_
              refine z_iadd 63 rfl ?_
              refine z_putI 64 rfl lX4_40 ⟨_, _, _, rfl, rfl⟩ rfl rfl rfl o59 ?_
              refine z_aload_n 65 rfl rfl ?_
              refine z_aload_n 66 rfl rfl ?_
              refine z_aload_n 67 rfl rfl ?_
              obtain ⟨r60, hr60, B⟩ := B
              refine z_getR 68 rfl lX4_15 rfl o59 hr60 ?_
              refine z_aload_n 69 rfl rfl ?_
              refine z_getI 70 rfl lX4_46 rfl o59 ?_
              obtain ⟨o61, B⟩ := B
              obtain ⟨o62, B⟩ := B
              refine z_bald 71 rfl o61 o62 ?_
              obtain ⟨Q63, K65, B⟩ := B
              refine z_cVI1 (ν := mX4_signOf) 72 rfl rfl fX4_signOf gX4_65 ⟨_, rfl, rfl⟩ (by decide) o59 (Nat.le_of_ble_eq_true rfl) K65 (fun v66 h64 q => ?_)
              have B := B v66 h64 q
              obtain ⟨o67, B⟩ := B
              refine z_putI 73 rfl lX4_49 ⟨_, _, _, rfl, rfl⟩ rfl rfl rfl o67 ?_
              exact z_vret 74 rfl rfl ⟨rfl, rfl⟩ ⟨rfl, B⟩
            · have B := B.2 c58
              refine z_aload_n 56 rfl rfl ?_
              obtain ⟨o71, B⟩ := B
              obtain ⟨Q68, K70, B⟩ := B
              refine z_cVV0 (ν := mX4_readNumber) 57 rfl rfl fX4_readNumber gX4_62 ⟨_, rfl, rfl⟩ (by decide) o71 (Nat.le_of_ble_eq_true rfl) K70 (fun h69 q => ?_)
              have B := B h69 q
              refine z_goto 58 151 rfl (by decide) ?_
              exact z_vret 74 rfl rfl ⟨rfl, rfl⟩ ⟨rfl, B⟩
          · have B := B.2 c49
            refine z_aload_n 46 rfl rfl ?_
            obtain ⟨o75, B⟩ := B
            obtain ⟨Q72, K74, B⟩ := B
            refine z_cVV0 (ν := mX4_readWord) 47 rfl rfl fX4_readWord gX4_56 ⟨_, rfl, rfl⟩ (by decide) o75 (Nat.le_of_ble_eq_true rfl) K74 (fun h73 q => ?_)
            have B := B h73 q
            refine z_goto 48 151 rfl (by decide) ?_
            exact z_vret 74 rfl rfl ⟨rfl, rfl⟩ ⟨rfl, B⟩
        · have B := B.2 c43
          refine z_aload_n 35 rfl rfl ?_
          refine z_bipush (v := 37) 36 rfl (by decide) ?_
          refine z_putI 37 rfl lX4_49 ⟨_, _, _, rfl, rfl⟩ rfl rfl rfl o1 ?_
          refine z_goto 38 151 rfl (by decide) ?_
          exact z_vret 74 rfl rfl ⟨rfl, rfl⟩ ⟨rfl, B⟩
      · have B := B.2 c42
        refine z_aload_n 19 rfl rfl ?_
        refine z_dup 20 rfl rfl ?_
        refine z_getI 21 rfl lX4_40 rfl o1 ?_
        refine z_iconst (v := 1) 22 rfl (by decide) ?_
        refine z_iadd 23 rfl ?_
        refine z_putI 24 rfl lX4_40 ⟨_, _, _, rfl, rfl⟩ rfl rfl rfl o1 ?_
        refine z_goto 25 0 rfl (by decide) ?_
        exact B
theorem cn_X4_advance {G : zG} {d : Nat} {h : zMem} {Q : zMem → Prop} {a0 : Nat} (B : zg G mX4_advance (d + 1) 0 [.ref a0] [] h (zPV Q)) : zConV G mX4_advance (d + 1) [.ref a0] h Q := zcon0 (by decide +kernel) eX4_advance (Nat.le_of_ble_eq_true rfl) rfl B
set_option maxRecDepth 100000 in
set_option maxHeartbeats 4000000 in
theorem sg_X4_isLetter_0 {G : zG} {d : Nat} {h : zMem} {Q : Int32 → zMem → Prop} {x0 : Int32} (B : (x0 < (97 : Int32) → Q (0 : Int32) h) ∧ (¬ x0 < (97 : Int32) → ((122 : Int32) < x0 → Q (0 : Int32) h) ∧ (¬ (122 : Int32) < x0 → Q (1 : Int32) h))) : zg G mX4_isLetter d 0 [.int x0] [] h (zPI Q) := by
  refine z_iload_n 0 rfl rfl ?_
  refine z_bipush (v := 97) 1 rfl (by decide) ?_
  refine z_icmp_lt 2 16 rfl (by decide) ⟨fun c1 => ?_, fun c1 => ?_⟩
  · have B := B.1 c1
    refine z_iconst (v := 0) 8 rfl (by decide) ?_
    exact z_iret 9 rfl rfl rfl ⟨rfl, rfl⟩ ⟨_, rfl, B⟩
  · have B := B.2 c1
    refine z_iload_n 3 rfl rfl ?_
    refine z_bipush (v := 122) 4 rfl (by decide) ?_
    refine z_icmp_gt 5 16 rfl (by decide) ⟨fun c2 => ?_, fun c2 => ?_⟩
    · have B := B.1 c2
      refine z_iconst (v := 0) 8 rfl (by decide) ?_
      exact z_iret 9 rfl rfl rfl ⟨rfl, rfl⟩ ⟨_, rfl, B⟩
    · have B := B.2 c2
      refine z_iconst (v := 1) 6 rfl (by decide) ?_
      refine z_goto 7 17 rfl (by decide) ?_
      exact z_iret 9 rfl rfl rfl ⟨rfl, rfl⟩ ⟨_, rfl, B⟩
theorem cn_X4_isLetter {G : zG} {d : Nat} {h : zMem} {Q : Int32 → zMem → Prop} {x0 : Int32} (B : zg G mX4_isLetter d 0 [.int x0] [] h (zPI Q)) : zConI G mX4_isLetter d [.int x0] h Q := zcon0 (by decide +kernel) eX4_isLetter (Nat.le_of_ble_eq_true rfl) rfl B
set_option maxRecDepth 100000 in
set_option maxHeartbeats 4000000 in
theorem sg_X4_isDigit_0 {G : zG} {d : Nat} {h : zMem} {Q : Int32 → zMem → Prop} {x0 : Int32} (B : (x0 < (48 : Int32) → Q (0 : Int32) h) ∧ (¬ x0 < (48 : Int32) → ((57 : Int32) < x0 → Q (0 : Int32) h) ∧ (¬ (57 : Int32) < x0 → Q (1 : Int32) h))) : zg G mX4_isDigit d 0 [.int x0] [] h (zPI Q) := by
  refine z_iload_n 0 rfl rfl ?_
  refine z_bipush (v := 48) 1 rfl (by decide) ?_
  refine z_icmp_lt 2 16 rfl (by decide) ⟨fun c1 => ?_, fun c1 => ?_⟩
  · have B := B.1 c1
    refine z_iconst (v := 0) 8 rfl (by decide) ?_
    exact z_iret 9 rfl rfl rfl ⟨rfl, rfl⟩ ⟨_, rfl, B⟩
  · have B := B.2 c1
    refine z_iload_n 3 rfl rfl ?_
    refine z_bipush (v := 57) 4 rfl (by decide) ?_
    refine z_icmp_gt 5 16 rfl (by decide) ⟨fun c2 => ?_, fun c2 => ?_⟩
    · have B := B.1 c2
      refine z_iconst (v := 0) 8 rfl (by decide) ?_
      exact z_iret 9 rfl rfl rfl ⟨rfl, rfl⟩ ⟨_, rfl, B⟩
    · have B := B.2 c2
      refine z_iconst (v := 1) 6 rfl (by decide) ?_
      refine z_goto 7 17 rfl (by decide) ?_
      exact z_iret 9 rfl rfl rfl ⟨rfl, rfl⟩ ⟨_, rfl, B⟩
theorem cn_X4_isDigit {G : zG} {d : Nat} {h : zMem} {Q : Int32 → zMem → Prop} {x0 : Int32} (B : zg G mX4_isDigit d 0 [.int x0] [] h (zPI Q)) : zConI G mX4_isDigit d [.int x0] h Q := zcon0 (by decide +kernel) eX4_isDigit (Nat.le_of_ble_eq_true rfl) rfl B
set_option maxRecDepth 100000 in
set_option maxHeartbeats 4000000 in
theorem sg_X4_readWord_0 {G : zG} {d : Nat} {h : zMem} {Q : zMem → Prop} {a0 : Nat} (B : zg G mX4_readWord (d + 1) 4 [.ref a0, .int (0 : Int32), .int (0 : Int32), zU] [] h (zPV Q)) : zg G mX4_readWord (d + 1) 0 [.ref a0, zU, zU, zU] [] h (zPV Q) := by
  refine z_iconst (v := 0) 0 rfl (by decide) ?_
  refine z_istore_n 1 rfl (by decide) rfl ?_
  refine z_iconst (v := 0) 2 rfl (by decide) ?_
  refine z_istore_n 3 rfl (by decide) rfl ?_
  exact B
theorem cn_X4_readWord {G : zG} {d : Nat} {h : zMem} {Q : zMem → Prop} {a0 : Nat} (B : zg G mX4_readWord (d + 1) 0 [.ref a0, zU, zU, zU] [] h (zPV Q)) : zConV G mX4_readWord (d + 1) [.ref a0] h Q := zcon0 (by decide +kernel) eX4_readWord (Nat.le_of_ble_eq_true rfl) rfl B
set_option maxRecDepth 100000 in
set_option maxHeartbeats 4000000 in
theorem sg_X4_readWord_4 {G : zG} {d : Nat} {h : zMem} {Q : zMem → Prop} {a0 : Nat} {x1 : Int32} {x2 : Int32} (B : zO h a0 4 ∧ ((zI h a0 2) ≤ (zI h a0 3) → (x1 ≤ (6 : Int32) → zg G mX4_readWord (d + 1) 98 [.ref a0, .int x1, .int x2, .int (0 : Int32)] [] (zsI (zsI h a0 6 (x2 <<< (((5 : Int32) * ((6 : Int32) - x1)) &&& 31))) a0 4 (35 : Int32)) (zPV Q)) ∧ (¬ x1 ≤ (6 : Int32) → Q (zsI h a0 4 (38 : Int32)))) ∧ (¬ (zI h a0 2) ≤ (zI h a0 3) → ∃ r4, zR h a0 1 = some r4 ∧ zO h r4 102 ∧ vp_in (zI h a0 3) (zLen h r4) ∧ ∃ Q7 : Int32 → zMem → Prop, zConI G mX4_isLetter d [.int (zI h r4 (zI h a0 3).toNatClampNeg)] h Q7 ∧ (∀ v10 h8, Q7 v10 h8 → (v10 = 0 → (x1 ≤ (6 : Int32) → zO h8 a0 4 ∧ zg G mX4_readWord (d + 1) 98 [.ref a0, .int x1, .int x2, .int (0 : Int32)] [] (zsI (zsI h8 a0 6 (x2 <<< (((5 : Int32) * ((6 : Int32) - x1)) &&& 31))) a0 4 (35 : Int32)) (zPV Q)) ∧ (¬ x1 ≤ (6 : Int32) → zO h8 a0 4 ∧ Q (zsI h8 a0 4 (38 : Int32)))) ∧ (¬ v10 = 0 → zO h8 a0 4 ∧ ∃ r16, zR h8 a0 1 = some r16 ∧ zO h8 r16 102 ∧ vp_in (zI h8 a0 3) (zLen h8 r16) ∧ zg G mX4_readWord (d + 1) 4 [.ref a0, .int (x1 + 1), .int ((x2 <<< ((5 : Int32) &&& 31)) ||| (((zI h8 r16 (zI h8 a0 3).toNatClampNeg) - (97 : Int32)) + (1 : Int32))), zU] [] (zsI h8 a0 3 ((zI h8 a0 3) + (1 : Int32))) (zPV Q))))) : zg G mX4_readWord (d + 1) 4 [.ref a0, .int x1, .int x2, zU] [] h (zPV Q) := by
  refine z_aload_n 4 rfl rfl ?_
  obtain ⟨o1, B⟩ := B
  refine z_getI 5 rfl lX4_40 rfl o1 ?_
  refine z_aload_n 6 rfl rfl ?_
  refine z_getI 7 rfl lX4_37 rfl o1 ?_
  refine z_icmp_ge 8 65 rfl (by decide) ⟨fun c2 => ?_, fun c2 => ?_⟩
  · have B := B.1 c2
    refine z_iload_n 38 rfl rfl ?_
    refine z_bipush (v := 6) 39 rfl (by decide) ?_
    refine z_icmp_le 40 78 rfl (by decide) ⟨fun c3 => ?_, fun c3 => ?_⟩
    · have B := B.1 c3
      refine z_aload_n 45 rfl rfl ?_
      refine z_iload_n 46 rfl rfl ?_
      refine z_iconst (v := 5) 47 rfl (by decide) ?_
      refine z_bipush (v := 6) 48 rfl (by decide) ?_
      refine z_iload_n 49 rfl rfl ?_
      refine z_isub 50 rfl ?_
      refine z_imul 51 rfl ?_
      refine z_ishl 52 rfl ?_
      refine z_putI 53 rfl lX4_69 ⟨_, _, _, rfl, rfl⟩ rfl rfl rfl o1 ?_
      refine z_aload_n 54 rfl rfl ?_
      refine z_bipush (v := 35) 55 rfl (by decide) ?_
      refine z_putI 56 rfl lX4_49 ⟨_, _, _, rfl, rfl⟩ rfl rfl rfl o1 ?_
      refine z_iconst (v := 0) 57 rfl (by decide) ?_
      refine z_istore_n 58 rfl (by decide) rfl ?_
      exact B
    · have B := B.2 c3
      refine z_aload_n 41 rfl rfl ?_
      refine z_bipush (v := 38) 42 rfl (by decide) ?_
      refine z_putI 43 rfl lX4_49 ⟨_, _, _, rfl, rfl⟩ rfl rfl rfl o1 ?_
      exact z_vret 44 rfl rfl ⟨rfl, rfl⟩ ⟨rfl, B⟩
  · have B := B.2 c2
    refine z_aload_n 9 rfl rfl ?_
    obtain ⟨r4, hr4, B⟩ := B
    refine z_getR 10 rfl lX4_15 rfl o1 hr4 ?_
    refine z_aload_n 11 rfl rfl ?_
    refine z_getI 12 rfl lX4_40 rfl o1 ?_
    obtain ⟨o5, B⟩ := B
    obtain ⟨o6, B⟩ := B
    refine z_bald 13 rfl o5 o6 ?_
    obtain ⟨Q7, K9, B⟩ := B
    refine z_cSI1 (ν := mX4_isLetter) 14 rfl rfl fX4_isLetter gX4_52 (Nat.le_of_ble_eq_true rfl) K9 (fun v10 h8 q => ?_)
    have B := B v10 h8 q
    refine z_if_eq 15 65 rfl (by decide) ⟨fun c11 => ?_, fun c11 => ?_⟩
    · have B := B.1 c11
      refine z_iload_n 38 rfl rfl ?_
      refine z_bipush (v := 6) 39 rfl (by decide) ?_
      refine z_icmp_le 40 78 rfl (by decide) ⟨fun c12 => ?_, fun c12 => ?_⟩
      · have B := B.1 c12
        refine z_aload_n 45 rfl rfl ?_
        refine z_iload_n 46 rfl rfl ?_
        refine z_iconst (v := 5) 47 rfl (by decide) ?_
        refine z_bipush (v := 6) 48 rfl (by decide) ?_
        refine z_iload_n 49 rfl rfl ?_
        refine z_isub 50 rfl ?_
        refine z_imul 51 rfl ?_
        refine z_ishl 52 rfl ?_
        obtain ⟨o13, B⟩ := B
        refine z_putI 53 rfl lX4_69 ⟨_, _, _, rfl, rfl⟩ rfl rfl rfl o13 ?_
        refine z_aload_n 54 rfl rfl ?_
        refine z_bipush (v := 35) 55 rfl (by decide) ?_
        refine z_putI 56 rfl lX4_49 ⟨_, _, _, rfl, rfl⟩ rfl rfl rfl o13 ?_
        refine z_iconst (v := 0) 57 rfl (by decide) ?_
        refine z_istore_n 58 rfl (by decide) rfl ?_
        exact B
      · have B := B.2 c12
        refine z_aload_n 41 rfl rfl ?_
        refine z_bipush (v := 38) 42 rfl (by decide) ?_
        obtain ⟨o14, B⟩ := B
        refine z_putI 43 rfl lX4_49 ⟨_, _, _, rfl, rfl⟩ rfl rfl rfl o14 ?_
        exact z_vret 44 rfl rfl ⟨rfl, rfl⟩ ⟨rfl, B⟩
    · have B := B.2 c11
      refine z_iload_n 16 rfl rfl ?_
      refine z_iconst (v := 5) 17 rfl (by decide) ?_
      refine z_ishl 18 rfl ?_
      refine z_aload_n 19 rfl rfl ?_
      obtain ⟨o15, B⟩ := B
      obtain ⟨r16, hr16, B⟩ := B
      refine z_getR 20 rfl lX4_15 rfl o15 hr16 ?_
      refine z_aload_n 21 rfl rfl ?_
      refine z_getI 22 rfl lX4_40 rfl o15 ?_
      obtain ⟨o17, B⟩ := B
      obtain ⟨o18, B⟩ := B
      refine z_bald 23 rfl o17 o18 ?_
      refine z_bipush (v := 97) 24 rfl (by decide) ?_
      refine z_isub 25 rfl ?_
      refine z_iconst (v := 1) 26 rfl (by decide) ?_
      refine z_iadd 27 rfl ?_
      refine z_ior 28 rfl ?_
      refine z_istore_n 29 rfl (by decide) rfl ?_
      refine z_iinc (v := 1) 30 rfl rfl (by decide) (by decide) rfl ?_
      refine z_aload_n 31 rfl rfl ?_
      refine z_dup 32 rfl rfl ?_
      refine z_getI 33 rfl lX4_40 rfl o15 ?_
      refine z_iconst (v := 1) 34 rfl (by decide) ?_
      refine z_iadd 35 rfl ?_
      refine z_putI 36 rfl lX4_40 ⟨_, _, _, rfl, rfl⟩ rfl rfl rfl o15 ?_
      refine z_goto 37 4 rfl (by decide) ?_
      exact B
set_option maxRecDepth 100000 in
set_option maxHeartbeats 4000000 in
theorem sg_X4_readWord_98 {G : zG} {d : Nat} {h : zMem} {Q : zMem → Prop} {a0 : Nat} {x1 : Int32} {x2 : Int32} {x3 : Int32} (B : zO h a0 4 ∧ ∃ r2, zR h a0 0 = some r2 ∧ zO h r2 100 ∧ ((nI (zLen h r2)) ≤ x3 → Q h) ∧ (¬ (nI (zLen h r2)) ≤ x3 → vp_in x3 (zLen h r2) ∧ (¬ (zI h r2 x3.toNatClampNeg) = (zI h a0 6) → zg G mX4_readWord (d + 1) 98 [.ref a0, .int x1, .int x2, .int (x3 + 1)] [] h (zPV Q)) ∧ ((zI h r2 x3.toNatClampNeg) = (zI h a0 6) → zg G mX4_readWord (d + 1) 98 [.ref a0, .int x1, .int x2, .int (x3 + 1)] [] (zsI h a0 4 x3) (zPV Q)))) : zg G mX4_readWord (d + 1) 98 [.ref a0, .int x1, .int x2, .int x3] [] h (zPV Q) := by
  refine z_iload_n 59 rfl rfl ?_
  refine z_aload_n 60 rfl rfl ?_
  obtain ⟨o1, B⟩ := B
  obtain ⟨r2, hr2, B⟩ := B
  refine z_getR 61 rfl lX4_9 rfl o1 hr2 ?_
  obtain ⟨o3, B⟩ := B
  refine z_alen 62 rfl o3 (Or.inl rfl) ?_
  refine z_icmp_ge 63 131 rfl (by decide) ⟨fun c4 => ?_, fun c4 => ?_⟩
  · have B := B.1 c4
    exact z_vret 76 rfl rfl ⟨rfl, rfl⟩ ⟨rfl, B⟩
  · have B := B.2 c4
    refine z_aload_n 64 rfl rfl ?_
    refine z_getR 65 rfl lX4_9 rfl o1 hr2 ?_
    refine z_iload_n 66 rfl rfl ?_
    obtain ⟨o5, B⟩ := B
    refine z_iald 67 rfl o3 o5 ?_
    refine z_aload_n 68 rfl rfl ?_
    refine z_getI 69 rfl lX4_69 rfl o1 ?_
    refine z_icmp_ne 70 125 rfl (by decide) ⟨fun c6 => ?_, fun c6 => ?_⟩
    · have B := B.1 c6
      refine z_iinc (v := 1) 74 rfl rfl (by decide) (by decide) rfl ?_
      refine z_goto 75 98 rfl (by decide) ?_
      exact B
    · have B := B.2 c6
      refine z_aload_n 71 rfl rfl ?_
      refine z_iload_n 72 rfl rfl ?_
      refine z_putI 73 rfl lX4_49 ⟨_, _, _, rfl, rfl⟩ rfl rfl rfl o1 ?_
      refine z_iinc (v := 1) 74 rfl rfl (by decide) (by decide) rfl ?_
      refine z_goto 75 98 rfl (by decide) ?_
      exact B
set_option maxRecDepth 100000 in
set_option maxHeartbeats 4000000 in
theorem sg_X4_readNumber_0 {G : zG} {d : Nat} {h : zMem} {Q : zMem → Prop} {a0 : Nat} (B : zO h a0 4 ∧ zg G mX4_readNumber (d + 1) 5 [.ref a0] [] (zsI h a0 7 (0 : Int32)) (zPV Q)) : zg G mX4_readNumber (d + 1) 0 [.ref a0] [] h (zPV Q) := by
  refine z_aload_n 0 rfl rfl ?_
  refine z_iconst (v := 0) 1 rfl (by decide) ?_
  obtain ⟨o1, B⟩ := B
  refine z_putI 2 rfl lX4_72 ⟨_, _, _, rfl, rfl⟩ rfl rfl rfl o1 ?_
  exact B
theorem cn_X4_readNumber {G : zG} {d : Nat} {h : zMem} {Q : zMem → Prop} {a0 : Nat} (B : zg G mX4_readNumber (d + 1) 0 [.ref a0] [] h (zPV Q)) : zConV G mX4_readNumber (d + 1) [.ref a0] h Q := zcon0 (by decide +kernel) eX4_readNumber (Nat.le_of_ble_eq_true rfl) rfl B
set_option maxRecDepth 100000 in
set_option maxHeartbeats 4000000 in
theorem sg_X4_readNumber_5 {G : zG} {d : Nat} {h : zMem} {Q : zMem → Prop} {a0 : Nat} (B : zO h a0 4 ∧ ((zI h a0 2) ≤ (zI h a0 3) → Q (zsI h a0 4 (36 : Int32))) ∧ (¬ (zI h a0 2) ≤ (zI h a0 3) → ∃ r3, zR h a0 1 = some r3 ∧ zO h r3 102 ∧ vp_in (zI h a0 3) (zLen h r3) ∧ ∃ Q6 : Int32 → zMem → Prop, zConI G mX4_isDigit d [.int (zI h r3 (zI h a0 3).toNatClampNeg)] h Q6 ∧ (∀ v9 h7, Q6 v9 h7 → (v9 = 0 → zO h7 a0 4 ∧ Q (zsI h7 a0 4 (36 : Int32))) ∧ (¬ v9 = 0 → zO h7 a0 4 ∧ ∃ r13, zR h7 a0 1 = some r13 ∧ zO h7 r13 102 ∧ vp_in (zI h7 a0 3) (zLen h7 r13) ∧ zg G mX4_readNumber (d + 1) 5 [.ref a0] [] (zsI (zsI h7 a0 7 (if ((((zI h7 a0 7) * (10 : Int32)) + (zI h7 r13 (zI h7 a0 3).toNatClampNeg)) - (48 : Int32)) < (1000000 : Int32) then ((((zI h7 a0 7) * (10 : Int32)) + (zI h7 r13 (zI h7 a0 3).toNatClampNeg)) - (48 : Int32)) else (1000000 : Int32))) a0 3 ((zI (zsI h7 a0 7 (if ((((zI h7 a0 7) * (10 : Int32)) + (zI h7 r13 (zI h7 a0 3).toNatClampNeg)) - (48 : Int32)) < (1000000 : Int32) then ((((zI h7 a0 7) * (10 : Int32)) + (zI h7 r13 (zI h7 a0 3).toNatClampNeg)) - (48 : Int32)) else (1000000 : Int32))) a0 3) + (1 : Int32))) (zPV Q))))) : zg G mX4_readNumber (d + 1) 5 [.ref a0] [] h (zPV Q) := by
  refine z_aload_n 3 rfl rfl ?_
  obtain ⟨o1, B⟩ := B
  refine z_getI 4 rfl lX4_40 rfl o1 ?_
  refine z_aload_n 5 rfl rfl ?_
  refine z_getI 6 rfl lX4_37 rfl o1 ?_
  refine z_icmp_ge 7 73 rfl (by decide) ⟨fun c2 => ?_, fun c2 => ?_⟩
  · have B := B.1 c2
    refine z_aload_n 38 rfl rfl ?_
    refine z_bipush (v := 36) 39 rfl (by decide) ?_
    refine z_putI 40 rfl lX4_49 ⟨_, _, _, rfl, rfl⟩ rfl rfl rfl o1 ?_
    exact z_vret 41 rfl rfl ⟨rfl, rfl⟩ ⟨rfl, B⟩
  · have B := B.2 c2
    refine z_aload_n 8 rfl rfl ?_
    obtain ⟨r3, hr3, B⟩ := B
    refine z_getR 9 rfl lX4_15 rfl o1 hr3 ?_
    refine z_aload_n 10 rfl rfl ?_
    refine z_getI 11 rfl lX4_40 rfl o1 ?_
    obtain ⟨o4, B⟩ := B
    obtain ⟨o5, B⟩ := B
    refine z_bald 12 rfl o4 o5 ?_
    obtain ⟨Q6, K8, B⟩ := B
    refine z_cSI1 (ν := mX4_isDigit) 13 rfl rfl fX4_isDigit gX4_59 (Nat.le_of_ble_eq_true rfl) K8 (fun v9 h7 q => ?_)
    have B := B v9 h7 q
    refine z_if_eq 14 73 rfl (by decide) ⟨fun c10 => ?_, fun c10 => ?_⟩
    · have B := B.1 c10
      refine z_aload_n 38 rfl rfl ?_
      refine z_bipush (v := 36) 39 rfl (by decide) ?_
      obtain ⟨o11, B⟩ := B
      refine z_putI 40 rfl lX4_49 ⟨_, _, _, rfl, rfl⟩ rfl rfl rfl o11 ?_
      exact z_vret 41 rfl rfl ⟨rfl, rfl⟩ ⟨rfl, B⟩
    · have B := B.2 c10
      refine z_aload_n 15 rfl rfl ?_
      refine z_ldc 16 rfl kX4_75 ?_
      refine z_aload_n 17 rfl rfl ?_
      obtain ⟨o12, B⟩ := B
      refine z_getI 18 rfl lX4_72 rfl o12 ?_
      refine z_bipush (v := 10) 19 rfl (by decide) ?_
      refine z_imul 20 rfl ?_
      refine z_aload_n 21 rfl rfl ?_
      obtain ⟨r13, hr13, B⟩ := B
      refine z_getR 22 rfl lX4_15 rfl o12 hr13 ?_
      refine z_aload_n 23 rfl rfl ?_
      refine z_getI 24 rfl lX4_40 rfl o12 ?_
      obtain ⟨o14, B⟩ := B
      obtain ⟨o15, B⟩ := B
      refine z_bald 25 rfl o14 o15 ?_
      refine z_iadd 26 rfl ?_
      refine z_bipush (v := 48) 27 rfl (by decide) ?_
      refine z_isub 28 rfl ?_
      refine z_mmin 29 rfl rfl gmX4_31 (Nat.le_of_ble_eq_true rfl) ?_
      refine z_putI 30 rfl lX4_72 ⟨_, _, _, rfl, rfl⟩ rfl rfl rfl o12 ?_
      refine z_aload_n 31 rfl rfl ?_
      refine z_dup 32 rfl rfl ?_
      refine z_getI 33 rfl lX4_40 rfl o12 ?_
      refine z_iconst (v := 1) 34 rfl (by decide) ?_
      refine z_iadd 35 rfl ?_
      refine z_putI 36 rfl lX4_40 ⟨_, _, _, rfl, rfl⟩ rfl rfl rfl o12 ?_
      refine z_goto 37 5 rfl (by decide) ?_
      exact B
theorem zsw_X4_signOf_1 {x : Int32} (z1 : ¬ x.toInt < 40) (z2 : ¬ 62 < x.toInt) (c40 : ¬ x = 40) (c41 : ¬ x = 41) (c42 : ¬ x = 42) (c43 : ¬ x = 43) (c45 : ¬ x = 45) (c47 : ¬ x = 47) (c59 : ¬ x = 59) (c60 : ¬ x = 60) (c61 : ¬ x = 61) (c62 : ¬ x = 62) : (#[170, 173, 164, 158, 179, 161, 179, 167, 179, 179, 179, 179, 179, 179, 179, 179, 179, 179, 179, 176, 107, 155, 138] : Array Int)[(x.toInt - 40).toNat]? = some 179 := by
  obtain ⟨v, hv⟩ : ∃ v : Int, v = x.toInt := ⟨_, rfl⟩
  have c40 : v ≠ 40 := fun e => c40 (Int32.toInt_inj.mp (by rw [← hv, e]; decide))
  have c41 : v ≠ 41 := fun e => c41 (Int32.toInt_inj.mp (by rw [← hv, e]; decide))
  have c42 : v ≠ 42 := fun e => c42 (Int32.toInt_inj.mp (by rw [← hv, e]; decide))
  have c43 : v ≠ 43 := fun e => c43 (Int32.toInt_inj.mp (by rw [← hv, e]; decide))
  have c45 : v ≠ 45 := fun e => c45 (Int32.toInt_inj.mp (by rw [← hv, e]; decide))
  have c47 : v ≠ 47 := fun e => c47 (Int32.toInt_inj.mp (by rw [← hv, e]; decide))
  have c59 : v ≠ 59 := fun e => c59 (Int32.toInt_inj.mp (by rw [← hv, e]; decide))
  have c60 : v ≠ 60 := fun e => c60 (Int32.toInt_inj.mp (by rw [← hv, e]; decide))
  have c61 : v ≠ 61 := fun e => c61 (Int32.toInt_inj.mp (by rw [← hv, e]; decide))
  have c62 : v ≠ 62 := fun e => c62 (Int32.toInt_inj.mp (by rw [← hv, e]; decide))
  rw [← hv] at z1 z2 ⊢
  rcases (show v = 40 ∨ v = 41 ∨ v = 42 ∨ v = 43 ∨ v = 44 ∨ v = 45 ∨ v = 46 ∨ v = 47 ∨ v = 48 ∨ v = 49 ∨ v = 50 ∨ v = 51 ∨ v = 52 ∨ v = 53 ∨ v = 54 ∨ v = 55 ∨ v = 56 ∨ v = 57 ∨ v = 58 ∨ v = 59 ∨ v = 60 ∨ v = 61 ∨ v = 62 by omega) with rfl | rfl | rfl | rfl | rfl | rfl | rfl | rfl | rfl | rfl | rfl | rfl | rfl | rfl | rfl | rfl | rfl | rfl | rfl | rfl | rfl | rfl | rfl
  all_goals first | exact absurd rfl (by assumption) | decide
set_option maxRecDepth 100000 in
set_option maxHeartbeats 4000000 in
theorem sg_X4_signOf_0 {G : zG} {d : Nat} {h : zMem} {Q : Int32 → zMem → Prop} {a0 : Nat} {x1 : Int32} (B : (x1 = 40 → Q (32 : Int32) h) ∧ (x1 = 41 → Q (33 : Int32) h) ∧ (x1 = 42 → Q (30 : Int32) h) ∧ (x1 = 43 → Q (28 : Int32) h) ∧ (x1 = 45 → Q (29 : Int32) h) ∧ (x1 = 47 → Q (31 : Int32) h) ∧ (x1 = 59 → Q (34 : Int32) h) ∧ (x1 = 60 → zO h a0 4 ∧ ∃ Q1 : Int32 → zMem → Prop, zConI G mX4_takes d [.ref a0, .int (61 : Int32)] h Q1 ∧ (∀ v4 h2, Q1 v4 h2 → (v4 = 0 → zO h2 a0 4 ∧ ∃ Q6 : Int32 → zMem → Prop, zConI G mX4_takes d [.ref a0, .int (62 : Int32)] h2 Q6 ∧ (∀ v9 h7, Q6 v9 h7 → (v9 = 0 → Q (22 : Int32) h7) ∧ (¬ v9 = 0 → Q (25 : Int32) h7))) ∧ (¬ v4 = 0 → Q (23 : Int32) h2))) ∧ (x1 = 61 → Q (24 : Int32) h) ∧ (x1 = 62 → zO h a0 4 ∧ ∃ Q13 : Int32 → zMem → Prop, zConI G mX4_takes d [.ref a0, .int (61 : Int32)] h Q13 ∧ (∀ v16 h14, Q13 v16 h14 → (v16 = 0 → Q (27 : Int32) h14) ∧ (¬ v16 = 0 → Q (26 : Int32) h14))) ∧ (¬ x1 = 40 → ¬ x1 = 41 → ¬ x1 = 42 → ¬ x1 = 43 → ¬ x1 = 45 → ¬ x1 = 47 → ¬ x1 = 59 → ¬ x1 = 60 → ¬ x1 = 61 → ¬ x1 = 62 → Q (38 : Int32) h)) : zg G mX4_signOf (d + 1) 0 [.ref a0, .int x1] [] h (zPI Q) := by
  refine z_iload_n 0 rfl rfl ?_
  by_cases c19_40 : x1 = 40
  · obtain ⟨B, -⟩ := B
    refine z_tableIn 1 171 rfl 40 (by rw [c19_40]; decide) (by decide) (by decide) rfl (by decide) ?_
    have B := B c19_40
    refine z_bipush (v := 32) 34 rfl (by decide) ?_
    exact z_iret 35 rfl rfl rfl ⟨rfl, rfl⟩ ⟨_, rfl, B⟩
  obtain ⟨-, B⟩ := B
  by_cases c19_41 : x1 = 41
  · obtain ⟨B, -⟩ := B
    refine z_tableIn 1 174 rfl 41 (by rw [c19_41]; decide) (by decide) (by decide) rfl (by decide) ?_
    have B := B c19_41
    refine z_bipush (v := 33) 36 rfl (by decide) ?_
    exact z_iret 37 rfl rfl rfl ⟨rfl, rfl⟩ ⟨_, rfl, B⟩
  obtain ⟨-, B⟩ := B
  by_cases c19_42 : x1 = 42
  · obtain ⟨B, -⟩ := B
    refine z_tableIn 1 165 rfl 42 (by rw [c19_42]; decide) (by decide) (by decide) rfl (by decide) ?_
    have B := B c19_42
    refine z_bipush (v := 30) 30 rfl (by decide) ?_
    exact z_iret 31 rfl rfl rfl ⟨rfl, rfl⟩ ⟨_, rfl, B⟩
  obtain ⟨-, B⟩ := B
  by_cases c19_43 : x1 = 43
  · obtain ⟨B, -⟩ := B
    refine z_tableIn 1 159 rfl 43 (by rw [c19_43]; decide) (by decide) (by decide) rfl (by decide) ?_
    have B := B c19_43
    refine z_bipush (v := 28) 26 rfl (by decide) ?_
    exact z_iret 27 rfl rfl rfl ⟨rfl, rfl⟩ ⟨_, rfl, B⟩
  obtain ⟨-, B⟩ := B
  by_cases c19_45 : x1 = 45
  · obtain ⟨B, -⟩ := B
    refine z_tableIn 1 162 rfl 45 (by rw [c19_45]; decide) (by decide) (by decide) rfl (by decide) ?_
    have B := B c19_45
    refine z_bipush (v := 29) 28 rfl (by decide) ?_
    exact z_iret 29 rfl rfl rfl ⟨rfl, rfl⟩ ⟨_, rfl, B⟩
  obtain ⟨-, B⟩ := B
  by_cases c19_47 : x1 = 47
  · obtain ⟨B, -⟩ := B
    refine z_tableIn 1 168 rfl 47 (by rw [c19_47]; decide) (by decide) (by decide) rfl (by decide) ?_
    have B := B c19_47
    refine z_bipush (v := 31) 32 rfl (by decide) ?_
    exact z_iret 33 rfl rfl rfl ⟨rfl, rfl⟩ ⟨_, rfl, B⟩
  obtain ⟨-, B⟩ := B
  by_cases c19_59 : x1 = 59
  · obtain ⟨B, -⟩ := B
    refine z_tableIn 1 177 rfl 59 (by rw [c19_59]; decide) (by decide) (by decide) rfl (by decide) ?_
    have B := B c19_59
    refine z_bipush (v := 34) 38 rfl (by decide) ?_
    exact z_iret 39 rfl rfl rfl ⟨rfl, rfl⟩ ⟨_, rfl, B⟩
  obtain ⟨-, B⟩ := B
  by_cases c19_60 : x1 = 60
  · obtain ⟨B, -⟩ := B
    refine z_tableIn 1 108 rfl 60 (by rw [c19_60]; decide) (by decide) (by decide) rfl (by decide) ?_
    have B := B c19_60
    refine z_aload_n 2 rfl rfl ?_
    refine z_bipush (v := 61) 3 rfl (by decide) ?_
    obtain ⟨o12, B⟩ := B
    obtain ⟨Q1, K3, B⟩ := B
    refine z_cVI1 (ν := mX4_takes) 4 rfl rfl fX4_takes gX4_76 ⟨_, rfl, rfl⟩ (by decide) o12 (Nat.le_of_ble_eq_true rfl) K3 (fun v4 h2 q => ?_)
    have B := B v4 h2 q
    refine z_if_eq 5 122 rfl (by decide) ⟨fun c5 => ?_, fun c5 => ?_⟩
    · have B := B.1 c5
      refine z_aload_n 8 rfl rfl ?_
      refine z_bipush (v := 62) 9 rfl (by decide) ?_
      obtain ⟨o11, B⟩ := B
      obtain ⟨Q6, K8, B⟩ := B
      refine z_cVI1 (ν := mX4_takes) 10 rfl rfl fX4_takes gX4_76 ⟨_, rfl, rfl⟩ (by decide) o11 (Nat.le_of_ble_eq_true rfl) K8 (fun v9 h7 q => ?_)
      have B := B v9 h7 q
      refine z_if_eq 11 136 rfl (by decide) ⟨fun c10 => ?_, fun c10 => ?_⟩
      · have B := B.1 c10
        refine z_bipush (v := 22) 14 rfl (by decide) ?_
        exact z_iret 15 rfl rfl rfl ⟨rfl, rfl⟩ ⟨_, rfl, B⟩
      · have B := B.2 c10
        refine z_bipush (v := 25) 12 rfl (by decide) ?_
        refine z_goto 13 138 rfl (by decide) ?_
        exact z_iret 15 rfl rfl rfl ⟨rfl, rfl⟩ ⟨_, rfl, B⟩
    · have B := B.2 c5
      refine z_bipush (v := 23) 6 rfl (by decide) ?_
      refine z_goto 7 138 rfl (by decide) ?_
      exact z_iret 15 rfl rfl rfl ⟨rfl, rfl⟩ ⟨_, rfl, B⟩
  obtain ⟨-, B⟩ := B
  by_cases c19_61 : x1 = 61
  · obtain ⟨B, -⟩ := B
    refine z_tableIn 1 156 rfl 61 (by rw [c19_61]; decide) (by decide) (by decide) rfl (by decide) ?_
    have B := B c19_61
    refine z_bipush (v := 24) 24 rfl (by decide) ?_
    exact z_iret 25 rfl rfl rfl ⟨rfl, rfl⟩ ⟨_, rfl, B⟩
  obtain ⟨-, B⟩ := B
  by_cases c19_62 : x1 = 62
  · obtain ⟨B, -⟩ := B
    refine z_tableIn 1 139 rfl 62 (by rw [c19_62]; decide) (by decide) (by decide) rfl (by decide) ?_
    have B := B c19_62
    refine z_aload_n 16 rfl rfl ?_
    refine z_bipush (v := 61) 17 rfl (by decide) ?_
    obtain ⟨o18, B⟩ := B
    obtain ⟨Q13, K15, B⟩ := B
    refine z_cVI1 (ν := mX4_takes) 18 rfl rfl fX4_takes gX4_76 ⟨_, rfl, rfl⟩ (by decide) o18 (Nat.le_of_ble_eq_true rfl) K15 (fun v16 h14 q => ?_)
    have B := B v16 h14 q
    refine z_if_eq 19 153 rfl (by decide) ⟨fun c17 => ?_, fun c17 => ?_⟩
    · have B := B.1 c17
      refine z_bipush (v := 27) 22 rfl (by decide) ?_
      exact z_iret 23 rfl rfl rfl ⟨rfl, rfl⟩ ⟨_, rfl, B⟩
    · have B := B.2 c17
      refine z_bipush (v := 26) 20 rfl (by decide) ?_
      refine z_goto 21 155 rfl (by decide) ?_
      exact z_iret 23 rfl rfl rfl ⟨rfl, rfl⟩ ⟨_, rfl, B⟩
  obtain ⟨-, B⟩ := B
  have B := B c19_40 c19_41 c19_42 c19_43 c19_45 c19_47 c19_59 c19_60 c19_61 c19_62
  refine z_tableD 1 180 rfl (by decide) (by
    intro z1 z2
    refine zsw_X4_signOf_1 z1 z2 c19_40 c19_41 c19_42 c19_43 c19_45 c19_47 c19_59 c19_60 c19_61 c19_62) ?_
  refine z_bipush (v := 38) 40 rfl (by decide) ?_
  exact z_iret 41 rfl rfl rfl ⟨rfl, rfl⟩ ⟨_, rfl, B⟩
theorem cn_X4_signOf {G : zG} {d : Nat} {h : zMem} {Q : Int32 → zMem → Prop} {a0 : Nat} {x1 : Int32} (B : zg G mX4_signOf (d + 1) 0 [.ref a0, .int x1] [] h (zPI Q)) : zConI G mX4_signOf (d + 1) [.ref a0, .int x1] h Q := zcon0 (by decide +kernel) eX4_signOf (Nat.le_of_ble_eq_true rfl) rfl B
set_option maxRecDepth 100000 in
set_option maxHeartbeats 4000000 in
theorem sg_X4_takes_0 {G : zG} {d : Nat} {h : zMem} {Q : Int32 → zMem → Prop} {a0 : Nat} {x1 : Int32} (B : zO h a0 4 ∧ ((zI h a0 2) ≤ (zI h a0 3) → Q (0 : Int32) h) ∧ (¬ (zI h a0 2) ≤ (zI h a0 3) → ∃ r3, zR h a0 1 = some r3 ∧ zO h r3 102 ∧ vp_in (zI h a0 3) (zLen h r3) ∧ (¬ (zI h r3 (zI h a0 3).toNatClampNeg) = x1 → Q (0 : Int32) h) ∧ ((zI h r3 (zI h a0 3).toNatClampNeg) = x1 → Q (1 : Int32) (zsI h a0 3 ((zI h a0 3) + (1 : Int32)))))) : zg G mX4_takes d 0 [.ref a0, .int x1] [] h (zPI Q) := by
  refine z_aload_n 0 rfl rfl ?_
  obtain ⟨o1, B⟩ := B
  refine z_getI 1 rfl lX4_40 rfl o1 ?_
  refine z_aload_n 2 rfl rfl ?_
  refine z_getI 3 rfl lX4_37 rfl o1 ?_
  refine z_icmp_ge 4 36 rfl (by decide) ⟨fun c2 => ?_, fun c2 => ?_⟩
  · have B := B.1 c2
    refine z_iconst (v := 0) 20 rfl (by decide) ?_
    exact z_iret 21 rfl rfl rfl ⟨rfl, rfl⟩ ⟨_, rfl, B⟩
  · have B := B.2 c2
    refine z_aload_n 5 rfl rfl ?_
    obtain ⟨r3, hr3, B⟩ := B
    refine z_getR 6 rfl lX4_15 rfl o1 hr3 ?_
    refine z_aload_n 7 rfl rfl ?_
    refine z_getI 8 rfl lX4_40 rfl o1 ?_
    obtain ⟨o4, B⟩ := B
    obtain ⟨o5, B⟩ := B
    refine z_bald 9 rfl o4 o5 ?_
    refine z_iload_n 10 rfl rfl ?_
    refine z_icmp_ne 11 36 rfl (by decide) ⟨fun c6 => ?_, fun c6 => ?_⟩
    · have B := B.1 c6
      refine z_iconst (v := 0) 20 rfl (by decide) ?_
      exact z_iret 21 rfl rfl rfl ⟨rfl, rfl⟩ ⟨_, rfl, B⟩
    · have B := B.2 c6
      refine z_aload_n 12 rfl rfl ?_
      refine z_dup 13 rfl rfl ?_
      refine z_getI 14 rfl lX4_40 rfl o1 ?_
      refine z_iconst (v := 1) 15 rfl (by decide) ?_
      refine z_iadd 16 rfl ?_
      refine z_putI 17 rfl lX4_40 ⟨_, _, _, rfl, rfl⟩ rfl rfl rfl o1 ?_
      refine z_iconst (v := 1) 18 rfl (by decide) ?_
      exact z_iret 19 rfl rfl rfl ⟨rfl, rfl⟩ ⟨_, rfl, B⟩
theorem cn_X4_takes {G : zG} {d : Nat} {h : zMem} {Q : Int32 → zMem → Prop} {a0 : Nat} {x1 : Int32} (B : zg G mX4_takes d 0 [.ref a0, .int x1] [] h (zPI Q)) : zConI G mX4_takes d [.ref a0, .int x1] h Q := zcon0 (by decide +kernel) eX4_takes (Nat.le_of_ble_eq_true rfl) rfl B
