theorem zlk_X10_works_70 {x : Int32} (c42 : ¬ x = 42) (c43 : ¬ x = 43) (c45 : ¬ x = 45) (c47 : ¬ x = 47) (c60 : ¬ x = 60) (c61 : ¬ x = 61) (c62 : ¬ x = 62) (c256 : ¬ x = 256) (c257 : ¬ x = 257) (c258 : ¬ x = 258) (c261 : ¬ x = 261) : Op.lookupswitch.offset (#[(42, 116), (43, 98), (45, 107), (47, 151), (60, 168), (61, 208), (62, 188), (256, 228), (257, 268), (258, 248), (261, 288)] : Array (Int × Int)).toList 314 x.toInt = 314 := by
  have c42 : ¬ (42 : Int) = x.toInt := fun e => c42 (Int32.toInt_inj.mp (by rw [← e]; decide))
  have c43 : ¬ (43 : Int) = x.toInt := fun e => c43 (Int32.toInt_inj.mp (by rw [← e]; decide))
  have c45 : ¬ (45 : Int) = x.toInt := fun e => c45 (Int32.toInt_inj.mp (by rw [← e]; decide))
  have c47 : ¬ (47 : Int) = x.toInt := fun e => c47 (Int32.toInt_inj.mp (by rw [← e]; decide))
  have c60 : ¬ (60 : Int) = x.toInt := fun e => c60 (Int32.toInt_inj.mp (by rw [← e]; decide))
  have c61 : ¬ (61 : Int) = x.toInt := fun e => c61 (Int32.toInt_inj.mp (by rw [← e]; decide))
  have c62 : ¬ (62 : Int) = x.toInt := fun e => c62 (Int32.toInt_inj.mp (by rw [← e]; decide))
  have c256 : ¬ (256 : Int) = x.toInt := fun e => c256 (Int32.toInt_inj.mp (by rw [← e]; decide))
  have c257 : ¬ (257 : Int) = x.toInt := fun e => c257 (Int32.toInt_inj.mp (by rw [← e]; decide))
  have c258 : ¬ (258 : Int) = x.toInt := fun e => c258 (Int32.toInt_inj.mp (by rw [← e]; decide))
  have c261 : ¬ (261 : Int) = x.toInt := fun e => c261 (Int32.toInt_inj.mp (by rw [← e]; decide))
  simp [Op.lookupswitch.offset, c42, Ne.symm c42, c43, Ne.symm c43, c45, Ne.symm c45, c47, Ne.symm c47, c60, Ne.symm c60, c61, Ne.symm c61, c62, Ne.symm c62, c256, Ne.symm c256, c257, Ne.symm c257, c258, Ne.symm c258, c261, Ne.symm c261]
set_option maxRecDepth 100000 in
set_option maxHeartbeats 4000000 in
theorem sg_X10_works_0 {G : zG} {d : Nat} {h : zMem} {Q : Int32 → zMem → Prop} {x1 : Int32} (hS : zSh2 h)  (B : vp_in ((zI h 132 33) - (1 : Int32)) 64 ∧ (¬ x1 = (260 : Int32) → vp_in ((zI h 132 33) - (2 : Int32)) 64 ∧ (x1 = 42 → ((lg_cmp (zL h 150 ((zI h 132 33) - (2 : Int32)).toNatClampNeg) (0 : Int64)) = 0 → zg G mX10_works (d + 1) 407 [.ref 132, .int x1, .long (zL h 150 ((zI h 132 33) - (1 : Int32)).toNatClampNeg), zU, .long (zL h 150 ((zI h 132 33) - (2 : Int32)).toNatClampNeg), zU, .long ((zL h 150 ((zI h 132 33) - (2 : Int32)).toNatClampNeg) * (zL h 150 ((zI h 132 33) - (1 : Int32)).toNatClampNeg)), zU] [] (zsI h 132 33 ((zI h 132 33) - (1 : Int32))) (zPI Q)) ∧ (¬ (lg_cmp (zL h 150 ((zI h 132 33) - (2 : Int32)).toNatClampNeg) (0 : Int64)) = 0 → ¬ (if 0 < (zL h 150 ((zI h 132 33) - (2 : Int32)).toNatClampNeg) then (zL h 150 ((zI h 132 33) - (2 : Int32)).toNatClampNeg) else if (zL h 150 ((zI h 132 33) - (2 : Int32)).toNatClampNeg) = 0 then (zL h 150 ((zI h 132 33) - (2 : Int32)).toNatClampNeg) else -(zL h 150 ((zI h 132 33) - (2 : Int32)).toNatClampNeg)) = 0 ∧ ((lg_cmp (if 0 < (zL h 150 ((zI h 132 33) - (1 : Int32)).toNatClampNeg) then (zL h 150 ((zI h 132 33) - (1 : Int32)).toNatClampNeg) else if (zL h 150 ((zI h 132 33) - (1 : Int32)).toNatClampNeg) = 0 then (zL h 150 ((zI h 132 33) - (1 : Int32)).toNatClampNeg) else -(zL h 150 ((zI h 132 33) - (1 : Int32)).toNatClampNeg)) ((1000000000000 : Int64) / (if 0 < (zL h 150 ((zI h 132 33) - (2 : Int32)).toNatClampNeg) then (zL h 150 ((zI h 132 33) - (2 : Int32)).toNatClampNeg) else if (zL h 150 ((zI h 132 33) - (2 : Int32)).toNatClampNeg) = 0 then (zL h 150 ((zI h 132 33) - (2 : Int32)).toNatClampNeg) else -(zL h 150 ((zI h 132 33) - (2 : Int32)).toNatClampNeg)))) ≤ 0 → zg G mX10_works (d + 1) 407 [.ref 132, .int x1, .long (zL h 150 ((zI h 132 33) - (1 : Int32)).toNatClampNeg), zU, .long (zL h 150 ((zI h 132 33) - (2 : Int32)).toNatClampNeg), zU, .long ((zL h 150 ((zI h 132 33) - (2 : Int32)).toNatClampNeg) * (zL h 150 ((zI h 132 33) - (1 : Int32)).toNatClampNeg)), zU] [] (zsI h 132 33 ((zI h 132 33) - (1 : Int32))) (zPI Q)) ∧ (¬ (lg_cmp (if 0 < (zL h 150 ((zI h 132 33) - (1 : Int32)).toNatClampNeg) then (zL h 150 ((zI h 132 33) - (1 : Int32)).toNatClampNeg) else if (zL h 150 ((zI h 132 33) - (1 : Int32)).toNatClampNeg) = 0 then (zL h 150 ((zI h 132 33) - (1 : Int32)).toNatClampNeg) else -(zL h 150 ((zI h 132 33) - (1 : Int32)).toNatClampNeg)) ((1000000000000 : Int64) / (if 0 < (zL h 150 ((zI h 132 33) - (2 : Int32)).toNatClampNeg) then (zL h 150 ((zI h 132 33) - (2 : Int32)).toNatClampNeg) else if (zL h 150 ((zI h 132 33) - (2 : Int32)).toNatClampNeg) = 0 then (zL h 150 ((zI h 132 33) - (2 : Int32)).toNatClampNeg) else -(zL h 150 ((zI h 132 33) - (2 : Int32)).toNatClampNeg)))) ≤ 0 → Q (0 : Int32) (zsI h 132 33 ((zI h 132 33) - (1 : Int32)))))) ∧ (x1 = 43 → zg G mX10_works (d + 1) 407 [.ref 132, .int x1, .long (zL h 150 ((zI h 132 33) - (1 : Int32)).toNatClampNeg), zU, .long (zL h 150 ((zI h 132 33) - (2 : Int32)).toNatClampNeg), zU, .long ((zL h 150 ((zI h 132 33) - (2 : Int32)).toNatClampNeg) + (zL h 150 ((zI h 132 33) - (1 : Int32)).toNatClampNeg)), zU] [] (zsI h 132 33 ((zI h 132 33) - (1 : Int32))) (zPI Q)) ∧ (x1 = 45 → zg G mX10_works (d + 1) 407 [.ref 132, .int x1, .long (zL h 150 ((zI h 132 33) - (1 : Int32)).toNatClampNeg), zU, .long (zL h 150 ((zI h 132 33) - (2 : Int32)).toNatClampNeg), zU, .long ((zL h 150 ((zI h 132 33) - (2 : Int32)).toNatClampNeg) - (zL h 150 ((zI h 132 33) - (1 : Int32)).toNatClampNeg)), zU] [] (zsI h 132 33 ((zI h 132 33) - (1 : Int32))) (zPI Q)) ∧ (x1 = 47 → (¬ (lg_cmp (zL h 150 ((zI h 132 33) - (1 : Int32)).toNatClampNeg) (0 : Int64)) = 0 → ¬ (zL h 150 ((zI h 132 33) - (1 : Int32)).toNatClampNeg) = 0 ∧ zg G mX10_works (d + 1) 407 [.ref 132, .int x1, .long (zL h 150 ((zI h 132 33) - (1 : Int32)).toNatClampNeg), zU, .long (zL h 150 ((zI h 132 33) - (2 : Int32)).toNatClampNeg), zU, .long ((zL h 150 ((zI h 132 33) - (2 : Int32)).toNatClampNeg) / (zL h 150 ((zI h 132 33) - (1 : Int32)).toNatClampNeg)), zU] [] (zsI h 132 33 ((zI h 132 33) - (1 : Int32))) (zPI Q)) ∧ ((lg_cmp (zL h 150 ((zI h 132 33) - (1 : Int32)).toNatClampNeg) (0 : Int64)) = 0 → Q (0 : Int32) (zsI h 132 33 ((zI h 132 33) - (1 : Int32))))) ∧ (x1 = 60 → (0 ≤ (lg_cmp (zL h 150 ((zI h 132 33) - (2 : Int32)).toNatClampNeg) (zL h 150 ((zI h 132 33) - (1 : Int32)).toNatClampNeg)) → ∃ Q10 : Int64 → zMem → Prop, zConL G mX10_is d [.int (0 : Int32)] (zsI h 132 33 ((zI h 132 33) - (1 : Int32))) Q10 ∧ (∀ v13 h11, Q10 v13 h11 → zSh2 h11 ∧ zg G mX10_works (d + 1) 407 [.ref 132, .int x1, .long (zL h 150 ((zI h 132 33) - (1 : Int32)).toNatClampNeg), zU, .long (zL h 150 ((zI h 132 33) - (2 : Int32)).toNatClampNeg), zU, .long v13, zU] [] h11 (zPI Q))) ∧ (¬ 0 ≤ (lg_cmp (zL h 150 ((zI h 132 33) - (2 : Int32)).toNatClampNeg) (zL h 150 ((zI h 132 33) - (1 : Int32)).toNatClampNeg)) → ∃ Q14 : Int64 → zMem → Prop, zConL G mX10_is d [.int (1 : Int32)] (zsI h 132 33 ((zI h 132 33) - (1 : Int32))) Q14 ∧ (∀ v17 h15, Q14 v17 h15 → zSh2 h15 ∧ zg G mX10_works (d + 1) 407 [.ref 132, .int x1, .long (zL h 150 ((zI h 132 33) - (1 : Int32)).toNatClampNeg), zU, .long (zL h 150 ((zI h 132 33) - (2 : Int32)).toNatClampNeg), zU, .long v17, zU] [] h15 (zPI Q)))) ∧ (x1 = 61 → (¬ (lg_cmp (zL h 150 ((zI h 132 33) - (2 : Int32)).toNatClampNeg) (zL h 150 ((zI h 132 33) - (1 : Int32)).toNatClampNeg)) = 0 → ∃ Q19 : Int64 → zMem → Prop, zConL G mX10_is d [.int (0 : Int32)] (zsI h 132 33 ((zI h 132 33) - (1 : Int32))) Q19 ∧ (∀ v22 h20, Q19 v22 h20 → zSh2 h20 ∧ zg G mX10_works (d + 1) 407 [.ref 132, .int x1, .long (zL h 150 ((zI h 132 33) - (1 : Int32)).toNatClampNeg), zU, .long (zL h 150 ((zI h 132 33) - (2 : Int32)).toNatClampNeg), zU, .long v22, zU] [] h20 (zPI Q))) ∧ ((lg_cmp (zL h 150 ((zI h 132 33) - (2 : Int32)).toNatClampNeg) (zL h 150 ((zI h 132 33) - (1 : Int32)).toNatClampNeg)) = 0 → ∃ Q23 : Int64 → zMem → Prop, zConL G mX10_is d [.int (1 : Int32)] (zsI h 132 33 ((zI h 132 33) - (1 : Int32))) Q23 ∧ (∀ v26 h24, Q23 v26 h24 → zSh2 h24 ∧ zg G mX10_works (d + 1) 407 [.ref 132, .int x1, .long (zL h 150 ((zI h 132 33) - (1 : Int32)).toNatClampNeg), zU, .long (zL h 150 ((zI h 132 33) - (2 : Int32)).toNatClampNeg), zU, .long v26, zU] [] h24 (zPI Q)))) ∧ (x1 = 62 → ((lg_cmp (zL h 150 ((zI h 132 33) - (2 : Int32)).toNatClampNeg) (zL h 150 ((zI h 132 33) - (1 : Int32)).toNatClampNeg)) ≤ 0 → ∃ Q28 : Int64 → zMem → Prop, zConL G mX10_is d [.int (0 : Int32)] (zsI h 132 33 ((zI h 132 33) - (1 : Int32))) Q28 ∧ (∀ v31 h29, Q28 v31 h29 → zSh2 h29 ∧ zg G mX10_works (d + 1) 407 [.ref 132, .int x1, .long (zL h 150 ((zI h 132 33) - (1 : Int32)).toNatClampNeg), zU, .long (zL h 150 ((zI h 132 33) - (2 : Int32)).toNatClampNeg), zU, .long v31, zU] [] h29 (zPI Q))) ∧ (¬ (lg_cmp (zL h 150 ((zI h 132 33) - (2 : Int32)).toNatClampNeg) (zL h 150 ((zI h 132 33) - (1 : Int32)).toNatClampNeg)) ≤ 0 → ∃ Q32 : Int64 → zMem → Prop, zConL G mX10_is d [.int (1 : Int32)] (zsI h 132 33 ((zI h 132 33) - (1 : Int32))) Q32 ∧ (∀ v35 h33, Q32 v35 h33 → zSh2 h33 ∧ zg G mX10_works (d + 1) 407 [.ref 132, .int x1, .long (zL h 150 ((zI h 132 33) - (1 : Int32)).toNatClampNeg), zU, .long (zL h 150 ((zI h 132 33) - (2 : Int32)).toNatClampNeg), zU, .long v35, zU] [] h33 (zPI Q)))) ∧ (x1 = 256 → (0 < (lg_cmp (zL h 150 ((zI h 132 33) - (2 : Int32)).toNatClampNeg) (zL h 150 ((zI h 132 33) - (1 : Int32)).toNatClampNeg)) → ∃ Q37 : Int64 → zMem → Prop, zConL G mX10_is d [.int (0 : Int32)] (zsI h 132 33 ((zI h 132 33) - (1 : Int32))) Q37 ∧ (∀ v40 h38, Q37 v40 h38 → zSh2 h38 ∧ zg G mX10_works (d + 1) 407 [.ref 132, .int x1, .long (zL h 150 ((zI h 132 33) - (1 : Int32)).toNatClampNeg), zU, .long (zL h 150 ((zI h 132 33) - (2 : Int32)).toNatClampNeg), zU, .long v40, zU] [] h38 (zPI Q))) ∧ (¬ 0 < (lg_cmp (zL h 150 ((zI h 132 33) - (2 : Int32)).toNatClampNeg) (zL h 150 ((zI h 132 33) - (1 : Int32)).toNatClampNeg)) → ∃ Q41 : Int64 → zMem → Prop, zConL G mX10_is d [.int (1 : Int32)] (zsI h 132 33 ((zI h 132 33) - (1 : Int32))) Q41 ∧ (∀ v44 h42, Q41 v44 h42 → zSh2 h42 ∧ zg G mX10_works (d + 1) 407 [.ref 132, .int x1, .long (zL h 150 ((zI h 132 33) - (1 : Int32)).toNatClampNeg), zU, .long (zL h 150 ((zI h 132 33) - (2 : Int32)).toNatClampNeg), zU, .long v44, zU] [] h42 (zPI Q)))) ∧ (x1 = 257 → ((lg_cmp (zL h 150 ((zI h 132 33) - (2 : Int32)).toNatClampNeg) (zL h 150 ((zI h 132 33) - (1 : Int32)).toNatClampNeg)) = 0 → ∃ Q46 : Int64 → zMem → Prop, zConL G mX10_is d [.int (0 : Int32)] (zsI h 132 33 ((zI h 132 33) - (1 : Int32))) Q46 ∧ (∀ v49 h47, Q46 v49 h47 → zSh2 h47 ∧ zg G mX10_works (d + 1) 407 [.ref 132, .int x1, .long (zL h 150 ((zI h 132 33) - (1 : Int32)).toNatClampNeg), zU, .long (zL h 150 ((zI h 132 33) - (2 : Int32)).toNatClampNeg), zU, .long v49, zU] [] h47 (zPI Q))) ∧ (¬ (lg_cmp (zL h 150 ((zI h 132 33) - (2 : Int32)).toNatClampNeg) (zL h 150 ((zI h 132 33) - (1 : Int32)).toNatClampNeg)) = 0 → ∃ Q50 : Int64 → zMem → Prop, zConL G mX10_is d [.int (1 : Int32)] (zsI h 132 33 ((zI h 132 33) - (1 : Int32))) Q50 ∧ (∀ v53 h51, Q50 v53 h51 → zSh2 h51 ∧ zg G mX10_works (d + 1) 407 [.ref 132, .int x1, .long (zL h 150 ((zI h 132 33) - (1 : Int32)).toNatClampNeg), zU, .long (zL h 150 ((zI h 132 33) - (2 : Int32)).toNatClampNeg), zU, .long v53, zU] [] h51 (zPI Q)))) ∧ (x1 = 258 → ((lg_cmp (zL h 150 ((zI h 132 33) - (2 : Int32)).toNatClampNeg) (zL h 150 ((zI h 132 33) - (1 : Int32)).toNatClampNeg)) < 0 → ∃ Q55 : Int64 → zMem → Prop, zConL G mX10_is d [.int (0 : Int32)] (zsI h 132 33 ((zI h 132 33) - (1 : Int32))) Q55 ∧ (∀ v58 h56, Q55 v58 h56 → zSh2 h56 ∧ zg G mX10_works (d + 1) 407 [.ref 132, .int x1, .long (zL h 150 ((zI h 132 33) - (1 : Int32)).toNatClampNeg), zU, .long (zL h 150 ((zI h 132 33) - (2 : Int32)).toNatClampNeg), zU, .long v58, zU] [] h56 (zPI Q))) ∧ (¬ (lg_cmp (zL h 150 ((zI h 132 33) - (2 : Int32)).toNatClampNeg) (zL h 150 ((zI h 132 33) - (1 : Int32)).toNatClampNeg)) < 0 → ∃ Q59 : Int64 → zMem → Prop, zConL G mX10_is d [.int (1 : Int32)] (zsI h 132 33 ((zI h 132 33) - (1 : Int32))) Q59 ∧ (∀ v62 h60, Q59 v62 h60 → zSh2 h60 ∧ zg G mX10_works (d + 1) 407 [.ref 132, .int x1, .long (zL h 150 ((zI h 132 33) - (1 : Int32)).toNatClampNeg), zU, .long (zL h 150 ((zI h 132 33) - (2 : Int32)).toNatClampNeg), zU, .long v62, zU] [] h60 (zPI Q)))) ∧ (x1 = 261 → ((lg_cmp (zL h 150 ((zI h 132 33) - (2 : Int32)).toNatClampNeg) (0 : Int64)) = 0 → ∃ Q64 : Int64 → zMem → Prop, zConL G mX10_is d [.int (0 : Int32)] (zsI h 132 33 ((zI h 132 33) - (1 : Int32))) Q64 ∧ (∀ v67 h65, Q64 v67 h65 → zSh2 h65 ∧ zg G mX10_works (d + 1) 407 [.ref 132, .int x1, .long (zL h 150 ((zI h 132 33) - (1 : Int32)).toNatClampNeg), zU, .long (zL h 150 ((zI h 132 33) - (2 : Int32)).toNatClampNeg), zU, .long v67, zU] [] h65 (zPI Q))) ∧ (¬ (lg_cmp (zL h 150 ((zI h 132 33) - (2 : Int32)).toNatClampNeg) (0 : Int64)) = 0 → ((lg_cmp (zL h 150 ((zI h 132 33) - (1 : Int32)).toNatClampNeg) (0 : Int64)) = 0 → ∃ Q69 : Int64 → zMem → Prop, zConL G mX10_is d [.int (0 : Int32)] (zsI h 132 33 ((zI h 132 33) - (1 : Int32))) Q69 ∧ (∀ v72 h70, Q69 v72 h70 → zSh2 h70 ∧ zg G mX10_works (d + 1) 407 [.ref 132, .int x1, .long (zL h 150 ((zI h 132 33) - (1 : Int32)).toNatClampNeg), zU, .long (zL h 150 ((zI h 132 33) - (2 : Int32)).toNatClampNeg), zU, .long v72, zU] [] h70 (zPI Q))) ∧ (¬ (lg_cmp (zL h 150 ((zI h 132 33) - (1 : Int32)).toNatClampNeg) (0 : Int64)) = 0 → ∃ Q73 : Int64 → zMem → Prop, zConL G mX10_is d [.int (1 : Int32)] (zsI h 132 33 ((zI h 132 33) - (1 : Int32))) Q73 ∧ (∀ v76 h74, Q73 v76 h74 → zSh2 h74 ∧ zg G mX10_works (d + 1) 407 [.ref 132, .int x1, .long (zL h 150 ((zI h 132 33) - (1 : Int32)).toNatClampNeg), zU, .long (zL h 150 ((zI h 132 33) - (2 : Int32)).toNatClampNeg), zU, .long v76, zU] [] h74 (zPI Q))))) ∧ (¬ x1 = 42 → ¬ x1 = 43 → ¬ x1 = 45 → ¬ x1 = 47 → ¬ x1 = 60 → ¬ x1 = 61 → ¬ x1 = 62 → ¬ x1 = 256 → ¬ x1 = 257 → ¬ x1 = 258 → ¬ x1 = 261 → (¬ (lg_cmp (zL h 150 ((zI h 132 33) - (2 : Int32)).toNatClampNeg) (0 : Int64)) = 0 → ∃ Q78 : Int64 → zMem → Prop, zConL G mX10_is d [.int (1 : Int32)] (zsI h 132 33 ((zI h 132 33) - (1 : Int32))) Q78 ∧ (∀ v81 h79, Q78 v81 h79 → zSh2 h79 ∧ zg G mX10_works (d + 1) 407 [.ref 132, .int x1, .long (zL h 150 ((zI h 132 33) - (1 : Int32)).toNatClampNeg), zU, .long (zL h 150 ((zI h 132 33) - (2 : Int32)).toNatClampNeg), zU, .long v81, zU] [] h79 (zPI Q))) ∧ ((lg_cmp (zL h 150 ((zI h 132 33) - (2 : Int32)).toNatClampNeg) (0 : Int64)) = 0 → ((lg_cmp (zL h 150 ((zI h 132 33) - (1 : Int32)).toNatClampNeg) (0 : Int64)) = 0 → ∃ Q83 : Int64 → zMem → Prop, zConL G mX10_is d [.int (0 : Int32)] (zsI h 132 33 ((zI h 132 33) - (1 : Int32))) Q83 ∧ (∀ v86 h84, Q83 v86 h84 → zSh2 h84 ∧ zg G mX10_works (d + 1) 407 [.ref 132, .int x1, .long (zL h 150 ((zI h 132 33) - (1 : Int32)).toNatClampNeg), zU, .long (zL h 150 ((zI h 132 33) - (2 : Int32)).toNatClampNeg), zU, .long v86, zU] [] h84 (zPI Q))) ∧ (¬ (lg_cmp (zL h 150 ((zI h 132 33) - (1 : Int32)).toNatClampNeg) (0 : Int64)) = 0 → ∃ Q87 : Int64 → zMem → Prop, zConL G mX10_is d [.int (1 : Int32)] (zsI h 132 33 ((zI h 132 33) - (1 : Int32))) Q87 ∧ (∀ v90 h88, Q87 v90 h88 → zSh2 h88 ∧ zg G mX10_works (d + 1) 407 [.ref 132, .int x1, .long (zL h 150 ((zI h 132 33) - (1 : Int32)).toNatClampNeg), zU, .long (zL h 150 ((zI h 132 33) - (2 : Int32)).toNatClampNeg), zU, .long v90, zU] [] h88 (zPI Q)))))) ∧ (x1 = (260 : Int32) → (¬ (lg_cmp (zL h 150 ((zI h 132 33) - (1 : Int32)).toNatClampNeg) (0 : Int64)) = 0 → ∃ Q93 : Int64 → zMem → Prop, zConL G mX10_is d [.int (0 : Int32)] h Q93 ∧ (∀ v96 h94, Q93 v96 h94 → zSh2 h94 ∧ Q (1 : Int32) (zsL h94 150 ((zI h 132 33) - (1 : Int32)).toNatClampNeg v96))) ∧ ((lg_cmp (zL h 150 ((zI h 132 33) - (1 : Int32)).toNatClampNeg) (0 : Int64)) = 0 → ∃ Q97 : Int64 → zMem → Prop, zConL G mX10_is d [.int (1 : Int32)] h Q97 ∧ (∀ v100 h98, Q97 v100 h98 → zSh2 h98 ∧ Q (1 : Int32) (zsL h98 150 ((zI h 132 33) - (1 : Int32)).toNatClampNeg v100))))) : zg G mX10_works (d + 1) 0 [.ref 132, .int x1, zU, zU, zU, zU, zU, zU] [] h (zPI Q) := by
  refine z_aload_n 0 rfl rfl ?_
  refine z_getR 1 rfl lX10_66 rfl (zcl1.o hS 132 9 rfl rfl rfl) (zcl1.r hS 132 32 150 rfl rfl rfl) ?_
  refine z_aload_n 2 rfl rfl ?_
  refine z_getI 3 rfl lX10_326 rfl (zcl1.o hS 132 9 rfl rfl rfl) ?_
  refine z_iconst (v := 1) 4 rfl (by decide) ?_
  refine z_isub 5 rfl ?_
  obtain ⟨o1, B⟩ := B
  refine z_lald 6 rfl (zcl1.o hS 150 101 rfl rfl rfl) (zin (zcl1.l hS 150 64 rfl rfl rfl) o1) ?_
  refine z_lstore_n 7 rfl (by decide) rfl ?_
  refine z_iload_n 8 rfl rfl ?_
  refine z_sipush (v := 260) 9 rfl (by decide) ?_
  refine z_icmp_ne 10 46 rfl (by decide) ⟨fun c2 => ?_, fun c2 => ?_⟩
  · have B := B.1 c2
    refine z_aload_n 28 rfl rfl ?_
    refine z_getR 29 rfl lX10_66 rfl (zcl1.o hS 132 9 rfl rfl rfl) (zcl1.r hS 132 32 150 rfl rfl rfl) ?_
    refine z_aload_n 30 rfl rfl ?_
    refine z_getI 31 rfl lX10_326 rfl (zcl1.o hS 132 9 rfl rfl rfl) ?_
    refine z_iconst (v := 2) 32 rfl (by decide) ?_
    refine z_isub 33 rfl ?_
    obtain ⟨o3, B⟩ := B
    refine z_lald 34 rfl (zcl1.o hS 150 101 rfl rfl rfl) (zin (zcl1.l hS 150 64 rfl rfl rfl) o3) ?_
    refine z_lstore 35 rfl (by decide) rfl ?_
    refine z_aload_n 36 rfl rfl ?_
    refine z_dup 37 rfl rfl ?_
    refine z_getI 38 rfl lX10_326 rfl (zcl1.o hS 132 9 rfl rfl rfl) ?_
    refine z_iconst (v := 1) 39 rfl (by decide) ?_
    refine z_isub 40 rfl ?_
    refine z_putI 41 rfl lX10_326 ⟨_, _, _, rfl, rfl⟩ rfl rfl rfl (zcl1.o hS 132 9 rfl rfl rfl) ?_
    refine z_iload_n 42 rfl rfl ?_
    by_cases c91_42 : x1 = 42
    · obtain ⟨B, -⟩ := B
      refine z_lookup 43 186 rfl (by decide) (by rw [c91_42]; try rfl) (by decide) ?_
      have B := B c91_42
      refine z_lload 54 rfl rfl ?_
      refine z_lconst (v := 0) 55 rfl (by decide) ?_
      refine z_lcmp 56 rfl ?_
      refine z_if_eq 57 212 rfl (by decide) ⟨fun c4 => ?_, fun c4 => ?_⟩
      · have B := B.1 c4
        refine z_lload 68 rfl rfl ?_
        refine z_lload_n 69 rfl rfl ?_
        refine z_lmul 70 rfl ?_
        refine z_lstore 71 rfl (by decide) rfl ?_
        refine z_goto 72 407 rfl (by decide) ?_
        exact B
      · have B := B.2 c4
        refine z_lload_n 58 rfl rfl ?_
        refine z_labs 59 rfl rfl gmX10_333 (Nat.le_of_ble_eq_true rfl) ?_
        refine z_ldc2 60 rfl kX10_339 ?_
        refine z_lload 61 rfl rfl ?_
        refine z_labs 62 rfl rfl gmX10_333 (Nat.le_of_ble_eq_true rfl) ?_
        obtain ⟨o5, B⟩ := B
        refine z_ldiv 63 rfl o5 ?_
        refine z_lcmp 64 rfl ?_
        refine z_if_le 65 212 rfl (by decide) ⟨fun c6 => ?_, fun c6 => ?_⟩
        · have B := B.1 c6
          refine z_lload 68 rfl rfl ?_
          refine z_lload_n 69 rfl rfl ?_
          refine z_lmul 70 rfl ?_
          refine z_lstore 71 rfl (by decide) rfl ?_
          refine z_goto 72 407 rfl (by decide) ?_
          exact B
        · have B := B.2 c6
          refine z_iconst (v := 0) 66 rfl (by decide) ?_
          exact z_iret 67 rfl rfl rfl ⟨rfl, rfl⟩ ⟨_, rfl, B⟩
    obtain ⟨-, B⟩ := B
    by_cases c91_43 : x1 = 43
    · obtain ⟨B, -⟩ := B
      refine z_lookup 43 168 rfl (by decide) (by rw [c91_43]; try rfl) (by decide) ?_
      have B := B c91_43
      refine z_lload 44 rfl rfl ?_
      refine z_lload_n 45 rfl rfl ?_
      refine z_ladd 46 rfl ?_
      refine z_lstore 47 rfl (by decide) rfl ?_
      refine z_goto 48 407 rfl (by decide) ?_
      exact B
    obtain ⟨-, B⟩ := B
    by_cases c91_45 : x1 = 45
    · obtain ⟨B, -⟩ := B
      refine z_lookup 43 177 rfl (by decide) (by rw [c91_45]; try rfl) (by decide) ?_
      have B := B c91_45
      refine z_lload 49 rfl rfl ?_
      refine z_lload_n 50 rfl rfl ?_
      refine z_lsub 51 rfl ?_
      refine z_lstore 52 rfl (by decide) rfl ?_
      refine z_goto 53 407 rfl (by decide) ?_
      exact B
    obtain ⟨-, B⟩ := B
    by_cases c91_47 : x1 = 47
    · obtain ⟨B, -⟩ := B
      refine z_lookup 43 221 rfl (by decide) (by rw [c91_47]; try rfl) (by decide) ?_
      have B := B c91_47
      refine z_lload_n 73 rfl rfl ?_
      refine z_lconst (v := 0) 74 rfl (by decide) ?_
      refine z_lcmp 75 rfl ?_
      refine z_if_ne 76 229 rfl (by decide) ⟨fun c7 => ?_, fun c7 => ?_⟩
      · have B := B.1 c7
        refine z_lload 79 rfl rfl ?_
        refine z_lload_n 80 rfl rfl ?_
        obtain ⟨o8, B⟩ := B
        refine z_ldiv 81 rfl o8 ?_
        refine z_lstore 82 rfl (by decide) rfl ?_
        refine z_goto 83 407 rfl (by decide) ?_
        exact B
      · have B := B.2 c7
        refine z_iconst (v := 0) 77 rfl (by decide) ?_
        exact z_iret 78 rfl rfl rfl ⟨rfl, rfl⟩ ⟨_, rfl, B⟩
    obtain ⟨-, B⟩ := B
    by_cases c91_60 : x1 = 60
    · obtain ⟨B, -⟩ := B
      refine z_lookup 43 238 rfl (by decide) (by rw [c91_60]; try rfl) (by decide) ?_
      have B := B c91_60
      refine z_lload 84 rfl rfl ?_
      refine z_lload_n 85 rfl rfl ?_
      refine z_lcmp 86 rfl ?_
      refine z_if_ge 87 249 rfl (by decide) ⟨fun c9 => ?_, fun c9 => ?_⟩
      · have B := B.1 c9
        refine z_iconst (v := 0) 90 rfl (by decide) ?_
        obtain ⟨Q10, K12, B⟩ := B
        refine z_cSL1 (ν := mX10_is) 91 rfl rfl fX10_is gX10_329 (Nat.le_of_ble_eq_true rfl) K12 (fun v13 h11 q => ?_)
        obtain ⟨hSh11, B⟩ := B v13 h11 q
        refine z_lstore 92 rfl (by decide) rfl ?_
        refine z_goto 93 407 rfl (by decide) ?_
        exact B
      · have B := B.2 c9
        refine z_iconst (v := 1) 88 rfl (by decide) ?_
        refine z_goto 89 250 rfl (by decide) ?_
        obtain ⟨Q14, K16, B⟩ := B
        refine z_cSL1 (ν := mX10_is) 91 rfl rfl fX10_is gX10_329 (Nat.le_of_ble_eq_true rfl) K16 (fun v17 h15 q => ?_)
        obtain ⟨hSh15, B⟩ := B v17 h15 q
        refine z_lstore 92 rfl (by decide) rfl ?_
        refine z_goto 93 407 rfl (by decide) ?_
        exact B
    obtain ⟨-, B⟩ := B
    by_cases c91_61 : x1 = 61
    · obtain ⟨B, -⟩ := B
      refine z_lookup 43 278 rfl (by decide) (by rw [c91_61]; try rfl) (by decide) ?_
      have B := B c91_61
      refine z_lload 104 rfl rfl ?_
      refine z_lload_n 105 rfl rfl ?_
      refine z_lcmp 106 rfl ?_
      refine z_if_ne 107 289 rfl (by decide) ⟨fun c18 => ?_, fun c18 => ?_⟩
      · have B := B.1 c18
        refine z_iconst (v := 0) 110 rfl (by decide) ?_
        obtain ⟨Q19, K21, B⟩ := B
        refine z_cSL1 (ν := mX10_is) 111 rfl rfl fX10_is gX10_329 (Nat.le_of_ble_eq_true rfl) K21 (fun v22 h20 q => ?_)
        obtain ⟨hSh20, B⟩ := B v22 h20 q
        refine z_lstore 112 rfl (by decide) rfl ?_
        refine z_goto 113 407 rfl (by decide) ?_
        exact B
      · have B := B.2 c18
        refine z_iconst (v := 1) 108 rfl (by decide) ?_
        refine z_goto 109 290 rfl (by decide) ?_
        obtain ⟨Q23, K25, B⟩ := B
        refine z_cSL1 (ν := mX10_is) 111 rfl rfl fX10_is gX10_329 (Nat.le_of_ble_eq_true rfl) K25 (fun v26 h24 q => ?_)
        obtain ⟨hSh24, B⟩ := B v26 h24 q
        refine z_lstore 112 rfl (by decide) rfl ?_
        refine z_goto 113 407 rfl (by decide) ?_
        exact B
    obtain ⟨-, B⟩ := B
    by_cases c91_62 : x1 = 62
    · obtain ⟨B, -⟩ := B
      refine z_lookup 43 258 rfl (by decide) (by rw [c91_62]; try rfl) (by decide) ?_
      have B := B c91_62
      refine z_lload 94 rfl rfl ?_
      refine z_lload_n 95 rfl rfl ?_
      refine z_lcmp 96 rfl ?_
      refine z_if_le 97 269 rfl (by decide) ⟨fun c27 => ?_, fun c27 => ?_⟩
      · have B := B.1 c27
        refine z_iconst (v := 0) 100 rfl (by decide) ?_
        obtain ⟨Q28, K30, B⟩ := B
        refine z_cSL1 (ν := mX10_is) 101 rfl rfl fX10_is gX10_329 (Nat.le_of_ble_eq_true rfl) K30 (fun v31 h29 q => ?_)
        obtain ⟨hSh29, B⟩ := B v31 h29 q
        refine z_lstore 102 rfl (by decide) rfl ?_
        refine z_goto 103 407 rfl (by decide) ?_
        exact B
      · have B := B.2 c27
        refine z_iconst (v := 1) 98 rfl (by decide) ?_
        refine z_goto 99 270 rfl (by decide) ?_
        obtain ⟨Q32, K34, B⟩ := B
        refine z_cSL1 (ν := mX10_is) 101 rfl rfl fX10_is gX10_329 (Nat.le_of_ble_eq_true rfl) K34 (fun v35 h33 q => ?_)
        obtain ⟨hSh33, B⟩ := B v35 h33 q
        refine z_lstore 102 rfl (by decide) rfl ?_
        refine z_goto 103 407 rfl (by decide) ?_
        exact B
    obtain ⟨-, B⟩ := B
    by_cases c91_256 : x1 = 256
    · obtain ⟨B, -⟩ := B
      refine z_lookup 43 298 rfl (by decide) (by rw [c91_256]; try rfl) (by decide) ?_
      have B := B c91_256
      refine z_lload 114 rfl rfl ?_
      refine z_lload_n 115 rfl rfl ?_
      refine z_lcmp 116 rfl ?_
      refine z_if_gt 117 309 rfl (by decide) ⟨fun c36 => ?_, fun c36 => ?_⟩
      · have B := B.1 c36
        refine z_iconst (v := 0) 120 rfl (by decide) ?_
        obtain ⟨Q37, K39, B⟩ := B
        refine z_cSL1 (ν := mX10_is) 121 rfl rfl fX10_is gX10_329 (Nat.le_of_ble_eq_true rfl) K39 (fun v40 h38 q => ?_)
        obtain ⟨hSh38, B⟩ := B v40 h38 q
        refine z_lstore 122 rfl (by decide) rfl ?_
        refine z_goto 123 407 rfl (by decide) ?_
        exact B
      · have B := B.2 c36
        refine z_iconst (v := 1) 118 rfl (by decide) ?_
        refine z_goto 119 310 rfl (by decide) ?_
        obtain ⟨Q41, K43, B⟩ := B
        refine z_cSL1 (ν := mX10_is) 121 rfl rfl fX10_is gX10_329 (Nat.le_of_ble_eq_true rfl) K43 (fun v44 h42 q => ?_)
        obtain ⟨hSh42, B⟩ := B v44 h42 q
        refine z_lstore 122 rfl (by decide) rfl ?_
        refine z_goto 123 407 rfl (by decide) ?_
        exact B
    obtain ⟨-, B⟩ := B
    by_cases c91_257 : x1 = 257
    · obtain ⟨B, -⟩ := B
      refine z_lookup 43 338 rfl (by decide) (by rw [c91_257]; try rfl) (by decide) ?_
      have B := B c91_257
      refine z_lload 134 rfl rfl ?_
      refine z_lload_n 135 rfl rfl ?_
      refine z_lcmp 136 rfl ?_
      refine z_if_eq 137 349 rfl (by decide) ⟨fun c45 => ?_, fun c45 => ?_⟩
      · have B := B.1 c45
        refine z_iconst (v := 0) 140 rfl (by decide) ?_
        obtain ⟨Q46, K48, B⟩ := B
        refine z_cSL1 (ν := mX10_is) 141 rfl rfl fX10_is gX10_329 (Nat.le_of_ble_eq_true rfl) K48 (fun v49 h47 q => ?_)
        obtain ⟨hSh47, B⟩ := B v49 h47 q
        refine z_lstore 142 rfl (by decide) rfl ?_
        refine z_goto 143 407 rfl (by decide) ?_
        exact B
      · have B := B.2 c45
        refine z_iconst (v := 1) 138 rfl (by decide) ?_
        refine z_goto 139 350 rfl (by decide) ?_
        obtain ⟨Q50, K52, B⟩ := B
        refine z_cSL1 (ν := mX10_is) 141 rfl rfl fX10_is gX10_329 (Nat.le_of_ble_eq_true rfl) K52 (fun v53 h51 q => ?_)
        obtain ⟨hSh51, B⟩ := B v53 h51 q
        refine z_lstore 142 rfl (by decide) rfl ?_
        refine z_goto 143 407 rfl (by decide) ?_
        exact B
    obtain ⟨-, B⟩ := B
    by_cases c91_258 : x1 = 258
    · obtain ⟨B, -⟩ := B
      refine z_lookup 43 318 rfl (by decide) (by rw [c91_258]; try rfl) (by decide) ?_
      have B := B c91_258
      refine z_lload 124 rfl rfl ?_
      refine z_lload_n 125 rfl rfl ?_
      refine z_lcmp 126 rfl ?_
      refine z_if_lt 127 329 rfl (by decide) ⟨fun c54 => ?_, fun c54 => ?_⟩
      · have B := B.1 c54
        refine z_iconst (v := 0) 130 rfl (by decide) ?_
        obtain ⟨Q55, K57, B⟩ := B
        refine z_cSL1 (ν := mX10_is) 131 rfl rfl fX10_is gX10_329 (Nat.le_of_ble_eq_true rfl) K57 (fun v58 h56 q => ?_)
        obtain ⟨hSh56, B⟩ := B v58 h56 q
        refine z_lstore 132 rfl (by decide) rfl ?_
        refine z_goto 133 407 rfl (by decide) ?_
        exact B
      · have B := B.2 c54
        refine z_iconst (v := 1) 128 rfl (by decide) ?_
        refine z_goto 129 330 rfl (by decide) ?_
        obtain ⟨Q59, K61, B⟩ := B
        refine z_cSL1 (ν := mX10_is) 131 rfl rfl fX10_is gX10_329 (Nat.le_of_ble_eq_true rfl) K61 (fun v62 h60 q => ?_)
        obtain ⟨hSh60, B⟩ := B v62 h60 q
        refine z_lstore 132 rfl (by decide) rfl ?_
        refine z_goto 133 407 rfl (by decide) ?_
        exact B
    obtain ⟨-, B⟩ := B
    by_cases c91_261 : x1 = 261
    · obtain ⟨B, -⟩ := B
      refine z_lookup 43 358 rfl (by decide) (by rw [c91_261]; try rfl) (by decide) ?_
      have B := B c91_261
      refine z_lload 144 rfl rfl ?_
      refine z_lconst (v := 0) 145 rfl (by decide) ?_
      refine z_lcmp 146 rfl ?_
      refine z_if_eq 147 375 rfl (by decide) ⟨fun c63 => ?_, fun c63 => ?_⟩
      · have B := B.1 c63
        refine z_iconst (v := 0) 154 rfl (by decide) ?_
        obtain ⟨Q64, K66, B⟩ := B
        refine z_cSL1 (ν := mX10_is) 155 rfl rfl fX10_is gX10_329 (Nat.le_of_ble_eq_true rfl) K66 (fun v67 h65 q => ?_)
        obtain ⟨hSh65, B⟩ := B v67 h65 q
        refine z_lstore 156 rfl (by decide) rfl ?_
        refine z_goto 157 407 rfl (by decide) ?_
        exact B
      · have B := B.2 c63
        refine z_lload_n 148 rfl rfl ?_
        refine z_lconst (v := 0) 149 rfl (by decide) ?_
        refine z_lcmp 150 rfl ?_
        refine z_if_eq 151 375 rfl (by decide) ⟨fun c68 => ?_, fun c68 => ?_⟩
        · have B := B.1 c68
          refine z_iconst (v := 0) 154 rfl (by decide) ?_
          obtain ⟨Q69, K71, B⟩ := B
          refine z_cSL1 (ν := mX10_is) 155 rfl rfl fX10_is gX10_329 (Nat.le_of_ble_eq_true rfl) K71 (fun v72 h70 q => ?_)
          obtain ⟨hSh70, B⟩ := B v72 h70 q
          refine z_lstore 156 rfl (by decide) rfl ?_
          refine z_goto 157 407 rfl (by decide) ?_
          exact B
        · have B := B.2 c68
          refine z_iconst (v := 1) 152 rfl (by decide) ?_
          refine z_goto 153 376 rfl (by decide) ?_
          obtain ⟨Q73, K75, B⟩ := B
          refine z_cSL1 (ν := mX10_is) 155 rfl rfl fX10_is gX10_329 (Nat.le_of_ble_eq_true rfl) K75 (fun v76 h74 q => ?_)
          obtain ⟨hSh74, B⟩ := B v76 h74 q
          refine z_lstore 156 rfl (by decide) rfl ?_
          refine z_goto 157 407 rfl (by decide) ?_
          exact B
    obtain ⟨-, B⟩ := B
    have B := B c91_42 c91_43 c91_45 c91_47 c91_60 c91_61 c91_62 c91_256 c91_257 c91_258 c91_261
    refine z_lookup 43 384 rfl (by decide) (zlk_X10_works_70 c91_42 c91_43 c91_45 c91_47 c91_60 c91_61 c91_62 c91_256 c91_257 c91_258 c91_261) (by decide) ?_
    refine z_lload 158 rfl rfl ?_
    refine z_lconst (v := 0) 159 rfl (by decide) ?_
    refine z_lcmp 160 rfl ?_
    refine z_if_ne 161 397 rfl (by decide) ⟨fun c77 => ?_, fun c77 => ?_⟩
    · have B := B.1 c77
      refine z_iconst (v := 1) 166 rfl (by decide) ?_
      refine z_goto 167 402 rfl (by decide) ?_
      obtain ⟨Q78, K80, B⟩ := B
      refine z_cSL1 (ν := mX10_is) 169 rfl rfl fX10_is gX10_329 (Nat.le_of_ble_eq_true rfl) K80 (fun v81 h79 q => ?_)
      obtain ⟨hSh79, B⟩ := B v81 h79 q
      refine z_lstore 170 rfl (by decide) rfl ?_
      exact B
    · have B := B.2 c77
      refine z_lload_n 162 rfl rfl ?_
      refine z_lconst (v := 0) 163 rfl (by decide) ?_
      refine z_lcmp 164 rfl ?_
      refine z_if_eq 165 401 rfl (by decide) ⟨fun c82 => ?_, fun c82 => ?_⟩
      · have B := B.1 c82
        refine z_iconst (v := 0) 168 rfl (by decide) ?_
        obtain ⟨Q83, K85, B⟩ := B
        refine z_cSL1 (ν := mX10_is) 169 rfl rfl fX10_is gX10_329 (Nat.le_of_ble_eq_true rfl) K85 (fun v86 h84 q => ?_)
        obtain ⟨hSh84, B⟩ := B v86 h84 q
        refine z_lstore 170 rfl (by decide) rfl ?_
        exact B
      · have B := B.2 c82
        refine z_iconst (v := 1) 166 rfl (by decide) ?_
        refine z_goto 167 402 rfl (by decide) ?_
        obtain ⟨Q87, K89, B⟩ := B
        refine z_cSL1 (ν := mX10_is) 169 rfl rfl fX10_is gX10_329 (Nat.le_of_ble_eq_true rfl) K89 (fun v90 h88 q => ?_)
        obtain ⟨hSh88, B⟩ := B v90 h88 q
        refine z_lstore 170 rfl (by decide) rfl ?_
        exact B
  · have B := B.2 c2
    refine z_aload_n 11 rfl rfl ?_
    refine z_getR 12 rfl lX10_66 rfl (zcl1.o hS 132 9 rfl rfl rfl) (zcl1.r hS 132 32 150 rfl rfl rfl) ?_
    refine z_aload_n 13 rfl rfl ?_
    refine z_getI 14 rfl lX10_326 rfl (zcl1.o hS 132 9 rfl rfl rfl) ?_
    refine z_iconst (v := 1) 15 rfl (by decide) ?_
    refine z_isub 16 rfl ?_
    refine z_lload_n 17 rfl rfl ?_
    refine z_lconst (v := 0) 18 rfl (by decide) ?_
    refine z_lcmp 19 rfl ?_
    refine z_if_ne 20 39 rfl (by decide) ⟨fun c92 => ?_, fun c92 => ?_⟩
    · have B := B.1 c92
      refine z_iconst (v := 0) 23 rfl (by decide) ?_
      obtain ⟨Q93, K95, B⟩ := B
      refine z_cSL1 (ν := mX10_is) 24 rfl rfl fX10_is gX10_329 (Nat.le_of_ble_eq_true rfl) K95 (fun v96 h94 q => ?_)
      obtain ⟨hSh94, B⟩ := B v96 h94 q
      refine z_last 25 rfl (zcl1.o hSh94 150 101 rfl rfl rfl) (zin (zcl1.l hSh94 150 64 rfl rfl rfl) o1) ?_
      refine z_iconst (v := 1) 26 rfl (by decide) ?_
      exact z_iret 27 rfl rfl rfl ⟨rfl, rfl⟩ ⟨_, rfl, B⟩
    · have B := B.2 c92
      refine z_iconst (v := 1) 21 rfl (by decide) ?_
      refine z_goto 22 40 rfl (by decide) ?_
      obtain ⟨Q97, K99, B⟩ := B
      refine z_cSL1 (ν := mX10_is) 24 rfl rfl fX10_is gX10_329 (Nat.le_of_ble_eq_true rfl) K99 (fun v100 h98 q => ?_)
      obtain ⟨hSh98, B⟩ := B v100 h98 q
      refine z_last 25 rfl (zcl1.o hSh98 150 101 rfl rfl rfl) (zin (zcl1.l hSh98 150 64 rfl rfl rfl) o1) ?_
      refine z_iconst (v := 1) 26 rfl (by decide) ?_
      exact z_iret 27 rfl rfl rfl ⟨rfl, rfl⟩ ⟨_, rfl, B⟩
theorem cn_X10_works {G : zG} {d : Nat} {h : zMem} {Q : Int32 → zMem → Prop} {x1 : Int32} (B : zg G mX10_works (d + 1) 0 [.ref 132, .int x1, zU, zU, zU, zU, zU, zU] [] h (zPI Q)) : zConI G mX10_works (d + 1) [.ref 132, .int x1] h Q := zcon0 (by decide +kernel) eX10_works (Nat.le_of_ble_eq_true rfl) rfl B
set_option maxRecDepth 100000 in
set_option maxHeartbeats 4000000 in
theorem sg_X10_works_407 {G : zG} {d : Nat} {h : zMem} {Q : Int32 → zMem → Prop} {x1 : Int32} {y2 : Int64} {y4 : Int64} {y6 : Int64} (hS : zSh2 h)  (B : vp_in ((zI h 132 33) - (1 : Int32)) 64 ∧ (0 < (lg_cmp y6 (1000000000000 : Int64)) → Q (0 : Int32) (zsL h 150 ((zI h 132 33) - (1 : Int32)).toNatClampNeg y6)) ∧ (¬ 0 < (lg_cmp y6 (1000000000000 : Int64)) → ((lg_cmp y6 (-1000000000000 : Int64)) < 0 → Q (0 : Int32) (zsL h 150 ((zI h 132 33) - (1 : Int32)).toNatClampNeg y6)) ∧ (¬ (lg_cmp y6 (-1000000000000 : Int64)) < 0 → Q (1 : Int32) (zsL h 150 ((zI h 132 33) - (1 : Int32)).toNatClampNeg y6)))) : zg G mX10_works (d + 1) 407 [.ref 132, .int x1, .long y2, zU, .long y4, zU, .long y6, zU] [] h (zPI Q) := by
  refine z_aload_n 171 rfl rfl ?_
  refine z_getR 172 rfl lX10_66 rfl (zcl1.o hS 132 9 rfl rfl rfl) (zcl1.r hS 132 32 150 rfl rfl rfl) ?_
  refine z_aload_n 173 rfl rfl ?_
  refine z_getI 174 rfl lX10_326 rfl (zcl1.o hS 132 9 rfl rfl rfl) ?_
  refine z_iconst (v := 1) 175 rfl (by decide) ?_
  refine z_isub 176 rfl ?_
  refine z_lload 177 rfl rfl ?_
  obtain ⟨o1, B⟩ := B
  refine z_last 178 rfl (zcl1.o hS 150 101 rfl rfl rfl) (zin (zcl1.l hS 150 64 rfl rfl rfl) o1) ?_
  refine z_lload 179 rfl rfl ?_
  refine z_ldc2 180 rfl kX10_339 ?_
  refine z_lcmp 181 rfl ?_
  refine z_if_gt 182 442 rfl (by decide) ⟨fun c2 => ?_, fun c2 => ?_⟩
  · have B := B.1 c2
    refine z_iconst (v := 0) 189 rfl (by decide) ?_
    exact z_iret 190 rfl rfl rfl ⟨rfl, rfl⟩ ⟨_, rfl, B⟩
  · have B := B.2 c2
    refine z_lload 183 rfl rfl ?_
    refine z_ldc2 184 rfl kX10_341 ?_
    refine z_lcmp 185 rfl ?_
    refine z_if_lt 186 442 rfl (by decide) ⟨fun c3 => ?_, fun c3 => ?_⟩
    · have B := B.1 c3
      refine z_iconst (v := 0) 189 rfl (by decide) ?_
      exact z_iret 190 rfl rfl rfl ⟨rfl, rfl⟩ ⟨_, rfl, B⟩
    · have B := B.2 c3
      refine z_iconst (v := 1) 187 rfl (by decide) ?_
      refine z_goto 188 443 rfl (by decide) ?_
      exact z_iret 190 rfl rfl rfl ⟨rfl, rfl⟩ ⟨_, rfl, B⟩
set_option maxRecDepth 100000 in
set_option maxHeartbeats 4000000 in
theorem sg_X10_comesOut_0 {G : zG} {d : Nat} {h : zMem} {Q : Int32 → zMem → Prop} {x1 : Int32} (hS : zSh2 h)  (B : vp_in x1 6 ∧ zg G mX10_comesOut (d + 1) 12 [.ref 132, .int x1, .int (zI (zsI h 132 33 (0 : Int32)) 145 x1.toNatClampNeg)] [] (zsI h 132 33 (0 : Int32)) (zPI Q)) : zg G mX10_comesOut (d + 1) 0 [.ref 132, .int x1, zU] [] h (zPI Q) := by
  refine z_aload_n 0 rfl rfl ?_
  refine z_iconst (v := 0) 1 rfl (by decide) ?_
  refine z_putI 2 rfl lX10_326 ⟨_, _, _, rfl, rfl⟩ rfl rfl rfl (zcl1.o hS 132 9 rfl rfl rfl) ?_
  refine z_aload_n 3 rfl rfl ?_
  refine z_getR 4 rfl lX10_46 rfl (zcl1.o hS 132 9 rfl rfl rfl) (zcl1.r hS 132 14 145 rfl rfl rfl) ?_
  refine z_iload_n 5 rfl rfl ?_
  obtain ⟨o1, B⟩ := B
  refine z_iald 6 rfl (zcl1.o hS 145 100 rfl rfl rfl) (zin (zcl1.l hS 145 6 rfl rfl rfl) o1) ?_
  refine z_istore_n 7 rfl (by decide) rfl ?_
  exact B
theorem cn_X10_comesOut {G : zG} {d : Nat} {h : zMem} {Q : Int32 → zMem → Prop} {x1 : Int32} (B : zg G mX10_comesOut (d + 1) 0 [.ref 132, .int x1, zU] [] h (zPI Q)) : zConI G mX10_comesOut (d + 1) [.ref 132, .int x1] h Q := zcon0 (by decide +kernel) eX10_comesOut (Nat.le_of_ble_eq_true rfl) rfl B
set_option maxRecDepth 100000 in
set_option maxHeartbeats 4000000 in
theorem sg_X10_comesOut_12 {G : zG} {d : Nat} {h : zMem} {Q : Int32 → zMem → Prop} {x1 : Int32} {x2 : Int32} (hS : zSh2 h)  (B : vp_in x1 6 ∧ ((zI h 146 x1.toNatClampNeg) ≤ x2 → Q (1 : Int32) h) ∧ (¬ (zI h 146 x1.toNatClampNeg) ≤ x2 → vp_in x2 128 ∧ (¬ (zI h 147 x2.toNatClampNeg) = (2 : Int32) → (¬ (zI h 147 x2.toNatClampNeg) = 0 → vp_in (zI h 148 x2.toNatClampNeg) 7 ∧ vp_in (zI h 132 33) 64 ∧ zg G mX10_comesOut (d + 1) 12 [.ref 132, .int x1, .int (x2 + 1)] [] (zsI (zsL h 150 (zI h 132 33).toNatClampNeg (zL h 149 (zI h 148 x2.toNatClampNeg).toNatClampNeg)) 132 33 ((zI (zsL h 150 (zI h 132 33).toNatClampNeg (zL h 149 (zI h 148 x2.toNatClampNeg).toNatClampNeg)) 132 33) + (1 : Int32))) (zPI Q)) ∧ ((zI h 147 x2.toNatClampNeg) = 0 → vp_in (zI h 132 33) 64 ∧ zg G mX10_comesOut (d + 1) 12 [.ref 132, .int x1, .int (x2 + 1)] [] (zsI (zsL h 150 (zI h 132 33).toNatClampNeg ((zI h 148 x2.toNatClampNeg).toInt64)) 132 33 ((zI (zsL h 150 (zI h 132 33).toNatClampNeg ((zI h 148 x2.toNatClampNeg).toInt64)) 132 33) + (1 : Int32))) (zPI Q))) ∧ ((zI h 147 x2.toNatClampNeg) = (2 : Int32) → ∃ Q9 : Int32 → zMem → Prop, zConI G mX10_works d [.ref 132, .int (zI h 148 x2.toNatClampNeg)] h Q9 ∧ (∀ v12 h10, Q9 v12 h10 → zSh2 h10 ∧ (¬ v12 = 0 → zg G mX10_comesOut (d + 1) 12 [.ref 132, .int x1, .int (x2 + 1)] [] h10 (zPI Q)) ∧ (v12 = 0 → Q (0 : Int32) h10))))) : zg G mX10_comesOut (d + 1) 12 [.ref 132, .int x1, .int x2] [] h (zPI Q) := by
  refine z_iload_n 8 rfl rfl ?_
  refine z_aload_n 9 rfl rfl ?_
  refine z_getR 10 rfl lX10_49 rfl (zcl1.o hS 132 9 rfl rfl rfl) (zcl1.r hS 132 15 146 rfl rfl rfl) ?_
  refine z_iload_n 11 rfl rfl ?_
  obtain ⟨o1, B⟩ := B
  refine z_iald 12 rfl (zcl1.o hS 146 100 rfl rfl rfl) (zin (zcl1.l hS 146 6 rfl rfl rfl) o1) ?_
  refine z_icmp_ge 13 102 rfl (by decide) ⟨fun c2 => ?_, fun c2 => ?_⟩
  · have B := B.1 c2
    refine z_iconst (v := 1) 60 rfl (by decide) ?_
    exact z_iret 61 rfl rfl rfl ⟨rfl, rfl⟩ ⟨_, rfl, B⟩
  · have B := B.2 c2
    refine z_aload_n 14 rfl rfl ?_
    refine z_getR 15 rfl lX10_52 rfl (zcl1.o hS 132 9 rfl rfl rfl) (zcl1.r hS 132 16 147 rfl rfl rfl) ?_
    refine z_iload_n 16 rfl rfl ?_
    obtain ⟨o3, B⟩ := B
    refine z_iald 17 rfl (zcl1.o hS 147 100 rfl rfl rfl) (zin (zcl1.l hS 147 128 rfl rfl rfl) o3) ?_
    refine z_iconst (v := 2) 18 rfl (by decide) ?_
    refine z_icmp_ne 19 47 rfl (by decide) ⟨fun c4 => ?_, fun c4 => ?_⟩
    · have B := B.1 c4
      refine z_aload_n 29 rfl rfl ?_
      refine z_getR 30 rfl lX10_66 rfl (zcl1.o hS 132 9 rfl rfl rfl) (zcl1.r hS 132 32 150 rfl rfl rfl) ?_
      refine z_aload_n 31 rfl rfl ?_
      refine z_getI 32 rfl lX10_326 rfl (zcl1.o hS 132 9 rfl rfl rfl) ?_
      refine z_aload_n 33 rfl rfl ?_
      refine z_getR 34 rfl lX10_52 rfl (zcl1.o hS 132 9 rfl rfl rfl) (zcl1.r hS 132 16 147 rfl rfl rfl) ?_
      refine z_iload_n 35 rfl rfl ?_
      refine z_iald 36 rfl (zcl1.o hS 147 100 rfl rfl rfl) (zin (zcl1.l hS 147 128 rfl rfl rfl) o3) ?_
      refine z_if_ne 37 74 rfl (by decide) ⟨fun c5 => ?_, fun c5 => ?_⟩
      · have B := B.1 c5
        refine z_aload_n 44 rfl rfl ?_
        refine z_getR 45 rfl lX10_62 rfl (zcl1.o hS 132 9 rfl rfl rfl) (zcl1.r hS 132 31 149 rfl rfl rfl) ?_
        refine z_aload_n 46 rfl rfl ?_
        refine z_getR 47 rfl lX10_55 rfl (zcl1.o hS 132 9 rfl rfl rfl) (zcl1.r hS 132 17 148 rfl rfl rfl) ?_
        refine z_iload_n 48 rfl rfl ?_
        refine z_iald 49 rfl (zcl1.o hS 148 100 rfl rfl rfl) (zin (zcl1.l hS 148 128 rfl rfl rfl) o3) ?_
        obtain ⟨o6, B⟩ := B
        refine z_lald 50 rfl (zcl1.o hS 149 101 rfl rfl rfl) (zin (zcl1.l hS 149 7 rfl rfl rfl) o6) ?_
        obtain ⟨o7, B⟩ := B
        refine z_last 51 rfl (zcl1.o hS 150 101 rfl rfl rfl) (zin (zcl1.l hS 150 64 rfl rfl rfl) o7) ?_
        refine z_aload_n 52 rfl rfl ?_
        refine z_dup 53 rfl rfl ?_
        refine z_getI 54 rfl lX10_326 rfl (zcl1.o hS 132 9 rfl rfl rfl) ?_
        refine z_iconst (v := 1) 55 rfl (by decide) ?_
        refine z_iadd 56 rfl ?_
        refine z_putI 57 rfl lX10_326 ⟨_, _, _, rfl, rfl⟩ rfl rfl rfl (zcl1.o hS 132 9 rfl rfl rfl) ?_
        refine z_iinc (v := 1) 58 rfl rfl (by decide) (by decide) rfl ?_
        refine z_goto 59 12 rfl (by decide) ?_
        exact B
      · have B := B.2 c5
        refine z_aload_n 38 rfl rfl ?_
        refine z_getR 39 rfl lX10_55 rfl (zcl1.o hS 132 9 rfl rfl rfl) (zcl1.r hS 132 17 148 rfl rfl rfl) ?_
        refine z_iload_n 40 rfl rfl ?_
        refine z_iald 41 rfl (zcl1.o hS 148 100 rfl rfl rfl) (zin (zcl1.l hS 148 128 rfl rfl rfl) o3) ?_
        refine z_i2l 42 rfl ?_
        refine z_goto 43 85 rfl (by decide) ?_
        obtain ⟨o8, B⟩ := B
        refine z_last 51 rfl (zcl1.o hS 150 101 rfl rfl rfl) (zin (zcl1.l hS 150 64 rfl rfl rfl) o8) ?_
        refine z_aload_n 52 rfl rfl ?_
        refine z_dup 53 rfl rfl ?_
        refine z_getI 54 rfl lX10_326 rfl (zcl1.o hS 132 9 rfl rfl rfl) ?_
        refine z_iconst (v := 1) 55 rfl (by decide) ?_
        refine z_iadd 56 rfl ?_
        refine z_putI 57 rfl lX10_326 ⟨_, _, _, rfl, rfl⟩ rfl rfl rfl (zcl1.o hS 132 9 rfl rfl rfl) ?_
        refine z_iinc (v := 1) 58 rfl rfl (by decide) (by decide) rfl ?_
        refine z_goto 59 12 rfl (by decide) ?_
        exact B
    · have B := B.2 c4
      refine z_aload_n 20 rfl rfl ?_
      refine z_aload_n 21 rfl rfl ?_
      refine z_getR 22 rfl lX10_55 rfl (zcl1.o hS 132 9 rfl rfl rfl) (zcl1.r hS 132 17 148 rfl rfl rfl) ?_
      refine z_iload_n 23 rfl rfl ?_
      refine z_iald 24 rfl (zcl1.o hS 148 100 rfl rfl rfl) (zin (zcl1.l hS 148 128 rfl rfl rfl) o3) ?_
      obtain ⟨Q9, K11, B⟩ := B
      refine z_cVI1 (ν := mX10_works) 25 rfl rfl fX10_works gX10_343 ⟨_, rfl, rfl⟩ (by decide) (zcl1.o hS 132 9 rfl rfl rfl) (Nat.le_of_ble_eq_true rfl) K11 (fun v12 h10 q => ?_)
      obtain ⟨hSh10, B⟩ := B v12 h10 q
      refine z_if_ne 26 96 rfl (by decide) ⟨fun c13 => ?_, fun c13 => ?_⟩
      · have B := B.1 c13
        refine z_iinc (v := 1) 58 rfl rfl (by decide) (by decide) rfl ?_
        refine z_goto 59 12 rfl (by decide) ?_
        exact B
      · have B := B.2 c13
        refine z_iconst (v := 0) 27 rfl (by decide) ?_
        exact z_iret 28 rfl rfl rfl ⟨rfl, rfl⟩ ⟨_, rfl, B⟩
set_option maxRecDepth 100000 in
set_option maxHeartbeats 4000000 in
theorem sg_X10_hasLaw_0 {G : zG} {d : Nat} {h : zMem} {Q : Int32 → zMem → Prop} {x1 : Int32} (hS : zSh2 h)  (B : vp_in x1 6 ∧ ((zI h 146 x1.toNatClampNeg) ≤ (zI h 145 x1.toNatClampNeg) → Q (0 : Int32) h) ∧ (¬ (zI h 146 x1.toNatClampNeg) ≤ (zI h 145 x1.toNatClampNeg) → Q (1 : Int32) h)) : zg G mX10_hasLaw d 0 [.ref 132, .int x1] [] h (zPI Q) := by
  refine z_aload_n 0 rfl rfl ?_
  refine z_getR 1 rfl lX10_49 rfl (zcl1.o hS 132 9 rfl rfl rfl) (zcl1.r hS 132 15 146 rfl rfl rfl) ?_
  refine z_iload_n 2 rfl rfl ?_
  obtain ⟨o1, B⟩ := B
  refine z_iald 3 rfl (zcl1.o hS 146 100 rfl rfl rfl) (zin (zcl1.l hS 146 6 rfl rfl rfl) o1) ?_
  refine z_aload_n 4 rfl rfl ?_
  refine z_getR 5 rfl lX10_46 rfl (zcl1.o hS 132 9 rfl rfl rfl) (zcl1.r hS 132 14 145 rfl rfl rfl) ?_
  refine z_iload_n 6 rfl rfl ?_
  refine z_iald 7 rfl (zcl1.o hS 145 100 rfl rfl rfl) (zin (zcl1.l hS 145 6 rfl rfl rfl) o1) ?_
  refine z_icmp_le 8 19 rfl (by decide) ⟨fun c2 => ?_, fun c2 => ?_⟩
  · have B := B.1 c2
    refine z_iconst (v := 0) 11 rfl (by decide) ?_
    exact z_iret 12 rfl rfl rfl ⟨rfl, rfl⟩ ⟨_, rfl, B⟩
  · have B := B.2 c2
    refine z_iconst (v := 1) 9 rfl (by decide) ?_
    refine z_goto 10 20 rfl (by decide) ?_
    exact z_iret 12 rfl rfl rfl ⟨rfl, rfl⟩ ⟨_, rfl, B⟩
theorem cn_X10_hasLaw {G : zG} {d : Nat} {h : zMem} {Q : Int32 → zMem → Prop} {x1 : Int32} (B : zg G mX10_hasLaw d 0 [.ref 132, .int x1] [] h (zPI Q)) : zConI G mX10_hasLaw d [.ref 132, .int x1] h Q := zcon0 (by decide +kernel) eX10_hasLaw (Nat.le_of_ble_eq_true rfl) rfl B
set_option maxRecDepth 100000 in
set_option maxHeartbeats 4000000 in
theorem sg_X10_starts_0 {G : zG} {d : Nat} {h : zMem} {Q : zMem → Prop} {x1 : Int32} (hS : zSh2 h)  (B : vp_in x1 23 ∧ zg G mX10_starts d 43 [.ref 132, .int x1, .int (0 : Int32), zU] [] (zsI (zsI (zsI (zsI (zsI h 151 x1.toNatClampNeg (0 : Int32)) 152 x1.toNatClampNeg (-1 : Int32)) 153 x1.toNatClampNeg (0 : Int32)) 154 x1.toNatClampNeg (0 : Int32)) 155 x1.toNatClampNeg (zI (zsI (zsI (zsI (zsI h 151 x1.toNatClampNeg (0 : Int32)) 152 x1.toNatClampNeg (-1 : Int32)) 153 x1.toNatClampNeg (0 : Int32)) 154 x1.toNatClampNeg (0 : Int32)) 134 6)) (zPV Q)) : zg G mX10_starts d 0 [.ref 132, .int x1, zU, zU] [] h (zPV Q) := by
  refine z_aload_n 0 rfl rfl ?_
  refine z_getR 1 rfl lX10_69 rfl (zcl1.o hS 132 9 rfl rfl rfl) (zcl1.r hS 132 34 151 rfl rfl rfl) ?_
  refine z_iload_n 2 rfl rfl ?_
  refine z_iconst (v := 0) 3 rfl (by decide) ?_
  obtain ⟨o1, B⟩ := B
  refine z_iast 4 rfl (zcl1.o hS 151 100 rfl rfl rfl) (zin (zcl1.l hS 151 23 rfl rfl rfl) o1) ?_
  refine z_aload_n 5 rfl rfl ?_
  refine z_getR 6 rfl lX10_72 rfl (zcl1.o hS 132 9 rfl rfl rfl) (zcl1.r hS 132 35 152 rfl rfl rfl) ?_
  refine z_iload_n 7 rfl rfl ?_
  refine z_iconst (v := -1) 8 rfl (by decide) ?_
  refine z_iast 9 rfl (zcl1.o hS 152 100 rfl rfl rfl) (zin (zcl1.l hS 152 23 rfl rfl rfl) o1) ?_
  refine z_aload_n 10 rfl rfl ?_
  refine z_getR 11 rfl lX10_75 rfl (zcl1.o hS 132 9 rfl rfl rfl) (zcl1.r hS 132 36 153 rfl rfl rfl) ?_
  refine z_iload_n 12 rfl rfl ?_
  refine z_iconst (v := 0) 13 rfl (by decide) ?_
  refine z_iast 14 rfl (zcl1.o hS 153 100 rfl rfl rfl) (zin (zcl1.l hS 153 23 rfl rfl rfl) o1) ?_
  refine z_aload_n 15 rfl rfl ?_
  refine z_getR 16 rfl lX10_78 rfl (zcl1.o hS 132 9 rfl rfl rfl) (zcl1.r hS 132 37 154 rfl rfl rfl) ?_
  refine z_iload_n 17 rfl rfl ?_
  refine z_iconst (v := 0) 18 rfl (by decide) ?_
  refine z_iast 19 rfl (zcl1.o hS 154 100 rfl rfl rfl) (zin (zcl1.l hS 154 23 rfl rfl rfl) o1) ?_
  refine z_aload_n 20 rfl rfl ?_
  refine z_getR 21 rfl lX10_81 rfl (zcl1.o hS 132 9 rfl rfl rfl) (zcl1.r hS 132 38 155 rfl rfl rfl) ?_
  refine z_iload_n 22 rfl rfl ?_
  refine z_aload_n 23 rfl rfl ?_
  refine z_getR 24 rfl lX10_13 rfl (zcl1.o hS 132 9 rfl rfl rfl) (zcl1.r hS 132 3 134 rfl rfl rfl) ?_
  refine z_bipush (v := 6) 25 rfl (by decide) ?_
  refine z_iald_c 26 6 rfl (by decide) (zcl1.o hS 134 100 rfl rfl rfl) (zin (zcl1.l hS 134 16 rfl rfl rfl) (zvp (by decide))) ?_
  refine z_iast 27 rfl (zcl1.o hS 155 100 rfl rfl rfl) (zin (zcl1.l hS 155 23 rfl rfl rfl) o1) ?_
  refine z_iconst (v := 0) 28 rfl (by decide) ?_
  refine z_istore_n 29 rfl (by decide) rfl ?_
  exact B
theorem cn_X10_starts {G : zG} {d : Nat} {h : zMem} {Q : zMem → Prop} {x1 : Int32} (B : zg G mX10_starts d 0 [.ref 132, .int x1, zU, zU] [] h (zPV Q)) : zConV G mX10_starts d [.ref 132, .int x1] h Q := zcon0 (by decide +kernel) eX10_starts (Nat.le_of_ble_eq_true rfl) rfl B
set_option maxRecDepth 100000 in
set_option maxHeartbeats 4000000 in
theorem sg_X10_starts_43 {G : zG} {d : Nat} {h : zMem} {Q : zMem → Prop} {x1 : Int32} {x2 : Int32} (hS : zSh2 h)  (B : ((6 : Int32) ≤ x2 → zg G mX10_starts d 131 [.ref 132, .int x1, .int (0 : Int32), zU] [] h (zPV Q)) ∧ (¬ (6 : Int32) ≤ x2 → ((zI h 134 0) ≤ x2 → vp_in (((6 : Int32) * x1) + x2) 138 ∧ zg G mX10_starts d 94 [.ref 132, .int x1, .int x2, .int (0 : Int32)] [] (zsI (zsI h 156 (((6 : Int32) * x1) + x2).toNatClampNeg (0 : Int32)) 157 (((6 : Int32) * x1) + x2).toNatClampNeg (0 : Int32)) (zPV Q)) ∧ (¬ (zI h 134 0) ≤ x2 → vp_in x2 12 ∧ vp_in (((6 : Int32) * x1) + x2) 138 ∧ zg G mX10_starts d 94 [.ref 132, .int x1, .int x2, .int (0 : Int32)] [] (zsI (zsI h 156 (((6 : Int32) * x1) + x2).toNatClampNeg (zI h 136 x2.toNatClampNeg)) 157 (((6 : Int32) * x1) + x2).toNatClampNeg (0 : Int32)) (zPV Q)))) : zg G mX10_starts d 43 [.ref 132, .int x1, .int x2, zU] [] h (zPV Q) := by
  refine z_iload_n 30 rfl rfl ?_
  refine z_bipush (v := 6) 31 rfl (by decide) ?_
  refine z_icmp_ge 32 129 rfl (by decide) ⟨fun c1 => ?_, fun c1 => ?_⟩
  · have B := B.1 c1
    refine z_iconst (v := 0) 84 rfl (by decide) ?_
    refine z_istore_n 85 rfl (by decide) rfl ?_
    exact B
  · have B := B.2 c1
    refine z_aload_n 33 rfl rfl ?_
    refine z_getR 34 rfl lX10_84 rfl (zcl1.o hS 132 9 rfl rfl rfl) (zcl1.r hS 132 39 156 rfl rfl rfl) ?_
    refine z_bipush (v := 6) 35 rfl (by decide) ?_
    refine z_iload_n 36 rfl rfl ?_
    refine z_imul 37 rfl ?_
    refine z_iload_n 38 rfl rfl ?_
    refine z_iadd 39 rfl ?_
    refine z_iload_n 40 rfl rfl ?_
    refine z_aload_n 41 rfl rfl ?_
    refine z_getR 42 rfl lX10_13 rfl (zcl1.o hS 132 9 rfl rfl rfl) (zcl1.r hS 132 3 134 rfl rfl rfl) ?_
    refine z_iconst (v := 0) 43 rfl (by decide) ?_
    refine z_iald_c 44 0 rfl (by decide) (zcl1.o hS 134 100 rfl rfl rfl) (zin (zcl1.l hS 134 16 rfl rfl rfl) (zvp (by decide))) ?_
    refine z_icmp_ge 45 78 rfl (by decide) ⟨fun c2 => ?_, fun c2 => ?_⟩
    · have B := B.1 c2
      refine z_iconst (v := 0) 51 rfl (by decide) ?_
      obtain ⟨o3, B⟩ := B
      refine z_iast 52 rfl (zcl1.o hS 156 100 rfl rfl rfl) (zin (zcl1.l hS 156 138 rfl rfl rfl) o3) ?_
      refine z_aload_n 53 rfl rfl ?_
      refine z_getR 54 rfl lX10_87 rfl (zcl1.o hS 132 9 rfl rfl rfl) (zcl1.r hS 132 40 157 rfl rfl rfl) ?_
      refine z_bipush (v := 6) 55 rfl (by decide) ?_
      refine z_iload_n 56 rfl rfl ?_
      refine z_imul 57 rfl ?_
      refine z_iload_n 58 rfl rfl ?_
      refine z_iadd 59 rfl ?_
      refine z_iconst (v := 0) 60 rfl (by decide) ?_
      refine z_iast 61 rfl (zcl1.o hS 157 100 rfl rfl rfl) (zin (zcl1.l hS 157 138 rfl rfl rfl) o3) ?_
      refine z_iconst (v := 0) 62 rfl (by decide) ?_
      refine z_istore_n 63 rfl (by decide) rfl ?_
      exact B
    · have B := B.2 c2
      refine z_aload_n 46 rfl rfl ?_
      refine z_getR 47 rfl lX10_19 rfl (zcl1.o hS 132 9 rfl rfl rfl) (zcl1.r hS 132 5 136 rfl rfl rfl) ?_
      refine z_iload_n 48 rfl rfl ?_
      obtain ⟨o4, B⟩ := B
      refine z_iald 49 rfl (zcl1.o hS 136 100 rfl rfl rfl) (zin (zcl1.l hS 136 12 rfl rfl rfl) o4) ?_
      refine z_goto 50 79 rfl (by decide) ?_
      obtain ⟨o5, B⟩ := B
      refine z_iast 52 rfl (zcl1.o hS 156 100 rfl rfl rfl) (zin (zcl1.l hS 156 138 rfl rfl rfl) o5) ?_
      refine z_aload_n 53 rfl rfl ?_
      refine z_getR 54 rfl lX10_87 rfl (zcl1.o hS 132 9 rfl rfl rfl) (zcl1.r hS 132 40 157 rfl rfl rfl) ?_
      refine z_bipush (v := 6) 55 rfl (by decide) ?_
      refine z_iload_n 56 rfl rfl ?_
      refine z_imul 57 rfl ?_
      refine z_iload_n 58 rfl rfl ?_
      refine z_iadd 59 rfl ?_
      refine z_iconst (v := 0) 60 rfl (by decide) ?_
      refine z_iast 61 rfl (zcl1.o hS 157 100 rfl rfl rfl) (zin (zcl1.l hS 157 138 rfl rfl rfl) o5) ?_
      refine z_iconst (v := 0) 62 rfl (by decide) ?_
      refine z_istore_n 63 rfl (by decide) rfl ?_
      exact B
set_option maxRecDepth 100000 in
set_option maxHeartbeats 4000000 in
theorem sg_X10_starts_94 {G : zG} {d : Nat} {h : zMem} {Q : zMem → Prop} {x1 : Int32} {x2 : Int32} {x3 : Int32} (hS : zSh2 h)  (B : ((6 : Int32) ≤ x3 → zg G mX10_starts d 43 [.ref 132, .int x1, .int (x2 + 1), zU] [] h (zPV Q)) ∧ (¬ (6 : Int32) ≤ x3 → vp_in ((((36 : Int32) * x1) + ((6 : Int32) * x3)) + x2) 828 ∧ zg G mX10_starts d 94 [.ref 132, .int x1, .int x2, .int (x3 + 1)] [] (zsI h 158 ((((36 : Int32) * x1) + ((6 : Int32) * x3)) + x2).toNatClampNeg (0 : Int32)) (zPV Q))) : zg G mX10_starts d 94 [.ref 132, .int x1, .int x2, .int x3] [] h (zPV Q) := by
  refine z_iload_n 64 rfl rfl ?_
  refine z_bipush (v := 6) 65 rfl (by decide) ?_
  refine z_icmp_ge 66 123 rfl (by decide) ⟨fun c1 => ?_, fun c1 => ?_⟩
  · have B := B.1 c1
    refine z_iinc (v := 1) 82 rfl rfl (by decide) (by decide) rfl ?_
    refine z_goto 83 43 rfl (by decide) ?_
    refine z_drop 3 ?_
    exact B
  · have B := B.2 c1
    refine z_aload_n 67 rfl rfl ?_
    refine z_getR 68 rfl lX10_90 rfl (zcl1.o hS 132 9 rfl rfl rfl) (zcl1.r hS 132 41 158 rfl rfl rfl) ?_
    refine z_bipush (v := 36) 69 rfl (by decide) ?_
    refine z_iload_n 70 rfl rfl ?_
    refine z_imul 71 rfl ?_
    refine z_bipush (v := 6) 72 rfl (by decide) ?_
    refine z_iload_n 73 rfl rfl ?_
    refine z_imul 74 rfl ?_
    refine z_iadd 75 rfl ?_
    refine z_iload_n 76 rfl rfl ?_
    refine z_iadd 77 rfl ?_
    refine z_iconst (v := 0) 78 rfl (by decide) ?_
    obtain ⟨o2, B⟩ := B
    refine z_iast 79 rfl (zcl1.o hS 158 100 rfl rfl rfl) (zin (zcl1.l hS 158 828 rfl rfl rfl) o2) ?_
    refine z_iinc (v := 1) 80 rfl rfl (by decide) (by decide) rfl ?_
    refine z_goto 81 94 rfl (by decide) ?_
    exact B
set_option maxRecDepth 100000 in
set_option maxHeartbeats 4000000 in
theorem sg_X10_starts_131 {G : zG} {d : Nat} {h : zMem} {Q : zMem → Prop} {x1 : Int32} {x2 : Int32} (hS : zSh2 h)  (B : ((zI h 134 4) ≤ x2 → Q h) ∧ (¬ (zI h 134 4) ≤ x2 → vp_in x2 10 ∧ vp_in (((5 : Int32) * x1) + x2) 115 ∧ zg G mX10_starts d 131 [.ref 132, .int x1, .int (x2 + 1), zU] [] (zsI (zsI (zsI (zsI h 159 (((5 : Int32) * x1) + x2).toNatClampNeg (zI h 143 x2.toNatClampNeg)) 160 (((5 : Int32) * x1) + x2).toNatClampNeg (0 : Int32)) 161 (((5 : Int32) * x1) + x2).toNatClampNeg (0 : Int32)) 162 (((5 : Int32) * x1) + x2).toNatClampNeg ((zI (zsI (zsI (zsI h 159 (((5 : Int32) * x1) + x2).toNatClampNeg (zI h 143 x2.toNatClampNeg)) 160 (((5 : Int32) * x1) + x2).toNatClampNeg (0 : Int32)) 161 (((5 : Int32) * x1) + x2).toNatClampNeg (0 : Int32)) 134 1) - (1 : Int32))) (zPV Q))) : zg G mX10_starts d 131 [.ref 132, .int x1, .int x2, zU] [] h (zPV Q) := by
  refine z_iload_n 86 rfl rfl ?_
  refine z_aload_n 87 rfl rfl ?_
  refine z_getR 88 rfl lX10_13 rfl (zcl1.o hS 132 9 rfl rfl rfl) (zcl1.r hS 132 3 134 rfl rfl rfl) ?_
  refine z_iconst (v := 4) 89 rfl (by decide) ?_
  refine z_iald_c 90 4 rfl (by decide) (zcl1.o hS 134 100 rfl rfl rfl) (zin (zcl1.l hS 134 16 rfl rfl rfl) (zvp (by decide))) ?_
  refine z_icmp_ge 91 203 rfl (by decide) ⟨fun c1 => ?_, fun c1 => ?_⟩
  · have B := B.1 c1
    exact z_vret 138 rfl rfl ⟨rfl, rfl⟩ ⟨rfl, B⟩
  · have B := B.2 c1
    refine z_aload_n 92 rfl rfl ?_
    refine z_getR 93 rfl lX10_93 rfl (zcl1.o hS 132 9 rfl rfl rfl) (zcl1.r hS 132 42 159 rfl rfl rfl) ?_
    refine z_iconst (v := 5) 94 rfl (by decide) ?_
    refine z_iload_n 95 rfl rfl ?_
    refine z_imul 96 rfl ?_
    refine z_iload_n 97 rfl rfl ?_
    refine z_iadd 98 rfl ?_
    refine z_aload_n 99 rfl rfl ?_
    refine z_getR 100 rfl lX10_40 rfl (zcl1.o hS 132 9 rfl rfl rfl) (zcl1.r hS 132 12 143 rfl rfl rfl) ?_
    refine z_iload_n 101 rfl rfl ?_
    obtain ⟨o2, B⟩ := B
    refine z_iald 102 rfl (zcl1.o hS 143 100 rfl rfl rfl) (zin (zcl1.l hS 143 10 rfl rfl rfl) o2) ?_
    obtain ⟨o3, B⟩ := B
    refine z_iast 103 rfl (zcl1.o hS 159 100 rfl rfl rfl) (zin (zcl1.l hS 159 115 rfl rfl rfl) o3) ?_
    refine z_aload_n 104 rfl rfl ?_
    refine z_getR 105 rfl lX10_96 rfl (zcl1.o hS 132 9 rfl rfl rfl) (zcl1.r hS 132 43 160 rfl rfl rfl) ?_
    refine z_iconst (v := 5) 106 rfl (by decide) ?_
    refine z_iload_n 107 rfl rfl ?_
    refine z_imul 108 rfl ?_
    refine z_iload_n 109 rfl rfl ?_
    refine z_iadd 110 rfl ?_
    refine z_iconst (v := 0) 111 rfl (by decide) ?_
    refine z_iast 112 rfl (zcl1.o hS 160 100 rfl rfl rfl) (zin (zcl1.l hS 160 115 rfl rfl rfl) o3) ?_
    refine z_aload_n 113 rfl rfl ?_
    refine z_getR 114 rfl lX10_99 rfl (zcl1.o hS 132 9 rfl rfl rfl) (zcl1.r hS 132 44 161 rfl rfl rfl) ?_
    refine z_iconst (v := 5) 115 rfl (by decide) ?_
    refine z_iload_n 116 rfl rfl ?_
    refine z_imul 117 rfl ?_
    refine z_iload_n 118 rfl rfl ?_
    refine z_iadd 119 rfl ?_
    refine z_iconst (v := 0) 120 rfl (by decide) ?_
    refine z_iast 121 rfl (zcl1.o hS 161 100 rfl rfl rfl) (zin (zcl1.l hS 161 115 rfl rfl rfl) o3) ?_
    refine z_aload_n 122 rfl rfl ?_
    refine z_getR 123 rfl lX10_102 rfl (zcl1.o hS 132 9 rfl rfl rfl) (zcl1.r hS 132 45 162 rfl rfl rfl) ?_
    refine z_iconst (v := 5) 124 rfl (by decide) ?_
    refine z_iload_n 125 rfl rfl ?_
    refine z_imul 126 rfl ?_
    refine z_iload_n 127 rfl rfl ?_
    refine z_iadd 128 rfl ?_
    refine z_aload_n 129 rfl rfl ?_
    refine z_getR 130 rfl lX10_13 rfl (zcl1.o hS 132 9 rfl rfl rfl) (zcl1.r hS 132 3 134 rfl rfl rfl) ?_
    refine z_iconst (v := 1) 131 rfl (by decide) ?_
    refine z_iald_c 132 1 rfl (by decide) (zcl1.o hS 134 100 rfl rfl rfl) (zin (zcl1.l hS 134 16 rfl rfl rfl) (zvp (by decide))) ?_
    refine z_iconst (v := 1) 133 rfl (by decide) ?_
    refine z_isub 134 rfl ?_
    refine z_iast 135 rfl (zcl1.o hS 162 100 rfl rfl rfl) (zin (zcl1.l hS 162 115 rfl rfl rfl) o3) ?_
    refine z_iinc (v := 1) 136 rfl rfl (by decide) (by decide) rfl ?_
    refine z_goto 137 131 rfl (by decide) ?_
    exact B
set_option maxRecDepth 100000 in
set_option maxHeartbeats 4000000 in
theorem sg_X10_begins_0 {G : zG} {d : Nat} {h : zMem} {Q : zMem → Prop}  (hS : zSh2 h)  (B : ∃ Q1 : zMem → Prop, zConV G mX10_starts d [.ref 132, .int (0 : Int32)] h Q1 ∧ (∀ h2, Q1 h2 → zSh2 h2 ∧ Q h2)) : zg G mX10_begins (d + 1) 0 [.ref 132] [] h (zPV Q) := by
  refine z_aload_n 0 rfl rfl ?_
  refine z_iconst (v := 0) 1 rfl (by decide) ?_
  obtain ⟨Q1, K3, B⟩ := B
  refine z_cVV1 (ν := mX10_starts) 2 rfl rfl fX10_starts gX10_346 ⟨_, rfl, rfl⟩ (by decide) (zcl1.o hS 132 9 rfl rfl rfl) (Nat.le_of_ble_eq_true rfl) K3 (fun h2 q => ?_)
  obtain ⟨hSh2, B⟩ := B h2 q
  exact z_vret 3 rfl rfl ⟨rfl, rfl⟩ ⟨rfl, B⟩
theorem cn_X10_begins {G : zG} {d : Nat} {h : zMem} {Q : zMem → Prop}  (B : zg G mX10_begins (d + 1) 0 [.ref 132] [] h (zPV Q)) : zConV G mX10_begins (d + 1) [.ref 132] h Q := zcon0 (by decide +kernel) eX10_begins (Nat.le_of_ble_eq_true rfl) rfl B
set_option maxRecDepth 100000 in
set_option maxHeartbeats 4000000 in
theorem sg_X10_copies_0 {G : zG} {d : Nat} {h : zMem} {Q : zMem → Prop} {x1 : Int32} {x2 : Int32} (hS : zSh2 h)  (B : vp_in x2 23 ∧ vp_in x1 23 ∧ zg G mX10_copies d 62 [.ref 132, .int x1, .int x2, .int (0 : Int32)] [] (zsI (zsI (zsI (zsI (zsI h 151 x1.toNatClampNeg (zI h 151 x2.toNatClampNeg)) 152 x1.toNatClampNeg (zI (zsI h 151 x1.toNatClampNeg (zI h 151 x2.toNatClampNeg)) 152 x2.toNatClampNeg)) 153 x1.toNatClampNeg (zI (zsI (zsI h 151 x1.toNatClampNeg (zI h 151 x2.toNatClampNeg)) 152 x1.toNatClampNeg (zI (zsI h 151 x1.toNatClampNeg (zI h 151 x2.toNatClampNeg)) 152 x2.toNatClampNeg)) 153 x2.toNatClampNeg)) 154 x1.toNatClampNeg (zI (zsI (zsI (zsI h 151 x1.toNatClampNeg (zI h 151 x2.toNatClampNeg)) 152 x1.toNatClampNeg (zI (zsI h 151 x1.toNatClampNeg (zI h 151 x2.toNatClampNeg)) 152 x2.toNatClampNeg)) 153 x1.toNatClampNeg (zI (zsI (zsI h 151 x1.toNatClampNeg (zI h 151 x2.toNatClampNeg)) 152 x1.toNatClampNeg (zI (zsI h 151 x1.toNatClampNeg (zI h 151 x2.toNatClampNeg)) 152 x2.toNatClampNeg)) 153 x2.toNatClampNeg)) 154 x2.toNatClampNeg)) 155 x1.toNatClampNeg (zI (zsI (zsI (zsI (zsI h 151 x1.toNatClampNeg (zI h 151 x2.toNatClampNeg)) 152 x1.toNatClampNeg (zI (zsI h 151 x1.toNatClampNeg (zI h 151 x2.toNatClampNeg)) 152 x2.toNatClampNeg)) 153 x1.toNatClampNeg (zI (zsI (zsI h 151 x1.toNatClampNeg (zI h 151 x2.toNatClampNeg)) 152 x1.toNatClampNeg (zI (zsI h 151 x1.toNatClampNeg (zI h 151 x2.toNatClampNeg)) 152 x2.toNatClampNeg)) 153 x2.toNatClampNeg)) 154 x1.toNatClampNeg (zI (zsI (zsI (zsI h 151 x1.toNatClampNeg (zI h 151 x2.toNatClampNeg)) 152 x1.toNatClampNeg (zI (zsI h 151 x1.toNatClampNeg (zI h 151 x2.toNatClampNeg)) 152 x2.toNatClampNeg)) 153 x1.toNatClampNeg (zI (zsI (zsI h 151 x1.toNatClampNeg (zI h 151 x2.toNatClampNeg)) 152 x1.toNatClampNeg (zI (zsI h 151 x1.toNatClampNeg (zI h 151 x2.toNatClampNeg)) 152 x2.toNatClampNeg)) 153 x2.toNatClampNeg)) 154 x2.toNatClampNeg)) 155 x2.toNatClampNeg)) (zPV Q)) : zg G mX10_copies d 0 [.ref 132, .int x1, .int x2, zU] [] h (zPV Q) := by
  refine z_aload_n 0 rfl rfl ?_
  refine z_getR 1 rfl lX10_69 rfl (zcl1.o hS 132 9 rfl rfl rfl) (zcl1.r hS 132 34 151 rfl rfl rfl) ?_
  refine z_iload_n 2 rfl rfl ?_
  refine z_aload_n 3 rfl rfl ?_
  refine z_getR 4 rfl lX10_69 rfl (zcl1.o hS 132 9 rfl rfl rfl) (zcl1.r hS 132 34 151 rfl rfl rfl) ?_
  refine z_iload_n 5 rfl rfl ?_
  obtain ⟨o1, B⟩ := B
  refine z_iald 6 rfl (zcl1.o hS 151 100 rfl rfl rfl) (zin (zcl1.l hS 151 23 rfl rfl rfl) o1) ?_
  obtain ⟨o2, B⟩ := B
  refine z_iast 7 rfl (zcl1.o hS 151 100 rfl rfl rfl) (zin (zcl1.l hS 151 23 rfl rfl rfl) o2) ?_
  refine z_aload_n 8 rfl rfl ?_
  refine z_getR 9 rfl lX10_72 rfl (zcl1.o hS 132 9 rfl rfl rfl) (zcl1.r hS 132 35 152 rfl rfl rfl) ?_
  refine z_iload_n 10 rfl rfl ?_
  refine z_aload_n 11 rfl rfl ?_
  refine z_getR 12 rfl lX10_72 rfl (zcl1.o hS 132 9 rfl rfl rfl) (zcl1.r hS 132 35 152 rfl rfl rfl) ?_
  refine z_iload_n 13 rfl rfl ?_
  refine z_iald 14 rfl (zcl1.o hS 152 100 rfl rfl rfl) (zin (zcl1.l hS 152 23 rfl rfl rfl) o1) ?_
  refine z_iast 15 rfl (zcl1.o hS 152 100 rfl rfl rfl) (zin (zcl1.l hS 152 23 rfl rfl rfl) o2) ?_
  refine z_aload_n 16 rfl rfl ?_
  refine z_getR 17 rfl lX10_75 rfl (zcl1.o hS 132 9 rfl rfl rfl) (zcl1.r hS 132 36 153 rfl rfl rfl) ?_
  refine z_iload_n 18 rfl rfl ?_
  refine z_aload_n 19 rfl rfl ?_
  refine z_getR 20 rfl lX10_75 rfl (zcl1.o hS 132 9 rfl rfl rfl) (zcl1.r hS 132 36 153 rfl rfl rfl) ?_
  refine z_iload_n 21 rfl rfl ?_
  refine z_iald 22 rfl (zcl1.o hS 153 100 rfl rfl rfl) (zin (zcl1.l hS 153 23 rfl rfl rfl) o1) ?_
  refine z_iast 23 rfl (zcl1.o hS 153 100 rfl rfl rfl) (zin (zcl1.l hS 153 23 rfl rfl rfl) o2) ?_
  refine z_aload_n 24 rfl rfl ?_
  refine z_getR 25 rfl lX10_78 rfl (zcl1.o hS 132 9 rfl rfl rfl) (zcl1.r hS 132 37 154 rfl rfl rfl) ?_
  refine z_iload_n 26 rfl rfl ?_
  refine z_aload_n 27 rfl rfl ?_
  refine z_getR 28 rfl lX10_78 rfl (zcl1.o hS 132 9 rfl rfl rfl) (zcl1.r hS 132 37 154 rfl rfl rfl) ?_
  refine z_iload_n 29 rfl rfl ?_
  refine z_iald 30 rfl (zcl1.o hS 154 100 rfl rfl rfl) (zin (zcl1.l hS 154 23 rfl rfl rfl) o1) ?_
  refine z_iast 31 rfl (zcl1.o hS 154 100 rfl rfl rfl) (zin (zcl1.l hS 154 23 rfl rfl rfl) o2) ?_
  refine z_aload_n 32 rfl rfl ?_
  refine z_getR 33 rfl lX10_81 rfl (zcl1.o hS 132 9 rfl rfl rfl) (zcl1.r hS 132 38 155 rfl rfl rfl) ?_
  refine z_iload_n 34 rfl rfl ?_
  refine z_aload_n 35 rfl rfl ?_
  refine z_getR 36 rfl lX10_81 rfl (zcl1.o hS 132 9 rfl rfl rfl) (zcl1.r hS 132 38 155 rfl rfl rfl) ?_
  refine z_iload_n 37 rfl rfl ?_
  refine z_iald 38 rfl (zcl1.o hS 155 100 rfl rfl rfl) (zin (zcl1.l hS 155 23 rfl rfl rfl) o1) ?_
  refine z_iast 39 rfl (zcl1.o hS 155 100 rfl rfl rfl) (zin (zcl1.l hS 155 23 rfl rfl rfl) o2) ?_
  refine z_iconst (v := 0) 40 rfl (by decide) ?_
  refine z_istore_n 41 rfl (by decide) rfl ?_
  exact B
theorem cn_X10_copies {G : zG} {d : Nat} {h : zMem} {Q : zMem → Prop} {x1 : Int32} {x2 : Int32} (B : zg G mX10_copies d 0 [.ref 132, .int x1, .int x2, zU] [] h (zPV Q)) : zConV G mX10_copies d [.ref 132, .int x1, .int x2] h Q := zcon0 (by decide +kernel) eX10_copies (Nat.le_of_ble_eq_true rfl) rfl B
set_option maxRecDepth 100000 in
set_option maxHeartbeats 4000000 in
theorem sg_X10_copies_62 {G : zG} {d : Nat} {h : zMem} {Q : zMem → Prop} {x1 : Int32} {x2 : Int32} {x3 : Int32} (hS : zSh2 h)  (B : ((6 : Int32) ≤ x3 → zg G mX10_copies d 120 [.ref 132, .int x1, .int x2, .int (0 : Int32)] [] h (zPV Q)) ∧ (¬ (6 : Int32) ≤ x3 → vp_in (((6 : Int32) * x2) + x3) 138 ∧ vp_in (((6 : Int32) * x1) + x3) 138 ∧ zg G mX10_copies d 62 [.ref 132, .int x1, .int x2, .int (x3 + 1)] [] (zsI (zsI h 156 (((6 : Int32) * x1) + x3).toNatClampNeg (zI h 156 (((6 : Int32) * x2) + x3).toNatClampNeg)) 157 (((6 : Int32) * x1) + x3).toNatClampNeg (zI (zsI h 156 (((6 : Int32) * x1) + x3).toNatClampNeg (zI h 156 (((6 : Int32) * x2) + x3).toNatClampNeg)) 157 (((6 : Int32) * x2) + x3).toNatClampNeg)) (zPV Q))) : zg G mX10_copies d 62 [.ref 132, .int x1, .int x2, .int x3] [] h (zPV Q) := by
  refine z_iload_n 42 rfl rfl ?_
  refine z_bipush (v := 6) 43 rfl (by decide) ?_
  refine z_icmp_ge 44 118 rfl (by decide) ⟨fun c1 => ?_, fun c1 => ?_⟩
  · have B := B.1 c1
    refine z_iconst (v := 0) 79 rfl (by decide) ?_
    refine z_istore_n 80 rfl (by decide) rfl ?_
    exact B
  · have B := B.2 c1
    refine z_aload_n 45 rfl rfl ?_
    refine z_getR 46 rfl lX10_84 rfl (zcl1.o hS 132 9 rfl rfl rfl) (zcl1.r hS 132 39 156 rfl rfl rfl) ?_
    refine z_bipush (v := 6) 47 rfl (by decide) ?_
    refine z_iload_n 48 rfl rfl ?_
    refine z_imul 49 rfl ?_
    refine z_iload_n 50 rfl rfl ?_
    refine z_iadd 51 rfl ?_
    refine z_aload_n 52 rfl rfl ?_
    refine z_getR 53 rfl lX10_84 rfl (zcl1.o hS 132 9 rfl rfl rfl) (zcl1.r hS 132 39 156 rfl rfl rfl) ?_
    refine z_bipush (v := 6) 54 rfl (by decide) ?_
    refine z_iload_n 55 rfl rfl ?_
    refine z_imul 56 rfl ?_
    refine z_iload_n 57 rfl rfl ?_
    refine z_iadd 58 rfl ?_
    obtain ⟨o2, B⟩ := B
    refine z_iald 59 rfl (zcl1.o hS 156 100 rfl rfl rfl) (zin (zcl1.l hS 156 138 rfl rfl rfl) o2) ?_
    obtain ⟨o3, B⟩ := B
    refine z_iast 60 rfl (zcl1.o hS 156 100 rfl rfl rfl) (zin (zcl1.l hS 156 138 rfl rfl rfl) o3) ?_
    refine z_aload_n 61 rfl rfl ?_
    refine z_getR 62 rfl lX10_87 rfl (zcl1.o hS 132 9 rfl rfl rfl) (zcl1.r hS 132 40 157 rfl rfl rfl) ?_
    refine z_bipush (v := 6) 63 rfl (by decide) ?_
    refine z_iload_n 64 rfl rfl ?_
    refine z_imul 65 rfl ?_
    refine z_iload_n 66 rfl rfl ?_
    refine z_iadd 67 rfl ?_
    refine z_aload_n 68 rfl rfl ?_
    refine z_getR 69 rfl lX10_87 rfl (zcl1.o hS 132 9 rfl rfl rfl) (zcl1.r hS 132 40 157 rfl rfl rfl) ?_
    refine z_bipush (v := 6) 70 rfl (by decide) ?_
    refine z_iload_n 71 rfl rfl ?_
    refine z_imul 72 rfl ?_
    refine z_iload_n 73 rfl rfl ?_
    refine z_iadd 74 rfl ?_
    refine z_iald 75 rfl (zcl1.o hS 157 100 rfl rfl rfl) (zin (zcl1.l hS 157 138 rfl rfl rfl) o2) ?_
    refine z_iast 76 rfl (zcl1.o hS 157 100 rfl rfl rfl) (zin (zcl1.l hS 157 138 rfl rfl rfl) o3) ?_
    refine z_iinc (v := 1) 77 rfl rfl (by decide) (by decide) rfl ?_
    refine z_goto 78 62 rfl (by decide) ?_
    exact B
set_option maxRecDepth 100000 in
set_option maxHeartbeats 4000000 in
theorem sg_X10_copies_120 {G : zG} {d : Nat} {h : zMem} {Q : zMem → Prop} {x1 : Int32} {x2 : Int32} {x3 : Int32} (hS : zSh2 h)  (B : ((36 : Int32) ≤ x3 → zg G mX10_copies d 156 [.ref 132, .int x1, .int x2, .int (0 : Int32)] [] h (zPV Q)) ∧ (¬ (36 : Int32) ≤ x3 → vp_in (((36 : Int32) * x2) + x3) 828 ∧ vp_in (((36 : Int32) * x1) + x3) 828 ∧ zg G mX10_copies d 120 [.ref 132, .int x1, .int x2, .int (x3 + 1)] [] (zsI h 158 (((36 : Int32) * x1) + x3).toNatClampNeg (zI h 158 (((36 : Int32) * x2) + x3).toNatClampNeg)) (zPV Q))) : zg G mX10_copies d 120 [.ref 132, .int x1, .int x2, .int x3] [] h (zPV Q) := by
  refine z_iload_n 81 rfl rfl ?_
  refine z_bipush (v := 36) 82 rfl (by decide) ?_
  refine z_icmp_ge 83 154 rfl (by decide) ⟨fun c1 => ?_, fun c1 => ?_⟩
  · have B := B.1 c1
    refine z_iconst (v := 0) 102 rfl (by decide) ?_
    refine z_istore_n 103 rfl (by decide) rfl ?_
    exact B
  · have B := B.2 c1
    refine z_aload_n 84 rfl rfl ?_
    refine z_getR 85 rfl lX10_90 rfl (zcl1.o hS 132 9 rfl rfl rfl) (zcl1.r hS 132 41 158 rfl rfl rfl) ?_
    refine z_bipush (v := 36) 86 rfl (by decide) ?_
    refine z_iload_n 87 rfl rfl ?_
    refine z_imul 88 rfl ?_
    refine z_iload_n 89 rfl rfl ?_
    refine z_iadd 90 rfl ?_
    refine z_aload_n 91 rfl rfl ?_
    refine z_getR 92 rfl lX10_90 rfl (zcl1.o hS 132 9 rfl rfl rfl) (zcl1.r hS 132 41 158 rfl rfl rfl) ?_
    refine z_bipush (v := 36) 93 rfl (by decide) ?_
    refine z_iload_n 94 rfl rfl ?_
    refine z_imul 95 rfl ?_
    refine z_iload_n 96 rfl rfl ?_
    refine z_iadd 97 rfl ?_
    obtain ⟨o2, B⟩ := B
    refine z_iald 98 rfl (zcl1.o hS 158 100 rfl rfl rfl) (zin (zcl1.l hS 158 828 rfl rfl rfl) o2) ?_
    obtain ⟨o3, B⟩ := B
    refine z_iast 99 rfl (zcl1.o hS 158 100 rfl rfl rfl) (zin (zcl1.l hS 158 828 rfl rfl rfl) o3) ?_
    refine z_iinc (v := 1) 100 rfl rfl (by decide) (by decide) rfl ?_
    refine z_goto 101 120 rfl (by decide) ?_
    exact B
set_option maxRecDepth 100000 in
set_option maxHeartbeats 4000000 in
theorem sg_X10_copies_156 {G : zG} {d : Nat} {h : zMem} {Q : zMem → Prop} {x1 : Int32} {x2 : Int32} {x3 : Int32} (hS : zSh2 h)  (B : ((5 : Int32) ≤ x3 → Q h) ∧ (¬ (5 : Int32) ≤ x3 → vp_in (((5 : Int32) * x2) + x3) 115 ∧ vp_in (((5 : Int32) * x1) + x3) 115 ∧ zg G mX10_copies d 156 [.ref 132, .int x1, .int x2, .int (x3 + 1)] [] (zsI (zsI (zsI (zsI h 159 (((5 : Int32) * x1) + x3).toNatClampNeg (zI h 159 (((5 : Int32) * x2) + x3).toNatClampNeg)) 160 (((5 : Int32) * x1) + x3).toNatClampNeg (zI (zsI h 159 (((5 : Int32) * x1) + x3).toNatClampNeg (zI h 159 (((5 : Int32) * x2) + x3).toNatClampNeg)) 160 (((5 : Int32) * x2) + x3).toNatClampNeg)) 161 (((5 : Int32) * x1) + x3).toNatClampNeg (zI (zsI (zsI h 159 (((5 : Int32) * x1) + x3).toNatClampNeg (zI h 159 (((5 : Int32) * x2) + x3).toNatClampNeg)) 160 (((5 : Int32) * x1) + x3).toNatClampNeg (zI (zsI h 159 (((5 : Int32) * x1) + x3).toNatClampNeg (zI h 159 (((5 : Int32) * x2) + x3).toNatClampNeg)) 160 (((5 : Int32) * x2) + x3).toNatClampNeg)) 161 (((5 : Int32) * x2) + x3).toNatClampNeg)) 162 (((5 : Int32) * x1) + x3).toNatClampNeg (zI (zsI (zsI (zsI h 159 (((5 : Int32) * x1) + x3).toNatClampNeg (zI h 159 (((5 : Int32) * x2) + x3).toNatClampNeg)) 160 (((5 : Int32) * x1) + x3).toNatClampNeg (zI (zsI h 159 (((5 : Int32) * x1) + x3).toNatClampNeg (zI h 159 (((5 : Int32) * x2) + x3).toNatClampNeg)) 160 (((5 : Int32) * x2) + x3).toNatClampNeg)) 161 (((5 : Int32) * x1) + x3).toNatClampNeg (zI (zsI (zsI h 159 (((5 : Int32) * x1) + x3).toNatClampNeg (zI h 159 (((5 : Int32) * x2) + x3).toNatClampNeg)) 160 (((5 : Int32) * x1) + x3).toNatClampNeg (zI (zsI h 159 (((5 : Int32) * x1) + x3).toNatClampNeg (zI h 159 (((5 : Int32) * x2) + x3).toNatClampNeg)) 160 (((5 : Int32) * x2) + x3).toNatClampNeg)) 161 (((5 : Int32) * x2) + x3).toNatClampNeg)) 162 (((5 : Int32) * x2) + x3).toNatClampNeg)) (zPV Q))) : zg G mX10_copies d 156 [.ref 132, .int x1, .int x2, .int x3] [] h (zPV Q) := by
  refine z_iload_n 104 rfl rfl ?_
  refine z_iconst (v := 5) 105 rfl (by decide) ?_
  refine z_icmp_ge 106 247 rfl (by decide) ⟨fun c1 => ?_, fun c1 => ?_⟩
  · have B := B.1 c1
    exact z_vret 173 rfl rfl ⟨rfl, rfl⟩ ⟨rfl, B⟩
  · have B := B.2 c1
    refine z_aload_n 107 rfl rfl ?_
    refine z_getR 108 rfl lX10_93 rfl (zcl1.o hS 132 9 rfl rfl rfl) (zcl1.r hS 132 42 159 rfl rfl rfl) ?_
    refine z_iconst (v := 5) 109 rfl (by decide) ?_
    refine z_iload_n 110 rfl rfl ?_
    refine z_imul 111 rfl ?_
    refine z_iload_n 112 rfl rfl ?_
    refine z_iadd 113 rfl ?_
    refine z_aload_n 114 rfl rfl ?_
    refine z_getR 115 rfl lX10_93 rfl (zcl1.o hS 132 9 rfl rfl rfl) (zcl1.r hS 132 42 159 rfl rfl rfl) ?_
    refine z_iconst (v := 5) 116 rfl (by decide) ?_
    refine z_iload_n 117 rfl rfl ?_
    refine z_imul 118 rfl ?_
    refine z_iload_n 119 rfl rfl ?_
    refine z_iadd 120 rfl ?_
    obtain ⟨o2, B⟩ := B
    refine z_iald 121 rfl (zcl1.o hS 159 100 rfl rfl rfl) (zin (zcl1.l hS 159 115 rfl rfl rfl) o2) ?_
    obtain ⟨o3, B⟩ := B
    refine z_iast 122 rfl (zcl1.o hS 159 100 rfl rfl rfl) (zin (zcl1.l hS 159 115 rfl rfl rfl) o3) ?_
    refine z_aload_n 123 rfl rfl ?_
    refine z_getR 124 rfl lX10_96 rfl (zcl1.o hS 132 9 rfl rfl rfl) (zcl1.r hS 132 43 160 rfl rfl rfl) ?_
    refine z_iconst (v := 5) 125 rfl (by decide) ?_
    refine z_iload_n 126 rfl rfl ?_
    refine z_imul 127 rfl ?_
    refine z_iload_n 128 rfl rfl ?_
    refine z_iadd 129 rfl ?_
    refine z_aload_n 130 rfl rfl ?_
    refine z_getR 131 rfl lX10_96 rfl (zcl1.o hS 132 9 rfl rfl rfl) (zcl1.r hS 132 43 160 rfl rfl rfl) ?_
    refine z_iconst (v := 5) 132 rfl (by decide) ?_
    refine z_iload_n 133 rfl rfl ?_
    refine z_imul 134 rfl ?_
    refine z_iload_n 135 rfl rfl ?_
    refine z_iadd 136 rfl ?_
    refine z_iald 137 rfl (zcl1.o hS 160 100 rfl rfl rfl) (zin (zcl1.l hS 160 115 rfl rfl rfl) o2) ?_
    refine z_iast 138 rfl (zcl1.o hS 160 100 rfl rfl rfl) (zin (zcl1.l hS 160 115 rfl rfl rfl) o3) ?_
    refine z_aload_n 139 rfl rfl ?_
    refine z_getR 140 rfl lX10_99 rfl (zcl1.o hS 132 9 rfl rfl rfl) (zcl1.r hS 132 44 161 rfl rfl rfl) ?_
    refine z_iconst (v := 5) 141 rfl (by decide) ?_
    refine z_iload_n 142 rfl rfl ?_
    refine z_imul 143 rfl ?_
    refine z_iload_n 144 rfl rfl ?_
    refine z_iadd 145 rfl ?_
    refine z_aload_n 146 rfl rfl ?_
    refine z_getR 147 rfl lX10_99 rfl (zcl1.o hS 132 9 rfl rfl rfl) (zcl1.r hS 132 44 161 rfl rfl rfl) ?_
    refine z_iconst (v := 5) 148 rfl (by decide) ?_
    refine z_iload_n 149 rfl rfl ?_
    refine z_imul 150 rfl ?_
    refine z_iload_n 151 rfl rfl ?_
    refine z_iadd 152 rfl ?_
    refine z_iald 153 rfl (zcl1.o hS 161 100 rfl rfl rfl) (zin (zcl1.l hS 161 115 rfl rfl rfl) o2) ?_
    refine z_iast 154 rfl (zcl1.o hS 161 100 rfl rfl rfl) (zin (zcl1.l hS 161 115 rfl rfl rfl) o3) ?_
    refine z_aload_n 155 rfl rfl ?_
    refine z_getR 156 rfl lX10_102 rfl (zcl1.o hS 132 9 rfl rfl rfl) (zcl1.r hS 132 45 162 rfl rfl rfl) ?_
    refine z_iconst (v := 5) 157 rfl (by decide) ?_
    refine z_iload_n 158 rfl rfl ?_
    refine z_imul 159 rfl ?_
    refine z_iload_n 160 rfl rfl ?_
    refine z_iadd 161 rfl ?_
    refine z_aload_n 162 rfl rfl ?_
    refine z_getR 163 rfl lX10_102 rfl (zcl1.o hS 132 9 rfl rfl rfl) (zcl1.r hS 132 45 162 rfl rfl rfl) ?_
    refine z_iconst (v := 5) 164 rfl (by decide) ?_
    refine z_iload_n 165 rfl rfl ?_
    refine z_imul 166 rfl ?_
    refine z_iload_n 167 rfl rfl ?_
    refine z_iadd 168 rfl ?_
    refine z_iald 169 rfl (zcl1.o hS 162 100 rfl rfl rfl) (zin (zcl1.l hS 162 115 rfl rfl rfl) o2) ?_
    refine z_iast 170 rfl (zcl1.o hS 162 100 rfl rfl rfl) (zin (zcl1.l hS 162 115 rfl rfl rfl) o3) ?_
    refine z_iinc (v := 1) 171 rfl rfl (by decide) (by decide) rfl ?_
    refine z_goto 172 156 rfl (by decide) ?_
    exact B
set_option maxRecDepth 100000 in
set_option maxHeartbeats 4000000 in
theorem sg_X10_isStuff_0 {G : zG} {d : Nat} {h : zMem} {Q : Int32 → zMem → Prop} {x1 : Int32} (hS : zSh2 h)  (B : (x1 < 0 → Q (0 : Int32) h) ∧ (¬ x1 < 0 → ((zI h 134 0) ≤ x1 → Q (0 : Int32) h) ∧ (¬ (zI h 134 0) ≤ x1 → Q (1 : Int32) h))) : zg G mX10_isStuff d 0 [.ref 132, .int x1] [] h (zPI Q) := by
  refine z_iload_n 0 rfl rfl ?_
  refine z_if_lt 1 18 rfl (by decide) ⟨fun c1 => ?_, fun c1 => ?_⟩
  · have B := B.1 c1
    refine z_iconst (v := 0) 10 rfl (by decide) ?_
    exact z_iret 11 rfl rfl rfl ⟨rfl, rfl⟩ ⟨_, rfl, B⟩
  · have B := B.2 c1
    refine z_iload_n 2 rfl rfl ?_
    refine z_aload_n 3 rfl rfl ?_
    refine z_getR 4 rfl lX10_13 rfl (zcl1.o hS 132 9 rfl rfl rfl) (zcl1.r hS 132 3 134 rfl rfl rfl) ?_
    refine z_iconst (v := 0) 5 rfl (by decide) ?_
    refine z_iald_c 6 0 rfl (by decide) (zcl1.o hS 134 100 rfl rfl rfl) (zin (zcl1.l hS 134 16 rfl rfl rfl) (zvp (by decide))) ?_
    refine z_icmp_ge 7 18 rfl (by decide) ⟨fun c2 => ?_, fun c2 => ?_⟩
    · have B := B.1 c2
      refine z_iconst (v := 0) 10 rfl (by decide) ?_
      exact z_iret 11 rfl rfl rfl ⟨rfl, rfl⟩ ⟨_, rfl, B⟩
    · have B := B.2 c2
      refine z_iconst (v := 1) 8 rfl (by decide) ?_
      refine z_goto 9 19 rfl (by decide) ?_
      exact z_iret 11 rfl rfl rfl ⟨rfl, rfl⟩ ⟨_, rfl, B⟩
theorem cn_X10_isStuff {G : zG} {d : Nat} {h : zMem} {Q : Int32 → zMem → Prop} {x1 : Int32} (B : zg G mX10_isStuff d 0 [.ref 132, .int x1] [] h (zPI Q)) : zConI G mX10_isStuff d [.ref 132, .int x1] h Q := zcon0 (by decide +kernel) eX10_isStuff (Nat.le_of_ble_eq_true rfl) rfl B
set_option maxRecDepth 100000 in
set_option maxHeartbeats 4000000 in
theorem sg_X10_isDay_0 {G : zG} {d : Nat} {h : zMem} {Q : Int32 → zMem → Prop} {x1 : Int32} (hS : zSh2 h)  (B : (x1 < 0 → Q (0 : Int32) h) ∧ (¬ x1 < 0 → ((zI h 134 1) ≤ x1 → Q (0 : Int32) h) ∧ (¬ (zI h 134 1) ≤ x1 → Q (1 : Int32) h))) : zg G mX10_isDay d 0 [.ref 132, .int x1] [] h (zPI Q) := by
  refine z_iload_n 0 rfl rfl ?_
  refine z_if_lt 1 18 rfl (by decide) ⟨fun c1 => ?_, fun c1 => ?_⟩
  · have B := B.1 c1
    refine z_iconst (v := 0) 10 rfl (by decide) ?_
    exact z_iret 11 rfl rfl rfl ⟨rfl, rfl⟩ ⟨_, rfl, B⟩
  · have B := B.2 c1
    refine z_iload_n 2 rfl rfl ?_
    refine z_aload_n 3 rfl rfl ?_
    refine z_getR 4 rfl lX10_13 rfl (zcl1.o hS 132 9 rfl rfl rfl) (zcl1.r hS 132 3 134 rfl rfl rfl) ?_
    refine z_iconst (v := 1) 5 rfl (by decide) ?_
    refine z_iald_c 6 1 rfl (by decide) (zcl1.o hS 134 100 rfl rfl rfl) (zin (zcl1.l hS 134 16 rfl rfl rfl) (zvp (by decide))) ?_
    refine z_icmp_ge 7 18 rfl (by decide) ⟨fun c2 => ?_, fun c2 => ?_⟩
    · have B := B.1 c2
      refine z_iconst (v := 0) 10 rfl (by decide) ?_
      exact z_iret 11 rfl rfl rfl ⟨rfl, rfl⟩ ⟨_, rfl, B⟩
    · have B := B.2 c2
      refine z_iconst (v := 1) 8 rfl (by decide) ?_
      refine z_goto 9 19 rfl (by decide) ?_
      exact z_iret 11 rfl rfl rfl ⟨rfl, rfl⟩ ⟨_, rfl, B⟩
theorem cn_X10_isDay {G : zG} {d : Nat} {h : zMem} {Q : Int32 → zMem → Prop} {x1 : Int32} (B : zg G mX10_isDay d 0 [.ref 132, .int x1] [] h (zPI Q)) : zConI G mX10_isDay d [.ref 132, .int x1] h Q := zcon0 (by decide +kernel) eX10_isDay (Nat.le_of_ble_eq_true rfl) rfl B
set_option maxRecDepth 100000 in
set_option maxHeartbeats 4000000 in
theorem sg_X10_isRoom_0 {G : zG} {d : Nat} {h : zMem} {Q : Int32 → zMem → Prop} {x1 : Int32} (hS : zSh2 h)  (B : (x1 < 0 → Q (0 : Int32) h) ∧ (¬ x1 < 0 → ((zI h 134 3) ≤ x1 → Q (0 : Int32) h) ∧ (¬ (zI h 134 3) ≤ x1 → Q (1 : Int32) h))) : zg G mX10_isRoom d 0 [.ref 132, .int x1] [] h (zPI Q) := by
  refine z_iload_n 0 rfl rfl ?_
  refine z_if_lt 1 18 rfl (by decide) ⟨fun c1 => ?_, fun c1 => ?_⟩
  · have B := B.1 c1
    refine z_iconst (v := 0) 10 rfl (by decide) ?_
    exact z_iret 11 rfl rfl rfl ⟨rfl, rfl⟩ ⟨_, rfl, B⟩
  · have B := B.2 c1
    refine z_iload_n 2 rfl rfl ?_
    refine z_aload_n 3 rfl rfl ?_
    refine z_getR 4 rfl lX10_13 rfl (zcl1.o hS 132 9 rfl rfl rfl) (zcl1.r hS 132 3 134 rfl rfl rfl) ?_
    refine z_iconst (v := 3) 5 rfl (by decide) ?_
    refine z_iald_c 6 3 rfl (by decide) (zcl1.o hS 134 100 rfl rfl rfl) (zin (zcl1.l hS 134 16 rfl rfl rfl) (zvp (by decide))) ?_
    refine z_icmp_ge 7 18 rfl (by decide) ⟨fun c2 => ?_, fun c2 => ?_⟩
    · have B := B.1 c2
      refine z_iconst (v := 0) 10 rfl (by decide) ?_
      exact z_iret 11 rfl rfl rfl ⟨rfl, rfl⟩ ⟨_, rfl, B⟩
    · have B := B.2 c2
      refine z_iconst (v := 1) 8 rfl (by decide) ?_
      refine z_goto 9 19 rfl (by decide) ?_
      exact z_iret 11 rfl rfl rfl ⟨rfl, rfl⟩ ⟨_, rfl, B⟩
theorem cn_X10_isRoom {G : zG} {d : Nat} {h : zMem} {Q : Int32 → zMem → Prop} {x1 : Int32} (B : zg G mX10_isRoom d 0 [.ref 132, .int x1] [] h (zPI Q)) : zConI G mX10_isRoom d [.ref 132, .int x1] h Q := zcon0 (by decide +kernel) eX10_isRoom (Nat.le_of_ble_eq_true rfl) rfl B
set_option maxRecDepth 100000 in
set_option maxHeartbeats 4000000 in
theorem sg_X10_isMonk_0 {G : zG} {d : Nat} {h : zMem} {Q : Int32 → zMem → Prop} {x1 : Int32} (hS : zSh2 h)  (B : (x1 < 0 → Q (0 : Int32) h) ∧ (¬ x1 < 0 → ((zI h 134 4) ≤ x1 → Q (0 : Int32) h) ∧ (¬ (zI h 134 4) ≤ x1 → Q (1 : Int32) h))) : zg G mX10_isMonk d 0 [.ref 132, .int x1] [] h (zPI Q) := by
  refine z_iload_n 0 rfl rfl ?_
  refine z_if_lt 1 18 rfl (by decide) ⟨fun c1 => ?_, fun c1 => ?_⟩
  · have B := B.1 c1
    refine z_iconst (v := 0) 10 rfl (by decide) ?_
    exact z_iret 11 rfl rfl rfl ⟨rfl, rfl⟩ ⟨_, rfl, B⟩
  · have B := B.2 c1
    refine z_iload_n 2 rfl rfl ?_
    refine z_aload_n 3 rfl rfl ?_
    refine z_getR 4 rfl lX10_13 rfl (zcl1.o hS 132 9 rfl rfl rfl) (zcl1.r hS 132 3 134 rfl rfl rfl) ?_
    refine z_iconst (v := 4) 5 rfl (by decide) ?_
    refine z_iald_c 6 4 rfl (by decide) (zcl1.o hS 134 100 rfl rfl rfl) (zin (zcl1.l hS 134 16 rfl rfl rfl) (zvp (by decide))) ?_
    refine z_icmp_ge 7 18 rfl (by decide) ⟨fun c2 => ?_, fun c2 => ?_⟩
    · have B := B.1 c2
      refine z_iconst (v := 0) 10 rfl (by decide) ?_
      exact z_iret 11 rfl rfl rfl ⟨rfl, rfl⟩ ⟨_, rfl, B⟩
    · have B := B.2 c2
      refine z_iconst (v := 1) 8 rfl (by decide) ?_
      refine z_goto 9 19 rfl (by decide) ?_
      exact z_iret 11 rfl rfl rfl ⟨rfl, rfl⟩ ⟨_, rfl, B⟩
theorem cn_X10_isMonk {G : zG} {d : Nat} {h : zMem} {Q : Int32 → zMem → Prop} {x1 : Int32} (B : zg G mX10_isMonk d 0 [.ref 132, .int x1] [] h (zPI Q)) : zConI G mX10_isMonk d [.ref 132, .int x1] h Q := zcon0 (by decide +kernel) eX10_isMonk (Nat.le_of_ble_eq_true rfl) rfl B
set_option maxRecDepth 100000 in
set_option maxHeartbeats 4000000 in
theorem sg_X10_partIn_0 {G : zG} {d : Nat} {h : zMem} {Q : Int32 → zMem → Prop} {x1 : Int32} (hS : zSh2 h)  (B : (¬ (zI h 132 48) = (5 : Int32) → vp_in x1 12 ∧ Q (zI h 141 x1.toNatClampNeg) h) ∧ ((zI h 132 48) = (5 : Int32) → Q (100 : Int32) h)) : zg G mX10_partIn d 0 [.ref 132, .int x1] [] h (zPI Q) := by
  refine z_aload_n 0 rfl rfl ?_
  refine z_getI 1 rfl lX10_349 rfl (zcl1.o hS 132 9 rfl rfl rfl) ?_
  refine z_iconst (v := 5) 2 rfl (by decide) ?_
  refine z_icmp_ne 3 13 rfl (by decide) ⟨fun c1 => ?_, fun c1 => ?_⟩
  · have B := B.1 c1
    refine z_aload_n 6 rfl rfl ?_
    refine z_getR 7 rfl lX10_34 rfl (zcl1.o hS 132 9 rfl rfl rfl) (zcl1.r hS 132 10 141 rfl rfl rfl) ?_
    refine z_iload_n 8 rfl rfl ?_
    obtain ⟨o2, B⟩ := B
    refine z_iald 9 rfl (zcl1.o hS 141 100 rfl rfl rfl) (zin (zcl1.l hS 141 12 rfl rfl rfl) o2) ?_
    exact z_iret 10 rfl rfl rfl ⟨rfl, rfl⟩ ⟨_, rfl, B⟩
  · have B := B.2 c1
    refine z_bipush (v := 100) 4 rfl (by decide) ?_
    refine z_goto 5 19 rfl (by decide) ?_
    exact z_iret 10 rfl rfl rfl ⟨rfl, rfl⟩ ⟨_, rfl, B⟩
theorem cn_X10_partIn {G : zG} {d : Nat} {h : zMem} {Q : Int32 → zMem → Prop} {x1 : Int32} (B : zg G mX10_partIn d 0 [.ref 132, .int x1] [] h (zPI Q)) : zConI G mX10_partIn d [.ref 132, .int x1] h Q := zcon0 (by decide +kernel) eX10_partIn (Nat.le_of_ble_eq_true rfl) rfl B
set_option maxRecDepth 100000 in
set_option maxHeartbeats 4000000 in
theorem sg_X10_mixOf_0 {G : zG} {d : Nat} {h : zMem} {Q : Int32 → zMem → Prop} {x1 : Int32} {x2 : Int32} (hS : zSh2 h)  (B : ((zI h 132 50) = (-1 : Int32) → ((zI h 132 50) = (-1 : Int32) → zg G mX10_mixOf d 50 [.ref 132, .int x1, .int x2, zU] [.int x2, .int ((6 : Int32) * x1), .ref 139] h (zPI Q)) ∧ (¬ (zI h 132 50) = (-1 : Int32) → (¬ x2 = (zI h 132 51) → zg G mX10_mixOf d 50 [.ref 132, .int x1, .int x2, zU] [.int x2, .int ((6 : Int32) * x1), .ref 139] h (zPI Q)) ∧ (x2 = (zI h 132 51) → zg G mX10_mixOf d 50 [.ref 132, .int x1, .int x2, zU] [.int (zI h 132 50), .int ((6 : Int32) * x1), .ref 139] h (zPI Q)))) ∧ (¬ (zI h 132 50) = (-1 : Int32) → (¬ x2 = (zI h 132 50) → ((zI h 132 50) = (-1 : Int32) → zg G mX10_mixOf d 50 [.ref 132, .int x1, .int x2, zU] [.int x2, .int ((6 : Int32) * x1), .ref 139] h (zPI Q)) ∧ (¬ (zI h 132 50) = (-1 : Int32) → (¬ x2 = (zI h 132 51) → zg G mX10_mixOf d 50 [.ref 132, .int x1, .int x2, zU] [.int x2, .int ((6 : Int32) * x1), .ref 139] h (zPI Q)) ∧ (x2 = (zI h 132 51) → zg G mX10_mixOf d 50 [.ref 132, .int x1, .int x2, zU] [.int (zI h 132 50), .int ((6 : Int32) * x1), .ref 139] h (zPI Q)))) ∧ (x2 = (zI h 132 50) → Q (0 : Int32) h))) : zg G mX10_mixOf d 0 [.ref 132, .int x1, .int x2, zU] [] h (zPI Q) := by
  refine z_aload_n 0 rfl rfl ?_
  refine z_getI 1 rfl lX10_108 rfl (zcl1.o hS 132 9 rfl rfl rfl) ?_
  refine z_iconst (v := -1) 2 rfl (by decide) ?_
  refine z_icmp_eq 3 18 rfl (by decide) ⟨fun c1 => ?_, fun c1 => ?_⟩
  · have B := B.1 c1
    refine z_aload_n 10 rfl rfl ?_
    refine z_getR 11 rfl lX10_28 rfl (zcl1.o hS 132 9 rfl rfl rfl) (zcl1.r hS 132 8 139 rfl rfl rfl) ?_
    refine z_bipush (v := 6) 12 rfl (by decide) ?_
    refine z_iload_n 13 rfl rfl ?_
    refine z_imul 14 rfl ?_
    refine z_aload_n 15 rfl rfl ?_
    refine z_getI 16 rfl lX10_108 rfl (zcl1.o hS 132 9 rfl rfl rfl) ?_
    refine z_iconst (v := -1) 17 rfl (by decide) ?_
    refine z_icmp_eq 18 49 rfl (by decide) ⟨fun c2 => ?_, fun c2 => ?_⟩
    · have B := B.1 c2
      refine z_iload_n 26 rfl rfl ?_
      exact B
    · have B := B.2 c2
      refine z_iload_n 19 rfl rfl ?_
      refine z_aload_n 20 rfl rfl ?_
      refine z_getI 21 rfl lX10_111 rfl (zcl1.o hS 132 9 rfl rfl rfl) ?_
      refine z_icmp_ne 22 49 rfl (by decide) ⟨fun c3 => ?_, fun c3 => ?_⟩
      · have B := B.1 c3
        refine z_iload_n 26 rfl rfl ?_
        exact B
      · have B := B.2 c3
        refine z_aload_n 23 rfl rfl ?_
        refine z_getI 24 rfl lX10_108 rfl (zcl1.o hS 132 9 rfl rfl rfl) ?_
        refine z_goto 25 50 rfl (by decide) ?_
        exact B
  · have B := B.2 c1
    refine z_iload_n 4 rfl rfl ?_
    refine z_aload_n 5 rfl rfl ?_
    refine z_getI 6 rfl lX10_108 rfl (zcl1.o hS 132 9 rfl rfl rfl) ?_
    refine z_icmp_ne 7 18 rfl (by decide) ⟨fun c4 => ?_, fun c4 => ?_⟩
    · have B := B.1 c4
      refine z_aload_n 10 rfl rfl ?_
      refine z_getR 11 rfl lX10_28 rfl (zcl1.o hS 132 9 rfl rfl rfl) (zcl1.r hS 132 8 139 rfl rfl rfl) ?_
      refine z_bipush (v := 6) 12 rfl (by decide) ?_
      refine z_iload_n 13 rfl rfl ?_
      refine z_imul 14 rfl ?_
      refine z_aload_n 15 rfl rfl ?_
      refine z_getI 16 rfl lX10_108 rfl (zcl1.o hS 132 9 rfl rfl rfl) ?_
      refine z_iconst (v := -1) 17 rfl (by decide) ?_
      refine z_icmp_eq 18 49 rfl (by decide) ⟨fun c5 => ?_, fun c5 => ?_⟩
      · have B := B.1 c5
        refine z_iload_n 26 rfl rfl ?_
        exact B
      · have B := B.2 c5
        refine z_iload_n 19 rfl rfl ?_
        refine z_aload_n 20 rfl rfl ?_
        refine z_getI 21 rfl lX10_111 rfl (zcl1.o hS 132 9 rfl rfl rfl) ?_
        refine z_icmp_ne 22 49 rfl (by decide) ⟨fun c6 => ?_, fun c6 => ?_⟩
        · have B := B.1 c6
          refine z_iload_n 26 rfl rfl ?_
          exact B
        · have B := B.2 c6
          refine z_aload_n 23 rfl rfl ?_
          refine z_getI 24 rfl lX10_108 rfl (zcl1.o hS 132 9 rfl rfl rfl) ?_
          refine z_goto 25 50 rfl (by decide) ?_
          exact B
    · have B := B.2 c4
      refine z_iconst (v := 0) 8 rfl (by decide) ?_
      exact z_iret 9 rfl rfl rfl ⟨rfl, rfl⟩ ⟨_, rfl, B⟩
theorem cn_X10_mixOf {G : zG} {d : Nat} {h : zMem} {Q : Int32 → zMem → Prop} {x1 : Int32} {x2 : Int32} (B : zg G mX10_mixOf d 0 [.ref 132, .int x1, .int x2, zU] [] h (zPI Q)) : zConI G mX10_mixOf d [.ref 132, .int x1, .int x2] h Q := zcon0 (by decide +kernel) eX10_mixOf (Nat.le_of_ble_eq_true rfl) rfl B
set_option maxRecDepth 100000 in
set_option maxHeartbeats 4000000 in
theorem sg_X10_mixOf_50 {G : zG} {d : Nat} {h : zMem} {Q : Int32 → zMem → Prop} {x1 : Int32} {x2 : Int32} {xs0 : Int32} {xs1 : Int32} {as2 : Nat} (hS : zSh2 h)  (B : zO h as2 100 ∧ vp_in (xs1 + xs0) (zLen h as2) ∧ (¬ x1 = (zI h 132 52) → Q (zI h as2 (xs1 + xs0).toNatClampNeg) h) ∧ (x1 = (zI h 132 52) → (¬ x2 = (zI h 132 53) → Q (zI h as2 (xs1 + xs0).toNatClampNeg) h) ∧ (x2 = (zI h 132 53) → Q ((zI h as2 (xs1 + xs0).toNatClampNeg) + (zI h 132 54)) h))) : zg G mX10_mixOf d 50 [.ref 132, .int x1, .int x2, zU] [.int xs0, .int xs1, .ref as2] h (zPI Q) := by
  refine z_iadd 27 rfl ?_
  obtain ⟨o1, B⟩ := B
  obtain ⟨o2, B⟩ := B
  refine z_iald 28 rfl o1 o2 ?_
  refine z_istore_n 29 rfl (by decide) rfl ?_
  refine z_iload_n 30 rfl rfl ?_
  refine z_aload_n 31 rfl rfl ?_
  refine z_getI 32 rfl lX10_114 rfl (zcl1.o hS 132 9 rfl rfl rfl) ?_
  refine z_icmp_ne 33 78 rfl (by decide) ⟨fun c3 => ?_, fun c3 => ?_⟩
  · have B := B.1 c3
    refine z_iload_n 43 rfl rfl ?_
    exact z_iret 44 rfl rfl rfl ⟨rfl, rfl⟩ ⟨_, rfl, B⟩
  · have B := B.2 c3
    refine z_iload_n 34 rfl rfl ?_
    refine z_aload_n 35 rfl rfl ?_
    refine z_getI 36 rfl lX10_117 rfl (zcl1.o hS 132 9 rfl rfl rfl) ?_
    refine z_icmp_ne 37 78 rfl (by decide) ⟨fun c4 => ?_, fun c4 => ?_⟩
    · have B := B.1 c4
      refine z_iload_n 43 rfl rfl ?_
      exact z_iret 44 rfl rfl rfl ⟨rfl, rfl⟩ ⟨_, rfl, B⟩
    · have B := B.2 c4
      refine z_iload_n 38 rfl rfl ?_
      refine z_aload_n 39 rfl rfl ?_
      refine z_getI 40 rfl lX10_352 rfl (zcl1.o hS 132 9 rfl rfl rfl) ?_
      refine z_iadd 41 rfl ?_
      refine z_goto 42 79 rfl (by decide) ?_
      exact z_iret 44 rfl rfl rfl ⟨rfl, rfl⟩ ⟨_, rfl, B⟩
set_option maxRecDepth 100000 in
set_option maxHeartbeats 4000000 in
theorem sg_X10_calls_0 {G : zG} {d : Nat} {h : zMem} {Q : zMem → Prop} {x1 : Int32} {x2 : Int32} {x3 : Int32} {x4 : Int32} {x5 : Int32} {x6 : Int32} {x7 : Int32} (hS : zSh2 h)  (B : vp_in x1 23 ∧ Q (zsL (zsL (zsL (zsL (zsL (zsL (zsL h 149 0 x2.toInt64) 149 1 x3.toInt64) 149 2 x4.toInt64) 149 3 x5.toInt64) 149 4 ((zI (zsL (zsL (zsL (zsL h 149 0 x2.toInt64) 149 1 x3.toInt64) 149 2 x4.toInt64) 149 3 x5.toInt64) 151 x1.toNatClampNeg).toInt64)) 149 5 x6.toInt64) 149 6 x7.toInt64)) : zg G mX10_calls d 0 [.ref 132, .int x1, .int x2, .int x3, .int x4, .int x5, .int x6, .int x7] [] h (zPV Q) := by
  refine z_aload_n 0 rfl rfl ?_
  refine z_getR 1 rfl lX10_62 rfl (zcl1.o hS 132 9 rfl rfl rfl) (zcl1.r hS 132 31 149 rfl rfl rfl) ?_
  refine z_iconst (v := 0) 2 rfl (by decide) ?_
  refine z_iload_n 3 rfl rfl ?_
  refine z_i2l 4 rfl ?_
  refine z_last_c 5 0 rfl (by decide) (zcl1.o hS 149 101 rfl rfl rfl) (zin (zcl1.l hS 149 7 rfl rfl rfl) (zvp (by decide))) ?_
  refine z_aload_n 6 rfl rfl ?_
  refine z_getR 7 rfl lX10_62 rfl (zcl1.o hS 132 9 rfl rfl rfl) (zcl1.r hS 132 31 149 rfl rfl rfl) ?_
  refine z_iconst (v := 1) 8 rfl (by decide) ?_
  refine z_iload_n 9 rfl rfl ?_
  refine z_i2l 10 rfl ?_
  refine z_last_c 11 1 rfl (by decide) (zcl1.o hS 149 101 rfl rfl rfl) (zin (zcl1.l hS 149 7 rfl rfl rfl) (zvp (by decide))) ?_
  refine z_aload_n 12 rfl rfl ?_
  refine z_getR 13 rfl lX10_62 rfl (zcl1.o hS 132 9 rfl rfl rfl) (zcl1.r hS 132 31 149 rfl rfl rfl) ?_
  refine z_iconst (v := 2) 14 rfl (by decide) ?_
  refine z_iload 15 rfl rfl ?_
  refine z_i2l 16 rfl ?_
  refine z_last_c 17 2 rfl (by decide) (zcl1.o hS 149 101 rfl rfl rfl) (zin (zcl1.l hS 149 7 rfl rfl rfl) (zvp (by decide))) ?_
  refine z_aload_n 18 rfl rfl ?_
  refine z_getR 19 rfl lX10_62 rfl (zcl1.o hS 132 9 rfl rfl rfl) (zcl1.r hS 132 31 149 rfl rfl rfl) ?_
  refine z_iconst (v := 3) 20 rfl (by decide) ?_
  refine z_iload 21 rfl rfl ?_
  refine z_i2l 22 rfl ?_
  refine z_last_c 23 3 rfl (by decide) (zcl1.o hS 149 101 rfl rfl rfl) (zin (zcl1.l hS 149 7 rfl rfl rfl) (zvp (by decide))) ?_
  refine z_aload_n 24 rfl rfl ?_
  refine z_getR 25 rfl lX10_62 rfl (zcl1.o hS 132 9 rfl rfl rfl) (zcl1.r hS 132 31 149 rfl rfl rfl) ?_
  refine z_iconst (v := 4) 26 rfl (by decide) ?_
  refine z_aload_n 27 rfl rfl ?_
  refine z_getR 28 rfl lX10_69 rfl (zcl1.o hS 132 9 rfl rfl rfl) (zcl1.r hS 132 34 151 rfl rfl rfl) ?_
  refine z_iload_n 29 rfl rfl ?_
  obtain ⟨o1, B⟩ := B
  refine z_iald 30 rfl (zcl1.o hS 151 100 rfl rfl rfl) (zin (zcl1.l hS 151 23 rfl rfl rfl) o1) ?_
  refine z_i2l 31 rfl ?_
  refine z_last_c 32 4 rfl (by decide) (zcl1.o hS 149 101 rfl rfl rfl) (zin (zcl1.l hS 149 7 rfl rfl rfl) (zvp (by decide))) ?_
  refine z_aload_n 33 rfl rfl ?_
  refine z_getR 34 rfl lX10_62 rfl (zcl1.o hS 132 9 rfl rfl rfl) (zcl1.r hS 132 31 149 rfl rfl rfl) ?_
  refine z_iconst (v := 5) 35 rfl (by decide) ?_
  refine z_iload 36 rfl rfl ?_
  refine z_i2l 37 rfl ?_
  refine z_last_c 38 5 rfl (by decide) (zcl1.o hS 149 101 rfl rfl rfl) (zin (zcl1.l hS 149 7 rfl rfl rfl) (zvp (by decide))) ?_
  refine z_aload_n 39 rfl rfl ?_
  refine z_getR 40 rfl lX10_62 rfl (zcl1.o hS 132 9 rfl rfl rfl) (zcl1.r hS 132 31 149 rfl rfl rfl) ?_
  refine z_bipush (v := 6) 41 rfl (by decide) ?_
  refine z_iload 42 rfl rfl ?_
  refine z_i2l 43 rfl ?_
  refine z_last_c 44 6 rfl (by decide) (zcl1.o hS 149 101 rfl rfl rfl) (zin (zcl1.l hS 149 7 rfl rfl rfl) (zvp (by decide))) ?_
  exact z_vret 45 rfl rfl ⟨rfl, rfl⟩ ⟨rfl, B⟩
theorem cn_X10_calls {G : zG} {d : Nat} {h : zMem} {Q : zMem → Prop} {x1 : Int32} {x2 : Int32} {x3 : Int32} {x4 : Int32} {x5 : Int32} {x6 : Int32} {x7 : Int32} (B : zg G mX10_calls d 0 [.ref 132, .int x1, .int x2, .int x3, .int x4, .int x5, .int x6, .int x7] [] h (zPV Q)) : zConV G mX10_calls d [.ref 132, .int x1, .int x2, .int x3, .int x4, .int x5, .int x6, .int x7] h Q := zcon0 (by decide +kernel) eX10_calls (Nat.le_of_ble_eq_true rfl) rfl B
set_option maxRecDepth 100000 in
set_option maxHeartbeats 4000000 in
theorem sg_X10_within_0 {G : zG} {d : Nat} {h : zMem} {Q : Int32 → zMem → Prop} {x1 : Int32} {x2 : Int32} {x3 : Int32} {x4 : Int32} (hS : zSh2 h)  (B : ∃ Q1 : Int32 → zMem → Prop, zConI G mX10_hasLaw d [.ref 132, .int x1] h Q1 ∧ (∀ v4 h2, Q1 v4 h2 → zSh2 h2 ∧ (v4 = 0 → Q x4 h2) ∧ (¬ v4 = 0 → ∃ Q6 : Int32 → zMem → Prop, zConI G mX10_comesOut d [.ref 132, .int x1] h2 Q6 ∧ (∀ v9 h7, Q6 v9 h7 → zSh2 h7 ∧ (¬ v9 = 0 → Q ((if (if (zL h7 150 0) < x3.toInt64 then (zL h7 150 0) else x3.toInt64) < x2.toInt64 then x2.toInt64 else (if (zL h7 150 0) < x3.toInt64 then (zL h7 150 0) else x3.toInt64)).toInt32) h7) ∧ (v9 = 0 → Q x4 h7))))) : zg G mX10_within (d + 1) 0 [.ref 132, .int x1, .int x2, .int x3, .int x4] [] h (zPI Q) := by
  refine z_aload_n 0 rfl rfl ?_
  refine z_iload_n 1 rfl rfl ?_
  obtain ⟨Q1, K3, B⟩ := B
  refine z_cVI1 (ν := mX10_hasLaw) 2 rfl rfl fX10_hasLaw gX10_355 ⟨_, rfl, rfl⟩ (by decide) (zcl1.o hS 132 9 rfl rfl rfl) (Nat.le_of_ble_eq_true rfl) K3 (fun v4 h2 q => ?_)
  obtain ⟨hSh2, B⟩ := B v4 h2 q
  refine z_if_eq 3 16 rfl (by decide) ⟨fun c5 => ?_, fun c5 => ?_⟩
  · have B := B.1 c5
    refine z_iload 8 rfl rfl ?_
    exact z_iret 9 rfl rfl rfl ⟨rfl, rfl⟩ ⟨_, rfl, B⟩
  · have B := B.2 c5
    refine z_aload_n 4 rfl rfl ?_
    refine z_iload_n 5 rfl rfl ?_
    obtain ⟨Q6, K8, B⟩ := B
    refine z_cVI1 (ν := mX10_comesOut) 6 rfl rfl fX10_comesOut gX10_358 ⟨_, rfl, rfl⟩ (by decide) (zcl1.o hSh2 132 9 rfl rfl rfl) (Nat.le_of_ble_eq_true rfl) K8 (fun v9 h7 q => ?_)
    obtain ⟨hSh7, B⟩ := B v9 h7 q
    refine z_if_ne 7 19 rfl (by decide) ⟨fun c10 => ?_, fun c10 => ?_⟩
    · have B := B.1 c10
      refine z_iload_n 10 rfl rfl ?_
      refine z_i2l 11 rfl ?_
      refine z_iload_n 12 rfl rfl ?_
      refine z_i2l 13 rfl ?_
      refine z_aload_n 14 rfl rfl ?_
      refine z_getR 15 rfl lX10_66 rfl (zcl1.o hSh7 132 9 rfl rfl rfl) (zcl1.r hSh7 132 32 150 rfl rfl rfl) ?_
      refine z_iconst (v := 0) 16 rfl (by decide) ?_
      refine z_lald_c 17 0 rfl (by decide) (zcl1.o hSh7 150 101 rfl rfl rfl) (zin (zcl1.l hSh7 150 64 rfl rfl rfl) (zvp (by decide))) ?_
      refine z_lmin 18 rfl rfl gmX10_361 (Nat.le_of_ble_eq_true rfl) ?_
      refine z_lmax 19 rfl rfl gmX10_365 (Nat.le_of_ble_eq_true rfl) ?_
      refine z_l2i 20 rfl ?_
      exact z_iret 21 rfl rfl rfl ⟨rfl, rfl⟩ ⟨_, rfl, B⟩
    · have B := B.2 c10
      refine z_iload 8 rfl rfl ?_
      exact z_iret 9 rfl rfl rfl ⟨rfl, rfl⟩ ⟨_, rfl, B⟩
theorem cn_X10_within {G : zG} {d : Nat} {h : zMem} {Q : Int32 → zMem → Prop} {x1 : Int32} {x2 : Int32} {x3 : Int32} {x4 : Int32} (B : zg G mX10_within (d + 1) 0 [.ref 132, .int x1, .int x2, .int x3, .int x4] [] h (zPI Q)) : zConI G mX10_within (d + 1) [.ref 132, .int x1, .int x2, .int x3, .int x4] h Q := zcon0 (by decide +kernel) eX10_within (Nat.le_of_ble_eq_true rfl) rfl B
set_option maxRecDepth 100000 in
set_option maxHeartbeats 4000000 in
theorem sg_X10_keenIn_0 {G : zG} {d : Nat} {h : zMem} {Q : Int32 → zMem → Prop} {x1 : Int32} {x2 : Int32} {x3 : Int32} (hS : zSh2 h)  (B : ∃ Q1 : Int32 → zMem → Prop, zConI G mX10_partIn d [.ref 132, .int x3] h Q1 ∧ (∀ v4 h2, Q1 v4 h2 → zSh2 h2 ∧ vp_in x2 10 ∧ ∃ Q6 : zMem → Prop, zConV G mX10_calls d [.ref 132, .int x1, .int (0 : Int32), .int v4, .int (0 : Int32), .int (0 : Int32), .int x3, .int (zI h2 144 x2.toNatClampNeg)] h2 Q6 ∧ (∀ h7, Q6 h7 → zSh2 h7 ∧ ∃ Q9 : Int32 → zMem → Prop, zConI G mX10_within d [.ref 132, .int (1 : Int32), .int (1 : Int32), .int (99 : Int32), .int (zI h7 144 x2.toNatClampNeg)] h7 Q9 ∧ (∀ v12 h10, Q9 v12 h10 → zSh2 h10 ∧ Q v12 h10)))) : zg G mX10_keenIn (d + 1) 0 [.ref 132, .int x1, .int x2, .int x3] [] h (zPI Q) := by
  refine z_aload_n 0 rfl rfl ?_
  refine z_iload_n 1 rfl rfl ?_
  refine z_iconst (v := 0) 2 rfl (by decide) ?_
  refine z_aload_n 3 rfl rfl ?_
  refine z_iload_n 4 rfl rfl ?_
  obtain ⟨Q1, K3, B⟩ := B
  refine z_cVI1 (ν := mX10_partIn) 5 rfl rfl fX10_partIn gX10_368 ⟨_, rfl, rfl⟩ (by decide) (zcl1.o hS 132 9 rfl rfl rfl) (Nat.le_of_ble_eq_true rfl) K3 (fun v4 h2 q => ?_)
  obtain ⟨hSh2, B⟩ := B v4 h2 q
  refine z_iconst (v := 0) 6 rfl (by decide) ?_
  refine z_iconst (v := 0) 7 rfl (by decide) ?_
  refine z_iload_n 8 rfl rfl ?_
  refine z_aload_n 9 rfl rfl ?_
  refine z_getR 10 rfl lX10_43 rfl (zcl1.o hSh2 132 9 rfl rfl rfl) (zcl1.r hSh2 132 13 144 rfl rfl rfl) ?_
  refine z_iload_n 11 rfl rfl ?_
  obtain ⟨o5, B⟩ := B
  refine z_iald 12 rfl (zcl1.o hSh2 144 100 rfl rfl rfl) (zin (zcl1.l hSh2 144 10 rfl rfl rfl) o5) ?_
  obtain ⟨Q6, K8, B⟩ := B
  refine z_cVV7 (ν := mX10_calls) 13 rfl rfl fX10_calls gX10_371 ⟨_, rfl, rfl⟩ (by decide) (zcl1.o hSh2 132 9 rfl rfl rfl) (Nat.le_of_ble_eq_true rfl) K8 (fun h7 q => ?_)
  obtain ⟨hSh7, B⟩ := B h7 q
  refine z_aload_n 14 rfl rfl ?_
  refine z_iconst (v := 1) 15 rfl (by decide) ?_
  refine z_iconst (v := 1) 16 rfl (by decide) ?_
  refine z_bipush (v := 99) 17 rfl (by decide) ?_
  refine z_aload_n 18 rfl rfl ?_
  refine z_getR 19 rfl lX10_43 rfl (zcl1.o hSh7 132 9 rfl rfl rfl) (zcl1.r hSh7 132 13 144 rfl rfl rfl) ?_
  refine z_iload_n 20 rfl rfl ?_
  refine z_iald 21 rfl (zcl1.o hSh7 144 100 rfl rfl rfl) (zin (zcl1.l hSh7 144 10 rfl rfl rfl) o5) ?_
  obtain ⟨Q9, K11, B⟩ := B
  refine z_cVI4 (ν := mX10_within) 22 rfl rfl fX10_within gX10_375 ⟨_, rfl, rfl⟩ (by decide) (zcl1.o hSh7 132 9 rfl rfl rfl) (Nat.le_of_ble_eq_true rfl) K11 (fun v12 h10 q => ?_)
  obtain ⟨hSh10, B⟩ := B v12 h10 q
  exact z_iret 23 rfl rfl rfl ⟨rfl, rfl⟩ ⟨_, rfl, B⟩
theorem cn_X10_keenIn {G : zG} {d : Nat} {h : zMem} {Q : Int32 → zMem → Prop} {x1 : Int32} {x2 : Int32} {x3 : Int32} (B : zg G mX10_keenIn (d + 1) 0 [.ref 132, .int x1, .int x2, .int x3] [] h (zPI Q)) : zConI G mX10_keenIn (d + 1) [.ref 132, .int x1, .int x2, .int x3] h Q := zcon0 (by decide +kernel) eX10_keenIn (Nat.le_of_ble_eq_true rfl) rfl B
set_option maxRecDepth 100000 in
set_option maxHeartbeats 4000000 in
theorem sg_X10_keenOf_0 {G : zG} {d : Nat} {h : zMem} {Q : Int32 → zMem → Prop} {x1 : Int32} {x2 : Int32} (hS : zSh2 h)  (B : vp_in (((5 : Int32) * x1) + x2) 115 ∧ ∃ Q2 : Int32 → zMem → Prop, zConI G mX10_keenIn d [.ref 132, .int x1, .int x2, .int (zI h 159 (((5 : Int32) * x1) + x2).toNatClampNeg)] h Q2 ∧ (∀ v5 h3, Q2 v5 h3 → zSh2 h3 ∧ Q v5 h3)) : zg G mX10_keenOf (d + 1) 0 [.ref 132, .int x1, .int x2] [] h (zPI Q) := by
  refine z_aload_n 0 rfl rfl ?_
  refine z_iload_n 1 rfl rfl ?_
  refine z_iload_n 2 rfl rfl ?_
  refine z_aload_n 3 rfl rfl ?_
  refine z_getR 4 rfl lX10_93 rfl (zcl1.o hS 132 9 rfl rfl rfl) (zcl1.r hS 132 42 159 rfl rfl rfl) ?_
  refine z_iconst (v := 5) 5 rfl (by decide) ?_
  refine z_iload_n 6 rfl rfl ?_
  refine z_imul 7 rfl ?_
  refine z_iload_n 8 rfl rfl ?_
  refine z_iadd 9 rfl ?_
  obtain ⟨o1, B⟩ := B
  refine z_iald 10 rfl (zcl1.o hS 159 100 rfl rfl rfl) (zin (zcl1.l hS 159 115 rfl rfl rfl) o1) ?_
  obtain ⟨Q2, K4, B⟩ := B
  refine z_cVI3 (ν := mX10_keenIn) 11 rfl rfl fX10_keenIn gX10_379 ⟨_, rfl, rfl⟩ (by decide) (zcl1.o hS 132 9 rfl rfl rfl) (Nat.le_of_ble_eq_true rfl) K4 (fun v5 h3 q => ?_)
  obtain ⟨hSh3, B⟩ := B v5 h3 q
  exact z_iret 12 rfl rfl rfl ⟨rfl, rfl⟩ ⟨_, rfl, B⟩
theorem cn_X10_keenOf {G : zG} {d : Nat} {h : zMem} {Q : Int32 → zMem → Prop} {x1 : Int32} {x2 : Int32} (B : zg G mX10_keenOf (d + 1) 0 [.ref 132, .int x1, .int x2] [] h (zPI Q)) : zConI G mX10_keenOf (d + 1) [.ref 132, .int x1, .int x2] h Q := zcon0 (by decide +kernel) eX10_keenOf (Nat.le_of_ble_eq_true rfl) rfl B
set_option maxRecDepth 100000 in
set_option maxHeartbeats 4000000 in
theorem sg_X10_coldsOf_0 {G : zG} {d : Nat} {h : zMem} {Q : Int32 → zMem → Prop} {x1 : Int32} {x2 : Int32} (hS : zSh2 h)  (B : (¬ (zI h 132 48) = (2 : Int32) → vp_in (((5 : Int32) * x1) + x2) 115 ∧ Q (zI h 160 (((5 : Int32) * x1) + x2).toNatClampNeg) h) ∧ ((zI h 132 48) = (2 : Int32) → Q (0 : Int32) h)) : zg G mX10_coldsOf d 0 [.ref 132, .int x1, .int x2] [] h (zPI Q) := by
  refine z_aload_n 0 rfl rfl ?_
  refine z_getI 1 rfl lX10_349 rfl (zcl1.o hS 132 9 rfl rfl rfl) ?_
  refine z_iconst (v := 2) 2 rfl (by decide) ?_
  refine z_icmp_ne 3 12 rfl (by decide) ⟨fun c1 => ?_, fun c1 => ?_⟩
  · have B := B.1 c1
    refine z_aload_n 6 rfl rfl ?_
    refine z_getR 7 rfl lX10_96 rfl (zcl1.o hS 132 9 rfl rfl rfl) (zcl1.r hS 132 43 160 rfl rfl rfl) ?_
    refine z_iconst (v := 5) 8 rfl (by decide) ?_
    refine z_iload_n 9 rfl rfl ?_
    refine z_imul 10 rfl ?_
    refine z_iload_n 11 rfl rfl ?_
    refine z_iadd 12 rfl ?_
    obtain ⟨o2, B⟩ := B
    refine z_iald 13 rfl (zcl1.o hS 160 100 rfl rfl rfl) (zin (zcl1.l hS 160 115 rfl rfl rfl) o2) ?_
    exact z_iret 14 rfl rfl rfl ⟨rfl, rfl⟩ ⟨_, rfl, B⟩
  · have B := B.2 c1
    refine z_iconst (v := 0) 4 rfl (by decide) ?_
    refine z_goto 5 22 rfl (by decide) ?_
    exact z_iret 14 rfl rfl rfl ⟨rfl, rfl⟩ ⟨_, rfl, B⟩
theorem cn_X10_coldsOf {G : zG} {d : Nat} {h : zMem} {Q : Int32 → zMem → Prop} {x1 : Int32} {x2 : Int32} (B : zg G mX10_coldsOf d 0 [.ref 132, .int x1, .int x2] [] h (zPI Q)) : zConI G mX10_coldsOf d [.ref 132, .int x1, .int x2] h Q := zcon0 (by decide +kernel) eX10_coldsOf (Nat.le_of_ble_eq_true rfl) rfl B
set_option maxRecDepth 100000 in
set_option maxHeartbeats 4000000 in
theorem sg_X10_worthOf_0 {G : zG} {d : Nat} {h : zMem} {Q : Int32 → zMem → Prop} {x1 : Int32} {x2 : Int32} (hS : zSh2 h)  (B : vp_in (((6 : Int32) * x1) + x2) 138 ∧ ∃ Q2 : zMem → Prop, zConV G mX10_calls d [.ref 132, .int x1, .int (zI h 156 (((6 : Int32) * x1) + x2).toNatClampNeg), .int (0 : Int32), .int (0 : Int32), .int (0 : Int32), .int (0 : Int32), .int (0 : Int32)] h Q2 ∧ (∀ h3, Q2 h3 → zSh2 h3 ∧ ∃ Q5 : Int32 → zMem → Prop, zConI G mX10_within d [.ref 132, .int (2 : Int32), .int (0 : Int32), .int (999 : Int32), .int (1 : Int32)] h3 Q5 ∧ (∀ v8 h6, Q5 v8 h6 → zSh2 h6 ∧ Q v8 h6))) : zg G mX10_worthOf (d + 1) 0 [.ref 132, .int x1, .int x2] [] h (zPI Q) := by
  refine z_aload_n 0 rfl rfl ?_
  refine z_iload_n 1 rfl rfl ?_
  refine z_aload_n 2 rfl rfl ?_
  refine z_getR 3 rfl lX10_84 rfl (zcl1.o hS 132 9 rfl rfl rfl) (zcl1.r hS 132 39 156 rfl rfl rfl) ?_
  refine z_bipush (v := 6) 4 rfl (by decide) ?_
  refine z_iload_n 5 rfl rfl ?_
  refine z_imul 6 rfl ?_
  refine z_iload_n 7 rfl rfl ?_
  refine z_iadd 8 rfl ?_
  obtain ⟨o1, B⟩ := B
  refine z_iald 9 rfl (zcl1.o hS 156 100 rfl rfl rfl) (zin (zcl1.l hS 156 138 rfl rfl rfl) o1) ?_
  refine z_iconst (v := 0) 10 rfl (by decide) ?_
  refine z_iconst (v := 0) 11 rfl (by decide) ?_
  refine z_iconst (v := 0) 12 rfl (by decide) ?_
  refine z_iconst (v := 0) 13 rfl (by decide) ?_
  refine z_iconst (v := 0) 14 rfl (by decide) ?_
  obtain ⟨Q2, K4, B⟩ := B
  refine z_cVV7 (ν := mX10_calls) 15 rfl rfl fX10_calls gX10_371 ⟨_, rfl, rfl⟩ (by decide) (zcl1.o hS 132 9 rfl rfl rfl) (Nat.le_of_ble_eq_true rfl) K4 (fun h3 q => ?_)
  obtain ⟨hSh3, B⟩ := B h3 q
  refine z_aload_n 16 rfl rfl ?_
  refine z_iconst (v := 2) 17 rfl (by decide) ?_
  refine z_iconst (v := 0) 18 rfl (by decide) ?_
  refine z_sipush (v := 999) 19 rfl (by decide) ?_
  refine z_iconst (v := 1) 20 rfl (by decide) ?_
  obtain ⟨Q5, K7, B⟩ := B
  refine z_cVI4 (ν := mX10_within) 21 rfl rfl fX10_within gX10_375 ⟨_, rfl, rfl⟩ (by decide) (zcl1.o hSh3 132 9 rfl rfl rfl) (Nat.le_of_ble_eq_true rfl) K7 (fun v8 h6 q => ?_)
  obtain ⟨hSh6, B⟩ := B v8 h6 q
  exact z_iret 22 rfl rfl rfl ⟨rfl, rfl⟩ ⟨_, rfl, B⟩
theorem cn_X10_worthOf {G : zG} {d : Nat} {h : zMem} {Q : Int32 → zMem → Prop} {x1 : Int32} {x2 : Int32} (B : zg G mX10_worthOf (d + 1) 0 [.ref 132, .int x1, .int x2] [] h (zPI Q)) : zConI G mX10_worthOf (d + 1) [.ref 132, .int x1, .int x2] h Q := zcon0 (by decide +kernel) eX10_worthOf (Nat.le_of_ble_eq_true rfl) rfl B
