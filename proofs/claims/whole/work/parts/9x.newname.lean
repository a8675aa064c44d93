set_option maxRecDepth 100000 in
set_option maxHeartbeats 4000000 in
theorem sg_X3_newName_0 {G : zG} {d : Nat} {h : zMem} {Q : Int32 → zMem → Prop} {t : Nat} {x1 : Int32} (hS : zSh1 h t)  (w : gW G) (B : vp_in x1 4 ∧ ((zI h ((111 - t) + 1) x1.toNatClampNeg) < (mst x1.toNatClampNeg) → ∃ Q3 : zMem → Prop, zConV G mX4_advance d [.ref 3] h Q3 ∧ (∀ h4, Q3 h4 → zSh1 h4 t ∧ ((zI h4 3 4) = (35 : Int32) → ∃ Q7 : Int32 → zMem → Prop, zConI G mX7_numberOf d [.ref (111 - t), .int x1, .int (zI h4 3 6)] h4 Q7 ∧ (∀ v10 h8, Q7 v10 h8 → zSh1 h8 t ∧ (v10 = (-1 : Int32) → vp_in (zI h ((111 - t) + 1) x1.toNatClampNeg) 8 ∧ ∃ Q13 : zMem → Prop, zConV G mX4_advance d [.ref 3] (zsI (zsI h8 ((111 - t) + 2 + 1 + x1.toNatClampNeg) (zI h ((111 - t) + 1) x1.toNatClampNeg).toNatClampNeg (zI h8 3 6)) ((111 - t) + 1) x1.toNatClampNeg ((zI (zsI h8 ((111 - t) + 2 + 1 + x1.toNatClampNeg) (zI h ((111 - t) + 1) x1.toNatClampNeg).toNatClampNeg (zI h8 3 6)) ((111 - t) + 1) x1.toNatClampNeg) + (1 : Int32))) Q13 ∧ (∀ h14, Q13 h14 → zSh1 h14 t ∧ Q (zI h ((111 - t) + 1) x1.toNatClampNeg) h14)) ∧ (¬ v10 = (-1 : Int32) → ∃ Q16 : Int32 → zMem → Prop, zConI G mX3_wrong d [.ref 2, .int (3 : Int32)] h8 Q16 ∧ (∀ v19 h17, Q16 v19 h17 → zSh1 h17 t ∧ Q v19 h17)))) ∧ (¬ (zI h4 3 4) = (35 : Int32) → ∃ Q20 : Int32 → zMem → Prop, zConI G mX3_wrong d [.ref 2, .int (1 : Int32)] h4 Q20 ∧ (∀ v23 h21, Q20 v23 h21 → zSh1 h21 t ∧ Q v23 h21)))) ∧ (¬ (zI h ((111 - t) + 1) x1.toNatClampNeg) < (mst x1.toNatClampNeg) → ∃ Q24 : Int32 → zMem → Prop, zConI G mX3_wrong d [.ref 2, .int (2 : Int32)] h Q24 ∧ (∀ v27 h25, Q24 v27 h25 → zSh1 h25 t ∧ Q v27 h25))) : zg G mX3_newName (d + 1) 0 [.ref 2, .int x1, zU] [] h (zPI Q) := by
  refine z_aload_n 0 rfl rfl ?_
  refine z_getR 1 rfl lX3_28 rfl (hS.1.o 2 3 rfl rfl rfl) hS.2.2.2 ?_
  refine z_getR 2 rfl lX3_153 rfl (zS_to hS hS.2.1.other 0 6 rfl rfl) (zS_tr hS hS.2.1.other 0 0 1 rfl rfl rfl) ?_
  refine z_iload_n 3 rfl rfl ?_
  obtain ⟨o1, B⟩ := B
  refine z_iald 4 rfl (zS_to hS hS.2.1.other 1 100 rfl rfl) (zin (zS_tl hS hS.2.1.other 1 4 rfl rfl) o1) ?_
  refine z_istore_n 5 rfl (by decide) rfl ?_
  refine z_iload_n 6 rfl rfl ?_
  refine z_gets (v := .ref 1000000) 7 rfl lX3_156 w.most.1 ?_
  refine z_iload_n 8 rfl rfl ?_
  refine z_tiX 9 rfl w.most.2 o1 ?_
  refine z_icmp_lt 10 25 rfl (by decide) ⟨fun c2 => ?_, fun c2 => ?_⟩
  · have B := B.1 c2
    refine z_aload_n 15 rfl rfl ?_
    refine z_getR 16 rfl lX3_12 rfl (hS.1.o 2 3 rfl rfl rfl) (hS.1.r 2 0 3 rfl rfl rfl) ?_
    obtain ⟨Q3, K5, B⟩ := B
    refine z_cVV0 (ν := mX4_advance) 17 rfl rfl fX4_advance gX3_100 ⟨_, rfl, rfl⟩ (by decide) (hS.1.o 3 4 rfl rfl rfl) (Nat.le_of_ble_eq_true rfl) K5 (fun h4 q => ?_)
    obtain ⟨hSh4, B⟩ := B h4 q
    refine z_aload_n 18 rfl rfl ?_
    refine z_getR 19 rfl lX3_12 rfl (hSh4.1.o 2 3 rfl rfl rfl) (hSh4.1.r 2 0 3 rfl rfl rfl) ?_
    refine z_getI 20 rfl lX3_46 rfl (hSh4.1.o 3 4 rfl rfl rfl) ?_
    refine z_bipush (v := 35) 21 rfl (by decide) ?_
    refine z_icmp_eq 22 50 rfl (by decide) ⟨fun c6 => ?_, fun c6 => ?_⟩
    · have B := B.1 c6
      refine z_aload_n 27 rfl rfl ?_
      refine z_getR 28 rfl lX3_28 rfl (hSh4.1.o 2 3 rfl rfl rfl) hSh4.2.2.2 ?_
      refine z_iload_n 29 rfl rfl ?_
      refine z_aload_n 30 rfl rfl ?_
      refine z_getR 31 rfl lX3_12 rfl (hSh4.1.o 2 3 rfl rfl rfl) (hSh4.1.r 2 0 3 rfl rfl rfl) ?_
      refine z_getI 32 rfl lX3_159 rfl (hSh4.1.o 3 4 rfl rfl rfl) ?_
      obtain ⟨Q7, K9, B⟩ := B
      refine z_cVI2 (ν := mX7_numberOf) 33 rfl rfl fX7_numberOf gX3_162 ⟨_, rfl, rfl⟩ (by decide) (zS_to hSh4 hSh4.2.1.other 0 6 rfl rfl) (Nat.le_of_ble_eq_true rfl) K9 (fun v10 h8 q => ?_)
      obtain ⟨hSh8, B⟩ := B v10 h8 q
      refine z_iconst (v := -1) 34 rfl (by decide) ?_
      refine z_icmp_eq 35 75 rfl (by decide) ⟨fun c11 => ?_, fun c11 => ?_⟩
      · have B := B.1 c11
        refine z_aload_n 40 rfl rfl ?_
        refine z_getR 41 rfl lX3_28 rfl (hSh8.1.o 2 3 rfl rfl rfl) hSh8.2.2.2 ?_
        refine z_getR 42 rfl lX3_165 rfl (zS_to hSh8 hSh8.2.1.other 0 6 rfl rfl) (zS_tr hSh8 hSh8.2.1.other 0 1 2 rfl rfl rfl) ?_
        refine z_iload_n 43 rfl rfl ?_
        refine z_aald 44 rfl (zS_to hSh8 hSh8.2.1.other 2 104 rfl rfl) (zin (zS_tl hSh8 hSh8.2.1.other 2 4 rfl rfl) o1) (zS_trow hSh8 hSh8.2.1.other 2 4 8 rfl rfl rfl o1).1 ?_
        refine z_iload_n 45 rfl rfl ?_
        refine z_aload_n 46 rfl rfl ?_
        refine z_getR 47 rfl lX3_12 rfl (hSh8.1.o 2 3 rfl rfl rfl) (hSh8.1.r 2 0 3 rfl rfl rfl) ?_
        refine z_getI 48 rfl lX3_159 rfl (hSh8.1.o 3 4 rfl rfl rfl) ?_
        obtain ⟨o12, B⟩ := B
        refine z_iast 49 rfl (zS_trow hSh8 hSh8.2.1.other 2 4 8 rfl rfl rfl o1).2.1 (zin (zS_trow hSh8 hSh8.2.1.other 2 4 8 rfl rfl rfl o1).2.2 o12) ?_
        refine z_aload_n 50 rfl rfl ?_
        refine z_getR 51 rfl lX3_28 rfl (hSh8.1.o 2 3 rfl rfl rfl) hSh8.2.2.2 ?_
        refine z_getR 52 rfl lX3_153 rfl (zS_to hSh8 hSh8.2.1.other 0 6 rfl rfl) (zS_tr hSh8 hSh8.2.1.other 0 0 1 rfl rfl rfl) ?_
        refine z_iload_n 53 rfl rfl ?_
        refine z_dup2 54 rfl rfl rfl ?_
        refine z_iald 55 rfl (zS_to hSh8 hSh8.2.1.other 1 100 rfl rfl) (zin (zS_tl hSh8 hSh8.2.1.other 1 4 rfl rfl) o1) ?_
        refine z_iconst (v := 1) 56 rfl (by decide) ?_
        refine z_iadd 57 rfl ?_
        refine z_iast 58 rfl (zS_to hSh8 hSh8.2.1.other 1 100 rfl rfl) (zin (zS_tl hSh8 hSh8.2.1.other 1 4 rfl rfl) o1) ?_
        refine z_aload_n 59 rfl rfl ?_
        refine z_getR 60 rfl lX3_12 rfl (hSh8.1.o 2 3 rfl rfl rfl) (hSh8.1.r 2 0 3 rfl rfl rfl) ?_
        obtain ⟨Q13, K15, B⟩ := B
        refine z_cVV0 (ν := mX4_advance) 61 rfl rfl fX4_advance gX3_100 ⟨_, rfl, rfl⟩ (by decide) (hSh8.1.o 3 4 rfl rfl rfl) (Nat.le_of_ble_eq_true rfl) K15 (fun h14 q => ?_)
        obtain ⟨hSh14, B⟩ := B h14 q
        refine z_iload_n 62 rfl rfl ?_
        exact z_iret 63 rfl rfl rfl ⟨rfl, rfl⟩ ⟨_, rfl, B⟩
      · have B := B.2 c11
        refine z_aload_n 36 rfl rfl ?_
        refine z_iconst (v := 3) 37 rfl (by decide) ?_
        obtain ⟨Q16, K18, B⟩ := B
        refine z_cVI1 (ν := mX3_wrong) 38 rfl rfl fX3_wrong gX3_79 ⟨_, rfl, rfl⟩ (by decide) (hSh8.1.o 2 3 rfl rfl rfl) (Nat.le_of_ble_eq_true rfl) K18 (fun v19 h17 q => ?_)
        obtain ⟨hSh17, B⟩ := B v19 h17 q
        exact z_iret 39 rfl rfl rfl ⟨rfl, rfl⟩ ⟨_, rfl, B⟩
    · have B := B.2 c6
      refine z_aload_n 23 rfl rfl ?_
      refine z_iconst (v := 1) 24 rfl (by decide) ?_
      obtain ⟨Q20, K22, B⟩ := B
      refine z_cVI1 (ν := mX3_wrong) 25 rfl rfl fX3_wrong gX3_79 ⟨_, rfl, rfl⟩ (by decide) (hSh4.1.o 2 3 rfl rfl rfl) (Nat.le_of_ble_eq_true rfl) K22 (fun v23 h21 q => ?_)
      obtain ⟨hSh21, B⟩ := B v23 h21 q
      exact z_iret 26 rfl rfl rfl ⟨rfl, rfl⟩ ⟨_, rfl, B⟩
  · have B := B.2 c2
    refine z_aload_n 11 rfl rfl ?_
    refine z_iconst (v := 2) 12 rfl (by decide) ?_
    obtain ⟨Q24, K26, B⟩ := B
    refine z_cVI1 (ν := mX3_wrong) 13 rfl rfl fX3_wrong gX3_79 ⟨_, rfl, rfl⟩ (by decide) (hS.1.o 2 3 rfl rfl rfl) (Nat.le_of_ble_eq_true rfl) K26 (fun v27 h25 q => ?_)
    obtain ⟨hSh25, B⟩ := B v27 h25 q
    exact z_iret 14 rfl rfl rfl ⟨rfl, rfl⟩ ⟨_, rfl, B⟩
theorem cn_X3_newName {G : zG} {d : Nat} {h : zMem} {Q : Int32 → zMem → Prop} {x1 : Int32} (B : zg G mX3_newName (d + 1) 0 [.ref 2, .int x1, zU] [] h (zPI Q)) : zConI G mX3_newName (d + 1) [.ref 2, .int x1] h Q := zcon0 (by decide +kernel) eX3_newName (Nat.le_of_ble_eq_true rfl) rfl B
section NW
variable {G : zG} {d t b n p : Nat} {h0 h : zMem} {B : Nat → Int32} {A : tM}
theorem mst_ok : ∀ k : Fin 4, mst k.val = nI (msT k.val) := by decide
theorem nwK_of (w : gW G) : nwK G := by
  intro d t b n p kd h0 h B A Q q r hk wA K1 K2
  have S := r.sh q
  have eb := q.2.2.2.2.1
  have hb := q.td.2
  obtain ⟨w1, w2⟩ := wA kd hk
  have m8 := msT_le kd
  refine ⟨fun v h3 => zSh1 h3 t ∧ Q v h3, cn_X3_newName (sg_X3_newName_0 S w ?_), fun _ _ x => x⟩
  rw [← eb, zcla (show kd < 2 ^ 31 by omega), r.row (by decide) (by decide), mst_ok ⟨kd, hk⟩]
  unfold nwX at K1 K2
  unfold nwP at K2
  refine ⟨zin_n hk (by decide), fun c => ?_, fun c => ?_⟩
  · have nc : ¬ nI (msT kd) ≤ A 1 kd := fun z => by
      rw [Int32.lt_iff_toInt_lt] at c
      rw [Int32.le_iff_toInt_le] at z
      have c' : (A 1 kd).toInt < (nI (msT kd)).toInt := c
      omega
    rw [if_neg nc] at K1 K2
    rw [if_neg nc] at K2
    have lt : mny A kd < msT kd := by
      rw [w1] at nc
      exact Nat.lt_of_not_le (fun z => nc (nI_le z (by omega)))
    refine rd_adv q r (fun h4 r4 e4 => ?_)
    have S4 := r4.sh q
    refine ⟨fun c1 => ?_, fun c1 => ?_⟩
    · rw [r4.tk q] at c1
      rw [if_pos c1] at K1 K2
      rw [r4.tl q c1]
      have eF : findF (zI h4 (b + 2 + 1 + kd)) (tkl B n (tke B n p)) (mny A kd) 0 = fnd A kd (tkl B n (tke B n p)) := by
        unfold fnd
        rw [show b + 2 + 1 + kd = b + (3 + kd) by omega, r4.row (by omega) (by omega)]
      refine ⟨_, X7_numberOf_ok S4 q.td.1 hk (by rw [r4.row (by decide) (by decide)]; exact w1) (by omega) (tkl B n (tke B n p)), ?_⟩
      rw [eF]
      rintro v h8 ⟨rfl, rfl⟩
      refine ⟨S4, fun c2 => ?_, fun c2 => ?_⟩
      · rw [if_pos c2] at K1
        rw [r4.tl q c1, w1, zcla (show mny A kd < 2 ^ 31 by omega)]
        refine ⟨zin_n (by omega) (by decide), ?_⟩
        have ev : zI (zsI h8 (b + 2 + 1 + kd) (mny A kd) (tkl B n (tke B n p))) (b + 1) kd = A 1 kd := by
          rw [zI_sI, zup_ne _ _ (show b + 1 ≠ b + 2 + 1 + kd by omega), r4.row (by decide) (by decide)]
        rw [ev]
        have r5 := (r4.put q (k := 3 + kd) (j := mny A kd) (v := tkl B n (tke B n p)) (by omega)).put q (k := 1) (j := kd) (v := A 1 kd + 1) (by omega)
        rw [show b + (3 + kd) = b + 2 + 1 + kd by omega] at r5
        refine rd_adv q r5 (fun h9 r9 e9 => ⟨r9.sh q, ?_⟩)
        rw [← w1]
        exact K1 h9 rfl r9
      · rw [if_neg c2] at K2
        exact rd_wrong q r4 3 (fun h' x => ⟨x.sh q, K2 h' (by decide) x⟩)
    · rw [r4.tk q] at c1
      rw [if_neg c1] at K2
      exact rd_wrong q r4 1 (fun h' x => ⟨x.sh q, K2 h' (by decide) x⟩)
  · have nc : nI (msT kd) ≤ A 1 kd := by
      rw [Int32.lt_iff_toInt_lt] at c
      rw [Int32.le_iff_toInt_le]
      have c' : ¬ (A 1 kd).toInt < (nI (msT kd)).toInt := c
      omega
    rw [if_pos nc] at K2
    rw [if_pos nc] at K2
    exact rd_wrong q r 2 (fun h' x => ⟨x.sh q, K2 h' (by decide) x⟩)
end NW
