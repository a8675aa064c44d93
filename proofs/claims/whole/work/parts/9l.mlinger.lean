/-! the model's lines: linger, seed -/
section ML
variable {G : zG} {d n p i : Nat} {h1 h : zMem} {B : Nat → Int32} {A : tM}
/-- a field of what is told, and a number of the model's -/
theorem mA_num {h' : zMem} {j : Nat} {v : Int32} (w8 : mny A 1 ≤ 8) (q : mA A (zI h)) (hj : j = 10 ∨ j = 11 ∨ j = 12) (ec : ∀ c, c ≠ 132 → c ≠ 134 → zI h' c = zI h c) (e30 : zI h' 132 30 = zI h 132 30) (e134 : ∀ k, k ≠ 13 → k ≠ 14 → zI h' 134 k = zI h 134 k) (hl : mLg (zup A 0 j v) (zI h')) (ht : mTb (zup A 0 j v) (zI h')) : mA (zup A 0 j v) (zI h') := by
  obtain ⟨q1, q2, q3, q4, q5, q6, q7, q8, q9⟩ := q
  obtain ⟨A', hA⟩ : ∃ A', A' = zup A 0 j v := ⟨_, rfl⟩
  rw [← hA] at hl ht ⊢
  have a : ∀ c, c ≠ 0 → A' c = A c := fun c hc => by rw [hA, zup_ne _ _ hc]
  have a9 : A' 0 9 = A 0 9 := by rw [hA, zup_i _ _ _ (by omega)]
  exact ⟨mSt_E q1 (by rw [a 1 (by decide)]) (a 3 (by decide)) (a 7 (by decide)) (e134 8 (by decide) (by decide)) (ec 135 (by decide) (by decide)) (ec 136 (by decide) (by decide)), mDy_E q2 (by rw [a 1 (by decide)]) (a 4 (by decide)) (a 8 (by decide)) (e134 9 (by decide) (by decide)) (ec 137 (by decide) (by decide)) (ec 138 (by decide) (by decide)), mMx_E q3 a9 (by rw [a 1 (by decide)]) (fun k _ => a _ (by omega)) (e134 10 (by decide) (by decide)) (ec 139 (by decide) (by decide)) w8, mRm_E q4 (by rw [a 1 (by decide)]) (a 5 (by decide)) (a 18 (by decide)) (e134 11 (by decide) (by decide)) (ec 140 (by decide) (by decide)) (ec 141 (by decide) (by decide)), mMk_E q5 (by rw [a 1 (by decide)]) (by unfold mny; rw [a 1 (by decide)]; exact Nat.le_refl _) (a 6 (by decide)) (a 19 (by decide)) (a 20 (by decide)) (e134 12 (by decide) (by decide)) (ec 142 (by decide) (by decide)) (ec 143 (by decide) (by decide)) (ec 144 (by decide) (by decide)), hl, ht, mLw_E q8 (a 24 (by decide)) (a 25 (by decide)) (a 26 (by decide)) (by rw [a 21 (by decide)]) (ec 145 (by decide) (by decide)) (ec 146 (by decide) (by decide)) (ec 147 (by decide) (by decide)) (ec 148 (by decide) (by decide)), kS_E q9 (a 21 (by decide)) (a 22 (by decide)) (a 23 (by decide)) (e134 15 (by decide) (by decide)) e30 (ec 147 (by decide) (by decide)) (ec 148 (by decide) (by decide))⟩
theorem mA.set5 (w8 : mny A 1 ≤ 8) (q : mA A (zI h)) : mA (zup A 0 11 1) (zI (zsI h 132 18 (zI h 132 18 ||| ((1 : Int32) <<< (nI 5 &&& 31))))) := by
  have e18 : zI (zsI h 132 18 (zI h 132 18 ||| ((1 : Int32) <<< (nI 5 &&& 31)))) 132 18 = zI h 132 18 ||| ((1 : Int32) <<< (nI 5 &&& 31)) := by rw [zI_sI, zup_s]
  refine mA_num w8 q (by omega) (fun c a _ => by rw [zI_sI, zup_ne _ _ a]) (by rw [zI_sI, zup_i _ _ _ (by decide)]) (fun k _ _ => by rw [zI_sI, zup_ne _ _ (by decide)]) (mLg_E q.2.2.2.2.2.1 (by rw [zup_i _ _ _ (by decide)]) (by rw [zI_sI, zup_ne _ _ (by decide)])) ?_
  obtain ⟨t1, t2, t3⟩ := q.2.2.2.2.2.2.1
  unfold mTb
  rw [e18]
  refine ⟨?_, ?_, fun r hr => ?_⟩
  · rw [tb_set _ (by decide) (by decide), zup_s]
    exact ⟨fun _ => by decide, fun _ => Or.inl rfl⟩
  · rw [tb_set _ (by decide) (by decide), zup_i _ _ _ (by decide)]
    exact ⟨fun z => z.elim (fun y => absurd y (by decide)) t2.mp, fun z => Or.inr (t2.mpr z)⟩
  · rw [tb_set _ (by decide) (by omega), zup_ne _ _ (by decide)]
    exact ⟨fun z => z.elim (fun y => absurd y (by omega)) (t3 r hr).mp, fun z => Or.inr ((t3 r hr).mpr z)⟩
theorem mA.set6 (w8 : mny A 1 ≤ 8) (q : mA A (zI h)) : mA (zup A 0 12 1) (zI (zsI h 132 18 (zI h 132 18 ||| ((1 : Int32) <<< (nI 6 &&& 31))))) := by
  have e18 : zI (zsI h 132 18 (zI h 132 18 ||| ((1 : Int32) <<< (nI 6 &&& 31)))) 132 18 = zI h 132 18 ||| ((1 : Int32) <<< (nI 6 &&& 31)) := by rw [zI_sI, zup_s]
  refine mA_num w8 q (by omega) (fun c a _ => by rw [zI_sI, zup_ne _ _ a]) (by rw [zI_sI, zup_i _ _ _ (by decide)]) (fun k _ _ => by rw [zI_sI, zup_ne _ _ (by decide)]) (mLg_E q.2.2.2.2.2.1 (by rw [zup_i _ _ _ (by decide)]) (by rw [zI_sI, zup_ne _ _ (by decide)])) ?_
  obtain ⟨t1, t2, t3⟩ := q.2.2.2.2.2.2.1
  unfold mTb
  rw [e18]
  refine ⟨?_, ?_, fun r hr => ?_⟩
  · rw [tb_set _ (by decide) (by decide), zup_i _ _ _ (by decide)]
    exact ⟨fun z => z.elim (fun y => absurd y (by decide)) t1.mp, fun z => Or.inr (t1.mpr z)⟩
  · rw [tb_set _ (by decide) (by decide), zup_s]
    exact ⟨fun _ => by decide, fun _ => Or.inl rfl⟩
  · rw [tb_set _ (by decide) (by omega), zup_ne _ _ (by decide)]
    exact ⟨fun z => z.elim (fun y => absurd y (by omega)) (t3 r hr).mp, fun z => Or.inr ((t3 r hr).mpr z)⟩
theorem ml_linger {Q : zMem → Prop} {x1 : Int32} {h3 : zMem} (hG : gK G) (b : mBs h1 n B) (w8 : mny A 1 ≤ 8) (q : mok h1 n B (tke B n p) h3) (m : mA (zup A 0 11 1) (zI h3)) (c0 : A 0 11 = 0) (e29 : zI h3 132 29 = 0) (e19 : zI h3 132 19 = nI i) (K : ∀ h', mlR h1 n B i (lnLinger B n A p) h' → Q h') :
    ∃ Q98 : Int32 → zMem → Prop, zConI G mX10_numeral (d + 12) [.ref 132, .int (0), .int (100)] h3 Q98 ∧ (∀ v101 h99, Q98 v101 h99 → zSh2 h99 ∧ ∃ Q102 : zMem → Prop, zConV G mX10_reads (d + 12) [.ref 132, .int (5), .int v101] h99 Q102 ∧ (∀ h103, Q102 h103 → zSh2 h103 ∧ zg G mX10_line (d + 13) 399 [.ref 132, .int x1, zU, zU, zU] [] h103 (zPV Q))) := by
  unfold lnLinger at K
  rw [if_pos c0] at K
  refine m_numeral (a := 0) (b0 := 100) (d := d) hG b q (by decide) (by decide) (fun h6 c6 q6 t6 => ?_) (fun h6 c6 b6 t6 => ?_)
  · rw [if_pos (show nmX B n (tke B n p) 0 100 = 0 from c6)] at K
    obtain ⟨y, _, hy, ey⟩ := nm_nat (by decide) (by decide) c6
    refine m_reads (q6.1.sh b) (j := 5) (by decide) ?_
    have q7 := q6.up (c := 134) (j := 8 + 5) (v := tkn B n (tke B n p)) (by unfold hfT; simp)
    have m6 := m.tok t6
    have w8' : mny (zup A 0 11 1) 1 ≤ 8 := by unfold mny at *; rw [zup_ne _ _ (by decide)]; exact w8
    have m7 : mA (zup (zup A 0 11 1) 0 10 (tkn B n (tke B n p))) (zI (zsI h6 134 (8 + 5) (tkn B n (tke B n p)))) := by
      refine mA_num w8' m6 (by omega) (fun c _ a2 => by rw [zI_sI, zup_ne _ _ a2]) (by rw [zI_sI, zup_ne _ _ (by decide)]) (fun k a _ => by rw [zI_sI, zup_i _ _ _ a]) ⟨?_, y, hy, ?_⟩ (mTb_E m6.2.2.2.2.2.2.1 ?_ ?_ ?_ ?_ ?_ (fun r _ => ?_))
      · rw [zI_sI, zup_s, zup_s]
      · rw [zup_s, ey]
      · rw [zup_i _ _ _ (by decide)]
      · rw [zup_i _ _ _ (by decide)]
      · rw [zup_ne _ _ (by decide)]
      · rw [zI_sI, zup_ne _ _ (by decide)]
      · rw [zI_sI, zup_ne _ _ (by decide)]
      · rw [zI_sI, zup_ne _ _ (by decide)]
    exact ml_tail (d := d + 1) hG b q7 m7 (by rw [zI_sI, zup_ne _ _ (by decide), t6.2 29 (by decide)]; exact e29) (by rw [zI_sI, zup_ne _ _ (by decide), t6.2 19 (by decide)]; exact e19) K
  · rw [if_neg (show ¬ nmX B n (tke B n p) 0 100 = 0 from c6)] at K
    refine m_reads (b6.1.sh b) (j := 5) (by decide) ?_
    have b7 := b6.up (c := 134) (j := 8 + 5) (v := nI 0) (by unfold hfT; simp)
    exact ml_tailF (d := d + 1) b b7 (K _ b7)
theorem mA.up14 {v : Int32} (q : mA A (zI h)) : mA A (zI (zsI h 134 14 v)) := by
  obtain ⟨q1, q2, q3, q4, q5, q6, q7, q8, q9⟩ := q
  have ne : ∀ c, c ≠ 134 → zI (zsI h 134 14 v) c = zI h c := fun c hc => by rw [zI_sI, zup_ne _ _ hc]
  have e : ∀ j, j ≠ 14 → zI (zsI h 134 14 v) 134 j = zI h 134 j := fun j hj => by rw [zI_sI, zup_i _ _ _ hj]
  unfold mA mSt mDy mMx mRm mMk mLg mTb mLw kS
  rw [ne 132 (by decide), ne 135 (by decide), ne 136 (by decide), ne 137 (by decide), ne 138 (by decide), ne 139 (by decide), ne 140 (by decide), ne 141 (by decide), ne 142 (by decide), ne 143 (by decide), ne 144 (by decide), ne 145 (by decide), ne 146 (by decide), ne 147 (by decide), ne 148 (by decide), e 8 (by decide), e 9 (by decide), e 10 (by decide), e 11 (by decide), e 12 (by decide), e 13 (by decide), e 15 (by decide)]
  exact ⟨q1, q2, q3, q4, q5, q6, q7, q8, q9⟩
theorem ml_seed {Q : zMem → Prop} {x1 : Int32} {h3 : zMem} (hG : gK G) (b : mBs h1 n B) (q : mok h1 n B (tke B n p) h3) (m : mA (zup A 0 12 1) (zI h3)) (c0 : A 0 12 = 0) (e29 : zI h3 132 29 = 0) (e19 : zI h3 132 19 = nI i) (K : ∀ h', mlR h1 n B i (lnSeed B n A p) h' → Q h') :
    ∃ Q98 : Int32 → zMem → Prop, zConI G mX10_numeral (d + 12) [.ref 132, .int (0), .int (99999)] h3 Q98 ∧ (∀ v101 h99, Q98 v101 h99 → zSh2 h99 ∧ ∃ Q102 : zMem → Prop, zConV G mX10_reads (d + 12) [.ref 132, .int (6), .int v101] h99 Q102 ∧ (∀ h103, Q102 h103 → zSh2 h103 ∧ zg G mX10_line (d + 13) 399 [.ref 132, .int x1, zU, zU, zU] [] h103 (zPV Q))) := by
  unfold lnSeed at K
  rw [if_pos c0] at K
  refine m_numeral (a := 0) (b0 := 99999) (d := d) hG b q (by decide) (by decide) (fun h6 c6 q6 t6 => ?_) (fun h6 c6 b6 t6 => ?_)
  · rw [if_pos (show nmX B n (tke B n p) 0 99999 = 0 from c6)] at K
    refine m_reads (q6.1.sh b) (j := 6) (by decide) ?_
    have q7 := q6.up (c := 134) (j := 8 + 6) (v := tkn B n (tke B n p)) (by unfold hfT; simp)
    have m7 := (m.tok t6).up14 (v := tkn B n (tke B n p))
    exact ml_tail (d := d + 1) hG b q7 m7 (by rw [zI_sI, zup_ne _ _ (by decide), t6.2 29 (by decide)]; exact e29) (by rw [zI_sI, zup_ne _ _ (by decide), t6.2 19 (by decide)]; exact e19) K
  · rw [if_neg (show ¬ nmX B n (tke B n p) 0 99999 = 0 from c6)] at K
    refine m_reads (b6.1.sh b) (j := 6) (by decide) ?_
    have b7 := b6.up (c := 134) (j := 8 + 6) (v := nI 0) (by unfold hfT; simp)
    exact ml_tailF (d := d + 1) b b7 (K _ b7)
end ML
