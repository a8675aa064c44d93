/-! the model's lines: rooms, linger, seed -/
section ML
variable {G : zG} {d n p i : Nat} {h1 h : zMem} {B : Nat → Int32} {A : tM}
theorem mA_room {h' : zMem} {x : Int32} {y : Nat} (w : wfA A) (q : mA A (zI h)) (hy : y ≤ 100) (lt : mny A 2 < 6) (ec : ∀ c, c ≠ 132 → c ≠ 134 → c ≠ 140 → c ≠ 141 → zI h' c = zI h c) (e18 : zI h' 132 18 = zI h 132 18) (e30 : zI h' 132 30 = zI h 132 30) (e134 : ∀ j, j ≠ 11 → zI h' 134 j = zI h 134 j) (e8 : zI h' 134 11 = nI (mny A 2 + 1)) (e140 : ∀ j, j ≠ 6 + mny A 2 → zI h' 140 j = zI h 140 j) (e141 : ∀ j, j ≠ 6 + mny A 2 → zI h' 141 j = zI h 141 j) (x140 : zI h' 140 (6 + mny A 2) = x) (x141 : zI h' 141 (6 + mny A 2) = nI y) : mA (zup (zup (zup A 5 (mny A 2) x) 1 2 (A 1 2 + 1)) 18 (mny A 2) (nI y)) (zI h') := by
  obtain ⟨q1, q2, q3, q4, q5, q6, q7, q8, q9⟩ := q
  obtain ⟨A', hA⟩ : ∃ A', A' = zup (zup (zup A 5 (mny A 2) x) 1 2 (A 1 2 + 1)) 18 (mny A 2) (nI y) := ⟨_, rfl⟩
  rw [← hA]
  have a : ∀ c, c ≠ 1 → c ≠ 5 → c ≠ 18 → A' c = A c := fun c c1 c3 c7 => by rw [hA, zup_ne _ _ c7, zup_ne _ _ c1, zup_ne _ _ c3]
  have a1 : ∀ k, k ≠ 2 → A' 1 k = A 1 k := fun k hk => by rw [hA, zup_ne _ _ (by decide), zup_i _ _ _ hk, zup_ne _ _ (by decide)]
  have a10 : A' 1 2 = nI (mny A 2 + 1) := by rw [hA, zup_ne _ _ (by decide), zup_s, (w 2 (by decide)).1, nI_1]
  have a3 : ∀ k, A' 5 k = zup A 5 (mny A 2) x 5 k := fun k => by rw [hA, zup_ne _ _ (by decide), zup_ne _ _ (by decide)]
  have a7 : ∀ k, A' 18 k = if k = mny A 2 then nI y else A 18 k := fun k => by
    rw [hA]
    by_cases e : k = mny A 2
    · rw [if_pos e, e, zup_s]
    · rw [if_neg e, zup_i _ _ _ e, zup_ne _ _ (show 18 ≠ 1 by decide), zup_ne _ _ (show 18 ≠ 5 by decide)]
  have m0 : mny A' 2 = mny A 2 + 1 := by unfold mny at *; rw [a10, zcla (by omega)]
  have w8 := (w 1 (by decide)).2
  refine ⟨mSt_E q1 (a1 0 (by decide)) (a 3 (by decide) (by decide) (by decide)) (a 7 (by decide) (by decide) (by decide)) (e134 8 (by decide)) (ec 135 (by decide) (by decide) (by decide) (by decide)) (ec 136 (by decide) (by decide) (by decide) (by decide)), mDy_E q2 (a1 1 (by decide)) (a 4 (by decide) (by decide) (by decide)) (a 8 (by decide) (by decide) (by decide)) (e134 9 (by decide)) (ec 137 (by decide) (by decide) (by decide) (by decide)) (ec 138 (by decide) (by decide) (by decide) (by decide)), mMx_E q3 (by rw [a 0 (by decide) (by decide) (by decide)]) (a1 1 (by decide)) (fun k hk => a _ (by omega) (by omega) (by omega)) (e134 10 (by decide)) (ec 139 (by decide) (by decide) (by decide) (by decide)) w8, ⟨by rw [e8, a10], fun k hk => ?_⟩, mMk_E q5 (a1 3 (by decide)) (by rw [m0]; exact Nat.le_succ _) (a 6 (by decide) (by decide) (by decide)) (a 19 (by decide) (by decide) (by decide)) (a 20 (by decide) (by decide) (by decide)) (e134 12 (by decide)) (ec 142 (by decide) (by decide) (by decide) (by decide)) (ec 143 (by decide) (by decide) (by decide) (by decide)) (ec 144 (by decide) (by decide) (by decide) (by decide)), mLg_E q6 (by rw [a 0 (by decide) (by decide) (by decide)]) (e134 13 (by decide)), mTb_E q7 (by rw [a 0 (by decide) (by decide) (by decide)]) (by rw [a 0 (by decide) (by decide) (by decide)]) (a 26 (by decide) (by decide) (by decide)) (by rw [e18]) (by rw [e18]) (fun r _ => by rw [e18]), mLw_E q8 (a 24 (by decide) (by decide) (by decide)) (a 25 (by decide) (by decide) (by decide)) (a 26 (by decide) (by decide) (by decide)) (by rw [a 21 (by decide) (by decide) (by decide)]) (ec 145 (by decide) (by decide) (by decide) (by decide)) (ec 146 (by decide) (by decide) (by decide) (by decide)) (ec 147 (by decide) (by decide) (by decide) (by decide)) (ec 148 (by decide) (by decide) (by decide) (by decide)), kS_E q9 (a 21 (by decide) (by decide) (by decide)) (a 22 (by decide) (by decide) (by decide)) (a 23 (by decide) (by decide) (by decide)) (e134 15 (by decide)) e30 (ec 147 (by decide) (by decide) (by decide) (by decide)) (ec 148 (by decide) (by decide) (by decide) (by decide))⟩
  rw [m0] at hk
  rw [a3, a7]
  by_cases e : k = mny A 2
  · subst e
    rw [if_pos rfl, zup_s]
    exact ⟨x140, x141, y, hy, rfl⟩
  · rw [if_neg e, zup_i _ _ _ e, e140 _ (by omega), e141 _ (by omega)]
    exact q4.2 k (by omega)
set_option maxHeartbeats 1000000 in
theorem ml_room {Q : zMem → Prop} {x1 : Int32} {h3 : zMem} (hG : gK G) (b : mBs h1 n B) (q : mok h1 n B (tke B n p) h3) (m : mA A (zI h3)) (w : wfA A) (nf : ¬ nI (msT 2) ≤ A 1 2) (e29 : zI h3 132 29 = 0) (e19 : zI h3 132 19 = nI i) (K : ∀ h', mlR h1 n B i (lnSR B n A 2 18 100 p) h' → Q h') :
    ∃ Q5 : Int32 → zMem → Prop, zConI G mX10_fresher (d + 12) [.ref 132, .int (3)] h3 Q5 ∧ (∀ v8 h6, Q5 v8 h6 → zSh2 h6 ∧ ∃ Q9 : Int32 → zMem → Prop, zConI G mX10_fresher (d + 12) [.ref 132, .int (3)] h6 Q9 ∧ (∀ v12 h10, Q9 v12 h10 → zSh2 h10 ∧ ∃ Q13 : Int32 → zMem → Prop, zConI G mX10_fresh (d + 12) [.ref 132, .ref 140, .int (6), .int v12] h10 Q13 ∧ (∀ v16 h14, Q13 v16 h14 → zSh2 h14 ∧ vp_in ((6) + v8) 12 ∧ ∃ Q18 : Int32 → zMem → Prop, zConI G mX10_numeral (d + 12) [.ref 132, .int (0), .int (100)] (zsI h14 140 ((6) + v8).toNatClampNeg v16) Q18 ∧ (∀ v21 h19, Q18 v21 h19 → zSh2 h19 ∧ ∃ Q22 : Int32 → zMem → Prop, zConI G mX10_fresher (d + 12) [.ref 132, .int (3)] (zsI h19 141 ((6) + v8).toNatClampNeg v21) Q22 ∧ (∀ v25 h23, Q22 v25 h23 → zSh2 h23 ∧ ∃ Q26 : zMem → Prop, zConV G mX10_reads (d + 12) [.ref 132, .int (3), .int (v25 + (1))] h23 Q26 ∧ (∀ h27, Q26 h27 → zSh2 h27 ∧ zg G mX10_line (d + 13) 399 [.ref 132, .int x1, zU, zU, zU] [] h27 (zPV Q))))))) := by
  have S := q.1.sh b
  obtain ⟨w0, w0'⟩ := w 2 (by decide)
  have lt : mny A 2 < 6 := by
    rw [w0] at nf
    exact Nat.lt_of_not_le (fun z => nf (nI_le z (by have := msT_le 2; omega)))
  have e8 : zI h3 134 11 = nI (mny A 2) := m.2.2.2.1.1.trans w0
  have add : (6 : Int32) + nI (mny A 2) = nI (6 + mny A 2) := nI_add 6 _
  unfold lnSR nwX nwP at K
  rw [if_neg nf] at K
  refine m_fresher S (j := 3) (by decide) (m_fresher S (j := 3) (by decide) ?_)
  rw [e8, add, zcla (show 6 + mny A 2 < 2 ^ 31 by omega)]
  have l140 : ∀ h2, zSh2 h2 → zO h2 140 100 ∧ zLen h2 140 = 12 := fun h2 S2 => ⟨zcl1.o S2 140 100 rfl rfl rfl, zcl1.l S2 140 12 rfl rfl rfl⟩
  have fin : ∀ (h5 : zMem) {f : Int32} {pl : Nat}, mbad h1 f pl h5 → (∀ h', mbad h1 f pl h' → Q h') → ∃ Q22 : Int32 → zMem → Prop, zConI G mX10_fresher (d + 12) [.ref 132, .int (3)] h5 Q22 ∧ (∀ v25 h23, Q22 v25 h23 → zSh2 h23 ∧ ∃ Q26 : zMem → Prop, zConV G mX10_reads (d + 12) [.ref 132, .int (3), .int (v25 + (1))] h23 Q26 ∧ (∀ h27, Q26 h27 → zSh2 h27 ∧ zg G mX10_line (d + 13) 399 [.ref 132, .int x1, zU, zU, zU] [] h27 (zPV Q))) := by
    intro h5 f pl bb KK
    refine m_fresher (bb.1.sh b) (j := 3) (by decide) (m_reads (bb.1.sh b) (j := 3) (by decide) ?_)
    have b2 := bb.up (c := 134) (j := 8 + 3) (v := zI h5 134 (8 + 3) + 1) (by unfold hfT; simp)
    exact ml_tailF (d := d + 1) b b2 (KK _ b2)
  refine m_fresh (A := A) (kd := 2) (fr := 6) (d := d) hG b q (l140 h3 S).1 (by rw [(l140 h3 S).2]; omega) (by rw [(l140 h3 S).2]; decide) (fun k hk => (m.2.2.2.1.2 k hk).1) (fun h4 c35 cf q4 t4 => ?_) (fun h4 cf b4 t4 => ?_)
  · rw [if_pos c35, if_pos cf, if_pos rfl] at K
    refine ⟨zin_n (by omega) (by decide), ?_⟩
    have q5 := q4.up (c := 140) (j := 6 + mny A 2) (v := tkl B n (tke B n p)) (by unfold hfT; simp)
    refine m_numeral (a := 0) (b0 := 100) (d := d) hG b q5 (by decide) (by decide) (fun h6 c6 q6 t6 => ?_) (fun h6 c6 b6 t6 => ?_)
    · rw [if_pos (show nmX B n (tke B n (tke B n p)) 0 100 = 0 from c6)] at K
      obtain ⟨y, _, hy, ey⟩ := nm_nat (by decide) (by decide) c6
      have q7 := q6.up (c := 141) (j := 6 + mny A 2) (v := tkn B n (tke B n (tke B n p))) (by unfold hfT; simp)
      refine m_fresher (q7.1.sh b) (j := 3) (by decide) ?_
      have g8 : zI (zsI h6 141 (6 + mny A 2) (tkn B n (tke B n (tke B n p)))) 134 (8 + 3) = nI (mny A 2) := by
        rw [zI_sI, zup_ne _ _ (by decide), t6.1 134 (by decide), zI_sI, zup_ne _ _ (by decide), t4.1 134 (by decide)]; exact e8
      rw [g8, nI_1]
      refine m_reads (q7.1.sh b) (j := 3) (by decide) ?_
      have q8 := q7.up (c := 134) (j := 11) (v := nI (mny A 2 + 1)) (by unfold hfT; simp)
      have ec : ∀ c, c ≠ 132 → c ≠ 134 → c ≠ 140 → c ≠ 141 → zI (zsI (zsI h6 141 (6 + mny A 2) (tkn B n (tke B n (tke B n p)))) 134 11 (nI (mny A 2 + 1))) c = zI h3 c := fun c a1 a2 a3 a4 => by
        rw [zI_sI, zup_ne _ _ a2, zI_sI, zup_ne _ _ a4, t6.1 c a1, zI_sI, zup_ne _ _ a3, t4.1 c a1]
      have ej : ∀ j, j < 21 ∨ 27 ≤ j → zI (zsI (zsI h6 141 (6 + mny A 2) (tkn B n (tke B n (tke B n p)))) 134 11 (nI (mny A 2 + 1))) 132 j = zI h3 132 j := fun j hj => by
        rw [zI_sI, zup_ne _ _ (by decide), zI_sI, zup_ne _ _ (by decide), t6.2 j hj, zI_sI, zup_ne _ _ (by decide), t4.2 j hj]
      have mm : mA (zup (nwA B n A 2 p) 18 (mny A 2) (tkn B n (tke B n (tke B n p)))) (zI (zsI (zsI h6 141 (6 + mny A 2) (tkn B n (tke B n (tke B n p)))) 134 11 (nI (mny A 2 + 1)))) := by
        have := mA_room (h' := zsI (zsI h6 141 (6 + mny A 2) (tkn B n (tke B n (tke B n p)))) 134 11 (nI (mny A 2 + 1))) (x := tkl B n (tke B n p)) w m hy lt ec (ej 18 (by decide)) (ej 30 (by decide)) (fun j hj => by rw [zI_sI, zup_i _ _ _ hj, zI_sI, zup_ne _ _ (by decide), t6.1 134 (by decide), zI_sI, zup_ne _ _ (by decide), t4.1 134 (by decide)]) (by rw [zI_sI, zup_s]) (fun j hj => by rw [zI_sI, zup_ne _ _ (by decide), zI_sI, zup_ne _ _ (by decide), t6.1 140 (by decide), zI_sI, zup_i _ _ _ hj, t4.1 140 (by decide)]) (fun j hj => by rw [zI_sI, zup_ne _ _ (by decide), zI_sI, zup_i _ _ _ hj, t6.1 141 (by decide), zI_sI, zup_ne _ _ (by decide), t4.1 141 (by decide)]) (by rw [zI_sI, zup_ne _ _ (by decide), zI_sI, zup_ne _ _ (by decide), t6.1 140 (by decide), zI_sI, zup_s]) (by rw [zI_sI, zup_ne _ _ (by decide), zI_sI, zup_s, ey])
        rw [ey]
        rw [ey] at this
        exact this
      exact ml_tail (d := d + 1) hG b q8 mm (by rw [ej 29 (by decide)]; exact e29) (by rw [ej 19 (by decide)]; exact e19) K
    · rw [if_neg (show ¬ nmX B n (tke B n (tke B n p)) 0 100 = 0 from c6)] at K
      exact fin _ (b6.up (c := 141) (by unfold hfT; simp)) K
  · have cx : (if tkt B n (tke B n p) = 35 then (if fnd A 2 (tkl B n (tke B n p)) = -1 then (0 : Int32) else 3) else 1) = (if tkt B n (tke B n p) = 35 then 3 else 1) := by
      by_cases c35 : tkt B n (tke B n p) = 35
      · rw [if_pos c35, if_pos c35, if_neg (fun z => cf ⟨c35, z⟩)]
      · rw [if_neg c35, if_neg c35]
    have cne : (if tkt B n (tke B n p) = 35 then (3 : Int32) else 1) ≠ 0 := by split <;> decide
    rw [cx, if_neg cne, if_neg nf] at K
    refine ⟨zin_n (by omega) (by decide), ?_⟩
    have b5 := b4.up (c := 140) (j := 6 + mny A 2) (v := 0) (by unfold hfT; simp)
    exact m_numeralF (d := d + 11) b b5 (fin _ (b5.up (c := 141) (by unfold hfT; simp)) K)
end ML
