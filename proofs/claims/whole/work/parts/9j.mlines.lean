/-! the model's lines: a line's end, stuffs, rooms -/
def mlR (h1 : zMem) (n : Nat) (B : Nat → Int32) (i : Nat) (r : tRes) (h : zMem) : Prop := match r with
  | .inl (f, pl) => mbad h1 f pl h
  | .inr (A, p) => mok h1 n B p h ∧ mA A (zI h) ∧ zI h 132 29 = 0 ∧ zI h 132 19 = nI (i + 1)
section ML
variable {G : zG} {d n p i : Nat} {h1 h : zMem} {B : Nat → Int32} {A : tM}
theorem mA.up19 {v : Int32} (q : mA A (zI h)) : mA A (zI (zsI h 132 19 v)) := by
  have ne : ∀ c, c ≠ 132 → zI (zsI h 132 19 v) c = zI h c := fun c hc => by rw [zI_sI, zup_ne _ _ hc]
  have e18 : zI (zsI h 132 19 v) 132 18 = zI h 132 18 := by rw [zI_sI, zup_i _ _ _ (by decide)]
  have e30 : zI (zsI h 132 19 v) 132 30 = zI h 132 30 := by rw [zI_sI, zup_i _ _ _ (by decide)]
  unfold mA mSt mDy mMx mRm mMk mLg mTb mLw kS
  rw [ne 134 (by decide), ne 135 (by decide), ne 136 (by decide), ne 137 (by decide), ne 138 (by decide), ne 139 (by decide), ne 140 (by decide), ne 141 (by decide), ne 142 (by decide), ne 143 (by decide), ne 144 (by decide), ne 145 (by decide), ne 146 (by decide), ne 147 (by decide), ne 148 (by decide), e18, e30]
  exact q
theorem ml_tail {Q : zMem → Prop} {x1 : Int32} (hG : gK G) (b : mBs h1 n B) (q : mok h1 n B p h) (m : mA A (zI h)) (e29 : zI h 132 29 = 0) (e19 : zI h 132 19 = nI i) (K : ∀ h', mlR h1 n B i (stp B n A p) h' → Q h') : zg G mX10_line (d + 12) 399 [.ref 132, .int x1, zU, zU, zU] [] h (zPV Q) := by
  have S := q.1.sh b
  unfold stp at K
  refine sg_X10_line_399 S ⟨fun _ => m_isSign b q (w := 34) (by decide) (by decide) rfl (fun c => ⟨fun _ => ?_, fun z => absurd z (by decide)⟩) (fun c => ⟨fun z => absurd rfl z, fun _ => ?_⟩), fun z => absurd q.2.2.2 z⟩
  · have c' : tkt B n p = 34 := c
    rw [if_pos c'] at K
    refine m_token hG b q.1 q.2.1 q.2.2.1 q.2.2.2 (fun h' a e => K _ ?_)
    rw [e.2 19 (by decide), e19, nI_1]
    refine ⟨a.up (by omega), (m.tok e).up19, ?_, ?_⟩
    · rw [zI_sI, zup_i _ _ _ (by decide), e.2 29 (by decide)]; exact e29
    · rw [zI_sI, zup_s]
  · have c' : ¬ tkt B n p = 34 := c
    rw [if_neg c'] at K
    exact m_wrong b q (by decide) (fun h' bb e => K _ (bb.up (by omega)))
theorem ml_tailF {Q : zMem → Prop} {x1 f : Int32} {pl : Nat} (b : mBs h1 n B) (q : mbad h1 f pl h) (K : Q h) : zg G mX10_line (d + 12) 399 [.ref 132, .int x1, zU, zU, zU] [] h (zPV Q) :=
  sg_X10_line_399 (q.1.sh b) ⟨fun z => absurd (q.2.1.symm.trans z) q.2.2.1, fun _ => K⟩
theorem mA_stuff {h' : zMem} {x : Int32} {y : Nat} (w : wfA A) (q : mA A (zI h)) (hy : y ≤ 999) (lt : mny A 0 < 6) (ec : ∀ c, c ≠ 132 → c ≠ 134 → c ≠ 135 → c ≠ 136 → zI h' c = zI h c) (e18 : zI h' 132 18 = zI h 132 18) (e30 : zI h' 132 30 = zI h 132 30) (e134 : ∀ j, j ≠ 8 → zI h' 134 j = zI h 134 j) (e8 : zI h' 134 8 = nI (mny A 0 + 1)) (e135 : ∀ j, j ≠ 6 + mny A 0 → zI h' 135 j = zI h 135 j) (e136 : ∀ j, j ≠ 6 + mny A 0 → zI h' 136 j = zI h 136 j) (x135 : zI h' 135 (6 + mny A 0) = x) (x136 : zI h' 136 (6 + mny A 0) = nI y) : mA (zup (zup (zup A 3 (mny A 0) x) 1 0 (A 1 0 + 1)) 7 (mny A 0) (nI y)) (zI h') := by
  obtain ⟨q1, q2, q3, q4, q5, q6, q7, q8, q9⟩ := q
  obtain ⟨A', hA⟩ : ∃ A', A' = zup (zup (zup A 3 (mny A 0) x) 1 0 (A 1 0 + 1)) 7 (mny A 0) (nI y) := ⟨_, rfl⟩
  rw [← hA]
  have a : ∀ c, c ≠ 1 → c ≠ 3 → c ≠ 7 → A' c = A c := fun c c1 c3 c7 => by rw [hA, zup_ne _ _ c7, zup_ne _ _ c1, zup_ne _ _ c3]
  have a1 : ∀ k, k ≠ 0 → A' 1 k = A 1 k := fun k hk => by rw [hA, zup_ne _ _ (by decide), zup_i _ _ _ hk, zup_ne _ _ (by decide)]
  have a10 : A' 1 0 = nI (mny A 0 + 1) := by rw [hA, zup_ne _ _ (by decide), zup_s, (w 0 (by decide)).1, nI_1]
  have a3 : ∀ k, A' 3 k = zup A 3 (mny A 0) x 3 k := fun k => by rw [hA, zup_ne _ _ (by decide), zup_ne _ _ (by decide)]
  have a7 : ∀ k, A' 7 k = if k = mny A 0 then nI y else A 7 k := fun k => by
    rw [hA]
    by_cases e : k = mny A 0
    · rw [if_pos e, e, zup_s]
    · rw [if_neg e, zup_i _ _ _ e, zup_ne _ _ (show 7 ≠ 1 by decide), zup_ne _ _ (show 7 ≠ 3 by decide)]
  have m0 : mny A' 0 = mny A 0 + 1 := by unfold mny at *; rw [a10, zcla (by omega)]
  have w8 := (w 1 (by decide)).2
  refine ⟨⟨by rw [e8, a10], fun k hk => ?_⟩, mDy_E q2 (a1 1 (by decide)) (a 4 (by decide) (by decide) (by decide)) (a 8 (by decide) (by decide) (by decide)) (e134 9 (by decide)) (ec 137 (by decide) (by decide) (by decide) (by decide)) (ec 138 (by decide) (by decide) (by decide) (by decide)), mMx_E q3 (by rw [a 0 (by decide) (by decide) (by decide)]) (a1 1 (by decide)) (fun k hk => a _ (by omega) (by omega) (by omega)) (e134 10 (by decide)) (ec 139 (by decide) (by decide) (by decide) (by decide)) w8, mRm_E q4 (a1 2 (by decide)) (a 5 (by decide) (by decide) (by decide)) (a 18 (by decide) (by decide) (by decide)) (e134 11 (by decide)) (ec 140 (by decide) (by decide) (by decide) (by decide)) (ec 141 (by decide) (by decide) (by decide) (by decide)), mMk_E q5 (a1 3 (by decide)) (by rw [mny_E (a1 2 (by decide))]; exact Nat.le_refl _) (a 6 (by decide) (by decide) (by decide)) (a 19 (by decide) (by decide) (by decide)) (a 20 (by decide) (by decide) (by decide)) (e134 12 (by decide)) (ec 142 (by decide) (by decide) (by decide) (by decide)) (ec 143 (by decide) (by decide) (by decide) (by decide)) (ec 144 (by decide) (by decide) (by decide) (by decide)), mLg_E q6 (by rw [a 0 (by decide) (by decide) (by decide)]) (e134 13 (by decide)), mTb_E q7 (by rw [a 0 (by decide) (by decide) (by decide)]) (by rw [a 0 (by decide) (by decide) (by decide)]) (a 26 (by decide) (by decide) (by decide)) (by rw [e18]) (by rw [e18]) (fun r _ => by rw [e18]), mLw_E q8 (a 24 (by decide) (by decide) (by decide)) (a 25 (by decide) (by decide) (by decide)) (a 26 (by decide) (by decide) (by decide)) (by rw [a 21 (by decide) (by decide) (by decide)]) (ec 145 (by decide) (by decide) (by decide) (by decide)) (ec 146 (by decide) (by decide) (by decide) (by decide)) (ec 147 (by decide) (by decide) (by decide) (by decide)) (ec 148 (by decide) (by decide) (by decide) (by decide)), kS_E q9 (a 21 (by decide) (by decide) (by decide)) (a 22 (by decide) (by decide) (by decide)) (a 23 (by decide) (by decide) (by decide)) (e134 15 (by decide)) e30 (ec 147 (by decide) (by decide) (by decide) (by decide)) (ec 148 (by decide) (by decide) (by decide) (by decide))⟩
  rw [m0] at hk
  rw [a3, a7]
  by_cases e : k = mny A 0
  · subst e
    rw [if_pos rfl, zup_s]
    exact ⟨x135, x136, y, hy, rfl⟩
  · rw [if_neg e, zup_i _ _ _ e, e135 _ (by omega), e136 _ (by omega)]
    exact q1.2 k (by omega)
theorem nm_nat {a b0 : Nat} (hb : b0 ≤ 99999) (hab : a ≤ b0) (c : nmX B n p (nI a) (nI b0) = 0) : ∃ y : Nat, a ≤ y ∧ y ≤ b0 ∧ tkn B n p = nI y := by
  obtain ⟨_, c1, c2, _⟩ := nmX_nn (nI_pos (by omega)) c
  have : ¬ tkn B n p < 0 := fun z => c1 (nn_lt (nI_pos (by omega)) z)
  obtain ⟨j, hj, ej⟩ := nI_of this
  rw [ej] at c1 c2
  exact ⟨j, Nat.le_of_not_lt (fun z => c1 (nI_lt z (by omega))), Nat.le_of_not_lt (fun z => absurd c2 (nI_ge z hj)), ej⟩
set_option maxHeartbeats 1000000 in
theorem ml_stuff {Q : zMem → Prop} {x1 : Int32} {h3 : zMem} (hG : gK G) (b : mBs h1 n B) (q : mok h1 n B (tke B n p) h3) (m : mA A (zI h3)) (w : wfA A) (nf : ¬ nI (msT 0) ≤ A 1 0) (e29 : zI h3 132 29 = 0) (e19 : zI h3 132 19 = nI i) (K : ∀ h', mlR h1 n B i (lnSR B n A 0 7 999 p) h' → Q h') :
    ∃ Q5 : Int32 → zMem → Prop, zConI G mX10_fresher (d + 12) [.ref 132, .int (0)] h3 Q5 ∧ (∀ v8 h6, Q5 v8 h6 → zSh2 h6 ∧ ∃ Q9 : Int32 → zMem → Prop, zConI G mX10_fresher (d + 12) [.ref 132, .int (0)] h6 Q9 ∧ (∀ v12 h10, Q9 v12 h10 → zSh2 h10 ∧ ∃ Q13 : Int32 → zMem → Prop, zConI G mX10_fresh (d + 12) [.ref 132, .ref 135, .int (6), .int v12] h10 Q13 ∧ (∀ v16 h14, Q13 v16 h14 → zSh2 h14 ∧ vp_in ((6) + v8) 12 ∧ ∃ Q18 : Int32 → zMem → Prop, zConI G mX10_numeral (d + 12) [.ref 132, .int (0), .int (999)] (zsI h14 135 ((6) + v8).toNatClampNeg v16) Q18 ∧ (∀ v21 h19, Q18 v21 h19 → zSh2 h19 ∧ ∃ Q22 : Int32 → zMem → Prop, zConI G mX10_fresher (d + 12) [.ref 132, .int (0)] (zsI h19 136 ((6) + v8).toNatClampNeg v21) Q22 ∧ (∀ v25 h23, Q22 v25 h23 → zSh2 h23 ∧ ∃ Q26 : zMem → Prop, zConV G mX10_reads (d + 12) [.ref 132, .int (0), .int (v25 + (1))] h23 Q26 ∧ (∀ h27, Q26 h27 → zSh2 h27 ∧ zg G mX10_line (d + 13) 399 [.ref 132, .int x1, zU, zU, zU] [] h27 (zPV Q))))))) := by
  have S := q.1.sh b
  obtain ⟨w0, w0'⟩ := w 0 (by decide)
  have lt : mny A 0 < 6 := by
    rw [w0] at nf
    exact Nat.lt_of_not_le (fun z => nf (nI_le z (by have := msT_le 0; omega)))
  have e8 : zI h3 134 8 = nI (mny A 0) := m.1.1.trans w0
  have add : (6 : Int32) + nI (mny A 0) = nI (6 + mny A 0) := nI_add 6 _
  unfold lnSR nwX nwP at K
  rw [if_neg nf] at K
  refine m_fresher S (j := 0) (by decide) (m_fresher S (j := 0) (by decide) ?_)
  rw [e8, add, zcla (show 6 + mny A 0 < 2 ^ 31 by omega)]
  have l135 : ∀ h2, zSh2 h2 → zO h2 135 100 ∧ zLen h2 135 = 12 := fun h2 S2 => ⟨zcl1.o S2 135 100 rfl rfl rfl, zcl1.l S2 135 12 rfl rfl rfl⟩
  have fin : ∀ (h5 : zMem) {f : Int32} {pl : Nat}, mbad h1 f pl h5 → (∀ h', mbad h1 f pl h' → Q h') → ∃ Q22 : Int32 → zMem → Prop, zConI G mX10_fresher (d + 12) [.ref 132, .int (0)] h5 Q22 ∧ (∀ v25 h23, Q22 v25 h23 → zSh2 h23 ∧ ∃ Q26 : zMem → Prop, zConV G mX10_reads (d + 12) [.ref 132, .int (0), .int (v25 + (1))] h23 Q26 ∧ (∀ h27, Q26 h27 → zSh2 h27 ∧ zg G mX10_line (d + 13) 399 [.ref 132, .int x1, zU, zU, zU] [] h27 (zPV Q))) := by
    intro h5 f pl bb KK
    refine m_fresher (bb.1.sh b) (j := 0) (by decide) (m_reads (bb.1.sh b) (j := 0) (by decide) ?_)
    have b2 := bb.up (c := 134) (j := 8 + 0) (v := zI h5 134 (8 + 0) + 1) (by unfold hfT; simp)
    exact ml_tailF (d := d + 1) b b2 (KK _ b2)
  refine m_fresh (A := A) (kd := 0) (fr := 6) (d := d) hG b q (l135 h3 S).1 (by rw [(l135 h3 S).2]; omega) (by rw [(l135 h3 S).2]; decide) (fun k hk => (m.1.2 k hk).1) (fun h4 c35 cf q4 t4 => ?_) (fun h4 cf b4 t4 => ?_)
  · rw [if_pos c35, if_pos cf, if_pos rfl] at K
    refine ⟨zin_n (by omega) (by decide), ?_⟩
    have q5 := q4.up (c := 135) (j := 6 + mny A 0) (v := tkl B n (tke B n p)) (by unfold hfT; simp)
    refine m_numeral (a := 0) (b0 := 999) (d := d) hG b q5 (by decide) (by decide) (fun h6 c6 q6 t6 => ?_) (fun h6 c6 b6 t6 => ?_)
    · rw [if_pos (show nmX B n (tke B n (tke B n p)) 0 999 = 0 from c6)] at K
      obtain ⟨y, _, hy, ey⟩ := nm_nat (by decide) (by decide) c6
      have q7 := q6.up (c := 136) (j := 6 + mny A 0) (v := tkn B n (tke B n (tke B n p))) (by unfold hfT; simp)
      refine m_fresher (q7.1.sh b) (j := 0) (by decide) ?_
      have g8 : zI (zsI h6 136 (6 + mny A 0) (tkn B n (tke B n (tke B n p)))) 134 (8 + 0) = nI (mny A 0) := by
        rw [zI_sI, zup_ne _ _ (by decide), t6.1 134 (by decide), zI_sI, zup_ne _ _ (by decide), t4.1 134 (by decide)]; exact e8
      rw [g8, nI_1]
      refine m_reads (q7.1.sh b) (j := 0) (by decide) ?_
      have q8 := q7.up (c := 134) (j := 8) (v := nI (mny A 0 + 1)) (by unfold hfT; simp)
      have ec : ∀ c, c ≠ 132 → c ≠ 134 → c ≠ 135 → c ≠ 136 → zI (zsI (zsI h6 136 (6 + mny A 0) (tkn B n (tke B n (tke B n p)))) 134 8 (nI (mny A 0 + 1))) c = zI h3 c := fun c a1 a2 a3 a4 => by
        rw [zI_sI, zup_ne _ _ a2, zI_sI, zup_ne _ _ a4, t6.1 c a1, zI_sI, zup_ne _ _ a3, t4.1 c a1]
      have ej : ∀ j, j < 21 ∨ 27 ≤ j → zI (zsI (zsI h6 136 (6 + mny A 0) (tkn B n (tke B n (tke B n p)))) 134 8 (nI (mny A 0 + 1))) 132 j = zI h3 132 j := fun j hj => by
        rw [zI_sI, zup_ne _ _ (by decide), zI_sI, zup_ne _ _ (by decide), t6.2 j hj, zI_sI, zup_ne _ _ (by decide), t4.2 j hj]
      have mm : mA (zup (nwA B n A 0 p) 7 (mny A 0) (tkn B n (tke B n (tke B n p)))) (zI (zsI (zsI h6 136 (6 + mny A 0) (tkn B n (tke B n (tke B n p)))) 134 8 (nI (mny A 0 + 1)))) := by
        have := mA_stuff (h' := zsI (zsI h6 136 (6 + mny A 0) (tkn B n (tke B n (tke B n p)))) 134 8 (nI (mny A 0 + 1))) (x := tkl B n (tke B n p)) w m hy lt ec (ej 18 (by decide)) (ej 30 (by decide)) (fun j hj => by rw [zI_sI, zup_i _ _ _ hj, zI_sI, zup_ne _ _ (by decide), t6.1 134 (by decide), zI_sI, zup_ne _ _ (by decide), t4.1 134 (by decide)]) (by rw [zI_sI, zup_s]) (fun j hj => by rw [zI_sI, zup_ne _ _ (by decide), zI_sI, zup_ne _ _ (by decide), t6.1 135 (by decide), zI_sI, zup_i _ _ _ hj, t4.1 135 (by decide)]) (fun j hj => by rw [zI_sI, zup_ne _ _ (by decide), zI_sI, zup_i _ _ _ hj, t6.1 136 (by decide), zI_sI, zup_ne _ _ (by decide), t4.1 136 (by decide)]) (by rw [zI_sI, zup_ne _ _ (by decide), zI_sI, zup_ne _ _ (by decide), t6.1 135 (by decide), zI_sI, zup_s]) (by rw [zI_sI, zup_ne _ _ (by decide), zI_sI, zup_s, ey])
        rw [ey]
        rw [ey] at this
        exact this
      exact ml_tail (d := d + 1) hG b q8 mm (by rw [ej 29 (by decide)]; exact e29) (by rw [ej 19 (by decide)]; exact e19) K
    · rw [if_neg (show ¬ nmX B n (tke B n (tke B n p)) 0 999 = 0 from c6)] at K
      exact fin _ (b6.up (c := 136) (by unfold hfT; simp)) K
  · have cx : (if tkt B n (tke B n p) = 35 then (if fnd A 0 (tkl B n (tke B n p)) = -1 then (0 : Int32) else 3) else 1) = (if tkt B n (tke B n p) = 35 then 3 else 1) := by
      by_cases c35 : tkt B n (tke B n p) = 35
      · rw [if_pos c35, if_pos c35, if_neg (fun z => cf ⟨c35, z⟩)]
      · rw [if_neg c35, if_neg c35]
    have cne : (if tkt B n (tke B n p) = 35 then (3 : Int32) else 1) ≠ 0 := by split <;> decide
    rw [cx, if_neg cne, if_neg nf] at K
    refine ⟨zin_n (by omega) (by decide), ?_⟩
    have b5 := b4.up (c := 135) (j := 6 + mny A 0) (v := 0) (by unfold hfT; simp)
    exact m_numeralF (d := d + 11) b b5 (fin _ (b5.up (c := 136) (by unfold hfT; simp)) K)
end ML
