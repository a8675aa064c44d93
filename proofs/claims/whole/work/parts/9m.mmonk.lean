/-! the model's lines: monks -/
section ML
variable {G : zG} {d n p i : Nat} {h1 h : zMem} {B : Nat → Int32} {A : tM}
theorem mA_monk {h' : zMem} {x : Int32} {r y : Nat} (w : wfA A) (q : mA A (zI h)) (hr : r < mny A 2) (hy1 : 1 ≤ y) (hy : y ≤ 99) (lt : mny A 3 < 5) (ec : ∀ c, c ≠ 132 → c ≠ 134 → c ≠ 142 → c ≠ 143 → c ≠ 144 → zI h' c = zI h c) (e18 : zI h' 132 18 = zI h 132 18) (e30 : zI h' 132 30 = zI h 132 30) (e134 : ∀ j, j ≠ 12 → zI h' 134 j = zI h 134 j) (e8 : zI h' 134 12 = nI (mny A 3 + 1)) (e1 : ∀ j, j ≠ 5 + mny A 3 → zI h' 142 j = zI h 142 j ∧ zI h' 143 j = zI h 143 j ∧ zI h' 144 j = zI h 144 j) (x1 : zI h' 142 (5 + mny A 3) = x) (x2 : zI h' 143 (5 + mny A 3) = nI r) (x3 : zI h' 144 (5 + mny A 3) = nI y) : mA (zup (zup (zup (zup A 6 (mny A 3) x) 1 3 (A 1 3 + 1)) 19 (mny A 3) (nI r)) 20 (mny A 3) (nI y)) (zI h') := by
  obtain ⟨q1, q2, q3, q4, q5, q6, q7, q8, q9⟩ := q
  obtain ⟨A', hA⟩ : ∃ A', A' = zup (zup (zup (zup A 6 (mny A 3) x) 1 3 (A 1 3 + 1)) 19 (mny A 3) (nI r)) 20 (mny A 3) (nI y) := ⟨_, rfl⟩
  rw [← hA]
  have a : ∀ c, c ≠ 1 → c ≠ 6 → c ≠ 19 → c ≠ 20 → A' c = A c := fun c c1 c6 c19 c20 => by rw [hA, zup_ne _ _ c20, zup_ne _ _ c19, zup_ne _ _ c1, zup_ne _ _ c6]
  have a1 : ∀ k, k ≠ 3 → A' 1 k = A 1 k := fun k hk => by rw [hA, zup_ne _ _ (show 1 ≠ 20 by decide), zup_ne _ _ (show 1 ≠ 19 by decide), zup_i _ _ _ hk, zup_ne _ _ (show 1 ≠ 6 by decide)]
  have a13 : A' 1 3 = nI (mny A 3 + 1) := by rw [hA, zup_ne _ _ (show 1 ≠ 20 by decide), zup_ne _ _ (show 1 ≠ 19 by decide), zup_s, (w 3 (by decide)).1, nI_1]
  have a6 : ∀ k, A' 6 k = if k = mny A 3 then x else A 6 k := fun k => by
    rw [hA, zup_ne _ _ (show 6 ≠ 20 by decide), zup_ne _ _ (show 6 ≠ 19 by decide), zup_ne _ _ (show 6 ≠ 1 by decide)]
    by_cases e : k = mny A 3
    · rw [if_pos e, e, zup_s]
    · rw [if_neg e, zup_i _ _ _ e]
  have a19 : ∀ k, A' 19 k = if k = mny A 3 then nI r else A 19 k := fun k => by
    rw [hA, zup_ne _ _ (show 19 ≠ 20 by decide)]
    by_cases e : k = mny A 3
    · rw [if_pos e, e, zup_s]
    · rw [if_neg e, zup_i _ _ _ e, zup_ne _ _ (show 19 ≠ 1 by decide), zup_ne _ _ (show 19 ≠ 6 by decide)]
  have a20 : ∀ k, A' 20 k = if k = mny A 3 then nI y else A 20 k := fun k => by
    rw [hA]
    by_cases e : k = mny A 3
    · rw [if_pos e, e, zup_s]
    · rw [if_neg e, zup_i _ _ _ e, zup_ne _ _ (show 20 ≠ 19 by decide), zup_ne _ _ (show 20 ≠ 1 by decide), zup_ne _ _ (show 20 ≠ 6 by decide)]
  have m3 : mny A' 3 = mny A 3 + 1 := by unfold mny at *; rw [a13, zcla (by omega)]
  have m2 : mny A' 2 = mny A 2 := mny_E (a1 2 (by decide))
  have w8 := (w 1 (by decide)).2
  refine ⟨mSt_E q1 (a1 0 (by decide)) (a 3 (by decide) (by decide) (by decide) (by decide)) (a 7 (by decide) (by decide) (by decide) (by decide)) (e134 8 (by decide)) (ec 135 (by decide) (by decide) (by decide) (by decide) (by decide)) (ec 136 (by decide) (by decide) (by decide) (by decide) (by decide)), mDy_E q2 (a1 1 (by decide)) (a 4 (by decide) (by decide) (by decide) (by decide)) (a 8 (by decide) (by decide) (by decide) (by decide)) (e134 9 (by decide)) (ec 137 (by decide) (by decide) (by decide) (by decide) (by decide)) (ec 138 (by decide) (by decide) (by decide) (by decide) (by decide)), mMx_E q3 (by rw [a 0 (by decide) (by decide) (by decide) (by decide)]) (a1 1 (by decide)) (fun k hk => a _ (by omega) (by omega) (by omega) (by omega)) (e134 10 (by decide)) (ec 139 (by decide) (by decide) (by decide) (by decide) (by decide)) w8, mRm_E q4 (a1 2 (by decide)) (a 5 (by decide) (by decide) (by decide) (by decide)) (a 18 (by decide) (by decide) (by decide) (by decide)) (e134 11 (by decide)) (ec 140 (by decide) (by decide) (by decide) (by decide) (by decide)) (ec 141 (by decide) (by decide) (by decide) (by decide) (by decide)), ⟨by rw [e8, a13], fun k hk => ?_⟩, mLg_E q6 (by rw [a 0 (by decide) (by decide) (by decide) (by decide)]) (e134 13 (by decide)), mTb_E q7 (by rw [a 0 (by decide) (by decide) (by decide) (by decide)]) (by rw [a 0 (by decide) (by decide) (by decide) (by decide)]) (a 26 (by decide) (by decide) (by decide) (by decide)) (by rw [e18]) (by rw [e18]) (fun r _ => by rw [e18]), mLw_E q8 (a 24 (by decide) (by decide) (by decide) (by decide)) (a 25 (by decide) (by decide) (by decide) (by decide)) (a 26 (by decide) (by decide) (by decide) (by decide)) (by rw [a 21 (by decide) (by decide) (by decide) (by decide)]) (ec 145 (by decide) (by decide) (by decide) (by decide) (by decide)) (ec 146 (by decide) (by decide) (by decide) (by decide) (by decide)) (ec 147 (by decide) (by decide) (by decide) (by decide) (by decide)) (ec 148 (by decide) (by decide) (by decide) (by decide) (by decide)), kS_E q9 (a 21 (by decide) (by decide) (by decide) (by decide)) (a 22 (by decide) (by decide) (by decide) (by decide)) (a 23 (by decide) (by decide) (by decide) (by decide)) (e134 15 (by decide)) e30 (ec 147 (by decide) (by decide) (by decide) (by decide) (by decide)) (ec 148 (by decide) (by decide) (by decide) (by decide) (by decide))⟩
  rw [m3] at hk
  rw [a6, a19, a20, m2]
  by_cases e : k = mny A 3
  · subst e
    rw [if_pos rfl, if_pos rfl, if_pos rfl]
    exact ⟨x1, x2, x3, ⟨r, hr, rfl⟩, y, hy1, hy, rfl⟩
  · obtain ⟨g1, g2, g3⟩ := e1 (5 + k) (by omega)
    rw [if_neg e, if_neg e, if_neg e, g1, g2, g3]
    exact q5.2 k (by omega)
set_option maxHeartbeats 1000000 in
theorem ml_monk {Q : zMem → Prop} {x1 : Int32} {h3 : zMem} (hG : gK G) (b : mBs h1 n B) (q : mok h1 n B (tke B n p) h3) (m : mA A (zI h3)) (w : wfA A) (nf : ¬ nI (msT 3) ≤ A 1 3) (e29 : zI h3 132 29 = 0) (e19 : zI h3 132 19 = nI i) (K : ∀ h', mlR h1 n B i (lnMonk B n A p) h' → Q h') :
    ∃ Q63 : Int32 → zMem → Prop, zConI G mX10_fresher (d + 12) [.ref 132, .int (4)] h3 Q63 ∧ (∀ v66 h64, Q63 v66 h64 → zSh2 h64 ∧ ∃ Q67 : Int32 → zMem → Prop, zConI G mX10_fresher (d + 12) [.ref 132, .int (4)] h64 Q67 ∧ (∀ v70 h68, Q67 v70 h68 → zSh2 h68 ∧ ∃ Q71 : Int32 → zMem → Prop, zConI G mX10_fresh (d + 12) [.ref 132, .ref 142, .int (5), .int v70] h68 Q71 ∧ (∀ v74 h72, Q71 v74 h72 → zSh2 h72 ∧ vp_in ((5) + v66) 10 ∧ ∃ Q76 : Int32 → zMem → Prop, zConI G mX10_fresher (d + 12) [.ref 132, .int (3)] (zsI h72 142 ((5) + v66).toNatClampNeg v74) Q76 ∧ (∀ v79 h77, Q76 v79 h77 → zSh2 h77 ∧ ∃ Q80 : Int32 → zMem → Prop, zConI G mX10_toldAhead (d + 12) [.ref 132, .ref 140, .int (6), .int v79] h77 Q80 ∧ (∀ v83 h81, Q80 v83 h81 → zSh2 h81 ∧ ∃ Q84 : zMem → Prop, zConV G mX10_goOn (d + 12) [.ref 132] (zsI h81 143 ((5) + v66).toNatClampNeg v83) Q84 ∧ (∀ h85, Q84 h85 → zSh2 h85 ∧ ∃ Q87 : Int32 → zMem → Prop, zConI G mX10_numeral (d + 12) [.ref 132, .int (1), .int (99)] h85 Q87 ∧ (∀ v90 h88, Q87 v90 h88 → zSh2 h88 ∧ ∃ Q91 : Int32 → zMem → Prop, zConI G mX10_fresher (d + 12) [.ref 132, .int (4)] (zsI h88 144 ((5) + v66).toNatClampNeg v90) Q91 ∧ (∀ v94 h92, Q91 v94 h92 → zSh2 h92 ∧ ∃ Q95 : zMem → Prop, zConV G mX10_reads (d + 12) [.ref 132, .int (4), .int (v94 + (1))] h92 Q95 ∧ (∀ h96, Q95 h96 → zSh2 h96 ∧ zg G mX10_line (d + 13) 399 [.ref 132, .int x1, zU, zU, zU] [] h96 (zPV Q)))))))))) := by
  have S := q.1.sh b
  obtain ⟨w0, w0'⟩ := w 3 (by decide)
  obtain ⟨w2, w2'⟩ := w 2 (by decide)
  have s2 : msT 2 = 6 := rfl
  have lt : mny A 3 < 5 := by
    rw [w0] at nf
    exact Nat.lt_of_not_le (fun z => nf (nI_le z (by have := msT_le 3; omega)))
  have e8 : zI h3 134 12 = nI (mny A 3) := m.2.2.2.2.1.1.trans w0
  have e11 : zI h3 134 11 = nI (mny A 2) := m.2.2.2.1.1.trans w2
  have add : (5 : Int32) + nI (mny A 3) = nI (5 + mny A 3) := nI_add 5 _
  have n5 : mny (nwA B n A 3 p) 2 = mny A 2 := mny_E (by unfold nwA; rw [zup_i _ _ _ (by decide), zup_ne _ _ (by decide)])
  have nF : ∀ x, fnd (nwA B n A 3 p) 2 x = fnd A 2 x := fun x => by
    unfold fnd
    rw [n5, show (nwA B n A 3 p) (3 + 2) = A (3 + 2) from by unfold nwA; rw [zup_ne _ _ (by decide), zup_ne _ _ (by decide)]]
  have nT : ∀ p', tdX B n (nwA B n A 3 p) 2 p' = tdX B n A 2 p' := fun p' => by unfold tdX; rw [nF]
  unfold lnMonk nwX nwP at K
  rw [if_neg nf, nT, nF] at K
  refine m_fresher S (j := 4) (by decide) (m_fresher S (j := 4) (by decide) ?_)
  rw [show zI h3 134 (8 + 4) = nI (mny A 3) from e8, add, zcla (show 5 + mny A 3 < 2 ^ 31 by omega)]
  have l142 : ∀ h2, zSh2 h2 → zO h2 142 100 ∧ zLen h2 142 = 10 := fun h2 S2 => ⟨zcl1.o S2 142 100 rfl rfl rfl, zcl1.l S2 142 10 rfl rfl rfl⟩
  have l140 : ∀ h2, zSh2 h2 → zO h2 140 100 ∧ zLen h2 140 = 12 := fun h2 S2 => ⟨zcl1.o S2 140 100 rfl rfl rfl, zcl1.l S2 140 12 rfl rfl rfl⟩
  have fin : ∀ (h5 : zMem) {f : Int32} {pl : Nat}, mbad h1 f pl h5 → (∀ h', mbad h1 f pl h' → Q h') → ∃ Q91 : Int32 → zMem → Prop, zConI G mX10_fresher (d + 12) [.ref 132, .int (4)] h5 Q91 ∧ (∀ v25 h23, Q91 v25 h23 → zSh2 h23 ∧ ∃ Q26 : zMem → Prop, zConV G mX10_reads (d + 12) [.ref 132, .int (4), .int (v25 + (1))] h23 Q26 ∧ (∀ h27, Q26 h27 → zSh2 h27 ∧ zg G mX10_line (d + 13) 399 [.ref 132, .int x1, zU, zU, zU] [] h27 (zPV Q))) := by
    intro h5 f pl bb KK
    refine m_fresher (bb.1.sh b) (j := 4) (by decide) (m_reads (bb.1.sh b) (j := 4) (by decide) ?_)
    have b2 := bb.up (c := 134) (j := 8 + 4) (v := zI h5 134 (8 + 4) + 1) (by unfold hfT; simp)
    exact ml_tailF (d := d + 1) b b2 (KK _ b2)
  refine m_fresh (A := A) (kd := 3) (fr := 5) (d := d) hG b q (l142 h3 S).1 (by rw [(l142 h3 S).2]; omega) (by rw [(l142 h3 S).2]; decide) (fun k hk => (m.2.2.2.2.1.2 k hk).1) (fun h4 c35 cf q4 t4 => ?_) (fun h4 cf b4 t4 => ?_)
  · rw [if_pos c35, if_pos cf, if_pos rfl] at K
    refine ⟨zin_n (by omega) (by decide), ?_⟩
    have q5 := q4.up (c := 142) (j := 5 + mny A 3) (v := tkl B n (tke B n p)) (by unfold hfT; simp)
    have S5 := q5.1.sh b
    refine m_fresher S5 (j := 3) (by decide) ?_
    have g11 : zI (zsI h4 142 (5 + mny A 3) (tkl B n (tke B n p))) 134 (8 + 3) = nI (mny A 2) := by rw [zI_sI, zup_ne _ _ (by decide), t4.1 134 (by decide)]; exact e11
    rw [g11]
    refine m_told (A := A) (kd := 2) (fr := 6) (d := d) b q5 (l140 _ S5).1 (by rw [(l140 _ S5).2]; omega) (by rw [(l140 _ S5).2]; decide) (fun k hk => by rw [zI_sI, zup_ne _ _ (by decide), t4.1 140 (by decide)]; exact (m.2.2.2.1.2 k hk).1) (fun ct => ?_) (fun h6 ct b6 t6 => ?_)
    · rw [if_pos ct] at K
      obtain ⟨r, hr, er⟩ := tdX_ix ct
      rw [er] at K ⊢
      have q6 := q5.up (c := 143) (j := 5 + mny A 3) (v := nI r) (by unfold hfT; simp)
      refine m_goOn (d := d) hG b q6 (fun h7 q7 t7 => ?_)
      refine m_numeral (a := 1) (b0 := 99) (d := d) hG b q7 (by decide) (by decide) (fun h8 c8 q8 t8 => ?_) (fun h8 c8 b8 t8 => ?_)
      · rw [if_pos (show nmX B n (tke B n (tke B n (tke B n p))) 1 99 = 0 from c8)] at K
        obtain ⟨y, hy1, hy, ey⟩ := nm_nat (by decide) (by decide) c8
        rw [ey] at K ⊢
        have q9 := q8.up (c := 144) (j := 5 + mny A 3) (v := nI y) (by unfold hfT; simp)
        refine m_fresher (q9.1.sh b) (j := 4) (by decide) ?_
        have g8 : zI (zsI h8 144 (5 + mny A 3) (nI y)) 134 (8 + 4) = nI (mny A 3) := by
          rw [zI_sI, zup_ne _ _ (by decide), t8.1 134 (by decide), t7.1 134 (by decide), zI_sI, zup_ne _ _ (by decide), zI_sI, zup_ne _ _ (by decide), t4.1 134 (by decide)]; exact e8
        rw [g8, nI_1]
        refine m_reads (q9.1.sh b) (j := 4) (by decide) ?_
        have q10 := q9.up (c := 134) (j := 12) (v := nI (mny A 3 + 1)) (by unfold hfT; simp)
        obtain ⟨hF, eF⟩ : ∃ hF, hF = zsI (zsI h8 144 (5 + mny A 3) (nI y)) 134 12 (nI (mny A 3 + 1)) := ⟨_, rfl⟩
        have gF : ∀ c, c ≠ 132 → c ≠ 134 → c ≠ 144 → zI hF c = zI (zsI (zsI h4 142 (5 + mny A 3) (tkl B n (tke B n p))) 143 (5 + mny A 3) (nI r)) c := fun c a1 a2 a3 => by
          rw [eF, zI_sI, zup_ne _ _ a2, zI_sI, zup_ne _ _ a3, t8.1 c a1, t7.1 c a1]
        have ec : ∀ c, c ≠ 132 → c ≠ 134 → c ≠ 142 → c ≠ 143 → c ≠ 144 → zI hF c = zI h3 c := fun c a1 a2 a3 a4 a5 => by
          rw [gF c a1 a2 a5, zI_sI, zup_ne _ _ a4, zI_sI, zup_ne _ _ a3, t4.1 c a1]
        have ej : ∀ j, j < 21 ∨ 27 ≤ j → zI hF 132 j = zI h3 132 j := fun j hj => by
          rw [eF, zI_sI, zup_ne _ _ (by decide), zI_sI, zup_ne _ _ (by decide), t8.2 j hj, t7.2 j hj, zI_sI, zup_ne _ _ (by decide), zI_sI, zup_ne _ _ (by decide), t4.2 j hj]
        have e134 : ∀ j, j ≠ 12 → zI hF 134 j = zI h3 134 j := fun j hj => by
          rw [eF, zI_sI, zup_i _ _ _ hj, zI_sI, zup_ne _ _ (by decide), t8.1 134 (by decide), t7.1 134 (by decide), zI_sI, zup_ne _ _ (by decide), zI_sI, zup_ne _ _ (by decide), t4.1 134 (by decide)]
        have r144 : ∀ j, zI hF 144 j = zup (zI h3) 144 (5 + mny A 3) (nI y) 144 j := fun j => by
          rw [eF, zI_sI, zup_ne _ _ (by decide), zI_sI]
          by_cases e : j = 5 + mny A 3
          · rw [e, zup_s, zup_s]
          · rw [zup_i _ _ _ e, zup_i _ _ _ e, t8.1 144 (by decide), t7.1 144 (by decide), zI_sI, zup_ne _ _ (by decide), zI_sI, zup_ne _ _ (by decide), t4.1 144 (by decide)]
        have mm := mA_monk (h' := hF) (x := tkl B n (tke B n p)) w m hr hy1 hy lt ec (ej 18 (by decide)) (ej 30 (by decide)) e134 (by rw [eF, zI_sI, zup_s]) (fun j hj => ⟨by rw [gF 142 (by decide) (by decide) (by decide), zI_sI, zup_ne _ _ (by decide), zI_sI, zup_i _ _ _ hj, t4.1 142 (by decide)], by rw [gF 143 (by decide) (by decide) (by decide), zI_sI, zup_i _ _ _ hj, zI_sI, zup_ne _ _ (by decide), t4.1 143 (by decide)], by rw [r144, zup_i _ _ _ hj]⟩) (by rw [gF 142 (by decide) (by decide) (by decide), zI_sI, zup_ne _ _ (by decide), zI_sI, zup_s]) (by rw [gF 143 (by decide) (by decide) (by decide), zI_sI, zup_s]) (by rw [r144, zup_s])
        rw [← eF] at q10
        show zg G mX10_line (d + 13) 399 [.ref 132, .int x1, zU, zU, zU] [] (zsI (zsI h8 144 (5 + mny A 3) (nI y)) 134 12 (nI (mny A 3 + 1))) (zPV Q)
        rw [← eF]
        exact ml_tail (d := d + 1) hG b q10 mm (by rw [ej 29 (by decide)]; exact e29) (by rw [ej 19 (by decide)]; exact e19) K
      · rw [if_neg (show ¬ nmX B n (tke B n (tke B n (tke B n p))) 1 99 = 0 from c8)] at K
        exact fin _ (b8.up (c := 144) (by unfold hfT; simp)) K
    · rw [if_neg ct] at K
      have b7 := b6.up (c := 143) (j := 5 + mny A 3) (v := 0) (by unfold hfT; simp)
      exact m_goOnF (d := d + 11) b b7 (m_numeralF (d := d + 11) b b7 (fin _ (b7.up (c := 144) (by unfold hfT; simp)) K))
  · have cx : (if tkt B n (tke B n p) = 35 then (if fnd A 3 (tkl B n (tke B n p)) = -1 then (0 : Int32) else 3) else 1) = (if tkt B n (tke B n p) = 35 then 3 else 1) := by
      by_cases c35 : tkt B n (tke B n p) = 35
      · rw [if_pos c35, if_pos c35, if_neg (fun z => cf ⟨c35, z⟩)]
      · rw [if_neg c35, if_neg c35]
    have cne : (if tkt B n (tke B n p) = 35 then (3 : Int32) else 1) ≠ 0 := by split <;> decide
    rw [cx, if_neg cne, if_neg nf] at K
    refine ⟨zin_n (by omega) (by decide), ?_⟩
    have b5 := b4.up (c := 142) (j := 5 + mny A 3) (v := 0) (by unfold hfT; simp)
    have b7 := b5.up (c := 143) (j := 5 + mny A 3) (v := 0) (by unfold hfT; simp)
    refine m_fresher (b5.1.sh b) (j := 3) (by decide) ?_
    exact m_toldF (d := d + 11) b b5 (m_goOnF (d := d + 11) b b7 (m_numeralF (d := d + 11) b b7 (fin _ (b7.up (c := 144) (by unfold hfT; simp)) K)))
end ML
