/-! the model's lines: mixes -/
section ML
variable {G : zG} {d n p i : Nat} {h1 h : zMem} {B : Nat → Int32} {A : tM}
theorem mA_mix {h' : zMem} {dy sf y mx : Nat} (w8 : mny A 1 ≤ 8) (q : mA A (zI h)) (hd : dy < mny A 1) (hs : sf < 6) (hy : y ≤ 99) (hmx : A 0 9 = nI mx) (h24 : mx < 24) (ec : ∀ c, c ≠ 132 → c ≠ 134 → c ≠ 139 → zI h' c = zI h c) (e18 : zI h' 132 18 = zI h 132 18) (e30 : zI h' 132 30 = zI h 132 30) (e134 : ∀ j, j ≠ 10 → zI h' 134 j = zI h 134 j) (e8 : zI h' 134 10 = nI (mx + 1)) (e139 : ∀ j, j ≠ 6 * (8 + dy) + sf → zI h' 139 j = zI h 139 j) (x1 : zI h' 139 (6 * (8 + dy) + sf) = nI y) : mA (zup (zup A (10 + dy) sf (nI y)) 0 9 (A 0 9 + 1)) (zI h') := by
  obtain ⟨q1, q2, q3, q4, q5, q6, q7, q8, q9⟩ := q
  obtain ⟨A', hA⟩ : ∃ A', A' = zup (zup A (10 + dy) sf (nI y)) 0 9 (A 0 9 + 1) := ⟨_, rfl⟩
  rw [← hA]
  have a : ∀ c, c ≠ 0 → c ≠ 10 + dy → A' c = A c := fun c c0 c1 => by rw [hA, zup_ne _ _ c0, zup_ne _ _ c1]
  have a0 : ∀ k, k ≠ 9 → A' 0 k = A 0 k := fun k hk => by rw [hA, zup_i _ _ _ hk, zup_ne _ _ (by omega)]
  have a09 : A' 0 9 = nI (mx + 1) := by rw [hA, zup_s, hmx, nI_1]
  have am : ∀ k s, A' (10 + k) s = if k = dy ∧ s = sf then nI y else A (10 + k) s := fun k s => by
    rw [hA, zup_ne _ _ (show 10 + k ≠ 0 by omega)]
    by_cases e : k = dy
    · by_cases e2 : s = sf
      · rw [if_pos ⟨e, e2⟩, e, e2, zup_s]
      · rw [if_neg (fun z => e2 z.2), zup_i _ _ _ e2]
    · rw [if_neg (fun z => e z.1), zup_ne _ _ (by omega)]
  have m1 : mny A' 1 = mny A 1 := by unfold mny; rw [a 1 (by decide) (by omega)]
  refine ⟨mSt_E q1 (by rw [a 1 (by decide) (by omega)]) (a 3 (by decide) (by omega)) (a 7 (by decide) (by omega)) (e134 8 (by decide)) (ec 135 (by decide) (by decide) (by decide)) (ec 136 (by decide) (by decide) (by decide)), mDy_E q2 (by rw [a 1 (by decide) (by omega)]) (a 4 (by decide) (by omega)) (a 8 (by decide) (by omega)) (e134 9 (by decide)) (ec 137 (by decide) (by decide) (by decide)) (ec 138 (by decide) (by decide) (by decide)), ⟨⟨by rw [e8, a09], mx + 1, by omega, a09⟩, fun k s hk hs' => ?_, fun k s hk hs' => ?_, fun k s hk hk8 hs' => ?_⟩, mRm_E q4 (by rw [a 1 (by decide) (by omega)]) (a 5 (by decide) (by omega)) (a 18 (by decide) (by omega)) (e134 11 (by decide)) (ec 140 (by decide) (by decide) (by decide)) (ec 141 (by decide) (by decide) (by decide)), mMk_E q5 (by rw [a 1 (by decide) (by omega)]) (by unfold mny; rw [a 1 (by decide) (by omega)]; exact Nat.le_refl _) (a 6 (by decide) (by omega)) (a 19 (by decide) (by omega)) (a 20 (by decide) (by omega)) (e134 12 (by decide)) (ec 142 (by decide) (by decide) (by decide)) (ec 143 (by decide) (by decide) (by decide)) (ec 144 (by decide) (by decide) (by decide)), mLg_E q6 (a0 10 (by decide)) (e134 13 (by decide)), mTb_E q7 (a0 11 (by decide)) (a0 12 (by decide)) (a 26 (by decide) (by omega)) (by rw [e18]) (by rw [e18]) (fun r _ => by rw [e18]), mLw_E q8 (a 24 (by decide) (by omega)) (a 25 (by decide) (by omega)) (a 26 (by decide) (by omega)) (by rw [a 21 (by decide) (by omega)]) (ec 145 (by decide) (by decide) (by decide)) (ec 146 (by decide) (by decide) (by decide)) (ec 147 (by decide) (by decide) (by decide)) (ec 148 (by decide) (by decide) (by decide)), kS_E q9 (a 21 (by decide) (by omega)) (a 22 (by decide) (by omega)) (a 23 (by decide) (by omega)) (e134 15 (by decide)) e30 (ec 147 (by decide) (by decide) (by decide)) (ec 148 (by decide) (by decide) (by decide))⟩
  · rw [m1] at hk
    rw [am]
    by_cases e : k = dy ∧ s = sf
    · rw [if_pos e, e.1, e.2]; exact x1
    · rw [if_neg e, e139 _ (by omega)]; exact q3.2.1 k s hk hs'
  · rw [am]
    by_cases e : k = dy ∧ s = sf
    · rw [if_pos e]; exact ⟨y, hy, rfl⟩
    · rw [if_neg e]; exact q3.2.2.1 k s hk hs'
  · rw [m1] at hk
    rw [am, if_neg (by omega)]
    exact q3.2.2.2 k s hk hk8 hs'
set_option maxHeartbeats 1000000 in
theorem ml_mix {Q : zMem → Prop} {x1 : Int32} {h3 : zMem} (hG : gK G) (b : mBs h1 n B) (q : mok h1 n B (tke B n p) h3) (m : mA A (zI h3)) (w : wfA A) (nf : ¬ A 0 9 = 24) (e29 : zI h3 132 29 = 0) (e19 : zI h3 132 19 = nI i) (K : ∀ h', mlR h1 n B i (lnMix B n A p) h' → Q h') :
    ∃ Q36 : zMem → Prop, zConV G mX10_mixLine (d + 13) [.ref 132] h3 Q36 ∧ (∀ h37, Q36 h37 → zSh2 h37 ∧ zg G mX10_line (d + 14) 399 [.ref 132, .int x1, zU, zU, zU] [] h37 (zPV Q)) := by
  have S := q.1.sh b
  obtain ⟨w1, w1'⟩ := w 1 (by decide)
  obtain ⟨w0, w0'⟩ := w 0 (by decide)
  have s1 : msT 1 = 8 := rfl
  have s0 : msT 0 = 6 := rfl
  have e9 : zI h3 134 9 = nI (mny A 1) := m.2.1.1.trans w1
  have e8 : zI h3 134 8 = nI (mny A 0) := m.1.1.trans w0
  obtain ⟨mx, hmx, emx⟩ := m.2.2.1.1.2
  have mx24 : mx < 24 := by
    rcases Nat.lt_or_ge mx 24 with z | z
    · exact z
    · exact absurd (by rw [emx, show mx = 24 by omega]; rfl) nf
  have lt9 : A 0 9 < 24 := by rw [emx]; exact nI_lt (b := 24) mx24 (by decide)
  have l137 : ∀ h2, zSh2 h2 → zO h2 137 100 ∧ zLen h2 137 = 16 := fun h2 S2 => ⟨zcl1.o S2 137 100 rfl rfl rfl, zcl1.l S2 137 16 rfl rfl rfl⟩
  have l135 : ∀ h2, zSh2 h2 → zO h2 135 100 ∧ zLen h2 135 = 12 := fun h2 S2 => ⟨zcl1.o S2 135 100 rfl rfl rfl, zcl1.l S2 135 12 rfl rfl rfl⟩
  unfold lnMix at K
  rw [if_pos lt9] at K
  obtain ⟨R, hR⟩ : ∃ R : zMem → Prop, R = fun h37 => zSh2 h37 ∧ zg G mX10_line (d + 14) 399 [.ref 132, .int x1, zU, zU, zU] [] h37 (zPV Q) := ⟨_, rfl⟩
  have Rbad : ∀ {h5 : zMem} {f : Int32} {pl : Nat}, mbad h1 f pl h5 → (∀ h', mbad h1 f pl h' → Q h') → R h5 := fun bb KK => by
    rw [hR]; exact ⟨bb.1.sh b, ml_tailF (d := d + 2) b bb (KK _ bb)⟩
  refine ⟨R, cn_X10_mixLine (sg_X10_mixLine_0 S ?_), fun h37 z => by rw [hR] at z; exact z⟩
  refine m_fresher S (j := 1) (by decide) ?_
  rw [show zI h3 134 (8 + 1) = nI (mny A 1) from e9]
  refine m_told (A := A) (kd := 1) (fr := 8) (d := d) b q (l137 h3 S).1 (by rw [(l137 h3 S).2]; omega) (by rw [(l137 h3 S).2]; decide) (fun k hk => (m.2.1.2.1 k hk).1) (fun ct => ?_) (fun h4 ct b4 t4 => ?_)
  · rw [if_pos ct] at K
    obtain ⟨dy, hdy, edy⟩ := tdX_ix ct
    have eD : dyT B n A p = dy := by unfold dyT; rw [edy, zcla (by omega)]
    rw [eD] at K
    rw [edy]
    refine m_goOn (d := d) hG b q (fun h5 q5 t5 => ?_)
    have S5 := q5.1.sh b
    refine m_fresher S5 (j := 0) (by decide) ?_
    rw [show zI h5 134 (8 + 0) = nI (mny A 0) by rw [t5.1 134 (by decide)]; exact e8]
    refine m_told (A := A) (kd := 0) (fr := 6) (d := d) b q5 (l135 h5 S5).1 (by rw [(l135 h5 S5).2]; omega) (by rw [(l135 h5 S5).2]; decide) (fun k hk => by rw [t5.1 135 (by decide)]; exact (m.1.2 k hk).1) (fun ct2 => ?_) (fun h6 ct2 b6 t6 => ?_)
    · rw [if_pos ct2] at K
      obtain ⟨sf, hsf, esf⟩ := tdX_ix ct2
      have eS : sfT B n A p = sf := by unfold sfT; rw [esf, zcla (by omega)]
      rw [eS] at K
      rw [esf]
      have ix : (6 : Int32) * (8 + nI dy) + nI sf = nI (6 * (8 + dy) + sf) := by
        rw [show (8 : Int32) + nI dy = nI (8 + dy) from nI_add 8 dy, mul6, nI_add]
      rw [ix, zcla (show 6 * (8 + dy) + sf < 2 ^ 31 by omega)]
      refine ⟨fun z => absurd q5.2.2.2 z, fun _ => ⟨zin_n (by omega) (by decide), ?_⟩⟩
      have e139 : zI h5 139 (6 * (8 + dy) + sf) = A (10 + dy) sf := by rw [t5.1 139 (by decide)]; exact m.2.2.1.2.1 dy sf hdy (by omega)
      rw [e139]
      refine ⟨fun c0 => ?_, fun c0 => ?_⟩
      · rw [if_pos c0] at K
        refine m_goOn (d := d) hG b q5 (fun h6 q6 t6 => ?_)
        refine m_numeral (a := 1) (b0 := 99) (d := d) hG b q6 (by decide) (by decide) (fun h7 c7 q7 t7 => ⟨fun _ => ?_, fun z => absurd q7.2.2.2 z⟩) (fun h7 c7 b7 t7 => ⟨fun z => absurd (b7.2.1.symm.trans z) b7.2.2.1, fun _ => ?_⟩)
        · rw [if_pos (show nmX B n (tke B n (tke B n (tke B n p))) 1 99 = 0 from c7)] at K
          obtain ⟨y, hy1, hy, ey⟩ := nm_nat (by decide) (by decide) c7
          rw [ey] at K ⊢
          have q8 := q7.up (c := 139) (j := 6 * (8 + dy) + sf) (v := nI y) (by have : hfT 139 = 48 := rfl; omega)
          have tt := (t5.trans t6).trans t7
          refine m_fresher (q8.1.sh b) (j := 2) (by decide) ?_
          rw [show zI (zsI h7 139 (6 * (8 + dy) + sf) (nI y)) 134 (8 + 2) = nI mx by rw [zI_sI, zup_ne _ _ (by decide), tt.1 134 (by decide)]; exact m.2.2.1.1.1.trans emx, nI_1]
          refine m_reads (q8.1.sh b) (j := 2) (by decide) ?_
          have q9 := q8.up (c := 134) (j := 10) (v := nI (mx + 1)) (by unfold hfT; simp)
          have mm := mA_mix (dy := dy) (sf := sf) (y := y) (mx := mx) (h' := zsI (zsI h7 139 (6 * (8 + dy) + sf) (nI y)) 134 10 (nI (mx + 1))) (by omega) m hdy (by omega) hy emx mx24 (fun c a1 a2 a3 => by rw [zI_sI, zup_ne _ _ a2, zI_sI, zup_ne _ _ a3, tt.1 c a1]) (by rw [zI_sI, zup_ne _ _ (by decide), zI_sI, zup_ne _ _ (by decide), tt.2 18 (by decide)]) (by rw [zI_sI, zup_ne _ _ (by decide), zI_sI, zup_ne _ _ (by decide), tt.2 30 (by decide)]) (fun j hj => by rw [zI_sI, zup_i _ _ _ hj, zI_sI, zup_ne _ _ (by decide), tt.1 134 (by decide)]) (by rw [zI_sI, zup_s]) (fun j hj => by rw [zI_sI, zup_ne _ _ (by decide), zI_sI, zup_i _ _ _ hj, tt.1 139 (by decide)]) (by rw [zI_sI, zup_ne _ _ (by decide), zI_sI, zup_s])
          rw [hR]
          exact ⟨q9.1.sh b, ml_tail (d := d + 2) hG b q9 mm (by rw [zI_sI, zup_ne _ _ (by decide), zI_sI, zup_ne _ _ (by decide), tt.2 29 (by decide)]; exact e29) (by rw [zI_sI, zup_ne _ _ (by decide), zI_sI, zup_ne _ _ (by decide), tt.2 19 (by decide)]; exact e19) K⟩
        · rw [if_neg (show ¬ nmX B n (tke B n (tke B n (tke B n p))) 1 99 = 0 from c7)] at K
          exact Rbad b7 K
      · rw [if_neg c0] at K
        refine m_wrong b q5 (by decide) (fun h6 b6 t6 => ?_)
        exact m_goOnF (d := d + 11) b b6 (m_numeralF (d := d + 11) b b6 ⟨fun z => absurd (b6.2.1.symm.trans z) b6.2.2.1, fun _ => Rbad b6 K⟩)
    · rw [if_neg ct2] at K
      refine ⟨fun _ => m_goOnF (d := d + 11) b b6 (m_numeralF (d := d + 11) b b6 ⟨fun z => absurd (b6.2.1.symm.trans z) b6.2.2.1, fun _ => Rbad b6 K⟩), fun z => absurd (b6.2.1.symm.trans z) b6.2.2.1⟩
  · rw [if_neg ct] at K
    refine m_goOnF (d := d + 11) b b4 ?_
    refine m_fresher (b4.1.sh b) (j := 0) (by decide) (m_toldF (d := d + 11) b b4 ?_)
    exact ⟨fun _ => m_goOnF (d := d + 11) b b4 (m_numeralF (d := d + 11) b b4 ⟨fun z => absurd (b4.2.1.symm.trans z) b4.2.2.1, fun _ => Rbad b4 K⟩), fun z => absurd (b4.2.1.symm.trans z) b4.2.2.1⟩
end ML
