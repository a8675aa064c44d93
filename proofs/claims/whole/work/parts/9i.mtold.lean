/-! what is read, on both sides: the class's block A, the other halves of the model's rows -/
def mSt (A : tM) (I : Nat → Nat → Int32) : Prop := I 134 8 = A 1 0 ∧ ∀ k, k < mny A 0 → I 135 (6 + k) = A 3 k ∧ I 136 (6 + k) = A 7 k ∧ ∃ x : Nat, x ≤ 999 ∧ A 7 k = nI x
def mDy (A : tM) (I : Nat → Nat → Int32) : Prop := I 134 9 = A 1 1 ∧ (∀ k, k < mny A 1 → I 137 (8 + k) = A 4 k ∧ I 138 (8 + k) = A 8 k ∧ (A 8 k = 0 ∨ A 8 k = 1)) ∧ (∀ k, mny A 1 ≤ k → k < 8 → A 8 k = 0)
def mMx (A : tM) (I : Nat → Nat → Int32) : Prop := (I 134 10 = A 0 9 ∧ ∃ x : Nat, x ≤ 24 ∧ A 0 9 = nI x) ∧ (∀ k s, k < mny A 1 → s < 6 → I 139 (6 * (8 + k) + s) = A (10 + k) s) ∧ (∀ k s, k < 8 → s < 6 → ∃ x : Nat, x ≤ 99 ∧ A (10 + k) s = nI x) ∧ ∀ k s, mny A 1 ≤ k → k < 8 → s < 6 → A (10 + k) s = 0
def mRm (A : tM) (I : Nat → Nat → Int32) : Prop := I 134 11 = A 1 2 ∧ ∀ k, k < mny A 2 → I 140 (6 + k) = A 5 k ∧ I 141 (6 + k) = A 18 k ∧ ∃ x : Nat, x ≤ 100 ∧ A 18 k = nI x
def mMk (A : tM) (I : Nat → Nat → Int32) : Prop := I 134 12 = A 1 3 ∧ ∀ k, k < mny A 3 → I 142 (5 + k) = A 6 k ∧ I 143 (5 + k) = A 19 k ∧ I 144 (5 + k) = A 20 k ∧ (∃ r : Nat, r < mny A 2 ∧ A 19 k = nI r) ∧ ∃ x : Nat, 1 ≤ x ∧ x ≤ 99 ∧ A 20 k = nI x
def mLg (A : tM) (I : Nat → Nat → Int32) : Prop := I 134 13 = A 0 10 ∧ ∃ x : Nat, x ≤ 100 ∧ A 0 10 = nI x
def mTb (A : tM) (I : Nat → Nat → Int32) : Prop := (tbit (I 132 18) 5 ↔ A 0 11 ≠ 0) ∧ (tbit (I 132 18) 6 ↔ A 0 12 ≠ 0) ∧ ∀ r, r < 3 → (tbit (I 132 18) (16 + r) ↔ A 26 r ≠ 0)
def mLw (A : tM) (I : Nat → Nat → Int32) : Prop := ∀ r, r < 3 → (A 26 r = 0 → I 145 (3 + r) = 0 ∧ I 146 (3 + r) = 0) ∧ (A 26 r ≠ 0 → ∃ fr to : Nat, A 24 r = nI fr ∧ A 25 r = nI to ∧ I 145 (3 + r) = nI fr ∧ I 146 (3 + r) = nI to ∧ fr < to ∧ to ≤ lnA A ∧ wfP (fun k => I 147 (64 + k)) (fun k => I 148 (64 + k)) (to - fr) fr 0 1)
def mA (A : tM) (I : Nat → Nat → Int32) : Prop := mSt A I ∧ mDy A I ∧ mMx A I ∧ mRm A I ∧ mMk A I ∧ mLg A I ∧ mTb A I ∧ mLw A I ∧ kS A I
section TD
variable {A A' : tM} {I I' : Nat → Nat → Int32}
theorem mny_E {kd : Nat} (e : A' 1 kd = A 1 kd) : mny A' kd = mny A kd := by unfold mny; rw [e]
theorem mSt_E (q : mSt A I) (a1 : A' 1 0 = A 1 0) (a3 : A' 3 = A 3) (a7 : A' 7 = A 7) (i0 : I' 134 8 = I 134 8) (i1 : I' 135 = I 135) (i2 : I' 136 = I 136) : mSt A' I' := by
  unfold mSt at *
  rw [mny_E a1, a1, a3, a7, i0, i1, i2]; exact q
theorem mDy_E (q : mDy A I) (a1 : A' 1 1 = A 1 1) (a4 : A' 4 = A 4) (a8 : A' 8 = A 8) (i0 : I' 134 9 = I 134 9) (i1 : I' 137 = I 137) (i2 : I' 138 = I 138) : mDy A' I' := by
  unfold mDy at *
  rw [mny_E a1, a1, a4, a8, i0, i1, i2]; exact q
theorem mMx_E (q : mMx A I) (a0 : A' 0 9 = A 0 9) (a1 : A' 1 1 = A 1 1) (am : ∀ k, k < 8 → A' (10 + k) = A (10 + k)) (i0 : I' 134 10 = I 134 10) (i1 : I' 139 = I 139) (h8 : mny A 1 ≤ 8) : mMx A' I' := by
  obtain ⟨q1, q2, q3, q4⟩ := q
  refine ⟨by rw [a0, i0]; exact q1, fun k s hk hs => ?_, fun k s hk hs => ?_, fun k s hk hk2 hs => ?_⟩
  · rw [mny_E a1] at hk
    rw [i1, am k (by omega)]; exact q2 k s hk hs
  · rw [am k hk]; exact q3 k s hk hs
  · rw [mny_E a1] at hk
    rw [am k hk2]; exact q4 k s hk hk2 hs
theorem mRm_E (q : mRm A I) (a1 : A' 1 2 = A 1 2) (a5 : A' 5 = A 5) (a18 : A' 18 = A 18) (i0 : I' 134 11 = I 134 11) (i1 : I' 140 = I 140) (i2 : I' 141 = I 141) : mRm A' I' := by
  unfold mRm at *
  rw [mny_E a1, a1, a5, a18, i0, i1, i2]; exact q
theorem mMk_E (q : mMk A I) (a1 : A' 1 3 = A 1 3) (a2 : mny A 2 ≤ mny A' 2) (a6 : A' 6 = A 6) (a19 : A' 19 = A 19) (a20 : A' 20 = A 20) (i0 : I' 134 12 = I 134 12) (i1 : I' 142 = I 142) (i2 : I' 143 = I 143) (i3 : I' 144 = I 144) : mMk A' I' := by
  unfold mMk at *
  rw [mny_E a1, a1, a6, a19, a20, i0, i1, i2, i3]
  refine ⟨q.1, fun k hk => ?_⟩
  obtain ⟨q1, q2, q3, ⟨r, hr, er⟩, q5⟩ := q.2 k hk
  exact ⟨q1, q2, q3, ⟨r, by omega, er⟩, q5⟩
theorem mLg_E (q : mLg A I) (a : A' 0 10 = A 0 10) (i0 : I' 134 13 = I 134 13) : mLg A' I' := by
  unfold mLg at *
  rw [a, i0]; exact q
theorem mTb_E (q : mTb A I) (a1 : A' 0 11 = A 0 11) (a2 : A' 0 12 = A 0 12) (a26 : A' 26 = A 26) (t5 : tbit (I' 132 18) 5 ↔ tbit (I 132 18) 5) (t6 : tbit (I' 132 18) 6 ↔ tbit (I 132 18) 6) (tr : ∀ r, r < 3 → (tbit (I' 132 18) (16 + r) ↔ tbit (I 132 18) (16 + r))) : mTb A' I' := by
  obtain ⟨q1, q2, q3⟩ := q
  exact ⟨by rw [t5, a1]; exact q1, by rw [t6, a2]; exact q2, fun r hr => by rw [tr r hr, a26]; exact q3 r hr⟩
theorem mLw_E (q : mLw A I) (a24 : A' 24 = A 24) (a25 : A' 25 = A 25) (a26 : A' 26 = A 26) (a7 : A' 21 7 = A 21 7) (i1 : I' 145 = I 145) (i2 : I' 146 = I 146) (i3 : I' 147 = I 147) (i4 : I' 148 = I 148) : mLw A' I' := by
  unfold mLw lnA at *
  rw [a24, a25, a26, a7, i1, i2, i3, i4]; exact q
theorem kS_E (q : kS A I) (a21 : A' 21 = A 21) (a22 : A' 22 = A 22) (a23 : A' 23 = A 23) (i0 : I' 134 15 = I 134 15) (i1 : I' 132 30 = I 132 30) (i3 : I' 147 = I 147) (i4 : I' 148 = I 148) : kS A' I' := by
  unfold kS at *
  rw [a21, a22, a23, i0, i1, i3, i4]; exact q
/-- a token is read, a bit of what is told is set -/
theorem mA.tok {h h' : zMem} (q : mA A (zI h)) (e : tkE h h') : mA A (zI h') := by
  have e18 := e.2 18 (by decide)
  obtain ⟨q1, q2, q3, q4, q5, q6, q7, q8, q9⟩ := q
  unfold mA mSt mDy mMx mRm mMk mLg mTb mLw
  rw [e.1 134 (by decide), e.1 135 (by decide), e.1 136 (by decide), e.1 137 (by decide), e.1 138 (by decide), e.1 139 (by decide), e.1 140 (by decide), e.1 141 (by decide), e.1 142 (by decide), e.1 143 (by decide), e.1 144 (by decide), e.1 145 (by decide), e.1 146 (by decide), e.1 147 (by decide), e.1 148 (by decide), e18]
  exact ⟨q1, q2, q3, q4, q5, q6, q7, q8, q9.tk e⟩
theorem mA.set {h : zMem} (q : mA A (zI h)) {w : Nat} (hw : w < 16) (h5 : w ≠ 5) (h6 : w ≠ 6) : mA A (zI (zsI h 132 18 (zI h 132 18 ||| ((1 : Int32) <<< (nI w &&& 31))))) := by
  obtain ⟨q1, q2, q3, q4, q5, q6, q7, q8, q9⟩ := q
  have ne : ∀ c, c ≠ 132 → zI (zsI h 132 18 (zI h 132 18 ||| ((1 : Int32) <<< (nI w &&& 31)))) c = zI h c := fun c hc => by rw [zI_sI, zup_ne _ _ hc]
  have e18 : zI (zsI h 132 18 (zI h 132 18 ||| ((1 : Int32) <<< (nI w &&& 31)))) 132 18 = zI h 132 18 ||| ((1 : Int32) <<< (nI w &&& 31)) := by rw [zI_sI, zup_s]
  have e30 : zI (zsI h 132 18 (zI h 132 18 ||| ((1 : Int32) <<< (nI w &&& 31)))) 132 30 = zI h 132 30 := by rw [zI_sI, zup_i _ _ _ (by decide)]
  unfold mA mSt mDy mMx mRm mMk mLg mTb mLw kS
  rw [ne 134 (by decide), ne 135 (by decide), ne 136 (by decide), ne 137 (by decide), ne 138 (by decide), ne 139 (by decide), ne 140 (by decide), ne 141 (by decide), ne 142 (by decide), ne 143 (by decide), ne 144 (by decide), ne 145 (by decide), ne 146 (by decide), ne 147 (by decide), ne 148 (by decide), e18, e30]
  refine ⟨q1, q2, q3, q4, q5, q6, ⟨?_, ?_, fun r hr => ?_⟩, q8, q9⟩
  · rw [tb_set _ (by omega) (by decide)]
    exact ⟨fun z => z.elim (fun y => absurd y.symm h5) q7.1.mp, fun z => Or.inr (q7.1.mpr z)⟩
  · rw [tb_set _ (by omega) (by decide)]
    exact ⟨fun z => z.elim (fun y => absurd y.symm h6) q7.2.1.mp, fun z => Or.inr (q7.2.1.mpr z)⟩
  · rw [tb_set _ (by omega) (by omega)]
    exact ⟨fun z => z.elim (fun y => absurd y (by omega)) (q7.2.2 r hr).mp, fun z => Or.inr ((q7.2.2 r hr).mpr z)⟩
end TD
section FU
variable {G : zG} {d n p : Nat} {h1 h : zMem} {B : Nat → Int32} {A : tM}
/-- whether no more of a kind can be told -/
def flT (A : tM) (w : Nat) : Prop := (w = 0 ∧ A 1 0 = 6) ∨ (w = 1 ∧ A 1 1 = 8) ∨ (w = 2 ∧ A 0 9 = 24) ∨ (w = 3 ∧ A 1 2 = 6) ∨ (w = 4 ∧ A 1 3 = 5)
theorem m_isFull {Q : Int32 → zMem → Prop} {w : Nat} (S : zSh2 h) (q : mA A (zI h)) (hw : w < 8) (K1 : flT A w → Q 1 h) (K0 : ¬ flT A w → Q 0 h) : ∃ Q2 : Int32 → zMem → Prop, zConI G mX10_isFull (d + 1) [.ref 132, .int (nI w)] h Q2 ∧ (∀ v h3, Q2 v h3 → zSh2 h3 ∧ Q v h3) := by
  obtain ⟨q1, q2, q3, q4, q5, q6, q7, q8, q9⟩ := q
  have e0 := q1.1
  have e1 := q2.1
  have e2 := q3.1.1
  have e3 := q4.1
  have e4 := q5.1
  have t59 : ¬ w = 4 → ¬ flT A w → zg G mX10_isFull (d + 1) 59 [.ref 132, .int (nI w)] [] h (zPI (fun v h3 => zSh2 h3 ∧ Q v h3)) := fun n4 nf =>
    sg_X10_isFull_59 S ⟨fun _ => ⟨S, K0 nf⟩, fun z => absurd (nI_inj (b := 4) (by omega) (by decide) z) n4⟩
  have t44 : ¬ w = 3 → ¬ w = 4 → ¬ flT A w → zg G mX10_isFull (d + 1) 44 [.ref 132, .int (nI w)] [] h (zPI (fun v h3 => zSh2 h3 ∧ Q v h3)) := fun n3 n4 nf =>
    sg_X10_isFull_44 S ⟨fun _ => t59 n4 nf, fun z => absurd (nI_inj (b := 3) (by omega) (by decide) z) n3⟩
  refine ⟨fun v h3 => zSh2 h3 ∧ Q v h3, cn_X10_isFull (sg_X10_isFull_0 S ?_), fun _ _ x => x⟩
  rcases (show w = 0 ∨ w = 1 ∨ w = 2 ∨ w = 3 ∨ w = 4 ∨ 5 ≤ w by omega) with rfl | rfl | rfl | rfl | rfl | w5
  · refine ⟨fun z => absurd rfl z, fun _ => m_fresher S (j := 0) (by decide) ?_⟩
    rw [e0]
    refine ⟨fun c => ⟨S, K1 (Or.inl ⟨rfl, c⟩)⟩, fun c => ⟨fun _ => ⟨fun _ => t44 (by decide) (by decide) (fun z => z.elim (fun y => c y.2) (fun y => by simp at y)), fun z => absurd z (by decide)⟩, fun z => absurd z (by decide)⟩⟩
  · refine ⟨fun _ => ⟨fun z => absurd rfl z, fun _ => m_fresher S (j := 1) (by decide) ?_⟩, fun z => absurd z (by decide)⟩
    rw [e1]
    exact ⟨fun c => ⟨S, K1 (Or.inr (Or.inl ⟨rfl, c⟩))⟩, fun c => ⟨fun _ => t44 (by decide) (by decide) (fun z => by unfold flT at z; simp at z; exact c z), fun z => absurd z (by decide)⟩⟩
  · refine ⟨fun _ => ⟨fun _ => ⟨fun z => absurd rfl z, fun _ => m_fresher S (j := 2) (by decide) ?_⟩, fun z => absurd z (by decide)⟩, fun z => absurd z (by decide)⟩
    rw [e2]
    exact ⟨fun c => ⟨S, K1 (Or.inr (Or.inr (Or.inl ⟨rfl, c⟩)))⟩, fun c => t44 (by decide) (by decide) (fun z => by unfold flT at z; simp at z; exact c z)⟩
  · refine ⟨fun _ => ⟨fun _ => ⟨fun _ => ?_, fun z => absurd z (by decide)⟩, fun z => absurd z (by decide)⟩, fun z => absurd z (by decide)⟩
    refine sg_X10_isFull_44 S ⟨fun z => absurd rfl z, fun _ => m_fresher S (j := 3) (by decide) ?_⟩
    rw [e3]
    exact ⟨fun c => ⟨S, K1 (Or.inr (Or.inr (Or.inr (Or.inl ⟨rfl, c⟩))))⟩, fun c => t59 (by decide) (fun z => by unfold flT at z; simp at z; exact c z)⟩
  · refine ⟨fun _ => ⟨fun _ => ⟨fun _ => ?_, fun z => absurd z (by decide)⟩, fun z => absurd z (by decide)⟩, fun z => absurd z (by decide)⟩
    refine sg_X10_isFull_44 S ⟨fun _ => ?_, fun z => absurd z (by decide)⟩
    refine sg_X10_isFull_59 S ⟨fun z => absurd rfl z, fun _ => m_fresher S (j := 4) (by decide) ?_⟩
    rw [e4]
    exact ⟨fun c => ⟨S, K0 (fun z => by unfold flT at z; simp at z; exact c z)⟩, fun c => ⟨S, K1 (Or.inr (Or.inr (Or.inr (Or.inr ⟨rfl, c⟩))))⟩⟩
  · have n0 : ¬ nI w = 0 := fun z => absurd (nI_inj (b := 0) (by omega) (by decide) z) (by omega)
    have n1 : ¬ nI w = 1 := fun z => absurd (nI_inj (b := 1) (by omega) (by decide) z) (by omega)
    have n2 : ¬ nI w = 2 := fun z => absurd (nI_inj (b := 2) (by omega) (by decide) z) (by omega)
    refine ⟨fun _ => ⟨fun _ => ⟨fun _ => t44 (by omega) (by omega) (fun z => ?_), fun z => absurd z n2⟩, fun z => absurd z n1⟩, fun z => absurd z n0⟩
    rcases z with z | z | z | z | z <;> omega
end FU
