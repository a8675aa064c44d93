/-! the model's lines: days -/
section ML
variable {G : zG} {d n p i : Nat} {h1 h : zMem} {B : Nat → Int32} {A : tM}
theorem mA_day {h' : zMem} {x fe : Int32} (w : wfA A) (q : mA A (zI h)) (hfe : fe = 0 ∨ fe = 1) (lt : mny A 1 < 8) (ec : ∀ c, c ≠ 132 → c ≠ 134 → c ≠ 137 → c ≠ 138 → c ≠ 139 → zI h' c = zI h c) (e18 : zI h' 132 18 = zI h 132 18) (e30 : zI h' 132 30 = zI h 132 30) (e134 : ∀ j, j ≠ 9 → zI h' 134 j = zI h 134 j) (e8 : zI h' 134 9 = nI (mny A 1 + 1)) (e1 : ∀ j, j ≠ 8 + mny A 1 → zI h' 137 j = zI h 137 j ∧ zI h' 138 j = zI h 138 j) (e139 : ∀ k s, k < mny A 1 → s < 6 → zI h' 139 (6 * (8 + k) + s) = zI h 139 (6 * (8 + k) + s)) (z139 : ∀ s, s < 6 → zI h' 139 (6 * (8 + mny A 1) + s) = 0) (x1 : zI h' 137 (8 + mny A 1) = x) (x2 : zI h' 138 (8 + mny A 1) = fe) : mA (zup (zup (zup A 4 (mny A 1) x) 1 1 (A 1 1 + 1)) 8 (mny A 1) fe) (zI h') := by
  obtain ⟨q1, q2, q3, q4, q5, q6, q7, q8, q9⟩ := q
  obtain ⟨A', hA⟩ : ∃ A', A' = zup (zup (zup A 4 (mny A 1) x) 1 1 (A 1 1 + 1)) 8 (mny A 1) fe := ⟨_, rfl⟩
  rw [← hA]
  have a : ∀ c, c ≠ 1 → c ≠ 4 → c ≠ 8 → A' c = A c := fun c c1 c4 c8 => by rw [hA, zup_ne _ _ c8, zup_ne _ _ c1, zup_ne _ _ c4]
  have a1 : ∀ k, k ≠ 1 → A' 1 k = A 1 k := fun k hk => by rw [hA, zup_ne _ _ (show 1 ≠ 8 by decide), zup_i _ _ _ hk, zup_ne _ _ (show 1 ≠ 4 by decide)]
  have a11 : A' 1 1 = nI (mny A 1 + 1) := by rw [hA, zup_ne _ _ (show 1 ≠ 8 by decide), zup_s, (w 1 (by decide)).1, nI_1]
  have a4 : ∀ k, A' 4 k = if k = mny A 1 then x else A 4 k := fun k => by
    rw [hA, zup_ne _ _ (show 4 ≠ 8 by decide), zup_ne _ _ (show 4 ≠ 1 by decide)]
    by_cases e : k = mny A 1
    · rw [if_pos e, e, zup_s]
    · rw [if_neg e, zup_i _ _ _ e]
  have a8 : ∀ k, A' 8 k = if k = mny A 1 then fe else A 8 k := fun k => by
    rw [hA]
    by_cases e : k = mny A 1
    · rw [if_pos e, e, zup_s]
    · rw [if_neg e, zup_i _ _ _ e, zup_ne _ _ (show 8 ≠ 1 by decide), zup_ne _ _ (show 8 ≠ 4 by decide)]
  have m1 : mny A' 1 = mny A 1 + 1 := by unfold mny at *; rw [a11, zcla (by omega)]
  have am : ∀ k, A' (10 + k) = A (10 + k) := fun k => a _ (by omega) (by omega) (by omega)
  refine ⟨mSt_E q1 (a1 0 (by decide)) (a 3 (by decide) (by decide) (by decide)) (a 7 (by decide) (by decide) (by decide)) (e134 8 (by decide)) (ec 135 (by decide) (by decide) (by decide) (by decide) (by decide)) (ec 136 (by decide) (by decide) (by decide) (by decide) (by decide)), ⟨by rw [e8, a11], fun k hk => ?_, fun k hk hk8 => ?_⟩, ⟨⟨by rw [a 0 (by decide) (by decide) (by decide), e134 10 (by decide)]; exact q3.1.1, by rw [a 0 (by decide) (by decide) (by decide)]; exact q3.1.2⟩, fun k s hk hs => ?_, fun k s hk hs => by rw [am]; exact q3.2.2.1 k s hk hs, fun k s hk hk8 hs => by rw [am]; exact q3.2.2.2 k s (by omega) hk8 hs⟩, mRm_E q4 (a1 2 (by decide)) (a 5 (by decide) (by decide) (by decide)) (a 18 (by decide) (by decide) (by decide)) (e134 11 (by decide)) (ec 140 (by decide) (by decide) (by decide) (by decide) (by decide)) (ec 141 (by decide) (by decide) (by decide) (by decide) (by decide)), mMk_E q5 (a1 3 (by decide)) (by rw [mny_E (a1 2 (by decide))]; exact Nat.le_refl _) (a 6 (by decide) (by decide) (by decide)) (a 19 (by decide) (by decide) (by decide)) (a 20 (by decide) (by decide) (by decide)) (e134 12 (by decide)) (ec 142 (by decide) (by decide) (by decide) (by decide) (by decide)) (ec 143 (by decide) (by decide) (by decide) (by decide) (by decide)) (ec 144 (by decide) (by decide) (by decide) (by decide) (by decide)), mLg_E q6 (by rw [a 0 (by decide) (by decide) (by decide)]) (e134 13 (by decide)), mTb_E q7 (by rw [a 0 (by decide) (by decide) (by decide)]) (by rw [a 0 (by decide) (by decide) (by decide)]) (a 26 (by decide) (by decide) (by decide)) (by rw [e18]) (by rw [e18]) (fun r _ => by rw [e18]), mLw_E q8 (a 24 (by decide) (by decide) (by decide)) (a 25 (by decide) (by decide) (by decide)) (a 26 (by decide) (by decide) (by decide)) (by rw [a 21 (by decide) (by decide) (by decide)]) (ec 145 (by decide) (by decide) (by decide) (by decide) (by decide)) (ec 146 (by decide) (by decide) (by decide) (by decide) (by decide)) (ec 147 (by decide) (by decide) (by decide) (by decide) (by decide)) (ec 148 (by decide) (by decide) (by decide) (by decide) (by decide)), kS_E q9 (a 21 (by decide) (by decide) (by decide)) (a 22 (by decide) (by decide) (by decide)) (a 23 (by decide) (by decide) (by decide)) (e134 15 (by decide)) e30 (ec 147 (by decide) (by decide) (by decide) (by decide) (by decide)) (ec 148 (by decide) (by decide) (by decide) (by decide) (by decide))⟩
  · rw [m1] at hk
    rw [a4, a8]
    by_cases e : k = mny A 1
    · subst e
      rw [if_pos rfl, if_pos rfl]
      exact ⟨x1, x2, hfe⟩
    · obtain ⟨g1, g2⟩ := e1 (8 + k) (by omega)
      rw [if_neg e, if_neg e, g1, g2]
      exact q2.2.1 k (by omega)
  · rw [m1] at hk
    rw [a8, if_neg (by omega)]
    exact q2.2.2 k (by omega) hk8
  · rw [m1] at hk
    rw [am]
    by_cases e : k = mny A 1
    · subst e
      rw [z139 s hs, q3.2.2.2 _ s (Nat.le_refl _) lt hs]
    · rw [e139 k s (by omega) hs]; exact q3.2.1 k s (by omega) hs
theorem mul6 (a : Nat) : (6 : Int32) * nI a = nI (6 * a) := (Int32.ofNat_mul 6 a).symm
set_option maxHeartbeats 1000000 in
theorem ml_day {Q : zMem → Prop} {x1 : Int32} {h3 : zMem} (hG : gK G) (b : mBs h1 n B) (q : mok h1 n B (tke B n p) h3) (m : mA A (zI h3)) (w : wfA A) (nf : ¬ nI (msT 1) ≤ A 1 1) (e29 : zI h3 132 29 = 0) (e19 : zI h3 132 19 = nI i) (K : ∀ h', mlR h1 n B i (lnDay B n A p) h' → Q h') :
    ∃ Q29 : Int32 → zMem → Prop, zConI G mX10_fresher (d + 13) [.ref 132, .int (1)] h3 Q29 ∧ (∀ v32 h30, Q29 v32 h30 → zSh2 h30 ∧ ∃ Q33 : zMem → Prop, zConV G mX10_dayLine (d + 13) [.ref 132, .int ((8) + v32)] h30 Q33 ∧ (∀ h34, Q33 h34 → zSh2 h34 ∧ zg G mX10_line (d + 14) 399 [.ref 132, .int x1, zU, zU, zU] [] h34 (zPV Q))) := by
  have S := q.1.sh b
  obtain ⟨w0, w0'⟩ := w 1 (by decide)
  have s1 : msT 1 = 8 := rfl
  have lt : mny A 1 < 8 := by
    rw [w0] at nf
    exact Nat.lt_of_not_le (fun z => nf (nI_le (by omega) (by omega)))
  have e9 : zI h3 134 9 = nI (mny A 1) := m.2.1.1.trans w0
  have add : (8 : Int32) + nI (mny A 1) = nI (8 + mny A 1) := nI_add 8 _
  have l137 : ∀ h2, zSh2 h2 → zO h2 137 100 ∧ zLen h2 137 = 16 := fun h2 S2 => ⟨zcl1.o S2 137 100 rfl rfl rfl, zcl1.l S2 137 16 rfl rfl rfl⟩
  unfold lnDay nwX nwP at K
  rw [if_neg nf] at K
  refine m_fresher S (j := 1) (by decide) ?_
  rw [show zI h3 134 (8 + 1) = nI (mny A 1) from e9, add]
  refine ⟨fun h34 => zSh2 h34 ∧ zg G mX10_line (d + 14) 399 [.ref 132, .int x1, zU, zU, zU] [] h34 (zPV Q), cn_X10_dayLine (sg_X10_dayLine_0 S ?_), fun _ x => x⟩
  refine m_fresher S (j := 1) (by decide) ?_
  rw [show zI h3 134 (8 + 1) = nI (mny A 1) from e9, zcla (show 8 + mny A 1 < 2 ^ 31 by omega)]
  refine m_fresh (A := A) (kd := 1) (fr := 8) (d := d) hG b q (l137 h3 S).1 (by rw [(l137 h3 S).2]; omega) (by rw [(l137 h3 S).2]; decide) (fun k hk => (m.2.1.2.1 k hk).1) (fun h4 c35 cf q4 t4 => ?_) (fun h4 cf b4 t4 => ?_)
  · rw [if_pos c35, if_pos cf, if_pos rfl] at K
    refine ⟨zin_n (by omega) (by decide), fun _ => ?_, fun z => absurd (show zI (zsI h4 137 (8 + mny A 1) (tkl B n (tke B n p))) 132 25 = 0 by rw [zI_sI, zup_ne _ _ (by decide)]; exact q4.2.2.2) z⟩
    have q5 := q4.up (c := 137) (j := 8 + mny A 1) (v := tkl B n (tke B n p)) (by unfold hfT; simp)
    -- the row of the new day, and its number
    have L : ∀ (fe : Int32) (p2 : Nat), (fe = 0 ∨ fe = 1) → ∀ k s (h5 : zMem), k + s = 6 → mok h1 n B p2 h5 → (∀ c, c ≠ 132 → c ≠ 137 → c ≠ 138 → c ≠ 139 → zI h5 c = zI h3 c) → (∀ j, j < 21 ∨ 27 ≤ j → zI h5 132 j = zI h3 132 j) → (∀ j, j ≠ 8 + mny A 1 → zI h5 137 j = zI h3 137 j ∧ zI h5 138 j = zI h3 138 j) → zI h5 137 (8 + mny A 1) = tkl B n (tke B n p) → zI h5 138 (8 + mny A 1) = fe → (∀ j, j < 6 * (8 + mny A 1) → zI h5 139 j = zI h3 139 j) → (∀ s', s' < s → zI h5 139 (6 * (8 + mny A 1) + s') = 0) → (∀ h', mlR h1 n B i (stp B n (zup (nwA B n A 1 p) 8 (mny A 1) fe) p2) h' → Q h') → zg G mX10_dayLine (d + 13) 65 [.ref 132, .int (nI (8 + mny A 1)), .int (nI s)] [] h5 (zPV (fun h34 => zSh2 h34 ∧ zg G mX10_line (d + 14) 399 [.ref 132, .int x1, zU, zU, zU] [] h34 (zPV Q))) := by
      intro fe p2 hfe k
      induction k with
      | zero =>
        intro s h5 hs q5 ec ej e1 x1' x2' e139 z139 KK
        have : s = 6 := by omega
        subst this
        have S5 := q5.1.sh b
        refine sg_X10_dayLine_65 S5 ⟨fun _ => m_fresher S5 (j := 1) (by decide) ?_, fun c => absurd (show nI 6 ≤ nI 6 from nI_le (Nat.le_refl _) (by decide)) c⟩
        have g9 : zI h5 134 (8 + 1) = nI (mny A 1) := by rw [ec 134 (by decide) (by decide) (by decide) (by decide)]; exact e9
        rw [g9, nI_1]
        refine m_reads S5 (j := 1) (by decide) ?_
        have q6 := q5.up (c := 134) (j := 9) (v := nI (mny A 1 + 1)) (by unfold hfT; simp)
        refine ⟨q6.1.sh b, ?_⟩
        have ne : ∀ c, c ≠ 134 → zI (zsI h5 134 9 (nI (mny A 1 + 1))) c = zI h5 c := fun c hc => by rw [zI_sI, zup_ne _ _ hc]
        have mm := mA_day (h' := zsI h5 134 9 (nI (mny A 1 + 1))) (x := tkl B n (tke B n p)) (fe := fe) w m hfe lt (fun c a1 a2 a3 a4 a5 => by rw [ne c a2]; exact ec c a1 a3 a4 a5) (by rw [ne 132 (by decide)]; exact ej 18 (by decide)) (by rw [ne 132 (by decide)]; exact ej 30 (by decide)) (fun j hj => by rw [zI_sI, zup_i _ _ _ hj]; exact congrFun (ec 134 (by decide) (by decide) (by decide) (by decide)) j) (by rw [zI_sI, zup_s]) (fun j hj => by rw [ne 137 (by decide), ne 138 (by decide)]; exact e1 j hj) (fun k s hk hs => by rw [ne 139 (by decide)]; exact e139 _ (by omega)) (fun s hs => by rw [ne 139 (by decide)]; exact z139 s hs) (by rw [ne 137 (by decide)]; exact x1') (by rw [ne 138 (by decide)]; exact x2')
        exact ml_tail (d := d + 2) hG b q6 mm (by rw [ne 132 (by decide), ej 29 (by decide)]; exact e29) (by rw [ne 132 (by decide), ej 19 (by decide)]; exact e19) KK
      | succ k ih =>
        intro s h5 hs q5 ec ej e1 x1' x2' e139 z139 KK
        have S5 := q5.1.sh b
        refine sg_X10_dayLine_65 S5 ⟨fun c => absurd c (nI_ge (b := 6) (by omega) (by decide)), fun _ => ?_⟩
        rw [mul6, nI_add, nI_1, zcla (show 6 * (8 + mny A 1) + s < 2 ^ 31 by omega)]
        refine ⟨zin_n (by omega) (by decide), ?_⟩
        have q6 := q5.up (c := 139) (j := 6 * (8 + mny A 1) + s) (v := 0) (by have : hfT 139 = 48 := rfl; omega)
        have ne : ∀ c, c ≠ 139 → zI (zsI h5 139 (6 * (8 + mny A 1) + s) 0) c = zI h5 c := fun c hc => by rw [zI_sI, zup_ne _ _ hc]
        refine ih (s + 1) _ (by omega) q6 (fun c a1 a2 a3 a4 => by rw [ne c a4]; exact ec c a1 a2 a3 a4) (fun j hj => by rw [ne 132 (by decide)]; exact ej j hj) (fun j hj => by rw [ne 137 (by decide), ne 138 (by decide)]; exact e1 j hj) (by rw [ne 137 (by decide)]; exact x1') (by rw [ne 138 (by decide)]; exact x2') (fun j hj => by rw [zI_sI, zup_i _ _ _ (by omega)]; exact e139 j hj) (fun s' hs' => ?_) KK
        rw [zI_sI]
        by_cases e : s' = s
        · rw [e, zup_s]
        · rw [zup_i _ _ _ (by omega)]; exact z139 s' (by omega)
    refine m_isWord b q5 (w := 8) (by decide) (fun c8 => ⟨fun z => absurd z (by decide), fun _ => ?_⟩) (fun c8 => ⟨fun _ => ?_, fun z => absurd rfl z⟩)
    · have c8' : tkt B n (tke B n (tke B n p)) = 8 := c8
      rw [if_pos c8'] at K
      refine ⟨fun z => absurd (by rw [zI_sI, zup_s]) z, fun _ => ?_⟩
      have q6 := q5.up (c := 138) (j := 8 + mny A 1) (v := 1) (by unfold hfT; simp)
      refine m_token (d := d + 1) hG b q6.1 q6.2.1 q6.2.2.1 q6.2.2.2 (fun h7 q7 t7 => ?_)
      refine L 1 _ (Or.inr rfl) 6 0 h7 rfl q7 (fun c a1 a2 a3 a4 => by rw [t7.1 c a1, zI_sI, zup_ne _ _ a3, zI_sI, zup_ne _ _ a2, t4.1 c a1]) (fun j hj => by rw [t7.2 j hj, zI_sI, zup_ne _ _ (by decide), zI_sI, zup_ne _ _ (by decide), t4.2 j hj]) (fun j hj => ⟨by rw [t7.1 137 (by decide), zI_sI, zup_ne _ _ (by decide), zI_sI, zup_i _ _ _ hj, t4.1 137 (by decide)], by rw [t7.1 138 (by decide), zI_sI, zup_i _ _ _ hj, zI_sI, zup_ne _ _ (by decide), t4.1 138 (by decide)]⟩) (by rw [t7.1 137 (by decide), zI_sI, zup_ne _ _ (by decide), zI_sI, zup_s]) (by rw [t7.1 138 (by decide), zI_sI, zup_s]) (fun j hj => by rw [t7.1 139 (by decide), zI_sI, zup_ne _ _ (by decide), zI_sI, zup_ne _ _ (by decide), t4.1 139 (by decide)]) (fun s' hs' => absurd hs' (by omega)) K
    · have c8' : ¬ tkt B n (tke B n (tke B n p)) = 8 := c8
      rw [if_neg c8'] at K
      refine ⟨fun _ => ?_, fun z => absurd z (by rw [zI_sI, zup_s]; decide)⟩
      have q6 := q5.up (c := 138) (j := 8 + mny A 1) (v := 0) (by unfold hfT; simp)
      have eA : zup (nwA B n A 1 p) 8 (mny A 1) 0 = nwA B n A 1 p := by
        have : (nwA B n A 1 p) 8 (mny A 1) = 0 := by unfold nwA; rw [zup_ne _ _ (by decide), zup_ne _ _ (by decide)]; exact m.2.1.2.2 _ (Nat.le_refl _) lt
        have z := zup_self (nwA B n A 1 p) 8 (mny A 1)
        rw [this] at z; exact z
      refine L 0 _ (Or.inl rfl) 6 0 _ rfl q6 (fun c a1 a2 a3 a4 => by rw [zI_sI, zup_ne _ _ a3, zI_sI, zup_ne _ _ a2, t4.1 c a1]) (fun j hj => by rw [zI_sI, zup_ne _ _ (by decide), zI_sI, zup_ne _ _ (by decide), t4.2 j hj]) (fun j hj => ⟨by rw [zI_sI, zup_ne _ _ (by decide), zI_sI, zup_i _ _ _ hj, t4.1 137 (by decide)], by rw [zI_sI, zup_i _ _ _ hj, zI_sI, zup_ne _ _ (by decide), t4.1 138 (by decide)]⟩) (by rw [zI_sI, zup_ne _ _ (by decide), zI_sI, zup_s]) (by rw [zI_sI, zup_s]) (fun j hj => by rw [zI_sI, zup_ne _ _ (by decide), zI_sI, zup_ne _ _ (by decide), t4.1 139 (by decide)]) (fun s' hs' => absurd hs' (by omega)) (by rw [eA]; exact K)
  · have cx : (if tkt B n (tke B n p) = 35 then (if fnd A 1 (tkl B n (tke B n p)) = -1 then (0 : Int32) else 3) else 1) = (if tkt B n (tke B n p) = 35 then 3 else 1) := by
      by_cases c35 : tkt B n (tke B n p) = 35
      · rw [if_pos c35, if_pos c35, if_neg (fun z => cf ⟨c35, z⟩)]
      · rw [if_neg c35, if_neg c35]
    have cne : (if tkt B n (tke B n p) = 35 then (3 : Int32) else 1) ≠ 0 := by split <;> decide
    rw [cx, if_neg cne, if_neg nf] at K
    have b5 := b4.up (c := 137) (j := 8 + mny A 1) (v := 0) (by unfold hfT; simp)
    refine ⟨zin_n (by omega) (by decide), fun z => absurd (b5.2.1.symm.trans z) b5.2.2.1, fun _ => ⟨b5.1.sh b, ?_⟩⟩
    exact ml_tailF (d := d + 2) b b5 (K _ b5)
end ML
