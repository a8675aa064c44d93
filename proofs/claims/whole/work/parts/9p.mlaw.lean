/-! the model's lines: laws -/
section ML
variable {G : zG} {d n p i : Nat} {h1 h : zMem} {B : Nat → Int32} {A : tM}
theorem sub9 {j : Nat} (hj : 9 ≤ j) : nI j - 9 = nI (j - 9) := by
  obtain ⟨m, rfl⟩ : ∃ m, j = m + 9 := ⟨j - 9, by omega⟩
  rw [← nI_add, show (9 : Int32) = nI 9 from rfl, Int32.add_sub_cancel]; rfl
/-- a law is told: its formula's knots stand -/
theorem mA_law {h' : zMem} {A2 : tM} {r : Nat} (hr : r < 3) (w8 : mny A 1 ≤ 8) (q : mA A (zI h)) (c0 : A 26 r = 0) (rw2 : rw3 (bgL A r) A2) (k2 : kS A2 (zI h')) {ln ln2 : Nat} (eL : A 21 7 = nI ln) (eL2 : A2 21 7 = nI ln2) (h64 : ln2 ≤ 64) (kw : kpW A A2 1 h h') (lt : ln < ln2) (ec : ∀ c, c ≠ 132 → c ≠ 134 → c ≠ 145 → c ≠ 146 → c ≠ 147 → c ≠ 148 → zI h' c = zI h c) (e134 : ∀ j, j ≠ 15 → zI h' 134 j = zI h 134 j) (e18 : zI h' 132 18 = zI h 132 18 ||| ((1 : Int32) <<< (nI (16 + r) &&& 31))) (e145 : ∀ j, j ≠ 3 + r → zI h' 145 j = zI h 145 j ∧ zI h' 146 j = zI h 146 j) (x1 : zI h' 145 (3 + r) = nI ln) (x2 : zI h' 146 (3 + r) = nI ln2) : mA (zup A2 25 r (A2 21 7)) (zI h') := by
  obtain ⟨q1, q2, q3, q4, q5, q6, q7, q8, q9⟩ := q
  obtain ⟨A', hA⟩ : ∃ A', A' = zup A2 25 r (A2 21 7) := ⟨_, rfl⟩
  rw [← hA]
  have a : ∀ c, c < 21 → A' c = A c := fun c hc => by
    rw [hA, zup_ne _ _ (by omega), rw2 c (by omega) (by omega) (by omega)]
    unfold bgL
    rw [zup_ne _ _ (by omega), zup_ne _ _ (by omega), zup_ne _ _ (by omega)]
  have a2 : ∀ c, c ≠ 25 → A' c = A2 c := fun c hc => by rw [hA, zup_ne _ _ hc]
  have a26 : ∀ k, A' 26 k = if k = r then 1 else A 26 k := fun k => by
    rw [a2 26 (by decide), rw2 26 (by decide) (by decide) (by decide)]
    unfold bgL
    rw [zup_ne _ _ (by decide), zup_ne _ _ (by decide)]
    by_cases e : k = r
    · rw [if_pos e, e, zup_s]
    · rw [if_neg e, zup_i _ _ _ e]
  have a24 : ∀ k, A' 24 k = if k = r then nI ln else A 24 k := fun k => by
    rw [a2 24 (by decide), rw2 24 (by decide) (by decide) (by decide)]
    unfold bgL
    rw [zup_ne _ _ (by decide)]
    by_cases e : k = r
    · rw [if_pos e, e, zup_s, eL]
    · rw [if_neg e, zup_i _ _ _ e, zup_ne _ _ (by decide)]
  have a25 : ∀ k, A' 25 k = if k = r then nI ln2 else A 25 k := fun k => by
    rw [hA]
    by_cases e : k = r
    · rw [if_pos e, e, zup_s, eL2]
    · rw [if_neg e, zup_i _ _ _ e, rw2 25 (by decide) (by decide) (by decide)]
      unfold bgL
      rw [zup_i _ _ _ e, zup_ne _ _ (by decide), zup_ne _ _ (by decide)]
  have l2 : lnA A' = ln2 := by unfold lnA; rw [a2 21 (by decide), eL2, zcla (by omega)]
  have l1 : lnA A = ln := by unfold lnA; rw [eL, zcla (by omega)]
  have l22 : lnA A2 = ln2 := by unfold lnA; rw [eL2, zcla (by omega)]
  refine ⟨mSt_E q1 (by rw [a 1 (by decide)]) (a 3 (by decide)) (a 7 (by decide)) (e134 8 (by decide)) (ec 135 (by decide) (by decide) (by decide) (by decide) (by decide) (by decide)) (ec 136 (by decide) (by decide) (by decide) (by decide) (by decide) (by decide)), mDy_E q2 (by rw [a 1 (by decide)]) (a 4 (by decide)) (a 8 (by decide)) (e134 9 (by decide)) (ec 137 (by decide) (by decide) (by decide) (by decide) (by decide) (by decide)) (ec 138 (by decide) (by decide) (by decide) (by decide) (by decide) (by decide)), mMx_E q3 (by rw [a 0 (by decide)]) (by rw [a 1 (by decide)]) (fun k hk => a _ (by omega)) (e134 10 (by decide)) (ec 139 (by decide) (by decide) (by decide) (by decide) (by decide) (by decide)) w8, mRm_E q4 (by rw [a 1 (by decide)]) (a 5 (by decide)) (a 18 (by decide)) (e134 11 (by decide)) (ec 140 (by decide) (by decide) (by decide) (by decide) (by decide) (by decide)) (ec 141 (by decide) (by decide) (by decide) (by decide) (by decide) (by decide)), mMk_E q5 (by rw [a 1 (by decide)]) (by unfold mny; rw [a 1 (by decide)]; exact Nat.le_refl _) (a 6 (by decide)) (a 19 (by decide)) (a 20 (by decide)) (e134 12 (by decide)) (ec 142 (by decide) (by decide) (by decide) (by decide) (by decide) (by decide)) (ec 143 (by decide) (by decide) (by decide) (by decide) (by decide) (by decide)) (ec 144 (by decide) (by decide) (by decide) (by decide) (by decide) (by decide)), mLg_E q6 (by rw [a 0 (by decide)]) (e134 13 (by decide)), ⟨?_, ?_, fun k hk => ?_⟩, fun k hk => ?_, kS_E k2 (a2 21 (by decide)) (a2 22 (by decide)) (a2 23 (by decide)) rfl rfl rfl rfl⟩
  · rw [e18, tb_set _ (by omega) (by decide), a 0 (by decide)]
    exact ⟨fun z => z.elim (fun y => absurd y (by omega)) q7.1.mp, fun z => Or.inr (q7.1.mpr z)⟩
  · rw [e18, tb_set _ (by omega) (by decide), a 0 (by decide)]
    exact ⟨fun z => z.elim (fun y => absurd y (by omega)) q7.2.1.mp, fun z => Or.inr (q7.2.1.mpr z)⟩
  · rw [e18, tb_set _ (by omega) (by omega), a26]
    by_cases e : k = r
    · rw [if_pos e]; exact ⟨fun _ => by decide, fun _ => Or.inl (by omega)⟩
    · rw [if_neg e]; exact ⟨fun z => z.elim (fun y => absurd y (by omega)) (q7.2.2 k hk).mp, fun z => Or.inr ((q7.2.2 k hk).mpr z)⟩
  · rw [a26, a24, a25, l2]
    obtain ⟨y1, y2, y3⟩ := kw
    by_cases e : k = r
    · subst e
      rw [if_pos rfl, if_pos rfl, if_pos rfl]
      refine ⟨fun z => absurd z (by decide), fun _ => ⟨ln, ln2, rfl, rfl, x1, x2, lt, Nat.le_refl _, ?_⟩⟩
      have := y3 0
      rw [l1, l22] at this
      exact this
    · rw [if_neg e, if_neg e, if_neg e]
      obtain ⟨g1, g2⟩ := e145 (3 + k) (by omega)
      rw [g1, g2]
      refine ⟨(q8 k hk).1, fun z => ?_⟩
      obtain ⟨fr, to, f1, f2, f3, f4, f5, f6, f7⟩ := (q8 k hk).2 z
      rw [l1] at f6 y2
      exact ⟨fr, to, f1, f2, f3, f4, f5, by omega, wfP_E _ _ _ (fun j _ b => y2 (64 + j) (by omega)) f7⟩
end ML
