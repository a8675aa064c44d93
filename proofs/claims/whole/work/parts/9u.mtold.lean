/-! a text that both have read: told alike -/
theorem wfM_congr {s v s' v' : Nat → Int32} : ∀ n i k, (∀ j, i ≤ j → j < i + n → s' j = s j ∧ v' j = v j) → wfM s v n i k → wfM s' v' n i k
  | 0, _, _, _, q => q
  | n + 1, i, k, e, q => by
    have e0 := e i (Nat.le_refl _) (by omega)
    have ih := fun k => wfM_congr n (i + 1) k (fun j a b => e j (by omega) (by omega))
    rw [wfM] at q ⊢
    rw [e0.1, e0.2]
    by_cases c : s i = 2
    · rw [if_pos c] at q ⊢
      by_cases c2 : v i = 260
      · rw [if_pos c2] at q ⊢; exact ⟨q.1, ih _ q.2⟩
      · rw [if_neg c2] at q ⊢; exact ⟨q.1, ih _ q.2⟩
    · rw [if_neg c] at q ⊢
      by_cases c2 : s i = 0
      · rw [if_pos c2] at q ⊢; exact ih _ q
      · rw [if_neg c2] at q ⊢; exact ⟨q.1, ih _ q.2⟩
theorem mxM_pl {I : Nat → Nat → Int32} (p : pln I) {d : Nat} (hd : d < 8) (s : Nat) : mxM I d s = I 139 (6 * d + s) := by
  unfold mxM mxC mxB
  rw [if_pos p.1, if_pos p.1, p.2, if_neg (nI_nm1 (by omega))]
theorem wfL_ln {A : tM} (w : wfL A) : A 21 8 = A 21 7 ∧ lnA A ≤ 64 := by
  obtain ⟨⟨ln, kn, v1, v2, v3, v4, v5⟩, _⟩ := w
  have e : nop [] = 0 := rfl
  rw [e] at v3
  refine ⟨by rw [v1, v2, ← v3]; rfl, ?_⟩
  unfold lnA
  rw [v1, zcla (by omega)]
  omega
section TT
variable {I Im A : Nat → Nat → Int32} {b : Nat}
set_option maxHeartbeats 1000000 in
theorem tx_tdR (hC : ∀ k, k < 27 → k ≠ 23 → I (b + k) = A k) (hC3 : ∀ i, A 22 i = 36 → I (b + 23) i = A 23 i) (hM : ∀ c, 134 ≤ c → c ≤ 148 → ∀ k, k < hfT c → I c k = Im c (hfT c + k)) (m : mA A Im) (wA : wfA A) (wL : wfL A) (pl : pln I) : tdR I b (mny A 0) (mny A 1) (mny A 2) (mny A 3) := by
  have r134 : ∀ k, k < 8 → I 134 k = Im 134 (8 + k) := fun k hk => hM 134 (by decide) (by decide) k hk
  have r135 : ∀ k, k < 6 → I 135 k = Im 135 (6 + k) := fun k hk => hM 135 (by decide) (by decide) k hk
  have r136 : ∀ k, k < 6 → I 136 k = Im 136 (6 + k) := fun k hk => hM 136 (by decide) (by decide) k hk
  have r137 : ∀ k, k < 8 → I 137 k = Im 137 (8 + k) := fun k hk => hM 137 (by decide) (by decide) k hk
  have r138 : ∀ k, k < 8 → I 138 k = Im 138 (8 + k) := fun k hk => hM 138 (by decide) (by decide) k hk
  have r139 : ∀ k, k < 48 → I 139 k = Im 139 (48 + k) := fun k hk => hM 139 (by decide) (by decide) k hk
  have r140 : ∀ k, k < 6 → I 140 k = Im 140 (6 + k) := fun k hk => hM 140 (by decide) (by decide) k hk
  have r141 : ∀ k, k < 6 → I 141 k = Im 141 (6 + k) := fun k hk => hM 141 (by decide) (by decide) k hk
  have r142 : ∀ k, k < 5 → I 142 k = Im 142 (5 + k) := fun k hk => hM 142 (by decide) (by decide) k hk
  have r143 : ∀ k, k < 5 → I 143 k = Im 143 (5 + k) := fun k hk => hM 143 (by decide) (by decide) k hk
  have r144 : ∀ k, k < 5 → I 144 k = Im 144 (5 + k) := fun k hk => hM 144 (by decide) (by decide) k hk
  have r145 : ∀ k, k < 3 → I 145 k = Im 145 (3 + k) := fun k hk => hM 145 (by decide) (by decide) k hk
  have r146 : ∀ k, k < 3 → I 146 k = Im 146 (3 + k) := fun k hk => hM 146 (by decide) (by decide) k hk
  have r147 : ∀ k, k < 64 → I 147 k = Im 147 (64 + k) := fun k hk => hM 147 (by decide) (by decide) k hk
  have r148 : ∀ k, k < 64 → I 148 k = Im 148 (64 + k) := fun k hk => hM 148 (by decide) (by decide) k hk
  obtain ⟨⟨s0, s1⟩, ⟨d0, d1, d2⟩, ⟨⟨x0, x9⟩, x1, x2, x3⟩, ⟨o0, o1⟩, ⟨k0, k1⟩, ⟨g0, g1⟩, tb, lw, ⟨ks0, ks1, ks2⟩⟩ := m
  have w0 := wA 0 (by decide)
  have w1 := wA 1 (by decide)
  have w2 := wA 2 (by decide)
  have w3 := wA 3 (by decide)
  have n0 : mny A 0 ≤ 6 := w0.2
  have n1 : mny A 1 ≤ 8 := w1.2
  have n2 : mny A 2 ≤ 6 := w2.2
  have n3 : mny A 3 ≤ 5 := w3.2
  obtain ⟨l1, l2⟩ := wfL_ln wL
  have c0 : I b = A 0 := hC 0 (by decide) (by decide)
  have c1 : I (b + 1) = A 1 := hC 1 (by decide) (by decide)
  have mx : ∀ dy s, dy < mny A 1 → s < 6 → I 139 (6 * dy + s) = A (10 + dy) s := fun dy s hd hs => by
    rw [r139 _ (by omega), show 48 + (6 * dy + s) = 6 * (8 + dy) + s by omega]; exact x1 dy s hd hs
  have e22 : I (b + 21 + 1) = A 22 := hC 22 (by decide) (by decide)
  have e24 : I (b + 21 + 3) = A 24 := hC 24 (by decide) (by decide)
  have e25 : I (b + 21 + 4) = A 25 := hC 25 (by decide) (by decide)
  have e26 : I (b + 21 + 5) = A 26 := hC 26 (by decide) (by decide)
  have kv : ∀ j, j < lnA A → A 22 j = opT (I 147 j) (I 148 j) ∧ (A 22 j = 36 → A 23 j = I 148 j) ∧ kvOK (I 147 j) (I 148 j) := fun j hj => by
    rw [r147 j (by omega), r148 j (by omega)]; exact ks2 j hj
  refine ⟨⟨?_, ?_, ?_, ?_, n0, n1, n2, n3, ?_⟩, ⟨?_, ?_, ?_, ?_, n0, n1, n2, n3, ?_, Or.inl pl.1, ?_, ?_, ?_, ?_⟩, ⟨?_, ?_, ?_, ?_, ?_, ?_, ?_⟩, ?_, ?_, ?_, ?_, ?_, ?_, ?_, ?_, ?_, ?_⟩
  · rw [c1]; exact w0.1
  · rw [c1]; exact w1.1
  · rw [c1]; exact w2.1
  · rw [c1]; exact w3.1
  · intro r hr q
    rw [e26] at q
    obtain ⟨fr, to, a1, a2, a3, a4, a5, a6, a7⟩ := (lw r hr).2 q
    rw [e24, e25]
    exact ⟨fr, to, a1, a2, by omega, by omega⟩
  · rw [r134 0 (by decide)]; exact s0.trans w0.1
  · rw [r134 1 (by decide)]; exact d0.trans w1.1
  · rw [r134 3 (by decide)]; exact o0.trans w2.1
  · rw [r134 4 (by decide)]; exact k0.trans w3.1
  · intro r hr
    by_cases c : A 26 r = 0
    · obtain ⟨a1, a2⟩ := (lw r hr).1 c
      exact ⟨0, 0, by rw [r145 r hr]; exact a1, by rw [r146 r hr]; exact a2, by omega, by omega, fun z => absurd z (by omega), fun j a b => absurd b (by omega)⟩
    · obtain ⟨fr, to, a1, a2, a3, a4, a5, a6, a7⟩ := (lw r hr).2 c
      refine ⟨fr, to, by rw [r145 r hr]; exact a3, by rw [r146 r hr]; exact a4, by omega, by omega, fun _ => ?_, fun j a b => (kv j (by omega)).2.2⟩
      exact wfM_congr _ _ _ (fun j a b => ⟨r147 j (by omega), r148 j (by omega)⟩) (wfP_M _ _ _ _ _ a7)
  · intro k hk
    obtain ⟨a1, a2, a3, a4, x, b1, b2, b3⟩ := k1 k hk
    exact ⟨x, b1, b2, by rw [r144 k (by omega), a3]; exact b3⟩
  · intro dy s hd hs
    rw [mxM_pl pl (by omega), mx dy s hd (by omega)]
    obtain ⟨x, q1, q2⟩ := x2 dy s (by omega) (by omega)
    exact ⟨x, by omega, q2⟩
  · obtain ⟨x, q1, q2⟩ := g1
    exact ⟨x, q1, by rw [r134 5 (by decide)]; exact g0.trans q2⟩
  · intro k hk
    obtain ⟨a1, a2, x, q1, q2⟩ := o1 k hk
    exact ⟨x, q1, by rw [r141 k (by omega), a2]; exact q2⟩
  · rw [c0, r134 5 (by decide)]; exact g0.symm
  · intro s hs
    rw [hC 7 (by decide) (by decide), r136 s (by omega)]; exact (s1 s hs).2.1.symm
  · intro k hk
    rw [hC 8 (by decide) (by decide), r138 k (by omega)]; exact (d1 k hk).2.1.symm
  · intro dy s hd hs
    rw [mx dy s hd (by omega), show b + 9 + 1 + dy = b + (10 + dy) by omega, hC (10 + dy) (by omega) (by omega)]
  · intro k hk
    rw [hC 18 (by decide) (by decide), r141 k (by omega)]; exact (o1 k hk).2.1.symm
  · intro k hk
    obtain ⟨a1, a2, a3, a4⟩ := k1 k hk
    rw [hC 19 (by decide) (by decide), hC 20 (by decide) (by decide), r143 k (by omega), r144 k (by omega)]
    exact ⟨a2.symm, a3.symm⟩
  · intro r hr
    rw [e26, e24, e25, e22]
    refine ⟨fun c => ?_, fun c => ?_⟩
    · obtain ⟨a1, a2⟩ := (lw r hr).1 c
      rw [r145 r hr, r146 r hr, a1, a2]; decide
    · obtain ⟨fr, to, a1, a2, a3, a4, a5, a6, a7⟩ := (lw r hr).2 c
      rw [r145 r hr, r146 r hr, a3, a4, a1, a2, zcla (show fr < 2 ^ 31 by omega), zcla (show to < 2 ^ 31 by omega)]
      refine ⟨nI_lt a5 (by omega), rfl, rfl, fun k x y => ?_⟩
      obtain ⟨z1, z2, z3⟩ := kv k (by omega)
      exact ⟨z1, fun z => (hC3 k z).trans (z2 z)⟩
  · intro dy s hd hs
    rw [mx dy s hd (by omega)]
    exact x2 dy s (by omega) (by omega)
  · intro k hk
    rw [hC 3 (by decide) (by decide), r135 k (by omega)]; exact (s1 k hk).1.symm
  · intro k hk
    rw [hC 4 (by decide) (by decide), r137 k (by omega)]; exact (d1 k hk).1.symm
  · intro k hk
    rw [hC 5 (by decide) (by decide), r140 k (by omega)]; exact (o1 k hk).1.symm
  · intro k hk
    rw [hC 6 (by decide) (by decide), r142 k (by omega)]; exact (k1 k hk).1.symm
  · rw [c0, r134 2 (by decide)]; exact x0.symm
  · rw [hC 21 (by decide) (by decide), r134 7 (by decide)]; exact l1.trans ks0.symm
  · intro s hs
    obtain ⟨a1, a2, x, q1, q2⟩ := s1 s hs
    exact ⟨x, q1, by rw [r136 s (by omega), a2]; exact q2⟩
  · intro k hk
    obtain ⟨a1, a2, a3, ⟨r, b1, b2⟩, a4⟩ := k1 k hk
    exact ⟨r, b1, by rw [r143 k (by omega), a2]; exact b2⟩
  · intro k hk
    rw [r138 k (by omega), (d1 k hk).2.1]; exact (d1 k hk).2.2
/-- the first morning is alike -/
theorem tx_now {I0 J K : Nat → Nat → Int32} {ns nd nr nm : Nat} (T : tdR I b ns nd nr nm) (bg : beginR I0 J 48 b) (hI0 : ∀ k, k < 27 → I0 (b + k) = I (b + k)) (hJ : ∀ c, 48 ≤ c → c < 65 → I c = J c) (st : stR K I 0 ns nm) : nowR I 48 0 ns nd nr nm 0 := by
  obtain ⟨td, md, rl, -, -, -, -, -, -, -, q136, q143, -⟩ := T
  obtain ⟨t0, t1, t2, t3, h6, h8, h6r, h5, -⟩ := td
  obtain ⟨g1, g2, g3, g4, g5, g6, g7, g8, g9, g10⟩ := bg
  obtain ⟨s1, ⟨s2, s3, s4, s5⟩, -, s6, -, s7, -, s8, -⟩ := st
  have k136 : K 136 = I 136 := (s1 136 (by omega)).symm
  have k143 : K 143 = I 143 := (s1 143 (by omega)).symm
  have k134 : K 134 = I 134 := (s1 134 (by omega)).symm
  rw [k136] at s6
  rw [k143, k134] at s8
  have i156 : ∀ s, s < ns → I 156 (6 * 0 + s) = I 136 s := fun s hs => by rw [(s6 s (by omega)).1, if_pos hs]
  have nd1 : 0 < nd → I 134 1 - 1 = nI (nd - 1) := fun h0 => by
    rw [md.2.1]
    have : nI nd = nI (nd - 1) + 1 := by rw [nI_1, Nat.sub_add_cancel h0]
    rw [this, Int32.add_sub_cancel]
  refine ⟨⟨?_, ?_, ?_, ?_, ?_, fun s hs => ⟨?_, ?_⟩, fun p hp => ?_, fun p s hp hs => ?_, fun m hm => ⟨?_, ?_, ?_, ?_⟩⟩, ⟨fun m hm => ?_, fun m hm h0 => ?_, s2, fun s hs => ⟨0, by omega, (s6 s (by omega)).2⟩, fun p s hp hs => ⟨0, Nat.zero_le _, s7 p s (by omega) (by omega)⟩, fun s hs => ?_⟩, fun s hs => ⟨0, by omega, (s6 s (by omega)).2⟩, by omega⟩
  · rw [hJ 48 (by omega) (by omega), g6, s2]
  · rw [hJ 48 (by omega) (by omega), g7, s3]
  · rw [hJ 48 (by omega) (by omega), g8, s4]
  · rw [hJ 48 (by omega) (by omega), g9, s5]
  · rw [hJ 48 (by omega) (by omega), g10]
  · rw [hJ (48 + 1) (by omega) (by omega), (g2 s (by omega)).1, hI0 7 (by omega), i156 s hs]; exact rl.2.1 s hs
  · rw [hJ (48 + 2) (by omega) (by omega), (g2 s (by omega)).2, (s6 s (by omega)).2]
  · rw [hJ (48 + 3) (by omega) (by omega), g3 p (by omega), hI0 18 (by omega)]; exact rl.2.2.2.2.1 p hp
  · rw [hJ (48 + 4 + 1 + p) (by omega) (by omega), g5 p s (by omega) (by omega), s7 p s (by omega) (by omega)]
  · rw [hJ (48 + 11) (by omega) (by omega), (g4 m (by omega)).1, hI0 19 (by omega), (s8 m hm).1]; exact (rl.2.2.2.2.2.1 m hm).1
  · rw [hJ (48 + 12) (by omega) (by omega), (g4 m (by omega)).2.1, (s8 m hm).2.1]
  · rw [hJ (48 + 13) (by omega) (by omega), (g4 m (by omega)).2.2.1, (s8 m hm).2.2.1]
  · rw [hJ (48 + 14) (by omega) (by omega), (g4 m (by omega)).2.2.2, (s8 m hm).2.2.2, hI0 1 (by omega), t1, md.2.1]
  · rw [(s8 m hm).1]; exact q143 m hm
  · rw [(s8 m hm).2.2.2]; exact ⟨nd - 1, by omega, nd1 h0⟩
  · rw [i156 s hs]
    obtain ⟨x, a1, a2⟩ := q136 s hs
    exact ⟨x, by omega, a2⟩
end TT
