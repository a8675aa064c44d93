/-! behind the constructors all is well -/
def v0 (L : List zC) (q : Nat × Nat) (v : Int32) : Bool := (L[q.1]?.map fun c => c.2.2.2.2 q.2) == some v
theorem v0_ok {h : zMem} {L : List zC} {a j : Nat} {v : Int32} (e : v0 L (a, j) v = true) : zI (zapp h L) (zn h + a) j = v := by
  unfold v0 at e
  have e := eq_of_beq e
  cases e0 : L[a]? with
  | none => rw [e0] at e; cases e
  | some c =>
    rw [e0] at e
    have k := zI_at (h := h) e0
    rw [k]
    exact Option.some.inj e
set_option maxRecDepth 100000 in
theorem saV : ([(0, 12), (0, 13), (2, 7), (37, 6), (44, 3), (103, 9), (103, 10), (104, 0), (104, 1), (104, 2), (104, 3), (124, 8), (129, 0), (129, 1), (129, 2)].all fun q => v0 (saL 0) q 0) = true ∧ ([(2, 8), (37, 7)].all fun q => v0 (saL 0) q (-1)) = true := by decide +kernel
set_option maxRecDepth 100000 in
theorem moV : ([(0, 2), (0, 27), (0, 46), (0, 47), (0, 48), (0, 60), (2, 0), (2, 1), (2, 2), (2, 3), (2, 4), (2, 5), (2, 7), (13, 0), (13, 1), (13, 2), (14, 0), (14, 1), (14, 2)].all fun q => v0 (moL 132) q 0) = true ∧ ([(0, 28), (0, 50), (0, 52), (0, 61)].all fun q => v0 (moL 132) q (-1)) = true := by decide +kernel
set_option maxRecDepth 100000 in
theorem saR1 : (saL 0)[1]? = some (zC0 102 700 700) := rfl
set_option maxRecDepth 100000 in
theorem saR4 : ((saL 0)[4]?.map fun c => c.2.2.2.2) = some (scF 22) := rfl
theorem zSh1.app {h : zMem} {L : List zC} {t : Nat} (S : zSh1 h t) : zSh1 (zapp h L) t := by
  obtain ⟨s1, s2, s3, s4⟩ := S
  have hn := s1.1
  refine ⟨s1.app, s2, ?_, ?_⟩
  · have e : zR (zapp h L) 0 = zR h 0 := zsl_lo (by omega)
    rw [e]; exact s3
  · have e : zR (zapp h L) 2 = zR h 2 := zsl_lo (by omega)
    rw [e]; exact s4
set_option maxHeartbeats 1000000 in
theorem st_ok {h h1 h2 : zMem} (h0 : zn h = 0) (w1 : zW (zapp h (saL (zn h))) h1) (b1 : beginR (zI (zapp h (saL (zn h)))) (zI h1) 48 103) (w2 : zW (zapp h1 (moL (zn h1))) h2) (s2 : stR (zI (zapp h1 (moL (zn h1)))) (zI h2) 0 0 0) : zOK (zapp h2 [zC0 101 1 1]) := by
  have n1 : zn h1 = 132 := by
    have : zn h1 = zn (zapp h (saL (zn h))) := congrArg (fun q : Nat × Nat × Nat => q.1) w1.1.1
    rw [this, zn_app, saL_len, h0]
  have n2 : zn h2 = 174 := by
    have : zn h2 = zn (zapp h1 (moL (zn h1))) := congrArg (fun q : Nat × Nat × Nat => q.1) w2.1.1
    rw [this, zn_app, moL_len, n1]
  have S1 : zSh1 (zapp h2 [zC0 101 1 1]) 103 := ((((saL_sh h0).W w1).app (L := moL (zn h1))).W w2).app
  have S2 : zSh2 (zapp h2 [zC0 101 1 1]) := ((moL_sh n1).W w2).app (L := [zC0 101 1 1])
  rw [h0] at b1 w1
  rw [n1] at s2 w2
  have hi : ∀ c, c < 174 → zI (zapp h2 [zC0 101 1 1]) c = zI h2 c := fun c hc => zsl_lo (by omega)
  have lo : ∀ c, c < 132 → zI (zapp h2 [zC0 101 1 1]) c = zI h1 c := fun c hc => by
    rw [hi c (by omega), s2.1 c (by omega)]
    exact zsl_lo (by omega)
  have cls : ∀ a j v, a < 48 ∨ 65 ≤ a → a < 132 → v0 (saL 0) (a, j) v = true → zI (zapp h2 [zC0 101 1 1]) a j = v := fun a j v c1 c2 e => by
    rw [lo a c2, b1.1 a c1]
    have := v0_ok (h := h) e
    rw [h0, Nat.zero_add] at this
    exact this
  have mdl : ∀ a j v, a < 19 → v0 (moL 132) (a, j) v = true → zI (zapp h2 [zC0 101 1 1]) (132 + a) j = v := fun a j v c2 e => by
    rw [hi _ (by omega), s2.1 _ (by omega)]
    have := v0_ok (h := h1) e
    rw [n1] at this
    exact this
  have c0 : ∀ a j, a < 48 ∨ 65 ≤ a → a < 132 → (a, j) ∈ [(0, 12), (0, 13), (2, 7), (37, 6), (44, 3), (103, 9), (103, 10), (104, 0), (104, 1), (104, 2), (104, 3), (124, 8), (129, 0), (129, 1), (129, 2)] → zI (zapp h2 [zC0 101 1 1]) a j = 0 := fun a j q1 q2 q3 => cls a j 0 q1 q2 (List.all_eq_true.mp saV.1 _ q3)
  have c1 : ∀ a j, a < 48 ∨ 65 ≤ a → a < 132 → (a, j) ∈ [(2, 8), (37, 7)] → zI (zapp h2 [zC0 101 1 1]) a j = -1 := fun a j q1 q2 q3 => cls a j (-1) q1 q2 (List.all_eq_true.mp saV.2 _ q3)
  have m0 : ∀ a j, a < 19 → (a, j) ∈ [(0, 2), (0, 27), (0, 46), (0, 47), (0, 48), (0, 60), (2, 0), (2, 1), (2, 2), (2, 3), (2, 4), (2, 5), (2, 7), (13, 0), (13, 1), (13, 2), (14, 0), (14, 1), (14, 2)] → zI (zapp h2 [zC0 101 1 1]) (132 + a) j = 0 := fun a j q2 q3 => mdl a j 0 q2 (List.all_eq_true.mp moV.1 _ q3)
  have m1 : ∀ a j, a < 19 → (a, j) ∈ [(0, 28), (0, 50), (0, 52), (0, 61)] → zI (zapp h2 [zC0 101 1 1]) (132 + a) j = -1 := fun a j q2 q3 => mdl a j (-1) q2 (List.all_eq_true.mp moV.2 _ q3)
  have r1 : zI (zapp h2 [zC0 101 1 1]) 1 = fun _ => 0 := by
    rw [lo 1 (by decide), b1.1 1 (by decide)]
    have := zI_at (h := h) saR1
    rw [h0] at this
    exact this
  have r4 : zI (zapp h2 [zC0 101 1 1]) 4 = scF 22 := by
    rw [lo 4 (by decide), b1.1 4 (by decide)]
    have hc := saR4
    cases e : (saL 0)[4]? with
    | none => rw [e] at hc; cases hc
    | some c =>
      rw [e] at hc
      have k := zI_at (h := h) e
      rw [h0] at k
      have k : zI (zapp h (saL 0)) 4 = c.2.2.2.2 := k
      rw [k]
      exact Option.some.inj hc
  have s48 : ∀ j, zI (zapp h2 [zC0 101 1 1]) 48 j = zI h1 48 j := fun j => by rw [lo 48 (by decide)]
  obtain ⟨-, -, -, -, -, g6, g7, g8, g9, g10⟩ := b1
  obtain ⟨q1, q2, q3, q4⟩ := s2.2.1
  have a0 : ∀ c, 151 ≤ c → c ≤ 154 → zI (zapp h2 [zC0 101 1 1]) c 0 = zI h2 c 0 := fun c x y => by rw [hi c (by omega)]
  have r3 : ∀ r, r < 3 → r = 0 ∨ r = 1 ∨ r = 2 := fun r hr => by omega
  have k129 : ∀ r, r < 3 → zI (zapp h2 [zC0 101 1 1]) 129 r = 0 := fun r hr => by rcases r3 r hr with rfl | rfl | rfl <;> exact c0 129 _ (by decide) (by decide) (by decide)
  have k145 : ∀ r, r < 3 → zI (zapp h2 [zC0 101 1 1]) 145 r = 0 := fun r hr => by rcases r3 r hr with rfl | rfl | rfl <;> exact m0 13 _ (by decide) (by decide)
  have k146 : ∀ r, r < 3 → zI (zapp h2 [zC0 101 1 1]) 146 r = 0 := fun r hr => by rcases r3 r hr with rfl | rfl | rfl <;> exact m0 14 _ (by decide) (by decide)
  have no : ∀ k : Nat, ¬ k < 0 := fun k hk => absurd hk (Nat.not_lt_zero k)
  refine ⟨103, 0, 0, 0, 0, 0, 0, 0, 0, S1, S2, ?_, ?_⟩
  · refine ⟨⟨by rw [zn_app]; show 174 < zn h2 + 1; omega, ?_⟩, ?_⟩
    · have := zK_at (h := h2) (L := [zC0 101 1 1]) (i := 0) (c := zC0 101 1 1) rfl
      rw [n2] at this
      exact this
    · have := zLen_at (h := h2) (L := [zC0 101 1 1]) (i := 0) (c := zC0 101 1 1) rfl
      rw [n2] at this
      exact this
  · refine ⟨⟨⟨?_, ?_, ?_, ?_, by omega, by omega, by omega, by omega, ?_⟩, ⟨?_, ?_, ?_, ?_, by omega, by omega, by omega, by omega, ?_, Or.inl ?_, fun m hm => (no m hm).elim, fun dy s hd => (no dy hd).elim, ⟨0, by omega, ?_⟩, fun p hp => (no p hp).elim⟩, ⟨?_, fun s hs => (no s hs).elim, fun s hs => (no s hs).elim, fun dd s hd => (no dd hd).elim, fun p hp => (no p hp).elim, fun m hm => (no m hm).elim, ?_⟩, fun dy s hd => (no dy hd).elim, fun k hk => (no k hk).elim, fun k hk => (no k hk).elim, fun k hk => (no k hk).elim, fun k hk => (no k hk).elim, ?_, ?_, fun s hs => (no s hs).elim, fun m hm => (no m hm).elim, fun dd hd => (no dd hd).elim⟩, ⟨⟨?_, ?_⟩, ?_⟩, ⟨⟨?_, ?_, ?_, ?_, ?_, fun s hs => (no s hs).elim, fun p hp => (no p hp).elim, fun p s hp => (no p hp).elim, fun m hm => (no m hm).elim⟩, ⟨fun m hm => (no m hm).elim, fun m hm => (no m hm).elim, ?_, fun s hs => (no s hs).elim, fun p s hp => (no p hp).elim, fun s hs => (no s hs).elim⟩, fun s hs => (no s hs).elim, by omega⟩, ⟨?_, ?_⟩, ⟨?_, ?_, by omega, fun j hj => (no j hj).elim⟩, ⟨?_, ?_, by omega, ?_, Or.inl ?_, fun k hk => (no k hk).elim⟩, ⟨?_, ?_, by omega, fun k hk => (no k hk).elim, fun k => ?_⟩, ⟨⟨?_, ?_⟩, fun k hk => ?_⟩⟩
    · exact c0 104 0 (by decide) (by decide) (by decide)
    · exact c0 104 1 (by decide) (by decide) (by decide)
    · exact c0 104 2 (by decide) (by decide) (by decide)
    · exact c0 104 3 (by decide) (by decide) (by decide)
    · exact fun r hr q => absurd (k129 r hr) q
    · exact m0 2 0 (by decide) (by decide)
    · exact m0 2 1 (by decide) (by decide)
    · exact m0 2 3 (by decide) (by decide)
    · exact m0 2 4 (by decide) (by decide)
    · exact fun r hr => ⟨0, 0, k145 r hr, k146 r hr, by omega, by omega, fun z => absurd z (by omega), fun j a b => absurd b (by omega)⟩
    · exact m1 0 50 (by decide) (by decide)
    · exact m0 2 5 (by decide) (by decide)
    · exact (c0 103 10 (by decide) (by decide) (by decide)).trans (m0 2 5 (by decide) (by decide)).symm
    · intro r hr
      refine ⟨fun _ => ?_, fun q => absurd (k129 r hr) q⟩
      rw [k145 r hr, k146 r hr]; decide
    · exact (c0 103 9 (by decide) (by decide) (by decide)).trans (m0 2 2 (by decide) (by decide)).symm
    · exact (c0 124 8 (by decide) (by decide) (by decide)).trans (m0 2 7 (by decide) (by decide)).symm
    · exact m1 0 50 (by decide) (by decide)
    · exact m1 0 52 (by decide) (by decide)
    · exact m0 0 48 (by decide) (by decide)
    · rw [s48, g6, a0 151 (by decide) (by decide), q1]
    · rw [s48, g7, a0 152 (by decide) (by decide), q2]
    · rw [s48, g8, a0 153 (by decide) (by decide), q3]
    · rw [s48, g9, a0 154 (by decide) (by decide), q4]
    · rw [s48, g10]
    · rw [a0 151 (by decide) (by decide), q1]; rfl
    · exact (c0 0 13 (by decide) (by decide) (by decide)).trans (m0 0 46 (by decide) (by decide)).symm
    · exact fun q => absurd (c0 0 13 (by decide) (by decide) (by decide)) q
    · exact c0 44 3 (by decide) (by decide) (by decide)
    · exact m0 0 47 (by decide) (by decide)
    · exact c0 37 6 (by decide) (by decide) (by decide)
    · exact m0 0 60 (by decide) (by decide)
    · exact (c1 37 7 (by decide) (by decide) (by decide)).trans (m1 0 61 (by decide) (by decide)).symm
    · exact c1 37 7 (by decide) (by decide) (by decide)
    · exact c0 0 12 (by decide) (by decide) (by decide)
    · exact m0 0 2 (by decide) (by decide)
    · rw [r1]; show (0 : Int32) = (0 : Int32).toInt8.toInt32; decide
    · exact (c0 2 7 (by decide) (by decide) (by decide)).trans (m0 0 27 (by decide) (by decide)).symm
    · exact (c1 2 8 (by decide) (by decide) (by decide)).trans (m1 0 28 (by decide) (by decide)).symm
    · rw [r4]; unfold scF; rw [if_pos hk]
