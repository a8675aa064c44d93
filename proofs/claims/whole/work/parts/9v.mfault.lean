/-! a text that has a fault leaves what was told -/
section FT
variable {I I' : Nat → Nat → Int32} {t ns nd nr nm dt u nn tp : Nat}
theorem tdR_half (ht : ∀ k, k < 29 → I' (t + k) = I (t + k)) (hr : ∀ c j, 134 ≤ c → c ≤ 148 → j < hfT c → I' c j = I c j) (pl : pln I) (pl' : pln I') (q : tdR I t ns nd nr nm) : tdR I' t ns nd nr nm := by
  obtain ⟨q1, q2, q3, q4, q5, q6, q7, q8, q9, q10, q11, q12, q13⟩ := q
  obtain ⟨r1, r2, r3, r4, r5, r6, r7⟩ := q3
  have h6 : ns ≤ 6 := q1.2.2.2.2.1
  have h8 : nd ≤ 8 := q1.2.2.2.2.2.1
  have h6r : nr ≤ 6 := q1.2.2.2.2.2.2.1
  have h5 : nm ≤ 5 := q1.2.2.2.2.2.2.2.1
  have t0 : I' t = I t := ht 0 (by decide)
  have lw : ∀ k, k < 6 → I' (t + 21 + k) = I (t + 21 + k) := fun k hk => by rw [Nat.add_assoc]; exact ht _ (by omega)
  have r134 : ∀ k, k < 8 → I' 134 k = I 134 k := fun k hk => hr 134 k (by decide) (by decide) hk
  have r135 : ∀ k, k < 6 → I' 135 k = I 135 k := fun k hk => hr 135 k (by decide) (by decide) hk
  have r136 : ∀ k, k < 6 → I' 136 k = I 136 k := fun k hk => hr 136 k (by decide) (by decide) hk
  have r137 : ∀ k, k < 8 → I' 137 k = I 137 k := fun k hk => hr 137 k (by decide) (by decide) hk
  have r138 : ∀ k, k < 8 → I' 138 k = I 138 k := fun k hk => hr 138 k (by decide) (by decide) hk
  have r139 : ∀ k, k < 48 → I' 139 k = I 139 k := fun k hk => hr 139 k (by decide) (by decide) hk
  have r140 : ∀ k, k < 6 → I' 140 k = I 140 k := fun k hk => hr 140 k (by decide) (by decide) hk
  have r141 : ∀ k, k < 6 → I' 141 k = I 141 k := fun k hk => hr 141 k (by decide) (by decide) hk
  have r142 : ∀ k, k < 5 → I' 142 k = I 142 k := fun k hk => hr 142 k (by decide) (by decide) hk
  have r143 : ∀ k, k < 5 → I' 143 k = I 143 k := fun k hk => hr 143 k (by decide) (by decide) hk
  have r144 : ∀ k, k < 5 → I' 144 k = I 144 k := fun k hk => hr 144 k (by decide) (by decide) hk
  have r145 : ∀ k, k < 3 → I' 145 k = I 145 k := fun k hk => hr 145 k (by decide) (by decide) hk
  have r146 : ∀ k, k < 3 → I' 146 k = I 146 k := fun k hk => hr 146 k (by decide) (by decide) hk
  have r147 : ∀ k, k < 64 → I' 147 k = I 147 k := fun k hk => hr 147 k (by decide) (by decide) hk
  have r148 : ∀ k, k < 64 → I' 148 k = I 148 k := fun k hk => hr 148 k (by decide) (by decide) hk
  obtain ⟨a1, a2, a3, a4, a5, a6, a7, a8, a9, a10, a11, a12, a13, a14⟩ := q2
  refine ⟨?_, ⟨?_, ?_, ?_, ?_, a5, a6, a7, a8, ?_, Or.inl pl'.1, ?_, ?_, ?_, ?_⟩, ⟨?_, ?_, ?_, ?_, ?_, ?_, ?_⟩, ?_, ?_, ?_, ?_, ?_, ?_, ?_, ?_, ?_, ?_⟩
  · obtain ⟨a1, a2, a3, a4, a5, a6, a7, a8, a9⟩ := q1
    unfold tdOK
    rw [ht 1 (by decide)]
    exact ⟨a1, a2, a3, a4, a5, a6, a7, a8, lwOK_congr lw a9⟩
  · rw [r134 0 (by decide)]; exact a1
  · rw [r134 1 (by decide)]; exact a2
  · rw [r134 3 (by decide)]; exact a3
  · rw [r134 4 (by decide)]; exact a4
  · intro r hr'
    obtain ⟨fr, to, b1, b2, b3, b4, b5, b6⟩ := a9 r hr'
    refine ⟨fr, to, by rw [r145 r hr']; exact b1, by rw [r146 r hr']; exact b2, b3, b4, fun z => wfM_congr _ _ _ (fun j x y => ⟨r147 j (by omega), r148 j (by omega)⟩) (b5 z), fun j x y => by rw [r147 j (by omega), r148 j (by omega)]; exact b6 j x y⟩
  · intro m hm; rw [r144 m (by omega)]; exact a11 m hm
  · intro dy s hd hs
    have := a12 dy s hd hs
    rw [mxM_pl pl (by omega)] at this
    rw [mxM_pl pl' (by omega), r139 _ (by omega)]; exact this
  · rw [r134 5 (by decide)]; exact a13
  · intro p hp; rw [r141 p (by omega)]; exact a14 p hp
  · rw [t0, r134 5 (by decide)]; exact r1
  · intro s hs; rw [ht 7 (by decide), r136 s (by omega)]; exact r2 s hs
  · intro s hs; rw [ht 8 (by decide), r138 s (by omega)]; exact r3 s hs
  · intro d s hd hs
    rw [show t + 9 + 1 + d = t + (10 + d) by omega, ht (10 + d) (by omega), r139 _ (by omega), show t + (10 + d) = t + 9 + 1 + d by omega]; exact r4 d s hd hs
  · intro s hs; rw [ht 18 (by decide), r141 s (by omega)]; exact r5 s hs
  · intro s hs; rw [ht 19 (by decide), ht 20 (by decide), r143 s (by omega), r144 s (by omega)]; exact r6 s hs
  · intro r hr'
    obtain ⟨fr, to, b1, b2, b3, b4, b5, b6⟩ := a9 r hr'
    have := r7 r hr'
    rw [lw 5 (by decide), lw 3 (by decide), lw 4 (by decide), lw 1 (by decide), lw 2 (by decide), r145 r hr', r146 r hr']
    refine ⟨this.1, fun c => ?_⟩
    obtain ⟨c1, c2, c3, c4⟩ := this.2 c
    refine ⟨c1, c2, c3, fun k x y => ?_⟩
    have y' := y
    rw [b2, zcla (by omega)] at y'
    rw [r147 k (by omega), r148 k (by omega)]
    exact c4 k x y
  · intro d s hd hs; rw [r139 _ (by omega)]; exact q4 d s hd hs
  · intro k hk; rw [ht 3 (by decide), r135 k (by omega)]; exact q5 k hk
  · intro k hk; rw [ht 4 (by decide), r137 k (by omega)]; exact q6 k hk
  · intro k hk; rw [ht 5 (by decide), r140 k (by omega)]; exact q7 k hk
  · intro k hk; rw [ht 6 (by decide), r142 k (by omega)]; exact q8 k hk
  · rw [t0, r134 2 (by decide)]; exact q9
  · rw [ht 21 (by decide), r134 7 (by decide)]; exact q10
  · intro k hk; rw [r136 k (by omega)]; exact q11 k hk
  · intro k hk; rw [r143 k (by omega)]; exact q12 k hk
  · intro k hk; rw [r138 k (by omega)]; exact q13 k hk
theorem relS_E' {b a : Nat} (h6 : ns ≤ 6) (h6r : nr ≤ 6) (h5 : nm ≤ 5) (hb : ∀ k, k < 17 → I' (b + k) = I (b + k)) (hp : ∀ p, p < 6 → I' 141 p = I 141 p) (e : abE I I' a) (q : relS I b a ns nr nm) : relS I' b a ns nr nm := by
  obtain ⟨e1, e2, e3, e4⟩ := e
  obtain ⟨s1, s2, s3, s4, s5, s6, s7, s8, s9⟩ := q
  have b0 : I' b = I b := hb 0 (by decide)
  refine ⟨?_, ?_, ?_, ?_, ?_, fun s hs => ?_, fun p hp' => ?_, fun p s hp hs => ?_, fun m hm => ?_⟩
  · rw [b0, e1 151 (by decide) (by decide)]; exact s1
  · rw [b0, e1 152 (by decide) (by decide)]; exact s2
  · rw [b0, e1 153 (by decide) (by decide)]; exact s3
  · rw [b0, e1 154 (by decide) (by decide)]; exact s4
  · rw [b0]; exact s5
  · rw [hb 1 (by decide), hb 2 (by decide), e2 156 s (by decide) (by omega), e2 157 s (by decide) (by omega)]; exact s6 s hs
  · rw [hb 3 (by decide), hp p (by omega)]; exact s7 p hp'
  · rw [show b + 4 + 1 + p = b + (5 + p) by omega, hb (5 + p) (by omega), e3 p s (by omega) (by omega), show b + (5 + p) = b + 4 + 1 + p by omega]; exact s8 p s hp hs
  · rw [hb 11 (by decide), hb 12 (by decide), hb 13 (by decide), hb 14 (by decide), e4 159 m (by decide) (by decide) (by omega), e4 160 m (by decide) (by decide) (by omega), e4 161 m (by decide) (by decide) (by omega), e4 162 m (by decide) (by decide) (by omega)]; exact s9 m hm
theorem nowR_E' {b a : Nat} (h6 : ns ≤ 6) (h6r : nr ≤ 6) (h5 : nm ≤ 5) (hb : ∀ k, k < 17 → I' (b + k) = I (b + k)) (hp : ∀ p, p < 6 → I' 141 p = I 141 p) (e : abE I I' a) (q : nowR I b a ns nd nr nm dt) : nowR I' b a ns nd nr nm dt :=
  ⟨relS_E' h6 h6r h5 hb hp e q.1, abOK_E h6 h6r h5 e q.2.1, fun s hs => by rw [e.2.1 157 s (by decide) (by omega)]; exact q.2.2.1 s hs, q.2.2.2⟩
theorem undR_E' (h6 : ns ≤ 6) (h6r : nr ≤ 6) (h5 : nm ≤ 5) (hr : ∀ c, 45 ≤ c → c < 65 → I' c = I c) (hp : ∀ p, p < 6 → I' 141 p = I 141 p) (e : ∀ k, k < u → abE I I' (3 + k)) (q : undR I u ns nd nr nm dt) : undR I' u ns nd nr nm dt := by
  intro j hj
  obtain ⟨q1, q2, q3, q4⟩ := q j hj
  have ea := e (u - 1 - j) (by omega)
  have U : ∀ c, I' c = I c → unds I' u (j + 1) c = unds I u (j + 1) c := fun c hc => unds_E (hr 45 (by decide) (by decide)) (hr 46 (by decide) (by decide)) (hr 47 (by decide) (by decide)) _ c (Or.inl hc)
  have H : ∀ c, 132 ≤ c → unds I u (j + 1) c = I c ∧ unds I' u (j + 1) c = I' c := fun c hc => by
    have : ∀ (K : Nat → Nat → Int32) (n : Nat), unds K u n c = K c := by
      intro K n
      induction n with
      | zero => rfl
      | succ n ih =>
        unfold unds undJ
        rw [zup_ne _ _ (by split <;> (try split) <;> (try split) <;> omega)]
        exact ih
    exact ⟨this I _, this I' _⟩
  refine ⟨relS_E' h6 h6r h5 (fun k hk => U _ (hr _ (by omega) (by omega))) (fun p hp' => by rw [(H 141 (by decide)).1, (H 141 (by decide)).2]; exact hp p hp') ?_ q1, abOK_E h6 h6r h5 ea q2, fun s hs => by rw [ea.2.1 157 s (by decide) (by omega)]; exact q3 s hs, by rw [hr 45 (by decide) (by decide), hr 46 (by decide) (by decide)]; exact q4⟩
  obtain ⟨e1, e2, e3, e4⟩ := ea
  refine ⟨fun c x y => ?_, fun c s x y => ?_, fun p s x y => ?_, fun c m x y z => ?_⟩
  · rw [(H c (by omega)).1, (H c (by omega)).2]; exact e1 c x y
  · rw [(H c (by omega)).1, (H c (by omega)).2]; exact e2 c s x y
  · rw [(H 158 (by omega)).1, (H 158 (by omega)).2]; exact e3 p s x y
  · rw [(H c (by omega)).1, (H c (by omega)).2]; exact e4 c m x y z
theorem zInv_half (ht : isTd t) (h : zInv I t ns nd nr nm dt u nn tp) (e1 : ∀ c, c < 132 → c ≠ 0 → c ≠ 2 → c ≠ 3 → c ≠ 6 → c ≠ 7 → (c < 111 - t ∨ 111 - t + 27 ≤ c) → I' c = I c) (e0 : ∀ j, j ≠ 12 → I' 0 j = I 0 j) (e3 : ∀ c, 132 < c → (c < 134 ∨ 148 < c) → I' c = I c) (e4 : ∀ c j, 134 ≤ c → c ≤ 148 → j < hfT c → I' c j = I c j) (e2 : ∀ j, 31 ≤ j → I' 132 j = I 132 j) (z1 : I' 0 12 = 0) (z2 : I' 132 2 = 0) (f : I' 2 7 = I' 132 27 ∧ I' 2 8 = I' 132 28) : zInv I' t ns nd nr nm dt u nn 0 := by
  obtain ⟨i1, i2, i3, i4, i5, i6, i7, i8⟩ := h
  have h6 : ns ≤ 6 := i1.1.2.2.2.2.1
  have h6r : nr ≤ 6 := i1.1.2.2.2.2.2.2.1
  have h5 : nm ≤ 5 := i1.1.2.2.2.2.2.2.2.1
  have tt : (t = 8 ∧ 111 - t = 103) ∨ (t = 103 ∧ 111 - t = 8) := by rcases ht with rfl | rfl <;> decide
  have r : ∀ c, (7 < c ∧ c < 132) → (c < 111 - t ∨ 111 - t + 27 ≤ c) → I' c = I c := fun c a b => e1 c (by omega) (by omega) (by omega) (by omega) (by omega) (by omega) b
  have ab : ∀ a, abE I I' a := fun a => ⟨fun c x y => by rw [e3 c (by omega) (by omega)], fun c s x y => by rw [e3 c (by omega) (by omega)], fun p s x y => by rw [e3 158 (by omega) (by omega)], fun c m x y z => by rw [e3 c (by omega) (by omega)]⟩
  have h141 : ∀ p, p < 6 → I' 141 p = I 141 p := fun p hp => e4 141 p (by decide) (by decide) hp
  have pl' : pln I' := by unfold pln; rw [e2 50 (by decide), e2 52 (by decide)]; exact i2.1
  refine ⟨tdR_half (fun k hk => r _ (by omega) (by omega)) e4 i2.1 pl' i1, ⟨pl', by rw [e2 48 (by decide)]; exact i2.2⟩, ?_, ?_, ?_, ?_, ?_, ?_⟩
  · exact nowR_E' h6 h6r h5 (fun k hk => r _ (by omega) (by omega)) h141 (ab _) i3
  · rw [e0 13 (by decide), e2 46 (by decide)]
    refine ⟨i4.1, fun q => ?_⟩
    obtain ⟨dt', q'⟩ := i4.2 q
    exact ⟨dt', nowR_E' h6 h6r h5 (fun k hk => r _ (by omega) (by omega)) h141 (ab _) q'⟩
  · rw [r 44 (by omega) (by omega), e2 47 (by decide)]
    exact ⟨i5.1, i5.2.1, i5.2.2.1, undR_E' h6 h6r h5 (fun c x y => r c (by omega) (by omega)) h141 (fun k _ => ab _) i5.2.2.2⟩
  · rw [r 37 (by omega) (by omega), e2 60 (by decide), e2 61 (by decide)]
    exact ⟨i6.1, i6.2.1, i6.2.2.1, i6.2.2.2.1, i6.2.2.2.2.1, ntR_E (fun c hc => by rcases hc with hc | hc; exact r c (by omega) (by omega); exact e3 c (by omega) (by omega)) i6.2.2.2.2.2⟩
  · refine ⟨z1, z2, by omega, fun k hk => absurd hk (by omega), fun k => ?_⟩
    rw [e1 1 (by decide) (by decide) (by decide) (by decide) (by decide) (by decide) (by omega)]
    exact i7.2.2.2.2 k
  · refine ⟨f, fun k hk => ?_⟩
    rw [e1 4 (by decide) (by decide) (by decide) (by decide) (by decide) (by decide) (by omega)]
    exact i8.2 k hk
end FT
/-! text -/
theorem zSh2.u3 {h h1 : zMem} (S : zSh2 h) (u : zU3 h h1) : zSh2 h1 := zcl1.u3 S u
section PT
variable {G : zG} {d : Nat} {h : zMem}
set_option maxHeartbeats 1000000 in
theorem tx_okI {h h0 hc h1 hb h2 h3 h4 : zMem} {t ns nd nr nm dt u nn tp n p p2 : Nat} {A : tM} {B : Nat → Int32} (S1 : zSh1 h t) (hI : zInv (zI h) t ns nd nr nm dt u nn tp) (op : opR (zsI h 0 12 0) t n B h0) (wA : wfA A) (wL : wfL A) (rc : rC h0 (111 - t) n A p hc) (te : txE t hc h1) (eb : hb = mtB h1 n) (mo : mok hb n B p2 h2) (ma : mA A (zI h2)) (hv : hvR 15 (zsI (zsI h2 132 27 0) 132 28 (-1)) h3) (st : stR (zup (zup (zup (zup (zI h3) 132 60 0) 132 61 (-1)) 132 46 0) 132 47 0) (zI h4) 0 (mny A 0) (mny A 3)) : zInv (zI h4) (111 - t) (mny A 0) (mny A 1) (mny A 2) (mny A 3) 0 0 0 0 := by
  have tt : (t = 8 ∧ 111 - t = 103) ∨ (t = 103 ∧ 111 - t = 8) := by rcases S1.2.1 with rfl | rfl <;> decide
  obtain ⟨o1, o2, o3, o4, o5⟩ := op
  obtain ⟨c1, c2, c3, c4, c5, c6⟩ := rc
  obtain ⟨u1, x1, x2, J, bg, eJ⟩ := te
  obtain ⟨mx, ms, mp, m25⟩ := mo
  obtain ⟨mw, mf⟩ := mx
  obtain ⟨f1, f2, f3, f4⟩ := mf
  obtain ⟨v1, v2, v3⟩ := hv
  -- rows of h4, back
  have k1 : ∀ c, c ≠ 132 → c < 151 ∨ 162 < c → zI h4 c = zI h3 c := fun c a e => by
    rw [st.1 c e, zup_ne _ _ a, zup_ne _ _ a, zup_ne _ _ a, zup_ne _ _ a]
  have k2 : ∀ c, c ≠ 132 → c < 134 ∨ 149 ≤ c → zI h3 c = zI h2 c := fun c a e => by
    rw [v2 c (by omega)]; simp only [zI_sI]; rw [zup_ne _ _ a, zup_ne _ _ a]
  have kb : ∀ c, c ≠ 132 → zI hb c = zI h1 c := fun c a => by
    rw [eb]; unfold mtB; simp only [zI_sI]; rw [zup_ne _ _ a, zup_ne _ _ a, zup_ne _ _ a]
  have lo : ∀ c, c < 132 → zI h4 c = zI h1 c := fun c hc => by
    rw [k1 c (by omega) (by omega), k2 c (by omega) (by omega), f1 c (by omega) (by omega), kb c (by omega)]
  have lo2 : ∀ c, c < 132 → c ≠ 37 → c ≠ 44 → c ≠ 0 → zI h4 c = J c := fun c hc a1 a2 a3 => by
    rw [lo c hc, eJ, zup_ne _ _ a3, zup_ne _ _ a2, zup_ne _ _ a1, zup_ne _ _ a1]
  have lo3 : ∀ c, c < 132 → c ≠ 37 → c ≠ 44 → c ≠ 0 → (c < 48 ∨ 65 ≤ c) → zI h4 c = zI hc c := fun c hc a1 a2 a3 a4 => by
    rw [lo2 c hc a1 a2 a3, bg.1 c a4]
  have hM : ∀ c, 134 ≤ c → c ≤ 148 → ∀ k, k < hfT c → zI h4 c k = zI h2 c (hfT c + k) := fun c a1 a2 k hk => by
    rw [k1 c (by omega) (by omega), (v3 c a1 (by omega)).1 k hk]
    simp only [zI_sI]; rw [zup_ne _ _ (by omega), zup_ne _ _ (by omega)]
  have hi1 : ∀ c, 132 ≤ c → zI h1 c = zI h c := fun c hc' => by
    rw [eJ, zup_ne _ _ (by omega), zup_ne _ _ (by omega), zup_ne _ _ (by omega), zup_ne _ _ (by omega), bg.1 c (by omega), c2 c (by omega) (by omega) (by omega) (by omega) (by omega), o3 c (by omega) (by omega) (by omega), zI_sI, zup_ne _ _ (by omega)]
  have m132 : ∀ j, 31 ≤ j → j ≠ 60 → j ≠ 61 → j ≠ 46 → j ≠ 47 → zI h4 132 j = zI h 132 j := fun j a a1 a2 a3 a4 => by
    rw [st.1 132 (by decide), zup_i _ _ _ a4, zup_i _ _ _ a3, zup_i _ _ _ a2, zup_i _ _ _ a1, v2 132 (by decide)]
    simp only [zI_sI]
    rw [zup_i _ _ _ (by omega), zup_i _ _ _ (by omega), f3 j (by omega), eb]
    unfold mtB
    simp only [zI_sI]
    rw [zup_i _ _ _ (by omega), zup_i _ _ _ (by omega), zup_i _ _ _ (by omega), hi1 132 (by decide)]
  have pl : pln (zI h4) := by
    unfold pln
    rw [m132 50 (by decide) (by decide) (by decide) (by decide) (by decide), m132 52 (by decide) (by decide) (by decide) (by decide) (by decide)]; exact hI.2.1.1
  have hC : ∀ k, k < 27 → k ≠ 23 → zI h4 (111 - t + k) = A k := fun k a1 a2 => by
    rw [lo3 _ (by omega) (by omega) (by omega) (by omega) (by omega)]; exact c5.1 k a1 a2
  have hC3 : ∀ i, A 22 i = 36 → zI h4 (111 - t + 23) i = A 23 i := fun i hi => by
    rw [lo3 _ (by omega) (by omega) (by omega) (by omega) (by omega)]; exact c5.2 i hi
  have T := tx_tdR hC hC3 hM ma wA wL pl
  have r0 : ∀ j, j ≠ 13 → zI h4 0 j = zup (zI h) 0 12 0 0 j := fun j hj => by
    rw [lo 0 (by decide), eJ, zup_i _ _ _ hj, zup_ne _ _ (by decide), zup_ne _ _ (by decide), zup_ne _ _ (by decide), bg.1 0 (by decide), c2 0 (by decide) (by decide) (by decide) (by decide) (by omega), o3 0 (by decide) (by decide) (by omega)]
    rfl
  have rw1 : ∀ c, c = 1 ∨ c = 4 → zI h4 c = zI h c := fun c hc' => by
    rw [lo3 c (by omega) (by omega) (by omega) (by omega) (by omega), c2 c (by omega) (by omega) (by omega) (by omega) (by omega), o3 c (by omega) (by omega) (by omega), zI_sI, zup_ne _ _ (by omega)]
  have r2 : zI h4 2 = zI hc 2 := lo3 2 (by decide) (by decide) (by decide) (by decide) (by decide)
  refine ⟨T, ⟨pl, ?_⟩, tx_now T bg (fun k hk => (lo3 _ (by omega) (by omega) (by omega) (by omega) (by omega)).symm) (fun c a b => lo2 c (by omega) (by omega) (by omega) (by omega)) st, ⟨?_, ?_⟩, ⟨?_, ?_, by omega, fun j hj => absurd hj (by omega)⟩, ⟨?_, ?_, by omega, ?_, Or.inl ?_, fun k hk => absurd hk (by omega)⟩, ⟨?_, ?_, by omega, fun k hk => absurd hk (by omega), fun k => ?_⟩, ⟨⟨?_, ?_⟩, fun k hk => ?_⟩⟩
  · rw [m132 48 (by decide) (by decide) (by decide) (by decide) (by decide)]; exact hI.2.1.2
  · rw [lo 0 (by decide), eJ, zup_s, st.1 132 (by decide), zup_i _ _ _ (by decide), zup_s]
  · intro z
    rw [lo 0 (by decide), eJ, zup_s] at z
    exact absurd rfl z
  · rw [lo 44 (by decide), eJ, zup_ne _ _ (by decide), zup_s]; rfl
  · rw [st.1 132 (by decide), zup_s]; rfl
  · rw [lo 37 (by decide), eJ, zup_ne _ _ (by decide), zup_ne _ _ (by decide), zup_i _ _ _ (by decide), zup_s]; rfl
  · rw [st.1 132 (by decide), zup_i _ _ _ (by decide), zup_i _ _ _ (by decide), zup_i _ _ _ (by decide), zup_s]; rfl
  · rw [lo 37 (by decide), eJ, zup_ne _ _ (by decide), zup_ne _ _ (by decide), zup_s, st.1 132 (by decide), zup_i _ _ _ (by decide), zup_i _ _ _ (by decide), zup_s]
  · rw [lo 37 (by decide), eJ, zup_ne _ _ (by decide), zup_ne _ _ (by decide), zup_s]
  · rw [r0 12 (by decide), zup_s]; rfl
  · rw [st.1 132 (by decide), zup_i _ _ _ (by decide), zup_i _ _ _ (by decide), zup_i _ _ _ (by decide), zup_i _ _ _ (by decide), v2 132 (by decide)]
    simp only [zI_sI]
    rw [zup_i _ _ _ (by decide), zup_i _ _ _ (by decide), f3 2 (by decide), eb]
    unfold mtB
    simp only [zI_sI]
    rw [zup_s]; rfl
  · rw [rw1 1 (Or.inl rfl)]; exact hI.2.2.2.2.2.2.1.2.2.2.2 k
  · rw [r2, c6.1, st.1 132 (by decide), zup_i _ _ _ (by decide), zup_i _ _ _ (by decide), zup_i _ _ _ (by decide), zup_i _ _ _ (by decide), v2 132 (by decide)]
    simp only [zI_sI]
    rw [zup_i _ _ _ (by decide), zup_s]
  · rw [r2, c6.2, st.1 132 (by decide), zup_i _ _ _ (by decide), zup_i _ _ _ (by decide), zup_i _ _ _ (by decide), zup_i _ _ _ (by decide), v2 132 (by decide)]
    simp only [zI_sI]
    rw [zup_s]
  · rw [rw1 4 (Or.inr rfl)]; exact hI.2.2.2.2.2.2.2.2 k hk
theorem tx_badI {h h0 h1 hb h2 h4 : zMem} {t ns nd nr nm dt u nn tp n pl : Nat} {f : Int32} {B : Nat → Int32} (S1 : zSh1 h t) (hI : zInv (zI h) t ns nd nr nm dt u nn tp) (op : opR (zsI h 0 12 0) t n B h0) (rf : rF h0 (111 - t) f pl h1) (eb : hb = mtB h1 n) (mb : mbad hb f pl h2) (e4 : h4 = zsI (zsI h2 132 27 f) 132 28 (nI pl)) : zInv (zI h4) t ns nd nr nm dt u nn 0 := by
  have tt : (t = 8 ∧ 111 - t = 103) ∨ (t = 103 ∧ 111 - t = 8) := by rcases S1.2.1 with rfl | rfl <;> decide
  obtain ⟨o1, o2, o3, o4, o5⟩ := op
  obtain ⟨c1, c2, c3, c4⟩ := rf
  obtain ⟨⟨mw, f1, f2, f3, f4⟩, m25, mne, m26⟩ := mb
  have k1 : ∀ c, c ≠ 132 → zI h4 c = zI h2 c := fun c a => by
    rw [e4]; simp only [zI_sI]; rw [zup_ne _ _ a, zup_ne _ _ a]
  have kb : ∀ c, c ≠ 132 → zI hb c = zI h1 c := fun c a => by
    rw [eb]; unfold mtB; simp only [zI_sI]; rw [zup_ne _ _ a, zup_ne _ _ a, zup_ne _ _ a]
  have lo : ∀ c, c < 132 → zI h4 c = zI h1 c := fun c hc => by
    rw [k1 c (by omega), f1 c (by omega) (by omega), kb c (by omega)]
  have hi1 : ∀ c, 132 ≤ c → zI h1 c = zI h c := fun c hc' => by
    rw [c2 c (by omega) (by omega) (by omega) (by omega) (by omega), o3 c (by omega) (by omega) (by omega), zI_sI, zup_ne _ _ (by omega)]
  have r0 : zI h4 0 = zup (zI h) 0 12 0 0 := by
    rw [lo 0 (by decide), c2 0 (by decide) (by decide) (by decide) (by decide) (by omega), o3 0 (by decide) (by decide) (by omega)]
    rfl
  refine zInv_half S1.2.1 hI (fun c a0 a1 a2 a3 a5 a6 a7 => ?_) (fun j hj => by rw [r0, zup_i _ _ _ hj]) (fun c a1 a2 => ?_) (fun c j a1 a2 a3 => ?_) (fun j hj => ?_) (by rw [r0, zup_s]) ?_ ⟨?_, ?_⟩
  · rw [lo c a0, c2 c a2 a3 a5 a6 a7, o3 c a2 a3 a7, zI_sI, zup_ne _ _ a1]
  · rw [k1 c (by omega), f1 c (by omega) a2, kb c (by omega), hi1 c (by omega)]
  · rw [k1 c (by omega), f2 c j a1 a2 a3, kb c (by omega), hi1 c (by omega)]
  · rw [e4]
    simp only [zI_sI]
    rw [zup_i _ _ _ (by omega), zup_i _ _ _ (by omega), f3 j (by omega), eb]
    unfold mtB
    simp only [zI_sI]
    rw [zup_i _ _ _ (by omega), zup_i _ _ _ (by omega), zup_i _ _ _ (by omega), hi1 132 (by decide)]
  · rw [e4]
    simp only [zI_sI]
    rw [zup_i _ _ _ (by decide), zup_i _ _ _ (by decide), f3 2 (by decide), eb]
    unfold mtB
    simp only [zI_sI]
    rw [zup_s]
  · rw [lo 2 (by decide), c3, e4]
    simp only [zI_sI]
    rw [zup_i _ _ _ (by decide), zup_s]
  · rw [lo 2 (by decide), c4, e4]
    simp only [zI_sI]
    rw [zup_s]
theorem txF_wf {n : Nat} {B : Nat → Int32} : ∀ k i {A : tM} {p : Nat} {A2 : tM} {i2 : Nat}, p ≤ n → wfA A → wfL A → txF B n k i A p = .inr (A2, i2) → wfA A2 ∧ wfL A2
  | 0, i, A, p, A2, i2, hp, wA, wL, e => by cases e; exact ⟨wA, wL⟩
  | k + 1, i, A, p, A2, i2, hp, wA, wL, e => by
    rw [txF] at e
    split at e
    · cases e; exact ⟨wA, wL⟩
    · cases er : rdLn B n A p with
      | inl x => rw [er] at e; cases e
      | inr x =>
        obtain ⟨A', p'⟩ := x
        rw [er] at e
        obtain ⟨w1, w2, w3, w4⟩ := rdLn_wf hp wA wL er
        exact txF_wf k (i + 1) w4 w1 w2 e
theorem pr_text (hG : gK G) (hOK : zOK h) (x : Int32) : pairX G mX9_text mX10_text (d + 200) [.ref 0, .int x] [.ref 132, .int x] h := by
  have hOK' := hOK
  obtain ⟨t, ns, nd, nr, nm, dt, u, nn, tp, S1, S2, h174, hI⟩ := hOK'
  obtain ⟨tp1, tp2, tp3, tp4, tp5⟩ := hI.2.2.2.2.2.2.1
  have hW := hI.2.2.2.2.2.2.2.2
  by_cases c : x < 0 ∨ nI tp < x
  · refine pairI.x (pair_ro hOK (-2) ?_ (fun h1 k => ?_))
    · exact X9_text_no (d := d + 192) S1 tp1 c ⟨rfl, cR.rf h⟩
    · exact X10_text_no (d := d + 199) (S2.W k.1) (by rw [k.2.2 132 (by decide)]; exact tp2) c ⟨rfl, jR.thr h1⟩
  obtain ⟨n, -, hn, rfl⟩ := zrange (lo := 0) (hi := nI tp) (a := 0) (b := tp) (by decide) (nI_toInt (by omega)) (fun z => c (Or.inl z)) (fun z => c (Or.inr z))
  obtain ⟨B, hB⟩ : ∃ B, B = zI h 1 := ⟨_, rfl⟩
  have tt : (t = 8 ∧ 111 - t = 103) ∨ (t = 103 ∧ 111 - t = 8) := by rcases S1.2.1 with rfl | rfl <;> decide
  refine ⟨fun v h1 => ∃ h0, opR (zsI h 0 12 0) t n B h0 ∧ txR h0 t n (txF B n n 0 (fun k => zI h0 (111 - t + k)) 0) v h1, fun v h1 h2 => zOK h2, ?_, ?_⟩
  · refine X9_text_ok (d := d + 192) hG S1 hW tp1 tp3 hn (fun h0 v h1 o r => ?_)
    rw [← hB] at o r
    exact ⟨h0, o, r⟩
  rintro v h1 ⟨h0, o, r⟩
  have o' := o
  obtain ⟨o1, o2, o3, o4, o5⟩ := o'
  have u0 : zU3 h h0 := (((zW.rf h).sI 0 12 0).u3).trans o1
  obtain ⟨w1, w2⟩ := ceP_wf o4
  cases e : txF B n n 0 (fun k => zI h0 (111 - t + k)) 0 with
  | inl y =>
    obtain ⟨f, pl⟩ := y
    rw [e] at r
    obtain ⟨rfl, rf⟩ := r
    have u1 : zU3 h h1 := u0.trans rf.1.u3
    have hi1 : ∀ c, 132 ≤ c → zI h1 c = zI h c := fun c hc' => by
      rw [rf.2.1 c (by omega) (by omega) (by omega) (by omega) (by omega), o3 c (by omega) (by omega) (by omega), zI_sI, zup_ne _ _ (by omega)]
    have s1 : zSh1 h1 t := o2.1.W rf.1
    refine ⟨⟨⟨t, s1⟩, S2.u3 u1, u1.out h174⟩, ?_, fun h2 q => q⟩
    refine X10_text_ok (d := d + 66) (tp := tp) (B := B) hG (S2.u3 u1) ⟨fun k hk => ?_, fun k => ?_, by omega⟩ (by rw [hi1 132 (by decide)]; exact tp2) tp3 hn o4 (fun v h2 r2 => ?_)
    · rw [hi1 133 (by decide), hB]; exact tp4 k (by omega)
    · rw [hB]; exact tp5 k
    rw [e] at r2
    obtain ⟨rfl, h3, mb, e4⟩ := r2
    have ww : zW h1 h2 := by
      rw [e4]
      exact ((((zW.rf h1).sI 132 0 0).sI 132 20 (nI n)).sI 132 2 0).trans ((mb.1.1.sI _ _ _).sI _ _ _)
    exact ⟨rfl, t, ns, nd, nr, nm, dt, u, nn, 0, s1.W ww, (S2.u3 u1).W ww, ww.out (u1.out h174), tx_badI S1 hI o rf rfl mb e4⟩
  | inr y =>
    obtain ⟨A, i⟩ := y
    rw [e] at r
    obtain ⟨rfl, p, hc, rc, te⟩ := r
    obtain ⟨wA, wL⟩ := txF_wf n 0 (Nat.zero_le _) w1 w2 e
    have te' := te
    obtain ⟨u1, x1, x2, J, bg, eJ⟩ := te'
    have u2 : zU3 h h1 := (u0.trans rc.1.u3).trans u1
    have hi1 : ∀ c, 132 ≤ c → zI h1 c = zI h c := fun c hc' => by
      rw [eJ, zup_ne _ _ (by omega), zup_ne _ _ (by omega), zup_ne _ _ (by omega), zup_ne _ _ (by omega), bg.1 c (by omega), rc.2.1 c (by omega) (by omega) (by omega) (by omega) (by omega), o3 c (by omega) (by omega) (by omega), zI_sI, zup_ne _ _ (by omega)]
    have s1 : zSh1 h1 (111 - t) := ⟨S1.1.u3 u2, by rcases S1.2.1 with rfl | rfl; exact Or.inr rfl; exact Or.inl rfl, x1, by rw [x2]; congr 1; omega⟩
    refine ⟨⟨⟨_, s1⟩, S2.u3 u2, u2.out h174⟩, ?_, fun h2 q => q⟩
    refine X10_text_ok (d := d + 66) (tp := tp) (B := B) hG (S2.u3 u2) ⟨fun k hk => ?_, fun k => ?_, by omega⟩ (by rw [hi1 132 (by decide)]; exact tp2) tp3 hn o4 (fun v h2 r2 => ?_)
    · rw [hi1 133 (by decide), hB]; exact tp4 k (by omega)
    · rw [hB]; exact tp5 k
    rw [e] at r2
    obtain ⟨rfl, p2, h3, mo, ma, h5, hv, w5, st⟩ := r2
    have ww : zW h1 h2 := ((((zW.rf h1).sI 132 0 0).sI 132 20 (nI n)).sI 132 2 0).trans (mo.1.1.trans ((((zW.rf h3).sI 132 27 0).sI 132 28 (-1)).trans (hv.1.trans w5)))
    exact ⟨rfl, 111 - t, mny A 0, mny A 1, mny A 2, mny A 3, 0, 0, 0, 0, s1.W ww, (S2.u3 u2).W ww, ww.out (u2.out h174), tx_okI S1 hI o wA wL rc te rfl mo ma hv st⟩
end PT
