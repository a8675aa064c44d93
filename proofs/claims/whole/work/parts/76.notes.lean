/-! notes -/
theorem zInv_notes {I I2 : Nat → Nat → Int32} {t ns nd nr nm dt u nn nn' tp : Nat} (ht : isTd t) (h : zInv I t ns nd nr nm dt u nn tp) (e1 : ∀ c, c ≠ 132 → ¬ (37 ≤ c ∧ c ≤ 42) → ¬ (168 ≤ c ∧ c ≤ 172) → I2 c = I c) (e2 : ∀ k, k ≠ 0 → k ≠ 60 → k ≠ 61 → I2 132 k = I 132 k) (hN : I2 37 6 = nI nn' ∧ I2 132 60 = nI nn' ∧ nn' ≤ 24 ∧ I2 37 7 = I2 132 61 ∧ (I2 37 7 = -1 ∨ ∃ k, k ≤ nn' ∧ I2 37 7 = nI k) ∧ ntR I2 nn' nd nm) : zInv I2 t ns nd nr nm dt u nn' tp := by
  obtain ⟨i1, i2, i3, i4, i5, i6, i7, i8⟩ := h
  have h6 : ns ≤ 6 := i1.1.2.2.2.2.1
  have h6r : nr ≤ 6 := i1.1.2.2.2.2.2.2.1
  have h5 : nm ≤ 5 := i1.1.2.2.2.2.2.2.2.1
  have k1 : ∀ c, c ≠ 132 → (c < 37 ∨ 42 < c) → (c < 168 ∨ 172 < c) → I2 c = I c := fun c a b d => e1 c a (by omega) (by omega)
  have ea : ∀ a, abE I I2 a := fun a => ⟨fun c x y => by rw [k1 c (by omega) (by omega) (by omega)], fun c s x y => by rw [k1 c (by omega) (by omega) (by omega)], fun p s x y => by rw [k1 158 (by omega) (by omega) (by omega)], fun c m x y z => by rw [k1 c (by omega) (by omega) (by omega)]⟩
  refine ⟨tdR_E (fun k hk => k1 _ (by rcases ht with rfl | rfl <;> omega) (by rcases ht with rfl | rfl <;> omega) (by rcases ht with rfl | rfl <;> omega)) (fun c x y => k1 c (by omega) (by omega) (by omega)) (fun k x y => e2 k (by omega) (by omega) (by omega)) i1, ?_, ?_, ?_, ?_, hN, ?_, ?_⟩
  · unfold pln; rw [e2 50 (by decide) (by decide) (by decide), e2 52 (by decide) (by decide) (by decide), e2 48 (by decide) (by decide) (by decide)]; exact i2
  · exact nowR_E h6 h6r h5 (fun k hk => k1 _ (by omega) (by omega) (by omega)) (k1 141 (by omega) (by omega) (by omega)) (ea 0) i3
  · rw [k1 0 (by omega) (by omega) (by omega), e2 46 (by decide) (by decide) (by decide)]
    refine ⟨i4.1, fun q => ?_⟩
    obtain ⟨dt', q'⟩ := i4.2 q
    exact ⟨dt', nowR_E h6 h6r h5 (fun k hk => k1 _ (by omega) (by omega) (by omega)) (k1 141 (by omega) (by omega) (by omega)) (ea 2) q'⟩
  · rw [k1 44 (by omega) (by omega) (by omega), e2 47 (by decide) (by decide) (by decide)]
    exact ⟨i5.1, i5.2.1, i5.2.2.1, undR_E h6 h6r h5 (fun c x y => k1 c (by omega) (by omega) (by omega)) (k1 141 (by omega) (by omega) (by omega)) (fun k _ => ea _) i5.2.2.2⟩
  · exact tpR_E (by rw [k1 0 (by omega) (by omega) (by omega)]) (k1 1 (by omega) (by omega) (by omega)) (e2 2 (by decide) (by decide) (by decide)) (k1 133 (by omega) (by omega) (by omega)) i7
  · rw [k1 2 (by omega) (by omega) (by omega), k1 4 (by omega) (by omega) (by omega), e2 27 (by decide) (by decide) (by decide), e2 28 (by decide) (by decide) (by decide)]; exact i8
theorem ntR_up {I I2 : Nat → Nat → Int32} {nn nd nm : Nat} (q : ntR I nn nd nm) (h : ∀ c k, k < nn → (38 ≤ c ∧ c ≤ 42) ∨ (168 ≤ c ∧ c ≤ 172) → I2 c k = I c k) (hE : I2 42 nn = I2 172 nn ∧ ((∃ j, j < nn ∧ I2 42 nn = nI j) ∨ (I2 42 nn = -1 ∧ I2 38 nn = I2 168 nn ∧ I2 39 nn = I2 169 nn ∧ I2 40 nn = I2 170 nn ∧ I2 41 nn = I2 171 nn ∧ (∃ q, 1 ≤ q ∧ q ≤ 40 ∧ I2 38 nn = nI q) ∧ (∃ m, m < nm ∧ I2 39 nn = nI m) ∧ (∃ d, d < nd ∧ I2 40 nn = nI d) ∧ (I2 41 nn = 0 ∨ I2 41 nn = 1)))) : ntR I2 (nn + 1) nd nm := by
  intro k hk
  by_cases e : k = nn
  · subst e; exact hE
  · have hk' : k < nn := by omega
    rw [h 38 k hk' (by decide), h 39 k hk' (by decide), h 40 k hk' (by decide), h 41 k hk' (by decide), h 42 k hk' (by decide), h 168 k hk' (by decide), h 169 k hk' (by decide), h 170 k hk' (by decide), h 171 k hk' (by decide), h 172 k hk' (by decide)]
    exact q k hk'
theorem nar01 {x : Int32} (h : x = 0 ∨ x = 1) : vp_nar .boolean x = x := by
  rcases h with rfl | rfl <;> decide
set_option maxHeartbeats 4000000 in
theorem pr_note {G : zG} {d : Nat} {h : zMem} (hOK : zOK h) (x y z w : Int32) (hw : w = 0 ∨ w = 1) : pairI G mX9_note mX10_note (d + 200) [.ref 0, .int x, .int y, .int z, .int w] [.ref 132, .int x, .int y, .int z, .int w] h := by
  have hOK' := hOK
  obtain ⟨t, ns, nd, nr, nm, dt, u, nn, tp, S1, S2, h174, hI⟩ := hOK'
  obtain ⟨td, md, rl, -⟩ := hI.1
  obtain ⟨t0, t1, t2, t3, h6, h8, h6r, h5, hlw⟩ := td
  obtain ⟨n1, n2, n3, n4, n5, n6⟩ := hI.2.2.2.2.2.1
  have P : ∀ h1, cR h h1 → zSh2 (zsI h1 132 0 0) ∧ zInv (zI (zsI h1 132 0 0)) t ns nd nr nm dt u nn tp := fun h1 k => ⟨S2.W k.thr.1, zInv_j S1.2.1 hI k.thr.2⟩
  by_cases x0 : x < 1
  · refine pair_ro hOK (-1) ?_ (fun h1 k => ?_)
    · exact cn_X9_note (sg_X9_note_0 S1 ⟨fun _ => ⟨rfl, cR.rf _⟩, fun c => absurd x0 c⟩)
    · exact cn_X10_note (sg_X10_note_0 (S2.W k.1) ⟨fun _ => ⟨rfl, jR.thr h1⟩, fun c => absurd x0 c⟩)
  by_cases x1 : (40 : Int32) < x
  · refine pair_ro hOK (-1) ?_ (fun h1 k => ?_)
    · exact cn_X9_note (sg_X9_note_0 S1 ⟨fun c => absurd c x0, fun _ => ⟨fun _ => ⟨rfl, cR.rf _⟩, fun c => absurd x1 c⟩⟩)
    · exact cn_X10_note (sg_X10_note_0 (S2.W k.1) ⟨fun c => absurd c x0, fun _ => ⟨fun _ => ⟨rfl, jR.thr h1⟩, fun c => absurd x1 c⟩⟩)
  rcases ix_or y (n := nm) (by omega) with q | ⟨m, hm, rfl⟩
  · refine pair_ro hOK (-1) ?_ (fun h1 k => ?_)
    · refine cn_X9_note (sg_X9_note_0 S1 ⟨fun c => absurd c x0, fun _ => ⟨fun c => absurd c x1, fun _ => ⟨_, X9_has_no (k := 3) S1 (by decide) t3 q, ?_⟩⟩⟩)
      rintro v h2 ⟨rfl, rfl⟩
      exact ⟨S1, fun _ => ⟨rfl, cR.rf _⟩, fun c => absurd rfl c⟩
    · obtain ⟨S3, I3⟩ := P h1 k
      refine cn_X10_note (sg_X10_note_0 (S2.W k.1) ⟨fun c => absurd c x0, fun _ => ⟨fun c => absurd c x1, fun _ => ⟨_, X10_isMonk_no S3 I3.1.2.1.2.2.2.1 q, ?_⟩⟩⟩)
      rintro v h2 ⟨rfl, rfl⟩
      exact ⟨S3, fun _ => ⟨rfl, jR.thr h1⟩, fun c => absurd rfl c⟩
  rcases ix_or z (n := nd) (by omega) with q | ⟨dy, hd, rfl⟩
  · refine pair_ro hOK (-1) ?_ (fun h1 k => ?_)
    · refine cn_X9_note (sg_X9_note_0 S1 ⟨fun c => absurd c x0, fun _ => ⟨fun c => absurd c x1, fun _ => ⟨_, X9_has_yes (k := 3) S1 (by decide) t3 hm (by omega), ?_⟩⟩⟩)
      rintro v h2 ⟨rfl, rfl⟩
      refine ⟨S1, fun c => absurd c n10, fun _ => ⟨_, X9_has_no (k := 1) S1 (by decide) t1 q, ?_⟩⟩
      rintro v h2' ⟨rfl, rfl⟩
      exact ⟨S1, fun c => absurd rfl c, fun _ => ⟨rfl, cR.rf _⟩⟩
    · obtain ⟨S3, I3⟩ := P h1 k
      refine cn_X10_note (sg_X10_note_0 (S2.W k.1) ⟨fun c => absurd c x0, fun _ => ⟨fun c => absurd c x1, fun _ => ⟨_, X10_isMonk_yes S3 I3.1.2.1.2.2.2.1 hm (by omega), ?_⟩⟩⟩)
      rintro v h2 ⟨rfl, rfl⟩
      refine ⟨S3, fun c => absurd c n10, fun _ => ⟨_, X10_isDay_no S3 I3.1.2.1.2.1 q, ?_⟩⟩
      rintro v h2' ⟨rfl, rfl⟩
      exact ⟨S3, fun _ => ⟨rfl, jR.thr h1⟩, fun c => absurd rfl c⟩
  by_cases full : nn = 24
  · refine pair_ro hOK (-1) ?_ (fun h1 k => ?_)
    · refine cn_X9_note (sg_X9_note_0 S1 ⟨fun c => absurd c x0, fun _ => ⟨fun c => absurd c x1, fun _ => ⟨_, X9_has_yes (k := 3) S1 (by decide) t3 hm (by omega), ?_⟩⟩⟩)
      rintro v h2 ⟨rfl, rfl⟩
      refine ⟨S1, fun c => absurd c n10, fun _ => ⟨_, X9_has_yes (k := 1) S1 (by decide) t1 hd (by omega), ?_⟩⟩
      rintro v h2' ⟨rfl, rfl⟩
      refine ⟨S1, fun _ => ⟨fun v h' => v = -1 ∧ h' = h2', cn_X1_add (sg_X1_add_0 S1 ⟨fun c => absurd c (by rw [n1, full]; decide), fun _ => ⟨rfl, rfl⟩⟩), ?_⟩, fun c => absurd c n10⟩
      rintro v h3 ⟨rfl, rfl⟩
      exact ⟨S1, rfl, cR.rf _⟩
    · obtain ⟨S3, I3⟩ := P h1 k
      refine cn_X10_note (sg_X10_note_0 (S2.W k.1) ⟨fun c => absurd c x0, fun _ => ⟨fun c => absurd c x1, fun _ => ⟨_, X10_isMonk_yes S3 I3.1.2.1.2.2.2.1 hm (by omega), ?_⟩⟩⟩)
      rintro v h2 ⟨rfl, rfl⟩
      refine ⟨S3, fun c => absurd c n10, fun _ => ⟨_, X10_isDay_yes S3 I3.1.2.1.2.1 hd (by omega), ?_⟩⟩
      rintro v h2' ⟨rfl, rfl⟩
      refine ⟨S3, fun c => absurd c n10, fun _ => ⟨fun c => absurd (by rw [I3.2.2.2.2.2.1.2.1, full]; rfl) c, fun _ => ⟨rfl, jR.thr h1⟩⟩⟩
  have hlt : nn < 24 := by omega
  obtain ⟨q0, q1, q2, eq⟩ := zrange (lo := 1) (hi := 40) (a := 1) (b := 40) (by decide) (by decide) x0 x1
  refine ⟨nI nn, fun h1 => h1 = zsI (zsI (zsI (zsI (zsI (zsI h 38 nn x) 39 nn (nI m)) 40 nn (nI dy)) 41 nn w) 42 nn (-1)) 37 6 (nI (nn + 1)), fun h1 h2 => h2 = zsI (zsI (zsI (zsI (zsI (zsI (zsI h1 132 0 0) 168 nn x) 169 nn (nI m)) 170 nn (nI dy)) 171 nn w) 172 nn (-1)) 132 60 (nI (nn + 1)), ?_, fun h1 k => ?_⟩
  · refine cn_X9_note (sg_X9_note_0 S1 ⟨fun c => absurd c x0, fun _ => ⟨fun c => absurd c x1, fun _ => ⟨_, X9_has_yes (k := 3) S1 (by decide) t3 hm (by omega), ?_⟩⟩⟩)
    rintro v h2 ⟨rfl, rfl⟩
    refine ⟨S1, fun c => absurd c n10, fun _ => ⟨_, X9_has_yes (k := 1) S1 (by decide) t1 hd (by omega), ?_⟩⟩
    rintro v h2' ⟨rfl, rfl⟩
    refine ⟨S1, fun _ => ⟨fun v h1 => v = nI nn ∧ h1 = zsI (zsI (zsI (zsI (zsI (zsI h2' 38 nn x) 39 nn (nI m)) 40 nn (nI dy)) 41 nn w) 42 nn (-1)) 37 6 (nI (nn + 1)), cn_X1_add (sg_X1_add_0 S1 ⟨fun _ => ?_, fun c => absurd (by rw [n1]; exact nI_lt hlt (by decide)) c⟩), ?_⟩, fun c => absurd c n10⟩
    · simp only [zI_sI, zup_ne _ _ (show (37 : Nat) ≠ 38 by decide), zup_ne _ _ (show (37 : Nat) ≠ 39 by decide), zup_ne _ _ (show (37 : Nat) ≠ 40 by decide), zup_ne _ _ (show (37 : Nat) ≠ 41 by decide), zup_ne _ _ (show (37 : Nat) ≠ 42 by decide), n1, zcla (show nn < 2 ^ 31 by omega), nI_1, zup_s, nar01 hw]
      have := zin_n hlt (by decide)
      exact ⟨this, this, this, this, this, nI_pred nn, trivial⟩
    · rintro v h3 ⟨rfl, rfl⟩
      exact ⟨S1.W ((((((((zW.rf _).sI _ _ _).sI _ _ _).sI _ _ _).sI _ _ _).sI _ _ _).sI _ _ _)), rfl, rfl⟩
  · have W1 : zW h h1 := by rw [k]; exact (((((((zW.rf _).sI _ _ _).sI _ _ _).sI _ _ _).sI _ _ _).sI _ _ _).sI _ _ _)
    have I1 : zI h1 = zup (zup (zup (zup (zup (zup (zI h) 38 nn x) 39 nn (nI m)) 40 nn (nI dy)) 41 nn w) 42 nn (-1)) 37 6 (nI (nn + 1)) := by rw [k]; rfl
    have hi1 : ∀ c, 42 < c → zI h1 c = zI h c := fun c hc => by rw [I1, zup_ne _ _ (by omega), zup_ne _ _ (by omega), zup_ne _ _ (by omega), zup_ne _ _ (by omega), zup_ne _ _ (by omega), zup_ne _ _ (by omega)]
    have S3 : zSh2 (zsI h1 132 0 0) := (S2.W W1).W ((zW.rf _).sI _ _ _)
    have e134 : zI (zsI h1 132 0 0) 134 = zI h 134 := by rw [zI_sI, zup_ne _ _ (by decide)]; exact hi1 134 (by decide)
    have e60 : zI h1 132 60 = nI nn := by rw [hi1 132 (by decide)]; exact n2
    refine ⟨⟨⟨t, S1.W W1⟩, S2.W W1, W1.out h174⟩, ?_, fun h2 l => ?_⟩
    · refine cn_X10_note (sg_X10_note_0 (S2.W W1) ⟨fun c => absurd c x0, fun _ => ⟨fun c => absurd c x1, fun _ => ⟨_, X10_isMonk_yes S3 (by rw [e134]; exact md.2.2.2.1) hm (by omega), ?_⟩⟩⟩)
      rintro v h2 ⟨rfl, rfl⟩
      refine ⟨S3, fun c => absurd c n10, fun _ => ⟨_, X10_isDay_yes S3 (by rw [e134]; exact md.2.1) hd (by omega), ?_⟩⟩
      rintro v h2' ⟨rfl, rfl⟩
      refine ⟨S3, fun c => absurd c n10, fun _ => ⟨fun _ => ?_, fun c => absurd c (by rw [zI_sI, zup_i _ _ _ (by decide), e60]; intro z; exact full (nI_inj (by omega) (by decide) (show nI nn = nI 24 from z)))⟩⟩
      simp only [zI_sI, zup_ne _ _ (show (132 : Nat) ≠ 168 by decide), zup_ne _ _ (show (132 : Nat) ≠ 169 by decide), zup_ne _ _ (show (132 : Nat) ≠ 170 by decide), zup_ne _ _ (show (132 : Nat) ≠ 171 by decide), zup_ne _ _ (show (132 : Nat) ≠ 172 by decide), zup_i _ _ _ (show (60 : Nat) ≠ 0 by decide), e60, zcla (show nn < 2 ^ 31 by omega), nI_1, zup_s, nar01 hw]
      have := zin_n hlt (by decide)
      exact ⟨this, this, this, this, this, nI_pred nn, trivial⟩
    · have W2 : zW h1 h2 := by rw [l]; exact ((((((((zW.rf _).sI _ _ _).sI _ _ _).sI _ _ _).sI _ _ _).sI _ _ _).sI _ _ _).sI _ _ _)
      have I2 : zI h2 = zup (zup (zup (zup (zup (zup (zup (zI h1) 132 0 0) 168 nn x) 169 nn (nI m)) 170 nn (nI dy)) 171 nn w) 172 nn (-1)) 132 60 (nI (nn + 1)) := by rw [l]; rfl
      have WW := W1.trans W2
      have lo2 : ∀ c, c < 132 → zI h2 c = zI h1 c := fun c hc => by rw [I2, zup_ne _ _ (by omega), zup_ne _ _ (by omega), zup_ne _ _ (by omega), zup_ne _ _ (by omega), zup_ne _ _ (by omega), zup_ne _ _ (by omega), zup_ne _ _ (by omega)]
      refine ⟨t, ns, nd, nr, nm, dt, u, nn + 1, tp, S1.W WW, S2.W WW, WW.out h174, zInv_notes S1.2.1 hI (fun c a b e => ?_) (fun j a b e => ?_) ⟨?_, ?_, by omega, ?_, ?_, ntR_up n6 (fun c j hj hc => ?_) ?_⟩⟩
      · rw [I2, zup_ne _ _ a, zup_ne _ _ (by omega), zup_ne _ _ (by omega), zup_ne _ _ (by omega), zup_ne _ _ (by omega), zup_ne _ _ (by omega), zup_ne _ _ a, I1, zup_ne _ _ (by omega), zup_ne _ _ (by omega), zup_ne _ _ (by omega), zup_ne _ _ (by omega), zup_ne _ _ (by omega), zup_ne _ _ (by omega)]
      · rw [I2, zup_i _ _ _ b, zup_ne _ _ (by decide), zup_ne _ _ (by decide), zup_ne _ _ (by decide), zup_ne _ _ (by decide), zup_ne _ _ (by decide), zup_i _ _ _ a, hi1 132 (by decide)]
      · rw [lo2 37 (by decide), I1, zup_s]
      · rw [I2, zup_s]
      · rw [lo2 37 (by decide), I1, zup_i _ _ _ (by decide), zup_ne _ _ (by decide), zup_ne _ _ (by decide), zup_ne _ _ (by decide), zup_ne _ _ (by decide), zup_ne _ _ (by decide), n4, I2, zup_i _ _ _ (by decide), zup_ne _ _ (by decide), zup_ne _ _ (by decide), zup_ne _ _ (by decide), zup_ne _ _ (by decide), zup_ne _ _ (by decide), zup_i _ _ _ (by decide), hi1 132 (by decide)]
      · rw [lo2 37 (by decide), I1, zup_i _ _ _ (by decide), zup_ne _ _ (by decide), zup_ne _ _ (by decide), zup_ne _ _ (by decide), zup_ne _ _ (by decide), zup_ne _ _ (by decide)]
        rcases n5 with e | ⟨k, a, b⟩
        · exact Or.inl e
        · exact Or.inr ⟨k, by omega, b⟩
      · have jn : j ≠ nn := by omega
        rcases hc with hc | hc
        · rw [lo2 c (by omega), I1]
          simp only [zup_ne _ _ (show c ≠ 37 by omega), zup_i _ _ _ jn]
        · rw [I2]
          simp only [zup_ne _ _ (show c ≠ 132 by omega), zup_i _ _ _ jn]
          rw [hi1 c (by omega)]
      · rw [lo2 38 (by decide), lo2 39 (by decide), lo2 40 (by decide), lo2 41 (by decide), lo2 42 (by decide)]
        have c38 : zI h1 38 nn = x := by rw [I1]; simp [zup]
        have c39 : zI h1 39 nn = nI m := by rw [I1]; simp [zup]
        have c40 : zI h1 40 nn = nI dy := by rw [I1]; simp [zup]
        have c41 : zI h1 41 nn = w := by rw [I1]; simp [zup]
        have c42 : zI h1 42 nn = -1 := by rw [I1]; simp [zup]
        have d68 : zI h2 168 nn = x := by rw [I2]; simp [zup]
        have d69 : zI h2 169 nn = nI m := by rw [I2]; simp [zup]
        have d70 : zI h2 170 nn = nI dy := by rw [I2]; simp [zup]
        have d71 : zI h2 171 nn = w := by rw [I2]; simp [zup]
        have d72 : zI h2 172 nn = -1 := by rw [I2]; simp [zup]
        rw [c38, c39, c40, c41, c42, d68, d69, d70, d71, d72]
        exact ⟨rfl, Or.inr ⟨rfl, rfl, rfl, rfl, rfl, ⟨q0, q1, q2, eq⟩, ⟨m, hm, rfl⟩, ⟨dy, hd, rfl⟩, hw⟩⟩
set_option maxHeartbeats 4000000 in
theorem pr_out {G : zG} {d : Nat} {h : zMem} (hOK : zOK h) (x : Int32) : pairI G mX9_out mX10_out (d + 200) [.ref 0, .int x] [.ref 132, .int x] h := by
  have hOK' := hOK
  obtain ⟨t, ns, nd, nr, nm, dt, u, nn, tp, S1, S2, h174, hI⟩ := hOK'
  obtain ⟨n1, n2, n3, n4, n5, n6⟩ := hI.2.2.2.2.2.1
  by_cases noch : nn = 24 ∨ noP nn x
  · have ne : ¬ x < 0 → ¬ nI nn ≤ x → nn = 24 := fun a b => by
      rcases noch with e | e | e
      · exact e
      · exact absurd e a
      · exact absurd e b
    refine pair_ro hOK (-1) ?_ (fun h1 k => ?_)
    · refine cn_X9_out (sg_X9_out_0 S1 ⟨fun v h' => v = -1 ∧ h' = h, cn_X1_strike (sg_X1_strike_0 S1 ?_), ?_⟩)
      · rw [n1]
        exact ⟨fun _ => ⟨rfl, rfl⟩, fun c => ⟨fun _ => ⟨rfl, rfl⟩, fun c2 => ⟨fun c3 => absurd c3 (by rw [ne c c2]; decide), fun _ => ⟨rfl, rfl⟩⟩⟩⟩
      · rintro v h2 ⟨rfl, rfl⟩
        exact ⟨S1, rfl, cR.rf _⟩
    · refine cn_X10_out (sg_X10_out_0 (S2.W k.1) ?_)
      rw [k.eT.2 60 (by decide), n2]
      exact ⟨fun _ => ⟨rfl, jR.thr h1⟩, fun c => ⟨fun _ => ⟨rfl, jR.thr h1⟩, fun c2 => ⟨fun c3 => absurd (by rw [ne c c2]; rfl) c3, fun _ => ⟨rfl, jR.thr h1⟩⟩⟩⟩
  have full : nn ≠ 24 := fun e => noch (Or.inl e)
  have hlt : nn < 24 := by omega
  obtain ⟨j, hj, rfl⟩ := (ix_or x (n := nn) (by omega)).resolve_left (fun e => noch (Or.inr e))
  refine ⟨nI nn, fun h1 => h1 = zsI (zsI h 42 nn (nI j)) 37 6 (nI (nn + 1)), fun h1 h2 => h2 = zsI (zsI (zsI h1 132 0 0) 172 nn (nI j)) 132 60 (nI (nn + 1)), ?_, fun h1 k => ?_⟩
  · refine cn_X9_out (sg_X9_out_0 S1 ⟨fun v h1 => v = nI nn ∧ h1 = zsI (zsI h 42 nn (nI j)) 37 6 (nI (nn + 1)), cn_X1_strike (sg_X1_strike_0 S1 ?_), ?_⟩)
    · simp only [zI_sI, zup_ne _ _ (show (37 : Nat) ≠ 42 by decide), n1, zcla (show nn < 2 ^ 31 by omega), nI_1, zup_s]
      exact ⟨fun c => absurd c (nI_pos (by omega)), fun _ => ⟨fun c => absurd c (nI_ge hj (by omega)), fun _ => ⟨fun _ => ⟨zin_n hlt (by decide), nI_pred nn, trivial⟩, fun c => absurd (show nI nn < nI 24 from nI_lt hlt (by decide)) c⟩⟩⟩
    · rintro v h2 ⟨rfl, rfl⟩
      exact ⟨S1.W (((zW.rf _).sI _ _ _).sI _ _ _), rfl, rfl⟩
  · have W1 : zW h h1 := by rw [k]; exact ((zW.rf _).sI _ _ _).sI _ _ _
    have I1 : zI h1 = zup (zup (zI h) 42 nn (nI j)) 37 6 (nI (nn + 1)) := by rw [k]; rfl
    have hi1 : ∀ c, 42 < c → zI h1 c = zI h c := fun c hc => by rw [I1, zup_ne _ _ (by omega), zup_ne _ _ (by omega)]
    have e60 : zI h1 132 60 = nI nn := by rw [hi1 132 (by decide)]; exact n2
    refine ⟨⟨⟨t, S1.W W1⟩, S2.W W1, W1.out h174⟩, ?_, fun h2 l => ?_⟩
    · refine cn_X10_out (sg_X10_out_0 (S2.W W1) ?_)
      simp only [zI_sI, zup_ne _ _ (show (132 : Nat) ≠ 172 by decide), zup_i _ _ _ (show (60 : Nat) ≠ 0 by decide), e60, zcla (show nn < 2 ^ 31 by omega), nI_1, zup_s]
      exact ⟨fun c => absurd c (nI_pos (by omega)), fun _ => ⟨fun c => absurd c (nI_ge hj (by omega)), fun _ => ⟨fun _ => ⟨zin_n hlt (by decide), nI_pred nn, trivial⟩, fun c => absurd (nI_inj (by omega) (by decide) (show nI nn = nI 24 from c)) full⟩⟩⟩
    · have W2 : zW h1 h2 := by rw [l]; exact (((zW.rf _).sI _ _ _).sI _ _ _).sI _ _ _
      have I2 : zI h2 = zup (zup (zup (zI h1) 132 0 0) 172 nn (nI j)) 132 60 (nI (nn + 1)) := by rw [l]; rfl
      have WW := W1.trans W2
      have lo2 : ∀ c, c < 132 → zI h2 c = zI h1 c := fun c hc => by rw [I2, zup_ne _ _ (by omega), zup_ne _ _ (by omega), zup_ne _ _ (by omega)]
      refine ⟨t, ns, nd, nr, nm, dt, u, nn + 1, tp, S1.W WW, S2.W WW, WW.out h174, zInv_notes S1.2.1 hI (fun c a b e => ?_) (fun j a b e => ?_) ⟨?_, ?_, by omega, ?_, ?_, ntR_up n6 (fun c i hi hc => ?_) ?_⟩⟩
      · rw [I2, zup_ne _ _ a, zup_ne _ _ (by omega), zup_ne _ _ a, I1, zup_ne _ _ (by omega), zup_ne _ _ (by omega)]
      · rw [I2, zup_i _ _ _ b, zup_ne _ _ (by decide), zup_i _ _ _ a, hi1 132 (by decide)]
      · rw [lo2 37 (by decide), I1, zup_s]
      · rw [I2, zup_s]
      · rw [lo2 37 (by decide), I1, zup_i _ _ _ (by decide), zup_ne _ _ (by decide), n4, I2, zup_i _ _ _ (by decide), zup_ne _ _ (by decide), zup_i _ _ _ (by decide), hi1 132 (by decide)]
      · rw [lo2 37 (by decide), I1, zup_i _ _ _ (by decide), zup_ne _ _ (by decide)]
        rcases n5 with e | ⟨k, a, b⟩
        · exact Or.inl e
        · exact Or.inr ⟨k, by omega, b⟩
      · have jn : i ≠ nn := by omega
        rcases hc with hc | hc
        · rw [lo2 c (by omega), I1]
          simp only [zup_ne _ _ (show c ≠ 37 by omega), zup_i _ _ _ jn]
        · rw [I2]
          simp only [zup_ne _ _ (show c ≠ 132 by omega), zup_i _ _ _ jn]
          rw [hi1 c (by omega)]
      · have c42 : zI h2 42 nn = nI j := by rw [lo2 42 (by decide), I1, zup_ne _ _ (by decide), zup_s]
        have d72 : zI h2 172 nn = nI j := by rw [I2, zup_ne _ _ (by decide), zup_s]
        rw [c42, d72]
        exact ⟨rfl, Or.inl ⟨j, hj, rfl⟩⟩
set_option maxHeartbeats 4000000 in
theorem pr_known {G : zG} {d : Nat} {h : zMem} (hOK : zOK h) (x : Int32) : pairI G mX9_known mX10_known (d + 200) [.ref 0, .int x] [.ref 132, .int x] h := by
  have hOK' := hOK
  obtain ⟨t, ns, nd, nr, nm, dt, u, nn, tp, S1, S2, h174, hI⟩ := hOK'
  obtain ⟨n1, n2, n3, n4, n5, n6⟩ := hI.2.2.2.2.2.1
  by_cases noch : x < -1 ∨ ¬ x ≤ nI nn
  · refine pair_ro hOK 0 ?_ (fun h1 k => ?_)
    · refine cn_X9_known (sg_X9_known_0 S1 ?_)
      rw [n1]
      exact ⟨fun _ => ⟨rfl, cR.rf _⟩, fun c => ⟨fun c2 => absurd c2 (noch.resolve_left c), fun _ => ⟨rfl, cR.rf _⟩⟩⟩
    · refine cn_X10_known (sg_X10_known_0 (S2.W k.1) ?_)
      rw [k.eT.2 60 (by decide), n2]
      exact ⟨fun _ => ⟨rfl, jR.thr h1⟩, fun c => ⟨fun c2 => absurd c2 (noch.resolve_left c), fun _ => ⟨rfl, jR.thr h1⟩⟩⟩
  have x0 : ¬ x < -1 := fun e => noch (Or.inl e)
  have x1 : x ≤ nI nn := Classical.byContradiction fun e => noch (Or.inr e)
  have xv : x = -1 ∨ ∃ k, k ≤ nn ∧ x = nI k := by
    by_cases c : x < 0
    · left
      apply Int32.toInt_inj.mp
      have a := Int32.lt_iff_toInt_lt.mp c
      have b : ¬ x.toInt < (-1 : Int32).toInt := fun q => x0 (Int32.lt_iff_toInt_lt.mpr q)
      have e1 : (0 : Int32).toInt = 0 := rfl
      have e2 : (-1 : Int32).toInt = -1 := rfl
      omega
    · obtain ⟨j, hj, rfl⟩ := nI_of c
      exact Or.inr ⟨j, (nI_leI hj (by omega)).mp x1, rfl⟩
  refine ⟨1, fun h1 => h1 = zsI h 37 7 x, fun h1 h2 => h2 = zsI (zsI h1 132 0 0) 132 61 x, ?_, fun h1 k => ?_⟩
  · refine cn_X9_known (sg_X9_known_0 S1 ?_)
    rw [n1]
    exact ⟨fun c => absurd c x0, fun _ => ⟨fun _ => ⟨rfl, rfl⟩, fun c => absurd x1 c⟩⟩
  · have W1 : zW h h1 := by rw [k]; exact (zW.rf _).sI _ _ _
    have I1 : zI h1 = zup (zI h) 37 7 x := by rw [k]; rfl
    have hi1 : ∀ c, c ≠ 37 → zI h1 c = zI h c := fun c hc => by rw [I1, zup_ne _ _ hc]
    refine ⟨⟨⟨t, S1.W W1⟩, S2.W W1, W1.out h174⟩, ?_, fun h2 l => ?_⟩
    · refine cn_X10_known (sg_X10_known_0 (S2.W W1) ?_)
      rw [zI_sI, zup_i _ _ _ (by decide), hi1 132 (by decide), n2]
      exact ⟨fun c => absurd c x0, fun _ => ⟨fun _ => ⟨rfl, rfl⟩, fun c => absurd x1 c⟩⟩
    · have W2 : zW h1 h2 := by rw [l]; exact ((zW.rf _).sI _ _ _).sI _ _ _
      have I2 : zI h2 = zup (zup (zI h1) 132 0 0) 132 61 x := by rw [l]; rfl
      have WW := W1.trans W2
      have o2 : ∀ c, c ≠ 132 → zI h2 c = zI h1 c := fun c hc => by rw [I2, zup_ne _ _ hc, zup_ne _ _ hc]
      refine ⟨t, ns, nd, nr, nm, dt, u, nn, tp, S1.W WW, S2.W WW, WW.out h174, zInv_notes S1.2.1 hI (fun c a b e => ?_) (fun j a b e => ?_) ⟨?_, ?_, n3, ?_, ?_, ntR_E (fun c hc => ?_) n6⟩⟩
      · rw [o2 c a, hi1 c (by omega)]
      · rw [I2, zup_i _ _ _ e, zup_i _ _ _ a, hi1 132 (by decide)]
      · rw [o2 37 (by decide), I1, zup_i _ _ _ (by decide)]; exact n1
      · rw [I2, zup_i _ _ _ (by decide), zup_i _ _ _ (by decide), hi1 132 (by decide)]; exact n2
      · rw [o2 37 (by decide), I1, zup_s, I2, zup_s]
      · rw [o2 37 (by decide), I1, zup_s]; exact xv
      · rw [o2 c (by omega), hi1 c (by omega)]
