/-! feed -/
theorem by_255 (y : Int32) : y &&& 255 = y.toInt8.toInt32 &&& 255 := by
  refine i32_ext (fun k hk => ?_)
  rw [bit_and, bit_and]
  by_cases c : k < 8
  · have : y.toInt8.toInt32.toBitVec.getLsbD k = y.toBitVec.getLsbD k := by
      rw [Int8.toBitVec_toInt32, Int32.toBitVec_toInt8]
      simp only [BitVec.getLsbD_signExtend]
      simp [c, hk]
    rw [this]
  · have : (255 : Int32).toBitVec.getLsbD k = false := by
      have e : (255 : Int32).toBitVec = BitVec.ofNat 32 255 := rfl
      rw [e, BitVec.getLsbD_ofNat]
      have : Nat.testBit 255 k = false := by
        rw [show 255 = 2 ^ 8 - 1 by decide, Nat.testBit_two_pow_sub_one]
        exact decide_eq_false c
      rw [this]; simp
    rw [this]; simp
theorem by_idem (z : Int32) : z.toInt8.toInt32.toInt8.toInt32 = z.toInt8.toInt32 := by simp
/-- the i-th byte of a number, from the highest -/
def bW (x : Int32) (i : Nat) : Int32 := x >>> (nI (24 - 8 * i) &&& 31)
set_option maxHeartbeats 1000000 in
theorem X9_tapeNumber_ok {G : zG} {d t p : Nat} {h : zMem} (hS : zSh1 h t) (hp : zI h 0 12 = nI p) (h700 : p + 4 ≤ 700) (x : Int32) : zConV G mX9_tapeNumber d [.ref 0, .int x] h (fun h' => zW h h' ∧ (∀ c, c ≠ 0 → c ≠ 1 → zI h' c = zI h c) ∧ (∀ k, k ≠ 12 → zI h' 0 k = zI h 0 k) ∧ zI h' 0 12 = nI (p + 4) ∧ (∀ j, j < p ∨ p + 4 ≤ j → zI h' 1 j = zI h 1 j) ∧ ∀ i, i < 4 → zI h' 1 (p + i) = (bW x i).toInt8.toInt32) := by
  refine cn_X9_tapeNumber (sg_X9_tapeNumber_0 hS ?_)
  have fin : ∀ (h1 : zMem) (sh : Int32), sh < 0 → zW h h1 → (∀ c, c ≠ 0 → c ≠ 1 → zI h1 c = zI h c) → (∀ k, k ≠ 12 → zI h1 0 k = zI h 0 k) → zI h1 0 12 = nI (p + 4) → (∀ j, j < p ∨ p + 4 ≤ j → zI h1 1 j = zI h 1 j) → (∀ i, i < 4 → zI h1 1 (p + i) = (bW x i).toInt8.toInt32) → zg G mX9_tapeNumber d 3 [.ref 0, .int x, .int sh] [] h1 (zPV (fun h' => zW h h' ∧ (∀ c, c ≠ 0 → c ≠ 1 → zI h' c = zI h c) ∧ (∀ k, k ≠ 12 → zI h' 0 k = zI h 0 k) ∧ zI h' 0 12 = nI (p + 4) ∧ (∀ j, j < p ∨ p + 4 ≤ j → zI h' 1 j = zI h 1 j) ∧ ∀ i, i < 4 → zI h' 1 (p + i) = (bW x i).toInt8.toInt32)) := by
    intro h1 sh hsh q1 q2 q3 q4 q5 q6
    exact sg_X9_tapeNumber_3 (hS.W q1) ⟨fun _ => ⟨q1, q2, q3, q4, q5, q6⟩, fun c => absurd hsh c⟩
  have step : ∀ (h1 : zMem) (i : Nat) (sh : Int32), i < 4 → sh = nI (24 - 8 * i) → zI h1 0 12 = nI (p + i) → zSh1 h1 t → zg G mX9_tapeNumber d 3 [.ref 0, .int x, .int (sh + (-8))] [] (zsI (zsI h1 1 (p + i) (bW x i).toInt8.toInt32) 0 12 (nI (p + i + 1))) (zPV (fun h' => zW h h' ∧ (∀ c, c ≠ 0 → c ≠ 1 → zI h' c = zI h c) ∧ (∀ k, k ≠ 12 → zI h' 0 k = zI h 0 k) ∧ zI h' 0 12 = nI (p + 4) ∧ (∀ j, j < p ∨ p + 4 ≤ j → zI h' 1 j = zI h 1 j) ∧ ∀ i, i < 4 → zI h' 1 (p + i) = (bW x i).toInt8.toInt32)) → zg G mX9_tapeNumber d 3 [.ref 0, .int x, .int sh] [] h1 (zPV (fun h' => zW h h' ∧ (∀ c, c ≠ 0 → c ≠ 1 → zI h' c = zI h c) ∧ (∀ k, k ≠ 12 → zI h' 0 k = zI h 0 k) ∧ zI h' 0 12 = nI (p + 4) ∧ (∀ j, j < p ∨ p + 4 ≤ j → zI h' 1 j = zI h 1 j) ∧ ∀ i, i < 4 → zI h' 1 (p + i) = (bW x i).toInt8.toInt32)) := by
    intro h1 i sh hi hsh e12 s1 K
    refine sg_X9_tapeNumber_3 s1 ⟨fun c => absurd c (by rw [hsh]; exact nI_pos (by omega)), fun _ => ?_⟩
    rw [e12, zcla (show p + i < 2 ^ 31 by omega), pk_vb, zI_sI, zup_ne _ _ (by decide), e12, nI_1]
    refine ⟨zin_n (by omega) (by decide), ?_⟩
    have : x >>> (sh &&& 31) = bW x i := by rw [hsh]; rfl
    rw [this]; exact K
  obtain ⟨v, hv⟩ : ∃ v : Nat → Int32, v = fun i => (bW x i).toInt8.toInt32 := ⟨_, rfl⟩
  have e0 : (bW x 0).toInt8.toInt32 = v 0 := by rw [hv]
  have e1 : (bW x 1).toInt8.toInt32 = v 1 := by rw [hv]
  have e2 : (bW x 2).toInt8.toInt32 = v 2 := by rw [hv]
  have e3 : (bW x 3).toInt8.toInt32 = v 3 := by rw [hv]
  refine step h 0 24 (by decide) rfl hp hS ?_
  refine step _ 1 _ (by decide) (by decide) (by rw [zI_sI, zup_s]) (hS.W (((zW.rf h).sI _ _ _).sI _ _ _)) ?_
  refine step _ 2 _ (by decide) (by decide) (by rw [zI_sI, zup_s]) (hS.W (((((zW.rf h).sI _ _ _).sI _ _ _).sI _ _ _).sI _ _ _)) ?_
  refine step _ 3 _ (by decide) (by decide) (by rw [zI_sI, zup_s]) (hS.W (((((((zW.rf h).sI _ _ _).sI _ _ _).sI _ _ _).sI _ _ _).sI _ _ _).sI _ _ _)) ?_
  rw [e0, e1, e2, e3]
  refine fin _ _ (by decide) ((((((((zW.rf h).sI _ _ _).sI _ _ _).sI _ _ _).sI _ _ _).sI _ _ _).sI _ _ _).sI _ _ _ |>.sI _ _ _) (fun c c0 c1 => ?_) (fun k hk => ?_) ?_ (fun j hj => ?_) (fun i hi => ?_)
  · simp only [zI_sI, zup_ne _ _ c0, zup_ne _ _ c1]
  · simp only [zI_sI, zup_i _ _ _ hk, zup_ne _ _ (show (0 : Nat) ≠ 1 by decide)]
  · simp only [zI_sI, zup_s]
  · simp only [zI_sI, zup_ne _ _ (show (1 : Nat) ≠ 0 by decide), zup_i _ _ _ (show j ≠ p + 0 by omega), zup_i _ _ _ (show j ≠ p + 1 by omega), zup_i _ _ _ (show j ≠ p + 2 by omega), zup_i _ _ _ (show j ≠ p + 3 by omega)]
  · have : (bW x i).toInt8.toInt32 = v i := by rw [hv]
    rw [this]
    simp only [zI_sI, zup_ne _ _ (show (1 : Nat) ≠ 0 by decide)]
    rcases (show i = 0 ∨ i = 1 ∨ i = 2 ∨ i = 3 by omega) with rfl | rfl | rfl | rfl
    all_goals simp [zup]
def xs5 (a b c d e : Int32) (q : Nat) : Int32 := if q = 0 then a else if q = 1 then b else if q = 2 then c else if q = 3 then d else e
/-- the tape on both sides: what it leaves -/
theorem zInv_tape {I I2 : Nat → Nat → Int32} {t ns nd nr nm dt u nn tp tp' : Nat} (ht : isTd t) (h : zInv I t ns nd nr nm dt u nn tp) (e1 : ∀ c, c ≠ 132 → c ≠ 0 → c ≠ 1 → c ≠ 133 → I2 c = I c) (e2 : ∀ k, k ≠ 0 → k ≠ 2 → I2 132 k = I 132 k) (e3 : I2 0 13 = I 0 13) (hT : tpR I2 tp') : zInv I2 t ns nd nr nm dt u nn tp' := by
  obtain ⟨i1, i2, i3, i4, i5, i6, i7, i8⟩ := h
  have h6 : ns ≤ 6 := i1.1.2.2.2.2.1
  have h6r : nr ≤ 6 := i1.1.2.2.2.2.2.2.1
  have h5 : nm ≤ 5 := i1.1.2.2.2.2.2.2.2.1
  have k1 : ∀ c, c ≠ 132 → 1 < c → c ≠ 133 → I2 c = I c := fun c a b d => e1 c a (by omega) (by omega) d
  have ea : ∀ a, abE I I2 a := fun a => ⟨fun c x y => by rw [k1 c (by omega) (by omega) (by omega)], fun c s x y => by rw [k1 c (by omega) (by omega) (by omega)], fun p s x y => by rw [k1 158 (by omega) (by omega) (by omega)], fun c m x y z => by rw [k1 c (by omega) (by omega) (by omega)]⟩
  refine ⟨tdR_E (fun k hk => k1 _ (by rcases ht with rfl | rfl <;> omega) (by rcases ht with rfl | rfl <;> omega) (by rcases ht with rfl | rfl <;> omega)) (fun c x y => k1 c (by omega) (by omega) (by omega)) (fun k x y => e2 k (by omega) (by omega)) i1, ?_, ?_, ?_, ?_, ?_, hT, ?_⟩
  · unfold pln; rw [e2 50 (by decide) (by decide), e2 52 (by decide) (by decide), e2 48 (by decide) (by decide)]; exact i2
  · exact nowR_E h6 h6r h5 (fun k hk => k1 _ (by omega) (by omega) (by omega)) (k1 141 (by omega) (by omega) (by omega)) (ea 0) i3
  · rw [e3, e2 46 (by decide) (by decide)]
    refine ⟨i4.1, fun q => ?_⟩
    obtain ⟨dt', q'⟩ := i4.2 q
    exact ⟨dt', nowR_E h6 h6r h5 (fun k hk => k1 _ (by omega) (by omega) (by omega)) (k1 141 (by omega) (by omega) (by omega)) (ea 2) q'⟩
  · rw [k1 44 (by omega) (by omega) (by omega), e2 47 (by decide) (by decide)]
    exact ⟨i5.1, i5.2.1, i5.2.2.1, undR_E h6 h6r h5 (fun c x y => k1 c (by omega) (by omega) (by omega)) (k1 141 (by omega) (by omega) (by omega)) (fun k _ => ea _) i5.2.2.2⟩
  · rw [k1 37 (by omega) (by omega) (by omega), e2 60 (by decide) (by decide), e2 61 (by decide) (by decide)]
    exact ⟨i6.1, i6.2.1, i6.2.2.1, i6.2.2.2.1, i6.2.2.2.2.1, ntR_E (fun c hc => k1 c (by omega) (by omega) (by omega)) i6.2.2.2.2.2⟩
  · rw [k1 2 (by omega) (by omega) (by omega), k1 4 (by omega) (by omega) (by omega), e2 27 (by decide) (by decide), e2 28 (by decide) (by decide)]; exact i8
def fdK (h : zMem) (tp : Nat) (xs : Nat → Int32) (n : Nat) (h1 : zMem) : Prop := zW h h1 ∧ (∀ c, c ≠ 0 → c ≠ 1 → zI h1 c = zI h c) ∧ (∀ k, k ≠ 12 → zI h1 0 k = zI h 0 k) ∧ zI h1 0 12 = nI (tp + 4 * n) ∧ (∀ j, j < tp ∨ tp + 4 * n ≤ j → zI h1 1 j = zI h 1 j) ∧ ∀ j, j < 4 * n → zI h1 1 (tp + j) = (bW (xs (j / 4)) (j % 4)).toInt8.toInt32
theorem fd_step {G : zG} {d t tp n : Nat} {h h1 : zMem} {xs : Nat → Int32} {x : Int32} (hS : zSh1 h t) (k : fdK h tp xs n h1) (hn : n < 5) (h700 : tp + 20 ≤ 700) (hx : xs n = x) {Q : zMem → Prop} (K : ∀ h2, zSh1 h2 t → fdK h tp xs (n + 1) h2 → Q h2) : ∃ Q2 : zMem → Prop, zConV G mX9_tapeNumber d [.ref 0, .int x] h1 Q2 ∧ (∀ h3, Q2 h3 → zSh1 h3 t ∧ Q h3) := by
  obtain ⟨k1, k2, k3, k4, k5, k6⟩ := k
  have S := hS.W k1
  refine ⟨_, X9_tapeNumber_ok S k4 (by omega) x, ?_⟩
  rintro h3 ⟨q1, q2, q3, q4, q5, q6⟩
  refine ⟨S.W q1, K h3 (S.W q1) ⟨k1.trans q1, fun c a b => (q2 c a b).trans (k2 c a b), fun c a => (q3 c a).trans (k3 c a), ?_, fun j hj => (q5 j (by omega)).trans (k5 j (by omega)), fun j hj => ?_⟩⟩
  · rw [q4]; congr 1
  · by_cases c : j < 4 * n
    · rw [q5 (tp + j) (by omega)]; exact k6 j c
    · have := q6 (j - 4 * n) (by omega)
      rw [show tp + 4 * n + (j - 4 * n) = tp + j by omega] at this
      rw [this, show j / 4 = n by omega, show j % 4 = j - 4 * n by omega, hx]
set_option maxHeartbeats 4000000 in
theorem pr_feed {G : zG} {d : Nat} {h : zMem} (hOK : zOK h) (x1 x2 x3 x4 x5 : Int32) : pairI G mX9_feed mX10_feed (d + 200) [.ref 0, .int x1, .int x2, .int x3, .int x4, .int x5] [.ref 132, .int x1, .int x2, .int x3, .int x4, .int x5] h := by
  have hOK' := hOK
  obtain ⟨t, ns, nd, nr, nm, dt, u, nn, tp, S1, S2, h174, hI⟩ := hOK'
  obtain ⟨p1, p2, p3, p4, p5⟩ := hI.2.2.2.2.2.2.1
  have e20 : zI h 0 12 + 20 = nI (tp + 20) := by rw [p1]; exact nI_add tp 20
  by_cases full : 680 < tp
  · refine pair_ro hOK (-1) ?_ (fun h1 k => ?_)
    · refine cn_X9_feed (sg_X9_feed_0 S1 ?_)
      rw [e20]
      exact ⟨fun c => absurd (show nI (tp + 20) ≤ nI 700 from c) (nI_ge (by omega) (by omega)), fun _ => ⟨rfl, cR.rf _⟩⟩
    · refine cn_X10_feed (sg_X10_feed_0 (S2.W k.1) ?_)
      rw [k.eT.2 2 (by decide), p2]
      exact ⟨fun c => absurd (show nI tp ≤ nI 680 from c) (nI_ge full (by omega)), fun _ => ⟨rfl, jR.thr h1⟩⟩
  obtain ⟨xs, hxs⟩ : ∃ xs, xs = xs5 x1 x2 x3 x4 x5 := ⟨_, rfl⟩
  have v0 : xs 0 = x1 := by rw [hxs]; rfl
  have v1 : xs 1 = x2 := by rw [hxs]; rfl
  have v2 : xs 2 = x3 := by rw [hxs]; rfl
  have v3 : xs 3 = x4 := by rw [hxs]; rfl
  have v4 : xs 4 = x5 := by rw [hxs]; rfl
  refine ⟨nI (tp + 20), fdK h tp xs 5, fun h1 h2 => zW h1 h2 ∧ (∀ c, c ≠ 132 → c ≠ 133 → zI h2 c = zI h1 c) ∧ (∀ k, k ≠ 0 → k ≠ 2 → zI h2 132 k = zI h1 132 k) ∧ zI h2 132 2 = nI (tp + 20) ∧ (∀ j, j < tp → zI h2 133 j = zI h1 133 j) ∧ ∀ j, j < 20 → zI h2 133 (tp + j) = bW (xs (j / 4)) (j % 4) &&& 255, ?_, fun h1 k => ?_⟩
  · refine cn_X9_feed (sg_X9_feed_0 S1 ?_)
    rw [e20]
    refine ⟨fun _ => ?_, fun c => absurd (show nI (tp + 20) ≤ nI 700 from nI_le (by omega) (by decide)) c⟩
    have k0 : fdK h tp xs 0 h := ⟨zW.rf h, fun _ _ _ => rfl, fun _ _ => rfl, p1, fun _ _ => rfl, fun j hj => absurd hj (by omega)⟩
    refine fd_step S1 k0 (by decide) (by omega) v0 (fun h1 s1 k1 => ?_)
    refine fd_step S1 k1 (by decide) (by omega) v1 (fun h2 s2 k2 => ?_)
    refine fd_step S1 k2 (by decide) (by omega) v2 (fun h3 s3 k3 => ?_)
    refine fd_step S1 k3 (by decide) (by omega) v3 (fun h4 s4 k4 => ?_)
    refine fd_step S1 k4 (by decide) (by omega) v4 (fun h5 s5 k5 => ⟨k5.2.2.2.1, k5⟩)
  · obtain ⟨k1, k2, k3, k4, k5, k6⟩ := k
    refine ⟨⟨⟨t, S1.W k1⟩, S2.W k1, k1.out h174⟩, ?_, fun h2 l => ?_⟩
    · have e2 : zI (zsI h1 132 0 0) 132 2 = nI tp := by rw [zI_sI, zup_i _ _ _ (by decide), k2 132 (by decide) (by decide)]; exact p2
      refine cn_X10_feed (sg_X10_feed_0 (S2.W k1) ?_)
      rw [e2]
      refine ⟨fun _ => ?_, fun c => absurd (show nI tp ≤ nI 680 from nI_le (by omega) (by decide)) c⟩
      have loop : ∀ n j (h3 : zMem), n + j = 20 → zW h1 h3 → (∀ c, c ≠ 132 → c ≠ 133 → zI h3 c = zI h1 c) → (∀ k, k ≠ 0 → zI h3 132 k = zI h1 132 k) → (∀ i, i < tp → zI h3 133 i = zI h1 133 i) → (∀ i, i < j → zI h3 133 (tp + i) = bW (xs (i / 4)) (i % 4) &&& 255) → zg G mX10_feed (d + 200) 20 [.ref 132, .int x1, .int x2, .int x3, .int x4, .int x5, .int (nI j), zU] [] h3 (zPI (fun v h2 => v = nI (tp + 20) ∧ zW h1 h2 ∧ (∀ c, c ≠ 132 → c ≠ 133 → zI h2 c = zI h1 c) ∧ (∀ k, k ≠ 0 → k ≠ 2 → zI h2 132 k = zI h1 132 k) ∧ zI h2 132 2 = nI (tp + 20) ∧ (∀ j, j < tp → zI h2 133 j = zI h1 133 j) ∧ ∀ j, j < 20 → zI h2 133 (tp + j) = bW (xs (j / 4)) (j % 4) &&& 255)) := by
        intro n
        induction n with
        | zero =>
          intro j h3 hj q1 q2 q3 q4 q5
          have e : zI h3 132 2 + 20 = nI (tp + 20) := by rw [q3 2 (by decide), k2 132 (by decide) (by decide), p2]; exact nI_add tp 20
          refine sg_X10_feed_20 ((S2.W k1).W q1) ⟨fun _ => ?_, fun c => absurd (show nI 20 ≤ nI j from nI_le (by omega) (by omega)) c⟩
          rw [e]
          refine ⟨by rw [zI_sI, zup_s], q1.sI _ _ _, fun c a b => ?_, fun k a b => ?_, ?_, fun i hi => ?_, fun i hi => ?_⟩
          · rw [zI_sI, zup_ne _ _ a]; exact q2 c a b
          · rw [zI_sI, zup_i _ _ _ b]; exact q3 k a
          · rw [zI_sI, zup_s]
          · rw [zI_sI, zup_ne _ _ (by decide)]; exact q4 i hi
          · rw [zI_sI, zup_ne _ _ (by decide)]; exact q5 i (by omega)
        | succ n ih =>
          intro j h3 hj q1 q2 q3 q4 q5
          have etp : zI h3 132 2 = nI tp := by rw [q3 2 (by decide), k2 132 (by decide) (by decide)]; exact p2
          have em : nI j - nI j / 4 * 4 = nI (j % 4) := pk_rem (d := 4) (by omega) (by decide) (by decide)
          have es : (24 : Int32) - 8 * nI (j % 4) = nI (24 - 8 * (j % 4)) := by
            rw [show (8 : Int32) * nI (j % 4) = nI (8 * (j % 4)) from pk_mul 8 _]
            exact pk_sub (a := 24) (by omega)
          have nx : ∀ w : Int32, xs (j / 4) = w → vp_in (nI (tp + j)) 700 ∧ zg G mX10_feed (d + 200) 20 [.ref 132, .int x1, .int x2, .int x3, .int x4, .int x5, .int (nI (j + 1)), zU] [] (zsI h3 133 (tp + j) ((w >>> (nI (24 - 8 * (j % 4)) &&& 31)) &&& 255)) (zPI (fun v h2 => v = nI (tp + 20) ∧ zW h1 h2 ∧ (∀ c, c ≠ 132 → c ≠ 133 → zI h2 c = zI h1 c) ∧ (∀ k, k ≠ 0 → k ≠ 2 → zI h2 132 k = zI h1 132 k) ∧ zI h2 132 2 = nI (tp + 20) ∧ (∀ j, j < tp → zI h2 133 j = zI h1 133 j) ∧ ∀ j, j < 20 → zI h2 133 (tp + j) = bW (xs (j / 4)) (j % 4) &&& 255)) := by
            intro w hw
            refine ⟨zin_n (by omega) (by decide), ih (j + 1) _ (by omega) (q1.sI _ _ _) (fun c a b => ?_) (fun k a => ?_) (fun i hi => ?_) (fun i hi => ?_)⟩
            · rw [zI_sI, zup_ne _ _ b]; exact q2 c a b
            · rw [zI_sI, zup_ne _ _ (by decide)]; exact q3 k a
            · rw [zI_sI, zup_i _ _ _ (by omega)]; exact q4 i hi
            · by_cases e : i = j
              · subst e; rw [zI_sI, zup_s, hw]; rfl
              · rw [zI_sI, zup_i _ _ _ (by omega)]; exact q5 i (by omega)
          refine sg_X10_feed_20 ((S2.W k1).W q1) ?_
          rw [etp, em, es, nI_add, zcla (show tp + j < 2 ^ 31 by omega), nI_1]
          refine ⟨fun c => absurd (show nI 20 ≤ nI j from c) (nI_ge (by omega) (by decide)), fun _ => ⟨fun c4 => ⟨fun c8 => ⟨fun c12 => ⟨fun c16 => nx x5 ?_, fun c16 => nx x4 ?_⟩, fun c12 => nx x3 ?_⟩, fun c8 => nx x2 ?_⟩, fun c4 => nx x1 ?_⟩⟩
          · have := (nI_leI (by decide) (by omega)).mp (show nI 16 ≤ nI j from c16)
            rw [show j / 4 = 4 by omega]; exact v4
          · have := (nI_leI (by decide) (by omega)).mp (show nI 12 ≤ nI j from c12)
            have : ¬ 16 ≤ j := fun q => c16 (show nI 16 ≤ nI j from nI_le q (by omega))
            rw [show j / 4 = 3 by omega]; exact v3
          · have := (nI_leI (by decide) (by omega)).mp (show nI 8 ≤ nI j from c8)
            have : ¬ 12 ≤ j := fun q => c12 (show nI 12 ≤ nI j from nI_le q (by omega))
            rw [show j / 4 = 2 by omega]; exact v2
          · have := (nI_leI (by decide) (by omega)).mp (show nI 4 ≤ nI j from c4)
            have : ¬ 8 ≤ j := fun q => c8 (show nI 8 ≤ nI j from nI_le q (by omega))
            rw [show j / 4 = 1 by omega]; exact v1
          · have : ¬ 4 ≤ j := fun q => c4 (show nI 4 ≤ nI j from nI_le q (by omega))
            rw [show j / 4 = 0 by omega]; exact v0
      refine loop 20 0 _ (by omega) ((zW.rf h1).sI _ _ _) (fun c a b => ?_) (fun k a => ?_) (fun i hi => ?_) (fun i hi => absurd hi (by omega))
      · rw [zI_sI, zup_ne _ _ a]
      · rw [zI_sI, zup_i _ _ _ a]
      · rw [zI_sI, zup_ne _ _ (by decide)]
    · obtain ⟨l1, l2, l3, l4, l5, l6⟩ := l
      have WW := k1.trans l1
      refine ⟨t, ns, nd, nr, nm, dt, u, nn, tp + 20, S1.W WW, S2.W WW, WW.out h174, zInv_tape S1.2.1 hI (fun c a b e f => (l2 c a f).trans (k2 c b e)) (fun j a b => by rw [l3 j a b, k2 132 (by decide) (by decide)]) (by rw [l2 0 (by decide) (by decide)]; exact k3 13 (by decide)) ⟨by rw [l2 0 (by decide) (by decide)]; exact k4, l4, by omega, fun j hj => ?_, fun j => ?_⟩⟩
      · rw [l2 1 (by decide) (by decide)]
        by_cases c : j < tp
        · rw [l5 j c, k2 133 (by decide) (by decide), k5 j (Or.inl c)]; exact p4 j c
        · obtain ⟨i, rfl⟩ : ∃ i, j = tp + i := ⟨j - tp, by omega⟩
          rw [l6 i (by omega), k6 i (by omega)]; exact by_255 _
      · rw [l2 1 (by decide) (by decide)]
        by_cases c : j < tp ∨ tp + 4 * 5 ≤ j
        · rw [k5 j c]; exact p5 j
        · obtain ⟨i, rfl⟩ : ∃ i, j = tp + i := ⟨j - tp, by omega⟩
          rw [k6 i (by omega)]; exact (by_idem _).symm
