/-! undo, keep, back -/
theorem unds_pop {I I2 : Nat → Nat → Int32} {w : Nat} (e45 : I2 45 = I 45) (e46 : I2 46 = I 46) (e47 : I2 47 = I 47) (h0 : ∀ c, 48 ≤ c → c < 65 → I2 c = unds I (w + 1) 1 c) : ∀ j, ∀ c, 48 ≤ c → c < 65 → unds I2 w j c = unds I (w + 1) (j + 1) c := by
  intro j
  induction j with
  | zero => exact h0
  | succ j ih =>
    intro c c1 c2
    have ih' := ih c c1 c2
    show zup (unds I2 w j) (celK (I2 45 (w - 1 - j))) (I2 46 (w - 1 - j)).toNatClampNeg (I2 47 (w - 1 - j)) c = zup (unds I (w + 1) (j + 1)) (celK (I 45 (w + 1 - 1 - (j + 1)))) (I 46 (w + 1 - 1 - (j + 1))).toNatClampNeg (I 47 (w + 1 - 1 - (j + 1))) c
    rw [e45, e46, e47, show w + 1 - 1 - (j + 1) = w - 1 - j by omega]
    funext i
    unfold zup
    rw [ih']
set_option maxHeartbeats 1000000 in
theorem X8_takeBack_ok {G : zG} {d t w : Nat} {h : zMem} (hS : zSh1 h t) (hu : zI h 44 3 = nI (w + 1)) (hw : w < 20) (hk : (zI h 45 w = 0 ∨ zI h 45 w = 3) ∧ (∃ m, m < 5 ∧ zI h 46 w = nI m) ∨ (zI h 45 w = 1 ∨ zI h 45 w = 2) ∧ (∃ s, s < 6 ∧ zI h 46 w = nI s)) :
    zConI G mX8_takeBack d [.ref 44, .ref 48] h (fun v h' => v = nI w ∧ zW h h' ∧ zI h' = zup (zup (zI h) 44 3 (nI w)) (celK (zI h 45 w)) (zI h 46 w).toNatClampNeg (zI h 47 w)) := by
  refine cn_X8_takeBack (sg_X8_takeBack_0 hS (Or.inl rfl) ?_)
  have e1 : zI h 44 3 - 1 = nI w := by rw [hu]; exact nI_pred w
  simp only [e1, zI_sI, zup_s, zup_ne _ _ (show (45 : Nat) ≠ 44 by decide), zup_ne _ _ (show (46 : Nat) ≠ 44 by decide), zup_ne _ _ (show (47 : Nat) ≠ 44 by decide), zcla (show w < 2 ^ 31 by omega), zup_ne _ _ (show (44 : Nat) ≠ 48 + 12 by decide), zup_ne _ _ (show (44 : Nat) ≠ 48 + 2 by decide), zup_ne _ _ (show (44 : Nat) ≠ 48 + 1 by decide), zup_ne _ _ (show (44 : Nat) ≠ 48 + 11 by decide)]
  have W : ∀ c k v, zW h (zsI (zsI h 44 3 (nI w)) c k v) := fun c k v => ((zW.rf h).sI _ _ _).sI _ _ _
  refine ⟨fun _ => ⟨zin_n hw (by decide), fun c => ⟨?_, trivial, W _ _ _, ?_⟩, fun c => ⟨?_, trivial, W _ _ _, ?_⟩, fun c => ⟨?_, trivial, W _ _ _, ?_⟩, fun c1 c2 c3 => ⟨?_, trivial, W _ _ _, ?_⟩⟩, fun c => absurd c (by rw [hu]; exact nI_ne0 (by omega) (by omega))⟩
  · rcases hk with ⟨-, m, hm, em⟩ | ⟨e, -⟩
    · rw [em]; exact zin_n hm (by decide)
    · rw [c] at e; exact absurd e (by decide)
  · rw [c]; rfl
  · rcases hk with ⟨e, -⟩ | ⟨-, m, hm, em⟩
    · rw [c] at e; exact absurd e (by decide)
    · rw [em]; exact zin_n hm (by decide)
  · rw [c]; rfl
  · rcases hk with ⟨e, -⟩ | ⟨-, m, hm, em⟩
    · rw [c] at e; exact absurd e (by decide)
    · rw [em]; exact zin_n hm (by decide)
  · rw [c]; rfl
  · rcases hk with ⟨-, m, hm, em⟩ | ⟨e, -⟩
    · rw [em]; exact zin_n hm (by decide)
    · rcases e with e | e
      · exact absurd e c2
      · exact absurd e c3
  · unfold celK; rw [if_neg c1, if_neg c2, if_neg c3]
theorem celK_or (k : Int32) : celK k = 60 ∨ celK k = 50 ∨ celK k = 49 ∨ celK k = 59 := by
  unfold celK
  split
  · omega
  · split
    · omega
    · split <;> omega
set_option maxHeartbeats 2000000 in
theorem pr_undo {G : zG} {d : Nat} {h : zMem} (hOK : zOK h) : pairI G mX9_undo mX10_undo (d + 200) [.ref 0] [.ref 132] h := by
  have hOK' := hOK
  obtain ⟨t, ns, nd, nr, nm, dt, u, nn, tp, S1, S2, h174, hI⟩ := hOK'
  have h6 : ns ≤ 6 := hI.1.1.2.2.2.2.1
  have h6r : nr ≤ 6 := hI.1.1.2.2.2.2.2.2.1
  have h5 : nm ≤ 5 := hI.1.1.2.2.2.2.2.2.2.1
  obtain ⟨u1, u2, u3, u4⟩ := hI.2.2.2.2.1
  match u, u1, u2, u3, u4, hI with
  | 0, u1, u2, u3, u4, hI =>
    refine pair_ro hOK (-1) ?_ (fun h1 k => ?_)
    · refine cn_X9_undo (sg_X9_undo_0 S1 ⟨fun v h' => v = -1 ∧ h' = h, cn_X8_takeBack (sg_X8_takeBack_0 S1 (Or.inl rfl) ⟨fun c => absurd u1 c, fun _ => ⟨rfl, rfl⟩⟩), ?_⟩)
      rintro v h2 ⟨rfl, rfl⟩
      exact ⟨S1, rfl, cR.rf _⟩
    · refine cn_X10_undo (sg_X10_undo_0 (S2.W k.1) ?_)
      rw [k.eT.2 47 (by decide), u2]
      exact ⟨fun c => absurd rfl c, fun _ => ⟨rfl, jR.thr h1⟩⟩
  | w + 1, u1, u2, u3, u4, hI =>
    have hI0 := hI
    obtain ⟨i1, i2, i3, i4, i5, i6, i7, i8⟩ := hI0
    obtain ⟨p1, p2, p3, -⟩ := u4 0 (by omega)
    have kk := (u4 w (by omega)).2.2.2
    have co := celK_or (zI h 45 w)
    refine ⟨nI w, fun h1 => zW h h1 ∧ zI h1 = zup (zup (zI h) 44 3 (nI w)) (celK (zI h 45 w)) (zI h 46 w).toNatClampNeg (zI h 47 w), fun h1 h2 => zW h1 h2 ∧ cpR (zup (zup (zI h1) 132 0 0) 132 47 (nI w)) (zI h2) 0 (3 + w), ?_, fun h1 k => ?_⟩
    · refine cn_X9_undo (sg_X9_undo_0 S1 ⟨_, X8_takeBack_ok S1 u1 (by omega) kk, ?_⟩)
      rintro v h2 ⟨rfl, q1, q2⟩
      exact ⟨S1.W q1, rfl, q1, q2⟩
    · obtain ⟨k1, k2⟩ := k
      have hi1 : ∀ c, 132 ≤ c → zI h1 c = zI h c := fun c hc => by rw [k2, zup_ne _ _ (by omega), zup_ne _ _ (by omega)]
      refine ⟨⟨⟨t, S1.W k1⟩, S2.W k1, k1.out h174⟩, ?_, fun h2 l => ?_⟩
      · have e47 : zI (zsI h1 132 0 0) 132 47 = nI (w + 1) := by rw [zI_sI, zup_i _ _ _ (by decide), hi1 132 (by decide)]; exact u2
        have e47b : zI (zsI h1 132 0 0) 132 47 - 1 = nI w := by rw [e47]; exact nI_pred w
        have S3 : zSh2 (zsI (zsI h1 132 0 0) 132 47 (nI w)) := (S2.W k1).W (((zW.rf _).sI _ _ _).sI _ _ _)
        refine cn_X10_undo (sg_X10_undo_0 (S2.W k1) ⟨fun _ => ?_, fun c => absurd c (by rw [e47]; exact nI_ne0 (by omega) (by omega))⟩)
        rw [e47b, show zI (zsI (zsI h1 132 0 0) 132 47 (nI w)) 132 47 = nI w by rw [zI_sI, zup_s], show (3 : Int32) + nI w = nI (3 + w) from nI_add 3 w]
        refine ⟨_, X10_copies_ok (x := 0) (y := 3 + w) S3 (by decide) (by omega) (by omega), ?_⟩
        rintro h3 ⟨q1, q2⟩
        refine ⟨S3.W q1, ?_, (((zW.rf h1).sI _ _ _).sI _ _ _).trans q1, ?_⟩
        · rw [q2.1 132 (by decide), zI_sI, zup_s]
        · rw [zI_sI, zI_sI] at q2; exact q2
      · obtain ⟨l1, l2⟩ := l
        have W2 := k1.trans l1
        have Z : ∀ c, c ≠ 132 → zup (zup (zI h1) 132 0 0) 132 47 (nI w) c = zI h1 c := fun c hc => by rw [zup_ne _ _ hc, zup_ne _ _ hc]
        have lo : ∀ c, c < 132 → zI h2 c = zI h1 c := fun c hc => by rw [l2.1 c (by omega)]; exact Z c (by omega)
        have lor : ∀ c, c < 132 → c ≠ 44 → c ≠ celK (zI h 45 w) → zI h2 c = zI h c := fun c hc x y => by rw [lo c hc, k2, zup_ne _ _ y, zup_ne _ _ x]
        have mid : ∀ c, (132 < c ∧ c < 151) ∨ 162 < c → zI h2 c = zI h c := fun c hc => by rw [l2.1 c (by omega), Z c (by omega)]; exact hi1 c (by omega)
        have m132 : ∀ j, j ≠ 0 → j ≠ 47 → zI h2 132 j = zI h 132 j := fun j a b => by rw [l2.1 132 (by decide), zup_i _ _ _ b, zup_i _ _ _ a, hi1 132 (by decide)]
        have Q0 : ∀ a, abQ (zI h) (zup (zup (zI h1) 132 0 0) 132 47 (nI w)) a a := fun a => (abQ.rf _ a).eq (fun c x y => by rw [Z c (by omega)]; exact hi1 c (by omega))
        have QE : ∀ a, 1 ≤ a → abQ (zI h) (zI h2) a a := fun a ha => (Q0 a).trans (l2.e (by omega))
        have QN : abQ (zI h) (zI h2) 0 (3 + w) := (Q0 (3 + w)).trans l2.q
        have u0 : ∀ c, 48 ≤ c → c < 65 → zI h2 c = unds (zI h) (w + 1) 1 c := fun c a b => by
          rw [lo c (by omega), k2]
          show zup (zup (zI h) 44 3 (nI w)) (celK (zI h 45 w)) (zI h 46 w).toNatClampNeg (zI h 47 w) c = zup (zI h) (celK (zI h 45 w)) (zI h 46 w).toNatClampNeg (zI h 47 w) c
          funext i
          unfold zup
          rw [if_neg (show ¬ c = 44 by omega)]
        have pop := unds_pop (w := w) (lor 45 (by decide) (by decide) (by omega)) (lor 46 (by decide) (by decide) (by omega)) (lor 47 (by decide) (by decide) (by omega)) u0
        have k1' : ∀ c, c < 44 ∨ (64 < c ∧ c < 132) → zI h2 c = zI h c := fun c hc => lor c (by omega) (by omega) (by omega)
        have h141 : zI h2 141 = zI h 141 := mid 141 (by omega)
        have S1' := S1.2.1
        refine ⟨t, ns, nd, nr, nm, dt, w, nn, tp, S1.W W2, S2.W W2, W2.out h174, tdR_E (fun k hk => k1' _ (by rcases S1' with rfl | rfl <;> omega)) (fun c x y => mid c (by omega)) (fun k x y => m132 k (by omega) (by omega)) i1, ?_, ⟨?_, abOK_Q h6 h6r h5 QN ?_, fun s hs => ?_, i3.2.2.2⟩, ?_, ⟨?_, ?_, by omega, fun j hj => ?_⟩, ?_, ?_, ?_⟩
        · unfold pln; rw [m132 50 (by decide) (by decide), m132 52 (by decide) (by decide), m132 48 (by decide) (by decide)]; exact i2
        · refine relS_Q (I := unds (zI h) (w + 1) 1) h6 h6r h5 (fun k hk => u0 _ (by omega) (by omega)) (by rw [unds_hi _ _ (by decide)]; exact h141) ?_ p1
          show abQ (unds (zI h) (w + 1) 1) (zI h2) 0 (3 + (w + 1 - 1 - 0))
          rw [show 3 + (w + 1 - 1 - 0) = 3 + w by omega]
          exact ⟨fun c a b => by rw [unds_hi _ _ (by omega)]; exact QN.1 c a b, fun c s a b => by rw [unds_hi _ _ (by omega)]; exact QN.2.1 c s a b, fun a s b c => by rw [unds_hi _ _ (by omega)]; exact QN.2.2.1 a s b c, fun c m a b e => by rw [unds_hi _ _ (by omega)]; exact QN.2.2.2 c m a b e⟩
        · rw [show 3 + (w + 1 - 1 - 0) = 3 + w by omega] at p2; exact p2
        · have := p3 s hs
          rw [show 3 + (w + 1 - 1 - 0) = 3 + w by omega] at this
          rw [QN.2.1 157 s (by decide) (by omega)]; exact this
        · rw [k1' 0 (by omega), m132 46 (by decide) (by decide)]
          refine ⟨i4.1, fun q => ?_⟩
          obtain ⟨dt', q'⟩ := i4.2 q
          exact ⟨dt', nowR_E h6 h6r h5 (fun k hk => k1' _ (by omega)) h141 (QE 2 (by decide)) q'⟩
        · rw [lo 44 (by decide), k2, zup_ne _ _ (by omega), zup_s]
        · rw [l2.1 132 (by decide), zup_s]
        · obtain ⟨o1, o2, o3, -⟩ := u4 (j + 1) (by omega)
          rw [show 3 + (w + 1 - 1 - (j + 1)) = 3 + (w - 1 - j) by omega] at o1 o2 o3
          have Q := QE (3 + (w - 1 - j)) (by omega)
          refine ⟨relS_Q (I := unds (zI h) (w + 1) (j + 1 + 1)) h6 h6r h5 (fun k hk => pop (j + 1) _ (by omega) (by omega)) (by rw [unds_hi _ _ (by decide), unds_hi _ _ (by decide)]; exact h141) ?_ o1, abOK_Q h6 h6r h5 Q o2, fun s hs => by rw [Q.2.1 157 s (by decide) (by omega)]; exact o3 s hs, ?_⟩
          · have Q2 : abQ (zI h) (unds (zI h2) w (j + 1)) (3 + (w - 1 - j)) (3 + (w - 1 - j)) := Q.eq (fun c a b => unds_hi _ _ (by omega) _)
            exact ⟨fun c a b => by rw [unds_hi (zI h) _ (by omega)]; exact Q2.1 c a b, fun c s a b => by rw [unds_hi (zI h) _ (by omega)]; exact Q2.2.1 c s a b, fun a s b c => by rw [unds_hi (zI h) _ (by omega)]; exact Q2.2.2.1 a s b c, fun c m a b e => by rw [unds_hi (zI h) _ (by omega)]; exact Q2.2.2.2 c m a b e⟩
          · rw [lor 45 (by decide) (by decide) (by omega), lor 46 (by decide) (by decide) (by omega)]
            exact (u4 j (by omega)).2.2.2
        · rw [k1' 37 (by omega), m132 60 (by decide) (by decide), m132 61 (by decide) (by decide)]
          exact ⟨i6.1, i6.2.1, i6.2.2.1, i6.2.2.2.1, i6.2.2.2.2.1, ntR_E (fun c hc => by rcases hc with hc | hc; exact k1' c (by omega); exact mid c (by omega)) i6.2.2.2.2.2⟩
        · exact tpR_E (by rw [k1' 0 (by omega)]) (k1' 1 (by omega)) (m132 2 (by decide) (by decide)) (mid 133 (by omega)) i7
        · rw [k1' 2 (by omega), k1' 4 (by omega), m132 27 (by decide) (by decide), m132 28 (by decide) (by decide)]; exact i8
/-- a state copied on both sides -/
def clQ (I I' : Nat → Nat → Int32) (b o : Nat) : Prop := (∀ s, s < 6 → I' (b + 1) s = I (o + 1) s ∧ I' (b + 2) s = I (o + 2) s ∧ I' (b + 3) s = I (o + 3) s) ∧ (∀ m, m < 5 → I' (b + 11) m = I (o + 11) m ∧ I' (b + 12) m = I (o + 12) m ∧ I' (b + 13) m = I (o + 13) m ∧ I' (b + 14) m = I (o + 14) m) ∧ (∀ p s, p < 6 → s < 6 → I' (b + 4 + 1 + p) s = I (o + 4 + 1 + p) s) ∧ I' b 10 = I o 10 ∧ I' b 11 = I o 11 ∧ I' b 12 = I o 12 ∧ I' b 13 = I o 13 ∧ I' b 14 = I o 14
theorem copyR.q {I I' : Nat → Nat → Int32} {b o : Nat} (h : copyR I I' b o) : clQ I I' b o := h.2
theorem relS_cp {I I1 I2 : Nat → Nat → Int32} {b b' a a' ns nr nm : Nat} (h6 : ns ≤ 6) (h6r : nr ≤ 6) (h5 : nm ≤ 5) (c : clQ I I1 b' b) (hlo : ∀ k, k < 17 → I2 (b' + k) = I1 (b' + k)) (h141 : I2 141 = I 141) (e : abQ I I2 a' a) (q : relS I b a ns nr nm) : relS I2 b' a' ns nr nm := by
  obtain ⟨c2, c3, c4, c5, c6, c7, c8, c9⟩ := c
  obtain ⟨e1, e2, e3, e4⟩ := e
  obtain ⟨s1, s2, s3, s4, s5, s6, s7, s8, s9⟩ := q
  have h0 : I2 b' = I1 b' := hlo 0 (by decide)
  refine ⟨?_, ?_, ?_, ?_, ?_, fun s hs => ?_, fun p hp => ?_, fun p s hp hs => ?_, fun m hm => ?_⟩
  · rw [h0, c5, e1 151 (by decide) (by decide)]; exact s1
  · rw [h0, c6, e1 152 (by decide) (by decide)]; exact s2
  · rw [h0, c7, e1 153 (by decide) (by decide)]; exact s3
  · rw [h0, c8, e1 154 (by decide) (by decide)]; exact s4
  · rw [h0, c9]; exact s5
  · rw [hlo 1 (by decide), hlo 2 (by decide), (c2 s (by omega)).1, (c2 s (by omega)).2.1, e2 156 s (by decide) (by omega), e2 157 s (by decide) (by omega)]; exact s6 s hs
  · rw [hlo 3 (by decide), (c2 p (by omega)).2.2, h141]; exact s7 p hp
  · rw [show b' + 4 + 1 + p = b' + (5 + p) by omega, hlo (5 + p) (by omega), show b' + (5 + p) = b' + 4 + 1 + p by omega, c4 p s (by omega) (by omega), e3 p s (by omega) (by omega)]; exact s8 p s hp hs
  · obtain ⟨x1, x2, x3, x4⟩ := c3 m (by omega)
    rw [hlo 11 (by decide), hlo 12 (by decide), hlo 13 (by decide), hlo 14 (by decide), x1, x2, x3, x4, e4 159 m (by decide) (by decide) (by omega), e4 160 m (by decide) (by decide) (by omega), e4 161 m (by decide) (by decide) (by omega), e4 162 m (by decide) (by decide) (by omega)]; exact s9 m hm
theorem nowR_cp {I I1 I2 : Nat → Nat → Int32} {b b' a a' ns nd nr nm dt : Nat} (h6 : ns ≤ 6) (h6r : nr ≤ 6) (h5 : nm ≤ 5) (c : clQ I I1 b' b) (hlo : ∀ k, k < 17 → I2 (b' + k) = I1 (b' + k)) (h141 : I2 141 = I 141) (e : abQ I I2 a' a) (q : nowR I b a ns nd nr nm dt) : nowR I2 b' a' ns nd nr nm dt :=
  ⟨relS_cp h6 h6r h5 c hlo h141 e q.1, abOK_Q h6 h6r h5 e q.2.1, fun s hs => by rw [e.2.1 157 s (by decide) (by omega)]; exact q.2.2.1 s hs, q.2.2.2⟩
set_option maxHeartbeats 2000000 in
theorem pr_keep {G : zG} {d : Nat} {h : zMem} (hOK : zOK h) : pairI G mX9_keep mX10_keep (d + 200) [.ref 0] [.ref 132] h := by
  obtain ⟨t, ns, nd, nr, nm, dt, u, nn, tp, S1, S2, h174, hI⟩ := hOK
  have h6 : ns ≤ 6 := hI.1.1.2.2.2.2.1
  have h6r : nr ≤ 6 := hI.1.1.2.2.2.2.2.2.1
  have h5 : nm ≤ 5 := hI.1.1.2.2.2.2.2.2.2.1
  obtain ⟨i1, i2, i3, i4, i5, i6, i7, i8⟩ := hI
  refine ⟨zI h 151 0, fun h1 => zW h h1 ∧ ∃ J, copyR (zI h) J 65 48 ∧ zI h1 = zup J 0 13 1, fun h1 h2 => zW h1 h2 ∧ ∃ J, cpR (zup (zI h1) 132 0 0) J 2 0 ∧ zI h2 = zup J 132 46 1, ?_, fun h1 k => ?_⟩
  · refine cn_X9_keep (sg_X9_keep_0 S1 ⟨_, X5_copy_ok S1 (Or.inr (Or.inl rfl)) (Or.inl rfl) (by decide), ?_⟩)
    rintro h2 ⟨q1, q2⟩
    refine ⟨S1.W q1, ?_, q1.sI _ _ _, zI h2, q2, by rw [zI_sI]⟩
    rw [zI_sI, zup_ne _ _ (by decide), q2.1 48 (by omega)]; exact i3.1.1
  · obtain ⟨k1, J, k2, k3⟩ := k
    have hi1 : ∀ c, 132 ≤ c → zI h1 c = zI h c := fun c hc => by rw [k3, zup_ne _ _ (by omega)]; exact k2.1 c (by omega)
    refine ⟨⟨⟨t, S1.W k1⟩, S2.W k1, k1.out h174⟩, ?_, fun h2 l => ?_⟩
    · have S3 : zSh2 (zsI h1 132 0 0) := (S2.W k1).W ((zW.rf _).sI _ _ _)
      refine cn_X10_keep (sg_X10_keep_0 (S2.W k1) ⟨_, X10_copies_ok (x := 2) (y := 0) S3 (by decide) (by decide) (by decide), ?_⟩)
      rintro h3 ⟨q1, q2⟩
      refine ⟨S3.W q1, ?_, (((zW.rf h1).sI _ _ _).trans q1).sI _ _ _, zI h3, by rw [zI_sI] at q2; exact q2, by rw [zI_sI]⟩
      rw [zI_sI, zup_ne _ _ (by decide), (q2.2.1 151 (by decide) (by decide)).2 0 (by decide), zI_sI, zup_ne _ _ (by decide), hi1 151 (by decide)]
    · obtain ⟨l1, J2, l2, l3⟩ := l
      have W2 := k1.trans l1
      have Z : ∀ c, c ≠ 132 → zup (zI h1) 132 0 0 c = zI h1 c := fun c hc => by rw [zup_ne _ _ hc]
      have lo : ∀ c, c < 132 → zI h2 c = zI h1 c := fun c hc => by rw [l3, zup_ne _ _ (by omega), l2.1 c (by omega)]; exact Z c (by omega)
      have lor : ∀ c, c < 132 → c ≠ 0 → (c < 65 ∨ 82 ≤ c) → zI h2 c = zI h c := fun c hc x y => by rw [lo c hc, k3, zup_ne _ _ x]; exact k2.1 c (by omega)
      have l0 : ∀ j, j ≠ 13 → zI h2 0 j = zI h 0 j := fun j hj => by rw [lo 0 (by decide), k3, zup_i _ _ _ hj, k2.1 0 (by omega)]
      have mid : ∀ c, (132 < c ∧ c < 151) ∨ 162 < c → zI h2 c = zI h c := fun c hc => by rw [l3, zup_ne _ _ (by omega), l2.1 c (by omega), Z c (by omega)]; exact hi1 c (by omega)
      have m132 : ∀ j, j ≠ 0 → j ≠ 46 → zI h2 132 j = zI h 132 j := fun j a b => by rw [l3, zup_i _ _ _ b, l2.1 132 (by decide), zup_i _ _ _ a, hi1 132 (by decide)]
      have Q0 : ∀ a, abQ (zI h) (zup (zI h1) 132 0 0) a a := fun a => (abQ.rf _ a).eq (fun c x y => by rw [Z c (by omega)]; exact hi1 c (by omega))
      have QF : ∀ {x y}, abQ (zI h) J2 x y → abQ (zI h) (zI h2) x y := fun q => q.eq (fun c x y => by rw [l3, zup_ne _ _ (by omega)])
      have QE : ∀ a, a ≠ 2 → abQ (zI h) (zI h2) a a := fun a ha => QF ((Q0 a).trans (l2.e (by omega)))
      have QN : abQ (zI h) (zI h2) 2 0 := QF ((Q0 0).trans l2.q)
      have h141 : zI h2 141 = zI h 141 := mid 141 (by omega)
      have S1' := S1.2.1
      have NI : nowR (zI h2) 65 2 ns nd nr nm dt := nowR_cp (I1 := J) h6 h6r h5 k2.q (fun k hk => by rw [lo _ (by omega), k3, zup_ne _ _ (by omega)]) h141 QN i3
      refine ⟨t, ns, nd, nr, nm, dt, u, nn, tp, S1.W W2, S2.W W2, W2.out h174, tdR_E (fun k hk => lor _ (by rcases S1' with rfl | rfl <;> omega) (by rcases S1' with rfl | rfl <;> omega) (by rcases S1' with rfl | rfl <;> omega)) (fun c x y => mid c (by omega)) (fun k x y => m132 k (by omega) (by omega)) i1, ?_, nowR_E h6 h6r h5 (fun k hk => lor _ (by omega) (by omega) (by omega)) h141 (QE 0 (by decide)) i3, ⟨?_, fun _ => ⟨dt, NI⟩⟩, ?_, ?_, ?_, ?_⟩
      · unfold pln; rw [m132 50 (by decide) (by decide), m132 52 (by decide) (by decide), m132 48 (by decide) (by decide)]; exact i2
      · rw [lo 0 (by decide), k3, zup_s, l3, zup_s]
      · rw [lor 44 (by decide) (by decide) (by decide), m132 47 (by decide) (by decide)]
        exact ⟨i5.1, i5.2.1, i5.2.2.1, undR_E h6 h6r h5 (fun c x y => lor c (by omega) (by omega) (by omega)) h141 (fun k _ => QE _ (by omega)) i5.2.2.2⟩
      · rw [lor 37 (by decide) (by decide) (by decide), m132 60 (by decide) (by decide), m132 61 (by decide) (by decide)]
        exact ⟨i6.1, i6.2.1, i6.2.2.1, i6.2.2.2.1, i6.2.2.2.2.1, ntR_E (fun c hc => by rcases hc with hc | hc; exact lor c (by omega) (by omega) (by omega); exact mid c (by omega)) i6.2.2.2.2.2⟩
      · exact tpR_E (l0 12 (by decide)) (lor 1 (by decide) (by decide) (by decide)) (m132 2 (by decide) (by decide)) (mid 133 (by omega)) i7
      · rw [lor 2 (by decide) (by decide) (by decide), lor 4 (by decide) (by decide) (by decide), m132 27 (by decide) (by decide), m132 28 (by decide) (by decide)]; exact i8
set_option maxHeartbeats 2000000 in
theorem pr_back {G : zG} {d : Nat} {h : zMem} (hOK : zOK h) : pairI G mX9_back mX10_back (d + 200) [.ref 0] [.ref 132] h := by
  have hOK' := hOK
  obtain ⟨t, ns, nd, nr, nm, dt, u, nn, tp, S1, S2, h174, hI⟩ := hOK'
  have h6 : ns ≤ 6 := hI.1.1.2.2.2.2.1
  have h6r : nr ≤ 6 := hI.1.1.2.2.2.2.2.2.1
  have h5 : nm ≤ 5 := hI.1.1.2.2.2.2.2.2.2.1
  obtain ⟨i1, i2, i3, i4, i5, i6, i7, i8⟩ := hI
  by_cases im : zI h 0 13 = 0
  · refine pair_ro hOK (-1) ?_ (fun h1 k => ?_)
    · exact cn_X9_back (sg_X9_back_0 S1 ⟨fun c => absurd im c, fun _ => ⟨rfl, cR.rf _⟩⟩)
    · refine cn_X10_back (sg_X10_back_0 (S2.W k.1) ?_)
      rw [k.eT.2 46 (by decide), ← i4.1, im]
      exact ⟨fun c => absurd rfl c, fun _ => ⟨rfl, jR.thr h1⟩⟩
  obtain ⟨dt', n2⟩ := i4.2 im
  refine ⟨zI h 151 2, fun h1 => zW h h1 ∧ ∃ J, copyR (zI h) J 48 65 ∧ zI h1 = zup J 44 3 0, fun h1 h2 => zW h1 h2 ∧ ∃ J, cpR (zup (zI h1) 132 0 0) J 0 2 ∧ zI h2 = zup J 132 47 0, ?_, fun h1 k => ?_⟩
  · refine cn_X9_back (sg_X9_back_0 S1 ⟨fun _ => ⟨_, X5_copy_ok S1 (Or.inl rfl) (Or.inr (Or.inl rfl)) (by decide), ?_⟩, fun c => absurd c im⟩)
    rintro h2 ⟨q1, q2⟩
    refine ⟨S1.W q1, fun h' => h' = zsI h2 44 3 0, cn_X8_clear (sg_X8_clear_0 (S1.W q1) rfl), ?_⟩
    rintro h3 rfl
    refine ⟨(S1.W q1).W ((zW.rf _).sI _ _ _), ?_, q1.sI _ _ _, zI h2, q2, by rw [zI_sI]⟩
    rw [zI_sI, zup_ne _ _ (by decide), q2.q.2.2.2.1]; exact n2.1.1
  · obtain ⟨k1, J, k2, k3⟩ := k
    have hi1 : ∀ c, 132 ≤ c → zI h1 c = zI h c := fun c hc => by rw [k3, zup_ne _ _ (by omega)]; exact k2.1 c (by omega)
    refine ⟨⟨⟨t, S1.W k1⟩, S2.W k1, k1.out h174⟩, ?_, fun h2 l => ?_⟩
    · have S3 : zSh2 (zsI h1 132 0 0) := (S2.W k1).W ((zW.rf _).sI _ _ _)
      refine cn_X10_back (sg_X10_back_0 (S2.W k1) ⟨fun _ => ⟨_, X10_copies_ok (x := 0) (y := 2) S3 (by decide) (by decide) (by decide), ?_⟩, fun c => absurd c ?_⟩)
      · rintro h3 ⟨q1, q2⟩
        refine ⟨S3.W q1, ?_, (((zW.rf h1).sI _ _ _).trans q1).sI _ _ _, zI h3, by rw [zI_sI] at q2; exact q2, by rw [zI_sI]⟩
        rw [zI_sI, zup_ne _ _ (by decide), (q2.2.1 151 (by decide) (by decide)).1, zI_sI, zup_ne _ _ (by decide), hi1 151 (by decide)]
      · rw [zI_sI, zup_i _ _ _ (by decide), hi1 132 (by decide), ← i4.1]; exact im
    · obtain ⟨l1, J2, l2, l3⟩ := l
      have W2 := k1.trans l1
      have Z : ∀ c, c ≠ 132 → zup (zI h1) 132 0 0 c = zI h1 c := fun c hc => by rw [zup_ne _ _ hc]
      have lo : ∀ c, c < 132 → zI h2 c = zI h1 c := fun c hc => by rw [l3, zup_ne _ _ (by omega), l2.1 c (by omega)]; exact Z c (by omega)
      have lor : ∀ c, c < 132 → c ≠ 44 → (c < 48 ∨ 65 ≤ c) → zI h2 c = zI h c := fun c hc x y => by rw [lo c hc, k3, zup_ne _ _ x]; exact k2.1 c (by omega)
      have mid : ∀ c, (132 < c ∧ c < 151) ∨ 162 < c → zI h2 c = zI h c := fun c hc => by rw [l3, zup_ne _ _ (by omega), l2.1 c (by omega), Z c (by omega)]; exact hi1 c (by omega)
      have m132 : ∀ j, j ≠ 0 → j ≠ 47 → zI h2 132 j = zI h 132 j := fun j a b => by rw [l3, zup_i _ _ _ b, l2.1 132 (by decide), zup_i _ _ _ a, hi1 132 (by decide)]
      have Q0 : ∀ a, abQ (zI h) (zup (zI h1) 132 0 0) a a := fun a => (abQ.rf _ a).eq (fun c x y => by rw [Z c (by omega)]; exact hi1 c (by omega))
      have QF : ∀ {x y}, abQ (zI h) J2 x y → abQ (zI h) (zI h2) x y := fun q => q.eq (fun c x y => by rw [l3, zup_ne _ _ (by omega)])
      have QE : ∀ a, a ≠ 0 → abQ (zI h) (zI h2) a a := fun a ha => QF ((Q0 a).trans (l2.e (by omega)))
      have QN : abQ (zI h) (zI h2) 0 2 := QF ((Q0 2).trans l2.q)
      have h141 : zI h2 141 = zI h 141 := mid 141 (by omega)
      have S1' := S1.2.1
      have NI : nowR (zI h2) 48 0 ns nd nr nm dt' := nowR_cp (I1 := J) h6 h6r h5 k2.q (fun k hk => by rw [lo _ (by omega), k3, zup_ne _ _ (by omega)]) h141 QN n2
      refine ⟨t, ns, nd, nr, nm, dt', 0, nn, tp, S1.W W2, S2.W W2, W2.out h174, tdR_E (fun k hk => lor _ (by rcases S1' with rfl | rfl <;> omega) (by rcases S1' with rfl | rfl <;> omega) (by rcases S1' with rfl | rfl <;> omega)) (fun c x y => mid c (by omega)) (fun k x y => m132 k (by omega) (by omega)) i1, ?_, NI, ⟨?_, fun _ => ⟨dt', nowR_E h6 h6r h5 (fun k hk => lor _ (by omega) (by omega) (by omega)) h141 (QE 2 (by decide)) n2⟩⟩, ?_, ?_, ?_, ?_⟩
      · unfold pln; rw [m132 50 (by decide) (by decide), m132 52 (by decide) (by decide), m132 48 (by decide) (by decide)]; exact i2
      · rw [lor 0 (by decide) (by decide) (by decide), m132 46 (by decide) (by decide)]; exact i4.1
      · refine ⟨?_, ?_, by omega, fun j hj => absurd hj (by omega)⟩
        · rw [lo 44 (by decide), k3, zup_s]; rfl
        · rw [l3, zup_s]; rfl
      · rw [lor 37 (by decide) (by decide) (by decide), m132 60 (by decide) (by decide), m132 61 (by decide) (by decide)]
        exact ⟨i6.1, i6.2.1, i6.2.2.1, i6.2.2.2.1, i6.2.2.2.2.1, ntR_E (fun c hc => by rcases hc with hc | hc; exact lor c (by omega) (by omega) (by omega); exact mid c (by omega)) i6.2.2.2.2.2⟩
      · exact tpR_E (by rw [lor 0 (by decide) (by decide) (by decide)]) (lor 1 (by decide) (by decide) (by decide)) (m132 2 (by decide) (by decide)) (mid 133 (by omega)) i7
      · rw [lor 2 (by decide) (by decide) (by decide), lor 4 (by decide) (by decide) (by decide), m132 27 (by decide) (by decide), m132 28 (by decide) (by decide)]; exact i8
