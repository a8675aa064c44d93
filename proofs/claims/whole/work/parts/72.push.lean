/-! calls that can be undone: what is kept ahead of them -/
def uuP (u u' o : Nat) : Prop := (u = 20 ∧ u' = 20 ∧ o = 1) ∨ (u < 20 ∧ u' = u + 1 ∧ o = 0)
theorem uu_ex {u : Nat} (h : u ≤ 20) : ∃ u' o, uuP u u' o := by
  by_cases c : u = 20
  · exact ⟨20, 1, Or.inl ⟨c, rfl, rfl⟩⟩
  · exact ⟨u + 1, 0, Or.inr ⟨by omega, rfl, rfl⟩⟩
def addR (I I' : Nat → Nat → Int32) (u' o : Nat) (call whose bef : Int32) : Prop := (∀ c, c ≠ 44 → c ≠ 45 → c ≠ 46 → c ≠ 47 → I' c = I c) ∧ I' 44 3 = nI u' ∧ (∀ e, e + 1 < u' → I' 45 e = I 45 (e + o) ∧ I' 46 e = I 46 (e + o) ∧ I' 47 e = I 47 (e + o)) ∧ I' 45 (u' - 1) = call ∧ I' 46 (u' - 1) = whose ∧ I' 47 (u' - 1) = bef
set_option maxHeartbeats 1000000 in
theorem X8_forgetOldest_ok {G : zG} {d t : Nat} {h : zMem} (hS : zSh1 h t) (hu : zI h 44 3 = nI 20) : zConV G mX8_forgetOldest d [.ref 44] h (fun h' => zW h h' ∧ (∀ c, c ≠ 44 → c ≠ 45 → c ≠ 46 → c ≠ 47 → zI h' c = zI h c) ∧ zI h' 44 3 = nI 19 ∧ ∀ e, e < 19 → zI h' 45 e = zI h 45 (e + 1) ∧ zI h' 46 e = zI h 46 (e + 1) ∧ zI h' 47 e = zI h 47 (e + 1)) := by
  refine cn_X8_forgetOldest (sg_X8_forgetOldest_0 hS ?_)
  have loop : ∀ n i (h1 : zMem), n + i = 20 → 1 ≤ i → zW h h1 → (∀ c, c ≠ 45 → c ≠ 46 → c ≠ 47 → zI h1 c = zI h c) → (∀ e, e + 1 < i → zI h1 45 e = zI h 45 (e + 1) ∧ zI h1 46 e = zI h 46 (e + 1) ∧ zI h1 47 e = zI h 47 (e + 1)) → (∀ e, i ≤ e + 1 → 1 ≤ e → zI h1 45 e = zI h 45 e ∧ zI h1 46 e = zI h 46 e ∧ zI h1 47 e = zI h 47 e) →
      zg G mX8_forgetOldest d 2 [.ref 44, .int (nI i)] [] h1 (zPV (fun h' => zW h h' ∧ (∀ c, c ≠ 44 → c ≠ 45 → c ≠ 46 → c ≠ 47 → zI h' c = zI h c) ∧ zI h' 44 3 = nI 19 ∧ ∀ e, e < 19 → zI h' 45 e = zI h 45 (e + 1) ∧ zI h' 46 e = zI h 46 (e + 1) ∧ zI h' 47 e = zI h 47 (e + 1))) := by
    intro n
    induction n with
    | zero =>
      intro i h1 hi h1i q1 q2 q3 q4
      refine sg_X8_forgetOldest_2 (hS.W q1) ?_
      rw [q2 44 (by decide) (by decide) (by decide), hu]
      refine ⟨fun _ => ⟨q1.sI _ _ _, fun c a b e f => ?_, ?_, fun e he => ?_⟩, fun c => absurd (nI_le (by omega) (by omega)) c⟩
      · rw [zI_sI, zup_ne _ _ a]; exact q2 c b e f
      · rw [zI_sI, zup_s]; exact nI_pred 19
      · rw [zI_sI, zup_ne _ _ (by decide), zup_ne _ _ (by decide), zup_ne _ _ (by decide)]; exact q3 e (by omega)
    | succ n ih =>
      intro i h1 hi h1i q1 q2 q3 q4
      obtain ⟨j, rfl⟩ : ∃ j, i = j + 1 := ⟨i - 1, by omega⟩
      refine sg_X8_forgetOldest_2 (hS.W q1) ?_
      rw [q2 44 (by decide) (by decide) (by decide), hu, nI_pred j, zcla (show j < 2 ^ 31 by omega), zcla (show j + 1 < 2 ^ 31 by omega), nI_1]
      simp only [zI_sI, zup_ne _ _ (show (46 : Nat) ≠ 45 by decide), zup_ne _ _ (show (47 : Nat) ≠ 45 by decide), zup_ne _ _ (show (47 : Nat) ≠ 46 by decide)]
      obtain ⟨a1, a2, a3⟩ := q4 (j + 1) (by omega) (by omega)
      refine ⟨fun c => absurd c (nI_ge (by omega) (by decide)), fun _ => ⟨zin_n (by omega) (by decide), zin_n (by omega) (by decide), ih (j + 1 + 1) _ (by omega) (by omega) (((q1.sI _ _ _).sI _ _ _).sI _ _ _) (fun c b e f => ?_) (fun e he => ?_) (fun e he h1e => ?_)⟩⟩
      · simp only [zI_sI]
        rw [zup_ne _ _ f, zup_ne _ _ e, zup_ne _ _ b]; exact q2 c b e f
      · simp only [zI_sI]
        rw [zup_ne _ _ (show (45 : Nat) ≠ 47 by decide), zup_ne _ _ (show (45 : Nat) ≠ 46 by decide), zup_ne _ _ (show (46 : Nat) ≠ 47 by decide)]
        by_cases ee : e = j
        · subst ee
          rw [zup_s, zup_s, zup_s]; exact ⟨a1, a2, a3⟩
        · simp only [zup_i _ _ _ ee]
          exact q3 e (by omega)
      · simp only [zI_sI]
        have ee : e ≠ j := by omega
        rw [zup_ne _ _ (show (45 : Nat) ≠ 47 by decide), zup_ne _ _ (show (45 : Nat) ≠ 46 by decide), zup_ne _ _ (show (46 : Nat) ≠ 47 by decide)]
        simp only [zup_i _ _ _ ee]
        exact q4 e (by omega) h1e
  exact loop 19 1 h (by omega) (by omega) (zW.rf h) (fun _ _ _ _ => rfl) (fun e he => absurd he (by omega)) (fun _ _ _ => ⟨rfl, rfl, rfl⟩)
set_option maxHeartbeats 1000000 in
theorem X8_add_ok {G : zG} {d t u u' o : Nat} {h : zMem} (hS : zSh1 h t) (hu : zI h 44 3 = nI u) (uu : uuP u u' o) (a b c : Int32) : zConV G mX8_add (d + 1) [.ref 44, .int a, .int b, .int c] h (fun h' => zW h h' ∧ addR (zI h) (zI h') u' o a b c) := by
  refine cn_X8_add (sg_X8_add_0 hS ?_)
  have fin : ∀ (h1 : zMem) (n : Nat), n < 20 → zI h1 44 3 = nI n → vp_in (zI h1 44 3) 20 ∧ vp_in (zI (zsI h1 45 (zI h1 44 3).toNatClampNeg a) 44 3) 20 ∧ vp_in (zI (zsI (zsI h1 45 (zI h1 44 3).toNatClampNeg a) 46 (zI (zsI h1 45 (zI h1 44 3).toNatClampNeg a) 44 3).toNatClampNeg b) 44 3) 20 ∧
      (zsI (zsI (zsI (zsI h1 45 (zI h1 44 3).toNatClampNeg a) 46 (zI (zsI h1 45 (zI h1 44 3).toNatClampNeg a) 44 3).toNatClampNeg b) 47 (zI (zsI (zsI h1 45 (zI h1 44 3).toNatClampNeg a) 46 (zI (zsI h1 45 (zI h1 44 3).toNatClampNeg a) 44 3).toNatClampNeg b) 44 3).toNatClampNeg c) 44 3 ((zI (zsI (zsI (zsI h1 45 (zI h1 44 3).toNatClampNeg a) 46 (zI (zsI h1 45 (zI h1 44 3).toNatClampNeg a) 44 3).toNatClampNeg b) 47 (zI (zsI (zsI h1 45 (zI h1 44 3).toNatClampNeg a) 46 (zI (zsI h1 45 (zI h1 44 3).toNatClampNeg a) 44 3).toNatClampNeg b) 44 3).toNatClampNeg c) 44 3) + (1 : Int32))) = zsI (zsI (zsI (zsI h1 45 n a) 46 n b) 47 n c) 44 3 (nI (n + 1)) := by
    intro h1 n hn e
    simp only [zI_sI, zup_ne _ _ (show (44 : Nat) ≠ 45 by decide), zup_ne _ _ (show (44 : Nat) ≠ 46 by decide), zup_ne _ _ (show (44 : Nat) ≠ 47 by decide), e, zcla (show n < 2 ^ 31 by omega), nI_1]
    have := zin_n hn (by decide)
    exact ⟨this, this, this, trivial⟩
  have post : ∀ (h1 : zMem) (n : Nat), zW h (zsI (zsI (zsI (zsI h1 45 n a) 46 n b) 47 n c) 44 3 (nI (n + 1))) ↔ zW h h1 := fun h1 n => Iff.rfl
  have rows : ∀ (h1 : zMem) (n : Nat) (J : Nat → Nat → Int32), J = zI (zsI (zsI (zsI (zsI h1 45 n a) 46 n b) 47 n c) 44 3 (nI (n + 1))) → (∀ c, c ≠ 44 → c ≠ 45 → c ≠ 46 → c ≠ 47 → J c = zI h1 c) ∧ J 44 3 = nI (n + 1) ∧ (∀ e, e ≠ n → J 45 e = zI h1 45 e ∧ J 46 e = zI h1 46 e ∧ J 47 e = zI h1 47 e) ∧ J 45 n = a ∧ J 46 n = b ∧ J 47 n = c := by
    intro h1 n J hJ
    subst hJ
    simp only [zI_sI]
    refine ⟨fun c a b e f => ?_, ?_, fun e he => ⟨?_, ?_, ?_⟩, ?_, ?_, ?_⟩
    · rw [zup_ne _ _ a, zup_ne _ _ f, zup_ne _ _ e, zup_ne _ _ b]
    · rw [zup_s]
    · rw [zup_ne _ _ (by decide), zup_ne _ _ (by decide), zup_ne _ _ (by decide), zup_i _ _ _ he]
    · rw [zup_ne _ _ (by decide), zup_ne _ _ (by decide), zup_i _ _ _ he, zup_ne _ _ (by decide)]
    · rw [zup_ne _ _ (by decide), zup_i _ _ _ he, zup_ne _ _ (by decide), zup_ne _ _ (by decide)]
    · rw [zup_ne _ _ (by decide), zup_ne _ _ (by decide), zup_ne _ _ (by decide), zup_s]
    · rw [zup_ne _ _ (by decide), zup_ne _ _ (by decide), zup_s]
    · rw [zup_ne _ _ (by decide), zup_s]
  refine ⟨fun q => ?_, fun q => ?_⟩
  · rcases uu with ⟨e, -, -⟩ | ⟨hlt, rfl, rfl⟩
    · exact absurd (by rw [hu, e]; rfl) q
    · obtain ⟨f1, f2, f3, f4⟩ := fin h u hlt hu
      refine ⟨f1, f2, f3, ?_⟩
      rw [f4]
      obtain ⟨r1, r2, r3, r4, r5, r6⟩ := rows h u _ rfl
      exact ⟨(zW.rf h), r1, r2, fun e he => r3 e (by omega), r4, r5, r6⟩
  · rcases uu with ⟨e, rfl, rfl⟩ | ⟨hlt, -, -⟩
    · refine ⟨_, X8_forgetOldest_ok hS (by rw [hu, e]), ?_⟩
      rintro h6 ⟨g1, g2, g3, g4⟩
      obtain ⟨f1, f2, f3, f4⟩ := fin h6 19 (by decide) g3
      refine ⟨hS.W g1, f1, f2, f3, ?_⟩
      rw [f4]
      obtain ⟨r1, r2, r3, r4, r5, r6⟩ := rows h6 19 _ rfl
      refine ⟨g1, fun c a b e f => (r1 c a b e f).trans (g2 c a b e f), r2, fun e he => ?_, r4, r5, r6⟩
      obtain ⟨x1, x2, x3⟩ := r3 e (by omega)
      obtain ⟨y1, y2, y3⟩ := g4 e (by omega)
      exact ⟨x1.trans y1, x2.trans y2, x3.trans y3⟩
    · exact absurd (nI_inj (a := u) (b := 20) (by omega) (by decide) (hu.symm.trans q)) (by omega)
/-- abbey x there is abbey y here -/
def abQ (I I' : Nat → Nat → Int32) (x y : Nat) : Prop := (∀ c, 151 ≤ c → c ≤ 154 → I' c x = I c y) ∧ (∀ c s, c = 156 ∨ c = 157 → s < 6 → I' c (6 * x + s) = I c (6 * y + s)) ∧ (∀ p s, p < 6 → s < 6 → I' 158 (36 * x + 6 * p + s) = I 158 (36 * y + 6 * p + s)) ∧ (∀ c m, 159 ≤ c → c ≤ 162 → m < 5 → I' c (5 * x + m) = I c (5 * y + m))
theorem abQ.trans {I I1 I2 : Nat → Nat → Int32} {x y z : Nat} (p : abQ I I1 y z) (q : abQ I1 I2 x y) : abQ I I2 x z := ⟨fun c a b => (q.1 c a b).trans (p.1 c a b), fun c s a b => (q.2.1 c s a b).trans (p.2.1 c s a b), fun a s b c => (q.2.2.1 a s b c).trans (p.2.2.1 a s b c), fun c m a b e => (q.2.2.2 c m a b e).trans (p.2.2.2 c m a b e)⟩
theorem abQ.rf (I : Nat → Nat → Int32) (x : Nat) : abQ I I x x := ⟨fun _ _ _ => rfl, fun _ _ _ _ => rfl, fun _ _ _ _ => rfl, fun _ _ _ _ _ => rfl⟩
theorem abQ.eq {I J K : Nat → Nat → Int32} {x y : Nat} (p : abQ I J x y) (h : ∀ c, 151 ≤ c → c ≤ 162 → K c = J c) : abQ I K x y := ⟨fun c a b => by rw [h c a (by omega)]; exact p.1 c a b, fun c s a b => by rw [h c (by omega) (by omega)]; exact p.2.1 c s a b, fun a s b c => by rw [h 158 (by decide) (by decide)]; exact p.2.2.1 a s b c, fun c m a b e => by rw [h c (by omega) b]; exact p.2.2.2 c m a b e⟩
theorem cpR.q {I I' : Nat → Nat → Int32} {x y : Nat} (q : cpR I I' x y) : abQ I I' x y := by
  obtain ⟨q1, q2, q3, q4, q5, q6, q7, q8, q9⟩ := q
  refine ⟨fun c a b => (q2 c a (by omega)).1, fun c s a b => ?_, fun p s a b => ?_, fun c m a b e => ?_⟩
  · rcases a with rfl | rfl
    · exact q3.1 s b
    · exact q4.1 s b
  · rw [Nat.add_assoc, Nat.add_assoc]; exact q5.1 (6 * p + s) (by omega)
  · rcases (show c = 159 ∨ c = 160 ∨ c = 161 ∨ c = 162 by omega) with rfl | rfl | rfl | rfl
    · exact q6.1 m e
    · exact q7.1 m e
    · exact q8.1 m e
    · exact q9.1 m e
theorem cpR.e {I I' : Nat → Nat → Int32} {x y z : Nat} (q : cpR I I' x y) (h : x ≠ z) : abQ I I' z z := by
  obtain ⟨q1, q2, q3, q4, q5, q6, q7, q8, q9⟩ := q
  refine ⟨fun c a b => (q2 c a (by omega)).2 z (Ne.symm h), fun c s a b => ?_, fun p s a b => ?_, fun c m a b e => ?_⟩
  · rcases a with rfl | rfl
    · exact q3.2 _ (blk_ne h b)
    · exact q4.2 _ (blk_ne h b)
  · rw [Nat.add_assoc]; exact q5.2 _ (blk_ne h (show 6 * p + s < 36 by omega))
  · rcases (show c = 159 ∨ c = 160 ∨ c = 161 ∨ c = 162 by omega) with rfl | rfl | rfl | rfl
    · exact q6.2 _ (blk_ne h e)
    · exact q7.2 _ (blk_ne h e)
    · exact q8.2 _ (blk_ne h e)
    · exact q9.2 _ (blk_ne h e)
def kpR (I I' : Nat → Nat → Int32) (u' o : Nat) : Prop := (∀ c, c < 132 ∨ (132 < c ∧ c < 151) ∨ 162 < c → I' c = I c) ∧ (∀ k, k ≠ 47 → I' 132 k = I 132 k) ∧ I' 132 47 = nI u' ∧ (∀ a, a < 3 → abQ I I' a a) ∧ (∀ e, e + 1 < u' → abQ I I' (3 + e) (3 + e + o)) ∧ abQ I I' (3 + (u' - 1)) 0
set_option maxHeartbeats 1000000 in
theorem X10_keepNow_ok {G : zG} {d u u' o : Nat} {h : zMem} (hS : zSh2 h) (hu : zI h 132 47 = nI u) (uu : uuP u u' o) : zConV G mX10_keepNow (d + 1) [.ref 132] h (fun h' => zW h h' ∧ kpR (zI h) (zI h') u' o) := by
  refine cn_X10_keepNow (sg_X10_keepNow_0 hS ?_)
  have i3 : ∀ n, (3 : Int32) + nI n = nI (3 + n) := fun n => nI_add 3 n
  rw [hu]
  refine ⟨fun q => ?_, fun q => ?_⟩
  · rcases uu with ⟨e, -, -⟩ | ⟨hlt, rfl, rfl⟩
    · exact absurd (by rw [e]; rfl) q
    · rw [i3]
      refine ⟨_, X10_copies_ok (x := 3 + u) (y := 0) hS (by omega) (by decide) (by omega), ?_⟩
      rintro h3 ⟨w, cp⟩
      refine ⟨hS.W w, w.sI _ _ _, fun c hc => ?_, fun k hk => ?_, ?_, fun a ha => ?_, fun e he => ?_, ?_⟩
      · rw [zI_sI, zup_ne _ _ (by omega)]; exact cp.1 c (by omega)
      · rw [zI_sI, zup_i _ _ _ hk, cp.1 132 (by decide)]
      · rw [zI_sI, zup_s, cp.1 132 (by decide), hu, nI_1]
      · exact (cp.e (by omega)).eq (fun c a b => by rw [zI_sI, zup_ne _ _ (by omega)])
      · exact (cp.e (by omega)).eq (fun c a b => by rw [zI_sI, zup_ne _ _ (by omega)])
      · exact cp.q.eq (fun c a b => by rw [zI_sI, zup_ne _ _ (by omega)])
  · rcases uu with ⟨e, rfl, rfl⟩ | ⟨hlt, -, -⟩
    · have loop : ∀ n i (h1 : zMem), n + i = 20 → 1 ≤ i → zW h h1 → (∀ c, c < 151 ∨ 162 < c → zI h1 c = zI h c) → (∀ a, a < 3 → abQ (zI h) (zI h1) a a) → (∀ e, e + 1 < i → abQ (zI h) (zI h1) (3 + e) (3 + e + 1)) → (∀ e, i ≤ e + 1 → 1 ≤ e → abQ (zI h) (zI h1) (3 + e) (3 + e)) →
          zg G mX10_keepNow (d + 1) 11 [.ref 132, .int (nI i)] [] h1 (zPV (fun h' => zW h h' ∧ kpR (zI h) (zI h') 20 1)) := by
        intro n
        induction n with
        | zero =>
          intro i h1 hi h1i q1 q2 q3 q4 q5
          refine sg_X10_keepNow_11 (hS.W q1) ⟨fun _ => ?_, fun c => absurd (show nI 20 ≤ nI i from nI_le (by omega) (by omega)) c⟩
          have e47 : zI (zsI h1 132 47 (zI h1 132 47 - 1)) 132 47 = nI 19 := by rw [zI_sI, zup_s, q2 132 (by decide), hu, e]; exact nI_pred 19
          rw [e47, i3]
          have S := (hS.W q1).W ((zW.rf h1).sI 132 47 (zI h1 132 47 - 1))
          refine ⟨_, X10_copies_ok (x := 3 + 19) (y := 0) S (by decide) (by decide) (by decide), ?_⟩
          rintro h3 ⟨w, cp⟩
          have q0 : ∀ a, abQ (zI h1) (zI (zsI h1 132 47 (zI h1 132 47 - 1))) a a := fun a => (abQ.rf _ a).eq (fun c x y => by rw [zI_sI, zup_ne _ _ (by omega)])
          have E : ∀ {a b}, abQ (zI h) (zI h3) a b → abQ (zI h) (zI (zsI h3 132 47 (zI h3 132 47 + 1))) a b := fun q => q.eq (fun c x y => by rw [zI_sI, zup_ne _ _ (by omega)])
          refine ⟨S.W w, ((q1.sI _ _ _).trans w).sI _ _ _, fun c hc => ?_, fun k hk => ?_, ?_, fun a ha => E ?_, fun e he => E ?_, E ?_⟩
          · rw [zI_sI, zup_ne _ _ (by omega), cp.1 c (by omega), zI_sI, zup_ne _ _ (by omega)]; exact q2 c (by omega)
          · rw [zI_sI, zup_i _ _ _ hk, cp.1 132 (by decide), zI_sI, zup_i _ _ _ hk, q2 132 (by decide)]
          · rw [zI_sI, zup_s, cp.1 132 (by decide), e47, nI_1]
          · exact ((q3 a ha).trans (q0 a)).trans (cp.e (by omega))
          · exact ((q4 e (by omega)).trans (q0 _)).trans (cp.e (by omega))
          · exact ((q3 0 (by decide)).trans (q0 0)).trans cp.q
        | succ n ih =>
          intro i h1 hi h1i q1 q2 q3 q4 q5
          obtain ⟨j, rfl⟩ : ∃ j, i = j + 1 := ⟨i - 1, by omega⟩
          refine sg_X10_keepNow_11 (hS.W q1) ⟨fun c => absurd (show nI 20 ≤ nI (j + 1) from c) (nI_ge (by omega) (by decide)), fun _ => ?_⟩
          rw [i3, show nI (3 + (j + 1)) - 1 = nI (3 + j) from nI_pred (3 + j), nI_1]
          refine ⟨_, X10_copies_ok (x := 3 + j) (y := 3 + (j + 1)) (hS.W q1) (by omega) (by omega) (by omega), ?_⟩
          rintro h3 ⟨w, cp⟩
          refine ⟨(hS.W q1).W w, ih (j + 1 + 1) h3 (by omega) (by omega) (q1.trans w) (fun c hc => (cp.1 c hc).trans (q2 c hc)) (fun a ha => (q3 a ha).trans (cp.e (by omega))) (fun e he => ?_) (fun e he h1e => (q5 e (by omega) h1e).trans (cp.e (by omega)))⟩
          by_cases ee : e = j
          · subst ee
            exact (q5 (e + 1) (by omega) (by omega)).trans cp.q
          · exact (q4 e (by omega)).trans (cp.e (by omega))
      exact loop 19 1 h (by omega) (by omega) (zW.rf h) (fun _ _ => rfl) (fun a _ => abQ.rf _ a) (fun e he => absurd he (by omega)) (fun e _ _ => abQ.rf _ _)
    · exact absurd (nI_inj (a := u) (b := 20) (by omega) (by decide) q) (by omega)
