/-! calls that leave some words of the model: a stuff in place of another one, what mends; where one would tell most; a letter; how long stores last -/
def jX (c j : Nat) : Prop := c = 132 ∧ (j = 49 ∨ j = 51 ∨ j = 53 ∨ j = 54)
def jE2 (I I' : Nat → Nat → Int32) : Prop := ∀ c j, ¬ jkP c j → ¬ jX c j → I' c j = I c j
theorem jE.two {I I' : Nat → Nat → Int32} (h : jE I I') : jE2 I I' := fun c j a _ => h c j a
theorem jE2.trans {I I1 I2 : Nat → Nat → Int32} (p : jE2 I I1) (q : jE2 I1 I2) : jE2 I I2 := fun c j a b => (q c j a b).trans (p c j a b)
theorem mdOK_E3 {I I' : Nat → Nat → Int32} {ns nd nr nm : Nat} (h : mdOK I ns nd nr nm) (h1 : ∀ c, c = 134 ∨ c = 139 ∨ c = 141 ∨ c = 144 ∨ c = 145 ∨ c = 146 ∨ c = 147 ∨ c = 148 → I' c = I c) (hp : plOK I') (em : ∀ dy s, dy < nd → s < ns → ∃ n, n ≤ 198 ∧ mxM I' dy s = nI n) : mdOK I' ns nd nr nm := by
  obtain ⟨a1, a2, a3, a4, a5, a6, a7, a8, a9, a10, a11, a12, a13, a14⟩ := h
  refine ⟨?_, ?_, ?_, ?_, a5, a6, a7, a8, mlOK_E a9 (h1 145 (by decide)) (h1 146 (by decide)) (h1 147 (by decide)) (h1 148 (by decide)), hp, ?_, em, ?_, ?_⟩
  · rw [h1 134 (by decide)]; exact a1
  · rw [h1 134 (by decide)]; exact a2
  · rw [h1 134 (by decide)]; exact a3
  · rw [h1 134 (by decide)]; exact a4
  · rw [h1 144 (by decide)]; exact a11
  · rw [h1 134 (by decide)]; exact a13
  · rw [h1 141 (by decide)]; exact a14
theorem tdR_E3 {I I' : Nat → Nat → Int32} {t ns nd nr nm : Nat} (ht : ∀ k, k < 29 → I' (t + k) = I (t + k)) (hr : ∀ c, 133 < c → c ≤ 148 → I' c = I c) (hmd : mdOK I' ns nd nr nm) (q : tdR I t ns nd nr nm) : tdR I' t ns nd nr nm := by
  obtain ⟨q1, q2, q3, q4, q5, q6, q7, q8, q9, q10, q11, q12, q13⟩ := q
  obtain ⟨r1, r2, r3, r4, r5, r6, r7⟩ := q3
  have t0 : I' t = I t := ht 0 (by decide)
  have lw : ∀ k, k < 6 → I' (t + 21 + k) = I (t + 21 + k) := fun k hk => by rw [Nat.add_assoc]; exact ht _ (by omega)
  refine ⟨?_, hmd, ⟨?_, ?_, ?_, fun d s hd hs => ?_, ?_, ?_, lwR_row lw (hr 145 (by decide) (by decide)) (hr 146 (by decide) (by decide)) (hr 147 (by decide) (by decide)) (hr 148 (by decide) (by decide)) r7⟩, ?_, ?_, ?_, ?_, ?_, ?_, ?_, ?_, ?_, ?_⟩
  · obtain ⟨a1, a2, a3, a4, a5, a6, a7, a8, a9⟩ := q1
    unfold tdOK
    rw [ht 1 (by decide)]
    exact ⟨a1, a2, a3, a4, a5, a6, a7, a8, lwOK_congr lw a9⟩
  · rw [t0, hr 134 (by decide) (by decide)]; exact r1
  · rw [ht 7 (by decide), hr 136 (by decide) (by decide)]; exact r2
  · rw [ht 8 (by decide), hr 138 (by decide) (by decide)]; exact r3
  · have h8 := q1.2.2.2.2.2.1
    rw [show t + 9 + 1 + d = t + (10 + d) by omega, ht (10 + d) (by omega), hr 139 (by decide) (by decide), show t + (10 + d) = t + 9 + 1 + d by omega]; exact r4 d s hd hs
  · rw [ht 18 (by decide), hr 141 (by decide) (by decide)]; exact r5
  · rw [ht 19 (by decide), ht 20 (by decide), hr 143 (by decide) (by decide), hr 144 (by decide) (by decide)]; exact r6
  · rw [hr 139 (by decide) (by decide)]; exact q4
  · rw [ht 3 (by decide), hr 135 (by decide) (by decide)]; exact q5
  · rw [ht 4 (by decide), hr 137 (by decide) (by decide)]; exact q6
  · rw [ht 5 (by decide), hr 140 (by decide) (by decide)]; exact q7
  · rw [ht 6 (by decide), hr 142 (by decide) (by decide)]; exact q8
  · rw [t0, hr 134 (by decide) (by decide)]; exact q9
  · rw [ht 21 (by decide), hr 134 (by decide) (by decide)]; exact q10
  · rw [hr 136 (by decide) (by decide)]; exact q11
  · rw [hr 143 (by decide) (by decide)]; exact q12
  · rw [hr 138 (by decide) (by decide)]; exact q13
theorem zInv_x {I I' : Nat → Nat → Int32} {t ns nd nr nm dt u nn tp : Nat} (ht : isTd t) (h : zInv I t ns nd nr nm dt u nn tp) (e1 : ∀ c, c ≠ 132 → I' c = I c) (e2 : ∀ j, ¬ jX 132 j → I' 132 j = I 132 j) : zInv I' t ns nd nr nm dt u nn tp := by
  obtain ⟨i1, i2, i3, i4, i5, i6, i7, i8⟩ := h
  have k132 : ∀ k, k ≠ 49 → k ≠ 51 → k ≠ 53 → k ≠ 54 → I' 132 k = I 132 k := fun k a b c d => e2 k (by unfold jX; omega)
  have h6 : ns ≤ 6 := i1.1.2.2.2.2.1
  have h8 : nd ≤ 8 := i1.1.2.2.2.2.2.1
  have h6r : nr ≤ 6 := i1.1.2.2.2.2.2.2.1
  have h5 : nm ≤ 5 := i1.1.2.2.2.2.2.2.2.1
  have hl := ht.lt
  have pl : pln I' := by unfold pln; rw [k132 50 (by decide) (by decide) (by decide) (by decide), k132 52 (by decide) (by decide) (by decide) (by decide)]; exact i2.1
  have ea : ∀ a, abE I I' a := fun a => ⟨fun c x y => by rw [e1 c (by omega)], fun c s x y => by rw [e1 c (by omega)], fun p s x y => by rw [e1 158 (by decide)], fun c m x y z => by rw [e1 c (by omega)]⟩
  have md : mdOK I' ns nd nr nm := mdOK_E3 i1.2.1 (fun c hc => e1 c (by omega)) (Or.inl pl.1) (fun dy s hd hs => by
    obtain ⟨n, a, b⟩ := i1.2.2.2.1 dy s hd hs
    rw [mxM_pln pl (by omega), e1 139 (by decide)]
    exact ⟨n, by omega, b⟩)
  refine ⟨tdR_E3 (fun k hk => e1 _ (by omega)) (fun c x y => e1 c (by omega)) md i1, ⟨pl, ?_⟩, ?_, ?_, ?_, ?_, ?_, ?_⟩
  · rw [k132 48 (by decide) (by decide) (by decide) (by decide)]; exact i2.2
  · exact nowR_E h6 h6r h5 (fun k hk => e1 _ (by omega)) (e1 141 (by omega)) (ea 0) i3
  · rw [e1 0 (by omega), k132 46 (by decide) (by decide) (by decide) (by decide)]
    refine ⟨i4.1, fun q => ?_⟩
    obtain ⟨dt', q'⟩ := i4.2 q
    exact ⟨dt', nowR_E h6 h6r h5 (fun k hk => e1 _ (by omega)) (e1 141 (by omega)) (ea 2) q'⟩
  · rw [e1 44 (by omega), k132 47 (by decide) (by decide) (by decide) (by decide)]
    exact ⟨i5.1, i5.2.1, i5.2.2.1, undR_E h6 h6r h5 (fun c x y => e1 c (by omega)) (e1 141 (by omega)) (fun k _ => ea _) i5.2.2.2⟩
  · rw [e1 37 (by omega), k132 60 (by decide) (by decide) (by decide) (by decide), k132 61 (by decide) (by decide) (by decide) (by decide)]
    exact ⟨i6.1, i6.2.1, i6.2.2.1, i6.2.2.2.1, i6.2.2.2.2.1, ntR_E (fun c hc => e1 c (by omega)) i6.2.2.2.2.2⟩
  · exact tpR_E (by rw [e1 0 (by omega)]) (e1 1 (by omega)) (k132 2 (by decide) (by decide) (by decide) (by decide)) (e1 133 (by omega)) i7
  · rw [e1 2 (by omega), e1 4 (by omega), k132 27 (by decide) (by decide) (by decide) (by decide), k132 28 (by decide) (by decide) (by decide) (by decide)]; exact i8
theorem jX_dec (c j : Nat) : jX c j ∨ ¬ jX c j := by unfold jX; omega
theorem zInv_j2 {I I' : Nat → Nat → Int32} {t ns nd nr nm dt u nn tp : Nat} (ht : isTd t) (h : zInv I t ns nd nr nm dt u nn tp) (e : jE2 I I') : zInv I' t ns nd nr nm dt u nn tp := by
  obtain ⟨J, hJ⟩ : ∃ J : Nat → Nat → Int32, J = fun c j => if c = 132 ∧ (j = 49 ∨ j = 51 ∨ j = 53 ∨ j = 54) then I c j else I' c j := ⟨_, rfl⟩
  have h1 : jE I J := fun c j hn => by
    rw [hJ]
    show (if c = 132 ∧ (j = 49 ∨ j = 51 ∨ j = 53 ∨ j = 54) then I c j else I' c j) = I c j
    by_cases q : c = 132 ∧ (j = 49 ∨ j = 51 ∨ j = 53 ∨ j = 54)
    · rw [if_pos q]
    · rw [if_neg q]; exact e c j hn q
  refine zInv_x ht (zInv_j ht h h1) (fun c hc => ?_) (fun j hj => ?_)
  · funext j; rw [hJ]
    show I' c j = (if c = 132 ∧ (j = 49 ∨ j = 51 ∨ j = 53 ∨ j = 54) then I c j else I' c j)
    rw [if_neg (fun q => hc q.1)]
  · rw [hJ]
    show I' 132 j = (if (132 : Nat) = 132 ∧ (j = 49 ∨ j = 51 ∨ j = 53 ∨ j = 54) then I 132 j else I' 132 j)
    exact (if_neg hj).symm
def jR2 (h h1 : zMem) : Prop := zW h h1 ∧ jE2 (zI h) (zI h1)
theorem jR.two {h h1 : zMem} (q : jR h h1) : jR2 h h1 := ⟨q.1, q.2.two⟩
theorem zOK.j2 {h h1 : zMem} (q : zOK h) (r : jR2 h h1) : zOK h1 := by
  obtain ⟨t, ns, nd, nr, nm, dt, u, nn, tp, h1, h2, h3, h4⟩ := q
  exact ⟨t, ns, nd, nr, nm, dt, u, nn, tp, h1.W r.1, h2.W r.1, r.1.out h3, zInv_j2 h1.2.1 h4 r.2⟩
theorem pair_ro2 {G : zG} {mc mm : zM} {D : Nat} {ac am : List Value} {h : zMem} (hOK : zOK h) (R : Int32) (hc : zConI G mc D ac h (fun v h1 => v = R ∧ cR h h1)) (hm : ∀ h1, cR h h1 → zConI G mm D am h1 (fun v h2 => v = R ∧ jR2 h1 h2)) : pairI G mc mm D ac am h :=
  ⟨R, cR h, jR2, hc, fun h1 k => ⟨(hOK.j k.j).bs, hm h1 k, fun _ j => (hOK.j k.j).j2 j⟩⟩
/-- how many unlike marks -/
def nwF (f : Nat → Int32) (d : Nat) : Nat → Nat → Bool → Bool
  | 0, _, b => b
  | n + 1, e, b => nwF f d n (e + 1) (b && !decide (f e = f d))
def unF (f : Nat → Int32) : Nat → Nat → Nat → Nat
  | 0, _, acc => acc
  | n + 1, d, acc => unF f n (d + 1) (if nwF f d d 0 true = true then acc + 1 else acc)
theorem unF_le {f : Nat → Int32} : ∀ n d acc, unF f n d acc ≤ acc + n
  | 0, _, _ => Nat.le_refl _
  | n + 1, d, acc => by
    unfold unF
    have := unF_le (f := f) n (d + 1) (if nwF f d d 0 true = true then acc + 1 else acc)
    by_cases q : nwF f d d 0 true = true
    · rw [if_pos q] at this ⊢; omega
    · rw [if_neg q] at this ⊢; omega
def b32 (b : Bool) : Int32 := if b = true then 1 else 0
set_option maxHeartbeats 1000000 in
theorem X9_unlikeMarks_ok {G : zG} {d t nd : Nat} {h : zMem} {f : Nat → Int32} (hS : zSh1 h t) (hn : zI h (t + 1) 1 = nI nd) (h8 : nd ≤ 8) (hf : ∀ dy, dy < nd → zI h 102 dy = f dy) : zConI G mX9_unlikeMarks d [.ref 0] h (fun v h' => v = nI (unF f nd 0 0) ∧ h' = h) := by
  refine cn_X9_unlikeMarks (sg_X9_unlikeMarks_0 hS ?_)
  obtain ⟨R, hR⟩ : ∃ R, R = unF f nd 0 0 := ⟨_, rfl⟩
  rw [← hR]
  have inner : ∀ (a acc : Nat), a < nd → (nwF f a a 0 true = true → zg G mX9_unlikeMarks d 4 [.ref 0, .int (nI (acc + 1)), .int (nI (a + 1)), zU, zU] [] h (zPI (fun v h' => v = nI R ∧ h' = h))) → (¬ nwF f a a 0 true = true → zg G mX9_unlikeMarks d 4 [.ref 0, .int (nI acc), .int (nI (a + 1)), zU, zU] [] h (zPI (fun v h' => v = nI R ∧ h' = h))) → ∀ n e b, n + e = a → nwF f a n e b = nwF f a a 0 true → zg G mX9_unlikeMarks d 22 [.ref 0, .int (nI acc), .int (nI a), .int (b32 b), .int (nI e)] [] h (zPI (fun v h' => v = nI R ∧ h' = h)) := by
    intro a acc ha K1 K2 n
    induction n with
    | zero =>
      intro e b he hb
      refine sg_X9_unlikeMarks_22 hS ?_
      rw [nI_1, nI_1]
      refine ⟨fun _ => ⟨fun c => K2 ?_, fun c => K1 ?_⟩, fun c => absurd (nI_le (by omega) (by omega)) c⟩
      · rw [← hb]; intro q; rw [show b = true from q] at c; exact absurd c (by decide)
      · rw [← hb]
        cases b with
        | true => rfl
        | false => exact absurd rfl c
    | succ n ih =>
      intro e b he hb
      rw [nwF] at hb
      refine sg_X9_unlikeMarks_22 hS ?_
      rw [zcla (show a < 2 ^ 31 by omega), zcla (show e < 2 ^ 31 by omega), hf a ha, hf e (by omega)]
      simp only [nI_1]
      refine ⟨fun c => absurd c (nI_ge (by omega) (by omega)), fun _ => ⟨fun c => ?_, fun c => ⟨zin_n (by omega) (by decide), zin_n (by omega) (by decide), fun c2 => ?_, fun c2 => ?_⟩⟩⟩
      · have b0 : b = false := by
          cases b with
          | true => exact absurd c (by decide)
          | false => rfl
        subst b0
        exact ih (e + 1) false (by omega) hb
      · rw [decide_eq_true c2] at hb
        have : (b && !true) = false := by cases b <;> rfl
        rw [this] at hb
        exact ih (e + 1) false (by omega) hb
      · have b1 : b = true := by
          cases b with
          | true => rfl
          | false => exact absurd rfl c
        subst b1
        rw [decide_eq_false c2] at hb
        exact ih (e + 1) true (by omega) hb
  have outer : ∀ n a acc, n + a = nd → unF f n a acc = R → zg G mX9_unlikeMarks d 4 [.ref 0, .int (nI acc), .int (nI a), zU, zU] [] h (zPI (fun v h' => v = nI R ∧ h' = h)) := by
    intro n
    induction n with
    | zero =>
      intro a acc ha he
      refine sg_X9_unlikeMarks_4 hS ?_
      rw [hn, ← he]
      exact ⟨fun _ => ⟨rfl, rfl⟩, fun c => absurd (nI_le (by omega) (by omega)) c⟩
    | succ n ih =>
      intro a acc ha he
      rw [unF] at he
      refine sg_X9_unlikeMarks_4 hS ?_
      rw [hn]
      exact ⟨fun c => absurd c (nI_ge (by omega) (by omega)), fun _ => inner a acc (by omega) (fun q => ih (a + 1) (acc + 1) (by omega) (by rw [if_pos q] at he; exact he)) (fun q => ih (a + 1) acc (by omega) (by rw [if_neg q] at he; exact he)) a 0 true (by omega) rfl⟩
  exact outer nd 0 0 (by omega) hR.symm
theorem bestC_congr {c c' : Nat → Int32} : ∀ n k b m, (∀ j, k ≤ j → j < k + n → c j = c' j) → bestC c n k b m = bestC c' n k b m
  | 0, _, _, _, _ => rfl
  | n + 1, k, b, m, h => by
    unfold bestC
    rw [h k (Nat.le_refl _) (by omega), bestC_congr n (k + 1) b m (fun j a e => h j (by omega) (by omega)), bestC_congr n (k + 1) (nI k) (c' k) (fun j a e => h j (by omega) (by omega))]
set_option maxHeartbeats 4000000 in
theorem pr_placeTo {G : zG} {d : Nat} {h : zMem} (hOK : zOK h) (x y : Int32) : pairI G mX9_placeTo mX10_placeTo (d + 200) [.ref 0, .int x, .int y] [.ref 132, .int x, .int y] h := by
  have hOK' := hOK
  obtain ⟨t, ns, nd, nr, nm, dt, u, nn, tp, S1, S2, -, hI⟩ := hOK'
  obtain ⟨td, md, rl, -⟩ := hI.1
  obtain ⟨t0, t1, t2, t3, h6, h8, h6r, h5, hlw⟩ := td
  obtain ⟨w1, w2, w3, w4, w5, w6, w7, w8⟩ := now0 hI.2.2.1.1
  have htn : t = 8 ∨ t = 103 := S1.2.1
  have P : ∀ h1, cR h h1 → zSh2 (zsI h1 132 0 0) ∧ zInv (zI (zsI h1 132 0 0)) t ns nd nr nm dt u nn tp := fun h1 k => ⟨S2.W k.thr.1, zInv_j S1.2.1 hI k.thr.2⟩
  rcases ix_or x (n := nm) (by omega) with q | ⟨m, hm, rfl⟩
  · refine pair_ro hOK (-1) ?_ (fun h1 k => ?_)
    · refine cn_X9_placeTo (sg_X9_placeTo_0 S1 ⟨_, X9_has_no (k := 3) S1 (by decide) t3 q, ?_⟩)
      rintro v h2 ⟨rfl, rfl⟩
      exact ⟨S1, fun _ => ⟨rfl, cR.rf _⟩, fun c => absurd rfl c⟩
    · obtain ⟨S3, I3⟩ := P h1 k
      refine cn_X10_placeTo (sg_X10_placeTo_0 (S2.W k.1) ⟨_, X10_isMonk_no S3 I3.1.2.1.2.2.2.1 q, ?_⟩)
      rintro v h2 ⟨rfl, rfl⟩
      exact ⟨S3, fun _ => ⟨rfl, jR.thr h1⟩, fun c => absurd rfl c⟩
  by_cases yb : y < 0 ∨ ¬ y ≤ 1
  · refine pair_ro hOK (-1) ?_ (fun h1 k => ?_)
    · refine cn_X9_placeTo (sg_X9_placeTo_0 S1 ⟨_, X9_has_yes (k := 3) S1 (by decide) t3 hm (by omega), ?_⟩)
      rintro v h2 ⟨rfl, rfl⟩
      exact ⟨S1, fun _ => ⟨rfl, cR.rf _⟩, fun _ => ⟨fun _ => ⟨rfl, cR.rf _⟩, fun c => ⟨fun c2 => absurd c2 (yb.resolve_left c), fun _ => ⟨rfl, cR.rf _⟩⟩⟩⟩
    · obtain ⟨S3, I3⟩ := P h1 k
      refine cn_X10_placeTo (sg_X10_placeTo_0 (S2.W k.1) ⟨_, X10_isMonk_yes S3 I3.1.2.1.2.2.2.1 hm (by omega), ?_⟩)
      rintro v h2 ⟨rfl, rfl⟩
      exact ⟨S3, fun _ => ⟨rfl, jR.thr h1⟩, fun _ => ⟨fun _ => ⟨rfl, jR.thr h1⟩, fun c => ⟨fun c2 => absurd c2 (yb.resolve_left c), fun _ => ⟨rfl, jR.thr h1⟩⟩⟩⟩
  have y0 : ¬ y < 0 := fun c => yb (Or.inl c)
  have y1 : y ≤ 1 := Classical.byContradiction fun c => yb (Or.inr c)
  obtain ⟨r0, hr0, -⟩ := (ab0 hI.2.2.1.2.1).1 m hm
  have npos : 0 < nr := by omega
  obtain ⟨g, hg⟩ : ∃ g : Nat → Int32, g = fun r => nI (unF (mkM (zI h) ns 0 m r) nd 0 0) := ⟨_, rfl⟩
  have gle : ∀ r, unF (mkM (zI h) ns 0 m r) nd 0 0 ≤ 8 := fun r => by have := unF_le (f := mkM (zI h) ns 0 m r) nd 0 0; omega
  have c0 : ¬ g 0 ≤ -1 := by rw [hg]; exact nI_nlem1 (by have := gle 0; omega)
  obtain ⟨R, hR⟩ : ∃ R, R = bestV y (bestC g nr 0 0 (-1)) := ⟨_, rfl⟩
  refine pair_ro hOK R ?_ (fun h1 k => ?_)
  · refine cn_X9_placeTo (sg_X9_placeTo_0 S1 ⟨_, X9_has_yes (k := 3) S1 (by decide) t3 hm (by omega), ?_⟩)
    rintro v h2 ⟨rfl, rfl⟩
    refine ⟨S1, fun c => absurd c n10, fun _ => ⟨fun c => absurd c y0, fun _ => ⟨fun _ => ?_, fun c => absurd y1 c⟩⟩⟩
    have outer : ∀ n r b mo h1, n + r = nr → (zW h2 h1 ∧ ∀ a, a ≠ 102 → zI h1 a = zI h2 a) → bestC g n r b mo = bestC g nr 0 0 (-1) → zg G mX9_placeTo (d + 200) 28 [.ref 0, .int (nI m), .int y, .int b, .int mo, .int (nI r), zU] [] h1 (zPI (fun v h1 => v = R ∧ cR h2 h1)) := by
      intro n
      induction n with
      | zero =>
        intro r b mo h1 hk q e
        refine sg_X9_placeTo_28 (S1.W q.1) ?_
        rw [q.2 (t + 1) (by omega), t2, hR, ← e]
        exact ⟨fun _ => ⟨fun c => ⟨(if_neg c).symm, cR_102 q⟩, fun c => ⟨(if_pos c).symm, cR_102 q⟩⟩, fun c => absurd (nI_le (by omega) (by omega)) c⟩
      | succ n ih =>
        intro r b mo h1 hk q e
        have S := S1.W q.1
        have I1 := zInv_j S1.2.1 hI (cR_102 q).2.1
        rw [bestC] at e
        refine sg_X9_placeTo_28 S ?_
        rw [q.2 (t + 1) (by omega), t2, nI_1]
        refine ⟨fun c => absurd c (nI_ge (by omega) (by omega)), fun _ => ⟨_, X9_markDays_ok S I1.1.1.1 h6 I1.1.1.2.1 h8 (show m < 5 by omega) (show r < 6 by omega) I1.1.1.2.2.2.2.2.2.2.2, ?_⟩⟩
        rintro h3 ⟨q1, q2⟩
        have S4 := S.W q1.1
        have q' : zW h2 h3 ∧ ∀ a, a ≠ 102 → zI h3 a = zI h2 a := ⟨q.1.trans q1.1, fun a ha => (q1.2 a ha).trans (q.2 a ha)⟩
        refine ⟨S4, _, X9_unlikeMarks_ok (f := mkM (zI h2) ns 0 m r) S4 (by rw [q1.2 (t + 1) (by omega)]; exact I1.1.1.2.1) h8 (fun dy hd => (q2 dy hd).trans ((mk_eq I1 hm (by omega) hd).trans ?_)), ?_⟩
        · exact mkM_C (q.2 151 (by decide)) (q.2 144 (by decide)) (q.2 141 (by decide)) (q.2 145 (by decide)) (q.2 146 (by decide)) (q.2 147 (by decide)) (q.2 148 (by decide)) (fun k _ => by rw [q.2 132 (by decide)]) (q.2 139 (by decide)) (q.2 160 (by decide)) ns 0 m r dy
        · rintro v h4 ⟨rfl, rfl⟩
          have eg : nI (unF (mkM (zI h2) ns 0 m r) nd 0 0) = g r := by rw [hg]
          rw [eg]
          refine ⟨S4, fun c => ih (r + 1) b mo h4 (by omega) q' ?_, fun c => ih (r + 1) _ _ h4 (by omega) q' ?_⟩
          · rw [if_pos c] at e; exact e
          · rw [if_neg c] at e; exact e
    exact outer nr 0 0 (-1) h2 (by omega) ⟨zW.rf _, fun _ _ => rfl⟩ rfl
  · obtain ⟨S3, I3⟩ := P h1 k
    rw [bestCM0 npos (by omega) c0] at hR
    refine cn_X10_placeTo (sg_X10_placeTo_0 (S2.W k.1) ⟨_, X10_isMonk_yes S3 I3.1.2.1.2.2.2.1 hm (by omega), ?_⟩)
    rintro v h2 ⟨rfl, rfl⟩
    refine ⟨S3, fun c => absurd c n10, fun _ => ⟨fun c => absurd c y0, fun _ => ⟨fun _ => ?_, fun c => absurd y1 c⟩⟩⟩
    obtain ⟨h3, eh3⟩ : ∃ h3, h3 = zsI h1 132 0 0 := ⟨_, rfl⟩
    have eT3 : eT (zI h) (zI h3) := by rw [eh3]; exact k.eT
    have jR3 : jR h1 h3 := by rw [eh3]; exact jR.thr h1
    rw [← eh3] at S3 I3 ⊢
    obtain ⟨Q, hQ⟩ : ∃ Q : Int32 → zMem → Prop, Q = (fun v h2 => v = R ∧ jR h1 h2) := ⟨_, rfl⟩
    rw [← hQ]
    have l99 : ∀ (r : Nat) (b mo kn : Int32) (dy acc : Nat), dy < nd → ∀ h4, zW h3 h4 → mE5 (zI h3) (zI h4) → (∀ e, e ≤ dy → zI h4 165 e = mkM (zI h) ns 0 m r e) → (nwF (mkM (zI h) ns 0 m r) dy dy 0 true = true → zg G mX10_placeTo (d + 200) 59 [.ref 132, .int (nI m), .int y, .int b, .int mo, .int (nI r), .int kn, .int (nI (acc + 1)), .int (nI (dy + 1)), zU, zU] [] h4 (zPI Q)) → (¬ nwF (mkM (zI h) ns 0 m r) dy dy 0 true = true → zg G mX10_placeTo (d + 200) 59 [.ref 132, .int (nI m), .int y, .int b, .int mo, .int (nI r), .int kn, .int (nI acc), .int (nI (dy + 1)), zU, zU] [] h4 (zPI Q)) →
        ∀ n e bb, n + e = dy → nwF (mkM (zI h) ns 0 m r) dy n e bb = nwF (mkM (zI h) ns 0 m r) dy dy 0 true → zg G mX10_placeTo (d + 200) 99 [.ref 132, .int (nI m), .int y, .int b, .int mo, .int (nI r), .int kn, .int (nI acc), .int (nI dy), .int (b32 bb), .int (nI e)] [] h4 (zPI Q) := by
      intro r b mo kn dy acc hdy h4 q1 q2 hf K1 K2 n
      induction n with
      | zero =>
        intro e bb he hb
        refine sg_X10_placeTo_99 (S3.W q1) ?_
        simp only [nI_1, i32_add0]
        refine ⟨fun _ => ⟨fun c => K2 ?_, fun c => K1 ?_⟩, fun c => absurd (nI_le (by omega) (by omega)) c⟩
        · rw [← hb]; intro q; rw [show bb = true from q] at c; exact absurd c (by decide)
        · rw [← hb]
          cases bb with
          | true => rfl
          | false => exact absurd rfl c
      | succ n ih =>
        intro e bb he hb
        rw [nwF] at hb
        refine sg_X10_placeTo_99 (S3.W q1) ?_
        rw [zcla (show dy < 2 ^ 31 by omega), zcla (show e < 2 ^ 31 by omega), hf e (by omega), hf dy (Nat.le_refl _)]
        simp only [nI_1]
        refine ⟨fun c => absurd c (nI_ge (by omega) (by omega)), fun _ => ⟨zin_n (by omega) (by decide), zin_n (by omega) (by decide), fun c2 => ?_, fun c2 => ?_⟩⟩
        · rw [decide_eq_false c2] at hb
          have : (bb && !false) = bb := by cases bb <;> rfl
          rw [this] at hb
          exact ih (e + 1) bb (by omega) hb
        · rw [decide_eq_true c2] at hb
          have : (bb && !true) = false := by cases bb <;> rfl
          rw [this] at hb
          exact ih (e + 1) false (by omega) hb
    have l59 : ∀ (r : Nat), r < nr → ∀ (b mo : Int32), (∀ h4, zW h3 h4 → mE5 (zI h3) (zI h4) → (b = -1 → zg G mX10_placeTo (d + 200) 32 [.ref 132, .int (nI m), .int y, .int (nI r), .int (g r), .int (nI (r + 1)), zU, zU, zU, zU, zU] [] h4 (zPI Q)) ∧ (¬ b = -1 → (mo < g r → zg G mX10_placeTo (d + 200) 32 [.ref 132, .int (nI m), .int y, .int (nI r), .int (g r), .int (nI (r + 1)), zU, zU, zU, zU, zU] [] h4 (zPI Q)) ∧ (¬ mo < g r → zg G mX10_placeTo (d + 200) 32 [.ref 132, .int (nI m), .int y, .int b, .int mo, .int (nI (r + 1)), zU, zU, zU, zU, zU] [] h4 (zPI Q)))) →
        ∀ n dy acc h4, n + dy = nd → zW h3 h4 → mE5 (zI h3) (zI h4) → (∀ e, e < dy → zI h4 165 e = mkM (zI h) ns 0 m r e) → unF (mkM (zI h) ns 0 m r) n dy acc = unF (mkM (zI h) ns 0 m r) nd 0 0 → zg G mX10_placeTo (d + 200) 59 [.ref 132, .int (nI m), .int y, .int b, .int mo, .int (nI r), .int (keF (zI h) 0 m r), .int (nI acc), .int (nI dy), zU, zU] [] h4 (zPI Q) := by
      intro r hr b mo K n
      induction n with
      | zero =>
        intro dy acc h4 hk q1 q2 hf e
        have M4 := q2.md I3.1.2.1
        have eg : nI acc = g r := by rw [hg]; exact congrArg nI e
        refine sg_X10_placeTo_59 (S3.W q1) ?_
        rw [M4.2.1, eg, nI_1]
        exact ⟨fun _ => K h4 q1 q2, fun c => absurd (nI_le (by omega) (by omega)) c⟩
      | succ n ih =>
        intro dy acc h4 hk q1 q2 hf e
        obtain ⟨b1, b2, b3, b4, b5, b6, b7, b8, b9, b10, b11, b12, -⟩ := q2.md I3.1.2.1
        rw [unF] at e
        refine sg_X10_placeTo_59 (S3.W q1) ?_
        obtain ⟨kn, kn1, kn2, ekn⟩ := keF_rg (I := zI h) (m := m) (by
          obtain ⟨-, -, -, -, -, -, -, -, -, -, z11, -⟩ := md
          exact z11 m hm) 0 r
        rw [b2, zcla (show m < 2 ^ 31 by omega), zcla (show dy < 2 ^ 31 by omega), q2.1 160 (by decide) (by decide), eT3.1 160 (by decide), ekn]
        refine ⟨fun c => absurd c (nI_ge (by omega) (by omega)), fun _ => ⟨zin_n (by omega) (by decide), _, X10_markBy_ok (S3.W q1) b10 b1 b5 (show dy < 16 by omega) (show r < 12 by omega) kn1 kn2 (fun s hs => b12 dy s (by omega) hs) _, ?_⟩⟩
        rintro v h6' ⟨rfl, rfl⟩
        have ev : smeltF ns (mxM (zI h6') dy) (ptM (zI h6') r) (nI kn) (zI h 160 m) = mkM (zI h) ns 0 m r dy := by
          have e1 : mxM (zI h6') dy = mxM (zI h) dy := funext fun s => by rw [mxM_K q2.2 (q2.1 139 (by decide) (by decide)), eT3.mx]
          have e2 : ptM (zI h6') r = ptM (zI h) r := by unfold ptM; rw [q2.2 48 (by decide), q2.1 141 (by decide) (by decide), eT3.2 48 (by decide), eT3.1 141 (by decide)]
          have e3 : cdM (zI h) 0 m = zI h 160 m := by unfold cdM; rw [hI.2.1.2, Nat.mul_zero, Nat.zero_add]; rfl
          unfold mkM
          rw [e1, e2, e3, ekn]
        rw [ev, ← ekn]
        have hf' : ∀ e, e ≤ dy → zI (zsI h6' 165 dy (mkM (zI h) ns 0 m r dy)) 165 e = mkM (zI h) ns 0 m r e := fun e he => by
          by_cases q : e = dy
          · subst q; rw [zI_sI, zup_s]
          · rw [zI_sI, zup_i _ _ _ q]; exact hf e (by omega)
        have q2' : mE5 (zI h3) (zI (zsI h6' 165 dy (mkM (zI h) ns 0 m r dy))) := by rw [zI_sI]; exact q2.up _ _
        refine ⟨S3.W q1, zin_n (by omega) (by decide), l99 r b mo _ dy acc (by omega) _ (q1.sI _ _ _) q2' hf' (fun c => ih (dy + 1) (acc + 1) _ (by omega) (q1.sI _ _ _) q2' (fun e he => hf' e (by omega)) ?_) (fun c => ih (dy + 1) acc _ (by omega) (q1.sI _ _ _) q2' (fun e he => hf' e (by omega)) ?_) dy 0 true (by omega) rfl⟩
        · rw [if_pos c] at e; exact e
        · rw [if_neg c] at e; exact e
    have outer : ∀ n r b mo h4, n + r = nr → zW h3 h4 → mE5 (zI h3) (zI h4) → bestM g n r b mo = bestM g nr 0 (-1) 0 → zg G mX10_placeTo (d + 200) 32 [.ref 132, .int (nI m), .int y, .int b, .int mo, .int (nI r), zU, zU, zU, zU, zU] [] h4 (zPI Q) := by
      intro n
      induction n with
      | zero =>
        intro r b mo h4 hk q1 q2 e
        have M4 := q2.md I3.1.2.1
        refine sg_X10_placeTo_32 (S3.W q1) ?_
        rw [M4.2.2.1, hQ, hR, ← e]
        exact ⟨fun _ => ⟨fun c => ⟨(if_neg c).symm, jR3.mE5 q1 q2⟩, fun c => ⟨(if_pos c).symm, jR3.mE5 q1 q2⟩⟩, fun c => absurd (nI_le (by omega) (by omega)) c⟩
      | succ n ih =>
        intro r b mo h4 hk q1 q2 e
        obtain ⟨b1, b2, b3, b4, b5, b6, b7, b8, b9, b10, b11, b12, -⟩ := q2.md I3.1.2.1
        rw [bestM] at e
        refine sg_X10_placeTo_32 (S3.W q1) ?_
        rw [b3]
        refine ⟨fun c => absurd c (nI_ge (by omega) (by omega)), fun _ => ⟨_, X10_keenIn_ok (a := 0) (S3.W q1) b9 (by decide) (show m < 10 by omega) (show r < 12 by omega), ?_⟩⟩
        rintro v h5 ⟨rfl, z1, z2⟩
        have q2' := q2.trans z2.five
        have ek : keF (zI h4) 0 m r = keF (zI h) 0 m r := (keF_C (q2.1 151 (by decide) (by decide)) (q2.1 144 (by decide) (by decide)) (q2.1 141 (by decide) (by decide)) (q2.1 145 (by decide) (by decide)) (q2.1 146 (by decide) (by decide)) (q2.1 147 (by decide) (by decide)) (q2.1 148 (by decide) (by decide)) (q2.2 48 (by decide)) 0 m r).trans (eT3.ke 0 m r)
        rw [ek]
        refine ⟨(S3.W q1).W z1, l59 r (by omega) b mo (fun h6' p1 p2 => ⟨fun c => ih (r + 1) _ _ h6' (by omega) p1 p2 ?_, fun c => ⟨fun c2 => ih (r + 1) _ _ h6' (by omega) p1 p2 ?_, fun c2 => ih (r + 1) _ _ h6' (by omega) p1 p2 ?_⟩⟩) nd 0 0 h5 (by omega) (q1.trans z1) q2' (fun e he => absurd he (by omega)) rfl⟩
        · rw [if_pos c] at e; exact e
        · rw [if_neg c, if_pos c2] at e; exact e
        · rw [if_neg c, if_neg c2] at e; exact e
    exact outer nr 0 (-1) 0 h3 (by omega) (zW.rf h3) (mE5.rf _) rfl
