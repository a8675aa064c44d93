/-! THE INVARIANT of class and model between calls -/
/-- places that no later call looks at -/
def jkP (c j : Nat) : Prop := c = 43 ∨ (82 ≤ c ∧ c < 99) ∨ (100 ≤ c ∧ c ≤ 102) ∨ (c = 132 ∧ (j = 0 ∨ j = 33)) ∨ (151 ≤ c ∧ c ≤ 154 ∧ j = 1) ∨ c = 155 ∨ ((c = 156 ∨ c = 157) ∧ 6 ≤ j ∧ j < 12) ∨ (c = 158 ∧ 36 ≤ j ∧ j < 72) ∨ (159 ≤ c ∧ c ≤ 162 ∧ 5 ≤ j ∧ j < 10) ∨ (163 ≤ c ∧ c ≤ 167) ∨ 173 ≤ c
def jE (I I' : Nat → Nat → Int32) : Prop := ∀ c j, ¬ jkP c j → I' c j = I c j
theorem jE.rf (I : Nat → Nat → Int32) : jE I I := fun _ _ _ => rfl
theorem jE.trans {I I1 I2 : Nat → Nat → Int32} (p : jE I I1) (q : jE I1 I2) : jE I I2 := fun c j h => (q c j h).trans (p c j h)
theorem jE.row {I I' : Nat → Nat → Int32} (h : jE I I') {c : Nat} (hc : c < 43 ∨ (44 ≤ c ∧ c < 82) ∨ c = 99 ∨ (103 ≤ c ∧ c < 132) ∨ (133 ≤ c ∧ c ≤ 150) ∨ (168 ≤ c ∧ c ≤ 172)) : I' c = I c := funext fun j => h c j (by unfold jkP; omega)
theorem jE.td {I I' : Nat → Nat → Int32} (h : jE I I') {t : Nat} (ht : isTd t) {k : Nat} (hk : k < 29) : I' (t + k) = I (t + k) := h.row (by rcases ht with rfl | rfl <;> omega)
theorem jE.up {I I' : Nat → Nat → Int32} (h : jE I I') {c j : Nat} {v : Int32} (hc : jkP c j) : jE I (zup I' c j v) := fun c' j' hn => by
  by_cases e : c' = c
  · by_cases e2 : j' = j
    · subst e e2; exact absurd hc hn
    · rw [zup_i _ _ _ e2]; exact h c' j' hn
  · rw [zup_ne _ _ e]; exact h c' j' hn
theorem mE.j {I I' : Nat → Nat → Int32} (h : mE I I') : jE I I' := fun c j hn => by
  by_cases e : c = 132
  · subst e; exact h.2 j (fun q => hn (by unfold jkP; omega))
  · rw [h.1 c e]
def undJ (I : Nat → Nat → Int32) (e : Nat) (J : Nat → Nat → Int32) : Nat → Nat → Int32 :=
  zup J (if I 45 e = 0 then 60 else if I 45 e = 1 then 50 else if I 45 e = 2 then 49 else 59) (I 46 e).toNatClampNeg (I 47 e)
def unds (I : Nat → Nat → Int32) (u : Nat) : Nat → (Nat → Nat → Int32)
  | 0 => I
  | j + 1 => undJ I (u - 1 - j) (unds I u j)
/-- what was undone is the model's abbey that was kept -/
def undR (I : Nat → Nat → Int32) (u ns nd nr nm dt : Nat) : Prop := ∀ j, j < u → relS (unds I u (j + 1)) 48 (3 + (u - 1 - j)) ns nr nm ∧ abOK I (3 + (u - 1 - j)) ns nd nr nm dt ∧ (∀ s, s < ns → ∃ w, w ≤ 99 ∧ I 157 (6 * (3 + (u - 1 - j)) + s) = nI w) ∧ ((I 45 j = 0 ∨ I 45 j = 3) ∧ (∃ m, m < 5 ∧ I 46 j = nI m) ∨ (I 45 j = 1 ∨ I 45 j = 2) ∧ (∃ s, s < 6 ∧ I 46 j = nI s))
def ntR (I : Nat → Nat → Int32) (nn nd nm : Nat) : Prop := ∀ k, k < nn → I 42 k = I 172 k ∧ ((∃ j, j < k ∧ I 42 k = nI j) ∨ (I 42 k = -1 ∧ I 38 k = I 168 k ∧ I 39 k = I 169 k ∧ I 40 k = I 170 k ∧ I 41 k = I 171 k ∧ (∃ q, 1 ≤ q ∧ q ≤ 40 ∧ I 38 k = nI q) ∧ (∃ m, m < nm ∧ I 39 k = nI m) ∧ (∃ d, d < nd ∧ I 40 k = nI d) ∧ (I 41 k = 0 ∨ I 41 k = 1)))
/-- told on both sides -/
def tdR (I : Nat → Nat → Int32) (t ns nd nr nm : Nat) : Prop := tdOK I t ns nd nr nm ∧ mdOK I ns nd nr nm ∧ rlT I t ns nd nr nm ∧ (∀ dy s, dy < nd → s < ns → ∃ n, n ≤ 99 ∧ I 139 (6 * dy + s) = nI n) ∧ (∀ k, k < ns → I (t + 3) k = I 135 k) ∧ (∀ k, k < nd → I (t + 4) k = I 137 k) ∧ (∀ k, k < nr → I (t + 5) k = I 140 k) ∧ (∀ k, k < nm → I (t + 6) k = I 142 k) ∧ I t 9 = I 134 2 ∧ I (t + 21) 8 = I 134 7 ∧ (∀ s, s < ns → ∃ n, n ≤ 999 ∧ I 136 s = nI n) ∧ (∀ m, m < nm → ∃ r, r < nr ∧ I 143 m = nI r) ∧ (∀ d, d < nd → I 138 d = 0 ∨ I 138 d = 1)
def nowR (I : Nat → Nat → Int32) (b a ns nd nr nm dt : Nat) : Prop := relS I b a ns nr nm ∧ abOK I a ns nd nr nm dt ∧ (∀ s, s < ns → ∃ w, w ≤ 99 ∧ I 157 (6 * a + s) = nI w) ∧ dt ≤ 9999
def tpR (I : Nat → Nat → Int32) (tp : Nat) : Prop := I 0 12 = nI tp ∧ I 132 2 = nI tp ∧ tp ≤ 700 ∧ (∀ k, k < tp → I 133 k = I 1 k &&& 255) ∧ ∀ k, I 1 k = (I 1 k).toInt8.toInt32
def wdL : List (List Nat) := [[115,116,117,102,102],[100,97,121],[109,105,120],[114,111,111,109],[109,111,110,107],[108,105,110,103,101,114],[115,101,101,100],[108,97,119],[102,101,97,115,116],[97,105,114],[107,101,101,110],[119,111,114,116,104],[111,114],[97,110,100],[110,111,116],[109,117,99,104],[112,97,114,116],[108,101,102,116],[119,105,110,100],[100,97,116,101],[112,108,97,99,101],[110,111,115,101]]
/-- six letters as one number -/
def wdP (w : List Nat) : Nat := (List.range 6).foldl (fun a k => 32 * a + (match w[k]? with | some c => c - 96 | none => 0)) 0
def wdN : List Nat := [659200192, 136085504, 446431232, 620213248, 452406272, 412556466, 642945024, 404455424, 206622336, 43581440, 374519808, 788091136, 522190848, 48365568, 486146048, 458334208, 538529792, 408113152, 781651968, 135926784, 549489824, 486118400]
theorem wdN_ok : wdN = wdL.map wdP := by decide +kernel
def wdT (w : Nat) : Int32 := nI (wdN.getD w 0)
def zInv (I : Nat → Nat → Int32) (t ns nd nr nm dt u nn tp : Nat) : Prop :=
  tdR I t ns nd nr nm ∧ (pln I ∧ I 132 48 = 0) ∧ nowR I 48 0 ns nd nr nm dt ∧ (I 0 13 = I 132 46 ∧ (I 0 13 ≠ 0 → ∃ dt', nowR I 65 2 ns nd nr nm dt')) ∧
  (I 44 3 = nI u ∧ I 132 47 = nI u ∧ u ≤ 20 ∧ undR I u ns nd nr nm dt) ∧ (I 37 6 = nI nn ∧ I 132 60 = nI nn ∧ nn ≤ 24 ∧ I 37 7 = I 132 61 ∧ (I 37 7 = -1 ∨ ∃ k, k ≤ nn ∧ I 37 7 = nI k) ∧ ntR I nn nd nm) ∧ tpR I tp ∧ ((I 2 7 = I 132 27 ∧ I 2 8 = I 132 28) ∧ ∀ k, k < 22 → I 4 k = wdT k)
theorem lwR_row {I I' : Nat → Nat → Int32} {l : Nat} (h : ∀ k, k < 6 → I' (l + k) = I (l + k)) (e1 : I' 145 = I 145) (e2 : I' 146 = I 146) (e3 : I' 147 = I 147) (e4 : I' 148 = I 148) (q : lwR I l) : lwR I' l := by
  unfold lwR at *
  rw [h 5 (by decide), h 3 (by decide), h 4 (by decide), h 1 (by decide), h 2 (by decide), e1, e2, e3, e4]
  exact q
theorem mdOK_E2 {I I' : Nat → Nat → Int32} {ns nd nr nm : Nat} (h : mdOK I ns nd nr nm) (h1 : ∀ c, c = 134 ∨ c = 139 ∨ c = 141 ∨ c = 144 ∨ c = 145 ∨ c = 146 ∨ c = 147 ∨ c = 148 → I' c = I c) (h2 : ∀ k, 50 ≤ k → k ≤ 54 → I' 132 k = I 132 k) : mdOK I' ns nd nr nm := by
  obtain ⟨a1, a2, a3, a4, a5, a6, a7, a8, a9, a10, a11, a12, a13, a14⟩ := h
  have em : ∀ d s, mxM I' d s = mxM I d s := fun d s => by
    unfold mxM mxC mxB
    rw [h2 50 (by decide) (by decide), h2 51 (by decide) (by decide), h2 52 (by decide) (by decide), h2 53 (by decide) (by decide), h2 54 (by decide) (by decide), h1 139 (by decide)]
  refine ⟨?_, ?_, ?_, ?_, a5, a6, a7, a8, mlOK_E a9 (h1 145 (by decide)) (h1 146 (by decide)) (h1 147 (by decide)) (h1 148 (by decide)), ?_, ?_, fun dy s x y => ?_, ?_, ?_⟩
  · rw [h1 134 (by decide)]; exact a1
  · rw [h1 134 (by decide)]; exact a2
  · rw [h1 134 (by decide)]; exact a3
  · rw [h1 134 (by decide)]; exact a4
  · unfold plOK; rw [h2 50 (by decide) (by decide)]; exact a10
  · rw [h1 144 (by decide)]; exact a11
  · rw [em]; exact a12 dy s x y
  · rw [h1 134 (by decide)]; exact a13
  · rw [h1 141 (by decide)]; exact a14
theorem tdR_E {I I' : Nat → Nat → Int32} {t ns nd nr nm : Nat} (ht : ∀ k, k < 29 → I' (t + k) = I (t + k)) (hr : ∀ c, 133 < c → c ≤ 148 → I' c = I c) (h2 : ∀ k, 50 ≤ k → k ≤ 54 → I' 132 k = I 132 k) (q : tdR I t ns nd nr nm) : tdR I' t ns nd nr nm := by
  obtain ⟨q1, q2, q3, q4, q5, q6, q7, q8, q9, q10, q11, q12, q13⟩ := q
  obtain ⟨r1, r2, r3, r4, r5, r6, r7⟩ := q3
  have t0 : I' t = I t := ht 0 (by decide)
  have lw : ∀ k, k < 6 → I' (t + 21 + k) = I (t + 21 + k) := fun k hk => by rw [Nat.add_assoc]; exact ht _ (by omega)
  refine ⟨?_, mdOK_E2 q2 (fun c hc => hr c (by omega) (by omega)) h2, ⟨?_, ?_, ?_, fun d s hd hs => ?_, ?_, ?_, lwR_row lw (hr 145 (by decide) (by decide)) (hr 146 (by decide) (by decide)) (hr 147 (by decide) (by decide)) (hr 148 (by decide) (by decide)) r7⟩, ?_, ?_, ?_, ?_, ?_, ?_, ?_, ?_, ?_, ?_⟩
  · obtain ⟨a1, a2, a3, a4, a5, a6, a7, a8, a9⟩ := q1
    unfold tdOK
    rw [ht 1 (by decide)]
    exact ⟨a1, a2, a3, a4, a5, a6, a7, a8, lwOK_congr lw a9⟩
  · rw [t0, hr 134 (by decide) (by decide)]; exact r1
  · rw [ht 7 (by decide), hr 136 (by decide) (by decide)]; exact r2
  · rw [ht 8 (by decide), hr 138 (by decide) (by decide)]; exact r3
  · have h8 := q1.2.2.2.2.2.1
    rw [show t + 9 + 1 + d = t + (10 + d) by omega, ht (10 + d) (by omega), hr 139 (by decide) (by decide), show t + (10 + d) = t + 9 + 1 + d by omega]; exact r4 d s hd hs
  · rw [ht 18 (by decide), hr 141 (by decide) (by decide)]; exact r5
  · rw [ht 19 (by decide), ht 20 (by decide), hr 143 (by decide) (by decide), hr 144 (by decide) (by decide)]; exact r6
  · rw [hr 139 (by decide) (by decide)]; exact q4
  · rw [ht 3 (by decide), hr 135 (by decide) (by decide)]; exact q5
  · rw [ht 4 (by decide), hr 137 (by decide) (by decide)]; exact q6
  · rw [ht 5 (by decide), hr 140 (by decide) (by decide)]; exact q7
  · rw [ht 6 (by decide), hr 142 (by decide) (by decide)]; exact q8
  · rw [t0, hr 134 (by decide) (by decide)]; exact q9
  · rw [ht 21 (by decide), hr 134 (by decide) (by decide)]; exact q10
  · rw [hr 136 (by decide) (by decide)]; exact q11
  · rw [hr 143 (by decide) (by decide)]; exact q12
  · rw [hr 138 (by decide) (by decide)]; exact q13
/-- an abbey of the model looks the same -/
def abE (I I' : Nat → Nat → Int32) (a : Nat) : Prop := (∀ c, 151 ≤ c → c ≤ 154 → I' c a = I c a) ∧ (∀ c s, c = 156 ∨ c = 157 → s < 6 → I' c (6 * a + s) = I c (6 * a + s)) ∧ (∀ p s, p < 6 → s < 6 → I' 158 (36 * a + 6 * p + s) = I 158 (36 * a + 6 * p + s)) ∧ (∀ c m, 159 ≤ c → c ≤ 162 → m < 5 → I' c (5 * a + m) = I c (5 * a + m))
theorem abOK_E {I I' : Nat → Nat → Int32} {a ns nd nr nm dt : Nat} (h6 : ns ≤ 6) (h6r : nr ≤ 6) (h5 : nm ≤ 5) (e : abE I I' a) (q : abOK I a ns nd nr nm dt) : abOK I' a ns nd nr nm dt := by
  obtain ⟨e1, e2, e3, e4⟩ := e
  obtain ⟨a1, a2, a3, a4, a5, a6⟩ := q
  refine ⟨fun m hm => ?_, fun m hm h0 => ?_, ?_, fun s hs => ?_, fun p s hp hs => ?_, fun s hs => ?_⟩
  · rw [e4 159 m (by decide) (by decide) (by omega)]; exact a1 m hm
  · rw [e4 162 m (by decide) (by decide) (by omega)]; exact a2 m hm h0
  · rw [e1 151 (by decide) (by decide)]; exact a3
  · rw [e2 157 s (by decide) (by omega)]; exact a4 s hs
  · rw [e3 p s (by omega) (by omega)]; exact a5 p s hp hs
  · rw [e2 156 s (by decide) (by omega)]; exact a6 s hs
theorem relS_E {I I' : Nat → Nat → Int32} {b a ns nr nm : Nat} (h6 : ns ≤ 6) (h6r : nr ≤ 6) (h5 : nm ≤ 5) (hb : ∀ k, k < 17 → I' (b + k) = I (b + k)) (hp : I' 141 = I 141) (e : abE I I' a) (q : relS I b a ns nr nm) : relS I' b a ns nr nm := by
  obtain ⟨e1, e2, e3, e4⟩ := e
  obtain ⟨s1, s2, s3, s4, s5, s6, s7, s8, s9⟩ := q
  have b0 : I' b = I b := hb 0 (by decide)
  refine ⟨?_, ?_, ?_, ?_, ?_, fun s hs => ?_, ?_, fun p s hp hs => ?_, fun m hm => ?_⟩
  · rw [b0, e1 151 (by decide) (by decide)]; exact s1
  · rw [b0, e1 152 (by decide) (by decide)]; exact s2
  · rw [b0, e1 153 (by decide) (by decide)]; exact s3
  · rw [b0, e1 154 (by decide) (by decide)]; exact s4
  · rw [b0]; exact s5
  · rw [hb 1 (by decide), hb 2 (by decide), e2 156 s (by decide) (by omega), e2 157 s (by decide) (by omega)]; exact s6 s hs
  · rw [hb 3 (by decide), hp]; exact s7
  · rw [show b + 4 + 1 + p = b + (5 + p) by omega, hb (5 + p) (by omega), e3 p s (by omega) (by omega), show b + (5 + p) = b + 4 + 1 + p by omega]; exact s8 p s hp hs
  · rw [hb 11 (by decide), hb 12 (by decide), hb 13 (by decide), hb 14 (by decide), e4 159 m (by decide) (by decide) (by omega), e4 160 m (by decide) (by decide) (by omega), e4 161 m (by decide) (by decide) (by omega), e4 162 m (by decide) (by decide) (by omega)]; exact s9 m hm
theorem nowR_E {I I' : Nat → Nat → Int32} {b a ns nd nr nm dt : Nat} (h6 : ns ≤ 6) (h6r : nr ≤ 6) (h5 : nm ≤ 5) (hb : ∀ k, k < 17 → I' (b + k) = I (b + k)) (hp : I' 141 = I 141) (e : abE I I' a) (q : nowR I b a ns nd nr nm dt) : nowR I' b a ns nd nr nm dt :=
  ⟨relS_E h6 h6r h5 hb hp e q.1, abOK_E h6 h6r h5 e q.2.1, fun s hs => by rw [e.2.1 157 s (by decide) (by omega)]; exact q.2.2.1 s hs, q.2.2.2⟩
theorem jE.ab {I I' : Nat → Nat → Int32} (h : jE I I') {a : Nat} (ha : a ≠ 1) : abE I I' a :=
  ⟨fun c x y => h c a (by unfold jkP; omega), fun c s x y => h c _ (by unfold jkP; omega), fun p s x y => h 158 _ (by unfold jkP; omega), fun c m x y z => h c _ (by unfold jkP; omega)⟩
theorem unds_E {I I' : Nat → Nat → Int32} (e45 : I' 45 = I 45) (e46 : I' 46 = I 46) (e47 : I' 47 = I 47) {u : Nat} : ∀ j, ∀ c, I' c = I c ∨ (c = 49 ∨ c = 50 ∨ c = 59 ∨ c = 60) ∧ I' c = I c → unds I' u j c = unds I u j c
  | 0, c, h => h.elim id (fun q => q.2)
  | j + 1, c, h => by
    have ih := unds_E e45 e46 e47 (u := u) j c h
    unfold unds undJ
    rw [e45, e46, e47]
    funext i
    unfold zup
    rw [ih]
theorem undR_E {I I' : Nat → Nat → Int32} {u ns nd nr nm dt : Nat} (h6 : ns ≤ 6) (h6r : nr ≤ 6) (h5 : nm ≤ 5) (hr : ∀ c, 45 ≤ c → c < 65 → I' c = I c) (hp : I' 141 = I 141) (e : ∀ k, k < u → abE I I' (3 + k)) (q : undR I u ns nd nr nm dt) : undR I' u ns nd nr nm dt := by
  intro j hj
  obtain ⟨q1, q2, q3, q4⟩ := q j hj
  have ea := e (u - 1 - j) (by omega)
  have U : ∀ c, I' c = I c → unds I' u (j + 1) c = unds I u (j + 1) c := fun c hc => unds_E (hr 45 (by decide) (by decide)) (hr 46 (by decide) (by decide)) (hr 47 (by decide) (by decide)) _ c (Or.inl hc)
  have H : ∀ c, 132 ≤ c → unds I u (j + 1) c = I c ∧ unds I' u (j + 1) c = I' c := fun c hc => by
    have : ∀ (K : Nat → Nat → Int32) (n : Nat), unds K u n c = K c := by
      intro K n
      induction n with
      | zero => rfl
      | succ n ih =>
        unfold unds undJ
        rw [zup_ne _ _ (by split <;> (try split) <;> (try split) <;> omega)]
        exact ih
    exact ⟨this I _, this I' _⟩
  refine ⟨relS_E h6 h6r h5 (fun k hk => U _ (hr _ (by omega) (by omega))) (by rw [(H 141 (by decide)).1, (H 141 (by decide)).2]; exact hp) ?_ q1, abOK_E h6 h6r h5 ea q2, fun s hs => by rw [ea.2.1 157 s (by decide) (by omega)]; exact q3 s hs, by rw [hr 45 (by decide) (by decide), hr 46 (by decide) (by decide)]; exact q4⟩
  obtain ⟨e1, e2, e3, e4⟩ := ea
  refine ⟨fun c x y => ?_, fun c s x y => ?_, fun p s x y => ?_, fun c m x y z => ?_⟩
  · rw [(H c (by omega)).1, (H c (by omega)).2]; exact e1 c x y
  · rw [(H c (by omega)).1, (H c (by omega)).2]; exact e2 c s x y
  · rw [(H 158 (by omega)).1, (H 158 (by omega)).2]; exact e3 p s x y
  · rw [(H c (by omega)).1, (H c (by omega)).2]; exact e4 c m x y z
theorem ntR_E {I I' : Nat → Nat → Int32} {nn nd nm : Nat} (hr : ∀ c, (38 ≤ c ∧ c ≤ 42) ∨ (168 ≤ c ∧ c ≤ 172) → I' c = I c) (q : ntR I nn nd nm) : ntR I' nn nd nm := by
  unfold ntR at *
  rw [hr 38 (by decide), hr 39 (by decide), hr 40 (by decide), hr 41 (by decide), hr 42 (by decide), hr 168 (by decide), hr 169 (by decide), hr 170 (by decide), hr 171 (by decide), hr 172 (by decide)]
  exact q
theorem tpR_E {I I' : Nat → Nat → Int32} {tp : Nat} (h0 : I' 0 12 = I 0 12) (h1 : I' 1 = I 1) (h2 : I' 132 2 = I 132 2) (h3 : I' 133 = I 133) (q : tpR I tp) : tpR I' tp := by
  unfold tpR at *
  rw [h0, h1, h2, h3]; exact q
theorem zInv_j {I I' : Nat → Nat → Int32} {t ns nd nr nm dt u nn tp : Nat} (ht : isTd t) (h : zInv I t ns nd nr nm dt u nn tp) (e : jE I I') : zInv I' t ns nd nr nm dt u nn tp := by
  obtain ⟨i1, i2, i3, i4, i5, i6, i7, i8⟩ := h
  have k132 : ∀ k, k ≠ 0 → k ≠ 33 → I' 132 k = I 132 k := fun k a b => e 132 k (by unfold jkP; omega)
  have h6 : ns ≤ 6 := i1.1.2.2.2.2.1
  have h6r : nr ≤ 6 := i1.1.2.2.2.2.2.2.1
  have h5 : nm ≤ 5 := i1.1.2.2.2.2.2.2.2.1
  have r : ∀ c, c < 43 ∨ (44 ≤ c ∧ c < 82) ∨ c = 99 ∨ (103 ≤ c ∧ c < 132) ∨ (133 ≤ c ∧ c ≤ 150) ∨ (168 ≤ c ∧ c ≤ 172) → I' c = I c := fun c hc => e.row hc
  refine ⟨tdR_E (fun k hk => e.td ht hk) (fun c x y => r c (by omega)) (fun k x y => k132 k (by omega) (by omega)) i1, ?_, ?_, ?_, ?_, ?_, ?_, ?_⟩
  · unfold pln; rw [k132 50 (by decide) (by decide), k132 52 (by decide) (by decide), k132 48 (by decide) (by decide)]; exact i2
  · exact nowR_E h6 h6r h5 (fun k hk => r _ (by omega)) (r 141 (by omega)) (e.ab (by decide)) i3
  · rw [r 0 (by omega), k132 46 (by decide) (by decide)]
    refine ⟨i4.1, fun q => ?_⟩
    obtain ⟨dt', q'⟩ := i4.2 q
    exact ⟨dt', nowR_E h6 h6r h5 (fun k hk => r _ (by omega)) (r 141 (by omega)) (e.ab (by decide)) q'⟩
  · rw [r 44 (by omega), k132 47 (by decide) (by decide)]
    exact ⟨i5.1, i5.2.1, i5.2.2.1, undR_E h6 h6r h5 (fun c x y => r c (by omega)) (r 141 (by omega)) (fun k _ => e.ab (by omega)) i5.2.2.2⟩
  · rw [r 37 (by omega), k132 60 (by decide) (by decide), k132 61 (by decide) (by decide)]
    exact ⟨i6.1, i6.2.1, i6.2.2.1, i6.2.2.2.1, i6.2.2.2.2.1, ntR_E (fun c hc => r c (by omega)) i6.2.2.2.2.2⟩
  · exact tpR_E (by rw [r 0 (by omega)]) (r 1 (by omega)) (k132 2 (by decide) (by decide)) (r 133 (by omega)) i7
  · rw [r 2 (by omega), r 4 (by omega), k132 27 (by decide) (by decide), k132 28 (by decide) (by decide)]; exact i8
