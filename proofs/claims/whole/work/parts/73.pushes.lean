/-! cold, wind, buy, goes -/
theorem abOK_Q {I I' : Nat → Nat → Int32} {a a' ns nd nr nm dt : Nat} (h6 : ns ≤ 6) (h6r : nr ≤ 6) (h5 : nm ≤ 5) (e : abQ I I' a' a) (q : abOK I a ns nd nr nm dt) : abOK I' a' ns nd nr nm dt := by
  obtain ⟨e1, e2, e3, e4⟩ := e
  obtain ⟨a1, a2, a3, a4, a5, a6⟩ := q
  refine ⟨fun m hm => ?_, fun m hm h0 => ?_, ?_, fun s hs => ?_, fun p s hp hs => ?_, fun s hs => ?_⟩
  · rw [e4 159 m (by decide) (by decide) (by omega)]; exact a1 m hm
  · rw [e4 162 m (by decide) (by decide) (by omega)]; exact a2 m hm h0
  · rw [e1 151 (by decide) (by decide)]; exact a3
  · rw [e2 157 s (by decide) (by omega)]; exact a4 s hs
  · rw [e3 p s (by omega) (by omega)]; exact a5 p s hp hs
  · rw [e2 156 s (by decide) (by omega)]; exact a6 s hs
theorem relS_Q {I I' : Nat → Nat → Int32} {b a a' ns nr nm : Nat} (h6 : ns ≤ 6) (h6r : nr ≤ 6) (h5 : nm ≤ 5) (hb : ∀ k, k < 17 → I' (b + k) = I (b + k)) (hp : I' 141 = I 141) (e : abQ I I' a' a) (q : relS I b a ns nr nm) : relS I' b a' ns nr nm := by
  obtain ⟨e1, e2, e3, e4⟩ := e
  obtain ⟨s1, s2, s3, s4, s5, s6, s7, s8, s9⟩ := q
  have b0 : I' b = I b := hb 0 (by decide)
  refine ⟨?_, ?_, ?_, ?_, ?_, fun s hs => ?_, ?_, fun p s hp hs => ?_, fun m hm => ?_⟩
  · rw [b0, e1 151 (by decide) (by decide)]; exact s1
  · rw [b0, e1 152 (by decide) (by decide)]; exact s2
  · rw [b0, e1 153 (by decide) (by decide)]; exact s3
  · rw [b0, e1 154 (by decide) (by decide)]; exact s4
  · rw [b0]; exact s5
  · rw [hb 1 (by decide), hb 2 (by decide), e2 156 s (by decide) (by omega), e2 157 s (by decide) (by omega)]; exact s6 s hs
  · rw [hb 3 (by decide), hp]; exact s7
  · rw [show b + 4 + 1 + p = b + (5 + p) by omega, hb (5 + p) (by omega), e3 p s (by omega) (by omega), show b + (5 + p) = b + 4 + 1 + p by omega]; exact s8 p s hp hs
  · rw [hb 11 (by decide), hb 12 (by decide), hb 13 (by decide), hb 14 (by decide), e4 159 m (by decide) (by decide) (by omega), e4 160 m (by decide) (by decide) (by omega), e4 161 m (by decide) (by decide) (by omega), e4 162 m (by decide) (by decide) (by omega)]; exact s9 m hm
theorem unds_hi (K : Nat → Nat → Int32) (u : Nat) {c : Nat} (hc : 132 ≤ c) : ∀ n, unds K u n c = K c
  | 0 => rfl
  | n + 1 => by
    unfold unds undJ
    rw [zup_ne _ _ (by split <;> (try split) <;> (try split) <;> omega)]
    exact unds_hi K u hc n
def celK (k : Int32) : Nat := if k = 0 then 60 else if k = 1 then 50 else if k = 2 then 49 else 59
theorem unds_push {I I2 : Nat → Nat → Int32} {u u' o cell one : Nat} {kind : Int32} (uu : uuP u u' o) (hk : celK kind = cell) (h1 : one < 2 ^ 31) (ent : ∀ e, e + 1 < u' → I2 45 e = I 45 (e + o) ∧ I2 46 e = I 46 (e + o) ∧ I2 47 e = I 47 (e + o)) (e1 : I2 45 (u' - 1) = kind) (e2 : I2 46 (u' - 1) = nI one) (e3 : I2 47 (u' - 1) = I cell one) (r1 : ∀ c, 48 ≤ c → c < 65 → c ≠ cell → I2 c = I c) (r2 : ∀ j, j ≠ one → I2 cell j = I cell j) : ∀ j, j < u' → ∀ c, 48 ≤ c → c < 65 → unds I2 u' (j + 1) c = unds I u j c := by
  intro j
  induction j with
  | zero =>
    intro hj c c1 c2
    have e : unds I2 u' 1 = zup I2 cell one (I cell one) := by
      show zup I2 (celK (I2 45 (u' - 1 - 0))) (I2 46 (u' - 1 - 0)).toNatClampNeg (I2 47 (u' - 1 - 0)) = _
      rw [Nat.sub_zero, e1, e2, e3, hk, zcla h1]
    show unds I2 u' 1 c = I c
    rw [e]
    funext i
    by_cases ec : c = cell
    · subst ec
      by_cases ei : i = one
      · subst ei; rw [zup_s]
      · rw [zup_i _ _ _ ei]; exact r2 i ei
    · rw [zup_ne _ _ ec]; rw [r1 c c1 c2 ec]
  | succ j ih =>
    intro hj c c1 c2
    have ih' := ih (by omega) c c1 c2
    have eo : u' - 1 - (j + 1) + o = u - 1 - j := by unfold uuP at uu; omega
    obtain ⟨x1, x2, x3⟩ := ent (u' - 1 - (j + 1)) (by omega)
    rw [eo] at x1 x2 x3
    show zup (unds I2 u' (j + 1)) (celK (I2 45 (u' - 1 - (j + 1)))) (I2 46 (u' - 1 - (j + 1))).toNatClampNeg (I2 47 (u' - 1 - (j + 1))) c = zup (unds I u j) (celK (I 45 (u - 1 - j))) (I 46 (u - 1 - j)).toNatClampNeg (I 47 (u - 1 - j)) c
    rw [x1, x2, x3]
    funext i
    unfold zup
    rw [ih']
theorem uu_ix {u u' o i : Nat} (uu : uuP u u' o) (h : i + 1 < u') : 3 + (u' - 1 - (i + 1)) + o = 3 + (u - 1 - i) := by
  unfold uuP at uu
  omega
def kcP (kind : Int32) (cell mcell one : Nat) (v : Int32) (nr : Nat) : Prop := (kind = 0 ∧ cell = 60 ∧ mcell = 160 ∧ one < 5) ∨ (kind = 1 ∧ cell = 50 ∧ mcell = 157 ∧ one < 6 ∧ ∃ w, w ≤ 99 ∧ v = nI w) ∨ (kind = 2 ∧ cell = 49 ∧ mcell = 156 ∧ one < 6 ∧ ∃ n, n ≤ 9999 ∧ v = nI n) ∨ (kind = 3 ∧ cell = 59 ∧ mcell = 159 ∧ one < 5 ∧ ∃ r, r < nr ∧ v = nI r)
theorem kcP.c {kind : Int32} {cell mcell one : Nat} {v : Int32} {nr : Nat} (h : kcP kind cell mcell one v nr) : celK kind = cell ∧ one < 6 ∧ (cell = 60 ∧ mcell = 160 ∨ cell = 50 ∧ mcell = 157 ∨ cell = 49 ∧ mcell = 156 ∨ cell = 59 ∧ mcell = 159) := by
  rcases h with ⟨rfl, rfl, rfl, h⟩ | ⟨rfl, rfl, rfl, h, -⟩ | ⟨rfl, rfl, rfl, h, -⟩ | ⟨rfl, rfl, rfl, h, -⟩
  · exact ⟨rfl, by omega, by omega⟩
  · exact ⟨rfl, by omega, by omega⟩
  · exact ⟨rfl, by omega, by omega⟩
  · exact ⟨rfl, by omega, by omega⟩
set_option maxHeartbeats 2000000 in
theorem now_push {I I2 : Nat → Nat → Int32} {ns nd nr nm dt cell mcell one : Nat} {kind v : Int32} (h6 : ns ≤ 6) (h6r : nr ≤ 6) (h5 : nm ≤ 5) (kc : kcP kind cell mcell one v nr) (hn : nowR I 48 0 ns nd nr nm dt) (R : ∀ c, 48 ≤ c → c < 65 → c ≠ cell → I2 c = I c) (C : ∀ j, j ≠ one → I2 cell j = I cell j) (Cv : I2 cell one = v) (h141 : I2 141 = I 141)
    (A1 : ∀ c, 151 ≤ c → c ≤ 154 → I2 c 0 = I c 0) (A2 : ∀ c s, c = 156 ∨ c = 157 → s < 6 → ¬ (c = mcell ∧ s = one) → I2 c s = I c s) (A3 : ∀ p s, p < 6 → s < 6 → I2 158 (6 * p + s) = I 158 (6 * p + s)) (A4 : ∀ c m, 159 ≤ c → c ≤ 162 → m < 5 → ¬ (c = mcell ∧ m = one) → I2 c m = I c m) (Mv : I2 mcell one = v) : nowR I2 48 0 ns nd nr nm dt := by
  obtain ⟨w1, w2, w3, w4, w5, w6, w7, w8⟩ := now0 hn.1
  have ws5 := hn.1.2.2.2.2.1
  obtain ⟨a1, a2, a3, a4, a5, a6⟩ := hn.2.1
  have wi := hn.2.2.1
  simp only [Nat.mul_zero, Nat.zero_add] at a1 a2 a4 a5 a6 wi
  have rel : ∀ (k k' : Nat), (k = 49 ∧ k' = 156 ∨ k = 50 ∧ k' = 157) → (∀ s, s < ns → I k s = I k' s) → ∀ s, s < ns → I2 k s = I2 k' s := by
    intro k k' hk hh s hs
    have kc' := kc.c.2.2
    by_cases q : k = cell ∧ s = one
    · have q' : k' = mcell := by omega
      rw [q.1, q.2, q', Cv, Mv]
    · rw [A2 k' s (by omega) (by omega) (fun z => q ⟨by omega, z.2⟩)]
      by_cases e : k = cell
      · have e2 : s ≠ one := fun z => q ⟨e, z⟩
        rw [e, C s e2, ← e]; exact hh s hs
      · rw [R k (by omega) (by omega) e]; exact hh s hs
  have relM : ∀ (k k' : Nat), (k = 59 ∧ k' = 159 ∨ k = 60 ∧ k' = 160 ∨ k = 61 ∧ k' = 161 ∨ k = 62 ∧ k' = 162) → (∀ m, m < nm → I k m = I k' m) → ∀ m, m < nm → I2 k m = I2 k' m := by
    intro k k' hk hh m hm
    have kc' := kc.c.2.2
    by_cases q : k = cell ∧ m = one
    · have q' : k' = mcell := by omega
      rw [q.1, q.2, q', Cv, Mv]
    · rw [A4 k' m (by omega) (by omega) (by omega) (fun z => q ⟨by omega, z.2⟩)]
      by_cases e : k = cell
      · have e2 : m ≠ one := fun z => q ⟨e, z⟩
        rw [e, C m e2, ← e]; exact hh m hm
      · rw [R k (by omega) (by omega) e]; exact hh m hm
  have c48 : cell ≠ 48 ∧ cell ≠ 51 ∧ (cell < 53 ∨ 58 < cell) := by have := kc.c.2.2; omega
  refine ⟨⟨?_, ?_, ?_, ?_, ?_, fun s hs => ?_, fun p hp => ?_, fun p s hp hs => ?_, fun m hm => ?_⟩, ⟨fun m hm => ?_, fun m hm h0 => ?_, ?_, fun s hs => ?_, fun p s hp hs => ?_, fun s hs => ?_⟩, fun s hs => ?_, hn.2.2.2⟩
  · rw [R 48 (by decide) (by decide) (by omega), A1 151 (by decide) (by decide)]; exact w1
  · rw [R 48 (by decide) (by decide) (by omega), A1 152 (by decide) (by decide)]; exact w2
  · rw [R 48 (by decide) (by decide) (by omega), A1 153 (by decide) (by decide)]; exact w3
  · rw [R 48 (by decide) (by decide) (by omega), A1 154 (by decide) (by decide)]; exact w4
  · rw [R 48 (by decide) (by decide) (by omega)]; exact ws5
  · simp only [Nat.mul_zero, Nat.zero_add]
    exact ⟨rel 49 156 (by omega) (fun s hs => (w5 s hs).1) s hs, rel 50 157 (by omega) (fun s hs => (w5 s hs).2) s hs⟩
  · show I2 51 p = _
    rw [R 51 (by decide) (by decide) (by omega), h141]; exact w6 p hp
  · rw [R (48 + 4 + 1 + p) (by omega) (by omega) (by omega)]
    simp only [Nat.mul_zero, Nat.zero_add]
    rw [A3 p s (by omega) (by omega)]; exact w7 p s hp hs
  · simp only [Nat.mul_zero, Nat.zero_add]
    exact ⟨relM 59 159 (by omega) (fun m hm => (w8 m hm).1) m hm, relM 60 160 (by omega) (fun m hm => (w8 m hm).2.1) m hm, relM 61 161 (by omega) (fun m hm => (w8 m hm).2.2.1) m hm, relM 62 162 (by omega) (fun m hm => (w8 m hm).2.2.2) m hm⟩
  · simp only [Nat.mul_zero, Nat.zero_add]
    by_cases q : 159 = mcell ∧ m = one
    · rcases kc with ⟨_, _, e, _⟩ | ⟨_, _, e, _⟩ | ⟨_, _, e, _⟩ | ⟨_, _, e, _, r, hr, ev⟩
      · omega
      · omega
      · omega
      · rw [q.1, q.2, Mv]; exact ⟨r, hr, ev⟩
    · rw [A4 159 m (by decide) (by decide) (by omega) q]; exact a1 m hm
  · simp only [Nat.mul_zero, Nat.zero_add]
    rw [A4 162 m (by decide) (by decide) (by omega) (fun q => by have := kc.c.2.2; omega)]; exact a2 m hm h0
  · rw [A1 151 (by decide) (by decide)]; exact a3
  · simp only [Nat.mul_zero, Nat.zero_add]
    by_cases q : 157 = mcell ∧ s = one
    · rcases kc with ⟨_, _, e, _⟩ | ⟨_, _, e, _, w, hw, ev⟩ | ⟨_, _, e, _⟩ | ⟨_, _, e, _⟩
      · omega
      · rw [q.1, q.2, Mv]; exact ⟨w, by omega, ev⟩
      · omega
      · omega
    · rw [A2 157 s (by decide) (by omega) q]; exact a4 s hs
  · simp only [Nat.mul_zero, Nat.zero_add]
    rw [A3 p s (by omega) (by omega)]; exact a5 p s hp hs
  · simp only [Nat.mul_zero, Nat.zero_add]
    by_cases q : 156 = mcell ∧ s = one
    · rcases kc with ⟨_, _, e, _⟩ | ⟨_, _, e, _⟩ | ⟨_, _, e, _, w, hw, ev⟩ | ⟨_, _, e, _⟩
      · omega
      · omega
      · rw [q.1, q.2, Mv]; exact ⟨w, by omega, ev⟩
      · omega
    · rw [A2 156 s (by decide) (by omega) q]; exact a6 s hs
  · simp only [Nat.mul_zero, Nat.zero_add]
    by_cases q : 157 = mcell ∧ s = one
    · rcases kc with ⟨_, _, e, _⟩ | ⟨_, _, e, _, w, hw, ev⟩ | ⟨_, _, e, _⟩ | ⟨_, _, e, _⟩
      · omega
      · rw [q.1, q.2, Mv]; exact ⟨w, by omega, ev⟩
      · omega
      · omega
    · rw [A2 157 s (by decide) (by omega) q]; exact wi s hs
set_option maxHeartbeats 2000000 in
theorem push_inv {I I2 : Nat → Nat → Int32} {t ns nd nr nm dt u nn tp u' o cell mcell one : Nat} {kind v : Int32} (ht : isTd t) (hI : zInv I t ns nd nr nm dt u nn tp) (uu : uuP u u' o) (kc : kcP kind cell mcell one v nr) (K1 : ∀ c, c < 132 → c ≠ 44 → c ≠ 45 → c ≠ 46 → c ≠ 47 → c ≠ cell → I2 c = I c) (K2 : I2 44 3 = nI u') (K3 : ∀ e, e + 1 < u' → I2 45 e = I 45 (e + o) ∧ I2 46 e = I 46 (e + o) ∧ I2 47 e = I 47 (e + o)) (K4 : I2 45 (u' - 1) = kind ∧ I2 46 (u' - 1) = nI one ∧ I2 47 (u' - 1) = I cell one) (K5 : ∀ j, j ≠ one → I2 cell j = I cell j)
    (M1 : ∀ c, (132 < c ∧ c < 151) ∨ (168 ≤ c ∧ c ≤ 172) → I2 c = I c) (M2 : ∀ k, k ≠ 0 → k ≠ 33 → k ≠ 47 → I2 132 k = I 132 k) (M3 : I2 132 47 = nI u') (M4 : abQ I I2 2 2) (M5 : ∀ e, e + 1 < u' → abQ I I2 (3 + e) (3 + e + o)) (M6 : abQ I I2 (3 + (u' - 1)) 0) (N : nowR I2 48 0 ns nd nr nm dt) : zInv I2 t ns nd nr nm dt u' nn tp := by
  obtain ⟨i1, i2, i3, i4, i5, i6, i7, i8⟩ := hI
  have h6 : ns ≤ 6 := i1.1.2.2.2.2.1
  have h6r : nr ≤ 6 := i1.1.2.2.2.2.2.2.1
  have h5 : nm ≤ 5 := i1.1.2.2.2.2.2.2.2.1
  have kcc := kc.c
  have k1 : ∀ c, c < 44 ∨ (64 < c ∧ c < 132) → I2 c = I c := fun c hc => K1 c (by omega) (by omega) (by omega) (by omega) (by omega) (by omega)
  have td : ∀ k, k < 29 → I2 (t + k) = I (t + k) := fun k hk => k1 _ (by rcases ht with rfl | rfl <;> omega)
  have uo := uu
  unfold uuP at uo
  have und := unds_push (I := I) (I2 := I2) uu kcc.1 (by omega) K3 K4.1 K4.2.1 K4.2.2 (fun c a b e => K1 c (by omega) (by omega) (by omega) (by omega) (by omega) e) K5
  have hu1 := i5.2.2.1
  refine ⟨tdR_E td (fun c x y => M1 c (by omega)) (fun k x y => M2 k (by omega) (by omega) (by omega)) i1, ?_, N, ?_, ?_, ?_, ?_, ?_⟩
  · unfold pln; rw [M2 50 (by decide) (by decide) (by decide), M2 52 (by decide) (by decide) (by decide), M2 48 (by decide) (by decide) (by decide)]; exact i2
  · rw [k1 0 (by omega), M2 46 (by decide) (by decide) (by decide)]
    refine ⟨i4.1, fun q => ?_⟩
    obtain ⟨dt', q'⟩ := i4.2 q
    exact ⟨dt', nowR_E h6 h6r h5 (fun k hk => k1 _ (by omega)) (M1 141 (by omega)) M4 q'⟩
  · refine ⟨K2, M3, by omega, fun j hj => ?_⟩
    have K : (I2 45 j = 0 ∨ I2 45 j = 3) ∧ (∃ m, m < 5 ∧ I2 46 j = nI m) ∨ (I2 45 j = 1 ∨ I2 45 j = 2) ∧ (∃ s, s < 6 ∧ I2 46 j = nI s) := by
      by_cases e : j = u' - 1
      · rw [e, K4.1, K4.2.1]
        rcases kc with ⟨a, _, _, b⟩ | ⟨a, _, _, b, _⟩ | ⟨a, _, _, b, _⟩ | ⟨a, _, _, b, _⟩
        · exact Or.inl ⟨Or.inl a, one, b, rfl⟩
        · exact Or.inr ⟨Or.inl a, one, b, rfl⟩
        · exact Or.inr ⟨Or.inr a, one, b, rfl⟩
        · exact Or.inl ⟨Or.inr a, one, b, rfl⟩
      · obtain ⟨x1, x2, -⟩ := K3 j (by omega)
        rw [x1, x2]
        exact (i5.2.2.2 (j + o) (by omega)).2.2.2
    have h141 : ∀ n, unds I2 u' n 141 = I 141 := fun n => by rw [unds_hi _ _ (by decide)]; exact M1 141 (by omega)
    match j, hj with
    | 0, hj =>
      refine ⟨relS_Q h6 h6r h5 (fun k hk => by rw [und 0 hj (48 + k) (by omega) (by omega)]; rfl) (h141 _) (M6.eq (fun c a b => unds_hi _ _ (by omega) _)) i3.1, abOK_Q h6 h6r h5 M6 i3.2.1, fun s hs => ?_, K⟩
      show ∃ w, w ≤ 99 ∧ I2 157 (6 * (3 + (u' - 1)) + s) = nI w
      rw [M6.2.1 157 s (by decide) (by omega)]; exact i3.2.2.1 s hs
    | i + 1, hj =>
      obtain ⟨p1, p2, p3, -⟩ := i5.2.2.2 i (by omega)
      have ei : 3 + (u' - 1 - (i + 1)) + o = 3 + (u - 1 - i) := uu_ix uu hj
      have Q := M5 (u' - 1 - (i + 1)) (by omega)
      rw [ei] at Q
      refine ⟨relS_Q (I := unds I u (i + 1)) h6 h6r h5 (fun k hk => und (i + 1) hj (48 + k) (by omega) (by omega)) (by rw [h141, unds_hi _ _ (by decide)]) ?_ p1, abOK_Q h6 h6r h5 Q p2, fun s hs => ?_, K⟩
      · have Q2 : abQ I (unds I2 u' (i + 1 + 1)) (3 + (u' - 1 - (i + 1))) (3 + (u - 1 - i)) := Q.eq (fun c a b => unds_hi _ _ (by omega) _)
        exact ⟨fun c a b => by rw [unds_hi I u (by omega)]; exact Q2.1 c a b, fun c s a b => by rw [unds_hi I u (by omega)]; exact Q2.2.1 c s a b, fun a s b c => by rw [unds_hi I u (by omega)]; exact Q2.2.2.1 a s b c, fun c m a b e => by rw [unds_hi I u (by omega)]; exact Q2.2.2.2 c m a b e⟩
      · rw [Q.2.1 157 s (by decide) (by omega)]; exact p3 s hs
  · rw [k1 37 (by omega), M2 60 (by decide) (by decide) (by decide), M2 61 (by decide) (by decide) (by decide)]
    exact ⟨i6.1, i6.2.1, i6.2.2.1, i6.2.2.2.1, i6.2.2.2.2.1, ntR_E (fun c hc => by rcases hc with hc | hc; exact k1 c (by omega); exact M1 c (by omega)) i6.2.2.2.2.2⟩
  · exact tpR_E (by rw [k1 0 (by omega)]) (k1 1 (by omega)) (M2 2 (by decide) (by decide) (by decide)) (M1 133 (by omega)) i7
  · rw [k1 2 (by omega), k1 4 (by omega), M2 27 (by decide) (by decide) (by decide), M2 28 (by decide) (by decide) (by decide)]; exact i8
def puK (h : zMem) (u' o : Nat) (kind : Int32) (cell one : Nat) (v : Int32) (h1 : zMem) : Prop := zW h h1 ∧ ∃ J, addR (zI h) J u' o kind (nI one) (zI h cell one) ∧ zI h1 = zup J cell one v
def puL (u' o mcell one : Nat) (v : Int32) (h1 h2 : zMem) : Prop := zW h1 h2 ∧ ∃ J, kpR (zI (zsI h1 132 0 0)) J u' o ∧ zI h2 = zup J mcell one v
set_option maxHeartbeats 2000000 in
theorem push_ok {h h1 h2 : zMem} {t ns nd nr nm dt u nn tp u' o cell mcell one : Nat} {kind v : Int32} (S1 : zSh1 h t) (S2 : zSh2 h) (h174 : zO h 174 101 ∧ zLen h 174 = 1) (hI : zInv (zI h) t ns nd nr nm dt u nn tp) (uu : uuP u u' o) (kc : kcP kind cell mcell one v nr) (A : puK h u' o kind cell one v h1) (B : puL u' o mcell one v h1 h2) : zOK h2 := by
  obtain ⟨wa, J, ⟨a1, a2, a3, a4, a5, a6⟩, ea⟩ := A
  obtain ⟨wb, J2, ⟨b1, b2, b3, b4, b5, b6⟩, eb⟩ := B
  have kcc := kc.c
  have h6 : ns ≤ 6 := hI.1.1.2.2.2.2.1
  have h6r : nr ≤ 6 := hI.1.1.2.2.2.2.2.2.1
  have h5 : nm ≤ 5 := hI.1.1.2.2.2.2.2.2.2.1
  have hi1 : ∀ c, 132 ≤ c → zI h1 c = zI h c := fun c hc => by rw [ea, zup_ne _ _ (by omega)]; exact a1 c (by omega) (by omega) (by omega) (by omega)
  have hi3 : ∀ c, 133 ≤ c → zI (zsI h1 132 0 0) c = zI h c := fun c hc => by rw [zI_sI, zup_ne _ _ (by omega)]; exact hi1 c (by omega)
  have lo2 : ∀ c, c < 132 → zI h2 c = zI h1 c := fun c hc => by rw [eb, zup_ne _ _ (by omega), b1 c (Or.inl hc), zI_sI, zup_ne _ _ (by omega)]
  have Q0 : ∀ a, abQ (zI h) (zI (zsI h1 132 0 0)) a a := fun a => (abQ.rf _ a).eq (fun c x y => hi3 c (by omega))
  have row : ∀ c, c < 132 → c ≠ 44 → c ≠ 45 → c ≠ 46 → c ≠ 47 → c ≠ cell → zI h2 c = zI h c := fun c hc x1 x2 x3 x4 x5 => by rw [lo2 c hc, ea, zup_ne _ _ x5]; exact a1 c x1 x2 x3 x4
  have cell2 : zI h2 cell = zup J cell one v cell := by rw [lo2 cell (by omega), ea]
  have E : ∀ (c : Nat), c < 132 → c ≠ cell → zI h2 c = J c := fun c hc x => by rw [lo2 c hc, ea, zup_ne _ _ x]
  have mrow : ∀ c, c ≠ mcell → zI h2 c = J2 c := fun c hc => by rw [eb, zup_ne _ _ hc]
  -- an abbey other than the first
  have AQ : ∀ x y, 1 ≤ x → abQ (zI (zsI h1 132 0 0)) J2 x y → abQ (zI h) (zI h2) x y := fun x y hx q => by
    have q' := (Q0 y).trans q
    refine ⟨fun c p r => ?_, fun c s p r => ?_, fun p s r w => ?_, fun c m p r w => ?_⟩
    · rw [mrow c (by omega)]; exact q'.1 c p r
    · by_cases e : c = mcell
      · rw [e, eb, zup_i _ _ _ (by omega), ← e]; exact q'.2.1 c s p r
      · rw [mrow c e]; exact q'.2.1 c s p r
    · rw [mrow 158 (by omega)]; exact q'.2.2.1 p s r w
    · by_cases e : c = mcell
      · have : one < 5 := by rcases kc with ⟨_, _, _, b⟩ | ⟨_, _, b, _⟩ | ⟨_, _, b, _⟩ | ⟨_, _, _, b, _⟩ <;> omega
        rw [e, eb, zup_i _ _ _ (by omega), ← e]; exact q'.2.2.2 c m p r w
      · rw [mrow c e]; exact q'.2.2.2 c m p r w
  have N : nowR (zI h2) 48 0 ns nd nr nm dt := by
    have q0 := (Q0 0).trans (b4 0 (by decide))
    refine now_push h6 h6r h5 kc hI.2.2.1 (fun c x y e => row c (by omega) (by omega) (by omega) (by omega) (by omega) e) (fun j hj => ?_) (by rw [cell2, zup_s]) ?_ (fun c x y => ?_) (fun c s x y e => ?_) (fun p s x y => ?_) (fun c m x y z e => ?_) (by rw [eb, zup_s])
    · rw [cell2, zup_i _ _ _ hj, a1 cell (by omega) (by omega) (by omega) (by omega)]
    · rw [mrow 141 (by omega), b1 141 (by omega)]; exact hi3 141 (by decide)
    · rw [mrow c (by omega)]; exact q0.1 c x y
    · have := q0.2.1 c s x y
      rw [Nat.mul_zero, Nat.zero_add] at this
      by_cases ec : c = mcell
      · rw [ec, eb, zup_i _ _ _ (fun z => e ⟨ec, z⟩), ← ec]; exact this
      · rw [mrow c ec]; exact this
    · have := q0.2.2.1 p s x y
      simp only [Nat.mul_zero, Nat.zero_add] at this
      rw [mrow 158 (by omega)]; exact this
    · have := q0.2.2.2 c m x y z
      rw [Nat.mul_zero, Nat.zero_add] at this
      by_cases ec : c = mcell
      · rw [ec, eb, zup_i _ _ _ (fun z => e ⟨ec, z⟩), ← ec]; exact this
      · rw [mrow c ec]; exact this
  have uo := uu
  unfold uuP at uo
  refine ⟨t, ns, nd, nr, nm, dt, u', nn, tp, (S1.W wa).W wb, (S2.W wa).W wb, wb.out (wa.out h174), push_inv S1.2.1 hI uu kc row (by rw [E 44 (by decide) (by omega)]; exact a2) (fun e he => by rw [E 45 (by decide) (by omega), E 46 (by decide) (by omega), E 47 (by decide) (by omega)]; exact a3 e he) (by rw [E 45 (by decide) (by omega), E 46 (by decide) (by omega), E 47 (by decide) (by omega)]; exact ⟨a4, a5, a6⟩) (fun j hj => by rw [cell2, zup_i _ _ _ hj, a1 cell (by omega) (by omega) (by omega) (by omega)]) (fun c hc => by rw [mrow c (by omega), b1 c (by omega)]; exact hi3 c (by omega)) (fun k k0 k33 k47 => by rw [mrow 132 (by omega), b2 k k47, zI_sI, zup_i _ _ _ k0, hi1 132 (by decide)]) (by rw [mrow 132 (by omega)]; exact b3) (AQ 2 2 (by decide) (b4 2 (by decide))) (fun e he => AQ _ _ (by omega) (b5 e he)) (AQ _ _ (by omega) b6) N⟩
