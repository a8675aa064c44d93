/-! the model: copies and starts of an abbey -/
def pb (n k x y : Nat) (f f' : Nat → Int32) : Prop := (∀ i, i < k → f' (n * x + i) = f (n * y + i)) ∧ ∀ j, j < n * x ∨ n * x + k ≤ j → f' j = f j
theorem blk_ne {n x y i : Nat} (h : x ≠ y) (hi : i < n) : n * y + i < n * x ∨ n * x + n ≤ n * y + i := by
  rcases Nat.lt_or_gt_of_ne h with q | q
  · right
    have := Nat.mul_le_mul_left n (show x + 1 ≤ y from q)
    rw [Nat.mul_add, Nat.mul_one] at this
    omega
  · left
    have := Nat.mul_le_mul_left n (show y + 1 ≤ x from q)
    rw [Nat.mul_add, Nat.mul_one] at this
    omega
theorem pb.rd {n k x y : Nat} {f f' : Nat → Int32} (h : pb n k x y f f') (hxy : x ≠ y) (hk : k ≤ n) {i : Nat} (hi : i < n) : f' (n * y + i) = f (n * y + i) := h.2 _ (by have := blk_ne hxy hi; omega)
theorem pb.st {n k x y : Nat} {f f' f'' : Nat → Int32} (h : pb n k x y f f') (hxy : x ≠ y) (hk : k < n) (e1 : f'' (n * x + k) = f' (n * y + k)) (e2 : ∀ j, j ≠ n * x + k → f'' j = f' j) : pb n (k + 1) x y f f'' := by
  refine ⟨fun i hi => ?_, fun j hj => ?_⟩
  · by_cases e : i = k
    · subst e; rw [e1]; exact h.rd hxy (by omega) hk
    · rw [e2 _ (by omega)]; exact h.1 i (by omega)
  · rw [e2 _ (by omega)]; exact h.2 j (by omega)
theorem pb.z (n x y : Nat) (f : Nat → Int32) : pb n 0 x y f f := ⟨fun i hi => absurd hi (by omega), fun _ _ => rfl⟩
def cpR (I I' : Nat → Nat → Int32) (x y : Nat) : Prop := (∀ c, c < 151 ∨ 162 < c → I' c = I c) ∧ (∀ c, 151 ≤ c → c ≤ 155 → I' c x = I c y ∧ ∀ j, j ≠ x → I' c j = I c j) ∧ pb 6 6 x y (I 156) (I' 156) ∧ pb 6 6 x y (I 157) (I' 157) ∧ pb 36 36 x y (I 158) (I' 158) ∧ pb 5 5 x y (I 159) (I' 159) ∧ pb 5 5 x y (I 160) (I' 160) ∧ pb 5 5 x y (I 161) (I' 161) ∧ pb 5 5 x y (I 162) (I' 162)
theorem ix36' (a s : Nat) : (36 : Int32) * nI a + nI s = nI (36 * a + s) := by
  show nI 36 * nI a + nI s = _
  rw [pk_mul]; exact nI_add _ _
theorem copies_head (I : Nat → Nat → Int32) (x y : Nat) (J : Nat → Nat → Int32) (hJ : J = zup (zup (zup (zup (zup I 151 x (I 151 y)) 152 x (I 152 y)) 153 x (I 153 y)) 154 x (I 154 y)) 155 x (I 155 y)) : (∀ c, c < 151 ∨ 155 < c → J c = I c) ∧ ∀ c, 151 ≤ c → c ≤ 155 → J c x = I c y ∧ ∀ j, j ≠ x → J c j = I c j := by
  subst hJ
  refine ⟨fun c hc => ?_, fun c h1 h2 => ⟨?_, fun j hj => ?_⟩⟩
  · rw [zup_ne _ _ (by omega), zup_ne _ _ (by omega), zup_ne _ _ (by omega), zup_ne _ _ (by omega), zup_ne _ _ (by omega)]
  · rcases (show c = 151 ∨ c = 152 ∨ c = 153 ∨ c = 154 ∨ c = 155 by omega) with rfl | rfl | rfl | rfl | rfl <;> simp [zup]
  · rcases (show c = 151 ∨ c = 152 ∨ c = 153 ∨ c = 154 ∨ c = 155 by omega) with rfl | rfl | rfl | rfl | rfl <;> simp [zup, hj]
set_option maxHeartbeats 4000000 in
set_option maxRecDepth 20000 in
theorem X10_copies_ok {G : zG} {d : Nat} {h : zMem} (hS : zSh2 h) {x y : Nat} (hx : x < 23) (hy : y < 23) (hxy : x ≠ y) :
    zConV G mX10_copies d [.ref 132, .int (nI x), .int (nI y)] h (fun h' => zW h h' ∧ cpR (zI h) (zI h') x y) := by
  refine cn_X10_copies (sg_X10_copies_0 hS ?_)
  rw [zcla (show x < 2 ^ 31 by omega), zcla (show y < 2 ^ 31 by omega)]
  simp only [zI_sI, zup_a _ _ _ (show (152 : Nat) ≠ 151 by decide), zup_a _ _ _ (show (153 : Nat) ≠ 151 by decide), zup_a _ _ _ (show (153 : Nat) ≠ 152 by decide), zup_a _ _ _ (show (154 : Nat) ≠ 151 by decide), zup_a _ _ _ (show (154 : Nat) ≠ 152 by decide), zup_a _ _ _ (show (154 : Nat) ≠ 153 by decide), zup_a _ _ _ (show (155 : Nat) ≠ 151 by decide), zup_a _ _ _ (show (155 : Nat) ≠ 152 by decide), zup_a _ _ _ (show (155 : Nat) ≠ 153 by decide), zup_a _ _ _ (show (155 : Nat) ≠ 154 by decide)]
  refine ⟨zin_n hy (by decide), zin_n hx (by decide), ?_⟩
  obtain ⟨hh, ehh⟩ : ∃ hh, hh = zsI (zsI (zsI (zsI (zsI h 151 x (zI h 151 y)) 152 x (zI h 152 y)) 153 x (zI h 153 y)) 154 x (zI h 154 y)) 155 x (zI h 155 y) := ⟨_, rfl⟩
  rw [← ehh]
  have Wh : zW h hh := by rw [ehh]; exact ⟨⟨rfl, rfl⟩, rfl⟩
  obtain ⟨a1, a2⟩ := copies_head (zI h) x y (zI hh) (by rw [ehh]; rfl)
  obtain ⟨Q, hQ⟩ : ∃ Q : zMem → Prop, Q = (fun h' => zW h h' ∧ cpR (zI h) (zI h') x y) := ⟨_, rfl⟩
  rw [← hQ]
  have l3 : ∀ n k (h1 : zMem), n + k = 5 → zW h h1 → (∀ c, c < 151 ∨ 162 < c → zI h1 c = zI h c) → (∀ c, 151 ≤ c → c ≤ 155 → zI h1 c = zI hh c) → pb 6 6 x y (zI h 156) (zI h1 156) → pb 6 6 x y (zI h 157) (zI h1 157) → pb 36 36 x y (zI h 158) (zI h1 158) → pb 5 k x y (zI h 159) (zI h1 159) → pb 5 k x y (zI h 160) (zI h1 160) → pb 5 k x y (zI h 161) (zI h1 161) → pb 5 k x y (zI h 162) (zI h1 162) → zg G mX10_copies d 156 [.ref 132, .int (nI x), .int (nI y), .int (nI k)] [] h1 (zPV Q) := by
    intro n
    induction n with
    | zero =>
      intro k h1 hk hW f1 f2 f3 f4 f5 f6 f7 f8 f9
      have : k = 5 := by omega
      subst this
      refine sg_X10_copies_156 (hS.W hW) ⟨fun _ => ?_, fun c => absurd (show nI 5 ≤ nI 5 from nI_le (Nat.le_refl _) (by decide)) c⟩
      rw [hQ]
      exact ⟨hW, f1, fun c q1 q2 => by rw [f2 c q1 q2]; exact a2 c q1 q2, f3, f4, f5, f6, f7, f8, f9⟩
    | succ n ih =>
      intro k h1 hk hW f1 f2 f3 f4 f5 f6 f7 f8 f9
      refine sg_X10_copies_156 (hS.W hW) ?_
      rw [ix5, ix5, zcla (show 5 * x + k < 2 ^ 31 by omega), zcla (show 5 * y + k < 2 ^ 31 by omega), nI_1]
      refine ⟨fun c => absurd (show nI 5 ≤ nI k from c) (nI_ge (by omega) (by decide)), fun _ => ⟨zin_n (by omega) (by decide), zin_n (by omega) (by decide), ?_⟩⟩
      simp only [zI_sI, zup_a _ _ _ (show (160 : Nat) ≠ 159 by decide), zup_a _ _ _ (show (161 : Nat) ≠ 159 by decide), zup_a _ _ _ (show (161 : Nat) ≠ 160 by decide), zup_a _ _ _ (show (162 : Nat) ≠ 159 by decide), zup_a _ _ _ (show (162 : Nat) ≠ 160 by decide), zup_a _ _ _ (show (162 : Nat) ≠ 161 by decide)]
      refine ih (k + 1) _ (by omega) ((((hW.sI _ _ _).sI _ _ _).sI _ _ _).sI _ _ _) (fun c hc => ?_) (fun c q1 q2 => ?_) ?_ ?_ ?_ ?_ ?_ ?_ ?_
      · simp only [zI_sI]; rw [zup_ne _ _ (by omega), zup_ne _ _ (by omega), zup_ne _ _ (by omega), zup_ne _ _ (by omega)]; exact f1 c hc
      · simp only [zI_sI]; rw [zup_ne _ _ (by omega), zup_ne _ _ (by omega), zup_ne _ _ (by omega), zup_ne _ _ (by omega)]; exact f2 c q1 q2
      · simp only [zI_sI]; rw [zup_ne _ _ (by omega), zup_ne _ _ (by omega), zup_ne _ _ (by omega), zup_ne _ _ (by omega)]; exact f3
      · simp only [zI_sI]; rw [zup_ne _ _ (by omega), zup_ne _ _ (by omega), zup_ne _ _ (by omega), zup_ne _ _ (by omega)]; exact f4
      · simp only [zI_sI]; rw [zup_ne _ _ (by omega), zup_ne _ _ (by omega), zup_ne _ _ (by omega), zup_ne _ _ (by omega)]; exact f5
      · simp only [zI_sI]; rw [zup_ne _ _ (by omega), zup_ne _ _ (by omega), zup_ne _ _ (by omega)]
        exact f6.st hxy (by omega) (zup_s _ _ _ _) (fun j hj => zup_i _ _ _ hj)
      · simp only [zI_sI]; rw [zup_ne _ _ (by omega), zup_ne _ _ (by omega)]
        exact f7.st hxy (by omega) (zup_s _ _ _ _) (fun j hj => by rw [zup_i _ _ _ hj, zup_ne _ _ (by decide)])
      · simp only [zI_sI]; rw [zup_ne _ _ (by omega)]
        exact f8.st hxy (by omega) (zup_s _ _ _ _) (fun j hj => by rw [zup_i _ _ _ hj, zup_ne _ _ (by decide), zup_ne _ _ (by decide)])
      · simp only [zI_sI]
        exact f9.st hxy (by omega) (zup_s _ _ _ _) (fun j hj => by rw [zup_i _ _ _ hj, zup_ne _ _ (by decide), zup_ne _ _ (by decide), zup_ne _ _ (by decide)])
  have l2 : ∀ n k (h1 : zMem), n + k = 36 → zW h h1 → (∀ c, c < 151 ∨ 158 < c → zI h1 c = zI h c) → (∀ c, 151 ≤ c → c ≤ 155 → zI h1 c = zI hh c) → pb 6 6 x y (zI h 156) (zI h1 156) → pb 6 6 x y (zI h 157) (zI h1 157) → pb 36 k x y (zI h 158) (zI h1 158) → zg G mX10_copies d 120 [.ref 132, .int (nI x), .int (nI y), .int (nI k)] [] h1 (zPV Q) := by
    intro n
    induction n with
    | zero =>
      intro k h1 hk hW f1 f2 f3 f4 f5
      have : k = 36 := by omega
      subst this
      refine sg_X10_copies_120 (hS.W hW) ⟨fun _ => l3 5 0 h1 (by omega) hW (fun c hc => f1 c (by omega)) f2 f3 f4 f5 ?_ ?_ ?_ ?_, fun c => absurd (show nI 36 ≤ nI 36 from nI_le (Nat.le_refl _) (by decide)) c⟩
      · rw [f1 159 (by decide)]; exact pb.z _ _ _ _
      · rw [f1 160 (by decide)]; exact pb.z _ _ _ _
      · rw [f1 161 (by decide)]; exact pb.z _ _ _ _
      · rw [f1 162 (by decide)]; exact pb.z _ _ _ _
    | succ n ih =>
      intro k h1 hk hW f1 f2 f3 f4 f5
      refine sg_X10_copies_120 (hS.W hW) ?_
      rw [ix36', ix36', zcla (show 36 * x + k < 2 ^ 31 by omega), zcla (show 36 * y + k < 2 ^ 31 by omega), nI_1]
      refine ⟨fun c => absurd (show nI 36 ≤ nI k from c) (nI_ge (by omega) (by decide)), fun _ => ⟨zin_n (by omega) (by decide), zin_n (by omega) (by decide), ih (k + 1) _ (by omega) (hW.sI _ _ _) (fun c hc => ?_) (fun c q1 q2 => ?_) ?_ ?_ ?_⟩⟩
      · rw [zI_sI, zup_ne _ _ (by omega)]; exact f1 c hc
      · rw [zI_sI, zup_ne _ _ (by omega)]; exact f2 c q1 q2
      · rw [zI_sI, zup_ne _ _ (by omega)]; exact f3
      · rw [zI_sI, zup_ne _ _ (by omega)]; exact f4
      · rw [zI_sI]; exact f5.st hxy (by omega) (zup_s _ _ _ _) (fun j hj => zup_i _ _ _ hj)
  have l1 : ∀ n k (h1 : zMem), n + k = 6 → zW h h1 → (∀ c, c < 151 ∨ 157 < c → zI h1 c = zI h c) → (∀ c, 151 ≤ c → c ≤ 155 → zI h1 c = zI hh c) → pb 6 k x y (zI h 156) (zI h1 156) → pb 6 k x y (zI h 157) (zI h1 157) → zg G mX10_copies d 62 [.ref 132, .int (nI x), .int (nI y), .int (nI k)] [] h1 (zPV Q) := by
    intro n
    induction n with
    | zero =>
      intro k h1 hk hW f1 f2 f3 f4
      have : k = 6 := by omega
      subst this
      refine sg_X10_copies_62 (hS.W hW) ⟨fun _ => l2 36 0 h1 (by omega) hW (fun c hc => f1 c (by omega)) f2 f3 f4 ?_, fun c => absurd (show nI 6 ≤ nI 6 from nI_le (Nat.le_refl _) (by decide)) c⟩
      rw [f1 158 (by decide)]; exact pb.z _ _ _ _
    | succ n ih =>
      intro k h1 hk hW f1 f2 f3 f4
      refine sg_X10_copies_62 (hS.W hW) ?_
      rw [ix6, ix6, zcla (show 6 * x + k < 2 ^ 31 by omega), zcla (show 6 * y + k < 2 ^ 31 by omega), nI_1]
      refine ⟨fun c => absurd (show nI 6 ≤ nI k from c) (nI_ge (by omega) (by decide)), fun _ => ⟨zin_n (by omega) (by decide), zin_n (by omega) (by decide), ?_⟩⟩
      simp only [zI_sI, zup_a _ _ _ (show (157 : Nat) ≠ 156 by decide)]
      refine ih (k + 1) _ (by omega) ((hW.sI _ _ _).sI _ _ _) (fun c hc => ?_) (fun c q1 q2 => ?_) ?_ ?_
      · simp only [zI_sI]; rw [zup_ne _ _ (by omega), zup_ne _ _ (by omega)]; exact f1 c hc
      · simp only [zI_sI]; rw [zup_ne _ _ (by omega), zup_ne _ _ (by omega)]; exact f2 c q1 q2
      · simp only [zI_sI]; rw [zup_ne _ _ (by omega)]
        exact f3.st hxy (by omega) (zup_s _ _ _ _) (fun j hj => zup_i _ _ _ hj)
      · simp only [zI_sI]
        exact f4.st hxy (by omega) (zup_s _ _ _ _) (fun j hj => by rw [zup_i _ _ _ hj, zup_ne _ _ (by decide)])
  refine l1 6 0 hh (by omega) Wh (fun c hc => a1 c (by omega)) (fun _ _ _ => rfl) ?_ ?_
  · rw [a1 156 (by decide)]; exact pb.z _ _ _ _
  · rw [a1 157 (by decide)]; exact pb.z _ _ _ _
def stR (I I' : Nat → Nat → Int32) (a ns nm : Nat) : Prop := (∀ c, c < 151 ∨ 162 < c → I' c = I c) ∧ (I' 151 a = 0 ∧ I' 152 a = -1 ∧ I' 153 a = 0 ∧ I' 154 a = 0) ∧ (∀ c, 151 ≤ c → c ≤ 155 → ∀ j, j ≠ a → I' c j = I c j) ∧ (∀ s, s < 6 → I' 156 (6 * a + s) = (if s < ns then I 136 s else 0) ∧ I' 157 (6 * a + s) = 0) ∧ (∀ j, j < 6 * a ∨ 6 * a + 6 ≤ j → I' 156 j = I 156 j ∧ I' 157 j = I 157 j) ∧ (∀ p s, p < 6 → s < 6 → I' 158 (36 * a + 6 * p + s) = 0) ∧ (∀ j, j < 36 * a ∨ 36 * a + 36 ≤ j → I' 158 j = I 158 j) ∧ (∀ m, m < nm → I' 159 (5 * a + m) = I 143 m ∧ I' 160 (5 * a + m) = 0 ∧ I' 161 (5 * a + m) = 0 ∧ I' 162 (5 * a + m) = I 134 1 - 1) ∧ (∀ j, j < 5 * a ∨ 5 * a + nm ≤ j → I' 159 j = I 159 j ∧ I' 160 j = I 160 j ∧ I' 161 j = I 161 j ∧ I' 162 j = I 162 j)
theorem starts_head (I : Nat → Nat → Int32) (x : Nat) (v : Int32) (J : Nat → Nat → Int32) (hJ : J = zup (zup (zup (zup (zup I 151 x 0) 152 x (-1)) 153 x 0) 154 x 0) 155 x v) : (∀ c, c < 151 ∨ 155 < c → J c = I c) ∧ (J 151 x = 0 ∧ J 152 x = -1 ∧ J 153 x = 0 ∧ J 154 x = 0) ∧ ∀ c, 151 ≤ c → c ≤ 155 → ∀ j, j ≠ x → J c j = I c j := by
  subst hJ
  refine ⟨fun c hc => ?_, ⟨?_, ?_, ?_, ?_⟩, fun c h1 h2 j hj => ?_⟩
  · rw [zup_ne _ _ (by omega), zup_ne _ _ (by omega), zup_ne _ _ (by omega), zup_ne _ _ (by omega), zup_ne _ _ (by omega)]
  · simp [zup]
  · simp [zup]
  · simp [zup]
  · simp [zup]
  · rcases (show c = 151 ∨ c = 152 ∨ c = 153 ∨ c = 154 ∨ c = 155 by omega) with rfl | rfl | rfl | rfl | rfl <;> simp [zup, hj]
set_option maxHeartbeats 4000000 in
set_option maxRecDepth 20000 in
theorem X10_starts_ok {G : zG} {d : Nat} {h : zMem} (hS : zSh2 h) {a ns nm : Nat} (ha : a < 23) (hn : zI h 134 0 = nI ns) (h6 : ns ≤ 6) (hnm : zI h 134 4 = nI nm) (h5 : nm ≤ 5) :
    zConV G mX10_starts d [.ref 132, .int (nI a)] h (fun h' => zW h h' ∧ stR (zI h) (zI h') a ns nm) := by
  refine cn_X10_starts (sg_X10_starts_0 hS ?_)
  rw [zcla (show a < 2 ^ 31 by omega)]
  refine ⟨zin_n ha (by decide), ?_⟩
  obtain ⟨hh, ehh⟩ : ∃ hh, hh = (zsI (zsI (zsI (zsI (zsI h 151 a 0) 152 a (-1)) 153 a 0) 154 a 0) 155 a (zI (zsI (zsI (zsI (zsI h 151 a 0) 152 a (-1)) 153 a 0) 154 a 0) 134 6)) := ⟨_, rfl⟩
  rw [← ehh]
  have Wh : zW h hh := by rw [ehh]; exact ⟨⟨rfl, rfl⟩, rfl⟩
  obtain ⟨a1, a2, a3⟩ := starts_head (zI h) a _ (zI hh) (by rw [ehh]; rfl)
  obtain ⟨Q, hQ⟩ : ∃ Q : zMem → Prop, Q = (fun h' => zW h h' ∧ stR (zI h) (zI h') a ns nm) := ⟨_, rfl⟩
  rw [← hQ]
  have l3 : ∀ n k (h1 : zMem), n + k = nm → zW h h1 → (∀ c, c < 151 ∨ 162 < c → zI h1 c = zI h c) → (∀ c, 151 ≤ c → c ≤ 155 → zI h1 c = zI hh c) → (∀ s, s < 6 → zI h1 156 (6 * a + s) = (if s < ns then zI h 136 s else 0) ∧ zI h1 157 (6 * a + s) = 0) → (∀ j, j < 6 * a ∨ 6 * a + 6 ≤ j → zI h1 156 j = zI h 156 j ∧ zI h1 157 j = zI h 157 j) → (∀ p s, p < 6 → s < 6 → zI h1 158 (36 * a + 6 * p + s) = 0) → (∀ j, j < 36 * a ∨ 36 * a + 36 ≤ j → zI h1 158 j = zI h 158 j) → (∀ m, m < k → zI h1 159 (5 * a + m) = zI h 143 m ∧ zI h1 160 (5 * a + m) = 0 ∧ zI h1 161 (5 * a + m) = 0 ∧ zI h1 162 (5 * a + m) = zI h 134 1 - 1) → (∀ j, j < 5 * a ∨ 5 * a + k ≤ j → zI h1 159 j = zI h 159 j ∧ zI h1 160 j = zI h 160 j ∧ zI h1 161 j = zI h 161 j ∧ zI h1 162 j = zI h 162 j) → zg G mX10_starts d 131 [.ref 132, .int (nI a), .int (nI k), zU] [] h1 (zPV Q) := by
    intro n
    induction n with
    | zero =>
      intro k h1 hk hW f1 f2 f3 f4 f5 f6 f7 f8
      have : k = nm := by omega
      subst this
      refine sg_X10_starts_131 (hS.W hW) ?_
      rw [f1 134 (by decide), hnm, hQ]
      refine ⟨fun _ => ⟨hW, f1, ?_, fun c q1 q2 j hj => by rw [f2 c q1 q2]; exact a3 c q1 q2 j hj, f3, f4, f5, f6, f7, f8⟩, fun c => absurd (nI_le (Nat.le_refl _) (by omega)) c⟩
      rw [f2 151 (by decide) (by decide), f2 152 (by decide) (by decide), f2 153 (by decide) (by decide), f2 154 (by decide) (by decide)]
      exact a2
    | succ n ih =>
      intro k h1 hk hW f1 f2 f3 f4 f5 f6 f7 f8
      refine sg_X10_starts_131 (hS.W hW) ?_
      rw [ix5, zcla (show 5 * a + k < 2 ^ 31 by omega), zcla (show k < 2 ^ 31 by omega), nI_1]
      refine ⟨fun c => absurd (by rw [f1 134 (by decide), hnm] at c; exact c) (nI_ge (by omega) (by omega)), fun _ => ⟨zin_n (by omega) (by decide), zin_n (by omega) (by decide), ?_⟩⟩
      simp only [zI_sI, zup_a _ _ _ (show (134 : Nat) ≠ 159 by decide), zup_a _ _ _ (show (134 : Nat) ≠ 160 by decide), zup_a _ _ _ (show (134 : Nat) ≠ 161 by decide)]
      rw [f1 134 (by decide), f1 143 (by decide)]
      refine ih (k + 1) _ (by omega) ((((hW.sI _ _ _).sI _ _ _).sI _ _ _).sI _ _ _) (fun c hc => ?_) (fun c q1 q2 => ?_) ?_ ?_ ?_ ?_ (fun m hm => ?_) (fun j hj => ?_)
      · simp only [zI_sI]; rw [zup_ne _ _ (by omega), zup_ne _ _ (by omega), zup_ne _ _ (by omega), zup_ne _ _ (by omega)]; exact f1 c hc
      · simp only [zI_sI]; rw [zup_ne _ _ (by omega), zup_ne _ _ (by omega), zup_ne _ _ (by omega), zup_ne _ _ (by omega)]; exact f2 c q1 q2
      · simp only [zI_sI, zup_ne _ _ (show (156 : Nat) ≠ 159 by decide), zup_ne _ _ (show (156 : Nat) ≠ 160 by decide), zup_ne _ _ (show (156 : Nat) ≠ 161 by decide), zup_ne _ _ (show (156 : Nat) ≠ 162 by decide), zup_ne _ _ (show (157 : Nat) ≠ 159 by decide), zup_ne _ _ (show (157 : Nat) ≠ 160 by decide), zup_ne _ _ (show (157 : Nat) ≠ 161 by decide), zup_ne _ _ (show (157 : Nat) ≠ 162 by decide)]; exact f3
      · simp only [zI_sI, zup_ne _ _ (show (156 : Nat) ≠ 159 by decide), zup_ne _ _ (show (156 : Nat) ≠ 160 by decide), zup_ne _ _ (show (156 : Nat) ≠ 161 by decide), zup_ne _ _ (show (156 : Nat) ≠ 162 by decide), zup_ne _ _ (show (157 : Nat) ≠ 159 by decide), zup_ne _ _ (show (157 : Nat) ≠ 160 by decide), zup_ne _ _ (show (157 : Nat) ≠ 161 by decide), zup_ne _ _ (show (157 : Nat) ≠ 162 by decide)]; exact f4
      · simp only [zI_sI]; rw [zup_ne _ _ (by omega), zup_ne _ _ (by omega), zup_ne _ _ (by omega), zup_ne _ _ (by omega)]; exact f5
      · simp only [zI_sI]; rw [zup_ne _ _ (by omega), zup_ne _ _ (by omega), zup_ne _ _ (by omega), zup_ne _ _ (by omega)]; exact f6
      · by_cases e : m = k
        · subst e; simp [zI_sI, zup]
        · have : ¬ 5 * a + m = 5 * a + k := by omega
          simp only [zI_sI, zup_i _ _ _ this]; exact f7 m (by omega)
      · have : ¬ j = 5 * a + k := by omega
        simp only [zI_sI, zup_i _ _ _ this]; exact f8 j (by omega)
  have l1 : ∀ n k (h1 : zMem), n + k = 6 → zW h h1 → (∀ c, c < 151 ∨ 158 < c → zI h1 c = zI h c) → (∀ c, 151 ≤ c → c ≤ 155 → zI h1 c = zI hh c) → (∀ s, s < k → zI h1 156 (6 * a + s) = (if s < ns then zI h 136 s else 0) ∧ zI h1 157 (6 * a + s) = 0) → (∀ j, j < 6 * a ∨ 6 * a + 6 ≤ j → zI h1 156 j = zI h 156 j ∧ zI h1 157 j = zI h 157 j) → (∀ p s, p < 6 → s < k → zI h1 158 (36 * a + 6 * p + s) = 0) → (∀ j, j < 36 * a ∨ 36 * a + 36 ≤ j → zI h1 158 j = zI h 158 j) → zg G mX10_starts d 43 [.ref 132, .int (nI a), .int (nI k), zU] [] h1 (zPV Q) := by
    intro n
    induction n with
    | zero =>
      intro k h1 hk hW f1 f2 f3 f4 f5 f6
      have : k = 6 := by omega
      subst this
      refine sg_X10_starts_43 (hS.W hW) ⟨fun _ => l3 nm 0 h1 (by omega) hW (fun c hc => f1 c (by omega)) f2 f3 f4 f5 f6 (fun m hm => absurd hm (by omega)) (fun j _ => ?_), fun c => absurd (show nI 6 ≤ nI 6 from nI_le (Nat.le_refl _) (by decide)) c⟩
      rw [f1 159 (by decide), f1 160 (by decide), f1 161 (by decide), f1 162 (by decide)]; exact ⟨rfl, rfl, rfl, rfl⟩
    | succ n ih =>
      intro k h1 hk hW f1 f2 f3 f4 f5 f6
      -- of stuff k: the rooms
      have lr : ∀ n r (h2 : zMem), n + r = 6 → zW h h2 → (∀ c, c < 151 ∨ 158 < c → zI h2 c = zI h c) → (∀ c, 151 ≤ c → c ≤ 155 → zI h2 c = zI hh c) → (∀ s, s < k + 1 → zI h2 156 (6 * a + s) = (if s < ns then zI h 136 s else 0) ∧ zI h2 157 (6 * a + s) = 0) → (∀ j, j < 6 * a ∨ 6 * a + 6 ≤ j → zI h2 156 j = zI h 156 j ∧ zI h2 157 j = zI h 157 j) → (∀ p s, p < 6 → s < k → zI h2 158 (36 * a + 6 * p + s) = 0) → (∀ p, p < r → zI h2 158 (36 * a + 6 * p + k) = 0) → (∀ j, j < 36 * a ∨ 36 * a + 36 ≤ j → zI h2 158 j = zI h 158 j) → zg G mX10_starts d 94 [.ref 132, .int (nI a), .int (nI k), .int (nI r)] [] h2 (zPV Q) := by
        intro n2
        induction n2 with
        | zero =>
          intro r h2 hr hW2 g1 g2 g3 g4 g5 g6 g7
          have : r = 6 := by omega
          subst this
          refine sg_X10_starts_94 (hS.W hW2) ?_
          rw [nI_1 k]
          refine ⟨fun _ => ih (k + 1) h2 (by omega) hW2 g1 g2 g3 g4 (fun p s hp hs => ?_) g7, fun c => absurd (show nI 6 ≤ nI 6 from nI_le (Nat.le_refl _) (by decide)) c⟩
          by_cases e : s = k
          · subst e; exact g6 p hp
          · exact g5 p s hp (by omega)
        | succ n2 ih2 =>
          intro r h2 hr hW2 g1 g2 g3 g4 g5 g6 g7
          refine sg_X10_starts_94 (hS.W hW2) ?_
          rw [ix36, zcla (show 36 * a + 6 * r + k < 2 ^ 31 by omega), nI_1 r]
          refine ⟨fun c => absurd (show nI 6 ≤ nI r from c) (nI_ge (by omega) (by decide)), fun _ => ⟨zin_n (by omega) (by decide), ih2 (r + 1) _ (by omega) (hW2.sI _ _ _) (fun c hc => ?_) (fun c q1 q2 => ?_) ?_ ?_ (fun p s hp hs => ?_) (fun p hp => ?_) (fun j hj => ?_)⟩⟩
          · rw [zI_sI, zup_ne _ _ (by omega)]; exact g1 c hc
          · rw [zI_sI, zup_ne _ _ (by omega)]; exact g2 c q1 q2
          · rw [zI_sI, zup_ne _ _ (by decide), zup_ne _ _ (by decide)]; exact g3
          · rw [zI_sI, zup_ne _ _ (by decide), zup_ne _ _ (by decide)]; exact g4
          · rw [zI_sI, zup_i _ _ _ (by omega)]; exact g5 p s hp hs
          · by_cases e : p = r
            · subst e; rw [zI_sI, zup_s]
            · rw [zI_sI, zup_i _ _ _ (by omega)]; exact g6 p (by omega)
          · rw [zI_sI, zup_i _ _ _ (by omega)]; exact g7 j hj
      refine sg_X10_starts_43 (hS.W hW) ?_
      rw [f1 134 (by decide), f1 136 (by decide), hn, ix6, zcla (show k < 2 ^ 31 by omega), zcla (show 6 * a + k < 2 ^ 31 by omega)]
      have put : ∀ v : Int32, v = (if k < ns then zI h 136 k else 0) → zg G mX10_starts d 94 [.ref 132, .int (nI a), .int (nI k), .int (0 : Int32)] [] (zsI (zsI h1 156 (6 * a + k) v) 157 (6 * a + k) 0) (zPV Q) := by
        intro v hv
        refine lr 6 0 _ (by omega) ((hW.sI _ _ _).sI _ _ _) (fun c hc => ?_) (fun c q1 q2 => ?_) (fun s hs => ?_) (fun j hj => ?_) (fun p s hp hs => ?_) (fun p hp => absurd hp (by omega)) (fun j hj => ?_)
        · simp only [zI_sI]; rw [zup_ne _ _ (by omega), zup_ne _ _ (by omega)]; exact f1 c hc
        · simp only [zI_sI]; rw [zup_ne _ _ (by omega), zup_ne _ _ (by omega)]; exact f2 c q1 q2
        · by_cases e : s = k
          · subst e; simp only [zI_sI]; rw [zup_ne _ _ (show (156 : Nat) ≠ 157 by decide), zup_s, zup_s, hv]; exact ⟨rfl, rfl⟩
          · have : ¬ 6 * a + s = 6 * a + k := by omega
            simp only [zI_sI, zup_i _ _ _ this]; exact f3 s (by omega)
        · have : ¬ j = 6 * a + k := by omega
          simp only [zI_sI, zup_i _ _ _ this]; exact f4 j hj
        · simp only [zI_sI]; rw [zup_ne _ _ (by decide), zup_ne _ _ (by decide)]; exact f5 p s hp hs
        · simp only [zI_sI]; rw [zup_ne _ _ (by decide), zup_ne _ _ (by decide)]; exact f6 j hj
      refine ⟨fun c => absurd (show nI 6 ≤ nI k from c) (nI_ge (by omega) (by decide)), fun _ => ⟨fun c => ⟨zin_n (by omega) (by decide), put _ ?_⟩, fun c => ⟨zin_n (by omega) (by decide), zin_n (by omega) (by decide), put _ ?_⟩⟩⟩
      · rw [if_neg (fun q => nI_ge q (by omega) c)]
      · rw [if_pos (Nat.lt_of_not_le (fun q => c (nI_le q (by omega))))]
  exact l1 6 0 hh (by omega) Wh (fun c hc => a1 c (by omega)) (fun _ _ _ => rfl) (fun s hs => absurd hs (by omega)) (fun j _ => by rw [a1 156 (by decide), a1 157 (by decide)]; exact ⟨rfl, rfl⟩) (fun p s _ hs => absurd hs (by omega)) (fun j _ => by rw [a1 158 (by decide)])
