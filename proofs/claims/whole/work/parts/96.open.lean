/-! a text on the class's side: clear, open -/
/-- memories that differ in numbers and in the three references that a text changes -/
def zU3 (h h1 : zMem) : Prop := h1.1 = h.1 ∧ zL h1 99 = zL h 99 ∧ zK h1 = zK h ∧ zLen h1 = zLen h ∧ ∀ a j, ¬ (a = 3 ∧ j = 1 ∨ a = 0 ∧ j = 11 ∨ a = 2 ∧ j = 6) → zR h1 a j = zR h a j
theorem zU3.rf (h : zMem) : zU3 h h := ⟨rfl, rfl, rfl, rfl, fun _ _ _ => rfl⟩
theorem zW.u3 {h h1 : zMem} (w : zW h h1) : zU3 h h1 := ⟨w.1.1, w.1.2, by unfold zK; rw [w.2], by unfold zLen; rw [w.2], fun _ _ _ => by unfold zR; rw [w.2]⟩
theorem zU3.trans {h h1 h2 : zMem} (a : zU3 h h1) (b : zU3 h1 h2) : zU3 h h2 := ⟨b.1.trans a.1, b.2.1.trans a.2.1, b.2.2.1.trans a.2.2.1, b.2.2.2.1.trans a.2.2.2.1, fun x y z => (b.2.2.2.2 x y z).trans (a.2.2.2.2 x y z)⟩
theorem zU3.sR {h h1 : zMem} (q : zU3 h h1) {a j : Nat} {v : Option Nat} (c : a = 3 ∧ j = 1 ∨ a = 0 ∧ j = 11 ∨ a = 2 ∧ j = 6) : zU3 h (zsR h1 a j v) := by
  refine ⟨q.1, q.2.1, q.2.2.1, q.2.2.2.1, fun x y z => ?_⟩
  show zup (zR h1) a j v x y = zR h x y
  rw [← q.2.2.2.2 x y z]
  unfold zup
  by_cases e : x = a
  · by_cases e2 : y = j
    · exact absurd (by rw [e, e2]; exact c) z
    · rw [if_pos e, if_neg e2]
  · rw [if_neg e]
theorem zcl1.u3 {h h1 : zMem} {lo hi : Nat} (q : zcl1 h lo hi) (u : zU3 h h1) : zcl1 h1 lo hi := by
  obtain ⟨q1, q2, q3⟩ := q
  refine ⟨by unfold zn; rw [u.1]; exact q1, fun a x y => by rw [u.2.2.1, u.2.2.2.1]; exact q2 a x y, fun a j r x y z => ?_⟩
  rw [u.2.2.2.2 a j ?_]
  · exact q3 a j r x y z
  · rintro (⟨rfl, rfl⟩ | ⟨rfl, rfl⟩ | ⟨rfl, rfl⟩)
    · exact absurd z (by rw [show kR 3 1 = none by decide]; intro z2; cases z2)
    · exact absurd z (by rw [show kR 0 11 = none by decide]; intro z2; cases z2)
    · exact absurd z (by rw [show kR 2 6 = none by decide]; intro z2; cases z2)
theorem zU3.out {h h1 : zMem} (u : zU3 h h1) (q : zO h 174 101 ∧ zLen h 174 = 1) : zO h1 174 101 ∧ zLen h1 174 = 1 := by
  obtain ⟨⟨q1, q2⟩, q3⟩ := q
  refine ⟨⟨by unfold zn at *; rw [u.1]; exact q1, by rw [u.2.2.1]; exact q2⟩, by rw [u.2.2.2.1]; exact q3⟩
/-- a told thing that is cleared -/
def ceP (I : Nat → Nat → Int32) (b : Nat) : Prop := (∀ k, k < 4 → I (b + 1) k = 0) ∧ (∀ dy, dy < 8 → I (b + 8) dy = 0) ∧ (∀ dy s, dy < 8 → s < 6 → I (b + 9 + 1 + dy) s = 0) ∧ (I (b + 21) 7 = 0 ∧ I (b + 21) 8 = 0 ∧ ∀ r, r < 3 → I (b + 21 + 5) r = 0) ∧ I b 9 = 0 ∧ I b 10 = 0 ∧ I b 11 = 0 ∧ I b 12 = 0
def ceR (h : zMem) (b : Nat) (h1 : zMem) : Prop := zW h h1 ∧ ∀ c, (c < b ∨ b + 27 ≤ c) → zI h1 c = zI h c
theorem ceR.sI {h h1 : zMem} {b c j : Nat} {v : Int32} (q : ceR h b h1) (hc : b ≤ c ∧ c < b + 27) : ceR h b (zsI h1 c j v) := ⟨q.1.sI _ _ _, fun x hx => by rw [zI_sI, zup_ne _ _ (by omega)]; exact q.2 x hx⟩
section OP
variable {G : zG} {d t b : Nat} {h : zMem}
theorem X0_clear_ok (hS : zSh1 h t) {l : Nat} (hl : isLw l) : zConV G mX0_clear d [.ref l] h (fun h' => zW h h' ∧ (∀ c, c ≠ l → c ≠ l + 5 → zI h' c = zI h c) ∧ zI h' l 7 = 0 ∧ zI h' l 8 = 0 ∧ (∀ j, j ≠ 7 → j ≠ 8 → zI h' l j = zI h l j) ∧ ∀ r, r < 3 → zI h' (l + 5) r = 0) := by
  refine cn_X0_clear (sg_X0_clear_0 hS hl ?_)
  have L : ∀ m k (h1 : zMem), m + k = 3 → zW h h1 → (∀ c, c ≠ l → c ≠ l + 5 → zI h1 c = zI h c) → zI h1 l 7 = 0 → zI h1 l 8 = 0 → (∀ j, j ≠ 7 → j ≠ 8 → zI h1 l j = zI h l j) → (∀ r, r < k → zI h1 (l + 5) r = 0) → zg G mX0_clear d 12 [.ref l, .int (nI k)] [] h1 (zPV (fun h' => zW h h' ∧ (∀ c, c ≠ l → c ≠ l + 5 → zI h' c = zI h c) ∧ zI h' l 7 = 0 ∧ zI h' l 8 = 0 ∧ (∀ j, j ≠ 7 → j ≠ 8 → zI h' l j = zI h l j) ∧ ∀ r, r < 3 → zI h' (l + 5) r = 0)) := by
    intro m
    induction m with
    | zero =>
      intro k h1 hk w1 e1 e2 e3 e4 e5
      have : k = 3 := by omega
      subst this
      exact sg_X0_clear_12 (hS.W w1) hl ⟨fun _ => ⟨w1, e1, e2, e3, e4, e5⟩, fun c => absurd (show nI 3 ≤ nI 3 from nI_le (Nat.le_refl _) (by decide)) c⟩
    | succ m ih =>
      intro k h1 hk w1 e1 e2 e3 e4 e5
      refine sg_X0_clear_12 (hS.W w1) hl ⟨fun c => absurd c (nI_ge (b := 3) (by omega) (by decide)), fun _ => ⟨zin_n (by omega) (by decide), ?_⟩⟩
      rw [zcla (show k < 2 ^ 31 by omega), nI_1]
      refine ih (k + 1) _ (by omega) (w1.sI _ _ _) (fun c a1 a2 => ?_) ?_ ?_ (fun j a1 a2 => ?_) (fun r hr => ?_)
      · rw [zI_sI, zup_ne _ _ a2]; exact e1 c a1 a2
      · rw [zI_sI, zup_ne _ _ (by omega)]; exact e2
      · rw [zI_sI, zup_ne _ _ (by omega)]; exact e3
      · rw [zI_sI, zup_ne _ _ (by omega)]; exact e4 j a1 a2
      · rw [zI_sI]
        by_cases er : r = k
        · subst er; rw [zup_s]; rfl
        · rw [zup_i _ _ _ er]; exact e5 r (by omega)
  refine L 3 0 _ rfl (((zW.rf h).sI _ _ _).sI _ _ _) (fun c a1 a2 => ?_) ?_ ?_ (fun j a1 a2 => ?_) (fun r hr => absurd hr (by omega))
  · simp only [zI_sI]; rw [zup_ne _ _ a1, zup_ne _ _ a1]
  · simp only [zI_sI]; rw [zup_i _ _ _ (by decide), zup_s]
  · simp only [zI_sI]; rw [zup_s]
  · simp only [zI_sI]; rw [zup_i _ _ _ a2, zup_i _ _ _ a1]
set_option maxHeartbeats 1000000 in
theorem X7_clear_ok (hS : zSh1 h t) (hb : isTd b) : zConV G mX7_clear (d + 1) [.ref b] h (fun h' => ceR h b h' ∧ ceP (zI h') b) := by
  obtain ⟨Q, hQ⟩ : ∃ Q : zMem → Prop, Q = (fun h' => ceR h b h' ∧ ceP (zI h') b) := ⟨_, rfl⟩
  rw [← hQ]
  refine cn_X7_clear (sg_X7_clear_0 hS hb ?_)
  have hl : isLw (b + 21) := by
    rcases hb with rfl | rfl
    · exact Or.inl rfl
    · exact Or.inr rfl
  have L2 : ∀ m k (h1 : zMem), m + k = 8 → ceR h b h1 → (∀ j, j < 4 → zI h1 (b + 1) j = 0) → (∀ j, j < k → zI h1 (b + 8) j = 0) → (∀ j s, j < k → s < 6 → zI h1 (b + 9 + 1 + j) s = 0) → zg G mX7_clear (d + 1) 26 [.ref b, .int (nI k), zU] [] h1 (zPV Q) := by
    intro m
    induction m with
    | zero =>
      intro k h1 hk w1 e1 e2 e3
      have : k = 8 := by omega
      subst this
      refine sg_X7_clear_26 (hS.W w1.1) hb ⟨fun _ => ⟨_, X0_clear_ok (hS.W w1.1) hl, ?_⟩, fun c => absurd (show nI 8 ≤ nI 8 from nI_le (Nat.le_refl _) (by decide)) c⟩
      rintro h3 ⟨a1, a2, a3, a4, a5, a6⟩
      refine ⟨(hS.W w1.1).W a1, ?_⟩
      rw [hQ]
      have w3 : ceR h b h3 := ⟨w1.1.trans a1, fun c hc => (a2 c (by omega) (by omega)).trans (w1.2 c hc)⟩
      refine ⟨(((w3.sI (by omega)).sI (by omega)).sI (by omega)).sI (by omega), ?_⟩
      unfold ceP
      simp only [zI_sI]
      have ne : ∀ k, 0 < k → ∀ f : Nat → Nat → Int32, zup (zup (zup (zup f b 9 0) b 10 0) b 11 0) b 12 0 (b + k) = f (b + k) := fun k hk f => by
        rw [zup_ne _ _ (show b + k ≠ b by omega), zup_ne _ _ (show b + k ≠ b by omega), zup_ne _ _ (show b + k ≠ b by omega), zup_ne _ _ (show b + k ≠ b by omega)]
      refine ⟨fun k hk => ?_, fun j hj => ?_, fun j s hj hs => ?_, ⟨?_, ?_, fun r hr => ?_⟩, ?_, ?_, ?_, ?_⟩
      · rw [ne 1 (by decide), a2 _ (by omega) (by omega)]; exact e1 k hk
      · rw [ne 8 (by decide), a2 _ (by omega) (by omega)]; exact e2 j hj
      · rw [show b + 9 + 1 + j = b + (10 + j) by omega, ne (10 + j) (by omega), a2 _ (by omega) (by omega), show b + (10 + j) = b + 9 + 1 + j by omega]; exact e3 j s hj hs
      · rw [ne 21 (by decide)]; exact a3
      · rw [ne 21 (by decide)]; exact a4
      · rw [show b + 21 + 5 = b + 26 by omega, ne 26 (by decide)]; exact a6 r hr
      · rw [zup_i _ _ _ (by decide), zup_i _ _ _ (by decide), zup_i _ _ _ (by decide), zup_s]
      · rw [zup_i _ _ _ (by decide), zup_i _ _ _ (by decide), zup_s]
      · rw [zup_i _ _ _ (by decide), zup_s]
      · rw [zup_s]
    | succ m ih =>
      intro k h1 hk w1 e1 e2 e3
      have L3 : ∀ m2 s (h2 : zMem), m2 + s = 6 → ceR h b h2 → (∀ j, j < 4 → zI h2 (b + 1) j = 0) → (∀ j, j < k + 1 → zI h2 (b + 8) j = 0) → (∀ j s, j < k → s < 6 → zI h2 (b + 9 + 1 + j) s = 0) → (∀ s', s' < s → zI h2 (b + 9 + 1 + k) s' = 0) → zg G mX7_clear (d + 1) 41 [.ref b, .int (nI k), .int (nI s)] [] h2 (zPV Q) := by
        intro m2
        induction m2 with
        | zero =>
          intro s h2 hs w2 g1 g2 g3 g4
          have : s = 6 := by omega
          subst this
          refine sg_X7_clear_41 (hS.W w2.1) hb ⟨fun _ => ?_, fun c => absurd (show nI 6 ≤ nI 6 from nI_le (Nat.le_refl _) (by decide)) c⟩
          rw [nI_1]
          refine ih (k + 1) h2 (by omega) w2 g1 g2 (fun j s hj hs => ?_)
          by_cases ej : j = k
          · subst ej; exact g4 s hs
          · exact g3 j s (by omega) hs
        | succ m2 ih2 =>
          intro s h2 hs w2 g1 g2 g3 g4
          refine sg_X7_clear_41 (hS.W w2.1) hb ⟨fun c => absurd c (nI_ge (b := 6) (by omega) (by decide)), fun _ => ⟨zin_n (by omega) (by decide), zin_n (by omega) (by decide), ?_⟩⟩
          rw [zcla (show k < 2 ^ 31 by omega), zcla (show s < 2 ^ 31 by omega), nI_1]
          refine ih2 (s + 1) _ (by omega) (w2.sI (by omega)) (fun j hj => ?_) (fun j hj => ?_) (fun j s' hj hs' => ?_) (fun s' hs' => ?_)
          · rw [zI_sI, zup_ne _ _ (by omega)]; exact g1 j hj
          · rw [zI_sI, zup_ne _ _ (by omega)]; exact g2 j hj
          · rw [zI_sI, zup_ne _ _ (by omega)]; exact g3 j s' hj hs'
          · rw [zI_sI]
            by_cases es : s' = s
            · subst es; rw [zup_s]
            · rw [zup_i _ _ _ es]; exact g4 s' (by omega)
      refine sg_X7_clear_26 (hS.W w1.1) hb ⟨fun c => absurd c (nI_ge (b := 8) (by omega) (by decide)), fun _ => ⟨zin_n (by omega) (by decide), ?_⟩⟩
      rw [zcla (show k < 2 ^ 31 by omega)]
      refine L3 6 0 _ rfl (w1.sI (by omega)) (fun j hj => ?_) (fun j hj => ?_) (fun j s hj hs => ?_) (fun s hs => absurd hs (by omega))
      · rw [zI_sI, zup_ne _ _ (by omega)]; exact e1 j hj
      · rw [zI_sI]
        by_cases ej : j = k
        · subst ej; rw [zup_s]; rfl
        · rw [zup_i _ _ _ ej]; exact e2 j (by omega)
      · rw [zI_sI, zup_ne _ _ (by omega)]; exact e3 j s hj hs
  have L1 : ∀ m k (h1 : zMem), m + k = 4 → ceR h b h1 → (∀ j, j < k → zI h1 (b + 1) j = 0) → zg G mX7_clear (d + 1) 2 [.ref b, .int (nI k), zU] [] h1 (zPV Q) := by
    intro m
    induction m with
    | zero =>
      intro k h1 hk w1 e1
      have : k = 4 := by omega
      subst this
      exact sg_X7_clear_2 (hS.W w1.1) hb ⟨fun _ => L2 8 0 h1 rfl w1 e1 (fun j hj => absurd hj (by omega)) (fun j s hj => absurd hj (by omega)), fun c => absurd (nI_le (Nat.le_refl _) (by decide)) c⟩
    | succ m ih =>
      intro k h1 hk w1 e1
      refine sg_X7_clear_2 (hS.W w1.1) hb ⟨fun c => absurd c (nI_ge (by omega) (by decide)), fun _ => ⟨zin_n (by omega) (by decide), ?_⟩⟩
      rw [zcla (show k < 2 ^ 31 by omega), nI_1]
      refine ih (k + 1) _ (by omega) (w1.sI (by omega)) (fun j hj => ?_)
      rw [zI_sI]
      by_cases ej : j = k
      · subst ej; rw [zup_s]
      · rw [zup_i _ _ _ ej]; exact e1 j (by omega)
  exact L1 4 0 h rfl ⟨zW.rf h, fun _ _ => rfl⟩ (fun j hj => absurd hj (by omega))
/-- the text is open: the reader stands before its first token -/
def opR (h : zMem) (t n : Nat) (B : Nat → Int32) (h0 : zMem) : Prop := zU3 h h0 ∧ rB h0 t (111 - t) n B ∧ (∀ c, c ≠ 2 → c ≠ 3 → (c < 111 - t ∨ 111 - t + 27 ≤ c) → zI h0 c = zI h c) ∧ ceP (zI h0) (111 - t) ∧ rC h0 (111 - t) n (fun k => zI h0 (111 - t + k)) 0 h0
theorem X3_open_ok {n : Nat} (hS : zSh1 h t) (hn : n ≤ 700) (hW : ∀ k, k < 22 → zI h 4 k = wdT k) : zConV G mX3_open (d + 5) [.ref 2, .ref 1, .int (nI n)] h (fun h0 => zSh1 h0 t ∧ opR h t n (zI h 1) h0) := by
  have hb : isTd (111 - t) := by
    rcases hS.2.1 with rfl | rfl
    · exact Or.inr rfl
    · exact Or.inl rfl
  have hb2 : 111 - t = 8 ∨ 111 - t = 103 := by rcases hS.2.1 with rfl | rfl <;> omega
  refine cn_X3_open (sg_X3_open_0 hS ⟨_, X7_clear_ok hS hb, ?_⟩)
  rintro h2 ⟨⟨c1, c2⟩, c3⟩
  have S2 := hS.W c1
  refine ⟨S2, ?_⟩
  obtain ⟨h3, e3⟩ : ∃ h3, h3 = zsI (zsI h2 2 7 0) 2 8 (-1) := ⟨_, rfl⟩
  rw [← e3]
  have w3 : zW h h3 := by rw [e3]; exact (c1.sI _ _ _).sI _ _ _
  have S3 := hS.W w3
  have i3 : ∀ c, c ≠ 2 → zI h3 c = zI h2 c := fun c hc => by rw [e3]; simp only [zI_sI]; rw [zup_ne _ _ hc, zup_ne _ _ hc]
  have j7 : zI h3 2 7 = 0 := by rw [e3]; simp only [zI_sI]; rw [zup_i _ _ _ (by decide), zup_s]
  have j8 : zI h3 2 8 = -1 := by rw [e3]; simp only [zI_sI]; rw [zup_s]
  obtain ⟨h4, e4⟩ : ∃ h4, h4 = zsI (zsI (zsR h3 3 1 (some 1)) 3 2 (nI n)) 3 3 0 := ⟨_, rfl⟩
  have u4 : zU3 h h4 := by
    rw [e4]
    exact (w3.u3.sR (Or.inl ⟨rfl, rfl⟩)).trans (((zW.rf _).sI _ _ _).sI _ _ _).u3
  have r4 : ∀ a j, ¬ (a = 3 ∧ j = 1) → zR h4 a j = zR h a j := fun a j hc => by
    rw [e4]
    show zup (zR h3) 3 1 (some 1) a j = zR h a j
    have : zR h3 = zR h := by unfold zR; rw [w3.2]
    rw [this]
    unfold zup
    by_cases ea : a = 3
    · by_cases ej : j = 1
      · exact absurd ⟨ea, ej⟩ hc
      · rw [if_pos ea, if_neg ej]
    · rw [if_neg ea]
  have S4 : zSh1 h4 t := ⟨hS.1.u3 u4, hS.2.1, by rw [r4 0 11 (by decide)]; exact hS.2.2.1, by rw [r4 2 6 (by decide)]; exact hS.2.2.2⟩
  have i4 : ∀ c, c ≠ 3 → zI h4 c = zI h3 c := fun c hc => by rw [e4]; show zup (zup (zI h3) 3 2 (nI n)) 3 3 0 c = zI h3 c; rw [zup_ne _ _ hc, zup_ne _ _ hc]
  refine ⟨fun h5 => avR h4 n 0 h5, cn_X4_open (sg_X4_open_0 S3 ⟨(sh_o1 S3).1, ?_⟩), ?_⟩
  · rw [(sh_o1 S3).2, if_neg (nI_nlt hn (by decide)), ← e4]
    refine ⟨_, X4_advance_ok (p := 0) S4 (by rw [e4]; exact zup_s (zR h3) 3 1 (some 1)) (by rw [e4]; show zup (zup (zI h3) 3 2 (nI n)) 3 3 0 3 2 = nI n; rw [zup_i _ _ _ (by decide), zup_s]) (by rw [e4]; exact zup_s (zup (zI h3) 3 2 (nI n)) 3 3 0) (Nat.zero_le _) hn (fun k hk => by rw [i4 4 (by decide), i3 4 (by decide), c2 4 (by omega)]; exact hW k hk), fun h6 z => ⟨S4.W z.1, z⟩⟩
  rintro h5 ⟨a1, a2, a3⟩
  have S5 := S4.W a1
  have i5 : ∀ c, c ≠ 2 → c ≠ 3 → zI h5 c = zI h2 c := fun c x y => (a2 c y).trans ((i4 c y).trans (i3 c x))
  have i52 : zI h5 2 = zI h3 2 := (a2 2 (by decide)).trans (i4 2 (by decide))
  have rows : ∀ k, k < 27 → zI h5 (111 - t + k) = zI h2 (111 - t + k) := fun k hk => i5 _ (by omega) (by omega)
  have k1 : zI h5 1 = zI h 1 := (i5 1 (by decide) (by decide)).trans (c2 1 (by omega))
  refine ⟨S5, S5, u4.trans a1.u3, ⟨S5, ?_, hn, fun k hk => ?_, rfl, k1⟩, fun c x y z => (i5 c x y).trans (c2 c z), ?_, zW.rf _, fun _ _ _ _ _ _ => rfl, a3, Nat.zero_le _, ⟨fun _ _ _ => rfl, fun _ _ => rfl⟩, ?_⟩
  · have : zR h5 = zR h4 := by unfold zR; rw [a1.2]
    rw [this, e4]; exact zup_s (zR h3) 3 1 (some 1)
  · rw [i5 4 (by decide) (by decide), c2 4 (by omega)]; exact hW k hk
  · obtain ⟨p1, p2, p3, p4, p5⟩ := c3
    have r0 : zI h5 (111 - t) = zI h2 (111 - t) := rows 0 (by decide)
    unfold ceP
    rw [rows 1 (by decide), rows 8 (by decide), rows 21 (by decide), r0, show 111 - t + 21 + 5 = 111 - t + 26 by omega, rows 26 (by decide)]
    rw [show 111 - t + 21 + 5 = 111 - t + 26 by omega] at p4
    exact ⟨p1, p2, fun j s hj hs => by rw [show 111 - t + 9 + 1 + j = 111 - t + (10 + j) by omega, rows _ (by omega), show 111 - t + (10 + j) = 111 - t + 9 + 1 + j by omega]; exact p3 j s hj hs, p4, p5⟩
  · rw [i52]; exact ⟨j7, j8⟩
end OP
