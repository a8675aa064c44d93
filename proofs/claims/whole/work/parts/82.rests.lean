/-! two sextons -/
theorem rnI_bump {C N : Nat → Nat → Int32} {t ns nd nr nm dt s0 : Nat} {v : Int32} (ht : isTd t) (h6 : ns ≤ 6) (h8 : nd ≤ 8) (hs : s0 < 6) (hv : ∃ w, w ≤ 297 ∧ v = nI w) (i : rnI C N 82 t 1 ns nd nr nm dt) : rnI (zup C 84 s0 v) (zup N 157 (6 + s0) v) 82 t 1 ns nd nr nm dt := by
  have tn : t = 8 ∨ t = 103 := ht
  obtain ⟨i1, i2, i3, i4, i5, i6⟩ := i
  have e : ∀ c, c ≠ 84 → c ≠ 157 → mg (zup C 84 s0 v) (zup N 157 (6 + s0) v) c = mg C N c := fun c a b => by
    by_cases l : c < 132
    · rw [mg_lo l, mg_lo l, zup_ne _ _ a]
    · rw [mg_hi (by omega), mg_hi (by omega), zup_ne _ _ b]
  have n : ∀ c, c ≠ 157 → zup N 157 (6 + s0) v c = N c := fun c a => zup_ne _ _ a
  have h6r : nr ≤ 6 := i5.2.2.2.2.2.2.1
  refine ⟨rlT_E h8 (fun k hk => e _ (by omega) (by omega)) (fun c a b => e c (by omega) (by omega)) i1, ?_, ?_, ?_, ?_, ?_⟩
  · unfold pln; rw [n 132 (by decide)]; exact i2
  · rw [n 132 (by decide)]; exact i3
  · obtain ⟨s1, s2, s3, s4, s5, s6, s7, s8, s9⟩ := i4
    refine ⟨?_, ?_, ?_, ?_, ?_, fun s hs' => ⟨?_, ?_⟩, ?_, fun p s hp hs' => ?_, ?_⟩
    · rw [e 82 (by decide) (by decide), e 151 (by decide) (by decide)]; exact s1
    · rw [e 82 (by decide) (by decide), e 152 (by decide) (by decide)]; exact s2
    · rw [e 82 (by decide) (by decide), e 153 (by decide) (by decide)]; exact s3
    · rw [e 82 (by decide) (by decide), e 154 (by decide) (by decide)]; exact s4
    · rw [e 82 (by decide) (by decide)]; exact s5
    · rw [e (82 + 1) (by decide) (by decide), e 156 (by decide) (by decide)]; exact (s6 s hs').1
    · rw [mg_lo (by decide), mg_hi (by decide)]
      show zup C 84 s0 v 84 s = zup N 157 (6 + s0) v 157 (6 + s)
      by_cases q : s = s0
      · subst q; rw [zup_s, zup_s]
      · rw [zup_i _ _ _ q, zup_i _ _ _ (by omega)]
        have := (s6 s hs').2
        rw [mg_lo (by decide), mg_hi (by decide)] at this; exact this
    · rw [e (82 + 3) (by decide) (by decide), e 141 (by decide) (by decide)]; exact s7
    · rw [e (82 + 4 + 1 + p) (by omega) (by omega), e 158 (by decide) (by decide)]; exact s8 p s hp hs'
    · rw [e (82 + 11) (by decide) (by decide), e (82 + 12) (by decide) (by decide), e (82 + 13) (by decide) (by decide), e (82 + 14) (by decide) (by decide), e 159 (by decide) (by decide), e 160 (by decide) (by decide), e 161 (by decide) (by decide), e 162 (by decide) (by decide)]; exact s9
  · exact mdOK_E i5 (fun c hc => n c (by omega)) (fun k _ => by rw [n 132 (by decide)])
  · obtain ⟨a1, a2, a3, a4, a5, a6⟩ := i6
    refine ⟨?_, ?_, ?_, fun s hs' => ?_, ?_, ?_⟩
    · rw [n 159 (by decide)]; exact a1
    · rw [n 162 (by decide)]; exact a2
    · rw [n 151 (by decide)]; exact a3
    · show ∃ w, w ≤ 297 ∧ zup N 157 (6 + s0) v 157 (6 + s) = nI w
      by_cases q : s = s0
      · subst q; rw [zup_s]; exact hv
      · rw [zup_i _ _ _ (by omega)]; exact a4 s hs'
    · rw [n 158 (by decide)]; exact a5
    · rw [n 156 (by decide)]; exact a6
def wd2 (C : Nat → Nat → Int32) (c o a b : Nat) (mu : Int32) : Nat → Nat → Int32 := zup (zup C c (o + a) (C c (o + a) + mu)) c (o + b) (zup C c (o + a) (C c (o + a) + mu) c (o + b) + mu)
/-- so many think it a feast, when both burn: what the class found -/
def sxR (I : Nat → Nat → Int32) (t ns nd nr nm dt a b : Nat) (mu : Int32) (f : Nat) : Prop := ∃ C J, clQ I C 82 48 ∧ (∀ c, c < 82 ∨ (99 ≤ c ∧ c ≠ 100) → C c = I c) ∧ mornR (wd2 C 84 0 a b mu) J 82 t ns nd nr nm dt ∧ f = fthF (I (t + 8)) (J 96) nm
theorem fthF_le {fe th : Nat → Int32} : ∀ m, fthF fe th m ≤ m
  | 0 => Nat.le_refl _
  | m + 1 => by
    have := fthF_le (fe := fe) (th := th) m
    rw [fthF]
    split <;> omega
theorem wd2_ne {C : Nat → Nat → Int32} {c o a b x : Nat} {mu : Int32} (h : x ≠ c) : wd2 C c o a b mu x = C x := by unfold wd2; rw [zup_ne _ _ h, zup_ne _ _ h]
theorem ix6' (a b : Nat) : nI a * 6 + nI b = nI (6 * a + b) := by
  rw [show nI a * 6 = nI (a * 6) from pk_mul a 6, nI_add, Nat.mul_comm]
set_option maxHeartbeats 4000000 in
theorem X9_countFeastThinkers_ok {G : zG} {d t ns nd nr nm dt : Nat} {h : zMem} (hS : zSh1 h t) (hT : tdOK (zI h) t ns nd nr nm) (hO : stOK (zI h) 48 nd nr nm dt) (hd : dt ≤ 9999) (hpos : 0 < nd) (mu : Int32) :
    zConV G mX9_countFeastThinkers (d + 6) [.ref 0, .int mu] h (fun h' => zW h h' ∧ (∀ c, c < 82 ∨ (99 ≤ c ∧ c ≠ 100) → zI h' c = zI h c) ∧ ∀ a b, a < ns → b < ns → ∃ f, f ≤ nm ∧ sxR (zI h) t ns nd nr nm dt a b mu f ∧ zI h' 100 (6 * a + b) = nI f) := by
  have tn : t = 8 ∨ t = 103 := hS.2.1
  have T := hT
  obtain ⟨t0, t1, t2, t3, h6, h8, h6r, h5, hlw⟩ := T
  refine cn_X9_countFeastThinkers (sg_X9_countFeastThinkers_0 hS ?_)
  obtain ⟨Q, hQ⟩ : ∃ Q : zMem → Prop, Q = (fun h' => zW h h' ∧ (∀ c, c < 82 ∨ (99 ≤ c ∧ c ≠ 100) → zI h' c = zI h c) ∧ ∀ a b, a < ns → b < ns → ∃ f, f ≤ nm ∧ sxR (zI h) t ns nd nr nm dt a b mu f ∧ zI h' 100 (6 * a + b) = nI f) := ⟨_, rfl⟩
  rw [← hQ]
  have inner : ∀ (a : Nat), a < ns → (∀ h1 : zMem, zSh1 h1 t → zW h h1 → (∀ c, c < 82 ∨ (99 ≤ c ∧ c ≠ 100) → zI h1 c = zI h c) → (∀ a' b, a' < a + 1 → b < ns → ∃ f, f ≤ nm ∧ sxR (zI h) t ns nd nr nm dt a' b mu f ∧ zI h1 100 (6 * a' + b) = nI f) → zg G mX9_countFeastThinkers (d + 6) 2 [.ref 0, .int mu, .int (nI (a + 1)), zU] [] h1 (zPV Q)) →
      ∀ n b (h1 : zMem), n + b = ns → zSh1 h1 t → zW h h1 → (∀ c, c < 82 ∨ (99 ≤ c ∧ c ≠ 100) → zI h1 c = zI h c) → (∀ a' b', a' < a → b' < ns → ∃ f, f ≤ nm ∧ sxR (zI h) t ns nd nr nm dt a' b' mu f ∧ zI h1 100 (6 * a' + b') = nI f) → (∀ b', b' < b → ∃ f, f ≤ nm ∧ sxR (zI h) t ns nd nr nm dt a b' mu f ∧ zI h1 100 (6 * a + b') = nI f) → zg G mX9_countFeastThinkers (d + 6) 17 [.ref 0, .int mu, .int (nI a), .int (nI b)] [] h1 (zPV Q) := by
    intro a ha K n
    induction n with
    | zero =>
      intro b h1 hb s1 q1 q2 q3 q4
      refine sg_X9_countFeastThinkers_17 s1 ?_
      rw [q2 (t + 1) (by omega), t0, nI_1]
      refine ⟨fun _ => K h1 s1 q1 q2 (fun a' b' x y => ?_), fun c => absurd (nI_le (by omega) (by omega)) c⟩
      by_cases e : a' = a
      · subst e; exact q4 b' (by omega)
      · exact q3 a' b' (by omega) y
    | succ n ih =>
      intro b h1 hb s1 q1 q2 q3 q4
      refine sg_X9_countFeastThinkers_17 s1 ?_
      rw [q2 (t + 1) (by omega), t0]
      refine ⟨fun c => absurd c (nI_ge (by omega) (by omega)), fun _ => ⟨_, X5_copy_ok s1 (Or.inr (Or.inr rfl)) (Or.inl rfl) (by decide), ?_⟩⟩
      rintro h3 ⟨c1, c2⟩
      have s3 := s1.W c1
      rw [zcla (show a < 2 ^ 31 by omega), zcla (show b < 2 ^ 31 by omega), ix6', zcla (show 6 * a + b < 2 ^ 31 by omega), nI_1]
      obtain ⟨h4, e4⟩ : ∃ h4, h4 = zsI (zsI h3 84 a (zI h3 84 a + mu)) 84 b (zI (zsI h3 84 a (zI h3 84 a + mu)) 84 b + mu) := ⟨_, rfl⟩
      have i4 : zI h4 = wd2 (zI h3) 84 0 a b mu := by
        rw [e4]; unfold wd2; simp only [Nat.zero_add]; rfl
      have w4 : zW h3 h4 := by rw [e4]; exact ((zW.rf h3).sI _ _ _).sI _ _ _
      have s4 := s3.W w4
      have f3 : ∀ c, c < 82 ∨ (99 ≤ c ∧ c ≠ 100) → zI h3 c = zI h c := fun c hc => (c2.1 c (by omega)).trans (q2 c hc)
      have f4 : ∀ c, c < 82 ∨ (99 ≤ c ∧ c ≠ 100) → zI h4 c = zI h c := fun c hc => by rw [i4, wd2_ne (by omega)]; exact f3 c hc
      have cl : clQ (zI h) (zI h3) 82 48 := by
        have := c2.q
        unfold clQ at *
        rw [q2 48 (by omega), q2 (48 + 1) (by omega), q2 (48 + 2) (by omega), q2 (48 + 3) (by omega), q2 (48 + 11) (by omega), q2 (48 + 12) (by omega), q2 (48 + 13) (by omega), q2 (48 + 14) (by omega)] at this
        refine ⟨this.1, this.2.1, fun p s hp hs => ?_, this.2.2.2⟩
        rw [this.2.2.1 p s hp hs, q2 (48 + 4 + 1 + p) (by omega)]
      have st4 : stOK (zI h4) 82 nd nr nm dt := by
        obtain ⟨o1, o2, o3⟩ := hO
        rw [i4]
        refine ⟨fun m hm => ?_, fun m hm h0 => ?_, ?_⟩
        · rw [wd2_ne (by decide), (cl.2.1 m (by omega)).1]; exact o1 m hm
        · rw [wd2_ne (by decide), (cl.2.1 m (by omega)).2.2.2]; exact o2 m hm h0
        · rw [wd2_ne (by decide), cl.2.2.2.1]; exact o3
      rw [← e4]
      refine ⟨s3, zin_n (by omega) (by decide), zin_n (by omega) (by decide), cl_morn (b := 82) s4 (Or.inr (Or.inr rfl)) (tdOK_E (fun k hk => f4 _ (by omega)) hT) st4 (by omega) (fun h8 s8 w8 m8 => ?_)⟩
      have f8 : ∀ c, c < 82 ∨ (99 ≤ c ∧ c ≠ 100) → zI h8 c = zI h c := fun c hc => (m8.1 c (by omega)).trans (f4 c hc)
      have st8 := m8.st st4
      refine ⟨_, X5_feastThinkers_ok (b := 82) s8 (Or.inr (Or.inr rfl)) s8.2.1 (by rw [f8 (t + 1) (by omega)]; exact t3) h5 (fun m hm => by obtain ⟨j, hj, ej⟩ := st8.2.1 m hm hpos; exact ⟨j, by omega, ej⟩), ?_⟩
      rintro v h11 ⟨rfl, rfl⟩
      have ef : fthF (zI h11 (t + 8)) (zI h11 (82 + 14)) nm = fthF (zI h (t + 8)) (zI h11 96) nm := by rw [f8 (t + 8) (by omega)]
      rw [ef]
      have sx : sxR (zI h) t ns nd nr nm dt a b mu (fthF (zI h (t + 8)) (zI h11 96) nm) := ⟨zI h3, zI h11, cl, f3, by rw [i4] at m8; exact m8, rfl⟩
      refine ⟨s8, zin_n (by omega) (by decide), ih (b + 1) _ (by omega) (s8.W ((zW.rf _).sI _ _ _)) ((((q1.trans c1).trans w4).trans w8).sI _ _ _) (fun c hc => ?_) (fun a' b' x y => ?_) (fun b' y => ?_)⟩
      · rw [zI_sI, zup_ne _ _ (by omega)]; exact f8 c hc
      · obtain ⟨f, f5, fs, fe⟩ := q3 a' b' x y
        refine ⟨f, f5, fs, ?_⟩
        rw [zI_sI, zup_i _ _ _ (by omega), m8.1 100 (by decide), i4, wd2_ne (by decide), c2.1 100 (by decide)]; exact fe
      · by_cases e : b' = b
        · subst e; exact ⟨_, fthF_le _, sx, by rw [zI_sI, zup_s]⟩
        · obtain ⟨f, f5, fs, fe⟩ := q4 b' (by omega)
          refine ⟨f, f5, fs, ?_⟩
          rw [zI_sI, zup_i _ _ _ (by omega), m8.1 100 (by decide), i4, wd2_ne (by decide), c2.1 100 (by decide)]; exact fe
  have outer : ∀ n a (h1 : zMem), n + a = ns → zSh1 h1 t → zW h h1 → (∀ c, c < 82 ∨ (99 ≤ c ∧ c ≠ 100) → zI h1 c = zI h c) → (∀ a' b, a' < a → b < ns → ∃ f, f ≤ nm ∧ sxR (zI h) t ns nd nr nm dt a' b mu f ∧ zI h1 100 (6 * a' + b) = nI f) → zg G mX9_countFeastThinkers (d + 6) 2 [.ref 0, .int mu, .int (nI a), zU] [] h1 (zPV Q) := by
    intro n
    induction n with
    | zero =>
      intro a h1 hk s1 q1 q2 q3
      refine sg_X9_countFeastThinkers_2 s1 ?_
      rw [q2 (t + 1) (by omega), t0, hQ]
      exact ⟨fun _ => ⟨q1, q2, fun a' b x y => q3 a' b (by omega) y⟩, fun c => absurd (nI_le (by omega) (by omega)) c⟩
    | succ n ih =>
      intro a h1 hk s1 q1 q2 q3
      refine sg_X9_countFeastThinkers_2 s1 ?_
      rw [q2 (t + 1) (by omega), t0]
      exact ⟨fun c => absurd c (nI_ge (by omega) (by omega)), fun _ => inner a (by omega) (fun h2 s2 a1 a2 a3 => ih (a + 1) h2 (by omega) s2 a1 a2 a3) ns 0 h1 (by omega) s1 q1 q2 q3 (fun b' hb' => absurd hb' (by omega))⟩
  exact outer ns 0 h (by omega) hS (zW.rf h) (fun _ _ => rfl) (fun a' b x => absurd x (by omega))
/-- rest, by the table -/
def isRb (F : Nat → Nat) (a b : Nat) : Nat → Nat → Bool
  | 0, _ => true
  | n + 1, k => if F (6 * a + b) < F (6 * k + b) then false else if F (6 * a + k) < F (6 * a + b) then false else isRb F a b n (k + 1)
set_option maxHeartbeats 1000000 in
theorem X9_isRest_ok {G : zG} {d t ns a b : Nat} {h : zMem} {F : Nat → Nat} (hS : zSh1 h t) (hn : zI h (t + 1) 0 = nI ns) (h6 : ns ≤ 6) (ha : a < ns) (hb : b < ns) (hF : ∀ a b, a < ns → b < ns → F (6 * a + b) ≤ 5 ∧ zI h 100 (6 * a + b) = nI (F (6 * a + b))) : zConI G mX9_isRest d [.ref 0, .int (nI a), .int (nI b)] h (fun v h' => v = b32 (isRb F a b ns 0) ∧ h' = h) := by
  refine cn_X9_isRest (sg_X9_isRest_0 hS ?_)
  rw [ix6', zcla (show 6 * a + b < 2 ^ 31 by omega), (hF a b ha hb).2]
  refine ⟨zin_n (by omega) (by decide), ?_⟩
  have loop : ∀ n k, n + k = ns → isRb F a b n k = isRb F a b ns 0 → zg G mX9_isRest d 15 [.ref 0, .int (nI a), .int (nI b), .int (nI (F (6 * a + b))), .int (nI k), zU, zU] [] h (zPI (fun v h' => v = b32 (isRb F a b ns 0) ∧ h' = h)) := by
    intro n
    induction n with
    | zero =>
      intro k hk e
      refine sg_X9_isRest_15 hS ?_
      rw [hn, ← e]
      exact ⟨fun _ => ⟨rfl, rfl⟩, fun c => absurd (nI_le (by omega) (by omega)) c⟩
    | succ n ih =>
      intro k hk e
      have f0 := (hF a b ha hb).1
      have f1 := hF k b (by omega) hb
      have f2 := hF a k ha (by omega)
      rw [isRb] at e
      refine sg_X9_isRest_15 hS ?_
      rw [hn, ix6', ix6', zcla (show 6 * k + b < 2 ^ 31 by omega), zcla (show 6 * a + k < 2 ^ 31 by omega), f1.2, f2.2, nI_1]
      refine ⟨fun c => absurd c (nI_ge (by omega) (by omega)), fun _ => ⟨zin_n (by omega) (by decide), fun c1 => ⟨zin_n (by omega) (by decide), fun c2 => ⟨fun q => absurd rfl q, fun _ => ⟨fun _ => ih (k + 1) (by omega) ?_, fun q => absurd rfl q⟩⟩, fun c2 => ⟨fun q => absurd rfl q, fun _ => ⟨fun q => absurd q n10, fun _ => ⟨?_, rfl⟩⟩⟩⟩, fun c1 => ⟨zin_n (by omega) (by decide), fun c2 => ⟨fun _ => ⟨?_, rfl⟩, fun q => absurd q n10⟩, fun c2 => ⟨fun _ => ⟨?_, rfl⟩, fun q => absurd q n10⟩⟩⟩⟩
      · have a1 := (nI_leI (by omega) (by omega)).mp c1
        have a2 := (nI_leI (by omega) (by omega)).mp c2
        rw [if_neg (by omega), if_neg (by omega)] at e; exact e
      · have a1 := (nI_leI (by omega) (by omega)).mp c1
        have a2 : ¬ F (6 * a + b) ≤ F (6 * a + k) := fun q => c2 (nI_le q (by omega))
        rw [if_neg (by omega), if_pos (by omega)] at e; rw [← e]; rfl
      · have a1 : ¬ F (6 * k + b) ≤ F (6 * a + b) := fun q => c1 (nI_le q (by omega))
        rw [if_pos (by omega)] at e; rw [← e]; rfl
      · have a1 : ¬ F (6 * k + b) ≤ F (6 * a + b) := fun q => c1 (nI_le q (by omega))
        rw [if_pos (by omega)] at e; rw [← e]; rfl
  exact loop ns 0 (by omega) rfl
set_option maxHeartbeats 1000000 in
theorem X10_isRest_ok {G : zG} {d ns nm a b : Nat} {h : zMem} {F : Nat → Nat} (hS : zSh2 h) (hn : zI h 134 0 = nI ns) (h6 : ns ≤ 6) (h5 : nm ≤ 5) (ha : a < ns) (hb : b < ns) (hF : ∀ a b, a < ns → b < ns → F (6 * a + b) ≤ nm ∧ zI h 166 (6 * a + b) = nI (F (6 * a + b)) ∧ zI h 167 (6 * a + b) = nI (nm - F (6 * a + b))) : zConI G mX10_isRest d [.ref 132, .int (nI a), .int (nI b)] h (fun v h' => v = b32 (isRb F a b ns 0) ∧ h' = h) := by
  refine cn_X10_isRest (sg_X10_isRest_0 hS ?_)
  have loop : ∀ n k, n + k = ns → isRb F a b n k = isRb F a b ns 0 → zg G mX10_isRest d 2 [.ref 132, .int (nI a), .int (nI b), .int (nI k)] [] h (zPI (fun v h' => v = b32 (isRb F a b ns 0) ∧ h' = h)) := by
    intro n
    induction n with
    | zero =>
      intro k hk e
      refine sg_X10_isRest_2 hS ?_
      rw [hn, ← e]
      exact ⟨fun _ => ⟨rfl, rfl⟩, fun c => absurd (nI_le (by omega) (by omega)) c⟩
    | succ n ih =>
      intro k hk e
      have f0 := hF a b ha hb
      have f1 := hF k b (by omega) hb
      have f2 := hF a k ha (by omega)
      rw [isRb] at e
      refine sg_X10_isRest_2 hS ?_
      rw [hn, ix6, ix6, ix6, zcla (show 6 * k + b < 2 ^ 31 by omega), zcla (show 6 * a + k < 2 ^ 31 by omega), zcla (show 6 * a + b < 2 ^ 31 by omega), f1.2.1, f2.2.2, f0.2.1, f0.2.2, nI_1]
      refine ⟨fun c => absurd c (nI_ge (by omega) (by omega)), fun _ => ⟨zin_n (by omega) (by decide), zin_n (by omega) (by decide), fun c1 => ⟨?_, rfl⟩, fun c1 => ⟨zin_n (by omega) (by decide), fun c2 => ih (k + 1) (by omega) ?_, fun c2 => ⟨?_, rfl⟩⟩⟩⟩
      · have a1 := (nI_ltI (by omega) (by omega)).mp c1
        rw [if_pos a1] at e; rw [← e]; rfl
      · have a1 : ¬ F (6 * a + b) < F (6 * k + b) := fun q => c1 (nI_lt q (by omega))
        have a2 := (nI_leI (by omega) (by omega)).mp c2
        rw [if_neg a1, if_neg (by omega)] at e; exact e
      · have a1 : ¬ F (6 * a + b) < F (6 * k + b) := fun q => c1 (nI_lt q (by omega))
        have a2 : ¬ nm - F (6 * a + k) ≤ nm - F (6 * a + b) := fun q => c2 (nI_le q (by omega))
        rw [if_neg a1, if_pos (by omega)] at e; rw [← e]; rfl
  exact loop ns 0 (by omega) rfl
/-- how many pairs; the l-th of them -/
def ctI (p : Nat → Bool) : Nat → Nat → Nat
  | 0, _ => 0
  | m + 1, b => (if p b = true then 1 else 0) + ctI p m (b + 1)
def ctO (p : Nat → Nat → Bool) (ns : Nat) : Nat → Nat → Nat
  | 0, _ => 0
  | n + 1, a => ctI (p a) ns 0 + ctO p ns n (a + 1)
def fdI (p : Nat → Bool) (K : Nat → Int32) (a : Nat) : Nat → Nat → Nat → Int32
  | 0, _, l => K l
  | m + 1, b, l => if p b = true then (if l = 0 then nI (10 * a + b) else fdI p K a m (b + 1) (l - 1)) else fdI p K a m (b + 1) l
def fdO (p : Nat → Nat → Bool) (ns : Nat) : Nat → Nat → Nat → Int32
  | 0, _, _ => -2
  | n + 1, a, l => fdI (p a) (fun l' => fdO p ns n (a + 1) l') a ns 0 l
theorem b32_0 {b : Bool} : b32 b = 0 ↔ ¬ b = true := by cases b <;> decide
set_option maxHeartbeats 4000000 in
theorem X10_laySextons_ok {G : zG} {d t ns nd nr nm dt u nn tp : Nat} {h h0 : zMem} {mu : Nat} {F : Nat → Nat} (ht : isTd t) (hS : zSh2 h) (hI : zInv (zI h0) t ns nd nr nm dt u nn tp) (hX : eT (zI h0) (zI h)) (hmu : mu ≤ 99) (hpos : 0 < nd) (hF : ∀ a b, a < ns → b < ns → F (6 * a + b) ≤ nm ∧ sxR (zI h0) t ns nd nr nm dt a b (nI mu) (F (6 * a + b))) :
    zConV G mX10_laySextons (d + 9) [.ref 132, .int (nI mu)] h (fun h' => jR h h' ∧ ∀ a b, a < ns → b < ns → zI h' 166 (6 * a + b) = nI (F (6 * a + b)) ∧ zI h' 167 (6 * a + b) = nI (nm - F (6 * a + b))) := by
  have tn : t = 8 ∨ t = 103 := ht
  obtain ⟨td, md, rl, -, -, -, -, -, -, -, -, -, hfe⟩ := hI.1
  obtain ⟨t0, t1, t2, t3, h6, h8, h6r, h5, hlw⟩ := td
  have hdt : dt ≤ 9999 := hI.2.2.1.2.2.2
  refine cn_X10_laySextons (sg_X10_laySextons_0 hS ?_)
  obtain ⟨Q, hQ⟩ : ∃ Q : zMem → Prop, Q = (fun h' => jR h h' ∧ ∀ a b, a < ns → b < ns → zI h' 166 (6 * a + b) = nI (F (6 * a + b)) ∧ zI h' 167 (6 * a + b) = nI (nm - F (6 * a + b))) := ⟨_, rfl⟩
  rw [← hQ]
  have row : ∀ {h1 : zMem}, jR h h1 → ∀ c, 133 ≤ c → c ≤ 150 → zI h1 c = zI h0 c := fun j c a b => by rw [j.2.row (by omega)]; exact hX.1 c a
  have i3 : ∀ n, (6 : Int32) + nI n = nI (6 + n) := fun n => nI_add 6 n
  have inner : ∀ (a : Nat), a < ns → (∀ h1 : zMem, zSh2 h1 → jR h h1 → (∀ a' b, a' < a + 1 → b < ns → zI h1 166 (6 * a' + b) = nI (F (6 * a' + b)) ∧ zI h1 167 (6 * a' + b) = nI (nm - F (6 * a' + b))) → zg G mX10_laySextons (d + 9) 2 [.ref 132, .int (nI mu), .int (nI (a + 1)), zU, zU, zU] [] h1 (zPV Q)) →
      ∀ n b (h1 : zMem), n + b = ns → zSh2 h1 → jR h h1 → (∀ a' b', a' < a → b' < ns → zI h1 166 (6 * a' + b') = nI (F (6 * a' + b')) ∧ zI h1 167 (6 * a' + b') = nI (nm - F (6 * a' + b'))) → (∀ b', b' < b → zI h1 166 (6 * a + b') = nI (F (6 * a + b')) ∧ zI h1 167 (6 * a + b') = nI (nm - F (6 * a + b'))) → zg G mX10_laySextons (d + 9) 14 [.ref 132, .int (nI mu), .int (nI a), .int (nI b), zU, zU] [] h1 (zPV Q) := by
    intro a ha K n
    induction n with
    | zero =>
      intro b h1 hb s1 q1 q3 q4
      refine sg_X10_laySextons_14 s1 ?_
      rw [row q1 134 (by decide) (by decide), md.1, nI_1]
      refine ⟨fun _ => K h1 s1 q1 (fun a' b' x y => ?_), fun c => absurd (nI_le (by omega) (by omega)) c⟩
      by_cases e : a' = a
      · subst e; exact q4 b' (by omega)
      · exact q3 a' b' (by omega) y
    | succ n ih =>
      intro b h1 hb s1 q1 q3 q4
      obtain ⟨F5, C, J, kC, kf, km, kF⟩ := hF a b ha (by omega)
      refine sg_X10_laySextons_14 s1 ?_
      rw [row q1 134 (by decide) (by decide), md.1]
      refine ⟨fun c => absurd c (nI_ge (by omega) (by omega)), fun _ => ⟨_, X10_copies_ok (x := 1) (y := 0) s1 (by decide) (by decide) (by decide), ?_⟩⟩
      rintro h3 ⟨c1, cp⟩
      have s3 := s1.W c1
      have j3 : jR h h3 := q1.trans ⟨c1, cp.j1⟩
      rw [i3, i3, zcla (show 6 + a < 2 ^ 31 by omega), zcla (show 6 + b < 2 ^ 31 by omega)]
      obtain ⟨h4, e4⟩ : ∃ h4, h4 = zsI (zsI h3 157 (6 + a) (zI h3 157 (6 + a) + nI mu)) 157 (6 + b) (zI (zsI h3 157 (6 + a) (zI h3 157 (6 + a) + nI mu)) 157 (6 + b) + nI mu) := ⟨_, rfl⟩
      have i4 : zI h4 = wd2 (zI h3) 157 6 a b (nI mu) := by rw [e4]; rfl
      have w4 : zW h3 h4 := by rw [e4]; exact ((zW.rf h3).sI _ _ _).sI _ _ _
      have s4 := s3.W w4
      have j4 : jR h h4 := j3.trans ⟨w4, by rw [i4]; unfold wd2; exact ((jE.rf _).up (by unfold jkP; omega)).up (by unfold jkP; omega)⟩
      -- the trial on both sides
      have QX : abQ (zI h0) (zI h1) 0 0 := by
        have e := q1.2.ab (a := 0) (by decide)
        have q0 : abQ (zI h0) (zI h) 0 0 := (abQ.rf _ 0).eq (fun c x y => hX.1 c (by omega))
        exact q0.trans e
      have QN : abQ (zI h0) (zI h3) 1 0 := QX.trans cp.q
      have n132 : ∀ j, j ≠ 0 → j ≠ 33 → zI h3 132 j = zI h0 132 j := fun j x y => by rw [j3.2 132 j (by unfold jkP; omega)]; exact hX.2 j x
      have r0 : rnI C (zI h3) 82 t 1 ns nd nr nm dt := by
        refine ⟨rlT_E h8 (fun k hk => ?_) (fun c x y => ?_) rl, ?_, ?_, ?_, ?_, abOK_Q h6 h6r h5 QN hI.2.2.1.2.1⟩
        · rw [mg_lo (by omega)]; exact kf _ (by omega)
        · rw [mg_hi (by omega)]; exact row j3 c (by omega) (by omega)
        · unfold pln; rw [n132 50 (by decide) (by decide), n132 52 (by decide) (by decide)]; exact hI.2.1.1
        · rw [n132 48 (by decide) (by decide)]; exact hI.2.1.2
        · exact relS_cp h6 h6r h5 kC (fun k hk => mg_lo (by omega)) (by rw [mg_hi (by decide)]; exact row j3 141 (by decide) (by decide)) (QN.eq (fun c x y => mg_hi (by omega))) hI.2.2.1.1
        · exact mdOK_E2 md (fun c hc => row j3 c (by omega) (by omega)) (fun j x y => n132 j (by omega) (by omega))
      have wnd : ∀ s, s < ns → ∃ w, w ≤ 99 ∧ zI h3 157 (6 + s) = nI w ∧ C 84 s = nI w := fun s hs => by
        obtain ⟨w, w1, w2⟩ := hI.2.2.1.2.2.1 s hs
        have e1 := QN.2.1 157 s (by decide) (by omega)
        have e2 := (r0.2.2.2.1.2.2.2.2.2.1 s hs).2
        rw [mg_lo (by decide), mg_hi (by decide)] at e2
        exact ⟨w, w1, (show zI h3 157 (6 * 1 + s) = nI w from e1.trans w2), (show C (82 + 2) s = nI w from e2.trans (e1.trans w2))⟩
      obtain ⟨wa, wa1, wa2, wa3⟩ := wnd a ha
      obtain ⟨wb, wb1, wb2, wb3⟩ := wnd b (by omega)
      have r1 := rnI_bump (s0 := a) (v := nI (wa + mu)) ht h6 h8 (by omega) ⟨wa + mu, by omega, rfl⟩ r0
      have vb : ∃ w, w ≤ 297 ∧ zup C 84 a (nI (wa + mu)) 84 b + nI mu = nI w ∧ zup (zI h3) 157 (6 + a) (nI (wa + mu)) 157 (6 + b) + nI mu = nI w := by
        by_cases e : b = a
        · subst e; rw [zup_s, zup_s, nI_add]; exact ⟨_, by omega, rfl, rfl⟩
        · rw [zup_i _ _ _ e, zup_i _ _ _ (by omega), wb2, wb3, nI_add]; exact ⟨_, by omega, rfl, rfl⟩
      obtain ⟨w2, w21, w22, w23⟩ := vb
      have r2 := rnI_bump (s0 := b) (v := nI w2) ht h6 h8 (by omega) ⟨w2, w21, rfl⟩ r1
      have eC : wd2 C 84 0 a b (nI mu) = zup (zup C 84 a (nI (wa + mu))) 84 b (nI w2) := by
        unfold wd2
        simp only [Nat.zero_add]
        rw [wa3, nI_add, w22]
      have eN : zI h4 = zup (zup (zI h3) 157 (6 + a) (nI (wa + mu))) 157 (6 + b) (nI w2) := by
        rw [i4]; unfold wd2
        rw [wa2, nI_add, w23]
      rw [← eC, ← eN] at r2
      rw [← e4]
      refine ⟨s3, zin_n (by omega) (by decide), zin_n (by omega) (by decide), md_pass (a := 1) s4 (by decide) r2.2.2.2.2.1 r2.2.2.2.2.2 (by omega) (fun h8' s8 w8 p8 => ?_)⟩
      obtain ⟨st, po, fr⟩ := rnI.step (Or.inr (Or.inr rfl)) ht h6 h8 h6r (by omega) r2 km p8
      have j8 : jR h h8' := j4.trans ⟨w8, p8.j1⟩
      have th : ∀ m, m < nm → ∃ j, j < nd ∧ zI h8' 162 (5 + m) = nI j ∧ J 96 m = nI j := fun m hm => by
        obtain ⟨j, hj, ej⟩ := st.2.2.2.2.2.2.1 m hm hpos
        have e2 := (st.2.2.2.1.2.2.2.2.2.2.2.2 m hm).2.2.2
        rw [mg_lo (by decide), mg_hi (by decide)] at e2
        exact ⟨j, hj, ej, e2.trans ej⟩
      have l67 : ∀ n' m, n' + m = nm → zg G mX10_laySextons (d + 9) 67 [.ref 132, .int (nI mu), .int (nI a), .int (nI b), .int (nI (fthF (zI h0 (t + 8)) (J 96) m)), .int (nI m)] [] h8' (zPV Q) := by
        intro n'
        induction n' with
        | zero =>
          intro m hm
          have em : m = nm := by omega
          subst em
          refine sg_X10_laySextons_67 s8 ?_
          rw [← kF, ix6, zcla (show 6 * a + b < 2 ^ 31 by omega), row j8 134 (by decide) (by decide), md.2.2.2.1, zI_sI, zup_ne _ _ (by decide), row j8 134 (by decide) (by decide), md.2.2.2.1, pk_sub F5, nI_1]
          refine ⟨fun _ => ⟨zin_n (by omega) (by decide), ih (b + 1) _ (by omega) (s8.W (((zW.rf _).sI _ _ _).sI _ _ _)) (j8.trans ⟨((zW.rf _).sI _ _ _).sI _ _ _, by rw [zI_sI, zI_sI]; exact ((jE.rf _).up (by unfold jkP; omega)).up (by unfold jkP; omega)⟩) (fun a' b' x y => ?_) (fun b' y => ?_)⟩, fun c => absurd (nI_le (by omega) (by omega)) c⟩
          · have e66 : zI h8' 166 = zI h1 166 := by rw [p8.1 166 (by decide) (by decide) (by decide) (by decide) (by decide) (by decide) (by decide) (by decide) (by decide) (by decide) (by decide) (by decide), i4, wd2_ne (by decide), cp.1 166 (by decide)]
            have e67 : zI h8' 167 = zI h1 167 := by rw [p8.1 167 (by decide) (by decide) (by decide) (by decide) (by decide) (by decide) (by decide) (by decide) (by decide) (by decide) (by decide) (by decide), i4, wd2_ne (by decide), cp.1 167 (by decide)]
            simp only [zI_sI]
            rw [zup_ne _ _ (show (166 : Nat) ≠ 167 by decide), zup_i _ _ _ (show 6 * a' + b' ≠ 6 * a + b by omega), zup_i _ _ _ (show 6 * a' + b' ≠ 6 * a + b by omega), zup_ne _ _ (show (167 : Nat) ≠ 166 by decide), e66, e67]
            exact q3 a' b' x y
          · simp only [zI_sI]
            rw [zup_ne _ _ (show (166 : Nat) ≠ 167 by decide)]
            by_cases e : b' = b
            · subst e; rw [zup_s, zup_s]; exact ⟨rfl, rfl⟩
            · have e66 : zI h8' 166 = zI h1 166 := by rw [p8.1 166 (by decide) (by decide) (by decide) (by decide) (by decide) (by decide) (by decide) (by decide) (by decide) (by decide) (by decide) (by decide), i4, wd2_ne (by decide), cp.1 166 (by decide)]
              have e67 : zI h8' 167 = zI h1 167 := by rw [p8.1 167 (by decide) (by decide) (by decide) (by decide) (by decide) (by decide) (by decide) (by decide) (by decide) (by decide) (by decide) (by decide), i4, wd2_ne (by decide), cp.1 167 (by decide)]
              rw [zup_i _ _ _ (show 6 * a + b' ≠ 6 * a + b by omega), zup_i _ _ _ (show 6 * a + b' ≠ 6 * a + b by omega), zup_ne _ _ (show (167 : Nat) ≠ 166 by decide), e66, e67]
              exact q4 b' (by omega)
        | succ n' ih' =>
          intro m hm
          obtain ⟨j, hj, ej, eJ⟩ := th m (by omega)
          refine sg_X10_laySextons_67 s8 ?_
          rw [row j8 134 (by decide) (by decide), md.2.2.2.1, show (5 : Int32) + nI m = nI (5 + m) from nI_add 5 m, zcla (show 5 + m < 2 ^ 31 by omega), ej, zcla (show j < 2 ^ 31 by omega), row j8 138 (by decide) (by decide)]
          refine ⟨fun c => absurd c (nI_ge (by omega) (by omega)), fun _ => ⟨zin_n (by omega) (by decide), zin_n (by omega) (by decide), ?_⟩⟩
          have nx := ih' (m + 1) (by omega)
          rw [fthF, eJ, zcla (show j < 2 ^ 31 by omega), rl.2.2.1 j hj] at nx
          rcases hfe j hj with e | e
          · rw [e, if_pos rfl] at nx
            rw [e, i32_add0]
            simp only [nI_1]
            exact nx
          · rw [e, if_neg n10] at nx
            rw [e]
            simp only [nI_1]
            exact nx
      exact l67 nm 0 (by omega)
  have outer : ∀ n a (h1 : zMem), n + a = ns → zSh2 h1 → jR h h1 → (∀ a' b, a' < a → b < ns → zI h1 166 (6 * a' + b) = nI (F (6 * a' + b)) ∧ zI h1 167 (6 * a' + b) = nI (nm - F (6 * a' + b))) → zg G mX10_laySextons (d + 9) 2 [.ref 132, .int (nI mu), .int (nI a), zU, zU, zU] [] h1 (zPV Q) := by
    intro n
    induction n with
    | zero =>
      intro a h1 hk s1 q1 q3
      refine sg_X10_laySextons_2 s1 ?_
      rw [row q1 134 (by decide) (by decide), md.1, hQ]
      exact ⟨fun _ => ⟨q1, fun a' b x y => q3 a' b (by omega) y⟩, fun c => absurd (nI_le (by omega) (by omega)) c⟩
    | succ n ih =>
      intro a h1 hk s1 q1 q3
      refine sg_X10_laySextons_2 s1 ?_
      rw [row q1 134 (by decide) (by decide), md.1]
      exact ⟨fun c => absurd c (nI_ge (by omega) (by omega)), fun _ => inner a (by omega) (fun h2 s2 a1 a2 => ih (a + 1) h2 (by omega) s2 a1 a2) ns 0 h1 (by omega) s1 q1 q3 (fun b' hb' => absurd hb' (by omega))⟩
  exact outer ns 0 h (by omega) hS (jR.rf h) (fun a' b x => absurd x (by omega))
