/-! what mends it -/
/-- the first of n from q on; 100: none -/
def moF (D : Nat → Bool) : Nat → Nat → Nat
  | 0, _ => 100
  | n + 1, q => if D q = true then q else moF D n (q + 1)
theorem moF_spec {D : Nat → Bool} : ∀ n q, (moF D n q = 100 ∧ ∀ j, q ≤ j → j < q + n → D j = false) ∨ (q ≤ moF D n q ∧ moF D n q < q + n ∧ D (moF D n q) = true ∧ ∀ j, q ≤ j → j < moF D n q → D j = false)
  | 0, q => Or.inl ⟨rfl, fun j a b => absurd b (by omega)⟩
  | n + 1, q => by
    rw [moF]
    by_cases c : D q = true
    · rw [if_pos c]; exact Or.inr ⟨Nat.le_refl _, by omega, c, fun j a b => absurd b (by omega)⟩
    · rw [if_neg c]
      have c' : D q = false := by cases h : D q with
        | true => exact absurd h c
        | false => rfl
      rcases moF_spec n (q + 1) with ⟨h1, h2⟩ | ⟨h1, h2, h3, h4⟩
      · refine Or.inl ⟨h1, fun j a b => ?_⟩
        by_cases e : j = q
        · rw [e]; exact c'
        · exact h2 j (by omega) (by omega)
      · refine Or.inr ⟨by omega, by omega, h3, fun j a b => ?_⟩
        by_cases e : j = q
        · rw [e]; exact c'
        · exact h4 j (by omega) b
def mnC (c : Nat → Nat) : Nat → Nat → Int32 → Nat → Int32 × Nat
  | 0, _, b, l => (b, l)
  | n + 1, k, b, l => if l ≤ c k then mnC c n (k + 1) b l else mnC c n (k + 1) (nI k) (c k)
def mnP (c : Nat → Nat) (k : Nat) (r : Int32 × Nat) : Prop := (r.1 = -2 ∧ r.2 = 100 ∧ ∀ s, s < k → 100 ≤ c s) ∨ ∃ s0, s0 < k ∧ r.1 = nI s0 ∧ r.2 = c s0 ∧ c s0 < 100 ∧ (∀ s, s < k → c s0 ≤ c s) ∧ ∀ s, s < s0 → c s0 < c s
theorem mnC_spec {c : Nat → Nat} : ∀ n k b l, mnP c k (b, l) → mnP c (k + n) (mnC c n k b l)
  | 0, _, _, _, h => h
  | n + 1, k, b, l, h => by
    rw [mnC, show k + (n + 1) = (k + 1) + n by omega]
    by_cases q : l ≤ c k
    · rw [if_pos q]
      refine mnC_spec n (k + 1) b l ?_
      rcases h with ⟨h1, h2, h3⟩ | ⟨s0, h1, h2, h3, h4, h5, h6⟩
      · refine Or.inl ⟨h1, h2, fun s hs => ?_⟩
        by_cases e : s = k
        · subst e; have : l = 100 := h2; omega
        · exact h3 s (by omega)
      · refine Or.inr ⟨s0, by omega, h2, h3, h4, fun s hs => ?_, h6⟩
        by_cases e : s = k
        · subst e; have : l = c s0 := h3; omega
        · exact h5 s (by omega)
    · rw [if_neg q]
      refine mnC_spec n (k + 1) _ _ (Or.inr ⟨k, by omega, rfl, rfl, ?_, fun s hs => ?_, fun s hs => ?_⟩)
      · rcases h with ⟨h1, h2, h3⟩ | ⟨s0, h1, h2, h3, h4, h5, h6⟩
        · have : l = 100 := h2; omega
        · have : l = c s0 := h3; omega
      · by_cases e : s = k
        · subst e; exact Nat.le_refl _
        · rcases h with ⟨h1, h2, h3⟩ | ⟨s0, h1, h2, h3, h4, h5, h6⟩
          · have : l = 100 := h2; have := h3 s (by omega); omega
          · have : l = c s0 := h3; have := h5 s (by omega); omega
      · rcases h with ⟨h1, h2, h3⟩ | ⟨s0, h1, h2, h3, h4, h5, h6⟩
        · have : l = 100 := h2; have := h3 s (by omega); omega
        · have : l = c s0 := h3; have := h5 s (by omega); omega
def loF (p : Nat → Bool) : Nat → Int32 → Int32
  | 0, b => b
  | n + 1, b => loF p n (if p n = true then nI n else b)
theorem loF_spec {p : Nat → Bool} : ∀ n b, (loF p n b = b ∧ ∀ s, s < n → p s = false) ∨ ∃ s0, s0 < n ∧ loF p n b = nI s0 ∧ p s0 = true ∧ ∀ s, s < s0 → p s = false
  | 0, b => Or.inl ⟨rfl, fun s hs => absurd hs (by omega)⟩
  | n + 1, b => by
    rw [loF]
    rcases loF_spec n (if p n = true then nI n else b) with ⟨h1, h2⟩ | ⟨s0, h1, h2, h3, h4⟩
    · rw [h1]
      by_cases c : p n = true
      · rw [if_pos c]; exact Or.inr ⟨n, by omega, rfl, c, h2⟩
      · rw [if_neg c]
        refine Or.inl ⟨rfl, fun s hs => ?_⟩
        by_cases e : s = n
        · subst e; cases h : p s with
          | true => exact absurd h c
          | false => rfl
        · exact h2 s (by omega)
    · exact Or.inr ⟨s0, by omega, h2, h3, h4⟩
def mdM (D : Nat → Nat → Bool) (ns : Nat) : Nat → Nat → Int32 × Nat
  | 0, q => (-1, q)
  | n + 1, q => if loF (fun s => D s (q + 1)) ns (-1) = -1 then mdM D ns n (q + 1) else (loF (fun s => D s (q + 1)) ns (-1), q + 1)
theorem mdM_spec {D : Nat → Nat → Bool} {ns : Nat} (h6 : ns ≤ 6) : ∀ n q, n + q = 99 → (∀ j, 1 ≤ j → j ≤ q → ∀ s, s < ns → D s j = false) → ((mdM D ns n q).1 = -1 ∧ ∀ j, 1 ≤ j → j ≤ 99 → ∀ s, s < ns → D s j = false) ∨ ∃ s0 q0, s0 < ns ∧ mdM D ns n q = (nI s0, q0) ∧ 1 ≤ q0 ∧ q0 ≤ 99 ∧ D s0 q0 = true ∧ (∀ s, s < s0 → D s q0 = false) ∧ ∀ j, 1 ≤ j → j < q0 → ∀ s, s < ns → D s j = false
  | 0, q, hq, h => Or.inl ⟨rfl, fun j a b => h j a (by omega)⟩
  | n + 1, q, hq, h => by
    rw [mdM]
    rcases loF_spec (p := fun s => D s (q + 1)) ns (-1) with ⟨h1, h2⟩ | ⟨s0, h1, h2, h3, h4⟩
    · rw [if_pos h1]
      refine mdM_spec h6 n (q + 1) (by omega) (fun j a b s hs => ?_)
      by_cases e : j = q + 1
      · subst e; exact h2 s hs
      · exact h j a (by omega) s hs
    · rw [h2, if_neg (nI_nm1 (by omega))]
      exact Or.inr ⟨s0, q + 1, h1, rfl, by omega, by omega, h3, h4, fun j a b => h j a (by omega)⟩
def rsC (x : Int32) (r : Int32 × Nat) : Int32 := if x = 0 then r.1 else if r.1 = -2 then r.1 else nI r.2
def rsM (x : Int32) (r : Int32 × Nat) : Int32 := if r.1 = -1 then -2 else if x = 0 then r.1 else nI r.2
theorem nI_nm2 {k : Nat} (h : k < 2 ^ 31) : ¬ nI k = -2 := by
  intro q
  have := congrArg Int32.toInt q
  rw [nI_toInt h] at this
  have z : (-2 : Int32).toInt = -2 := rfl
  omega
theorem mend_eq (D : Nat → Nat → Bool) {ns : Nat} (h6 : ns ≤ 6) (x : Int32) : rsC x (mnC (fun s => moF (D s) 99 1) ns 0 (-2) 100) = rsM x (mdM D ns 99 0) := by
  have A := mnC_spec (c := fun s => moF (D s) 99 1) ns 0 (-2) 100 (Or.inl ⟨rfl, rfl, fun s hs => absurd hs (by omega)⟩)
  have B := mdM_spec (D := D) h6 99 0 (by omega) (fun j a b => absurd b (by omega))
  rw [Nat.zero_add] at A
  rcases A with ⟨a1, a2, a3⟩ | ⟨s0, a1, a2, a3, a4, a5, a6⟩
  · rcases B with ⟨b1, b2⟩ | ⟨s1, q1, b1, b2, b3, b4, b5, b6, b7⟩
    · unfold rsC rsM
      rw [b1, if_pos rfl, a1]
      by_cases c : x = 0
      · rw [if_pos c]
      · rw [if_neg c, if_pos rfl]
    · have h100 := a3 s1 b1
      rcases moF_spec (D := D s1) 99 1 with ⟨m1, m2⟩ | ⟨m1, m2, m3, m4⟩
      · have := m2 q1 (by omega) (by omega)
        rw [b5] at this; exact absurd this (by decide)
      · have : (100 : Nat) ≤ moF (D s1) 99 1 := h100
        omega
  · have m := moF_spec (D := D s0) 99 1
    have a4' : moF (D s0) 99 1 < 100 := a4
    rcases m with ⟨m1, m2⟩ | ⟨m1, m2, m3, m4⟩
    · omega
    · rcases B with ⟨b1, b2⟩ | ⟨s1, q1, b1, b2, b3, b4, b5, b6, b7⟩
      · have := b2 _ m1 (by omega) s0 a1
        rw [m3] at this; exact absurd this (by decide)
      · -- the least is q1
        have e1 : moF (D s1) 99 1 = q1 := by
          rcases moF_spec (D := D s1) 99 1 with ⟨n1, n2⟩ | ⟨n1, n2, n3, n4⟩
          · have := n2 q1 (by omega) (by omega)
            rw [b5] at this; exact absurd this (by decide)
          · rcases Nat.lt_trichotomy (moF (D s1) 99 1) q1 with h | h | h
            · have := b7 _ n1 h s1 b1
              rw [n3] at this; exact absurd this (by decide)
            · exact h
            · have := n4 q1 (by omega) h
              rw [b5] at this; exact absurd this (by decide)
        have e2 : moF (D s0) 99 1 = q1 := by
          have h1 : moF (D s0) 99 1 ≤ moF (D s1) 99 1 := a5 s1 b1
          rcases Nat.lt_or_ge (moF (D s0) 99 1) q1 with h | h
          · have := b7 _ m1 h s0 a1
            rw [m3] at this; exact absurd this (by decide)
          · omega
        have e3 : s0 = s1 := by
          rcases Nat.lt_trichotomy s0 s1 with h | h | h
          · have := b6 s0 h
            rw [← e2, m3] at this; exact absurd this (by decide)
          · exact h
          · have h1 : moF (D s0) 99 1 < moF (D s1) 99 1 := a6 s1 h
            omega
        unfold rsC rsM
        rw [a2, a3, b2, ← e3]
        show (if x = 0 then nI s0 else if nI s0 = -2 then nI s0 else nI (moF (D s0) 99 1)) = (if nI s0 = -1 then -2 else if x = 0 then nI s0 else nI q1)
        rw [if_neg (nI_nm1 (by omega)), if_neg (nI_nm2 (by omega)), e2]
/-- so much more of a stuff is smelled now -/
def mdD (f : Nat → Int32) (p kn C : Int32) (s q : Nat) : Bool := (!C.toBitVec.getLsbD s && decide (f s * p / 100 < kn)) && !decide ((f s + nI q) * p / 100 < kn)
set_option maxHeartbeats 2000000 in
theorem X9_moreThatIsSmelled_ok {G : zG} {d t m r dy s : Nat} {h : zMem} (hS : zSh1 h t) (hm : m < 5) (hrm : zI h 59 m = nI r) (hr : r < 6) (hd : dy < 8) (hs : s < 6) (kn : Int32) :
    zConI G mX9_moreThatIsSmelled d [.ref 0, .int (nI m), .int (nI dy), .int (nI s), .int kn] h (fun v h' => v = nI (moF (mdD (zI h (t + 9 + 1 + dy)) (zI h 51 r) kn (zI h 60 m) s) 99 1) ∧ h' = h) := by
  refine cn_X9_moreThatIsSmelled (sg_X9_moreThatIsSmelled_0 hS ?_)
  rw [zcla (show m < 2 ^ 31 by omega), zcla (show dy < 2 ^ 31 by omega), zcla (show s < 2 ^ 31 by omega), hrm, zcla (show r < 2 ^ 31 by omega)]
  obtain ⟨D, hD⟩ : ∃ D, D = mdD (zI h (t + 9 + 1 + dy)) (zI h 51 r) kn (zI h 60 m) s := ⟨_, rfl⟩
  rw [← hD]
  have no : (∀ q, D q = false) → (100 : Int32) = nI (moF D 99 1) := fun hq => by
    rcases moF_spec (D := D) 99 1 with ⟨a, -⟩ | ⟨-, -, a, -⟩
    · rw [a]; rfl
    · rw [hq] at a; exact absurd a (by decide)
  refine ⟨zin_n hm (by decide), zin_n hr (by decide), zin_n hd (by decide), zin_n hs (by decide), fun c => ⟨fun q => absurd rfl q, fun _ => ⟨fun c1 => ?_, fun c1 => ⟨no (fun q => ?_), rfl⟩⟩⟩, fun c => ⟨fun _ => ⟨no (fun q => ?_), rfl⟩, fun q => absurd q n10⟩⟩
  · have cb : (zI h 60 m).toBitVec.getLsbD s = false := by
      cases hc : (zI h 60 m).toBitVec.getLsbD s with
      | true => exact absurd ((cold_bit _ hs).mpr hc) c
      | false => rfl
    have Dq : ∀ q, D q = !decide ((zI h (t + 9 + 1 + dy) s + nI q) * zI h 51 r / 100 < kn) := fun q => by
      rw [hD]; unfold mdD; rw [cb, decide_eq_true c1]; rfl
    have loop : ∀ n q, n + q = 100 → 1 ≤ q → moF D n q = moF D 99 1 → zg G mX9_moreThatIsSmelled d 80 [.ref 0, .int (nI m), .int (nI dy), .int (nI s), .int kn, .int (zI h 51 r), .int (zI h (t + 9 + 1 + dy) s), .int 0, .int (nI q)] [] h (zPI (fun v h' => v = nI (moF D 99 1) ∧ h' = h)) := by
      intro n
      induction n with
      | zero =>
        intro q hq h1 e
        refine sg_X9_moreThatIsSmelled_80 hS ⟨fun _ => ⟨by rw [← e]; rfl, rfl⟩, fun c => absurd (show nI 99 < nI q from nI_lt (by omega) (by omega)) c⟩
      | succ n ih =>
        intro q hq h1 e
        rw [moF, Dq] at e
        refine sg_X9_moreThatIsSmelled_80 hS ?_
        rw [nI_1]
        refine ⟨fun c => absurd (show nI 99 < nI q from c) (nI_nlt (by omega) (by decide)), fun _ => ⟨fun c2 => ih (q + 1) (by omega) (by omega) ?_, fun c2 => ⟨?_, rfl⟩⟩⟩
        · rw [decide_eq_true c2] at e; exact e
        · rw [decide_eq_false c2] at e; exact congrArg nI e
    exact loop 99 1 (by omega) (by omega) rfl
  · rw [hD]; unfold mdD; rw [decide_eq_false c1]; simp
  · rw [hD]; unfold mdD; rw [(cold_bit _ hs).mp c]; rfl
