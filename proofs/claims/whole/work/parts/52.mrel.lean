/-! the model's laws are the class's -/
theorem ix5 (a s : Nat) : (5 : Int32) * nI a + nI s = nI (5 * a + s) := by
  show nI 5 * nI a + nI s = _
  rw [pk_mul]; exact (Int32.ofNat_add _ _).symm
theorem ix6 (a s : Nat) : (6 : Int32) * nI a + nI s = nI (6 * a + s) := by
  show nI 6 * nI a + nI s = _
  rw [pk_mul]; exact (Int32.ofNat_add _ _).symm
theorem ix36 (a p s : Nat) : (36 : Int32) * nI a + (6 : Int32) * nI p + nI s = nI (36 * a + 6 * p + s) := by
  show nI 36 * nI a + nI 6 * nI p + nI s = _
  rw [pk_mul, pk_mul]
  rw [show nI (36 * a) + nI (6 * p) = nI (36 * a + 6 * p) from (Int32.ofNat_add _ _).symm]
  exact (Int32.ofNat_add _ _).symm
def bnd (x : Int64) : Prop := -1000000000000 ≤ x.toInt ∧ x.toInt ≤ 1000000000000
theorem bnd_i32 (x : Int32) : bnd x.toInt64 := by
  unfold bnd
  rw [Int32.toInt_toInt64]
  have := x.le_toInt
  have := x.toInt_lt
  omega
theorem bnd01 (c : Prop) [Decidable c] : bnd (if c then 1 else 0) := by
  by_cases q : c
  · rw [if_pos q]; unfold bnd; decide
  · rw [if_neg q]; unfold bnd; decide
theorem lim_div {y : Int64} {q : Int} (hy : y.toInt = q) (h0 : 0 < q) (h1 : q ≤ 1000000000000) : ((1000000000000 : Int64) / y).toInt = 1000000000000 / q := by
  rw [Int64.toInt_div, hy]
  have e : (1000000000000 : Int64).toInt = 1000000000000 := rfl
  rw [e, Int.tdiv_eq_ediv_of_nonneg (by decide)]
  have a1 : (0 : Int) ≤ 1000000000000 / q := Int.ediv_nonneg (by decide) (by omega)
  have a2 : (1000000000000 : Int) / q ≤ 1000000000000 := Int.ediv_le_self _ (by decide)
  exact Int.bmod_eq_of_le (by omega) (by omega)
theorem neg_to {y : Int64} (h : bnd y) : (-y).toInt = - y.toInt := by
  rw [Int64.toInt_neg]
  unfold bnd at h
  exact Int.bmod_eq_of_le (by omega) (by omega)
theorem labs_to {x : Int64} (h : bnd x) : (labsF x).toInt = if 0 ≤ x.toInt then x.toInt else - x.toInt := by
  unfold labsF
  by_cases c : 0 < x
  · rw [if_pos c]
    have : (0 : Int) < x.toInt := Int64.lt_iff_toInt_lt.mp c
    rw [if_pos (by omega)]
  · rw [if_neg c]
    have c' : ¬ (0 : Int) < x.toInt := fun q => c (Int64.lt_iff_toInt_lt.mpr q)
    by_cases d : x = 0
    · subst d; rfl
    · rw [if_neg d]
      have : x.toInt ≠ 0 := fun q => d (Int64.toInt_inj.mp (by rw [q]; rfl))
      rw [if_neg (by omega), neg_to h]
theorem mul_side {X Y : Int} (hx : 0 < X) (hy : 0 < Y) : Y ≤ 1000000000000 / X ↔ X ≤ 1000000000000 / Y := by
  rw [Int.le_ediv_iff_mul_le hx, Int.le_ediv_iff_mul_le hy, Int.mul_comm]
theorem mF_wk {x y : Int64} (hx : bnd x) (hy : bnd y) : (wkF 42 x y = none ∧ mF x y = cERR) ∨ (wkF 42 x y = some (x * y) ∧ mF x y = x * y) := by
  have LX := labs_to hx
  have LY := labs_to hy
  unfold wkF
  rw [if_pos rfl]
  by_cases x0 : x = 0
  · right
    rw [if_pos x0]
    refine ⟨rfl, ?_⟩
    subst x0
    have ey : (0 : Int64) * y = 0 := Int64.zero_mul
    unfold mF
    simp only [ey]
    have zz : (0 : Int64).toInt = 0 := rfl
    by_cases c : 0 ≤ y
    · rw [if_pos c]
      have c1 : (0 : Int) ≤ y.toInt := Int64.le_iff_toInt_le.mp c
      by_cases c2 : y ≤ 0
      · rw [if_pos c2]
      · rw [if_neg c2]
        have c3 : ¬ y.toInt ≤ 0 := fun q => c2 (Int64.le_iff_toInt_le.mpr q)
        have e := lim_div (y := y) rfl (by omega) hy.2
        have p := Int.ediv_nonneg (a := 1000000000000) (b := y.toInt) (by decide) (by omega)
        have p2 : (1000000000000 : Int) / y.toInt ≤ 1000000000000 := Int.ediv_le_self _ (by decide)
        rw [if_neg (fun q => by have := Int64.lt_iff_toInt_lt.mp q; rw [e, zz] at this; omega)]
        have bb : bnd (1000000000000 / y) := ⟨by rw [e]; omega, by rw [e]; omega⟩
        rw [if_pos (Int64.le_iff_toInt_le.mpr (by rw [neg_to bb, e, zz]; omega))]
    · rw [if_neg c]
      have c1 : ¬ (0 : Int) ≤ y.toInt := fun q => c (Int64.le_iff_toInt_le.mpr q)
      have en := neg_to hy
      rw [if_neg (fun q => by have := Int64.le_iff_toInt_le.mp q; rw [en, zz] at this; omega)]
      have hb2 := hy.1
      have e := lim_div (y := -y) (q := -y.toInt) en (by omega) (by omega)
      have p := Int.ediv_nonneg (a := 1000000000000) (b := -y.toInt) (by decide) (by omega)
      have p2 : (1000000000000 : Int) / (-y.toInt) ≤ 1000000000000 := Int.ediv_le_self _ (by decide)
      rw [if_neg (fun q => by have := Int64.lt_iff_toInt_lt.mp q; rw [e, zz] at this; omega)]
      have bb : bnd (1000000000000 / -y) := ⟨by rw [e]; omega, by rw [e]; omega⟩
      rw [if_pos (Int64.le_iff_toInt_le.mpr (by rw [neg_to bb, e, zz]; omega))]
  · rw [if_neg x0]
    have xn : x.toInt ≠ 0 := fun q => x0 (Int64.toInt_inj.mp (by rw [q]; rfl))
    have hb1 := hx.1
    have hb2 := hx.2
    have hb3 := hy.1
    have hb4 := hy.2
    have lxp : 0 < (labsF x).toInt := by rw [LX]; split <;> omega
    have lxm : (labsF x).toInt ≤ 1000000000000 := by rw [LX]; split <;> omega
    have eq1 := lim_div (y := labsF x) rfl lxp lxm
    have C : labsF y ≤ 1000000000000 / labsF x ↔ (labsF y).toInt ≤ 1000000000000 / (labsF x).toInt := by rw [Int64.le_iff_toInt_le, eq1]
    have zz : (0 : Int64).toInt = 0 := rfl
    by_cases y0 : y.toInt = 0
    · right
      have lz : (labsF y).toInt = 0 := by rw [LY]; split <;> omega
      rw [if_pos (C.mpr (by rw [lz]; exact Int.ediv_nonneg (by decide) (by omega)))]
      refine ⟨rfl, ?_⟩
      unfold mF
      rw [if_pos (Int64.le_iff_toInt_le.mpr (by rw [y0, zz]; omega)), if_pos (Int64.le_iff_toInt_le.mpr (by rw [y0, zz]; omega))]
    · have lyp : 0 < (labsF y).toInt := by rw [LY]; split <;> omega
      have lym : (labsF y).toInt ≤ 1000000000000 := by rw [LY]; split <;> omega
      have K := mul_side lxp lyp
      have p := Int.ediv_nonneg (a := 1000000000000) (b := (labsF y).toInt) (by decide) (by omega)
      have p2 : (1000000000000 : Int) / (labsF y).toInt ≤ 1000000000000 := Int.ediv_le_self _ (by decide)
      -- the two roads of mF come together
      have M : mF x y = if 1000000000000 / (labsF y).toInt < x.toInt then cERR else if -(1000000000000 / (labsF y).toInt) ≤ x.toInt then x * y else cERR := by
        unfold mF
        by_cases c : 0 ≤ y
        · have c1 : (0 : Int) ≤ y.toInt := Int64.le_iff_toInt_le.mp c
          have ly : (labsF y).toInt = y.toInt := by rw [LY, if_pos c1]
          rw [ly] at p p2 ⊢
          have e := lim_div (y := y) rfl (by omega) hy.2
          have bb : bnd (1000000000000 / y) := ⟨by rw [e]; omega, by rw [e]; omega⟩
          rw [if_pos c, if_neg (fun q => by have := Int64.le_iff_toInt_le.mp q; rw [zz] at this; omega)]
          simp only [Int64.lt_iff_toInt_lt, Int64.le_iff_toInt_le, neg_to bb, e]
        · have c1 : ¬ (0 : Int) ≤ y.toInt := fun q => c (Int64.le_iff_toInt_le.mpr q)
          have ly : (labsF y).toInt = -y.toInt := by rw [LY, if_neg c1]
          rw [ly] at p p2 ⊢
          have en := neg_to hy
          have e := lim_div (y := -y) (q := -y.toInt) en (by omega) (by omega)
          have bb : bnd (1000000000000 / -y) := ⟨by rw [e]; omega, by rw [e]; omega⟩
          rw [if_neg c, if_neg (fun q => by have := Int64.le_iff_toInt_le.mp q; rw [en, zz] at this; omega)]
          simp only [Int64.lt_iff_toInt_lt, Int64.le_iff_toInt_le, neg_to bb, e]
      rw [M]
      by_cases q : labsF y ≤ 1000000000000 / labsF x
      · right
        rw [if_pos q]
        have q' := K.mp (C.mp q)
        rw [LX] at q'
        refine ⟨rfl, ?_⟩
        rw [if_neg (by split at q' <;> omega), if_pos (by split at q' <;> omega)]
      · left
        rw [if_neg q]
        have q' : ¬ (labsF x).toInt ≤ 1000000000000 / (labsF y).toInt := fun r => q (C.mpr (K.mpr r))
        rw [LX] at q'
        refine ⟨rfl, ?_⟩
        by_cases r : 1000000000000 / (labsF y).toInt < x.toInt
        · rw [if_pos r]
        · rw [if_neg r, if_neg (by split at q' <;> omega)]
def sgT (v : Int32) : Int32 := if v = 42 then 30 else if v = 43 then 28 else if v = 45 then 29 else if v = 47 then 31 else if v = 60 then 22 else if v = 61 then 24 else if v = 62 then 27 else if v = 256 then 23 else if v = 257 then 25 else if v = 258 then 26 else if v = 260 then 14 else if v = 261 then 13 else 12
def opT (s v : Int32) : Int32 := if s = 0 then 36 else if s = 1 then v + 15 else sgT v
def sgOK (v : Int32) : Prop := v = 42 ∨ v = 43 ∨ v = 45 ∨ v = 47 ∨ v = 60 ∨ v = 61 ∨ v = 62 ∨ v = 256 ∨ v = 257 ∨ v = 258 ∨ v = 261 ∨ v = 262
def kvOK (s v : Int32) : Prop := s = 0 ∨ (s = 1 ∧ ∃ j, j < 7 ∧ v = nI j) ∨ (s = 2 ∧ (v = 260 ∨ sgOK v))
theorem op_ok {v : Int32} (hv : sgOK v) {x y : Int64} (hx : bnd x) (hy : bnd y) : (wkF v x y = none ∧ (if sgT v = 30 then mF x y else jF (sgT v) x y) = cERR) ∨ ∃ w, wkF v x y = some w ∧ (if sgT v = 30 then mF x y else jF (sgT v) x y) = w := by
  rcases hv with rfl | rfl | rfl | rfl | rfl | rfl | rfl | rfl | rfl | rfl | rfl | rfl
  · rcases mF_wk hx hy with h | h
    · exact Or.inl h
    · exact Or.inr ⟨_, h⟩
  · exact Or.inr ⟨_, rfl, rfl⟩
  · exact Or.inr ⟨_, rfl, rfl⟩
  · by_cases c : y = 0
    · exact Or.inl ⟨if_pos c, if_pos c⟩
    · exact Or.inr ⟨_, if_neg c, if_neg c⟩
  · refine Or.inr ⟨_, rfl, ?_⟩
    show (if x < y then (1 : Int64) else 0) = if y ≤ x then 0 else 1
    by_cases c : y ≤ x
    · rw [if_pos c, if_neg (Int64.not_lt.mpr c)]
    · rw [if_neg c, if_pos (Int64.not_le.mp c)]
  · exact Or.inr ⟨_, rfl, rfl⟩
  · refine Or.inr ⟨_, rfl, ?_⟩
    show (if y < x then (1 : Int64) else 0) = if x ≤ y then 0 else 1
    by_cases c : x ≤ y
    · rw [if_pos c, if_neg (Int64.not_lt.mpr c)]
    · rw [if_neg c, if_pos (Int64.not_le.mp c)]
  · refine Or.inr ⟨_, rfl, ?_⟩
    show (if x ≤ y then (1 : Int64) else 0) = if y < x then 0 else 1
    by_cases c : y < x
    · rw [if_pos c, if_neg (Int64.not_le.mpr c)]
    · rw [if_neg c, if_pos (Int64.not_lt.mp c)]
  · exact Or.inr ⟨_, rfl, rfl⟩
  · refine Or.inr ⟨_, rfl, ?_⟩
    show (if y ≤ x then (1 : Int64) else 0) = if x < y then 0 else 1
    by_cases c : x < y
    · rw [if_pos c, if_neg (Int64.not_le.mpr c)]
    · rw [if_neg c, if_pos (Int64.not_lt.mp c)]
  · exact Or.inr ⟨_, rfl, rfl⟩
  · exact Or.inr ⟨_, rfl, rfl⟩
theorem okF_bnd {w : Int64} : okF w = true ↔ bnd w := by
  have a : (1000000000000 : Int64).toInt = 1000000000000 := rfl
  have b : (-1000000000000 : Int64).toInt = -1000000000000 := rfl
  unfold okF bnd
  simp only [Int64.lt_iff_toInt_lt, a, b]
  by_cases c : 1000000000000 < w.toInt
  · rw [if_pos c]; exact ⟨fun q => absurd q (by decide), fun q => absurd q.2 (by omega)⟩
  · rw [if_neg c]
    by_cases e : w.toInt < -1000000000000
    · rw [if_pos e]; exact ⟨fun q => absurd q (by decide), fun q => absurd q.1 (by omega)⟩
    · rw [if_neg e]; exact ⟨fun _ => ⟨by omega, by omega⟩, fun _ => rfl⟩
theorem cERR_nb : ¬ bnd cERR := by unfold bnd; decide
theorem sgT_ne {v : Int32} (h : sgOK v) : sgT v ≠ 36 ∧ ¬ (¬ sgT v < 15 ∧ ¬ 21 < sgT v) ∧ sgT v ≠ 14 ∧ v ≠ 260 := by
  rcases h with rfl | rfl | rfl | rfl | rfl | rfl | rfl | rfl | rfl | rfl | rfl | rfl <;> decide
def bndL : List Int64 → Prop
  | [] => True
  | x :: r => bnd x ∧ bndL r
theorem woS_woM (srt val : Nat → Int32) (nm : Nat → Int64) (hnm : ∀ k, k < 7 → bnd (nm k)) : ∀ n i stk, (∀ j, i ≤ j → j < i + n → kvOK (srt j) (val j)) → wfM srt val n i stk.length → bndL stk →
    (woM srt val nm n i stk = none ∧ woS (fun k => opT (srt k) (val k)) val nm n i stk = cERR) ∨ ∃ v, woM srt val nm n i stk = some v ∧ woS (fun k => opT (srt k) (val k)) val nm n i stk = v ∧ bnd v := by
  intro n
  induction n with
  | zero =>
    intro i stk _ hwf hb
    have h1' : stk.length = 1 := hwf
    match stk, h1', hb with
    | [v], _, hb => exact Or.inr ⟨v, rfl, rfl, hb.1⟩
  | succ n ih =>
    intro i stk hk hwf hb
    have hk' : ∀ j, i + 1 ≤ j → j < i + 1 + n → kvOK (srt j) (val j) := fun j a b => hk j (by omega) (by omega)
    rcases hk i (Nat.le_refl _) (by omega) with e | ⟨e, j, hj, ej⟩ | ⟨e, hv⟩
    · have o : opT (srt i) (val i) = 36 := by rw [e]; rfl
      have e2 : srt i ≠ 2 := by rw [e]; decide
      simp only [woM, woS, o, if_true, if_neg e2, if_pos e]
      simp only [wfM, if_neg e2, if_pos e] at hwf
      exact ih (i + 1) _ hk' hwf ⟨bnd_i32 _, hb⟩
    · have e2 : srt i ≠ 2 := by rw [e]; decide
      have e0 : srt i ≠ 0 := by rw [e]; decide
      have o : opT (srt i) (val i) = nI j + 15 := by rw [e, ej]; rfl
      have o1 : opT (srt i) (val i) ≠ 36 ∧ (¬ opT (srt i) (val i) < 15 ∧ ¬ 21 < opT (srt i) (val i)) ∧ (opT (srt i) (val i) - 15).toNatClampNeg = j := by
        rw [o]
        rcases (show j = 0 ∨ j = 1 ∨ j = 2 ∨ j = 3 ∨ j = 4 ∨ j = 5 ∨ j = 6 by omega) with rfl | rfl | rfl | rfl | rfl | rfl | rfl <;> decide
      have vj : (val i).toNatClampNeg = j := by rw [ej]; exact zcla (by omega)
      simp only [woM, woS, if_neg o1.1, if_pos o1.2.1, o1.2.2, if_neg e2, if_neg e0, vj]
      simp only [wfM, if_neg e2, if_neg e0] at hwf
      exact ih (i + 1) (nm j :: stk) hk' hwf.2 ⟨hnm j hj, hb⟩
    · have o : opT (srt i) (val i) = sgT (val i) := by rw [e]; rfl
      rcases hv with hv | hv
      · have o14 : opT (srt i) (val i) = 14 := by rw [o, hv]; rfl
        simp only [wfM, if_pos e, if_pos hv] at hwf
        match stk, hwf, hb with
        | y :: r, hwf, hb =>
          simp only [woM, woS, if_pos e, if_pos hv, o14]
          exact ih (i + 1) ((if y = 0 then 1 else 0) :: r) hk' hwf.2 ⟨bnd01 _, hb.2⟩
      · have sn := sgT_ne hv
        simp only [wfM, if_pos e, if_neg sn.2.2.2] at hwf
        match stk, hwf, hb with
        | [y], hwf, _ => exact absurd hwf.1 (by show ¬ 2 ≤ 1; omega)
        | y :: x :: r, hwf, hb =>
          simp only [woM, woS, if_pos e, if_neg sn.2.2.2, o, if_neg sn.1, if_neg sn.2.1, if_neg sn.2.2.1]
          rcases op_ok hv hb.2.1 hb.1 with ⟨h1, h2⟩ | ⟨w, h1, h2⟩
          · rw [h1, h2]
            exact Or.inl ⟨rfl, rfl⟩
          · rw [h1, h2]
            by_cases c : okF w = true
            · have b := okF_bnd.mp c
              have c1 : ¬ cLIM < w := fun q => by have := Int64.lt_iff_toInt_lt.mp q; have e : cLIM.toInt = 1000000000000 := rfl; rw [e] at this; have := b.2; omega
              have c2 : -cLIM ≤ w := Int64.le_iff_toInt_le.mpr (by have e : (-cLIM).toInt = -1000000000000 := rfl; rw [e]; exact b.1)
              simp only [if_pos c, if_neg c1, if_pos c2]
              exact ih (i + 1) (w :: r) hk' hwf.2 ⟨b, hb.2.2⟩
            · simp only [if_neg c]
              refine Or.inl ⟨trivial, ?_⟩
              by_cases c1 : cLIM < w
              · rw [if_pos c1]
              · rw [if_neg c1]
                by_cases c2 : -cLIM ≤ w
                · exact absurd (okF_bnd.mpr ⟨Int64.le_iff_toInt_le.mp c2, by have q := Int64.le_iff_toInt_le.mp (Int64.not_lt.mp c1); have e : cLIM.toInt = 1000000000000 := rfl; rw [e] at q; exact q⟩) c
                · rw [if_neg c2]
