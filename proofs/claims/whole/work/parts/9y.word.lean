/-! words by their letters -/
theorem or_sum {A l : Nat} (hA : A < 2 ^ 26) (hl : l < 32) : nI (A * 2 ^ 5) ||| nI l = nI (32 * A + l) := by
  apply Int32.toBitVec_inj.mp
  rw [Int32.toBitVec_or]
  show BitVec.ofNat 32 (A * 2 ^ 5) ||| BitVec.ofNat 32 l = BitVec.ofNat 32 (32 * A + l)
  apply BitVec.eq_of_toNat_eq
  rw [BitVec.toNat_or, BitVec.toNat_ofNat, BitVec.toNat_ofNat, BitVec.toNat_ofNat, Nat.mod_eq_of_lt (by omega), Nat.mod_eq_of_lt (by omega), Nat.mod_eq_of_lt (by omega)]
  have := Nat.shiftLeft_add_eq_or_of_lt (show l < 2 ^ 5 by omega) A
  rw [Nat.shiftLeft_eq] at this
  rw [← this]
  omega
theorem pk_st {A l : Nat} (hA : A < 2 ^ 26) (hl : l < 32) : (nI A <<< ((5 : Int32) &&& 31)) ||| nI l = nI (32 * A + l) := by
  rw [pk_shlN _ 5 (by decide) (by omega)]
  exact or_sum hA hl
/-- a letter's number -/
def lt1 (x : Int32) : Nat := x.toNatClampNeg - 96
theorem lt1_ok {x : Int32} (h : isL x) : 1 ≤ lt1 x ∧ lt1 x ≤ 26 ∧ x - 97 + 1 = nI (lt1 x) ∧ x = nI (lt1 x + 96) := by
  obtain ⟨j, h1, h2, rfl⟩ := zrange (lo := 97) (hi := 122) (a := 97) (b := 122) (by decide) (by decide) h.1 h.2
  unfold lt1
  rw [zcla (show j < 2 ^ 31 by omega)]
  refine ⟨by omega, by omega, ?_, by congr 1; omega⟩
  have e1 : nI j = nI (j - 96) + nI 96 := by rw [nI_add, Nat.sub_add_cancel (by omega)]
  rw [e1]
  have e : (97 : Int32) = nI 96 + 1 := by decide
  rw [e, ← Int32.sub_sub, Int32.add_sub_cancel, Int32.sub_add_cancel]
def pkN (B : Nat → Int32) : Nat → Nat → Nat → Nat
  | 0, _, A => A
  | r + 1, p, A => pkN B r (p + 1) (32 * A + lt1 (B p))
def pkb (r : Nat) : Nat := [1073741824, 33554432, 1048576, 32768, 1024, 32, 1].getD r 0
theorem pkb_st {r A l : Nat} (hr : r + 1 ≤ 6) (hA : A < pkb (r + 1)) (hl : l < 32) : A < 2 ^ 26 ∧ 32 * A + l < pkb r := by
  rcases (show r = 0 ∨ r = 1 ∨ r = 2 ∨ r = 3 ∨ r = 4 ∨ r = 5 by omega) with rfl | rfl | rfl | rfl | rfl | rfl
  · have hA : A < 33554432 := hA
    exact ⟨by omega, show 32 * A + l < 1073741824 by omega⟩
  · have hA : A < 1048576 := hA
    exact ⟨by omega, show 32 * A + l < 33554432 by omega⟩
  · have hA : A < 32768 := hA
    exact ⟨by omega, show 32 * A + l < 1048576 by omega⟩
  · have hA : A < 1024 := hA
    exact ⟨by omega, show 32 * A + l < 32768 by omega⟩
  · have hA : A < 32 := hA
    exact ⟨by omega, show 32 * A + l < 1024 by omega⟩
  · have hA : A < 1 := hA
    exact ⟨by omega, show 32 * A + l < 32 by omega⟩
theorem pkF_N {B : Nat → Int32} {n e : Nat} (he : e ≤ n) (hend : ¬ (e < n ∧ isL (B e))) : ∀ r p A, p + r = e → (∀ j, p ≤ j → j < e → isL (B j)) → A < pkb r → r ≤ 6 → pkF B n (n - p) p (nI A) = nI (pkN B r p A)
  | 0, p, A, hp, _, _, _ => by
    have : p = e := by omega
    subst this
    cases hq : n - p with
    | zero => rfl
    | succ m => rw [pkF, if_neg hend]; rfl
  | r + 1, p, A, hp, all, hA, hr => by
    have lp := all p (Nat.le_refl _) (by omega)
    obtain ⟨l1, l2, l3, l4⟩ := lt1_ok lp
    obtain ⟨b1, b2⟩ := pkb_st hr hA (show lt1 (B p) < 32 by omega)
    rw [show n - p = (n - (p + 1)) + 1 by omega, pkF, if_pos ⟨by omega, lp⟩, l3, pk_st b1 (by omega)]
    exact pkF_N he hend r (p + 1) _ (by omega) (fun j a b => all j (by omega) b) b2 (by omega)
def val6 (f : Nat → Nat) : Nat := ((((f 0 * 32 + f 1) * 32 + f 2) * 32 + f 3) * 32 + f 4) * 32 + f 5
theorem val6_inj {f g : Nat → Nat} (hf : ∀ k, k < 6 → f k < 32) (hg : ∀ k, k < 6 → g k < 32) (h : val6 f = val6 g) : ∀ k, k < 6 → f k = g k := by
  unfold val6 at h
  have f0 := hf 0 (by decide)
  have f1 := hf 1 (by decide)
  have f2 := hf 2 (by decide)
  have f3 := hf 3 (by decide)
  have f4 := hf 4 (by decide)
  have f5 := hf 5 (by decide)
  have g0 := hg 0 (by decide)
  have g1 := hg 1 (by decide)
  have g2 := hg 2 (by decide)
  have g3 := hg 3 (by decide)
  have g4 := hg 4 (by decide)
  have g5 := hg 5 (by decide)
  intro k hk
  rcases (show k = 0 ∨ k = 1 ∨ k = 2 ∨ k = 3 ∨ k = 4 ∨ k = 5 by omega) with rfl | rfl | rfl | rfl | rfl | rfl <;> omega
theorem val6_lt {f : Nat → Nat} (hf : ∀ k, k < 6 → f k < 32) : val6 f < 2 ^ 31 := by
  unfold val6
  have f0 := hf 0 (by decide)
  have f1 := hf 1 (by decide)
  have f2 := hf 2 (by decide)
  have f3 := hf 3 (by decide)
  have f4 := hf 4 (by decide)
  have f5 := hf 5 (by decide)
  omega
def dgs (B : Nat → Int32) (s m k : Nat) : Nat := if k < m then lt1 (B (s + k)) else 0
theorem dgs_lt {B : Nat → Int32} {s m : Nat} (all : ∀ j, j < m → isL (B (s + j))) (k : Nat) : dgs B s m k < 32 := by
  unfold dgs
  split
  · rename_i c
    have := (lt1_ok (all k c)).2.1
    omega
  · omega
theorem lvS_N {B : Nat → Int32} {n s m : Nat} (hs : s ≤ n) (hm : rnE isL B n s - s = m) (m1 : 1 ≤ m) (m6 : m ≤ 6) : lvS B n s = nI (val6 (dgs B s m)) := by
  obtain ⟨e, he⟩ : ∃ e, e = rnE isL B n s := ⟨_, rfl⟩
  have heL : s ≤ e := he ▸ rnE_ge _ s rfl
  have heN : e ≤ n := he ▸ rnE_le _ s rfl hs
  have all := rnE_all (P := isL) (B := B) (n := n) _ s rfl
  have endL := rnE_end (P := isL) (B := B) (n := n) _ s rfl hs
  rw [← he] at hm all endL
  have lts : ∀ j, j < m → lt1 (B (s + j)) < 32 := fun j hj => by
    have := (lt1_ok (all (s + j) (by omega) (by omega))).2.1
    omega
  unfold lvS
  have e0 : (0 : Int32) = nI 0 := rfl
  rw [← he, hm, e0, pkF_N heN endL m s 0 (by omega) all (by rcases (show m = 1 ∨ m = 2 ∨ m = 3 ∨ m = 4 ∨ m = 5 ∨ m = 6 by omega) with rfl | rfl | rfl | rfl | rfl | rfl <;> decide) m6]
  rcases (show m = 1 ∨ m = 2 ∨ m = 3 ∨ m = 4 ∨ m = 5 ∨ m = 6 by omega) with rfl | rfl | rfl | rfl | rfl | rfl
  · have eN : pkN B 1 s 0 = 32 * 0 + lt1 (B (s + 0)) := rfl
    have eV : val6 (dgs B s 1) = (((((lt1 (B (s + 0))) * 32 + 0) * 32 + 0) * 32 + 0) * 32 + 0) * 32 + 0 := rfl
    rw [eN, eV]
    have q0 := lts 0 (by omega)
    obtain ⟨x0, h0⟩ : ∃ x, x = lt1 (B (s + 0)) := ⟨_, rfl⟩
    rw [← h0]
    rw [← h0] at q0
    rw [pk_shlN _ 25 (by decide) (by omega)]
    exact congrArg nI (by omega)
  · have eN : pkN B 2 s 0 = 32 * (32 * 0 + lt1 (B (s + 0))) + lt1 (B (s + 1)) := rfl
    have eV : val6 (dgs B s 2) = (((((lt1 (B (s + 0))) * 32 + lt1 (B (s + 1))) * 32 + 0) * 32 + 0) * 32 + 0) * 32 + 0 := rfl
    rw [eN, eV]
    have q0 := lts 0 (by omega)
    have q1 := lts 1 (by omega)
    obtain ⟨x0, h0⟩ : ∃ x, x = lt1 (B (s + 0)) := ⟨_, rfl⟩
    obtain ⟨x1, h1⟩ : ∃ x, x = lt1 (B (s + 1)) := ⟨_, rfl⟩
    rw [← h0, ← h1]
    rw [← h0] at q0
    rw [← h1] at q1
    rw [pk_shlN _ 20 (by decide) (by omega)]
    exact congrArg nI (by omega)
  · have eN : pkN B 3 s 0 = 32 * (32 * (32 * 0 + lt1 (B (s + 0))) + lt1 (B (s + 1))) + lt1 (B (s + 2)) := rfl
    have eV : val6 (dgs B s 3) = (((((lt1 (B (s + 0))) * 32 + lt1 (B (s + 1))) * 32 + lt1 (B (s + 2))) * 32 + 0) * 32 + 0) * 32 + 0 := rfl
    rw [eN, eV]
    have q0 := lts 0 (by omega)
    have q1 := lts 1 (by omega)
    have q2 := lts 2 (by omega)
    obtain ⟨x0, h0⟩ : ∃ x, x = lt1 (B (s + 0)) := ⟨_, rfl⟩
    obtain ⟨x1, h1⟩ : ∃ x, x = lt1 (B (s + 1)) := ⟨_, rfl⟩
    obtain ⟨x2, h2⟩ : ∃ x, x = lt1 (B (s + 2)) := ⟨_, rfl⟩
    rw [← h0, ← h1, ← h2]
    rw [← h0] at q0
    rw [← h1] at q1
    rw [← h2] at q2
    rw [pk_shlN _ 15 (by decide) (by omega)]
    exact congrArg nI (by omega)
  · have eN : pkN B 4 s 0 = 32 * (32 * (32 * (32 * 0 + lt1 (B (s + 0))) + lt1 (B (s + 1))) + lt1 (B (s + 2))) + lt1 (B (s + 3)) := rfl
    have eV : val6 (dgs B s 4) = (((((lt1 (B (s + 0))) * 32 + lt1 (B (s + 1))) * 32 + lt1 (B (s + 2))) * 32 + lt1 (B (s + 3))) * 32 + 0) * 32 + 0 := rfl
    rw [eN, eV]
    have q0 := lts 0 (by omega)
    have q1 := lts 1 (by omega)
    have q2 := lts 2 (by omega)
    have q3 := lts 3 (by omega)
    obtain ⟨x0, h0⟩ : ∃ x, x = lt1 (B (s + 0)) := ⟨_, rfl⟩
    obtain ⟨x1, h1⟩ : ∃ x, x = lt1 (B (s + 1)) := ⟨_, rfl⟩
    obtain ⟨x2, h2⟩ : ∃ x, x = lt1 (B (s + 2)) := ⟨_, rfl⟩
    obtain ⟨x3, h3⟩ : ∃ x, x = lt1 (B (s + 3)) := ⟨_, rfl⟩
    rw [← h0, ← h1, ← h2, ← h3]
    rw [← h0] at q0
    rw [← h1] at q1
    rw [← h2] at q2
    rw [← h3] at q3
    rw [pk_shlN _ 10 (by decide) (by omega)]
    exact congrArg nI (by omega)
  · have eN : pkN B 5 s 0 = 32 * (32 * (32 * (32 * (32 * 0 + lt1 (B (s + 0))) + lt1 (B (s + 1))) + lt1 (B (s + 2))) + lt1 (B (s + 3))) + lt1 (B (s + 4)) := rfl
    have eV : val6 (dgs B s 5) = (((((lt1 (B (s + 0))) * 32 + lt1 (B (s + 1))) * 32 + lt1 (B (s + 2))) * 32 + lt1 (B (s + 3))) * 32 + lt1 (B (s + 4))) * 32 + 0 := rfl
    rw [eN, eV]
    have q0 := lts 0 (by omega)
    have q1 := lts 1 (by omega)
    have q2 := lts 2 (by omega)
    have q3 := lts 3 (by omega)
    have q4 := lts 4 (by omega)
    obtain ⟨x0, h0⟩ : ∃ x, x = lt1 (B (s + 0)) := ⟨_, rfl⟩
    obtain ⟨x1, h1⟩ : ∃ x, x = lt1 (B (s + 1)) := ⟨_, rfl⟩
    obtain ⟨x2, h2⟩ : ∃ x, x = lt1 (B (s + 2)) := ⟨_, rfl⟩
    obtain ⟨x3, h3⟩ : ∃ x, x = lt1 (B (s + 3)) := ⟨_, rfl⟩
    obtain ⟨x4, h4⟩ : ∃ x, x = lt1 (B (s + 4)) := ⟨_, rfl⟩
    rw [← h0, ← h1, ← h2, ← h3, ← h4]
    rw [← h0] at q0
    rw [← h1] at q1
    rw [← h2] at q2
    rw [← h3] at q3
    rw [← h4] at q4
    rw [pk_shlN _ 5 (by decide) (by omega)]
    exact congrArg nI (by omega)
  · have eN : pkN B 6 s 0 = 32 * (32 * (32 * (32 * (32 * (32 * 0 + lt1 (B (s + 0))) + lt1 (B (s + 1))) + lt1 (B (s + 2))) + lt1 (B (s + 3))) + lt1 (B (s + 4))) + lt1 (B (s + 5)) := rfl
    have eV : val6 (dgs B s 6) = (((((lt1 (B (s + 0))) * 32 + lt1 (B (s + 1))) * 32 + lt1 (B (s + 2))) * 32 + lt1 (B (s + 3))) * 32 + lt1 (B (s + 4))) * 32 + lt1 (B (s + 5)) := rfl
    rw [eN, eV]
    have q0 := lts 0 (by omega)
    have q1 := lts 1 (by omega)
    have q2 := lts 2 (by omega)
    have q3 := lts 3 (by omega)
    have q4 := lts 4 (by omega)
    have q5 := lts 5 (by omega)
    obtain ⟨x0, h0⟩ : ∃ x, x = lt1 (B (s + 0)) := ⟨_, rfl⟩
    obtain ⟨x1, h1⟩ : ∃ x, x = lt1 (B (s + 1)) := ⟨_, rfl⟩
    obtain ⟨x2, h2⟩ : ∃ x, x = lt1 (B (s + 2)) := ⟨_, rfl⟩
    obtain ⟨x3, h3⟩ : ∃ x, x = lt1 (B (s + 3)) := ⟨_, rfl⟩
    obtain ⟨x4, h4⟩ : ∃ x, x = lt1 (B (s + 4)) := ⟨_, rfl⟩
    obtain ⟨x5, h5⟩ : ∃ x, x = lt1 (B (s + 5)) := ⟨_, rfl⟩
    rw [← h0, ← h1, ← h2, ← h3, ← h4, ← h5]
    rw [← h0] at q0
    rw [← h1] at q1
    rw [← h2] at q2
    rw [← h3] at q3
    rw [← h4] at q4
    rw [← h5] at q5
    rw [pk_shlN _ 0 (by decide) (by omega)]
    exact congrArg nI (by omega)
/-- where a word begins in the words' text, how long it is, its letters -/
def wsL : List Nat := [0, 6, 10, 14, 19, 24, 31, 36, 40, 46, 50, 55, 61, 64, 68, 72, 77, 82, 87, 92, 97, 103, 108]
def ws0 (w : Nat) : Nat := wsL.getD w 108
def wln (w : Nat) : Nat := (wdL.getD w []).length
def wdg (w k : Nat) : Nat := (wdL.getD w []).getD k 96 - 96
theorem wd_tab : ∀ w : Fin 22, wdT w.val = nI (val6 (wdg w.val)) ∧ ws0 (w.val + 1) = ws0 w.val + wln w.val + 1 ∧ wln w.val ≤ 6 ∧ 1 ≤ wln w.val ∧ wch (ws0 w.val + wln w.val) = 32 ∧ ws0 w.val + wln w.val < 108 := by decide +kernel
theorem wd_let : ∀ w : Fin 22, ∀ k : Fin 6, (k.val < wln w.val → wch (ws0 w.val + k.val) = nI (wdg w.val k.val + 96) ∧ 1 ≤ wdg w.val k.val) ∧ (wln w.val ≤ k.val → wdg w.val k.val = 0) ∧ wdg w.val k.val ≤ 26 := by decide +kernel
theorem wd_inj : ∀ w w' : Fin 22, wdT w.val = wdT w'.val → w = w' := by decide +kernel
theorem nI_ne32 {x : Nat} (h1 : 1 ≤ x) (h2 : x ≤ 26) : ¬ nI (x + 96) = 32 := nI_ne (b := 32) (by omega) (by decide) (by omega)
/-- the letters are the word -/
def mtw (B : Nat → Int32) (s m w : Nat) : Prop := wln w = m ∧ ∀ k, k < wln w → wch (ws0 w + k) = B (s + k)
section WD
variable {B : Nat → Int32} {n s m : Nat}
theorem mtw_iff (hs : s ≤ n) (hm : rnE isL B n s - s = m) (m1 : 1 ≤ m) (m6 : m ≤ 6) {w : Nat} (hw : w < 22) : mtw B s m w ↔ wdT w = lvS B n s := by
  have all : ∀ j, j < m → isL (B (s + j)) := fun j hj => rnE_all (P := isL) (B := B) (n := n) _ s rfl (s + j) (by omega) (by omega)
  obtain ⟨t1, t2, t3, t4, t5, t6⟩ := wd_tab ⟨w, hw⟩
  have t1 : wdT w = nI (val6 (wdg w)) := t1
  have t3 : wln w ≤ 6 := t3
  have L := fun k (hk : k < 6) => wd_let ⟨w, hw⟩ ⟨k, hk⟩
  have wl : ∀ k, k < 6 → wdg w k < 32 := fun k hk => by
    have : wdg w k ≤ 26 := (L k hk).2.2
    omega
  rw [t1, lvS_N hs hm m1 m6]
  constructor
  · rintro ⟨e1, e2⟩
    have : ∀ k, k < 6 → wdg w k = dgs B s m k := fun k hk => by
      unfold dgs
      by_cases c : k < m
      · rw [if_pos c]
        have q1 : wch (ws0 w + k) = nI (wdg w k + 96) := ((L k hk).1 (show k < wln w by omega)).1
        have q2 := e2 k (by omega)
        obtain ⟨a1, a2, a3, a4⟩ := lt1_ok (all k c)
        rw [q1, a4] at q2
        have := nI_inj (by have := wl k hk; omega) (by omega) q2
        omega
      · rw [if_neg c]; exact (L k hk).2.1 (show wln w ≤ k by omega)
    unfold val6
    rw [this 0 (by decide), this 1 (by decide), this 2 (by decide), this 3 (by decide), this 4 (by decide), this 5 (by decide)]
  · intro e
    have e := nI_inj (val6_lt wl) (val6_lt (fun k _ => dgs_lt all k)) e
    have D := val6_inj wl (fun k _ => dgs_lt all k) e
    have len : wln w = m := by
      rcases Nat.lt_trichotomy (wln w) m with c | c | c
      · exfalso
        have q := D (wln w) (by omega)
        unfold dgs at q
        rw [if_pos c] at q
        have a1 := (lt1_ok (all (wln w) c)).1
        have q2 : wdg w (wln w) = 0 := (L (wln w) (by omega)).2.1 (Nat.le_refl _)
        omega
      · exact c
      · exfalso
        have q := D m (by omega)
        unfold dgs at q
        rw [if_neg (by omega)] at q
        have q2 : 1 ≤ wdg w m := ((L m (by omega)).1 c).2
        omega
    refine ⟨len, fun k hk => ?_⟩
    have q := D k (by omega)
    unfold dgs at q
    rw [if_pos (by omega)] at q
    obtain ⟨a1, a2, a3, a4⟩ := lt1_ok (all k (by omega))
    have q1 : wch (ws0 w + k) = nI (wdg w k + 96) := ((L k (by omega)).1 hk).1
    rw [q1, q, ← a4]
theorem wdF_no {x : Int32} : ∀ f w a, (∀ v, w ≤ v → v < w + f → wdT v ≠ x) → wdF wdT x f w a = a
  | 0, _, _, _ => rfl
  | f + 1, w, a, h => by
    rw [wdF, if_neg (h w (Nat.le_refl _) (by omega))]
    exact wdF_no f (w + 1) a (fun v a b => h v (by omega) (by omega))
theorem wdF_yes {x : Int32} {u : Nat} (hu : wdT u = x) : ∀ f w a, w ≤ u → u < w + f → w + f ≤ 22 → wdF wdT x f w a = nI u
  | 0, w, a, h1, h2, _ => by omega
  | f + 1, w, a, h1, h2, h3 => by
    rw [wdF]
    by_cases e : w = u
    · subst e
      rw [if_pos hu]
      refine wdF_no f (w + 1) _ (fun v a b z => ?_)
      have := wd_inj ⟨v, by omega⟩ ⟨w, by omega⟩ (z.trans hu.symm)
      have : v = w := congrArg Fin.val this
      omega
    · exact wdF_yes hu f (w + 1) _ (by omega) (by omega) (by omega)
theorem wdV_yes (hs : s ≤ n) (hm : rnE isL B n s - s = m) (m1 : 1 ≤ m) {w : Nat} (hw : w < 22) (h : mtw B s m w) : wdV B n s = nI w := by
  have t3 : wln w ≤ 6 := (wd_tab ⟨w, hw⟩).2.2.1
  have m6 : m ≤ 6 := by rw [← h.1]; exact t3
  have e := wdF_yes ((mtw_iff hs hm m1 m6 hw).mp h) 22 0 35 (Nat.zero_le _) (by omega) (by decide)
  unfold wdV
  rw [hm, if_pos m6, e]
  exact if_neg (nI_ne (b := 35) (by omega) (by decide) (by omega))
theorem wdV_no (hs : s ≤ n) (hm : rnE isL B n s - s = m) (m1 : 1 ≤ m) (h : ∀ w, w < 22 → ¬ mtw B s m w) : wdV B n s = -1 := by
  unfold wdV
  rw [hm]
  by_cases m6 : m ≤ 6
  · rw [if_pos m6, wdF_no 22 0 35 (fun v _ b z => h v (by omega) ((mtw_iff hs hm m1 m6 (by omega)).mpr z)), if_pos rfl]
  · rw [if_neg m6]
end WD
set_option maxRecDepth 100000 in
set_option maxHeartbeats 4000000 in
theorem sg_X10_word_0 {G : zG} {d : Nat} {h : zMem} {Q : Int32 → zMem → Prop}  (hS : zSh2 h)  (w : gW G) (B : zg G mX10_word (d + 4) 4 [.ref 132, .int (0 : Int32), .int (0 : Int32), zU] [] h (zPI Q)) : zg G mX10_word (d + 4) 0 [.ref 132, zU, zU, zU] [] h (zPI Q) := by
  refine z_iconst (v := 0) 0 rfl (by decide) ?_
  refine z_istore_n 1 rfl (by decide) rfl ?_
  refine z_iconst (v := 0) 2 rfl (by decide) ?_
  refine z_istore_n 3 rfl (by decide) rfl ?_
  exact B
theorem cn_X10_word {G : zG} {d : Nat} {h : zMem} {Q : Int32 → zMem → Prop}  (B : zg G mX10_word (d + 4) 0 [.ref 132, zU, zU, zU] [] h (zPI Q)) : zConI G mX10_word (d + 4) [.ref 132] h Q := zcon0 (by decide +kernel) eX10_word (Nat.le_of_ble_eq_true rfl) rfl B
set_option maxRecDepth 100000 in
set_option maxHeartbeats 4000000 in
theorem sg_X10_word_4 {G : zG} {d : Nat} {h : zMem} {Q : Int32 → zMem → Prop} {x1 : Int32} {x2 : Int32} (hS : zSh2 h)  (w : gW G) (B : ((108 : Int32) ≤ x2 → Q (-1 : Int32) h) ∧ (¬ (108 : Int32) ≤ x2 → zg G mX10_word (d + 4) 15 [.ref 132, .int x1, .int x2, .int (0 : Int32)] [] h (zPI Q))) : zg G mX10_word (d + 4) 4 [.ref 132, .int x1, .int x2, zU] [] h (zPI Q) := by
  refine z_iload_n 4 rfl rfl ?_
  refine z_ldcX (tx := wdTx) (a := 1000001) 5 rfl w.str.1 ?_
  refine z_slen 6 rfl rfl gX10_205 w (Nat.le_of_ble_eq_true rfl) ?_
  refine z_icmp_ge 7 123 rfl (by decide) ⟨fun c1 => ?_, fun c1 => ?_⟩
  · have B := B.1 c1
    refine z_iconst (v := -1) 65 rfl (by decide) ?_
    exact z_iret 66 rfl rfl rfl ⟨rfl, rfl⟩ ⟨_, rfl, B⟩
  · have B := B.2 c1
    refine z_iconst (v := 0) 8 rfl (by decide) ?_
    refine z_istore_n 9 rfl (by decide) rfl ?_
    exact B
set_option maxRecDepth 100000 in
set_option maxHeartbeats 4000000 in
theorem sg_X10_word_15 {G : zG} {d : Nat} {h : zMem} {Q : Int32 → zMem → Prop} {x1 : Int32} {x2 : Int32} {x3 : Int32} (hS : zSh2 h)  (w : gW G) (B : ∃ j1, (x2 + x3) = nI j1 ∧ j1 < 108 ∧ ((wch j1) = (32 : Int32) → ∃ j3, (x2 + x3) = nI j3 ∧ j3 < 108 ∧ (¬ (wch j3) = (32 : Int32) → zg G mX10_word (d + 4) 97 [.ref 132, .int x1, .int x2, .int x3] [] h (zPI Q)) ∧ ((wch j3) = (32 : Int32) → (¬ ((zI h 132 22) + x3) = (zI h 132 21) → zg G mX10_word (d + 4) 97 [.ref 132, .int x1, .int x2, .int x3] [] h (zPI Q)) ∧ (((zI h 132 22) + x3) = (zI h 132 21) → Q x1 h))) ∧ (¬ (wch j1) = (32 : Int32) → ((zI h 132 21) ≤ ((zI h 132 22) + x3) → ∃ j7, (x2 + x3) = nI j7 ∧ j7 < 108 ∧ (¬ (wch j7) = (32 : Int32) → zg G mX10_word (d + 4) 97 [.ref 132, .int x1, .int x2, .int x3] [] h (zPI Q)) ∧ ((wch j7) = (32 : Int32) → (¬ ((zI h 132 22) + x3) = (zI h 132 21) → zg G mX10_word (d + 4) 97 [.ref 132, .int x1, .int x2, .int x3] [] h (zPI Q)) ∧ (((zI h 132 22) + x3) = (zI h 132 21) → Q x1 h))) ∧ (¬ (zI h 132 21) ≤ ((zI h 132 22) + x3) → vp_in ((zI h 132 22) + x3) 700 ∧ ∃ j11, (x2 + x3) = nI j11 ∧ j11 < 108 ∧ (¬ (zI h 133 ((zI h 132 22) + x3).toNatClampNeg) = (wch j11) → ∃ j13, (x2 + x3) = nI j13 ∧ j13 < 108 ∧ (¬ (wch j13) = (32 : Int32) → zg G mX10_word (d + 4) 97 [.ref 132, .int x1, .int x2, .int x3] [] h (zPI Q)) ∧ ((wch j13) = (32 : Int32) → (¬ ((zI h 132 22) + x3) = (zI h 132 21) → zg G mX10_word (d + 4) 97 [.ref 132, .int x1, .int x2, .int x3] [] h (zPI Q)) ∧ (((zI h 132 22) + x3) = (zI h 132 21) → Q x1 h))) ∧ ((zI h 133 ((zI h 132 22) + x3).toNatClampNeg) = (wch j11) → zg G mX10_word (d + 4) 15 [.ref 132, .int x1, .int x2, .int (x3 + 1)] [] h (zPI Q))))) : zg G mX10_word (d + 4) 15 [.ref 132, .int x1, .int x2, .int x3] [] h (zPI Q) := by
  refine z_ldcX (tx := wdTx) (a := 1000001) 10 rfl w.str.1 ?_
  refine z_iload_n 11 rfl rfl ?_
  refine z_iload_n 12 rfl rfl ?_
  refine z_iadd 13 rfl ?_
  obtain ⟨j1, ej1, kj1, B⟩ := B
  refine z_schar 14 rfl rfl gX10_210 w (Nat.le_of_ble_eq_true rfl) ej1 kj1 ?_
  refine z_bipush (v := 32) 15 rfl (by decide) ?_
  refine z_icmp_eq 16 69 rfl (by decide) ⟨fun c2 => ?_, fun c2 => ?_⟩
  · have B := B.1 c2
    refine z_ldcX (tx := wdTx) (a := 1000001) 39 rfl w.str.1 ?_
    refine z_iload_n 40 rfl rfl ?_
    refine z_iload_n 41 rfl rfl ?_
    refine z_iadd 42 rfl ?_
    obtain ⟨j3, ej3, kj3, B⟩ := B
    refine z_schar 43 rfl rfl gX10_210 w (Nat.le_of_ble_eq_true rfl) ej3 kj3 ?_
    refine z_bipush (v := 32) 44 rfl (by decide) ?_
    refine z_icmp_ne 45 97 rfl (by decide) ⟨fun c4 => ?_, fun c4 => ?_⟩
    · have B := B.1 c4
      exact B
    · have B := B.2 c4
      refine z_aload_n 46 rfl rfl ?_
      refine z_getI 47 rfl lX10_176 rfl (zcl1.o hS 132 9 rfl rfl rfl) ?_
      refine z_iload_n 48 rfl rfl ?_
      refine z_iadd 49 rfl ?_
      refine z_aload_n 50 rfl rfl ?_
      refine z_getI 51 rfl lX10_166 rfl (zcl1.o hS 132 9 rfl rfl rfl) ?_
      refine z_icmp_ne 52 97 rfl (by decide) ⟨fun c5 => ?_, fun c5 => ?_⟩
      · have B := B.1 c5
        exact B
      · have B := B.2 c5
        refine z_iload_n 53 rfl rfl ?_
        exact z_iret 54 rfl rfl rfl ⟨rfl, rfl⟩ ⟨_, rfl, B⟩
  · have B := B.2 c2
    refine z_aload_n 17 rfl rfl ?_
    refine z_getI 18 rfl lX10_176 rfl (zcl1.o hS 132 9 rfl rfl rfl) ?_
    refine z_iload_n 19 rfl rfl ?_
    refine z_iadd 20 rfl ?_
    refine z_aload_n 21 rfl rfl ?_
    refine z_getI 22 rfl lX10_166 rfl (zcl1.o hS 132 9 rfl rfl rfl) ?_
    refine z_icmp_ge 23 69 rfl (by decide) ⟨fun c6 => ?_, fun c6 => ?_⟩
    · have B := B.1 c6
      refine z_ldcX (tx := wdTx) (a := 1000001) 39 rfl w.str.1 ?_
      refine z_iload_n 40 rfl rfl ?_
      refine z_iload_n 41 rfl rfl ?_
      refine z_iadd 42 rfl ?_
      obtain ⟨j7, ej7, kj7, B⟩ := B
      refine z_schar 43 rfl rfl gX10_210 w (Nat.le_of_ble_eq_true rfl) ej7 kj7 ?_
      refine z_bipush (v := 32) 44 rfl (by decide) ?_
      refine z_icmp_ne 45 97 rfl (by decide) ⟨fun c8 => ?_, fun c8 => ?_⟩
      · have B := B.1 c8
        exact B
      · have B := B.2 c8
        refine z_aload_n 46 rfl rfl ?_
        refine z_getI 47 rfl lX10_176 rfl (zcl1.o hS 132 9 rfl rfl rfl) ?_
        refine z_iload_n 48 rfl rfl ?_
        refine z_iadd 49 rfl ?_
        refine z_aload_n 50 rfl rfl ?_
        refine z_getI 51 rfl lX10_166 rfl (zcl1.o hS 132 9 rfl rfl rfl) ?_
        refine z_icmp_ne 52 97 rfl (by decide) ⟨fun c9 => ?_, fun c9 => ?_⟩
        · have B := B.1 c9
          exact B
        · have B := B.2 c9
          refine z_iload_n 53 rfl rfl ?_
          exact z_iret 54 rfl rfl rfl ⟨rfl, rfl⟩ ⟨_, rfl, B⟩
    · have B := B.2 c6
      refine z_aload_n 24 rfl rfl ?_
      refine z_getR 25 rfl lX10_7 rfl (zcl1.o hS 132 9 rfl rfl rfl) (zcl1.r hS 132 1 133 rfl rfl rfl) ?_
      refine z_aload_n 26 rfl rfl ?_
      refine z_getI 27 rfl lX10_176 rfl (zcl1.o hS 132 9 rfl rfl rfl) ?_
      refine z_iload_n 28 rfl rfl ?_
      refine z_iadd 29 rfl ?_
      obtain ⟨o10, B⟩ := B
      refine z_iald 30 rfl (zcl1.o hS 133 100 rfl rfl rfl) (zin (zcl1.l hS 133 700 rfl rfl rfl) o10) ?_
      refine z_ldcX (tx := wdTx) (a := 1000001) 31 rfl w.str.1 ?_
      refine z_iload_n 32 rfl rfl ?_
      refine z_iload_n 33 rfl rfl ?_
      refine z_iadd 34 rfl ?_
      obtain ⟨j11, ej11, kj11, B⟩ := B
      refine z_schar 35 rfl rfl gX10_210 w (Nat.le_of_ble_eq_true rfl) ej11 kj11 ?_
      refine z_icmp_ne 36 69 rfl (by decide) ⟨fun c12 => ?_, fun c12 => ?_⟩
      · have B := B.1 c12
        refine z_ldcX (tx := wdTx) (a := 1000001) 39 rfl w.str.1 ?_
        refine z_iload_n 40 rfl rfl ?_
        refine z_iload_n 41 rfl rfl ?_
        refine z_iadd 42 rfl ?_
        obtain ⟨j13, ej13, kj13, B⟩ := B
        refine z_schar 43 rfl rfl gX10_210 w (Nat.le_of_ble_eq_true rfl) ej13 kj13 ?_
        refine z_bipush (v := 32) 44 rfl (by decide) ?_
        refine z_icmp_ne 45 97 rfl (by decide) ⟨fun c14 => ?_, fun c14 => ?_⟩
        · have B := B.1 c14
          exact B
        · have B := B.2 c14
          refine z_aload_n 46 rfl rfl ?_
          refine z_getI 47 rfl lX10_176 rfl (zcl1.o hS 132 9 rfl rfl rfl) ?_
          refine z_iload_n 48 rfl rfl ?_
          refine z_iadd 49 rfl ?_
          refine z_aload_n 50 rfl rfl ?_
          refine z_getI 51 rfl lX10_166 rfl (zcl1.o hS 132 9 rfl rfl rfl) ?_
          refine z_icmp_ne 52 97 rfl (by decide) ⟨fun c15 => ?_, fun c15 => ?_⟩
          · have B := B.1 c15
            exact B
          · have B := B.2 c15
            refine z_iload_n 53 rfl rfl ?_
            exact z_iret 54 rfl rfl rfl ⟨rfl, rfl⟩ ⟨_, rfl, B⟩
      · have B := B.2 c12
        refine z_iinc (v := 1) 37 rfl rfl (by decide) (by decide) rfl ?_
        refine z_goto 38 15 rfl (by decide) ?_
        exact B
set_option maxRecDepth 100000 in
set_option maxHeartbeats 4000000 in
theorem sg_X10_word_97 {G : zG} {d : Nat} {h : zMem} {Q : Int32 → zMem → Prop} {x1 : Int32} {x2 : Int32} {x3 : Int32} (hS : zSh2 h)  (w : gW G) (B : ∃ j1, x2 = nI j1 ∧ j1 < 108 ∧ ((wch j1) = (32 : Int32) → zg G mX10_word (d + 4) 4 [.ref 132, .int (x1 + 1), .int (x2 + 1), zU] [] h (zPI Q)) ∧ (¬ (wch j1) = (32 : Int32) → zg G mX10_word (d + 4) 97 [.ref 132, .int x1, .int (x2 + 1), .int x3] [] h (zPI Q))) : zg G mX10_word (d + 4) 97 [.ref 132, .int x1, .int x2, .int x3] [] h (zPI Q) := by
  refine z_ldcX (tx := wdTx) (a := 1000001) 55 rfl w.str.1 ?_
  refine z_iload_n 56 rfl rfl ?_
  obtain ⟨j1, ej1, kj1, B⟩ := B
  refine z_schar 57 rfl rfl gX10_210 w (Nat.le_of_ble_eq_true rfl) ej1 kj1 ?_
  refine z_bipush (v := 32) 58 rfl (by decide) ?_
  refine z_icmp_eq 59 114 rfl (by decide) ⟨fun c2 => ?_, fun c2 => ?_⟩
  · have B := B.1 c2
    refine z_iinc (v := 1) 62 rfl rfl (by decide) (by decide) rfl ?_
    refine z_iinc (v := 1) 63 rfl rfl (by decide) (by decide) rfl ?_
    refine z_goto 64 4 rfl (by decide) ?_
    refine z_drop 3 ?_
    exact B
  · have B := B.2 c2
    refine z_iinc (v := 1) 60 rfl rfl (by decide) (by decide) rfl ?_
    refine z_goto 61 97 rfl (by decide) ?_
    exact B
theorem isL_255 {x : Int32} (h : isL x) : x &&& 255 = x := by
  obtain ⟨l1, l2, l3, l4⟩ := lt1_ok h
  rw [l4, pk_andN (by omega) 8 (by decide), Nat.mod_eq_of_lt (by omega)]
theorem wdK_of {G : zG} (w : gW G) : wdK G := by
  intro d n s h B hS hT h21 h22 hs hl
  obtain ⟨e, he⟩ : ∃ e, e = rnE isL B n s := ⟨_, rfl⟩
  have heN : e ≤ n := he ▸ rnE_le _ s rfl (by omega)
  have n7 := hT.2.2
  have all := rnE_all (P := isL) (B := B) (n := n) _ s rfl
  have heL : s < e := by
    rw [he]
    have : rnE isL B n s = rnE isL B n (s + 1) := rnE_y hs hl
    rw [this]
    have := rnE_ge (P := isL) (B := B) (n := n) _ (s + 1) rfl
    omega
  rw [← he] at h21 all
  obtain ⟨m, hm⟩ : ∃ m, m = e - s := ⟨_, rfl⟩
  have hm' : rnE isL B n s - s = m := by rw [← he, ← hm]
  have m1 : 1 ≤ m := by omega
  have tp : ∀ j, j < m → zI h 133 (s + j) = B (s + j) := fun j hj => by rw [hT.1 _ (by omega)]; exact isL_255 (all (s + j) (by omega) (by omega))
  obtain ⟨Q, hQ⟩ : ∃ Q : Int32 → zMem → Prop, Q = (fun v h' => h' = h ∧ v = wdV B n s) := ⟨_, rfl⟩
  rw [← hQ]
  have F : ∀ k u, k + u = 22 → (∀ v, v < u → ¬ mtw B s m v) → zg G mX10_word (d + 10) 4 [.ref 132, .int (nI u), .int (nI (ws0 u)), zU] [] h (zPI Q) := by
    intro k
    induction k with
    | zero =>
      intro u hu nm
      have : u = 22 := by omega
      subst this
      refine sg_X10_word_4 (d := d + 6) hS w ⟨fun _ => ?_, fun c => absurd (show (108 : Int32) ≤ nI (ws0 22) by decide) c⟩
      rw [hQ]
      exact ⟨rfl, (wdV_no (by omega) hm' m1 nm).symm⟩
    | succ k ih =>
      intro u hu nm
      have hu' : u < 22 := by omega
      obtain ⟨-, t2, t3, t4, t5, t6⟩ := wd_tab ⟨u, hu'⟩
      have t2 : ws0 (u + 1) = ws0 u + wln u + 1 := t2
      have t3 : wln u ≤ 6 := t3
      have t5 : wch (ws0 u + wln u) = 32 := t5
      have t6 : ws0 u + wln u < 108 := t6
      have ne32 : ∀ i, i < wln u → ¬ wch (ws0 u + i) = 32 := fun i hi => by
        have q := wd_let ⟨u, hu'⟩ ⟨i, by omega⟩
        have q1 : wch (ws0 u + i) = nI (wdg u i + 96) := (q.1 hi).1
        rw [q1]
        exact nI_ne32 (q.1 hi).2 q.2.2
      -- on to the next word
      have F97 : ¬ mtw B s m u → ∀ r i x3, r + i = wln u → zg G mX10_word (d + 10) 97 [.ref 132, .int (nI u), .int (nI (ws0 u + i)), .int x3] [] h (zPI Q) := by
        intro no r
        induction r with
        | zero =>
          intro i x3 hi
          refine sg_X10_word_97 (d := d + 6) hS w ⟨ws0 u + i, rfl, by omega, fun _ => ?_, fun c => absurd (by rw [show ws0 u + i = ws0 u + wln u by omega]; exact t5) c⟩
          rw [nI_1, nI_1, show ws0 u + i + 1 = ws0 (u + 1) by omega]
          refine ih (u + 1) (by omega) (fun v hv => ?_)
          by_cases ev : v = u
          · rw [ev]; exact no
          · exact nm v (by omega)
        | succ r ihr =>
          intro i x3 hi
          refine sg_X10_word_97 (d := d + 6) hS w ⟨ws0 u + i, rfl, by omega, fun c => absurd c (ne32 i (by omega)), fun _ => ?_⟩
          rw [nI_1, show ws0 u + i + 1 = ws0 u + (i + 1) by omega]
          exact ihr (i + 1) x3 (by omega)
      have F15 : ∀ r i, r + i = wln u → (∀ j, j < i → s + j < e ∧ wch (ws0 u + j) = B (s + j)) → zg G mX10_word (d + 10) 15 [.ref 132, .int (nI u), .int (nI (ws0 u)), .int (nI i)] [] h (zPI Q) := by
        intro r
        induction r with
        | zero =>
          intro i hi al
          have e32 : wch (ws0 u + i) = 32 := by rw [show ws0 u + i = ws0 u + wln u by omega]; exact t5
          refine sg_X10_word_15 (d := d + 6) hS w ⟨ws0 u + i, nI_add _ _, by omega, fun _ => ⟨ws0 u + i, nI_add _ _, by omega, fun c => absurd e32 c, fun _ => ?_⟩, fun c => absurd e32 c⟩
          rw [h21, h22, nI_add]
          refine ⟨fun c => ?_, fun c => ?_⟩
          · have := F97 (fun mt => c (by rw [show s + i = e by have := mt.1; omega])) (wln u) 0 (nI i) (by omega)
            rw [Nat.add_zero] at this
            exact this
          · have c := nI_inj (by omega) (by omega) c
            rw [hQ]
            exact ⟨rfl, (wdV_yes (by omega) hm' m1 hu' ⟨by omega, fun j hj => (al j (by omega)).2⟩).symm⟩
        | succ r ihr =>
          intro i hi al
          have n32 := ne32 i (by omega)
          have no97 : ¬ mtw B s m u → zg G mX10_word (d + 10) 97 [.ref 132, .int (nI u), .int (nI (ws0 u)), .int (nI i)] [] h (zPI Q) := fun no => by
            have := F97 no (wln u) 0 (nI i) (by omega)
            rw [Nat.add_zero] at this
            exact this
          refine sg_X10_word_15 (d := d + 6) hS w ⟨ws0 u + i, nI_add _ _, by omega, fun c => absurd c n32, fun _ => ?_⟩
          rw [h21, h22, nI_add]
          refine ⟨fun c => ⟨ws0 u + i, nI_add _ _, by omega, fun _ => no97 (fun mt => ?_), fun c2 => absurd c2 n32⟩, fun c => ?_⟩
          · have c : ¬ s + i < e := fun z => nI_ge z (by omega) c
            have := mt.1
            omega
          · have c : s + i < e := Nat.lt_of_not_le (fun z => c (nI_le z (by omega)))
            rw [zcla (show s + i < 2 ^ 31 by omega), tp i (by omega), nI_1]
            refine ⟨zin_n (by omega) (by decide), ws0 u + i, nI_add _ _, by omega, fun c2 => ⟨ws0 u + i, nI_add _ _, by omega, fun _ => no97 (fun mt => c2 (mt.2 i (by omega)).symm), fun c3 => absurd c3 n32⟩, fun c2 => ?_⟩
            refine ihr (i + 1) (by omega) (fun j hj => ?_)
            by_cases ej : j = i
            · subst ej; exact ⟨c, c2.symm⟩
            · exact al j (by omega)
      refine sg_X10_word_4 (d := d + 6) hS w ⟨fun c => absurd c (nI_ge (b := 108) (by omega) (by decide)), fun _ => ?_⟩
      exact F15 (wln u) 0 (by omega) (fun j hj => absurd hj (by omega))
  exact cn_X10_word (d := d + 6) (sg_X10_word_0 (d := d + 6) hS w (F 22 0 rfl (fun v hv => absurd hv (by omega))))
theorem gK_of {G : zG} (w : gW G) : gK G := ⟨nwK_of w, wdK_of w⟩
