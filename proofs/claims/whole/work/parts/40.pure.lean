/-! pure rows: memories that differ in ints alone, numbers, lists -/
/-- h' is h with the ints I' (and any longs, but for those of cell 99) -/
def zF (h : zMem) (I' : Nat → Nat → Int32) (h' : zMem) : Prop := (h'.1 = h.1 ∧ zL h' 99 = zL h 99) ∧ h'.2.1 = h.2.1 ∧ zI h' = I'
theorem zF.rf (h : zMem) : zF h (zI h) h := ⟨⟨rfl, rfl⟩, rfl, rfl⟩
theorem zF.sI {h h' : zMem} {I' : Nat → Nat → Int32} (q : zF h I' h') (a i : Nat) (v : Int32) : zF h (zup I' a i v) (zsI h' a i v) := ⟨q.1, q.2.1, by rw [zI_sI, q.2.2]⟩
theorem zF.sL {h h' : zMem} {I' : Nat → Nat → Int32} (q : zF h I' h') (a i : Nat) (v : Int64) (ha : a ≠ 99) : zF h I' (zsL h' a i v) := ⟨⟨q.1.1, by rw [zL_sL]; exact (funext fun j => zup_a _ _ j (Ne.symm ha)).trans q.1.2⟩, q.2.1, q.2.2⟩
theorem zF.trans {h h1 h2 : zMem} {I1 I2 : Nat → Nat → Int32} (q : zF h I1 h1) (r : zF h1 I2 h2) : zF h I2 h2 := ⟨⟨r.1.1.trans q.1.1, r.1.2.trans q.1.2⟩, r.2.1.trans q.2.1, r.2.2⟩
theorem zF.to {h h' : zMem} {I1 I2 : Nat → Nat → Int32} (q : zF h I1 h') (e : I1 = I2) : zF h I2 h' := e ▸ q
theorem zcl1.of {h h' : zMem} {lo hi : Nat} (hS : zcl1 h lo hi) (e1 : h'.1 = h.1) (e2 : h'.2.1 = h.2.1) : zcl1 h' lo hi := by
  unfold zcl1 zn zK zLen zR at *
  rw [e1, e2]
  exact hS
theorem zSh1.of {h h' : zMem} {t : Nat} (hS : zSh1 h t) (e1 : h'.1 = h.1) (e2 : h'.2.1 = h.2.1) : zSh1 h' t := ⟨hS.1.of e1 e2, hS.2.1, by have := hS.2.2.1; unfold zR at *; rw [e2]; exact this, by have := hS.2.2.2; unfold zR at *; rw [e2]; exact this⟩
theorem zSh1.F {h h' : zMem} {t : Nat} {I' : Nat → Nat → Int32} (hS : zSh1 h t) (q : zF h I' h') : zSh1 h' t := hS.of q.1.1 q.2.1
theorem zSh2.of {h h' : zMem} (hS : zSh2 h) (e1 : h'.1 = h.1) (e2 : h'.2.1 = h.2.1) : zSh2 h' := zcl1.of hS e1 e2
theorem zSh2.F {h h' : zMem} {I' : Nat → Nat → Int32} (hS : zSh2 h) (q : zF h I' h') : zSh2 h' := hS.of q.1.1 q.2.1
theorem zin_n {k n : Nat} (h : k < n) (hn : n < 2 ^ 31) : vp_in (nI k) n := vp_in_nI h hn
theorem zcla {k : Nat} (h : k < 2 ^ 31) : (nI k).toNatClampNeg = k := nI_clamp h
theorem zlit (k : Nat) : (OfNat.ofNat k : Int32) = nI k := rfl
theorem n0 : (0 : Int32) = nI 0 := rfl
theorem n1 : (1 : Int32) = nI 1 := rfl
theorem n2 : (2 : Int32) = nI 2 := rfl
/-- a stack of longs in a row: its top last -/
def stkR (vs : Nat → Int64) : List Int64 → Prop
  | [] => True
  | x :: r => vs r.length = x ∧ stkR vs r
theorem stkR_up {a : Nat} {L : Nat → Nat → Int64} {k : Nat} {x : Int64} : ∀ {r : List Int64}, r.length ≤ k → stkR (L a) r → stkR (zup L a k x a) r
  | [], _, _ => trivial
  | y :: r, hl, hs => by
    have h1 : r.length < k := hl
    exact ⟨by rw [zup_i _ _ _ (by omega)]; exact hs.1, stkR_up (by omega) hs.2⟩
theorem stkR_push {a : Nat} {L : Nat → Nat → Int64} {k : Nat} {x : Int64} {r : List Int64} (hk : r.length = k) (hs : stkR (L a) r) : stkR (zup L a k x a) (x :: r) := ⟨by rw [hk, zup_s], stkR_up (by omega) hs⟩
theorem zrange {x lo hi : Int32} {a b : Nat} (ha : lo.toInt = a) (hb : hi.toInt = b) (h1 : ¬ x < lo) (h2 : ¬ hi < x) : ∃ j : Nat, a ≤ j ∧ j ≤ b ∧ x = nI j := by
  rw [Int32.lt_iff_toInt_lt] at h1 h2
  have h0 : ¬ x < 0 := by
    rw [Int32.lt_iff_toInt_lt]
    show ¬ x.toInt < 0
    omega
  obtain ⟨j, hj, rfl⟩ := nI_of h0
  rw [nI_toInt hj] at h1 h2
  exact ⟨j, by omega, by omega, rfl⟩
theorem nI_inj {a b : Nat} (ha : a < 2 ^ 31) (hb : b < 2 ^ 31) (h : nI a = nI b) : a = b := (nI_eq ha hb).mp h
