/-! THE SHAPE of the heap behind the constructors (by program): kinds, lengths, references that never change -/
def kKs : List Nat := [8, 102, 3, 4, 100, 102, 100, 100, 6, 100, 104, 100, 100, 100, 100, 100, 103, 104, 100, 100, 100, 100, 100, 100, 100, 100, 100, 100, 100, 0, 100, 100, 100, 100, 103, 101, 101, 1, 100, 100, 100, 103, 100, 103, 7, 100, 100, 100, 5, 100, 100, 100, 104, 100, 100, 100, 100, 100, 100, 100, 100, 100, 100, 100, 100, 5, 100, 100, 100, 104, 100, 100, 100, 100, 100, 100, 100, 100, 100, 100, 100, 100, 5, 100, 100, 100, 104, 100, 100, 100, 100, 100, 100, 100, 100, 100, 100, 100, 100, 2, 100, 100, 100, 6, 100, 104, 100, 100, 100, 100, 100, 103, 104, 100, 100, 100, 100, 100, 100, 100, 100, 100, 100, 100, 0, 100, 100, 100, 100, 103, 101, 101, 9, 100, 100, 100, 100, 100, 100, 100, 100, 100, 100, 100, 100, 100, 100, 100, 100, 101, 101, 100, 100, 100, 100, 100, 100, 100, 100, 100, 100, 100, 100, 100, 100, 100, 100, 100, 100, 100, 100, 103, 100, 103]
def kLs : List Nat := [0, 700, 0, 0, 22, 0, 72, 72, 0, 4, 4, 8, 8, 8, 8, 6, 8, 8, 6, 6, 6, 6, 6, 6, 6, 6, 6, 5, 5, 0, 64, 64, 3, 3, 3, 7, 64, 0, 24, 24, 24, 24, 24, 24, 0, 20, 20, 20, 0, 6, 6, 6, 6, 6, 6, 6, 6, 6, 6, 5, 5, 5, 5, 6, 8, 0, 6, 6, 6, 6, 6, 6, 6, 6, 6, 6, 5, 5, 5, 5, 6, 8, 0, 6, 6, 6, 6, 6, 6, 6, 6, 6, 6, 5, 5, 5, 5, 6, 8, 0, 36, 6, 8, 0, 4, 4, 8, 8, 8, 8, 6, 8, 8, 6, 6, 6, 6, 6, 6, 6, 6, 6, 5, 5, 0, 64, 64, 3, 3, 3, 7, 64, 0, 700, 16, 12, 12, 16, 16, 96, 12, 12, 10, 10, 10, 6, 6, 128, 128, 7, 64, 23, 23, 23, 23, 23, 138, 138, 828, 115, 115, 115, 115, 8, 6, 8, 36, 36, 24, 24, 24, 24, 24, 24]
def kRs : List (List (Option Nat)) := [[some 1, some 2, some 37, some 44, some 48, some 65, some 82, some 99, some 100, some 101, some 102, none], [], [some 3, some 6, some 7, none, none, none, none], [some 4, none], [], [], [], [], [some 9, some 10, some 15, some 16, some 17, some 26, some 27, some 28, some 29], [], [some 11, some 12, some 13, some 14], [], [], [], [], [], [], [some 18, some 19, some 20, some 21, some 22, some 23, some 24, some 25], [], [], [], [], [], [], [], [], [], [], [], [some 30, some 31, some 32, some 33, some 34, some 35, some 36], [], [], [], [], [], [], [], [some 38, some 39, some 40, some 41, some 42, some 43], [], [], [], [], [], [], [some 45, some 46, some 47], [], [], [], [some 49, some 50, some 51, some 52, some 59, some 60, some 61, some 62, some 63, some 64], [], [], [], [some 53, some 54, some 55, some 56, some 57, some 58], [], [], [], [], [], [], [], [], [], [], [], [], [some 66, some 67, some 68, some 69, some 76, some 77, some 78, some 79, some 80, some 81], [], [], [], [some 70, some 71, some 72, some 73, some 74, some 75], [], [], [], [], [], [], [], [], [], [], [], [], [some 83, some 84, some 85, some 86, some 93, some 94, some 95, some 96, some 97, some 98], [], [], [], [some 87, some 88, some 89, some 90, some 91, some 92], [], [], [], [], [], [], [], [], [], [], [], [], [], [], [], [], [some 104, some 105, some 110, some 111, some 112, some 121, some 122, some 123, some 124], [], [some 106, some 107, some 108, some 109], [], [], [], [], [], [], [some 113, some 114, some 115, some 116, some 117, some 118, some 119, some 120], [], [], [], [], [], [], [], [], [], [], [], [some 125, some 126, some 127, some 128, some 129, some 130, some 131], [], [], [], [], [], [], [], [none, some 133, none, some 134, some 135, some 136, some 137, some 138, some 139, some 140, some 141, some 142, some 143, some 144, some 145, some 146, some 147, some 148, none, none, none, none, none, none, none, none, none, none, none, none, none, some 149, some 150, none, some 151, some 152, some 153, some 154, some 155, some 156, some 157, some 158, some 159, some 160, some 161, some 162, none, none, none, none, none, none, none, none, none, some 163, some 164, some 165, some 166, some 167, none, none, some 168, some 169, some 170, some 171, some 172, some 173], [], [], [], [], [], [], [], [], [], [], [], [], [], [], [], [], [], [], [], [], [], [], [], [], [], [], [], [], [], [], [], [], [], [], [], [], [], [], [], [], []]
def kK (a : Nat) : Nat := kKs.getD a 0
def kL (a : Nat) : Nat := kLs.getD a 0
def kR (a j : Nat) : Option Nat := (kRs.getD a []).getD j none
def isSt (b : Nat) : Prop := b = 48 ∨ b = 65 ∨ b = 82
def isTd (t : Nat) : Prop := t = 8 ∨ t = 103
def isLw (l : Nat) : Prop := l = 29 ∨ l = 124
/-- what a cell is: kind and length; and its fixed references -/
def zcl1 (h : zMem) (lo hi : Nat) : Prop := hi ≤ zn h ∧ (∀ a, lo ≤ a → a < hi → zK h a = kK a ∧ zLen h a = kL a) ∧ ∀ a j r, lo ≤ a → a < hi → kR a j = some r → zR h a j = some r
/-- the class's cells; t: what is told now; the reader has the other one -/
def zSh1 (h : zMem) (t : Nat) : Prop := zcl1 h 0 132 ∧ isTd t ∧ zR h 0 11 = some t ∧ zR h 2 6 = some (111 - t)
/-- the model's cells -/
def zSh2 (h : zMem) : Prop := zcl1 h 132 174
theorem zvp {x : Int32} {n : Nat} (h : ¬ (x < 0 ∨ n ≤ x.toNatClampNeg)) : vp_in x n := h
theorem zin {h : zMem} {a n : Nat} {x : Int32} (e : zLen h a = n) (o : vp_in x n) : vp_in x (zLen h a) := by rw [e]; exact o
theorem zcl1.o {h : zMem} {lo hi : Nat} (hS : zcl1 h lo hi) (a c : Nat) (h0 : Nat.ble lo a = true) (h1 : Nat.blt a hi = true) (hc : kK a = c) : zO h a c := ⟨Nat.lt_of_lt_of_le (Nat.le_of_ble_eq_true h1) hS.1, ((hS.2.1 a (Nat.le_of_ble_eq_true h0) (Nat.le_of_ble_eq_true h1)).1).trans hc⟩
theorem zcl1.l {h : zMem} {lo hi : Nat} (hS : zcl1 h lo hi) (a n : Nat) (h0 : Nat.ble lo a = true) (h1 : Nat.blt a hi = true) (hc : kL a = n) : zLen h a = n := ((hS.2.1 a (Nat.le_of_ble_eq_true h0) (Nat.le_of_ble_eq_true h1)).2).trans hc
theorem zcl1.r {h : zMem} {lo hi : Nat} (hS : zcl1 h lo hi) (a j r : Nat) (h0 : Nat.ble lo a = true) (h1 : Nat.blt a hi = true) (hc : kR a j = some r) : zR h a j = some r := hS.2.2 a j r (Nat.le_of_ble_eq_true h0) (Nat.le_of_ble_eq_true h1) hc
/-- three (or two) copies of a block of cells -/
def kcopy (b0 n : Nat) (b : Nat) : Bool := (List.range n).all fun k => kK (b + k) == kK (b0 + k) && kL (b + k) == kL (b0 + k) && (List.range 16).all fun j => kR (b + k) j == (kR (b0 + k) j).map (fun r => r - b0 + b)
theorem kcopy_st : kcopy 48 17 48 = true ∧ kcopy 48 17 65 = true ∧ kcopy 48 17 82 = true := by decide +kernel
theorem kcopy_td : kcopy 8 29 8 = true ∧ kcopy 8 29 103 = true := by decide +kernel
theorem kcopy_lw : kcopy 29 8 29 = true ∧ kcopy 29 8 124 = true := by decide +kernel
theorem kcopy_spec {b0 n b : Nat} (h : kcopy b0 n b = true) {k : Nat} (hk : k < n) : kK (b + k) = kK (b0 + k) ∧ kL (b + k) = kL (b0 + k) ∧ ∀ j, j < 16 → kR (b + k) j = (kR (b0 + k) j).map (fun r => r - b0 + b) := by
  have h1 := List.all_eq_true.mp h k (List.mem_range.mpr hk)
  simp only [Bool.and_eq_true, beq_iff_eq, List.all_eq_true, List.mem_range] at h1
  exact ⟨h1.1.1, h1.1.2, fun j hj => h1.2 j hj⟩
theorem isSt.copy {b : Nat} (hb : isSt b) : kcopy 48 17 b = true := hb.elim (fun e => e ▸ kcopy_st.1) (fun h => h.elim (fun e => e ▸ kcopy_st.2.1) (fun e => e ▸ kcopy_st.2.2))
theorem isTd.copy {b : Nat} (hb : isTd b) : kcopy 8 29 b = true := hb.elim (fun e => e ▸ kcopy_td.1) (fun e => e ▸ kcopy_td.2)
theorem isLw.copy {b : Nat} (hb : isLw b) : kcopy 29 8 b = true := hb.elim (fun e => e ▸ kcopy_lw.1) (fun e => e ▸ kcopy_lw.2)
theorem isSt.lt {b : Nat} (hb : isSt b) : b + 17 ≤ 132 := by rcases hb with rfl | rfl | rfl <;> omega
theorem isTd.lt {b : Nat} (hb : isTd b) : b + 29 ≤ 132 := by rcases hb with rfl | rfl <;> omega
theorem isLw.lt {b : Nat} (hb : isLw b) : b + 8 ≤ 132 := by rcases hb with rfl | rfl <;> omega
theorem isTd.lw {t : Nat} (ht : isTd t) : isLw (t + 21) := ht.elim (fun e => Or.inl (by omega)) (fun e => Or.inr (by omega))
theorem isTd.other {t : Nat} (ht : isTd t) : isTd (111 - t) := ht.elim (fun e => Or.inr (by omega)) (fun e => Or.inl (by omega))
section ZSH
variable {h : zMem} {t : Nat}
theorem zblk_o (hS : zSh1 h t) {b0 n b : Nat} (hb : kcopy b0 n b = true) (hl : b + n ≤ 132) (k c : Nat) (hk : Nat.blt k n = true) (hc : kK (b0 + k) = c) : zO h (b + k) c := by
  have hk : k < n := Nat.le_of_ble_eq_true hk
  exact ⟨by have := hS.1.1; omega, ((hS.1.2.1 (b + k) (Nat.zero_le _) (by omega)).1).trans ((kcopy_spec hb hk).1.trans hc)⟩
theorem zblk_l (hS : zSh1 h t) {b0 n b : Nat} (hb : kcopy b0 n b = true) (hl : b + n ≤ 132) (k c : Nat) (hk : Nat.blt k n = true) (hc : kL (b0 + k) = c) : zLen h (b + k) = c := by
  have hk : k < n := Nat.le_of_ble_eq_true hk
  exact ((hS.1.2.1 (b + k) (Nat.zero_le _) (by omega)).2).trans ((kcopy_spec hb hk).2.1.trans hc)
theorem zblk_r (hS : zSh1 h t) {b0 n b : Nat} (hb : kcopy b0 n b = true) (hl : b + n ≤ 132) (k j k2 : Nat) (hk : Nat.blt k n = true) (hj : Nat.blt j 16 = true) (hc : kR (b0 + k) j = some (b0 + k2)) : zR h (b + k) j = some (b + k2) := by
  have hk : k < n := Nat.le_of_ble_eq_true hk
  have hj : j < 16 := Nat.le_of_ble_eq_true hj
  refine hS.1.2.2 (b + k) j (b + k2) (Nat.zero_le _) (by omega) ?_
  rw [(kcopy_spec hb hk).2.2 j hj, hc]
  show some (b0 + k2 - b0 + b) = some (b + k2)
  congr 1
  omega
theorem zS_so (hS : zSh1 h t) {b : Nat} (hb : isSt b) (k c : Nat) (hk : Nat.blt k 17 = true) (hc : kK (48 + k) = c) : zO h (b + k) c := zblk_o hS hb.copy hb.lt k c hk hc
theorem zS_sl (hS : zSh1 h t) {b : Nat} (hb : isSt b) (k c : Nat) (hk : Nat.blt k 17 = true) (hc : kL (48 + k) = c) : zLen h (b + k) = c := zblk_l hS hb.copy hb.lt k c hk hc
theorem zS_sr (hS : zSh1 h t) {b : Nat} (hb : isSt b) (k j k2 : Nat) (hk : Nat.blt k 17 = true) (hj : Nat.blt j 16 = true) (hc : kR (48 + k) j = some (48 + k2)) : zR h (b + k) j = some (b + k2) := zblk_r hS hb.copy hb.lt k j k2 hk hj hc
theorem zS_to (hS : zSh1 h t) {b : Nat} (hb : isTd b) (k c : Nat) (hk : Nat.blt k 29 = true) (hc : kK (8 + k) = c) : zO h (b + k) c := zblk_o hS hb.copy hb.lt k c hk hc
theorem zS_tl (hS : zSh1 h t) {b : Nat} (hb : isTd b) (k c : Nat) (hk : Nat.blt k 29 = true) (hc : kL (8 + k) = c) : zLen h (b + k) = c := zblk_l hS hb.copy hb.lt k c hk hc
theorem zS_tr (hS : zSh1 h t) {b : Nat} (hb : isTd b) (k j k2 : Nat) (hk : Nat.blt k 29 = true) (hj : Nat.blt j 16 = true) (hc : kR (8 + k) j = some (8 + k2)) : zR h (b + k) j = some (b + k2) := zblk_r hS hb.copy hb.lt k j k2 hk hj hc
theorem zS_lo (hS : zSh1 h t) {b : Nat} (hb : isLw b) (k c : Nat) (hk : Nat.blt k 8 = true) (hc : kK (29 + k) = c) : zO h (b + k) c := zblk_o hS hb.copy hb.lt k c hk hc
theorem zS_ll (hS : zSh1 h t) {b : Nat} (hb : isLw b) (k c : Nat) (hk : Nat.blt k 8 = true) (hc : kL (29 + k) = c) : zLen h (b + k) = c := zblk_l hS hb.copy hb.lt k c hk hc
theorem zS_lr (hS : zSh1 h t) {b : Nat} (hb : isLw b) (k j k2 : Nat) (hk : Nat.blt k 8 = true) (hj : Nat.blt j 16 = true) (hc : kR (29 + k) j = some (29 + k2)) : zR h (b + k) j = some (b + k2) := zblk_r hS hb.copy hb.lt k j k2 hk hj hc
/-- rows of an int[][]: they lie right behind it -/
def krows (a n m : Nat) : Bool := (List.range n).all fun i => kR a i == some (a + 1 + i) && kK (a + 1 + i) == 100 && kL (a + 1 + i) == m
theorem zrow_blk (hS : zSh1 h t) {b0 n b : Nat} (hb : kcopy b0 n b = true) (hl : b + n ≤ 132) (k nr m : Nat) (hk : Nat.ble (k + 1 + nr) n = true) (hnr : Nat.ble nr 16 = true) (hrow : krows (b0 + k) nr m = true) {x : Int32} (hx : vp_in x nr) : zR h (b + k) x.toNatClampNeg = some (b + k + 1 + x.toNatClampNeg) ∧ zO h (b + k + 1 + x.toNatClampNeg) 100 ∧ zLen h (b + k + 1 + x.toNatClampNeg) = m := by
  have hlt : x.toNatClampNeg < nr := Nat.not_le.mp fun q => hx (Or.inr q)
  have hk : k + 1 + nr ≤ n := Nat.le_of_ble_eq_true hk
  have hnr : nr ≤ 16 := Nat.le_of_ble_eq_true hnr
  generalize x.toNatClampNeg = i at hlt
  have h1 := List.all_eq_true.mp hrow i (List.mem_range.mpr hlt)
  simp only [Bool.and_eq_true, beq_iff_eq] at h1
  obtain ⟨⟨h1, h2⟩, h3⟩ := h1
  have e := kcopy_spec hb (k := k) (by omega)
  have e2 := kcopy_spec hb (k := k + 1 + i) (by omega)
  refine ⟨hS.1.2.2 (b + k) i _ (Nat.zero_le _) (by omega) ?_, ⟨by have := hS.1.1; omega, ?_⟩, ?_⟩
  · rw [e.2.2 i (by omega), h1]
    show some (b0 + k + 1 + i - b0 + b) = _
    congr 1
    omega
  · rw [(hS.1.2.1 (b + k + 1 + i) (Nat.zero_le _) (by omega)).1, show b + k + 1 + i = b + (k + 1 + i) by omega, e2.1, show b0 + (k + 1 + i) = b0 + k + 1 + i by omega]
    exact h2
  · rw [(hS.1.2.1 (b + k + 1 + i) (Nat.zero_le _) (by omega)).2, show b + k + 1 + i = b + (k + 1 + i) by omega, e2.2.1, show b0 + (k + 1 + i) = b0 + k + 1 + i by omega]
    exact h3
theorem zS_srow (hS : zSh1 h t) {b : Nat} (hb : isSt b) (k nr m : Nat) (hk : Nat.ble (k + 1 + nr) 17 = true) (hnr : Nat.ble nr 16 = true) (hrow : krows (48 + k) nr m = true) {x : Int32} (hx : vp_in x nr) : zR h (b + k) x.toNatClampNeg = some (b + k + 1 + x.toNatClampNeg) ∧ zO h (b + k + 1 + x.toNatClampNeg) 100 ∧ zLen h (b + k + 1 + x.toNatClampNeg) = m := zrow_blk hS hb.copy hb.lt k nr m hk hnr hrow hx
theorem zS_trow (hS : zSh1 h t) {b : Nat} (hb : isTd b) (k nr m : Nat) (hk : Nat.ble (k + 1 + nr) 29 = true) (hnr : Nat.ble nr 16 = true) (hrow : krows (8 + k) nr m = true) {x : Int32} (hx : vp_in x nr) : zR h (b + k) x.toNatClampNeg = some (b + k + 1 + x.toNatClampNeg) ∧ zO h (b + k + 1 + x.toNatClampNeg) 100 ∧ zLen h (b + k + 1 + x.toNatClampNeg) = m := zrow_blk hS hb.copy hb.lt k nr m hk hnr hrow hx
end ZSH
section ZIC
variable {G : zG} {μ : zM} {d : Nat} {b : zB} {pc : Nat} {lv st : List Value} {h : zMem} {P : Option Value → zMem → Prop}
theorem z_iald_c (i n : Nat) {a : Nat} {x : Int32} (hi : μ.2.2.2.2[i]? = some (pc, .iaload, 1)) (hn : x.toNatClampNeg = n) (ho : zO h a 100) (hx : vp_in x (zLen h a)) (k : zGo G μ d b (pc + 1) lv (.int (zI h a n) :: st) h P) : zGo G μ d b pc lv (.int x :: .ref a :: st) h P := by subst hn; exact z_iald i hi ho hx k
theorem z_lald_c (i n : Nat) {a : Nat} {x : Int32} (hi : μ.2.2.2.2[i]? = some (pc, .laload, 1)) (hn : x.toNatClampNeg = n) (ho : zO h a 101) (hx : vp_in x (zLen h a)) (k : zGo G μ d b (pc + 1) lv (.long (zL h a n) :: st) h P) : zGo G μ d b pc lv (.int x :: .ref a :: st) h P := by subst hn; exact z_lald i hi ho hx k
theorem z_iast_c (i n : Nat) {a : Nat} {x v : Int32} (hi : μ.2.2.2.2[i]? = some (pc, .iastore, 1)) (hn : x.toNatClampNeg = n) (ho : zO h a 100) (hx : vp_in x (zLen h a)) (k : zGo G μ d b (pc + 1) lv st (zsI h a n v) P) : zGo G μ d b pc lv (.int v :: .int x :: .ref a :: st) h P := by subst hn; exact z_iast i hi ho hx k
theorem z_last_c (i n : Nat) {a : Nat} {x : Int32} {v : Int64} (hi : μ.2.2.2.2[i]? = some (pc, .lastore, 1)) (hn : x.toNatClampNeg = n) (ho : zO h a 101) (hx : vp_in x (zLen h a)) (k : zGo G μ d b (pc + 1) lv st (zsL h a n v) P) : zGo G μ d b pc lv (.long v :: .int x :: .ref a :: st) h P := by subst hn; exact z_last i hi ho hx k
end ZIC
