/-! the model's scanner -/
def sgV (w : Nat) : Int32 := nI ([60, 256, 61, 257, 258, 62, 43, 45, 42, 47, 40, 41, 59].getD (w - 22) 0)
/-- a number as the class and as the model read it -/
def nbR (c m : Int32) : Prop := (c = m ∧ ∃ k : Nat, k ≤ 99999 ∧ c = nI k) ∨ ∃ a b : Nat, 99999 < a ∧ 99999 < b ∧ a ≤ 1000000 ∧ b ≤ 1000000 ∧ c = nI a ∧ m = nI b
def tkR (tok l nm so va : Int32) : Prop := (∃ w : Nat, w < 22 ∧ tok = nI w ∧ so = 0 ∧ va = nI w) ∨ (tok = 35 ∧ so = 1 ∧ va = l) ∨ (tok = 36 ∧ so = 2 ∧ nbR nm va) ∨ (∃ w : Nat, 22 ≤ w ∧ w ≤ 34 ∧ tok = nI w ∧ so = 3 ∧ va = sgV w) ∨ (tok = 37 ∧ so = 4) ∨ (tok = 38 ∧ so = 5)
def scM (I : Nat → Nat → Int32) (B : Nat → Int32) (n p : Nat) : Prop := I 132 20 = nI n ∧ I 132 21 = nI (tke B n p) ∧ I 132 22 = nI (tks B n p) ∧ tkR (tkt B n p) (tkl B n p) (tkn B n p) (I 132 23) (I 132 24)
def mtR (h h' : zMem) : Prop := zW h h' ∧ (∀ c, c ≠ 132 → zI h' c = zI h c) ∧ ∀ j, j < 21 ∨ 25 ≤ j → zI h' 132 j = zI h 132 j
theorem mtR.rf (h : zMem) : mtR h h := ⟨zW.rf h, fun _ _ => rfl, fun _ _ => rfl⟩
theorem mtR.trans {h h1 h2 : zMem} (a : mtR h h1) (b : mtR h1 h2) : mtR h h2 := ⟨a.1.trans b.1, fun c x => (b.2.1 c x).trans (a.2.1 c x), fun j x => (b.2.2 j x).trans (a.2.2 j x)⟩
theorem mtR.sI {h h1 : zMem} (a : mtR h h1) {j : Nat} {v : Int32} (hj : 21 ≤ j ∧ j < 25) : mtR h (zsI h1 132 j v) := ⟨a.1.sI _ _ _, fun c x => by rw [zI_sI, zup_ne _ _ x]; exact a.2.1 c x, fun i x => by rw [zI_sI, zup_i _ _ _ (by omega)]; exact a.2.2 i x⟩
/-- a byte, and the tape's number for it -/
def byR (x y : Int32) : Prop := (¬ x < 0 ∧ y = x) ∨ (x < 0 ∧ 127 < y)
theorem by_or (x : Int32) (e : x = x.toInt8.toInt32) : byR x (x &&& 255) := by
  obtain ⟨z, hz⟩ : ∃ z : Int8, z = x.toInt8 := ⟨_, rfl⟩
  rw [← hz] at e
  have e2 : x &&& 255 = nI (x.toInt % 256).toNat := by
    rw [e, hz]
    apply Int32.toBitVec_inj.mp
    apply BitVec.eq_of_toNat_eq
    rw [Int32.toBitVec_and, BitVec.toNat_and]
    have e255 : (255 : Int32).toBitVec.toNat = 2 ^ 8 - 1 := by decide
    rw [e255, Nat.and_two_pow_sub_one_eq_mod]
    show _ = (Int32.ofNat _).toBitVec.toNat
    have : (Int32.ofNat (x.toInt8.toInt32.toInt % 256).toNat).toBitVec = BitVec.ofNat 32 (x.toInt8.toInt32.toInt % 256).toNat := rfl
    rw [this, BitVec.toNat_ofNat]
    have t1 : x.toInt8.toInt32.toInt = x.toInt8.toInt32.toBitVec.toInt := rfl
    rw [t1, BitVec.toInt_eq_toNat_cond]
    have lt := x.toInt8.toInt32.toBitVec.isLt
    split <;> omega
  have lo : -128 ≤ x.toInt ∧ x.toInt ≤ 127 := by
    rw [e, Int8.toInt_toInt32]
    have h1 := Int8.le_toInt z
    have h2 := Int8.toInt_lt z
    omega
  rw [e2]
  unfold byR
  by_cases c : x.toInt < 0
  · refine Or.inr ⟨by rw [Int32.lt_iff_toInt_lt]; exact c, ?_⟩
    exact nI_lt (a := 127) (by omega) (by omega)
  · refine Or.inl ⟨by rw [Int32.lt_iff_toInt_lt]; exact c, ?_⟩
    apply Int32.toInt_inj.mp
    rw [nI_toInt (by omega)]
    omega
theorem byR.L {x y : Int32} (h : byR x y) : isL y ↔ isL x := by
  rcases h with ⟨h1, rfl⟩ | ⟨h1, h2⟩
  · exact Iff.rfl
  · unfold isL
    simp only [Int32.lt_iff_toInt_lt] at *
    have a : (97 : Int32).toInt = 97 := by decide
    have b : (122 : Int32).toInt = 122 := by decide
    have c : (127 : Int32).toInt = 127 := by decide
    have z : (0 : Int32).toInt = 0 := by decide
    omega
theorem byR.D {x y : Int32} (h : byR x y) : isD y ↔ isD x := by
  rcases h with ⟨h1, rfl⟩ | ⟨h1, h2⟩
  · exact Iff.rfl
  · unfold isD
    simp only [Int32.lt_iff_toInt_lt] at *
    have a : (48 : Int32).toInt = 48 := by decide
    have b : (57 : Int32).toInt = 57 := by decide
    have c : (127 : Int32).toInt = 127 := by decide
    have z : (0 : Int32).toInt = 0 := by decide
    omega
theorem byR.eq {x y : Int32} (h : byR x y) {k : Nat} (hk : k ≤ 127) : y = nI k ↔ x = nI k := by
  rcases h with ⟨h1, rfl⟩ | ⟨h1, h2⟩
  · exact Iff.rfl
  · constructor
    · rintro rfl; exact absurd h2 (nI_nlt (a := 127) hk (by decide))
    · rintro rfl; exact absurd h1 (nI_pos (by omega))
theorem byR.n1 {x y : Int32} (h : byR x y) : ¬ y = -1 := by
  rintro rfl
  rcases h with ⟨h1, h2⟩ | ⟨h1, h2⟩
  · rw [← h2] at h1; exact h1 (by decide)
  · exact absurd h2 (by decide)
theorem byR.id {x y : Int32} (h : byR x y) (c : ¬ x < 0) : y = x := by
  rcases h with ⟨h1, h2⟩ | ⟨h1, h2⟩
  · exact h2
  · exact absurd h1 c
section MS
variable {G : zG} {d n : Nat} {h : zMem} {B : Nat → Int32}
theorem X10_here_ok {p : Nat} (hS : zSh2 h) (hT : tpM (zI h) B n) (h20 : zI h 132 20 = nI n) (h21 : zI h 132 21 = nI p) (hp : p ≤ n) : zConI G mX10_here d [.ref 132] h (fun v h' => h' = h ∧ (p < n → v = B p &&& 255) ∧ (¬ p < n → v = -1)) := by
  have hn := hT.2.2
  refine cn_X10_here (sg_X10_here_0 hS ?_)
  rw [h20, h21]
  refine ⟨fun c => ⟨rfl, fun z => absurd c (nI_ge z (by omega)), fun _ => rfl⟩, fun c => ?_⟩
  have pn : p < n := Nat.lt_of_not_le (fun z => c (nI_le z (by omega)))
  rw [zcla (show p < 2 ^ 31 by omega)]
  exact ⟨zin_n (by omega) (by decide), rfl, fun _ => hT.1 p pn, fun z => absurd pn z⟩
theorem X10_isSmall_ok (hS : zSh2 h) (x : Int32) : zConI G mX10_isSmall d [.int x] h (fun v h' => (v = if isL x then 1 else 0) ∧ h' = h) := by
  refine cn_X10_isSmall (sg_X10_isSmall_0 hS ⟨fun c => ?_, fun c => ⟨fun c2 => ?_, fun c2 => ?_⟩⟩)
  · rw [if_neg (fun q => q.1 c)]; exact ⟨rfl, rfl⟩
  · rw [if_neg (fun q => q.2 c2)]; exact ⟨rfl, rfl⟩
  · rw [if_pos ⟨c, c2⟩]; exact ⟨rfl, rfl⟩
theorem X10_isDigit_ok (hS : zSh2 h) (x : Int32) : zConI G mX10_isDigit d [.int x] h (fun v h' => (v = if isD x then 1 else 0) ∧ h' = h) := by
  refine cn_X10_isDigit (sg_X10_isDigit_0 hS ⟨fun c => ?_, fun c => ⟨fun c2 => ?_, fun c2 => ?_⟩⟩)
  · rw [if_neg (fun q => q.1 c)]; exact ⟨rfl, rfl⟩
  · rw [if_neg (fun q => q.2 c2)]; exact ⟨rfl, rfl⟩
  · rw [if_pos ⟨c, c2⟩]; exact ⟨rfl, rfl⟩
theorem X10_word_ok (hG : gK G) (hS : zSh2 h) (hT : tpM (zI h) B n) {s : Nat} (h21 : zI h 132 21 = nI (rnE isL B n s)) (h22 : zI h 132 22 = nI s) (hs : s < n) (hl : isL (B s)) : zConI G mX10_word (d + 10) [.ref 132] h (fun v h' => h' = h ∧ v = wdV B n s) := hG.2 d n s h B hS hT h21 h22 hs hl
theorem zsI_c (h : zMem) {a i b j : Nat} {v w : Int32} (c : a ≠ b ∨ i ≠ j) : zsI (zsI h a i v) b j w = zsI (zsI h b j w) a i v := by
  have : zup (zup (zI h) a i v) b j w = zup (zup (zI h) b j w) a i v := by
    funext x y
    unfold zup
    by_cases e1 : x = b <;> by_cases e2 : y = j <;> by_cases e3 : x = a <;> by_cases e4 : y = i <;> simp_all <;> omega
  show (h.1, h.2.1, (_, zL h)) = (h.1, h.2.1, (_, zL h))
  exact congrArg (fun z => (h.1, h.2.1, (z, zL h))) this
end MS
