/-! the model's scanner: names, numbers, signs, the next token -/
theorem shl_n (x y : Int32) (k : Nat) (hy : y.toBitVec.smod 32 = BitVec.ofNat 32 k) (hk : k < 32) : (x <<< y).toBitVec = x.toBitVec <<< k := by
  show x.toBitVec <<< (y.toBitVec.smod 32) = x.toBitVec <<< k
  rw [hy, BitVec.shiftLeft_eq', BitVec.toNat_ofNat, Nat.mod_eq_of_lt (by omega)]
theorem lv_step (X : Int32) {m : Nat} (hm : m < 6) : ((X <<< ((5 * nI m) &&& 31)) <<< ((5 : Int32) &&& 31)) ||| 0 = X <<< ((5 * nI (m + 1)) &&& 31) := by
  rw [or_0]
  apply Int32.toBitVec_inj.mp
  have key : ∀ m : Fin 6, ((5 * nI m.val) &&& 31 : Int32).toBitVec.smod 32 = BitVec.ofNat 32 (5 * m.val) ∧ ((5 * nI (m.val + 1)) &&& 31 : Int32).toBitVec.smod 32 = BitVec.ofNat 32 (5 * m.val + 5) := by decide +kernel
  obtain ⟨k1, k2⟩ := key ⟨m, hm⟩
  rw [shl_n _ _ 5 (by decide +kernel) (by decide), shl_n _ _ _ k1 (by show 5 * m < 32; omega), shl_n _ _ _ k2 (by show 5 * m + 5 < 32; omega), ← BitVec.shiftLeft_add]
theorem lv_0 (X : Int32) : X <<< ((5 * nI 0) &&& 31) = X := by
  apply Int32.toBitVec_inj.mp
  rw [shl_n _ _ 0 (by decide +kernel) (by decide)]
  simp
theorem wdF_or (x : Int32) : ∀ k w a, k + w = 22 → wdF wdT x k w a = a ∨ ∃ j, j < 22 ∧ wdF wdT x k w a = nI j
  | 0, w, a, _ => Or.inl rfl
  | k + 1, w, a, h => by
    rw [wdF]
    rcases wdF_or x k (w + 1) (if wdT w = x then nI w else a) (by omega) with e | e
    · by_cases c : wdT w = x
      · rw [if_pos c] at e ⊢; exact Or.inr ⟨w, by omega, e⟩
      · rw [if_neg c] at e ⊢; exact Or.inl e
    · exact Or.inr e
section MS
variable {G : zG} {d n : Nat} {h : zMem} {B : Nat → Int32}
theorem tpM.by (hT : tpM (zI h) B n) (k : Nat) : byR (B k) (B k &&& 255) := by_or (B k) (hT.2.1 k)
theorem nn_lt {x y : Int32} (hy : ¬ y < 0) (c : x < 0) : x < y := by
  rw [Int32.lt_iff_toInt_lt] at *
  omega
theorem tpM.lt {k : Nat} (hT : tpM (zI h) B n) (hl : isL (B k)) : B k &&& 255 = B k := (hT.by k).id (fun z => hl.1 (nn_lt (by decide) z))
theorem tpM.dt {k : Nat} (hT : tpM (zI h) B n) (hl : isD (B k)) : B k &&& 255 = B k := (hT.by k).id (fun z => hl.1 (nn_lt (by decide) z))
set_option maxHeartbeats 1000000 in
theorem X10_name_ok (hS : zSh2 h) (hT : tpM (zI h) B n) {s : Nat} (h21 : zI h 132 21 = nI (rnE isL B n s)) (h22 : zI h 132 22 = nI s) (hs : s ≤ n) (h6 : rnE isL B n s - s ≤ 6) : zConV G mX10_name d [.ref 132] h (fun h' => h' = zsI h 132 24 (lvS B n s)) := by
  have hn := hT.2.2
  refine cn_X10_name (sg_X10_name_0 hS ?_)
  obtain ⟨e, he⟩ : ∃ e, e = rnE isL B n s := ⟨_, rfl⟩
  obtain ⟨X, hX⟩ : ∃ X, X = pkF B n (n - s) s 0 := ⟨_, rfl⟩
  have heL : s ≤ e := he ▸ rnE_ge _ s rfl
  have heN : e ≤ n := he ▸ rnE_le _ s rfl hs
  rw [← he] at h21 h6
  have hlv : lvS B n s = X <<< ((5 * nI (6 - (e - s))) &&& 31) := by
    unfold lvS
    rw [← he, ← hX]
    have : (6 : Int32) - nI (e - s) = nI (6 - (e - s)) := by
      obtain ⟨m, hm⟩ : ∃ m, m = 6 - (e - s) := ⟨_, rfl⟩
      have : (6 : Int32) = nI (m + (e - s)) := by rw [show m + (e - s) = 6 by omega]; rfl
      rw [this, ← nI_add, Int32.add_sub_cancel, ← hm]
    rw [this]
  rw [hlv]
  have all := rnE_all (P := isL) (B := B) (n := n) _ s rfl
  have endL := rnE_end (P := isL) (B := B) (n := n) _ s rfl hs
  rw [← he] at all endL
  have L2 : ∀ k m (a : Int32), k + (m + (e - s)) = 6 → a = X <<< ((5 * nI m) &&& 31) → zg G mX10_name d 7 [.ref 132, .int (nI (m + (e - s)))] [] (zsI h 132 24 a) (zPV (fun h' => h' = zsI h 132 24 (X <<< ((5 * nI (6 - (e - s))) &&& 31)))) := by
    intro k
    induction k with
    | zero =>
      intro m a hm ha
      refine sg_X10_name_7 (hS.W ((zW.rf h).sI _ _ _)) ⟨fun _ => ?_, fun c => absurd (nI_le (a := 6) (by omega) (by omega)) c⟩
      rw [ha, show 6 - (e - s) = m by omega]
    | succ k ih =>
      intro m a hm ha
      refine sg_X10_name_7 (hS.W ((zW.rf h).sI _ _ _)) ⟨fun c => absurd c (nI_ge (b := 6) (by omega) (by decide)), fun _ => ?_⟩
      simp only [zI_sI, zup_i _ _ _ (show 21 ≠ 24 by decide), zup_i _ _ _ (show 22 ≠ 24 by decide), zup_s, h21, h22]
      rw [nI_add, nI_1]
      refine ⟨fun _ => ?_, fun c => absurd (nI_le (by omega) (by omega)) c⟩
      rw [zsI_sI, ha, lv_step X (by omega), show m + (e - s) + 1 = (m + 1) + (e - s) by omega]
      exact ih (m + 1) _ (by omega) rfl
  have L1 : ∀ k j (a : Int32), k = (e - s) - j → j ≤ e - s → pkF B n (n - (s + j)) (s + j) a = X → zg G mX10_name d 7 [.ref 132, .int (nI j)] [] (zsI h 132 24 a) (zPV (fun h' => h' = zsI h 132 24 (X <<< ((5 * nI (6 - (e - s))) &&& 31)))) := by
    intro k
    induction k with
    | zero =>
      intro j a hk hj hx
      have ej : j = e - s := by omega
      have es : s + j = e := by omega
      have : a = X := by
        rw [es] at hx
        cases en : n - e with
        | zero => rw [en, pkF] at hx; exact hx
        | succ m => rw [en, pkF, if_neg endL] at hx; exact hx
      have := L2 (6 - (e - s)) 0 a (by omega) (by rw [lv_0]; exact this)
      rw [Nat.zero_add] at this
      rw [ej]; exact this
    | succ k ih =>
      intro j a hk hj hx
      refine sg_X10_name_7 (hS.W ((zW.rf h).sI _ _ _)) ⟨fun c => absurd c (nI_ge (b := 6) (by omega) (by decide)), fun _ => ?_⟩
      simp only [zI_sI, zup_i _ _ _ (show 21 ≠ 24 by decide), zup_i _ _ _ (show 22 ≠ 24 by decide), zup_s, h21, h22, zup_ne _ _ (show 133 ≠ 132 by decide)]
      rw [nI_add, nI_1, zcla (show s + j < 2 ^ 31 by omega)]
      refine ⟨fun c => absurd c (nI_ge (by omega) (by omega)), fun _ => ⟨zin_n (by omega) (by decide), ?_⟩⟩
      have lj := all (s + j) (by omega) (by omega)
      rw [hT.1 (s + j) (by omega), hT.lt lj, zsI_sI]
      refine ih (j + 1) _ (by omega) (by omega) ?_
      rw [show n - (s + j) = (n - (s + (j + 1))) + 1 by omega, pkF, if_pos ⟨by omega, lj⟩] at hx
      exact hx
  exact L1 (e - s) 0 0 (by omega) (by omega) hX.symm
theorem nb_step {c m : Int32} (r : nbR c m) {x : Int32} (hx : isD x) : nbR (if c * 10 + x - 48 < 1000000 then c * 10 + x - 48 else 1000000) (if m ≤ 99999 then 10 * m + x - 48 else m) := by
  obtain ⟨g, g1, g2, rfl⟩ := zrange (lo := 48) (hi := 57) (a := 48) (b := 57) rfl rfl hx.1 hx.2
  have mul : ∀ k : Nat, nI k * 10 = nI (k * 10) := fun k => (Int32.ofNat_mul k 10).symm
  have mul' : ∀ k : Nat, 10 * nI k = nI (10 * k) := fun k => (Int32.ofNat_mul 10 k).symm
  have sub : ∀ k : Nat, nI k + nI g - 48 = nI (k + (g - 48)) := fun k => by
    obtain ⟨q, rfl⟩ : ∃ q, g = q + 48 := ⟨g - 48, by omega⟩
    rw [nI_add, show k + (q + 48) = (k + q) + 48 by omega, ← nI_add, show (48 : Int32) = nI 48 from rfl, Int32.add_sub_cancel, show q + 48 - 48 = q by omega]
  rcases r with ⟨rfl, k, hk, rfl⟩ | ⟨a, b, a1, b1, a2, b2, rfl, rfl⟩
  · rw [mul, sub, mul', sub, if_pos (show nI (k * 10 + (g - 48)) < 1000000 from nI_lt (b := 1000000) (by omega) (by decide)), if_pos (show nI k ≤ 99999 from nI_le (b := 99999) hk (by decide)), Nat.mul_comm 10 k]
    by_cases c : k * 10 + (g - 48) ≤ 99999
    · exact Or.inl ⟨rfl, _, c, rfl⟩
    · exact Or.inr ⟨_, _, by omega, by omega, by omega, by omega, rfl, rfl⟩
  · rw [mul, sub, if_neg (show ¬ nI b ≤ 99999 from nI_ge (a := 99999) b1 (by omega))]
    by_cases c : nI (a * 10 + (g - 48)) < 1000000
    · have : a * 10 + (g - 48) < 1000000 := Nat.lt_of_not_le (fun z => absurd c (nI_nlt (b := 1000000) z (by omega)))
      rw [if_pos c]; exact Or.inr ⟨_, _, by omega, b1, by omega, b2, rfl, rfl⟩
    · rw [if_neg c]; exact Or.inr ⟨1000000, _, by decide, b1, by decide, b2, rfl, rfl⟩
set_option maxHeartbeats 1000000 in
theorem X10_sign_ok (hS : zSh2 h) (hT : tpM (zI h) B n) {s : Nat} (h20 : zI h 132 20 = nI n) (h21 : zI h 132 21 = nI s) (hs : s < n) : zConV G mX10_sign (d + 1) [.ref 132, .int (B s &&& 255)] h (fun h' => mtR h h' ∧ zI h' 132 22 = zI h 132 22 ∧ zI h' 132 21 = nI (sgnE B n s) ∧ ∀ l nm, tkR (sgnT B n s) l nm (zI h' 132 23) (zI h' 132 24)) := by
  have hn := hT.2.2
  obtain ⟨y, hy⟩ : ∃ y, y = B s &&& 255 := ⟨_, rfl⟩
  have hby := hT.by s
  rw [← hy] at hby
  have eqs : ∀ k : Nat, k ≤ 127 → (y = nI k ↔ B s = nI k) := fun k hk => hby.eq hk
  rw [← hy]
  obtain ⟨Q, hQ⟩ : ∃ Q : zMem → Prop, Q = (fun h' => mtR h h' ∧ zI h' 132 22 = zI h 132 22 ∧ zI h' 132 21 = nI (sgnE B n s) ∧ ∀ l nm, tkR (sgnT B n s) l nm (zI h' 132 23) (zI h' 132 24)) := ⟨_, rfl⟩
  rw [← hQ]
  refine cn_X10_sign ?_
  -- the next byte
  have nxt : ∀ {h1 : zMem} {Z : Int32 → zMem → Prop}, zW h h1 → zI h1 132 20 = nI n → zI h1 132 21 = nI (s + 1) → (∀ c, c ≠ 132 → zI h1 c = zI h c) → (∀ v, (∀ k : Nat, k ≤ 127 → (v = nI k ↔ s + 1 < n ∧ B (s + 1) = nI k)) → Z v h1) → ∃ Q2 : Int32 → zMem → Prop, zConI G mX10_here d [.ref 132] h1 Q2 ∧ (∀ v h3, Q2 v h3 → zSh2 h3 ∧ Z v h3) := by
    intro h1 Z w1 e20 e21 ec K
    have hT1 : tpM (zI h1) B n := ⟨fun k hk => by rw [ec 133 (by decide)]; exact hT.1 k hk, hT.2⟩
    refine ⟨_, X10_here_ok (hS.W w1) hT1 e20 e21 (by omega), ?_⟩
    rintro v h3 ⟨rfl, v1, v2⟩
    refine ⟨hS.W w1, K v (fun k hk => ?_)⟩
    by_cases c : s + 1 < n
    · rw [v1 c, (hT.by (s + 1)).eq hk]; exact ⟨fun z => ⟨c, z⟩, fun z => z.2⟩
    · rw [v2 c]
      exact ⟨fun z => absurd z.symm (nI_nm1 (by omega)), fun z => absurd z.1 c⟩
  obtain ⟨M, hM⟩ : ∃ M : Nat → Int32 → Int32 → zMem, M = fun a so va => zsI (zsI (zsI h 132 21 (nI a)) 132 23 so) 132 24 va := ⟨_, rfl⟩
  have M21 : ∀ a so va a', zsI (M a so va) 132 21 (nI a') = M a' so va := fun a so va a' => by
    rw [hM]
    show zsI (zsI (zsI (zsI h 132 21 (nI a)) 132 23 so) 132 24 va) 132 21 (nI a') = _
    rw [zsI_c _ (a := 132) (i := 24) (b := 132) (j := 21) (Or.inr (by decide)), zsI_c _ (a := 132) (i := 23) (b := 132) (j := 21) (Or.inr (by decide)), zsI_sI]
  have M24 : ∀ a so va va', zsI (M a so va) 132 24 va' = M a so va' := fun a so va va' => by
    rw [hM]
    show zsI (zsI (zsI (zsI h 132 21 (nI a)) 132 23 so) 132 24 va) 132 24 va' = _
    rw [zsI_sI]
  have Mw : ∀ a so va, mtR h (M a so va) := fun a so va => by rw [hM]; exact (((mtR.rf h).sI (by omega)).sI (by omega)).sI (by omega)
  have M22 : ∀ a so va, zI (M a so va) 132 22 = zI h 132 22 := fun a so va => by
    rw [hM]; simp only [zI_sI, zup_i _ _ _ (show 22 ≠ 24 by decide), zup_i _ _ _ (show 22 ≠ 23 by decide), zup_i _ _ _ (show 22 ≠ 21 by decide)]
  have Mat : ∀ a so va, zI (M a so va) 132 21 = nI a := fun a so va => by
    rw [hM]; simp only [zI_sI, zup_i _ _ _ (show 21 ≠ 24 by decide), zup_i _ _ _ (show 21 ≠ 23 by decide), zup_s]
  have Mva : ∀ a so va, zI (M a so va) 132 24 = va := fun a so va => by rw [hM]; simp only [zI_sI, zup_s]
  have Mso : ∀ a so va, zI (M a so va) 132 23 = so := fun a so va => by rw [hM]; simp only [zI_sI, zup_i _ _ _ (show 23 ≠ 24 by decide), zup_s]
  have M20 : ∀ a so va, zI (M a so va) 132 20 = nI n := fun a so va => ((Mw a so va).2.2 20 (Or.inl (by decide))).trans h20
  have fin : ∀ {so va : Int32} {w : Nat} (a : Nat), a = sgnE B n s → sgnT B n s = nI w → (w = 38 ∧ so = 5 ∨ 22 ≤ w ∧ w ≤ 34 ∧ so = 3 ∧ va = sgV w) → Q (M a so va) := by
    intro so va w a e2 e3 e4
    rw [hQ, ← e2, e3]
    refine ⟨Mw _ _ _, M22 _ _ _, Mat _ _ _, fun l nm => ?_⟩
    rw [Mso, Mva]
    rcases e4 with ⟨rfl, rfl⟩ | ⟨a1, a2, rfl, rfl⟩
    · exact Or.inr (Or.inr (Or.inr (Or.inr (Or.inr ⟨rfl, rfl⟩))))
    · exact Or.inr (Or.inr (Or.inr (Or.inl ⟨w, a1, a2, rfl, rfl, rfl⟩)))
  have p150 : ∀ {so va : Int32}, (va < 256 → Q (M (s + 1) so va)) → (¬ va < 256 → Q (M (s + 2) so va)) → zg G mX10_sign (d + 1) 150 [.ref 132, .int y] [] (M (s + 1) so va) (zPV Q) := by
    intro so va k1 k2
    refine sg_X10_sign_150 (hS.W (Mw _ _ _).1) ?_
    rw [Mva, Mat, nI_1, M21]
    exact ⟨k1, k2⟩
  have ylt : y < 256 := by
    rw [hy]
    have : (B s &&& 255) ≤ 255 := by
      rw [Int32.le_iff_toInt_le]
      rcases hT.by s with ⟨c1, c2⟩ | ⟨c1, c2⟩
      · rw [c2, hT.2.1 s, Int8.toInt_toInt32]
        have := Int8.toInt_lt (B s).toInt8
        have e : (255 : Int32).toInt = 255 := by decide
        omega
      · have : ((B s &&& 255).toBitVec).toNat ≤ 255 := by
          rw [Int32.toBitVec_and, BitVec.toNat_and]
          exact Nat.and_le_right
        have e : (255 : Int32).toInt = 255 := by decide
        have t1 : (B s &&& 255).toInt = (B s &&& 255).toBitVec.toInt := rfl
        rw [t1, e, BitVec.toInt_eq_toNat_cond]
        split <;> omega
    rw [Int32.lt_iff_toInt_lt]
    rw [Int32.le_iff_toInt_le] at this
    have e : (255 : Int32).toInt = 255 := by decide
    have e2 : (256 : Int32).toInt = 256 := by decide
    omega
  have oth106 : ∀ {so : Int32} {w : Nat}, y ≠ 60 → y ≠ 62 → sgnE B n s = s + 1 → sgnT B n s = nI w → (w = 38 ∧ so = 5 ∨ 22 ≤ w ∧ w ≤ 34 ∧ so = 3 ∧ y = sgV w) → zg G mX10_sign (d + 1) 106 [.ref 132, .int y] [] (M (s + 1) so y) (zPV Q) := by
    intro so w n60 n62 e1 e2 e3
    refine sg_X10_sign_106 (hS.W (Mw _ _ _).1) ⟨fun _ => ?_, fun z => absurd z n60⟩
    refine sg_X10_sign_128 (hS.W (Mw _ _ _).1) ⟨fun _ => ?_, fun z => absurd z n62⟩
    exact p150 (fun _ => fin _ e1.symm e2 e3) (fun z => absurd ylt z)
  have st : zsI h 132 21 ((zI h 132 21) + (1)) = zsI h 132 21 (nI (s + 1)) := by rw [h21, nI_1]
  have w1 : zW h (zsI h 132 21 (nI (s + 1))) := (zW.rf h).sI _ _ _
  have o132 : zO (zsI h 132 21 (nI (s + 1))) 132 9 := zcl1.o (hS.W w1) 132 9 rfl rfl rfl
  have eM : ∀ so va, zsI (zsI (zsI h 132 21 (nI (s + 1))) 132 23 so) 132 24 va = M (s + 1) so va := fun so va => by rw [hM]
  have oth71 : ∀ (k w : Nat), k ≤ 127 → y = nI k → k ≠ 60 → k ≠ 62 → (B s = nI k → sgnE B n s = s + 1 ∧ sgnT B n s = nI w) → 22 ≤ w → w ≤ 34 → nI k = sgV w → zg G mX10_sign (d + 1) 71 [.ref 132, .int y] [.ref 132] (zsI h 132 21 ((zI h 132 21) + (1))) (zPV Q) := by
    intro k w hk yk n60 n62 e w1' w2' e4
    rw [st]
    have ny60 : y ≠ 60 := fun z => n60 (nI_inj (by omega) (by decide) (yk.symm.trans z))
    have ny62 : y ≠ 62 := fun z => n62 (nI_inj (by omega) (by decide) (yk.symm.trans z))
    obtain ⟨e1, e2⟩ := e ((eqs k hk).mp yk)
    refine sg_X10_sign_71 (hS.W w1) ⟨o132, fun _ => ?_, fun z => absurd z ny60⟩
    rw [eM]
    exact oth106 ny60 ny62 e1 e2 (Or.inr ⟨w1', w2', rfl, yk.trans e4⟩)
  refine sg_X10_sign_0 hS ⟨fun c => oth71 59 34 (by decide) c (by decide) (by decide) (fun z => ?_) (by decide) (by decide) rfl, fun c59 => ⟨fun c => oth71 40 32 (by decide) c (by decide) (by decide) (fun z => ?_) (by decide) (by decide) rfl, fun c40 => ⟨fun c => oth71 41 33 (by decide) c (by decide) (by decide) (fun z => ?_) (by decide) (by decide) rfl, fun c41 => ⟨fun c => oth71 43 28 (by decide) c (by decide) (by decide) (fun z => ?_) (by decide) (by decide) rfl, fun c43 => ⟨fun c => oth71 45 29 (by decide) c (by decide) (by decide) (fun z => ?_) (by decide) (by decide) rfl, fun c45 => ⟨fun c => oth71 42 30 (by decide) c (by decide) (by decide) (fun z => ?_) (by decide) (by decide) rfl, fun c42 => ⟨fun c => oth71 47 31 (by decide) c (by decide) (by decide) (fun z => ?_) (by decide) (by decide) rfl, fun c47 => ⟨fun c60 => ?_, fun c60 => ⟨fun c => oth71 61 24 (by decide) c (by decide) (by decide) (fun z => ?_) (by decide) (by decide) rfl, fun c61 => ⟨fun c62 => ⟨fun _ => ?_, fun z => absurd z c60⟩, fun c62 => ?_⟩⟩⟩⟩⟩⟩⟩⟩⟩⟩
  · have z' : B s = 59 := z; simp [sgnE, sgnT, z']; rfl
  · have z' : B s = 40 := z; simp [sgnE, sgnT, z']; rfl
  · have z' : B s = 41 := z; simp [sgnE, sgnT, z']; rfl
  · have z' : B s = 43 := z; simp [sgnE, sgnT, z']; rfl
  · have z' : B s = 45 := z; simp [sgnE, sgnT, z']; rfl
  · have z' : B s = 42 := z; simp [sgnE, sgnT, z']; rfl
  · have z' : B s = 47 := z; simp [sgnE, sgnT, z']; rfl
  · -- less
    have z' : B s = 60 := (eqs 60 (by decide)).mp c60
    rw [st]
    have n62 : y ≠ 62 := by rw [c60]; decide
    have tl : ∀ {va : Int32} {w : Nat}, sgnT B n s = nI w → 22 ≤ w → w ≤ 34 → va = sgV w → (va < 256 → sgnE B n s = s + 1) → (¬ va < 256 → sgnE B n s = s + 2) → zg G mX10_sign (d + 1) 128 [.ref 132, .int y] [] (M (s + 1) 3 va) (zPV Q) := by
      intro va w e1 e2 e3 e4 e5 e6
      refine sg_X10_sign_128 (hS.W (Mw _ _ _).1) ⟨fun _ => ?_, fun z => absurd z n62⟩
      exact p150 (fun z => fin _ (e5 z).symm e1 (Or.inr ⟨e2, e3, rfl, e4⟩)) (fun z => fin _ (e6 z).symm e1 (Or.inr ⟨e2, e3, rfl, e4⟩))
    refine sg_X10_sign_71 (hS.W w1) ⟨o132, fun z => absurd c60 z, fun _ => ?_⟩
    rw [eM]
    refine nxt (Mw _ _ _).1 (M20 _ _ _) (Mat _ _ _) (Mw _ _ _).2.1 (fun v hv => ?_)
    have v61 := hv 61 (by decide)
    have v62 := hv 62 (by decide)
    refine ⟨fun c => ?_, fun c => ?_⟩
    · have c' : ¬ (s + 1 < n ∧ B (s + 1) = 61) := fun z => c (v61.mpr z)
      refine sg_X10_sign_106 (hS.W (Mw _ _ _).1) ⟨fun z => absurd c60 z, fun _ => ?_⟩
      refine nxt (Mw _ _ _).1 (M20 _ _ _) (Mat _ _ _) (Mw _ _ _).2.1 (fun u hu => ⟨fun cu => ?_, fun cu => ?_⟩)
      · have c2 : ¬ (s + 1 < n ∧ B (s + 1) = 62) := fun z => cu ((hu 62 (by decide)).mpr z)
        exact tl (w := 22) (by simp [sgnT, z', c', c2]; rfl) (by decide) (by decide) c60 (fun _ => by simp [sgnE, z', c', c2]) (fun z => absurd ylt z)
      · have c2 : s + 1 < n ∧ B (s + 1) = 62 := (hu 62 (by decide)).mp cu
        rw [M24]
        exact tl (w := 25) (by simp [sgnT, z', c2]; rfl) (by decide) (by decide) rfl (fun z => absurd z (by decide)) (fun _ => by simp [sgnE, z', c2])
    · have c' : s + 1 < n ∧ B (s + 1) = 61 := v61.mp c
      rw [M24]
      refine sg_X10_sign_106 (hS.W (Mw _ _ _).1) ⟨fun z => absurd c60 z, fun _ => ?_⟩
      refine nxt (Mw _ _ _).1 (M20 _ _ _) (Mat _ _ _) (Mw _ _ _).2.1 (fun u hu => ⟨fun cu => ?_, fun cu => ?_⟩)
      · exact tl (w := 23) (by simp [sgnT, z', c']; rfl) (by decide) (by decide) rfl (fun z => absurd z (by decide)) (fun _ => by simp [sgnE, z', c'])
      · have c2 : s + 1 < n ∧ B (s + 1) = 62 := (hu 62 (by decide)).mp cu
        exact absurd (c'.2.symm.trans c2.2) (by decide)
  · have z' : B s = 61 := z; simp [sgnE, sgnT, z']; rfl
  · -- no sign
    rw [st, eM]
    have d40 : ¬ B s = 40 := fun z => c40 ((eqs 40 (by decide)).mpr z)
    have d41 : ¬ B s = 41 := fun z => c41 ((eqs 41 (by decide)).mpr z)
    have d42 : ¬ B s = 42 := fun z => c42 ((eqs 42 (by decide)).mpr z)
    have d43 : ¬ B s = 43 := fun z => c43 ((eqs 43 (by decide)).mpr z)
    have d45 : ¬ B s = 45 := fun z => c45 ((eqs 45 (by decide)).mpr z)
    have d47 : ¬ B s = 47 := fun z => c47 ((eqs 47 (by decide)).mpr z)
    have d59 : ¬ B s = 59 := fun z => c59 ((eqs 59 (by decide)).mpr z)
    have d60 : ¬ B s = 60 := fun z => c60 ((eqs 60 (by decide)).mpr z)
    have d61 : ¬ B s = 61 := fun z => c61 ((eqs 61 (by decide)).mpr z)
    have d62 : ¬ B s = 62 := fun z => c62 ((eqs 62 (by decide)).mpr z)
    exact oth106 (w := 38) c60 c62 (by simp [sgnE, d60, d62]) (by simp [sgnT, d40, d41, d42, d43, d45, d47, d59, d60, d61, d62]; rfl) (Or.inl ⟨rfl, rfl⟩)
  · -- more
    have z' : B s = 62 := (eqs 62 (by decide)).mp c62
    rw [st]
    refine sg_X10_sign_71 (hS.W w1) ⟨o132, fun _ => ?_, fun z => absurd z c60⟩
    rw [eM]
    refine sg_X10_sign_106 (hS.W (Mw _ _ _).1) ⟨fun _ => ?_, fun z => absurd z c60⟩
    refine sg_X10_sign_128 (hS.W (Mw _ _ _).1) ⟨fun z => absurd c62 z, fun _ => ?_⟩
    refine nxt (Mw _ _ _).1 (M20 _ _ _) (Mat _ _ _) (Mw _ _ _).2.1 (fun v hv => ⟨fun c => ?_, fun c => ?_⟩)
    · have c' : ¬ (s + 1 < n ∧ B (s + 1) = 61) := fun z => c ((hv 61 (by decide)).mpr z)
      exact p150 (fun _ => fin (w := 27) _ (by simp [sgnE, z', c']) (by simp [sgnT, z', c']; rfl) (Or.inr ⟨by decide, by decide, rfl, c62⟩)) (fun z => absurd ylt z)
    · have c' : s + 1 < n ∧ B (s + 1) = 61 := (hv 61 (by decide)).mp c
      rw [M24]
      exact p150 (fun z => absurd z (by decide)) (fun _ => fin (w := 26) _ (by simp [sgnE, z', c']) (by simp [sgnT, z', c']; rfl) (Or.inr ⟨by decide, by decide, rfl, rfl⟩))
end MS
