/-! mornings by chance -/
def nxt (l : Nat) : Nat := (l * 1103515245 + 12345) % 2147483648
def dv (l : Nat) : Nat := nxt l / 65536
theorem nxt_lt (l : Nat) : nxt l < 2147483648 := Nat.mod_lt _ (by decide)
theorem dv_lt (l : Nat) : dv l < 32768 := by have := nxt_lt l; unfold dv; omega
theorem l_and {n : Nat} (hn : n < 2 ^ 63) : lN n &&& (2147483647 : Int64) = lN (n % 2147483648) := by
  apply Int64.toBitVec_inj.mp
  apply BitVec.eq_of_toNat_eq
  rw [Int64.toBitVec_and, BitVec.toNat_and]
  have e1 : (lN n).toBitVec.toNat = n := Nat.mod_eq_of_lt (by omega)
  have e2 : (lN (n % 2147483648)).toBitVec.toNat = n % 2147483648 := Nat.mod_eq_of_lt (by omega)
  have e3 : (2147483647 : Int64).toBitVec.toNat = 2 ^ 31 - 1 := by decide
  rw [e1, e2, e3, Nat.and_two_pow_sub_one_eq_mod]
theorem l_nxt {l : Nat} (hl : l < 2147483648) : ((lN l * (1103515245 : Int64)) + (12345 : Int64)) &&& (2147483647 : Int64) = lN (nxt l) := by
  have e : (lN l * (1103515245 : Int64)) + (12345 : Int64) = lN (l * 1103515245 + 12345) := by
    show lN l * lN 1103515245 + lN 12345 = _
    unfold lN
    rw [Int64.ofNat_add, Int64.ofNat_mul]
  rw [e, l_and (by omega)]; rfl
theorem l_i32 {k : Nat} (h : k < 2 ^ 31) : (lN k).toInt32 = nI k := by
  apply Int32.toInt_inj.mp
  rw [Int64.toInt_toInt32, pk_lT (by omega), nI_toInt h]
  exact Int.bmod_eq_of_le (by omega) (by omega)
theorem X2_draw_ok {G : zG} {d t l : Nat} {h : zMem} (hS : zSh1 h t) (hl : zL h 99 0 = lN l) (hb : l < 2147483648) : zConI G mX2_draw d [.ref 99] h (fun v h' => v = nI (dv l) ∧ h' = zsL h 99 0 (lN (nxt l))) := by
  refine cn_X2_draw (sg_X2_draw_0 hS ?_)
  rw [zL_sL, zup_s, hl, l_nxt hb]
  refine ⟨?_, rfl⟩
  have := nxt_lt l
  rw [show (65536 : Int64) = lN 65536 from rfl, pk_lDiv (by omega) (by decide) (by decide)]
  exact l_i32 (by omega)
theorem i_and31 (n : Nat) : nI n &&& (2147483647 : Int32) = nI (n % 2147483648) := by
  rw [pk_and _ 31 (by decide)]
  have e2 : (nI n).toBitVec.toNat = n % 2 ^ 32 := BitVec.toNat_ofNat n 32
  rw [e2, Nat.mod_mod_of_dvd _ (Nat.pow_dvd_pow 2 (by decide))]
theorem i_mul (l : Nat) {c : Int32} {k : Nat} (hc : c = nI k) : nI l * c = nI (l * k) := by rw [hc, pk_mul]
theorem i_add (l : Nat) {c : Int32} {k : Nat} (hc : c = nI k) : nI l + c = nI (l + k) := by rw [hc, nI_add]
theorem i_nxt (l : Nat) : ((nI l * (1103515245 : Int32)) + (12345 : Int32)) &&& (2147483647 : Int32) = nI (nxt l) := by
  unfold nxt
  rw [i_mul l (c := 1103515245) (k := 1103515245) rfl, i_add _ (c := 12345) (k := 12345) rfl, i_and31]
theorem X10_draw_ok {G : zG} {d l bl : Nat} {h : zMem} (hS : zSh2 h) (hl : zI h 155 1 = nI l) (hb : 0 < bl) (hb2 : bl < 2 ^ 31) : zConI G mX10_draw d [.ref 132, .int (nI bl)] h (fun v h' => v = nI (dv l % bl) ∧ h' = zsI h 155 1 (nI (nxt l))) := by
  refine cn_X10_draw (sg_X10_draw_0 hS ?_)
  have n1 := nxt_lt l
  unfold dv
  rw [hl, i_nxt]
  generalize nxt l = m at *
  rw [zI_sI, zup_s, pk_shrN (k := 16) (by omega) _ (by decide), show (2 : Nat) ^ 16 = 65536 by decide]
  exact ⟨nI_ne0 hb hb2, pk_rem (by omega) hb hb2, rfl⟩
def blN (l : Nat) : Nat := if dv l % 4 = 0 then nxt (nxt l) else nxt l
def blC (ns l : Nat) (I : Nat → Nat → Int32) : Nat → Nat → Int32 := if dv l % 4 = 0 then zup I 84 (dv (nxt l) % ns) 9 else I
def zV (h h' : zMem) : Prop := h'.1 = h.1 ∧ h'.2.1 = h.2.1
theorem zW.v {h h' : zMem} (q : zW h h') : zV h h' := ⟨q.1.1, q.2⟩
theorem zV.trans {h h1 h2 : zMem} (a : zV h h1) (b : zV h1 h2) : zV h h2 := ⟨b.1.trans a.1, b.2.trans a.2⟩
theorem zSh1.V {h h' : zMem} {t : Nat} (hS : zSh1 h t) (q : zV h h') : zSh1 h' t := hS.of q.1 q.2
theorem zSh2.V {h h' : zMem} (hS : zSh2 h) (q : zV h h') : zSh2 h' := hS.of q.1 q.2
theorem zV.out {h h1 : zMem} (w : zV h h1) (q : zO h 174 101 ∧ zLen h 174 = 1) : zO h1 174 101 ∧ zLen h1 174 = 1 := by
  obtain ⟨⟨q1, q2⟩, q3⟩ := q
  unfold zO zn zK zLen at *
  rw [w.1, w.2]
  exact ⟨⟨q1, q2⟩, q3⟩
theorem blN_lt (l : Nat) : blN l < 2147483648 := by unfold blN; split <;> exact nxt_lt _
set_option maxHeartbeats 1000000 in
theorem X9_blowByChance_ok {G : zG} {d t l ns : Nat} {h : zMem} (hS : zSh1 h t) (hn : zI h (t + 1) 0 = nI ns) (h6 : ns ≤ 6) (h0 : 0 < ns) (hl : zL h 99 0 = lN l) (hb : l < 2147483648) : zConV G mX9_blowByChance (d + 1) [.ref 0] h (fun h' => zV h h' ∧ zI h' = blC ns l (zI h) ∧ zL h' 99 0 = lN (blN l)) := by
  refine cn_X9_blowByChance (sg_X9_blowByChance_0 hS ⟨_, X2_draw_ok hS hl hb, ?_⟩)
  rintro v h2 ⟨rfl, rfl⟩
  have s2 : zSh1 (zsL h 99 0 (lN (nxt l))) t := hS.V ⟨rfl, rfl⟩
  have dl := dv_lt l
  have dl2 := dv_lt (nxt l)
  have e4 : nI (dv l) - nI (dv l) / 4 * 4 = nI (dv l % 4) := pk_rem (d := 4) (by omega) (by decide) (by decide)
  rw [e4, hn]
  unfold blC blN
  refine ⟨s2, fun c => ?_, fun c => ⟨fun c2 => absurd (nI_eq0 (by omega) c2) (by omega), fun _ => ⟨_, X2_draw_ok s2 (by rw [zL_sL, zup_s]) (nxt_lt l), ?_⟩⟩⟩
  · have : ¬ dv l % 4 = 0 := fun e => c (by rw [e]; rfl)
    rw [if_neg this, if_neg this]
    exact ⟨⟨rfl, rfl⟩, rfl, by rw [zL_sL, zup_s]⟩
  · have hz : dv l % 4 = 0 := Nat.eq_zero_of_not_pos (fun p => nI_ne0 p (by omega) c)
    rintro v h8 ⟨rfl, rfl⟩
    have hlt := Nat.mod_lt (dv (nxt l)) h0
    rw [if_pos hz, if_pos hz, pk_rem (show dv (nxt l) < 2 ^ 31 by omega) h0 (by omega), zcla (show dv (nxt l) % ns < 2 ^ 31 by omega)]
    exact ⟨s2.V ⟨rfl, rfl⟩, nI_ne0 h0 (by omega), zin_n (by omega) (by decide), ⟨rfl, rfl⟩, rfl, by rw [show zL (zsI (zsL (zsL h 99 0 (lN (nxt l))) 99 0 (lN (nxt (nxt l)))) 84 (dv (nxt l) % ns) 9) = zL (zsL (zsL h 99 0 (lN (nxt l))) 99 0 (lN (nxt (nxt l)))) from rfl, zL_sL, zup_s]⟩
def chR (t ns nd nr nm : Nat) : Nat → Nat → Nat → (Nat → Nat → Int32) → (Nat → Nat → Int32) → Nat → Prop
  | 0, _, l, I, J, l' => J = I ∧ l' = l
  | n + 1, dt, l, I, J, l' => ∃ I2, mornR (blC ns l I) I2 82 t ns nd nr nm dt ∧ chR t ns nd nr nm n (dt + 1) (blN l) I2 J l'
def caR (I : Nat → Nat → Int32) (t ns nd nr nm dt n : Nat) (x : Int32) : Nat → Nat → Nat → Int32 → Prop
  | 0, _, c, v => v = nI c
  | r + 1, l, c, v => ∃ C J l', clQ I C 82 48 ∧ (∀ a, (a < 82 ∨ 99 ≤ a) → C a = I a) ∧ chR t ns nd nr nm n dt l C J l' ∧ (J 82 12 - J 48 12 < x → caR I t ns nd nr nm dt n x r l' c v) ∧ (¬ J 82 12 - J 48 12 < x → caR I t ns nd nr nm dt n x r l' (c + 1) v)
theorem blC_ne {ns l : Nat} {I : Nat → Nat → Int32} {c : Nat} (h : c ≠ 84) : blC ns l I c = I c := by
  unfold blC
  split
  · rw [zup_ne _ _ h]
  · rfl
theorem bl_st {I : Nat → Nat → Int32} {ns l nd nr nm dt : Nat} (h : stOK I 82 nd nr nm dt) : stOK (blC ns l I) 82 nd nr nm dt := by
  unfold stOK
  rw [blC_ne (show 82 ≠ 84 by decide), blC_ne (show 82 + 11 ≠ 84 by decide), blC_ne (show 82 + 14 ≠ 84 by decide)]
  exact h
theorem clQ_E {I I1 C : Nat → Nat → Int32} (h : clQ I1 C 82 48) (e : ∀ a, (a < 82 ∨ 99 ≤ a) → I1 a = I a) : clQ I C 82 48 := by
  unfold clQ at *
  rw [e 48 (by omega), e (48 + 1) (by omega), e (48 + 2) (by omega), e (48 + 3) (by omega), e (48 + 11) (by omega), e (48 + 12) (by omega), e (48 + 13) (by omega), e (48 + 14) (by omega)] at h
  refine ⟨h.1, h.2.1, fun p s hp hs => ?_, h.2.2.2⟩
  rw [h.2.2.1 p s hp hs, e (48 + 4 + 1 + p) (by omega)]
theorem cl_st {I C : Nat → Nat → Int32} {nd nr nm dt : Nat} (h5 : nm ≤ 5) (hC : clQ I C 82 48) (h : stOK I 48 nd nr nm dt) : stOK C 82 nd nr nm dt := by
  obtain ⟨s1, s2, s3⟩ := h
  refine ⟨fun m hm => by rw [(hC.2.1 m (by omega)).1]; exact s1 m hm, fun m hm h0 => by rw [(hC.2.1 m (by omega)).2.2.2]; exact s2 m hm h0, by rw [hC.2.2.2.1]; exact s3⟩
/-- a trial copied on both sides, some time later -/
theorem tr_init2 {I X C N1 N : Nat → Nat → Int32} {t ns nd nr nm dt u nn tp : Nat} (ht : isTd t) (hI : zInv I t ns nd nr nm dt u nn tp) (hC : clQ I C 82 48) (hf : ∀ k, k < 29 → C (t + k) = I (t + k)) (hX : eT I X) (j : jE X N1) (hN : cpR N1 N 1 0) : rnI C N 82 t 1 ns nd nr nm dt := by
  obtain ⟨i1, i2, i3, -⟩ := hI
  have h6 : ns ≤ 6 := i1.1.2.2.2.2.1
  have h8 : nd ≤ 8 := i1.1.2.2.2.2.2.1
  have h6r : nr ≤ 6 := i1.1.2.2.2.2.2.2.1
  have h5 : nm ≤ 5 := i1.1.2.2.2.2.2.2.2.1
  have hl := ht.lt
  have tn : t = 8 ∨ t = 103 := ht
  have QX : abQ I X 0 0 := (abQ.rf I 0).eq (fun c a b => hX.1 c (by omega))
  have Q : abQ I N 1 0 := (QX.trans (j.ab (by decide))).trans hN.q
  have j2 : jE X N := j.trans hN.j1
  have n132 : ∀ k, k ≠ 0 → k ≠ 33 → N 132 k = I 132 k := fun k a b => by rw [j2 132 k (by unfold jkP; omega)]; exact hX.2 k a
  have nrow : ∀ c, 133 ≤ c → c < 151 → N c = I c := fun c a b => by rw [j2.row (by omega)]; exact hX.1 c a
  refine ⟨rlT_E h8 (fun k hk => ?_) (fun c a b => ?_) i1.2.2.1, ?_, ?_, ?_, ?_, abOK_Q h6 h6r h5 Q i3.2.1⟩
  · rw [mg_lo (by omega)]; exact hf k hk
  · rw [mg_hi (by omega)]; exact nrow c (by omega) (by omega)
  · unfold pln; rw [n132 50 (by decide) (by decide), n132 52 (by decide) (by decide)]; exact i2.1
  · rw [n132 48 (by decide) (by decide)]; exact i2.2
  · exact relS_cp h6 h6r h5 hC (fun k hk => mg_lo (by omega)) (by rw [mg_hi (by decide)]; exact nrow 141 (by decide) (by decide)) (Q.eq (fun c a b => mg_hi (by omega))) i3.1
  · exact mdOK_E2 i1.2.1 (fun c hc => nrow c (by omega) (by omega)) (fun k a b => n132 k (by omega) (by omega))
theorem rnI_155 {C N N' : Nat → Nat → Int32} {t ns nd nr nm dt : Nat} (ht : isTd t) (h8 : nd ≤ 8) (i : rnI C N 82 t 1 ns nd nr nm dt) (e : ∀ c, c ≠ 155 → N' c = N c) : rnI C N' 82 t 1 ns nd nr nm dt := by
  obtain ⟨i1, i2, i3, i4, i5, i6⟩ := i
  have h6 : ns ≤ 6 := i5.2.2.2.2.1
  have h6r : nr ≤ 6 := i5.2.2.2.2.2.2.1
  have h5 : nm ≤ 5 := i5.2.2.2.2.2.2.2.1
  have m : ∀ c, c ≠ 155 → mg C N' c = mg C N c := fun c hc => by
    by_cases l : c < 132
    · rw [mg_lo l, mg_lo l]
    · rw [mg_hi (by omega), mg_hi (by omega)]; exact e c hc
  refine ⟨?_, ?_, ?_, ?_, mdOK_E i5 (fun c hc => e c (by omega)) (fun k _ => by rw [e 132 (by decide)]), abOK_E h6 h6r h5 ⟨fun c _ _ => by rw [e c (by omega)], fun c s _ _ => by rw [e c (by omega)], fun p s _ _ => by rw [e 158 (by omega)], fun c m _ _ _ => by rw [e c (by omega)]⟩ i6⟩
  · exact rlT_E h8 (fun k hk => m _ (by rcases ht with rfl | rfl <;> omega)) (fun c a b => m c (by omega)) i1
  · unfold pln; rw [e 132 (by decide)]; exact i2
  · rw [e 132 (by decide)]; exact i3
  · exact relS_E h6 h6r h5 (fun k hk => m _ (by omega)) (m 141 (by decide)) ⟨fun c _ _ => by rw [m c (by omega)], fun c s _ _ => by rw [m c (by omega)], fun p s _ _ => by rw [m 158 (by omega)], fun c m' _ _ _ => by rw [m c (by omega)]⟩ i4
