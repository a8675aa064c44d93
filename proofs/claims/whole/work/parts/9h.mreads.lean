/-! the model's reader: numbers, names, told bits -/
section MR
variable {G : zG} {d n p : Nat} {h1 h : zMem} {B : Nat → Int32}
theorem m_numeralF {Q : Int32 → zMem → Prop} {f lo hi : Int32} {pl : Nat} (b : mBs h1 n B) (q : mbad h1 f pl h) (K : Q lo h) : ∃ Q2 : Int32 → zMem → Prop, zConI G mX10_numeral (d + 1) [.ref 132, .int lo, .int hi] h Q2 ∧ (∀ v h3, Q2 v h3 → zSh2 h3 ∧ Q v h3) :=
  ⟨fun v h3 => zSh2 h3 ∧ Q v h3, cn_X10_numeral (sg_X10_numeral_0 (q.1.sh b) ⟨fun z => absurd (q.2.1.symm.trans z) q.2.2.1, fun _ => ⟨q.1.sh b, K⟩⟩), fun _ _ x => x⟩
theorem m_numeral {Q : Int32 → zMem → Prop} {a b0 : Nat} (hG : gK G) (b : mBs h1 n B) (q : mok h1 n B p h) (hab : a ≤ b0) (hb : b0 ≤ 99999) (K1 : ∀ h', nmX B n p (nI a) (nI b0) = 0 → mok h1 n B (tke B n p) h' → tkE h h' → Q (tkn B n p) h') (K2 : ∀ h', nmX B n p (nI a) (nI b0) ≠ 0 → mbad h1 (nmX B n p (nI a) (nI b0)) (tks B n p) h' → tkE h h' → Q (nI a) h') : ∃ Q2 : Int32 → zMem → Prop, zConI G mX10_numeral (d + 12) [.ref 132, .int (nI a), .int (nI b0)] h Q2 ∧ (∀ v h3, Q2 v h3 → zSh2 h3 ∧ Q v h3) := by
  have S := q.1.sh b
  have T := q.2.1.2.2.2
  unfold nmX at K1 K2
  refine ⟨fun v h3 => zSh2 h3 ∧ Q v h3, cn_X10_numeral (sg_X10_numeral_0 S ⟨fun _ => ⟨fun c2 => ?_, fun c2 => ?_⟩, fun z => absurd q.2.2.2 z⟩), fun _ _ x => x⟩
  · have c36 := T.o.2.1.mp c2
    rw [if_pos c36] at K1 K2
    have bad : ∀ h', mbad h1 2 (tks B n p) h' → tkE h h' → (∀ h', mbad h1 2 (tks B n p) h' → tkE h h' → Q (nI a) h') → ((zI h' 132 25) = 0 → ∃ Q8 : zMem → Prop, zConV G mX10_token (d + 11) [.ref 132] h' Q8 ∧ (∀ h9, Q8 h9 → zSh2 h9 ∧ (zSh2 h9 ∧ Q (zI h' 132 24) h9))) ∧ (¬ (zI h' 132 25) = 0 → (zSh2 h' ∧ Q (nI a) h')) := fun h' bb e KK => ⟨fun z => absurd (bb.2.1.symm.trans z) bb.2.2.1, fun _ => ⟨bb.1.sh b, KK h' bb e⟩⟩
    rcases T.v.2 c36 with ⟨ev, k, hk, ek⟩ | ⟨x, y, x1, y1, x2, y2, ex, ey⟩
    · rw [← ev]
      refine ⟨fun c => ?_, fun c => ⟨fun c3 => ?_, fun c3 => ?_⟩⟩
      · rw [if_pos c] at K2
        exact m_wrong b q (by decide) (fun h' bb e => bad h' bb e (fun h' y z => K2 h' (by decide) y z))
      · rw [if_neg c, if_pos c3] at K1
        refine ⟨fun _ => m_token hG b q.1 q.2.1 q.2.2.1 q.2.2.2 (fun h' a e => ⟨a.1.sh b, K1 h' rfl a e⟩), fun z => absurd q.2.2.2 z⟩
      · rw [if_neg c, if_neg c3] at K2
        exact m_wrong b q (by decide) (fun h' bb e => bad h' bb e (fun h' y z => K2 h' (by decide) y z))
    · have n1 : ¬ tkn B n p < nI a := by rw [ex]; exact nI_nlt (by omega) (by omega)
      have n2 : ¬ tkn B n p ≤ nI b0 := by rw [ex]; exact nI_ge (by omega) (by omega)
      rw [if_neg n1, if_neg n2] at K2
      rw [ey]
      refine ⟨fun c => absurd c (nI_nlt (by omega) (by omega)), fun _ => ⟨fun c3 => absurd c3 (nI_ge (by omega) (by omega)), fun _ => ?_⟩⟩
      exact m_wrong b q (by decide) (fun h' bb e => bad h' bb e (fun h' y z => K2 h' (by decide) y z))
  · have c36 : ¬ tkt B n p = 36 := fun z => c2 (T.o.2.1.mpr z)
    rw [if_neg c36] at K2
    exact m_wrong b q (by decide) (fun h' bb e => ⟨fun z => absurd (bb.2.1.symm.trans z) bb.2.2.1, fun _ => ⟨bb.1.sh b, K2 h' (by decide) bb e⟩⟩)
theorem m_freshF {Q : Int32 → zMem → Prop} {f x y : Int32} {pl c : Nat} (b : mBs h1 n B) (q : mbad h1 f pl h) (K : Q 0 h) : ∃ Q2 : Int32 → zMem → Prop, zConI G mX10_fresh (d + 1) [.ref 132, .ref c, .int x, .int y] h Q2 ∧ (∀ v h3, Q2 v h3 → zSh2 h3 ∧ Q v h3) :=
  ⟨fun v h3 => zSh2 h3 ∧ Q v h3, cn_X10_fresh (sg_X10_fresh_0 (q.1.sh b) ⟨fun z => absurd (q.2.1.symm.trans z) q.2.2.1, fun _ => ⟨q.1.sh b, K⟩⟩), fun _ _ x => x⟩
theorem m_toldF {Q : Int32 → zMem → Prop} {f x y : Int32} {pl c : Nat} (b : mBs h1 n B) (q : mbad h1 f pl h) (K : Q 0 h) : ∃ Q2 : Int32 → zMem → Prop, zConI G mX10_toldAhead (d + 1) [.ref 132, .ref c, .int x, .int y] h Q2 ∧ (∀ v h3, Q2 v h3 → zSh2 h3 ∧ Q v h3) :=
  ⟨fun v h3 => zSh2 h3 ∧ Q v h3, cn_X10_toldAhead (sg_X10_toldAhead_0 (q.1.sh b) ⟨fun z => absurd (q.2.1.symm.trans z) q.2.2.1, fun _ => ⟨q.1.sh b, K⟩⟩), fun _ _ x => x⟩
/-- a row of names of the model, and of the class -/
theorem m_found {A : tM} {kd c fr : Nat} (S : zSh2 h) (ho : zO h c 100) (hl : fr + mny A kd ≤ zLen h c) (hb : zLen h c < 2 ^ 31) (e : ∀ k, k < mny A kd → zI h c (fr + k) = A (3 + kd) k) (x : Int32) : zConI G mX10_found d [.ref c, .int (nI fr), .int (nI (mny A kd)), .int x] h (fun v h' => v = fnd A kd x ∧ h' = h) := by
  have := X10_found_ok (G := G) (d := d) S (from' := fr) (n := mny A kd) ho hl hb x
  rw [show findF (fun k => zI h c (fr + k)) x (mny A kd) 0 = fnd A kd x from findF_congr _ _ (fun j _ hj => e j (by omega))] at this
  exact this
theorem m_fresh {Q : Int32 → zMem → Prop} {A : tM} {kd c fr : Nat} (hG : gK G) (b : mBs h1 n B) (q : mok h1 n B p h) (ho : zO h c 100) (hl : fr + mny A kd ≤ zLen h c) (hb : zLen h c < 2 ^ 31) (e : ∀ k, k < mny A kd → zI h c (fr + k) = A (3 + kd) k) (K1 : ∀ h', tkt B n p = 35 → fnd A kd (tkl B n p) = -1 → mok h1 n B (tke B n p) h' → tkE h h' → Q (tkl B n p) h') (K2 : ∀ h', ¬ (tkt B n p = 35 ∧ fnd A kd (tkl B n p) = -1) → mbad h1 (if tkt B n p = 35 then 3 else 1) (tks B n p) h' → tkE h h' → Q 0 h') : ∃ Q2 : Int32 → zMem → Prop, zConI G mX10_fresh (d + 12) [.ref 132, .ref c, .int (nI fr), .int (nI (mny A kd))] h Q2 ∧ (∀ v h3, Q2 v h3 → zSh2 h3 ∧ Q v h3) := by
  have S := q.1.sh b
  have T := q.2.1.2.2.2
  refine ⟨fun v h3 => zSh2 h3 ∧ Q v h3, cn_X10_fresh (sg_X10_fresh_0 S ⟨fun _ => ⟨fun c2 => ?_, fun c2 => ?_⟩, fun z => absurd q.2.2.2 z⟩), fun _ _ x => x⟩
  · have c35 := T.o.1.mp c2
    have ev := T.v.1 c35
    refine ⟨_, m_found (A := A) (kd := kd) S ho hl hb e _, ?_⟩
    rintro v h4 ⟨rfl, rfl⟩
    rw [ev]
    refine ⟨S, fun c3 => ⟨fun _ => m_token hG b q.1 q.2.1 q.2.2.1 q.2.2.2 (fun h' a e => ⟨a.1.sh b, K1 h' c35 c3 a e⟩), fun z => absurd q.2.2.2 z⟩, fun c3 => ?_⟩
    rw [if_pos c35] at K2
    exact m_wrong b q (by decide) (fun h' bb e => ⟨fun z => absurd (bb.2.1.symm.trans z) bb.2.2.1, fun _ => ⟨bb.1.sh b, K2 h' (fun z => c3 z.2) bb e⟩⟩)
  · have c35 : ¬ tkt B n p = 35 := fun z => c2 (T.o.1.mpr z)
    rw [if_neg c35] at K2
    exact m_wrong b q (by decide) (fun h' bb e => ⟨fun z => absurd (bb.2.1.symm.trans z) bb.2.2.1, fun _ => ⟨bb.1.sh b, K2 h' (fun z => c35 z.1) bb e⟩⟩)
theorem m_told {Q : Int32 → zMem → Prop} {A : tM} {kd c fr : Nat} (b : mBs h1 n B) (q : mok h1 n B p h) (ho : zO h c 100) (hl : fr + mny A kd ≤ zLen h c) (hb : zLen h c < 2 ^ 31) (e : ∀ k, k < mny A kd → zI h c (fr + k) = A (3 + kd) k) (K1 : tdX B n A kd p = 0 → Q (fnd A kd (tkl B n p)) h) (K2 : ∀ h', tdX B n A kd p ≠ 0 → mbad h1 (tdX B n A kd p) (tks B n p) h' → tkE h h' → Q 0 h') : ∃ Q2 : Int32 → zMem → Prop, zConI G mX10_toldAhead (d + 12) [.ref 132, .ref c, .int (nI fr), .int (nI (mny A kd))] h Q2 ∧ (∀ v h3, Q2 v h3 → zSh2 h3 ∧ Q v h3) := by
  have S := q.1.sh b
  have T := q.2.1.2.2.2
  unfold tdX at K1 K2
  refine ⟨fun v h3 => zSh2 h3 ∧ Q v h3, cn_X10_toldAhead (sg_X10_toldAhead_0 S ⟨fun _ => ⟨fun c2 => ?_, fun c2 => ?_⟩, fun z => absurd q.2.2.2 z⟩), fun _ _ x => x⟩
  · have c35 := T.o.1.mp c2
    have ev := T.v.1 c35
    rw [if_pos c35] at K1 K2
    refine ⟨_, m_found (A := A) (kd := kd) S ho hl hb e _, ?_⟩
    rintro v h4 ⟨rfl, rfl⟩
    rw [ev]
    refine ⟨S, fun c3 => ⟨fun _ => ⟨_, m_found (A := A) (kd := kd) S ho hl hb e _, ?_⟩, fun z => absurd q.2.2.2 z⟩, fun c3 => ?_⟩
    · rintro v h5 ⟨rfl, rfl⟩
      rw [if_neg c3] at K1
      exact ⟨S, S, K1 rfl⟩
    · rw [if_pos c3] at K2
      exact m_wrong b q (by decide) (fun h' bb e => ⟨fun z => absurd (bb.2.1.symm.trans z) bb.2.2.1, fun _ => ⟨bb.1.sh b, K2 h' (by decide) bb e⟩⟩)
  · have c35 : ¬ tkt B n p = 35 := fun z => c2 (T.o.1.mpr z)
    rw [if_neg c35] at K2
    exact m_wrong b q (by decide) (fun h' bb e => ⟨fun z => absurd (bb.2.1.symm.trans z) bb.2.2.1, fun _ => ⟨bb.1.sh b, K2 h' (by decide) bb e⟩⟩)
end MR
/-- a bit of what is told -/
def tbit (x : Int32) (k : Nat) : Prop := ((x >>> (nI k &&& 31)) &&& 1) = 1
theorem tb_bit (x : Int32) {s : Nat} (hs : s < 20) : tbit x s ↔ x.toBitVec.getLsbD s = true := by
  have key : ∀ s : Fin 20, (nI s.val &&& 31 : Int32).toBitVec.smod 32 = BitVec.ofNat 32 s.val := by decide +kernel
  have e : (x >>> (nI s &&& 31)).toBitVec = x.toBitVec.sshiftRight s := by
    rw [Int32.toBitVec_shiftRight, key ⟨s, hs⟩]
    show x.toBitVec.sshiftRight (BitVec.ofNat 32 s).toNat = _
    rw [BitVec.toNat_ofNat, Nat.mod_eq_of_lt (by omega)]
  have e2 : (x >>> (nI s &&& 31)).toBitVec.getLsbD 0 = x.toBitVec.getLsbD s := by
    rw [e, BitVec.getLsbD_sshiftRight]
    simp
    omega
  unfold tbit
  rw [pk_and _ 1 (by decide), ← e2]
  show nI (_ % 2 ^ 1) = nI 1 ↔ Nat.testBit _ 0 = true
  rw [nI_eq (by omega) (by decide), Nat.testBit_zero]
  simp
theorem tb_tab : ∀ s : Fin 20, ∀ j : Fin 20, ((1 : Int32) <<< (nI s.val &&& 31)).toBitVec.getLsbD j.val = decide (j.val = s.val) := by decide +kernel
theorem tb_set (x : Int32) {j k : Nat} (hj : j < 20) (hk : k < 20) : tbit (x ||| ((1 : Int32) <<< (nI j &&& 31))) k ↔ k = j ∨ tbit x k := by
  rw [tb_bit _ hk, tb_bit _ hk, bit_or, tb_tab ⟨j, hj⟩ ⟨k, hk⟩, Bool.or_eq_true, decide_eq_true_iff]
  exact Or.comm
theorem tb_0 {k : Nat} (hk : k < 20) : ¬ tbit 0 k := by
  rw [tb_bit _ hk]; simp
