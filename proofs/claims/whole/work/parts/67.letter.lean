/-! bits; a letter; a stuff in place of another one -/
theorem i32_ext {x y : Int32} (h : ∀ k, k < 32 → x.toBitVec.getLsbD k = y.toBitVec.getLsbD k) : x = y := Int32.toBitVec_inj.mp (BitVec.eq_of_getLsbD_eq (fun k hk => h k hk))
theorem bit_tab : ∀ s : Fin 6, ∀ j : Fin 32, ((1 : Int32) <<< (nI s.val &&& 31)).toBitVec.getLsbD j.val = decide (j.val = s.val) := by decide +kernel
theorem bit_one {s k : Nat} (hs : s < 6) (hk : k < 32) : ((1 : Int32) <<< (nI s &&& 31)).toBitVec.getLsbD k = decide (k = s) := bit_tab ⟨s, hs⟩ ⟨k, hk⟩
theorem bit_m1 {k : Nat} (hk : k < 32) : (-1 : Int32).toBitVec.getLsbD k = true := by
  have : (-1 : Int32).toBitVec = BitVec.allOnes 32 := by decide
  rw [this, BitVec.getLsbD_allOnes]; exact decide_eq_true hk
theorem bit_or (x y : Int32) (k : Nat) : (x ||| y).toBitVec.getLsbD k = (x.toBitVec.getLsbD k || y.toBitVec.getLsbD k) := by rw [Int32.toBitVec_or, BitVec.getLsbD_or]
theorem bit_and (x y : Int32) (k : Nat) : (x &&& y).toBitVec.getLsbD k = (x.toBitVec.getLsbD k && y.toBitVec.getLsbD k) := by rw [Int32.toBitVec_and, BitVec.getLsbD_and]
theorem bit_xor (x y : Int32) (k : Nat) : (x ^^^ y).toBitVec.getLsbD k = (x.toBitVec.getLsbD k ^^ y.toBitVec.getLsbD k) := by rw [Int32.toBitVec_xor, BitVec.getLsbD_xor]
theorem and_m1 (x : Int32) : x &&& ((0 : Int32) ^^^ (-1)) = x := i32_ext (fun k hk => by rw [bit_and, bit_xor, bit_m1 hk, show (0 : Int32).toBitVec.getLsbD k = false by simp]; simp)
theorem or_0 (x : Int32) : x ||| 0 = x := i32_ext (fun k hk => by rw [bit_or, show (0 : Int32).toBitVec.getLsbD k = false by simp]; simp)
theorem smelt0 (n : Nat) (f : Nat → Int32) (p k : Int32) : smeltF n f p k 0 = bitsF f p k n := and_m1 _
theorem bitsF_bit {f : Nat → Int32} {p keen : Int32} {k : Nat} (hk : k < 32) : ∀ n, n ≤ 6 → (bitsF f p keen n).toBitVec.getLsbD k = (decide (k < n) && !decide (f k * p / 100 < keen))
  | 0, _ => by show (0 : Int32).toBitVec.getLsbD k = _; simp
  | n + 1, h => by
    have ih := bitsF_bit (f := f) (p := p) (keen := keen) hk n (by omega)
    unfold bitsF
    by_cases e : k = n
    · subst e
      rw [decide_eq_false (show ¬ k < k by omega)] at ih
      rw [decide_eq_true (show k < k + 1 by omega)]
      by_cases c : f k * p / 100 < keen
      · rw [if_pos c, ih, decide_eq_true c]; rfl
      · rw [if_neg c, bit_or, ih, bit_one (by omega) hk, decide_eq_false c, decide_eq_true rfl]; rfl
    · have e2 : decide (k < n + 1) = decide (k < n) := by
        by_cases q : k < n
        · rw [decide_eq_true q, decide_eq_true (by omega)]
        · rw [decide_eq_false q, decide_eq_false (by omega)]
      rw [e2]
      by_cases c : f n * p / 100 < keen
      · rw [if_pos c, ih]
      · rw [if_neg c, bit_or, ih, bit_one (by omega) hk, decide_eq_false e]; simp
theorem smelt_bit {f : Nat → Int32} {p keen colds : Int32} {k n : Nat} (hk : k < 32) (hn : n ≤ 6) : (smeltF n f p keen colds).toBitVec.getLsbD k = ((decide (k < n) && !decide (f k * p / 100 < keen)) && !colds.toBitVec.getLsbD k) := by
  unfold smeltF
  rw [bit_and, bitsF_bit hk n hn, bit_xor, bit_m1 hk]
  simp
theorem cold_bit (x : Int32) {s : Nat} (hs : s < 6) : ((x >>> (nI s &&& 31)) &&& 1) = 1 ↔ x.toBitVec.getLsbD s = true := by
  have e : (x >>> (nI s &&& 31)).toBitVec = x.toBitVec.sshiftRight s := by
    rw [Int32.toBitVec_shiftRight]
    rcases (show s = 0 ∨ s = 1 ∨ s = 2 ∨ s = 3 ∨ s = 4 ∨ s = 5 by omega) with rfl | rfl | rfl | rfl | rfl | rfl <;> rfl
  have e2 : (x >>> (nI s &&& 31)).toBitVec.getLsbD 0 = x.toBitVec.getLsbD s := by
    rw [e, BitVec.getLsbD_sshiftRight]
    simp
    omega
  rw [pk_and _ 1 (by decide), ← e2]
  show nI (_ % 2 ^ 1) = nI 1 ↔ Nat.testBit _ 0 = true
  rw [nI_eq (by omega) (by decide), Nat.testBit_zero]
  simp
def fndD (g : Nat → Int32) (x : Int32) : Nat → Nat → Int32
  | 0, _ => -2
  | n + 1, k => if g k = x then nI k else fndD g x n (k + 1)
set_option maxHeartbeats 4000000 in
theorem pr_letter {G : zG} {d : Nat} {h : zMem} (hOK : zOK h) (x y z : Int32) : pairI G mX9_letter mX10_letter (d + 200) [.ref 0, .int x, .int y, .int z] [.ref 132, .int x, .int y, .int z] h := by
  have hOK' := hOK
  obtain ⟨t, ns, nd, nr, nm, dt, u, nn, tp, S1, S2, -, hI⟩ := hOK'
  obtain ⟨td, md, rl, h99, -⟩ := hI.1
  obtain ⟨t0, t1, t2, t3, h6, h8, h6r, h5, hlw⟩ := td
  obtain ⟨w1, w2, w3, w4, w5, w6, w7, w8⟩ := now0 hI.2.2.1.1
  have P : ∀ h1, cR h h1 → zSh2 (zsI h1 132 0 0) ∧ zInv (zI (zsI h1 132 0 0)) t ns nd nr nm dt u nn tp := fun h1 k => ⟨S2.W k.thr.1, zInv_j S1.2.1 hI k.thr.2⟩
  rcases ix_or x (n := nd) (by omega) with q | ⟨dy, hd, rfl⟩
  · refine pair_ro hOK (-1) ?_ (fun h1 k => ?_)
    · refine cn_X9_letter (sg_X9_letter_0 S1 ⟨_, X9_has_no (k := 1) S1 (by decide) t1 q, ?_⟩)
      rintro v h2 ⟨rfl, rfl⟩
      exact ⟨S1, fun _ => ⟨rfl, cR.rf _⟩, fun c => absurd rfl c⟩
    · obtain ⟨S3, I3⟩ := P h1 k
      refine cn_X10_letter (sg_X10_letter_0 (S2.W k.1) ⟨_, X10_isDay_no S3 I3.1.2.1.2.1 q, ?_⟩)
      rintro v h2 ⟨rfl, rfl⟩
      exact ⟨S3, fun _ => ⟨rfl, jR.thr h1⟩, fun c => absurd rfl c⟩
  rcases ix_or y (n := nm) (by omega) with q | ⟨m, hm, rfl⟩
  · refine pair_ro hOK (-1) ?_ (fun h1 k => ?_)
    · refine cn_X9_letter (sg_X9_letter_0 S1 ⟨_, X9_has_yes (k := 1) S1 (by decide) t1 hd (by omega), ?_⟩)
      rintro v h2 ⟨rfl, rfl⟩
      refine ⟨S1, fun c => absurd c n10, fun _ => ⟨_, X9_has_no (k := 3) S1 (by decide) t3 q, ?_⟩⟩
      rintro v h2' ⟨rfl, rfl⟩
      exact ⟨S1, fun _ => ⟨rfl, cR.rf _⟩, fun c => absurd rfl c⟩
    · obtain ⟨S3, I3⟩ := P h1 k
      refine cn_X10_letter (sg_X10_letter_0 (S2.W k.1) ⟨_, X10_isDay_yes S3 I3.1.2.1.2.1 hd (by omega), ?_⟩)
      rintro v h2 ⟨rfl, rfl⟩
      refine ⟨S3, fun c => absurd c n10, fun _ => ⟨_, X10_isMonk_no S3 I3.1.2.1.2.2.2.1 q, ?_⟩⟩
      rintro v h2' ⟨rfl, rfl⟩
      exact ⟨S3, fun _ => ⟨rfl, jR.thr h1⟩, fun c => absurd rfl c⟩
  by_cases yb : z < 0 ∨ ¬ z ≤ 10
  · refine pair_ro hOK (-1) ?_ (fun h1 k => ?_)
    · refine cn_X9_letter (sg_X9_letter_0 S1 ⟨_, X9_has_yes (k := 1) S1 (by decide) t1 hd (by omega), ?_⟩)
      rintro v h2 ⟨rfl, rfl⟩
      refine ⟨S1, fun c => absurd c n10, fun _ => ⟨_, X9_has_yes (k := 3) S1 (by decide) t3 hm (by omega), ?_⟩⟩
      rintro v h2' ⟨rfl, rfl⟩
      exact ⟨S1, fun _ => ⟨rfl, cR.rf _⟩, fun _ => ⟨fun _ => ⟨rfl, cR.rf _⟩, fun c => ⟨fun c2 => absurd c2 (yb.resolve_left c), fun _ => ⟨rfl, cR.rf _⟩⟩⟩⟩
    · obtain ⟨S3, I3⟩ := P h1 k
      refine cn_X10_letter (sg_X10_letter_0 (S2.W k.1) ⟨_, X10_isDay_yes S3 I3.1.2.1.2.1 hd (by omega), ?_⟩)
      rintro v h2 ⟨rfl, rfl⟩
      refine ⟨S3, fun c => absurd c n10, fun _ => ⟨_, X10_isMonk_yes S3 I3.1.2.1.2.2.2.1 hm (by omega), ?_⟩⟩
      rintro v h2' ⟨rfl, rfl⟩
      exact ⟨S3, fun _ => ⟨rfl, jR.thr h1⟩, fun _ => ⟨fun _ => ⟨rfl, jR.thr h1⟩, fun c => ⟨fun c2 => absurd c2 (yb.resolve_left c), fun _ => ⟨rfl, jR.thr h1⟩⟩⟩⟩
  have y0 : ¬ z < 0 := fun c => yb (Or.inl c)
  have y1 : z ≤ 10 := Classical.byContradiction fun c => yb (Or.inr c)
  obtain ⟨r, hr, er⟩ := (ab0 hI.2.2.1.2.1).1 m hm
  have er' : zI h 59 m = nI r := (w8 m hm).1.trans er
  have ep : zI h (48 + 3) r = ptM (zI h) r := by unfold ptM; rw [hI.2.1.2]; exact w6 r hr
  obtain ⟨kn, ekn⟩ : ∃ kn, kn = keF (zI h) 0 m r := ⟨_, rfl⟩
  obtain ⟨pp, epp⟩ : ∃ pp : Int32, pp = (100 : Int32) - (10 : Int32) * z := ⟨_, rfl⟩
  obtain ⟨g, hg⟩ : ∃ g : Nat → Int32, g = fun dd => smeltF ns (mxM (zI h) dd) 100 kn 0 := ⟨_, rfl⟩
  obtain ⟨its, hits⟩ : ∃ its, its = smeltF ns (mxM (zI h) dy) pp kn 0 := ⟨_, rfl⟩
  obtain ⟨R, hR⟩ : ∃ R, R = fndD g its nd 0 := ⟨_, rfl⟩
  have rowE : ∀ dd, dd < nd → ∀ p, smeltF ns (zI h (t + 9 + 1 + dd)) p kn 0 = smeltF ns (mxM (zI h) dd) p kn 0 := fun dd hdd p => smeltF_congr (fun s hs => by rw [mxM_pln hI.2.1.1 (by omega)]; exact rl.2.2.2.1 dd s hdd hs)
  refine pair_ro hOK R ?_ (fun h1 k => ?_)
  · refine cn_X9_letter (sg_X9_letter_0 S1 ⟨_, X9_has_yes (k := 1) S1 (by decide) t1 hd (by omega), ?_⟩)
    rintro v h2 ⟨rfl, rfl⟩
    refine ⟨S1, fun c => absurd c n10, fun _ => ⟨_, X9_has_yes (k := 3) S1 (by decide) t3 hm (by omega), ?_⟩⟩
    rintro v h2' ⟨rfl, rfl⟩
    refine ⟨S1, fun c => absurd c n10, fun _ => ⟨fun c => absurd c y0, fun _ => ⟨fun _ => ⟨_, X9_keenNow_ok S1 (by omega) er' (by omega) hlw, ?_⟩, fun c => absurd y1 c⟩⟩⟩
    rintro v h12 ⟨rfl, zz⟩
    have S4 := S1.F zz
    have e12 : zI h12 = zI h2' := zz.2.2
    have ek : keenF (zI h2') 48 t m r = kn := (eq_keen rl w1 ep hm).trans ekn.symm
    rw [ek]
    have row : ∀ dd, dd < nd → zO h12 (t + 9 + 1 + dd) 100 ∧ zLen h12 (t + 9 + 1 + dd) = 6 := fun dd hdd => by
      have hrow := zS_trow S4 S4.2.1 9 8 6 rfl rfl rfl (zin_n (show dd < 8 by omega) (by decide))
      rw [zcla (show dd < 2 ^ 31 by omega)] at hrow
      exact hrow.2
    rw [zcla (show dy < 2 ^ 31 by omega), ← epp]
    refine ⟨S4, zin_n (by omega) (by decide), _, X7_smelt_ok S4 S4.2.1 (by rw [e12]; exact t0) h6 (row dy hd).1 (row dy hd).2 _ _ _, ?_⟩
    rintro v h16 ⟨rfl, rfl⟩
    refine ⟨S4, ?_⟩
    rw [e12, rowE dy hd, ← hits]
    have loop : ∀ n j, n + j = nd → fndD g its n j = R → zg G mX9_letter (d + 200) 68 [.ref 0, .int (nI dy), .int (nI m), .int z, .int kn, .int its, .int (nI j)] [] h16 (zPI (fun v h1 => v = R ∧ cR h2' h1)) := by
      intro n
      induction n with
      | zero =>
        intro j hj e
        refine sg_X9_letter_68 S4 ?_
        rw [e12, t1]
        exact ⟨fun _ => ⟨e, zz.k⟩, fun c => absurd (nI_le (by omega) (by omega)) c⟩
      | succ n ih =>
        intro j hj e
        rw [fndD] at e
        refine sg_X9_letter_68 S4 ?_
        rw [e12, t1, zcla (show j < 2 ^ 31 by omega), nI_1]
        refine ⟨fun c => absurd c (nI_ge (by omega) (by omega)), fun _ => ⟨zin_n (by omega) (by decide), _, X7_smelt_ok S4 S4.2.1 (by rw [e12]; exact t0) h6 (row j (by omega)).1 (row j (by omega)).2 _ _ _, ?_⟩⟩
        rintro v h17 ⟨rfl, rfl⟩
        rw [e12, rowE j (by omega)]
        have eg : smeltF ns (mxM (zI h2') j) 100 kn 0 = g j := by rw [hg]
        rw [eg]
        refine ⟨S4, fun c => ih (j + 1) (by omega) ?_, fun c => ⟨?_, zz.k⟩⟩
        · rw [if_neg c] at e; exact e
        · rw [if_pos c] at e; exact e
    exact loop nd 0 (by omega) hR.symm
  · obtain ⟨S3, I3⟩ := P h1 k
    refine cn_X10_letter (sg_X10_letter_0 (S2.W k.1) ⟨_, X10_isDay_yes S3 I3.1.2.1.2.1 hd (by omega), ?_⟩)
    rintro v h2 ⟨rfl, rfl⟩
    refine ⟨S3, fun c => absurd c n10, fun _ => ⟨_, X10_isMonk_yes S3 I3.1.2.1.2.2.2.1 hm (by omega), ?_⟩⟩
    rintro v h2' ⟨rfl, rfl⟩
    obtain ⟨b1, b2, b3, b4, b5, b6, b7, b8, b9, b10, b11, b12, -⟩ := I3.1.2.1
    refine ⟨S3, fun c => absurd c n10, fun _ => ⟨fun c => absurd c y0, fun _ => ⟨fun _ => ⟨_, X10_keenOf_ok (a := 0) (r := r) S3 b9 (by decide) (show m < 5 by omega) (by rw [Nat.mul_zero, Nat.zero_add, k.eT.1 159 (by decide)]; exact er) (by omega), ?_⟩, fun c => absurd y1 c⟩⟩⟩
    rintro v h4 ⟨rfl, z1, z2⟩
    have S4 := S3.W z1
    have jr := (jR.thr h1).mE z1 z2
    have emx : ∀ dd s, mxM (zI h4) dd s = mxM (zI h) dd s := fun dd s => by rw [mxM_E z2, k.eT.mx]
    have hp4 : plOK (zI h4) := by unfold plOK; rw [z2.2 50 (by decide)]; exact b10
    have n0 : zI h4 134 0 = nI ns := by rw [z2.1 134 (by decide)]; exact b1
    have n1 : zI h4 134 1 = nI nd := by rw [z2.1 134 (by decide)]; exact b2
    rw [k.eT.ke, ← ekn]
    refine ⟨S4, ?_⟩
    obtain ⟨Q, hQ⟩ : ∃ Q : Int32 → zMem → Prop, Q = (fun v h2 => v = R ∧ jR h1 h2) := ⟨_, rfl⟩
    rw [← hQ]
    have inner : ∀ (dd : Nat), dd < nd → (¬ g dd = its → zg G mX10_letter (d + 200) 103 [.ref 132, .int (nI dy), .int (nI m), .int z, .int kn, .int its, .int (nI (dd + 1)), zU, zU] [] h4 (zPI Q)) → (g dd = its → Q (nI dd) h4) → ∀ n s, n + s = ns → zg G mX10_letter (d + 200) 120 [.ref 132, .int (nI dy), .int (nI m), .int z, .int kn, .int its, .int (nI dd), .int (bitsF (mxM (zI h) dd) 100 kn s), .int (nI s)] [] h4 (zPI Q) := by
      intro dd hdd K1 K2 n
      induction n with
      | zero =>
        intro s hs
        have eg : bitsF (mxM (zI h) dd) 100 kn s = g dd := by rw [hg, show s = ns by omega]; exact (smelt0 _ _ _ _).symm
        refine sg_X10_letter_120 S4 ?_
        rw [n0, eg, nI_1]
        exact ⟨fun _ => ⟨K1, K2⟩, fun c => absurd (nI_le (by omega) (by omega)) c⟩
      | succ n ih =>
        intro s hs
        refine sg_X10_letter_120 S4 ?_
        rw [n0]
        simp only [nI_1]
        refine ⟨fun c => absurd c (nI_ge (by omega) (by omega)), fun _ => ⟨_, X10_mixOf_ok S4 hp4 (show dd < 16 by omega) (show s < 6 by omega), ?_⟩⟩
        rintro v h5 ⟨rfl, rfl⟩
        rw [emx]
        have nx := ih (s + 1) (by omega)
        obtain ⟨w, w99, ew⟩ := h99 dd s hdd (by omega)
        have a100 : mxM (zI h) dd s * 100 / 100 = mxM (zI h) dd s := by rw [mxM_pln hI.2.1.1 (by omega), ew]; exact ar100 (by omega)
        rw [bitsF, a100] at nx
        refine ⟨S4, fun c => ?_, fun c => ?_⟩
        · rw [if_pos c] at nx; rw [or_0]; exact nx
        · rw [if_neg c] at nx; exact nx
    have outer : ∀ n dd, n + dd = nd → fndD g its n dd = R → zg G mX10_letter (d + 200) 103 [.ref 132, .int (nI dy), .int (nI m), .int z, .int kn, .int its, .int (nI dd), zU, zU] [] h4 (zPI Q) := by
      intro n
      induction n with
      | zero =>
        intro dd hk e
        refine sg_X10_letter_103 S4 ?_
        rw [n1, hQ]
        exact ⟨fun _ => ⟨e, jr⟩, fun c => absurd (nI_le (by omega) (by omega)) c⟩
      | succ n ih =>
        intro dd hk e
        rw [fndD] at e
        refine sg_X10_letter_103 S4 ?_
        rw [n1]
        refine ⟨fun c => absurd c (nI_ge (by omega) (by omega)), fun _ => inner dd (by omega) (fun c => ih (dd + 1) (by omega) ?_) (fun c => ?_) ns 0 (by omega)⟩
        · rw [if_neg c] at e; exact e
        · rw [if_pos c] at e; rw [hQ]; exact ⟨e, jr⟩
    have l47 : ∀ n s, n + s = ns → zg G mX10_letter (d + 200) 47 [.ref 132, .int (nI dy), .int (nI m), .int z, .int kn, .int (bitsF (mxM (zI h) dy) pp kn s), .int (nI s), zU, zU] [] h4 (zPI Q) := by
      intro n
      induction n with
      | zero =>
        intro s hs
        have eg : bitsF (mxM (zI h) dy) pp kn s = its := by rw [hits, show s = ns by omega]; exact (smelt0 _ _ _ _).symm
        refine sg_X10_letter_47 S4 ?_
        rw [n0, eg]
        exact ⟨fun _ => outer nd 0 (by omega) hR.symm, fun c => absurd (nI_le (by omega) (by omega)) c⟩
      | succ n ih =>
        intro s hs
        refine sg_X10_letter_47 S4 ?_
        rw [n0, ← epp, nI_1]
        refine ⟨fun c => absurd c (nI_ge (by omega) (by omega)), fun _ => ⟨_, X10_mixOf_ok S4 hp4 (show dy < 16 by omega) (show s < 6 by omega), ?_⟩⟩
        rintro v h5 ⟨rfl, rfl⟩
        rw [emx]
        have nx := ih (s + 1) (by omega)
        rw [bitsF] at nx
        refine ⟨S4, fun c => ?_, fun c => ?_⟩
        · rw [if_pos c] at nx; rw [or_0]; exact nx
        · rw [if_neg c] at nx; exact nx
    exact l47 ns 0 (by omega)
