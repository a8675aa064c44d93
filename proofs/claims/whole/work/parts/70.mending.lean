/-! what mends it: class and model -/
theorem mdBits {f : Nat → Int32} {p kn C : Int32} {ns s q a pv : Nat} (h6 : ns ≤ 6) (hs : s < ns) (ef : f s = nI a) (ha : a ≤ 99) (ep : p = nI pv) (hp : pv ≤ 100) (hq : q ≤ 99) :
    smeltF ns (fun s' => if s' = s then f s' + nI q else f s') p kn C = smeltF ns f p kn C ↔ mdD f p kn C s q = false := by
  have mono : ¬ f s * p / 100 < kn → ¬ (f s + nI q) * p / 100 < kn := by
    intro h1 h2
    apply h1
    rw [ef, ep] at *
    rw [nI_add, pk_mul, div100 (by have := Nat.mul_le_mul (show a + q ≤ 198 by omega) hp; omega)] at h2
    rw [pk_mul, div100 (by have := Nat.mul_le_mul ha hp; omega)]
    have : a * pv / 100 ≤ (a + q) * pv / 100 := Nat.div_le_div_right (Nat.mul_le_mul_right _ (by omega))
    have b : (a + q) * pv / 100 < 2 ^ 31 := Nat.lt_of_le_of_lt (Nat.div_le_self _ _) (by have := Nat.mul_le_mul (show a + q ≤ 198 by omega) hp; omega)
    have := Int32.le_iff_toInt_le.mp (nI_le this b)
    have := Int32.lt_iff_toInt_lt.mp h2
    exact Int32.lt_iff_toInt_lt.mpr (by omega)
  constructor
  · intro e
    have e1 := congrArg (fun x : Int32 => x.toBitVec.getLsbD s) e
    rw [smelt_bit (by omega) h6, smelt_bit (by omega) h6, if_pos rfl, decide_eq_true hs] at e1
    unfold mdD
    by_cases c : f s * p / 100 < kn
    · rw [decide_eq_true c] at e1 ⊢
      by_cases c2 : (f s + nI q) * p / 100 < kn
      · rw [decide_eq_true c2]; simp
      · rw [decide_eq_false c2] at e1 ⊢
        simpa using e1
    · rw [decide_eq_false c]; simp
  · intro e
    refine i32_ext (fun k hk => ?_)
    rw [smelt_bit hk h6, smelt_bit hk h6]
    by_cases ek : k = s
    · subst ek
      rw [if_pos rfl, decide_eq_true hs]
      unfold mdD at e
      by_cases c : f k * p / 100 < kn
      · rw [decide_eq_true c] at e ⊢
        by_cases c2 : (f k + nI q) * p / 100 < kn
        · rw [decide_eq_true c2]
        · rw [decide_eq_false c2] at e ⊢
          simpa using e
      · rw [decide_eq_false c, decide_eq_false (mono c)]
    · rw [if_neg ek]
set_option maxHeartbeats 2000000 in
theorem mdMk {I I4 : Nat → Nat → Int32} {L s q ns m r dy : Nat} (h48 : I 132 48 = 0) (h50 : I 132 50 = -1) (hA : ∀ c, 133 ≤ c → I4 c = I c) (hB : ∀ k, k ≠ 0 → k ≠ 33 → k ≠ 52 → k ≠ 53 → k ≠ 54 → I4 132 k = I 132 k) (hC : I4 132 52 = nI L) (h53 : I4 132 53 = nI s) (h54 : I4 132 54 = nI q) (hL : L < 8) (hs : s < 6) (hd : dy < 8) (h6 : ns ≤ 6) :
    mkM I4 ns 0 m r dy = smeltF ns (fun s' => if dy = L then (if s' = s then I 139 (6 * dy + s') + nI q else I 139 (6 * dy + s')) else I 139 (6 * dy + s')) (I 141 r) (keF I 0 m r) (I 160 m) := by
  have e48 : I4 132 48 = 0 := by rw [hB 48 (by decide) (by decide) (by decide) (by decide) (by decide)]; exact h48
  have e50 : I4 132 50 = -1 := by rw [hB 50 (by decide) (by decide) (by decide) (by decide) (by decide)]; exact h50
  unfold mkM
  have e1 : ptM I4 r = I 141 r := by unfold ptM; rw [e48, hA 141 (by decide)]; rfl
  have e2 : cdM I4 0 m = I 160 m := by unfold cdM; rw [e48, hA 160 (by decide), Nat.mul_zero, Nat.zero_add]; rfl
  have e3 : keF I4 0 m r = keF I 0 m r := keF_C (hA 151 (by decide)) (hA 144 (by decide)) (hA 141 (by decide)) (hA 145 (by decide)) (hA 146 (by decide)) (hA 147 (by decide)) (hA 148 (by decide)) (e48.trans h48.symm) 0 m r
  rw [e1, e2, e3]
  refine smeltF_congr (fun s' hs' => ?_)
  unfold mxM mxC mxB
  rw [e50, hC, h53, h54, hA 139 (by decide)]
  simp only [if_true]
  by_cases c : dy = L
  · rw [if_pos c, if_pos (by rw [c])]
    by_cases c2 : s' = s
    · rw [if_pos c2, if_pos (by rw [c2])]
    · rw [if_neg c2, if_neg (fun q => c2 (nI_inj (by omega) (by omega) q))]
  · rw [if_neg c, if_neg (fun q => c (nI_inj (by omega) (by omega) q))]
theorem nI_m1' (k : Nat) : nI k + (-1) = nI k - 1 := by rw [Int32.sub_eq_add_neg]
set_option maxHeartbeats 8000000 in
theorem pr_mending {G : zG} {d : Nat} {h : zMem} (hOK : zOK h) (x y z w : Int32) : pairI G mX9_mending mX10_mending (d + 200) [.ref 0, .int x, .int y, .int z, .int w] [.ref 132, .int x, .int y, .int z, .int w] h := by
  have hOK' := hOK
  obtain ⟨t, ns, nd, nr, nm, dt, u, nn, tp, S1, S2, -, hI⟩ := hOK'
  obtain ⟨td, md, rl, h99, -⟩ := hI.1
  obtain ⟨t0, t1, t2, t3, h6, h8, h6r, h5, hlw⟩ := td
  obtain ⟨w1, w2, w3, w4, w5, w6, w7, w8⟩ := now0 hI.2.2.1.1
  have htn : t = 8 ∨ t = 103 := S1.2.1
  have P : ∀ h1, cR h h1 → zSh2 (zsI h1 132 0 0) ∧ zInv (zI (zsI h1 132 0 0)) t ns nd nr nm dt u nn tp := fun h1 k => ⟨S2.W k.thr.1, zInv_j S1.2.1 hI k.thr.2⟩
  rcases ix_or x (n := nm) (by omega) with q | ⟨m, hm, rfl⟩
  · refine pair_ro hOK (-1) ?_ (fun h1 k => ?_)
    · refine cn_X9_mending (sg_X9_mending_0 S1 ⟨_, X9_has_no (k := 3) S1 (by decide) t3 q, ?_⟩)
      rintro v h2 ⟨rfl, rfl⟩
      exact ⟨S1, fun _ => ⟨rfl, cR.rf _⟩, fun c => absurd rfl c⟩
    · obtain ⟨S3, I3⟩ := P h1 k
      refine cn_X10_mending (sg_X10_mending_0 (S2.W k.1) ⟨_, X10_isMonk_no S3 I3.1.2.1.2.2.2.1 q, ?_⟩)
      rintro v h2 ⟨rfl, rfl⟩
      exact ⟨S3, fun _ => ⟨rfl, jR.thr h1⟩, fun c => absurd rfl c⟩
  rcases ix_or y (n := nd) (by omega) with q | ⟨one, h1d, rfl⟩
  · refine pair_ro hOK (-1) ?_ (fun h1 k => ?_)
    · refine cn_X9_mending (sg_X9_mending_0 S1 ⟨_, X9_has_yes (k := 3) S1 (by decide) t3 hm (by omega), ?_⟩)
      rintro v h2 ⟨rfl, rfl⟩
      refine ⟨S1, fun c => absurd c n10, fun _ => ⟨_, X9_has_no (k := 1) S1 (by decide) t1 q, ?_⟩⟩
      rintro v h2' ⟨rfl, rfl⟩
      exact ⟨S1, fun _ => ⟨rfl, cR.rf _⟩, fun c => absurd rfl c⟩
    · obtain ⟨S3, I3⟩ := P h1 k
      refine cn_X10_mending (sg_X10_mending_0 (S2.W k.1) ⟨_, X10_isMonk_yes S3 I3.1.2.1.2.2.2.1 hm (by omega), ?_⟩)
      rintro v h2 ⟨rfl, rfl⟩
      refine ⟨S3, fun c => absurd c n10, fun _ => ⟨_, X10_isDay_no S3 I3.1.2.1.2.1 q, ?_⟩⟩
      rintro v h2' ⟨rfl, rfl⟩
      exact ⟨S3, fun _ => ⟨rfl, jR.thr h1⟩, fun c => absurd rfl c⟩
  rcases ix_or z (n := nd) (by omega) with q | ⟨other, h2d, rfl⟩
  · refine pair_ro hOK (-1) ?_ (fun h1 k => ?_)
    · refine cn_X9_mending (sg_X9_mending_0 S1 ⟨_, X9_has_yes (k := 3) S1 (by decide) t3 hm (by omega), ?_⟩)
      rintro v h2 ⟨rfl, rfl⟩
      refine ⟨S1, fun c => absurd c n10, fun _ => ⟨_, X9_has_yes (k := 1) S1 (by decide) t1 h1d (by omega), ?_⟩⟩
      rintro v h2' ⟨rfl, rfl⟩
      refine ⟨S1, fun c => absurd c n10, fun _ => ⟨_, X9_has_no (k := 1) S1 (by decide) t1 q, ?_⟩⟩
      rintro v h2' ⟨rfl, rfl⟩
      exact ⟨S1, fun _ => ⟨rfl, cR.rf _⟩, fun c => absurd rfl c⟩
    · obtain ⟨S3, I3⟩ := P h1 k
      refine cn_X10_mending (sg_X10_mending_0 (S2.W k.1) ⟨_, X10_isMonk_yes S3 I3.1.2.1.2.2.2.1 hm (by omega), ?_⟩)
      rintro v h2 ⟨rfl, rfl⟩
      refine ⟨S3, fun c => absurd c n10, fun _ => ⟨_, X10_isDay_yes S3 I3.1.2.1.2.1 h1d (by omega), ?_⟩⟩
      rintro v h2' ⟨rfl, rfl⟩
      refine ⟨S3, fun c => absurd c n10, fun _ => ⟨_, X10_isDay_no S3 I3.1.2.1.2.1 q, ?_⟩⟩
      rintro v h2' ⟨rfl, rfl⟩
      exact ⟨S3, fun _ => ⟨rfl, jR.thr h1⟩, fun c => absurd rfl c⟩
  by_cases yb : one = other ∨ w < 0 ∨ ¬ w ≤ 1
  · have yb' : ¬ nI one = nI other → (¬ w < 0 → ¬ w ≤ 1) := fun c c2 => by
      rcases yb with q | q | q
      · exact absurd (by rw [q]) c
      · exact absurd q c2
      · exact q
    refine pair_ro hOK (-1) ?_ (fun h1 k => ?_)
    · refine cn_X9_mending (sg_X9_mending_0 S1 ⟨_, X9_has_yes (k := 3) S1 (by decide) t3 hm (by omega), ?_⟩)
      rintro v h2 ⟨rfl, rfl⟩
      refine ⟨S1, fun c => absurd c n10, fun _ => ⟨_, X9_has_yes (k := 1) S1 (by decide) t1 h1d (by omega), ?_⟩⟩
      rintro v h2' ⟨rfl, rfl⟩
      refine ⟨S1, fun c => absurd c n10, fun _ => ⟨_, X9_has_yes (k := 1) S1 (by decide) t1 h2d (by omega), ?_⟩⟩
      rintro v h2' ⟨rfl, rfl⟩
      exact ⟨S1, fun _ => ⟨rfl, cR.rf _⟩, fun _ => ⟨fun _ => ⟨rfl, cR.rf _⟩, fun c => ⟨fun _ => ⟨rfl, cR.rf _⟩, fun c2 => ⟨fun c3 => absurd c3 (yb' c c2), fun _ => ⟨rfl, cR.rf _⟩⟩⟩⟩⟩
    · obtain ⟨S3, I3⟩ := P h1 k
      refine cn_X10_mending (sg_X10_mending_0 (S2.W k.1) ⟨_, X10_isMonk_yes S3 I3.1.2.1.2.2.2.1 hm (by omega), ?_⟩)
      rintro v h2 ⟨rfl, rfl⟩
      refine ⟨S3, fun c => absurd c n10, fun _ => ⟨_, X10_isDay_yes S3 I3.1.2.1.2.1 h1d (by omega), ?_⟩⟩
      rintro v h2' ⟨rfl, rfl⟩
      refine ⟨S3, fun c => absurd c n10, fun _ => ⟨_, X10_isDay_yes S3 I3.1.2.1.2.1 h2d (by omega), ?_⟩⟩
      rintro v h2' ⟨rfl, rfl⟩
      exact ⟨S3, fun _ => ⟨rfl, jR.thr h1⟩, fun _ => ⟨fun _ => ⟨rfl, jR.thr h1⟩, fun c => ⟨fun _ => ⟨rfl, jR.thr h1⟩, fun c2 => ⟨fun c3 => absurd c3 (yb' c c2), fun _ => ⟨rfl, jR.thr h1⟩⟩⟩⟩⟩
  have hno : one ≠ other := fun c => yb (Or.inl c)
  have hno' : ¬ nI one = nI other := fun q => hno (nI_inj (by omega) (by omega) q)
  have y0 : ¬ w < 0 := fun c => yb (Or.inr (Or.inl c))
  have y1 : w ≤ 1 := Classical.byContradiction fun c => yb (Or.inr (Or.inr c))
  obtain ⟨r, hr, er⟩ := (ab0 hI.2.2.1.2.1).1 m hm
  have er' : zI h 59 m = nI r := (w8 m hm).1.trans er
  have ep : zI h (48 + 3) r = ptM (zI h) r := by unfold ptM; rw [hI.2.1.2]; exact w6 r hr
  obtain ⟨kn, ekn⟩ : ∃ kn, kn = keF (zI h) 0 m r := ⟨_, rfl⟩
  have ek : keenF (zI h) 48 t m r = kn := (eq_keen rl w1 ep hm).trans ekn.symm
  obtain ⟨L, hL⟩ : ∃ L, L = if one < other then other else one := ⟨_, rfl⟩
  have L2 : L = one ∨ L = other := by rw [hL]; split <;> omega
  have Ln : L < nd := by omega
  have eL : (if nI one < nI other then nI other else nI one) = nI L := by
    rw [hL]
    by_cases c : one < other
    · rw [if_pos c, if_pos (nI_lt c (by omega))]
    · rw [if_neg c, if_neg (nI_nlt (by omega) (by omega))]
  obtain ⟨D, hD⟩ : ∃ D, D = mdD (fun s => zI h 139 (6 * L + s)) (zI h 141 r) kn (zI h 160 m) := ⟨_, rfl⟩
  obtain ⟨R, hR⟩ : ∃ R, R = (if mkM (zI h) ns 0 m r one = mkM (zI h) ns 0 m r other then rsC w (mnC (fun s => moF (D s) 99 1) ns 0 (-2) 100) else -3) := ⟨_, rfl⟩
  refine pair_ro2 hOK R ?_ (fun h1 k => ?_)
  · refine cn_X9_mending (sg_X9_mending_0 S1 ⟨_, X9_has_yes (k := 3) S1 (by decide) t3 hm (by omega), ?_⟩)
    rintro v h2 ⟨rfl, rfl⟩
    refine ⟨S1, fun c => absurd c n10, fun _ => ⟨_, X9_has_yes (k := 1) S1 (by decide) t1 h1d (by omega), ?_⟩⟩
    rintro v h2' ⟨rfl, rfl⟩
    refine ⟨S1, fun c => absurd c n10, fun _ => ⟨_, X9_has_yes (k := 1) S1 (by decide) t1 h2d (by omega), ?_⟩⟩
    rintro v h3 ⟨rfl, rfl⟩
    refine ⟨S1, fun c => absurd c n10, fun _ => ⟨fun c => absurd c hno', fun _ => ⟨fun c => absurd c y0, fun _ => ⟨fun _ => ⟨_, X9_keenNow_ok S1 (by omega) er' (by omega) hlw, ?_⟩, fun c => absurd y1 c⟩⟩⟩⟩
    rintro v h12 ⟨rfl, zz⟩
    have S4 := S1.F zz
    have e12 : zI h12 = zI h3 := zz.2.2
    rw [ek]
    refine ⟨S4, _, X5_markOf_ok (b := 48) (ns := ns) (r := r) S4 (Or.inl rfl) S4.2.1 (by rw [e12]; exact t0) h6 (show m < 5 by omega) (show one < 8 by omega) (by rw [e12]; exact er') (by omega) _, ?_⟩
    rintro v h16 ⟨rfl, rfl⟩
    refine ⟨S4, _, X5_markOf_ok (b := 48) (ns := ns) (r := r) S4 (Or.inl rfl) S4.2.1 (by rw [e12]; exact t0) h6 (show m < 5 by omega) (show other < 8 by omega) (by rw [e12]; exact er') (by omega) _, ?_⟩
    rintro v h17 ⟨rfl, rfl⟩
    have mk1 := mk_eq hI hm hr h1d
    have mk2 := mk_eq hI hm hr h2d
    rw [ek] at mk1 mk2
    rw [e12, mk1, mk2]
    refine ⟨S4, fun c => ?_, fun c => ⟨by rw [hR, if_neg c], zz.k⟩⟩
    rw [if_pos c] at hR
    rw [eL]
    have mo : ∀ s, s < ns → zConI G mX9_moreThatIsSmelled (d + 199) [.ref 0, .int (nI m), .int (nI L), .int (nI s), .int kn] h17 (fun v h' => v = nI (moF (D s) 99 1) ∧ h' = h17) := fun s hs => by
      have := X9_moreThatIsSmelled_ok (G := G) (d := d + 199) (r := r) S4 (show m < 5 by omega) (by rw [e12]; exact er') (by omega) (show L < 8 by omega) (show s < 6 by omega) kn
      have e1 : mdD (zI h17 (t + 9 + 1 + L)) (zI h17 51 r) kn (zI h17 60 m) s = D s := by
        funext q
        rw [hD, e12, w6 r hr, (w8 m hm).2.1]
        unfold mdD
        rw [rl.2.2.2.1 L s Ln hs]
      rw [e1] at this
      exact this
    have loop : ∀ n s b l, n + s = ns → l ≤ 100 → mnC (fun s => moF (D s) 99 1) n s b l = mnC (fun s => moF (D s) 99 1) ns 0 (-2) 100 → zg G mX9_mending (d + 200) 106 [.ref 0, .int (nI m), .int (nI one), .int (nI other), .int w, .int kn, .int (nI L), .int b, .int (nI l), .int (nI s), zU] [] h17 (zPI (fun v h1 => v = R ∧ cR h3 h1)) := by
      intro n
      induction n with
      | zero =>
        intro s b l hs hl e
        refine sg_X9_mending_106 S4 ?_
        rw [e12, t0, hR, ← e]
        refine ⟨fun _ => ⟨fun c => ⟨?_, zz.k⟩, fun c => ⟨fun c2 => ⟨?_, zz.k⟩, fun c2 => ⟨?_, zz.k⟩⟩⟩, fun c => absurd (nI_le (by omega) (by omega)) c⟩
        · unfold rsC; rw [if_pos c]; rfl
        · unfold rsC; rw [if_neg c]; exact (if_neg c2).symm
        · unfold rsC; rw [if_neg c]; exact (if_pos c2).symm
      | succ n ih =>
        intro s b l hs hl e
        rw [mnC] at e
        have c100 : moF (D s) 99 1 ≤ 100 := by
          rcases moF_spec (D := D s) 99 1 with ⟨a, -⟩ | ⟨-, a, -⟩ <;> omega
        refine sg_X9_mending_106 S4 ?_
        rw [e12, t0, nI_1]
        refine ⟨fun c => absurd c (nI_ge (by omega) (by omega)), fun _ => ⟨_, mo s (by omega), ?_⟩⟩
        rintro v h18 ⟨rfl, rfl⟩
        refine ⟨S4, fun c => ih (s + 1) b l (by omega) hl ?_, fun c => ih (s + 1) _ _ (by omega) c100 ?_⟩
        · rw [if_pos ((nI_leI (by omega) (by omega)).mp c)] at e; exact e
        · rw [if_neg (fun q => c ((nI_leI (by omega) (by omega)).mpr q))] at e; exact e
    exact loop ns 0 (-2) 100 (by omega) (by omega) rfl
  · obtain ⟨S3, I3⟩ := P h1 k
    refine cn_X10_mending (sg_X10_mending_0 (S2.W k.1) ⟨_, X10_isMonk_yes S3 I3.1.2.1.2.2.2.1 hm (by omega), ?_⟩)
    rintro v h2 ⟨rfl, rfl⟩
    refine ⟨S3, fun c => absurd c n10, fun _ => ⟨_, X10_isDay_yes S3 I3.1.2.1.2.1 h1d (by omega), ?_⟩⟩
    rintro v h2' ⟨rfl, rfl⟩
    refine ⟨S3, fun c => absurd c n10, fun _ => ⟨_, X10_isDay_yes S3 I3.1.2.1.2.1 h2d (by omega), ?_⟩⟩
    rintro v h2' ⟨rfl, rfl⟩
    have mark : ∀ (h4 : zMem), zSh2 h4 → mdOK (zI h4) ns nd nr nm → zI h4 159 m = nI r → ∀ dy, dy < nd → zConI G mX10_markOf (d + 199) [.ref 132, .int 0, .int (nI m), .int (nI dy)] h4 (fun v h' => v = mkM (zI h4) ns 0 m r dy ∧ zW h4 h' ∧ mE (zI h4) (zI h')) := by
      intro h4 s4 m4 r4 dy hdy
      obtain ⟨b1, b2, b3, b4, b5, b6, b7, b8, b9, b10, b11, b12, -⟩ := m4
      exact X10_markOf_ok (a := 0) (r := r) s4 b9 b10 b1 h6 (show dy < 16 by omega) (by decide) (show m < 5 by omega) (by rw [Nat.mul_zero, Nat.zero_add]; exact r4) (by omega) (b11 m hm) (fun s hs => b12 dy s hdy hs)
    refine ⟨S3, fun c => absurd c n10, fun _ => ⟨fun c => absurd c hno', fun _ => ⟨fun c => absurd c y0, fun _ => ⟨fun _ => ⟨_, mark _ S3 I3.1.2.1 (by rw [k.eT.1 159 (by decide)]; exact er) one h1d, ?_⟩, fun c => absurd y1 c⟩⟩⟩⟩
    rintro v h4 ⟨rfl, z1, z2⟩
    have S4 := S3.W z1
    refine ⟨S4, _, mark _ S4 (z2.five.md I3.1.2.1) (by rw [z2.1 159 (by decide), k.eT.1 159 (by decide)]; exact er) other h2d, ?_⟩
    rintro v h5' ⟨rfl, z3, z4⟩
    have S5 := S4.W z3
    rw [k.eT.mk, mkM_E z2, k.eT.mk]
    have Z1 := z1.trans z3
    have Z2 := z2.trans z4
    refine ⟨S5, fun c => ?_, fun c => ⟨by rw [hR, if_neg c], ((jR.thr h1).mE Z1 Z2).two⟩⟩
    rw [if_pos c, mend_eq D h6] at hR
    rw [eL]
    -- what holds in the loop
    have inv : ∀ (h4 : zMem) (q : Nat), Prop := fun h4 q => zW h1 h4 ∧ (∀ c, c < 132 → zI h4 c = zI h1 c) ∧ (∀ c, 133 ≤ c → zI h4 c = zI h c) ∧ (∀ k, k ≠ 0 → k ≠ 33 → k ≠ 52 → k ≠ 53 → k ≠ 54 → zI h4 132 k = zI h 132 k) ∧ zI h4 132 52 = nI L ∧ zI h4 132 54 = nI q
    obtain ⟨iv, hiv⟩ : ∃ iv : zMem → Nat → Prop, iv = fun h4 q => zW h1 h4 ∧ (∀ c, c < 132 → zI h4 c = zI h1 c) ∧ (∀ c, 133 ≤ c → zI h4 c = zI h c) ∧ (∀ k, k ≠ 0 → k ≠ 33 → k ≠ 52 → k ≠ 53 → k ≠ 54 → zI h4 132 k = zI h 132 k) ∧ zI h4 132 52 = nI L ∧ zI h4 132 54 = nI q := ⟨_, rfl⟩
    have exit84 : ∀ (h4 : zMem) (q : Nat), iv h4 q → ∀ v, v = R → (v = R ∧ jR2 h1 (zsI (zsI (zsI h4 132 52 (-1)) 132 53 (-1)) 132 54 0)) := by
      intro h4 q i v e
      rw [hiv] at i
      obtain ⟨i1, i2, i3, i4, i5, i6⟩ := i
      refine ⟨e, ((i1.sI _ _ _).sI _ _ _).sI _ _ _, fun c j n1 n2 => ?_⟩
      simp only [zI_sI]
      by_cases ec : c = 132
      · subst ec
        have j53 : j ≠ 53 := fun e => n2 ⟨rfl, by omega⟩
        have j54 : j ≠ 54 := fun e => n2 ⟨rfl, by omega⟩
        have j0 : j ≠ 0 := fun e => n1 (by unfold jkP; omega)
        have j33 : j ≠ 33 := fun e => n1 (by unfold jkP; omega)
        rw [zup_i _ _ _ j54, zup_i _ _ _ j53]
        by_cases j52 : j = 52
        · subst j52; rw [zup_s, k.2.2 132 (by decide), hI.2.1.1.2]
        · rw [zup_i _ _ _ j52, i4 j j0 j33 j52 j53 j54, k.2.2 132 (by decide)]
      · rw [zup_ne _ _ ec, zup_ne _ _ ec, zup_ne _ _ ec]
        rcases Nat.lt_or_ge c 132 with hc | hc
        · rw [i2 c hc]
        · rw [i3 c (by omega), k.2.2 c (by omega)]
    -- a try: is it told apart?
    have try1 : ∀ (h4 : zMem) (q s : Nat), iv h4 q → zI h4 132 53 = nI s → q ≤ 99 → s < ns → mdOK (zI h4) ns nd nr nm ∧ (mkM (zI h4) ns 0 m r one = mkM (zI h4) ns 0 m r other ↔ D s q = false) := by
      intro h4 q s i e53 hq hs
      rw [hiv] at i
      obtain ⟨i1, i2, i3, i4, i5, i6⟩ := i
      have e50 : zI h4 132 50 = -1 := by rw [i4 50 (by decide) (by decide) (by decide) (by decide) (by decide)]; exact hI.2.1.1.1
      have mk := fun dy (hdy : dy < nd) => mdMk (ns := ns) (m := m) (r := r) (dy := dy) (q := q) (s := s) hI.2.1.2 hI.2.1.1.1 i3 i4 i5 e53 i6 (by omega) (by omega) (by omega) h6
      have mk0 := fun dy (hdy : dy < nd) (hn : ¬ dy = L) => (mk dy hdy).trans (show _ = mkM (zI h) ns 0 m r dy by
        simp only [if_neg hn]
        unfold mkM
        have e1 : ptM (zI h) r = zI h 141 r := by unfold ptM; rw [hI.2.1.2]; rfl
        have e2 : cdM (zI h) 0 m = zI h 160 m := by unfold cdM; rw [hI.2.1.2, Nat.mul_zero, Nat.zero_add]; rfl
        rw [e1, e2]
        exact smeltF_congr (fun s' hs' => by rw [mxM_pln hI.2.1.1 (by omega)]))
      have mkL : mkM (zI h4) ns 0 m r L = smeltF ns (fun s' => if s' = s then zI h 139 (6 * L + s') + nI q else zI h 139 (6 * L + s')) (zI h 141 r) kn (zI h 160 m) := by
        have := mk L Ln
        simp only [if_true] at this
        rw [ekn]; exact this
      have mkL0 : mkM (zI h) ns 0 m r L = smeltF ns (fun s' => zI h 139 (6 * L + s')) (zI h 141 r) kn (zI h 160 m) := by
        unfold mkM
        have e1 : ptM (zI h) r = zI h 141 r := by unfold ptM; rw [hI.2.1.2]; rfl
        have e2 : cdM (zI h) 0 m = zI h 160 m := by unfold cdM; rw [hI.2.1.2, Nat.mul_zero, Nat.zero_add]; rfl
        rw [e1, e2, ← ekn]
        exact smeltF_congr (fun s' hs' => by rw [mxM_pln hI.2.1.1 (by omega)])
      obtain ⟨a, ha, ea⟩ := h99 L s Ln hs
      obtain ⟨pv, hpv, epv⟩ := md.2.2.2.2.2.2.2.2.2.2.2.2.2 r hr
      have key := mdBits (f := fun s' => zI h 139 (6 * L + s')) (p := zI h 141 r) (kn := kn) (C := zI h 160 m) (q := q) h6 hs ea ha epv hpv hq
      rw [← hD, ← mkL0] at key
      refine ⟨?_, ?_⟩
      · refine mdOK_E3 md (fun c hc => i3 c (by omega)) (Or.inl e50) (fun dy s' hd hs' => ?_)
        obtain ⟨n1, l1, o1⟩ := h99 dy s' hd hs'
        unfold mxM mxC mxB
        rw [e50, i5, i6, i3 139 (by decide), o1]
        simp only [if_true]
        split
        · split
          · rw [nI_add]; exact ⟨_, by omega, rfl⟩
          · exact ⟨_, by omega, rfl⟩
        · exact ⟨_, by omega, rfl⟩
      · rcases L2 with e | e
        · rw [← e, mkL, mk0 other h2d (by omega), ← c, ← e]; exact key
        · have hno2 : ¬ one = L := by omega
          rw [mk0 one h1d hno2, ← e, mkL, c, ← e]
          exact ⟨fun q => key.mp q.symm, fun q => (key.mpr q).symm⟩
    have l119 : ∀ (q : Nat), q ≤ 99 → ∀ W, (∀ h4, zSh2 h4 → iv h4 q → zg G mX10_mending (d + 200) 84 [.ref 132, .int (nI m), .int (nI one), .int (nI other), .int w, .int W, zU] [] h4 (zPI (fun v h2 => v = R ∧ jR2 h1 h2))) → ∀ n b h4, n ≤ ns → zSh2 h4 → iv h4 q → loF (fun s => D s q) n b = W → zg G mX10_mending (d + 200) 119 [.ref 132, .int (nI m), .int (nI one), .int (nI other), .int w, .int b, .int (nI n - 1)] [] h4 (zPI (fun v h2 => v = R ∧ jR2 h1 h2)) := by
      intro q hq W K n
      induction n with
      | zero =>
        intro b h4 hn s4 i e
        refine sg_X10_mending_119 s4 ⟨fun _ => ?_, fun c => absurd (show nI 0 - 1 < 0 by decide) c⟩
        rw [show b = W from e]
        exact K h4 s4 i
      | succ n ih =>
        intro b h4 hn s4 i e
        rw [loF] at e
        rw [nI_pred]
        have i' : iv (zsI h4 132 53 (nI n)) q := by
          rw [hiv] at i ⊢
          obtain ⟨i1, i2, i3, i4, i5, i6⟩ := i
          refine ⟨i1.sI _ _ _, fun c hc => ?_, fun c hc => ?_, fun j j0 j33 j52 j53 j54 => ?_, ?_, ?_⟩
          · rw [zI_sI, zup_ne _ _ (by omega)]; exact i2 c hc
          · rw [zI_sI, zup_ne _ _ (by omega)]; exact i3 c hc
          · rw [zI_sI, zup_i _ _ _ j53]; exact i4 j j0 j33 j52 j53 j54
          · rw [zI_sI, zup_i _ _ _ (by decide)]; exact i5
          · rw [zI_sI, zup_i _ _ _ (by decide)]; exact i6
        have s5 : zSh2 (zsI h4 132 53 (nI n)) := s4.W ((zW.rf h4).sI _ _ _)
        obtain ⟨M5, T5⟩ := try1 _ q n i' (by rw [zI_sI, zup_s]) hq (by omega)
        have r5 : zI (zsI h4 132 53 (nI n)) 159 m = nI r := by
          rw [hiv] at i'; rw [i'.2.2.1 159 (by decide)]; exact er
        have ivE : ∀ {h6 h7 : zMem}, iv h6 q → zW h6 h7 → mE (zI h6) (zI h7) → iv h7 q := by
          intro h6 h7 i w e
          rw [hiv] at i ⊢
          obtain ⟨i1, i2, i3, i4, i5, i6⟩ := i
          refine ⟨i1.trans w, fun c hc => ?_, fun c hc => ?_, fun j j0 j33 j52 j53 j54 => ?_, ?_, ?_⟩
          · rw [e.1 c (by omega)]; exact i2 c hc
          · rw [e.1 c (by omega)]; exact i3 c hc
          · rw [e.2 j j33]; exact i4 j j0 j33 j52 j53 j54
          · rw [e.2 52 (by decide)]; exact i5
          · rw [e.2 54 (by decide)]; exact i6
        refine sg_X10_mending_119 s4 ⟨fun c => absurd c (nI_pos (by omega)), fun _ => ⟨_, mark _ s5 M5 r5 one h1d, ?_⟩⟩
        rintro v h6 ⟨rfl, p1, p2⟩
        have s6 := s5.W p1
        refine ⟨s6, _, mark _ s6 (p2.five.md M5) (by rw [p2.1 159 (by decide)]; exact r5) other h2d, ?_⟩
        rintro v h7 ⟨rfl, p3, p4⟩
        rw [mkM_E p2]
        have i7 := ivE (ivE i' p1 p2) p3 p4
        rw [nI_m1']
        refine ⟨s6.W p3, fun c => ih b h7 (by omega) (s6.W p3) i7 ?_, fun c => ih (nI n) h7 (by omega) (s6.W p3) i7 ?_⟩
        · rw [show (if D n q = true then nI n else b) = b by rw [T5.mp c]; rfl] at e; exact e
        · have : D n q = true := by
            cases hh : D n q with
            | true => rfl
            | false => exact absurd (T5.mpr hh) c
          rw [this] at e; exact e
    have e84 : ∀ (h4 : zMem) (q : Nat) (b : Int32), zSh2 h4 → iv h4 q → q ≤ 99 → ¬ b = -1 → rsM w (b, q) = R → zg G mX10_mending (d + 200) 84 [.ref 132, .int (nI m), .int (nI one), .int (nI other), .int w, .int b, zU] [] h4 (zPI (fun v h2 => v = R ∧ jR2 h1 h2)) := by
      intro h4 q b s4 i hq hb e
      have i' := i
      rw [hiv] at i'
      have e54 := i'.2.2.2.2.2
      unfold rsM at e
      rw [if_neg hb] at e
      have A : ¬ b = -1 → (¬ w = 0 → ((zI h4 132 54) = R ∧ jR2 h1 (zsI (zsI (zsI h4 132 52 (-1)) 132 53 (-1)) 132 54 0))) ∧ (w = 0 → (b = R ∧ jR2 h1 (zsI (zsI (zsI h4 132 52 (-1)) 132 53 (-1)) 132 54 0))) := fun _ => ⟨fun c => exit84 h4 q i _ (by rw [e54]; rw [if_neg c] at e; exact e), fun c => exit84 h4 q i _ (by rw [if_pos c] at e; exact e)⟩
      exact sg_X10_mending_84 s4 ⟨fun _ => ⟨A, fun c => absurd c hb⟩, fun _ => ⟨fun _ => ⟨A, fun c => absurd c hb⟩, fun c => absurd c hb⟩⟩
    have l84 : ∀ n q h4, n + q = 99 → zSh2 h4 → iv h4 q → mdM D ns n q = mdM D ns 99 0 → zg G mX10_mending (d + 200) 84 [.ref 132, .int (nI m), .int (nI one), .int (nI other), .int w, .int (-1), zU] [] h4 (zPI (fun v h2 => v = R ∧ jR2 h1 h2)) := by
      intro n
      induction n with
      | zero =>
        intro q h4 hq s4 i e
        have i' := i
        rw [hiv] at i'
        have e54 := i'.2.2.2.2.2
        refine sg_X10_mending_84 s4 ?_
        rw [e54]
        refine ⟨fun _ => ⟨fun c => absurd rfl c, fun _ => exit84 h4 q i _ ?_⟩, fun c => absurd (show nI 99 ≤ nI q from nI_le (by omega) (by omega)) c⟩
        rw [hR, ← e]; rfl
      | succ n ih =>
        intro q h4 hq s4 i e
        have i' := i
        rw [hiv] at i'
        obtain ⟨i1, i2, i3, i4, i5, i6⟩ := i'
        rw [mdM] at e
        refine sg_X10_mending_84 s4 ?_
        rw [i6]
        refine ⟨fun c => absurd (show nI 99 ≤ nI q from c) (nI_ge (by omega) (by decide)), fun _ => ⟨fun c => absurd rfl c, fun _ => ?_⟩⟩
        rw [nI_1, zI_sI, zup_ne _ _ (by decide), i3 134 (by decide), md.1]
        have iq : iv (zsI h4 132 54 (nI (q + 1))) (q + 1) := by
          rw [hiv]
          refine ⟨i1.sI _ _ _, fun c hc => ?_, fun c hc => ?_, fun j j0 j33 j52 j53 j54 => ?_, ?_, ?_⟩
          · rw [zI_sI, zup_ne _ _ (by omega)]; exact i2 c hc
          · rw [zI_sI, zup_ne _ _ (by omega)]; exact i3 c hc
          · rw [zI_sI, zup_i _ _ _ j54]; exact i4 j j0 j33 j52 j53 j54
          · rw [zI_sI, zup_i _ _ _ (by decide)]; exact i5
          · rw [zI_sI, zup_s]
        refine l119 (q + 1) (by omega) (loF (fun s => D s (q + 1)) ns (-1)) (fun h6 s6 i6' => ?_) ns (-1) _ (Nat.le_refl _) (s4.W ((zW.rf h4).sI _ _ _)) iq rfl
        by_cases c2 : loF (fun s => D s (q + 1)) ns (-1) = -1
        · rw [if_pos c2] at e
          rw [c2]
          exact ih (q + 1) h6 (by omega) s6 i6' e
        · rw [if_neg c2] at e
          exact e84 h6 (q + 1) _ s6 i6' (by omega) c2 (by rw [hR, ← e])
    refine l84 99 0 _ (by omega) (S5.W (((zW.rf _).sI _ _ _).sI _ _ _)) ?_ rfl
    have T := (jR.thr h1).mE Z1 Z2
    rw [hiv]
    refine ⟨(T.1.sI _ _ _).sI _ _ _, fun c hc => ?_, fun c hc => ?_, fun j j0 j33 j52 j53 j54 => ?_, ?_, ?_⟩
    · simp only [zI_sI]
      rw [zup_ne _ _ (by omega), zup_ne _ _ (by omega), Z2.1 c (by omega), zI_sI, zup_ne _ _ (by omega)]
    · simp only [zI_sI]
      rw [zup_ne _ _ (by omega), zup_ne _ _ (by omega), Z2.1 c (by omega)]; exact k.eT.1 c hc
    · simp only [zI_sI]
      rw [zup_i _ _ _ j54, zup_i _ _ _ j52, Z2.2 j j33]; exact k.eT.2 j j0
    · simp only [zI_sI]
      rw [zup_i _ _ _ (by decide), zup_s]
    · simp only [zI_sI]
      rw [zup_s]; rfl
