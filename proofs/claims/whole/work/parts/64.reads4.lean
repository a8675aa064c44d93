/-! calls that only read, fourth part: needs, dearest, days alike, where one would tell most -/
theorem sumF_0 {f : Nat → Int32} : ∀ n, (∀ k, k < n → f k = 0) → sumF f n = 0
  | 0, _ => rfl
  | n + 1, h => by
    unfold sumF
    rw [sumF_0 n (fun k hk => h k (by omega)), h n (by omega)]; rfl
set_option maxHeartbeats 2000000 in
theorem pr_needs {G : zG} {d : Nat} {h : zMem} (hOK : zOK h) (x y : Int32) : pairI G mX9_needs mX10_needs (d + 200) [.ref 0, .int x, .int y] [.ref 132, .int x, .int y] h := by
  have hOK' := hOK
  obtain ⟨t, ns, nd, nr, nm, dt, u, nn, tp, S1, S2, -, hI⟩ := hOK'
  obtain ⟨td, md, rl, -⟩ := hI.1
  obtain ⟨t0, t1, t2, t3, h6, h8, h6r, h5, hlw⟩ := td
  obtain ⟨w1, w2, w3, w4, w5, w6, w7, w8⟩ := now0 hI.2.2.1.1
  have hdt : dt ≤ 9999 := hI.2.2.1.2.2.2
  have e151 := (ab0 hI.2.2.1.2.1).2.2.1
  have P : ∀ h1, cR h h1 → zSh2 (zsI h1 132 0 0) ∧ zInv (zI (zsI h1 132 0 0)) t ns nd nr nm dt u nn tp := fun h1 k => ⟨S2.W k.thr.1, zInv_j S1.2.1 hI k.thr.2⟩
  rcases ix_or x (n := ns) (by omega) with q | ⟨s, hs, rfl⟩
  · refine pair_ro hOK (-1) ?_ (fun h1 k => ?_)
    · refine cn_X9_needs (sg_X9_needs_0 S1 ⟨_, X9_has_no (k := 0) S1 (by decide) t0 q, ?_⟩)
      rintro v h2 ⟨rfl, rfl⟩
      exact ⟨S1, fun _ => ⟨rfl, cR.rf _⟩, fun c => absurd rfl c⟩
    · obtain ⟨S3, I3⟩ := P h1 k
      refine cn_X10_needs (sg_X10_needs_0 (S2.W k.1) ⟨_, X10_isStuff_no S3 I3.1.2.1.1 q, ?_⟩)
      rintro v h2 ⟨rfl, rfl⟩
      exact ⟨S3, fun _ => ⟨rfl, jR.thr h1⟩, fun c => absurd rfl c⟩
  · rcases ix_or y (n := 100) (by decide) with q | ⟨n, hn, rfl⟩
    · have q' : ¬ y < 0 → ¬ y ≤ 99 := fun c c2 => by
        rcases q with q | q
        · exact c q
        · have a := Int32.le_iff_toInt_le.mp q
          have b := Int32.le_iff_toInt_le.mp c2
          rw [nI_toInt (by decide)] at a
          have e : (99 : Int32).toInt = 99 := rfl
          omega
      refine pair_ro hOK (-1) ?_ (fun h1 k => ?_)
      · refine cn_X9_needs (sg_X9_needs_0 S1 ⟨_, X9_has_yes (k := 0) S1 (by decide) t0 hs (by omega), ?_⟩)
        rintro v h2 ⟨rfl, rfl⟩
        exact ⟨S1, fun _ => ⟨rfl, cR.rf _⟩, fun _ => ⟨fun _ => ⟨rfl, cR.rf _⟩, fun c => ⟨fun c2 => absurd c2 (q' c), fun _ => ⟨rfl, cR.rf _⟩⟩⟩⟩
      · obtain ⟨S3, I3⟩ := P h1 k
        refine cn_X10_needs (sg_X10_needs_0 (S2.W k.1) ⟨_, X10_isStuff_yes S3 I3.1.2.1.1 hs (by omega), ?_⟩)
        rintro v h2 ⟨rfl, rfl⟩
        exact ⟨S3, fun _ => ⟨rfl, jR.thr h1⟩, fun _ => ⟨fun _ => ⟨rfl, jR.thr h1⟩, fun c => ⟨fun c2 => absurd c2 (q' c), fun _ => ⟨rfl, jR.thr h1⟩⟩⟩⟩
    · obtain ⟨f, hf⟩ : ∃ f : Nat → Int32, f = fun i => mN (zI h) nd (dt + i) s := ⟨_, rfl⟩
      have le99 : nI n ≤ 99 := show nI n ≤ nI 99 from nI_le (by omega) (by decide)
      obtain ⟨R, hR⟩ : ∃ R : Int32, R = (if (0 : Int32) < (sumF f n - zI h 156 s) then (sumF f n - zI h 156 s) else 0) := ⟨_, rfl⟩
      refine pair_ro hOK R ?_ (fun h1 k => ?_)
      · refine cn_X9_needs (sg_X9_needs_0 S1 ⟨_, X9_has_yes (k := 0) S1 (by decide) t0 hs (by omega), ?_⟩)
        rintro v h2 ⟨rfl, rfl⟩
        refine ⟨S1, fun c => absurd c n10, fun _ => ⟨fun c => absurd c (nI_pos (by omega)), fun _ => ⟨fun _ => ?_, fun c => absurd le99 c⟩⟩⟩
        have loop : ∀ m j, m + j = n → zg G mX9_needs (d + 200) 26 [.ref 0, .int (nI s), .int (nI n), .int (sumF f j), .int (nI j)] [] h2 (zPI (fun v h1 => v = R ∧ cR h2 h1)) := by
          intro m
          induction m with
          | zero =>
            intro j hj
            refine sg_X9_needs_26 S1 ⟨fun _ => ⟨zin_n (by omega) (by decide), ?_, cR.rf _⟩, fun c => absurd (nI_le (by omega) (by omega)) c⟩
            rw [zcla (show s < 2 ^ 31 by omega), (w5 s hs).1, show j = n by omega, hR]
          | succ m ih =>
            intro j hj
            refine sg_X9_needs_26 S1 ?_
            rw [w1, e151, nI_add, nI_1]
            refine ⟨fun c => absurd c (nI_ge (by omega) (by omega)), fun _ => ⟨_, X7_mixedOn_ok S1 S1.2.1 t1 h8 (show dt + j < 2 ^ 31 by omega) (show s < 6 by omega), ?_⟩⟩
            rintro v h3 ⟨rfl, rfl⟩
            refine ⟨S1, ?_⟩
            rw [mix_eq rl hI.2.1.1 h8 hs]
            have := ih (j + 1) (by omega)
            rw [sumF, hf] at this
            rw [hf]; exact this
        exact loop n 0 (by omega)
      · obtain ⟨S3, I3⟩ := P h1 k
        refine cn_X10_needs (sg_X10_needs_0 (S2.W k.1) ⟨_, X10_isStuff_yes S3 I3.1.2.1.1 hs (by omega), ?_⟩)
        rintro v h2 ⟨rfl, rfl⟩
        refine ⟨S3, fun c => absurd c n10, fun _ => ⟨fun c => absurd c (nI_pos (by omega)), fun _ => ⟨fun _ => ?_, fun c => absurd le99 c⟩⟩⟩
        have fin : ∀ z : Int32, z = sumF f n → vp_in (nI s) 138 ∧ ((if (0 : Int32) < (z - zI (zsI h1 132 0 0) 156 (nI s).toNatClampNeg) then (z - zI (zsI h1 132 0 0) 156 (nI s).toNatClampNeg) else 0) = R ∧ jR h1 (zsI h1 132 0 0)) := by
          intro z ez
          refine ⟨zin_n (by omega) (by decide), ?_, jR.thr h1⟩
          rw [zcla (show s < 2 ^ 31 by omega), k.eT.1 156 (by decide), ez, hR]
        have loop : ∀ m j, m + j = n → zg G mX10_needs (d + 200) 30 [.ref 132, .int (nI s), .int (nI n), .int (sumF f j), .int (nI j)] [] (zsI h1 132 0 0) (zPI (fun v h2 => v = R ∧ jR h1 h2)) := by
          intro m
          induction m with
          | zero =>
            intro j hj
            exact sg_X10_needs_30 S3 ⟨fun _ => fin _ (by rw [show j = n by omega]), fun c => absurd (nI_le (by omega) (by omega)) c⟩
          | succ m ih =>
            intro j hj
            refine sg_X10_needs_30 S3 ⟨fun c => absurd c (nI_ge (by omega) (by omega)), fun _ => ?_⟩
            rw [I3.1.2.1.2.1]
            refine ⟨fun c => fin _ ?_, fun c => ?_⟩
            · have n0 : nd = 0 := nI_eq0 (by omega) c
              rw [sumF_0 j (fun i _ => by rw [hf]; exact if_pos n0), sumF_0 n (fun i _ => by rw [hf]; exact if_pos n0)]
            · have npos : 0 < nd := Nat.pos_of_ne_zero (fun e => c (by rw [e]; decide))
              have hlt := Nat.mod_lt (dt + j) npos
              rw [k.eT.1 151 (by decide), e151, nI_add, pk_rem (show dt + j < 2 ^ 31 by omega) npos (by omega), nI_1]
              refine ⟨nI_ne0 npos (by omega), _, X10_mixOf_ok S3 I3.1.2.1.2.2.2.2.2.2.2.2.2.1 (show (dt + j) % nd < 16 by omega) (show s < 6 by omega), ?_⟩
              rintro v h3 ⟨rfl, rfl⟩
              refine ⟨S3, ?_⟩
              rw [k.eT.mx]
              have := ih (j + 1) (by omega)
              rw [sumF, hf] at this
              have e : mN (zI h) nd (dt + j) s = mxM (zI h) ((dt + j) % nd) s := by unfold mN; rw [if_neg (by omega)]
              simp only [e] at this
              rw [hf]; exact this
        exact loop n 0 (by omega)
/-- the first that is most -/
def bestC (c : Nat → Int32) : Nat → Nat → Int32 → Int32 → Int32 × Int32
  | 0, _, b, m => (b, m)
  | n + 1, k, b, m => if c k ≤ m then bestC c n (k + 1) b m else bestC c n (k + 1) (nI k) (c k)
def bestM (c : Nat → Int32) : Nat → Nat → Int32 → Int32 → Int32 × Int32
  | 0, _, b, m => (b, m)
  | n + 1, k, b, m => if b = -1 then bestM c n (k + 1) (nI k) (c k) else if m < c k then bestM c n (k + 1) (nI k) (c k) else bestM c n (k + 1) b m
theorem bestCM {c : Nat → Int32} : ∀ n k b m, k + n < 2 ^ 31 → b ≠ -1 → bestC c n k b m = bestM c n k b m
  | 0, _, _, _, _, _ => rfl
  | n + 1, k, b, m, hk, hb => by
    unfold bestC bestM
    rw [if_neg hb]
    by_cases q : c k ≤ m
    · rw [if_pos q, if_neg (Int32.not_lt.mpr q)]; exact bestCM n (k + 1) b m (by omega) hb
    · rw [if_neg q, if_pos (Int32.not_le.mp q)]; exact bestCM n (k + 1) _ _ (by omega) (nI_nm1 (by omega))
theorem bestCM0 {c : Nat → Int32} {n : Nat} (hn : 0 < n) (h31 : n < 2 ^ 31) (h0 : ¬ c 0 ≤ -1) : bestC c n 0 0 (-1) = bestM c n 0 (-1) 0 := by
  match n, hn with
  | n + 1, _ =>
    unfold bestC bestM
    rw [if_neg h0, if_pos rfl]
    exact bestCM n 1 _ _ (by omega) (nI_nm1 (by decide))
def bestV (x : Int32) (q : Int32 × Int32) : Int32 := if x = 0 then q.1 else q.2
theorem nI_nlem1 {k : Nat} (h : k < 2 ^ 31) : ¬ nI k ≤ -1 := by
  intro c
  have := Int32.le_iff_toInt_le.mp c
  rw [nI_toInt h] at this
  have z : (-1 : Int32).toInt = -1 := rfl
  omega
theorem sumF_rg {f : Nat → Int32} {B : Nat} : ∀ n, (∀ k, k < n → ∃ j, j ≤ B ∧ f k = nI j) → ∃ j, j ≤ n * B ∧ sumF f n = nI j
  | 0, _ => ⟨0, by omega, rfl⟩
  | n + 1, h => by
    obtain ⟨a, a1, ea⟩ := sumF_rg n (fun k hk => h k (by omega))
    obtain ⟨b, b1, eb⟩ := h n (by omega)
    unfold sumF
    rw [ea, eb, nI_add]
    exact ⟨_, by rw [Nat.add_mul]; omega, rfl⟩
theorem wtF_rg (I : Nat → Nat → Int32) (a s : Nat) : ∃ k, k ≤ 999 ∧ wtF I a s = nI k := by
  unfold wtF
  by_cases c : wtL I a s = cERR
  · rw [if_pos c]; exact ⟨1, by omega, rfl⟩
  · rw [if_neg c]
    obtain ⟨k, -, k2, e⟩ := withinF_rg (wtL I a s) (lo := 0) (hi := 999) (by decide) (by decide)
    exact ⟨k, k2, e⟩
theorem wtF_E {I I' : Nat → Nat → Int32} (q : mE I I') (a s : Nat) : wtF I' a s = wtF I a s := by
  have e : wtL I' a s = wtL I a s := by
    unfold wtL
    rw [q.1 151 (by decide), q.1 156 (by decide)]
    exact lwM_E (q.1 145 (by decide)) (q.1 146 (by decide)) (q.1 147 (by decide)) (q.1 148 (by decide))
  unfold wtF
  rw [e]
set_option maxHeartbeats 4000000 in
theorem pr_dearest {G : zG} {d : Nat} {h : zMem} (hOK : zOK h) (x : Int32) : pairI G mX9_dearest mX10_dearest (d + 200) [.ref 0, .int x] [.ref 132, .int x] h := by
  have hOK' := hOK
  obtain ⟨t, ns, nd, nr, nm, dt, u, nn, tp, S1, S2, -, hI⟩ := hOK'
  obtain ⟨td, md, rl, h99, -⟩ := hI.1
  obtain ⟨t0, t1, t2, t3, h6, h8, h6r, h5, hlw⟩ := td
  obtain ⟨w1, w2, w3, w4, w5, w6, w7, w8⟩ := now0 hI.2.2.1.1
  have P : ∀ h1, cR h h1 → zSh2 (zsI h1 132 0 0) ∧ zInv (zI (zsI h1 132 0 0)) t ns nd nr nm dt u nn tp := fun h1 k => ⟨S2.W k.thr.1, zInv_j S1.2.1 hI k.thr.2⟩
  by_cases xl : x < 0
  · refine pair_ro hOK (-1) ?_ (fun h1 k => ?_)
    · exact cn_X9_dearest (sg_X9_dearest_0 S1 ⟨fun _ => ⟨rfl, cR.rf _⟩, fun c => absurd xl c⟩)
    · exact cn_X10_dearest (sg_X10_dearest_0 (S2.W k.1) ⟨fun _ => ⟨rfl, jR.thr h1⟩, fun c => absurd xl c⟩)
  by_cases xh : (1 : Int32) < x
  · refine pair_ro hOK (-1) ?_ (fun h1 k => ?_)
    · exact cn_X9_dearest (sg_X9_dearest_0 S1 ⟨fun c => absurd c xl, fun _ => ⟨fun _ => ⟨rfl, cR.rf _⟩, fun c => absurd xh c⟩⟩)
    · exact cn_X10_dearest (sg_X10_dearest_0 (S2.W k.1) ⟨fun c => absurd c xl, fun _ => ⟨fun _ => ⟨rfl, jR.thr h1⟩, fun c => absurd xh c⟩⟩)
  rcases Nat.eq_zero_or_pos nd with n0 | npos
  · refine pair_ro hOK (-1) ?_ (fun h1 k => ?_)
    · refine cn_X9_dearest (sg_X9_dearest_0 S1 ⟨fun c => absurd c xl, fun _ => ⟨fun c => absurd c xh, fun _ => ?_⟩⟩)
      rw [t1, n0]
      exact ⟨fun c => absurd rfl c, fun _ => ⟨rfl, cR.rf _⟩⟩
    · obtain ⟨S3, I3⟩ := P h1 k
      refine cn_X10_dearest (sg_X10_dearest_0 (S2.W k.1) ⟨fun c => absurd c xl, fun _ => ⟨fun c => absurd c xh, fun _ => ?_⟩⟩)
      rw [I3.1.2.1.2.1, n0]
      exact ⟨fun c => absurd rfl c, fun _ => ⟨rfl, jR.thr h1⟩⟩
  obtain ⟨g, hg⟩ : ∃ g : Nat → Nat → Int32, g = fun dy s => zI h 139 (6 * dy + s) * wtF (zI h) 0 s := ⟨_, rfl⟩
  have c0 : ¬ (fun dy => sumF (g dy) ns) 0 ≤ -1 := by
    obtain ⟨j, hj, ej⟩ := sumF_rg (f := g 0) (B := 99 * 999) ns (fun s hs => by
      obtain ⟨a, a1, ea⟩ := h99 0 s npos hs
      obtain ⟨b, b1, eb⟩ := wtF_rg (zI h) 0 s
      rw [hg]
      show ∃ j, j ≤ 99 * 999 ∧ zI h 139 (6 * 0 + s) * wtF (zI h) 0 s = nI j
      rw [ea, eb, pk_mul]
      exact ⟨_, Nat.mul_le_mul a1 b1, rfl⟩)
    show ¬ sumF (g 0) ns ≤ -1
    rw [ej]
    have : ns * (99 * 999) ≤ 6 * (99 * 999) := Nat.mul_le_mul_right _ h6
    exact nI_nlem1 (by omega)
  refine pair_ro hOK (bestV x (bestC (fun dy => sumF (g dy) ns) nd 0 0 (-1))) ?_ (fun h1 k => ?_)
  · refine cn_X9_dearest (sg_X9_dearest_0 S1 ⟨fun c => absurd c xl, fun _ => ⟨fun c => absurd c xh, fun _ => ⟨fun _ => ?_, fun c => absurd c (by rw [t1]; exact nI_ne0 npos (by omega))⟩⟩⟩)
    have inner : ∀ (dy : Nat), dy < nd → ∀ (b m : Int32), (∀ h1, zF h (zI h) h1 → (sumF (g dy) ns ≤ m → zg G mX9_dearest (d + 200) 30 [.ref 0, .int x, .int b, .int m, .int (nI (dy + 1)), zU, zU] [] h1 (zPI (fun v h1 => v = bestV x (bestC (fun dy => sumF (g dy) ns) nd 0 0 (-1)) ∧ cR h h1))) ∧ (¬ sumF (g dy) ns ≤ m → zg G mX9_dearest (d + 200) 30 [.ref 0, .int x, .int (nI dy), .int (sumF (g dy) ns), .int (nI (dy + 1)), zU, zU] [] h1 (zPI (fun v h1 => v = bestV x (bestC (fun dy => sumF (g dy) ns) nd 0 0 (-1)) ∧ cR h h1)))) → ∀ n s h1, n + s = ns → zF h (zI h) h1 → zg G mX9_dearest (d + 200) 50 [.ref 0, .int x, .int b, .int m, .int (nI dy), .int (sumF (g dy) s), .int (nI s)] [] h1 (zPI (fun v h1 => v = bestV x (bestC (fun dy => sumF (g dy) ns) nd 0 0 (-1)) ∧ cR h h1)) := by
      intro dy hdy b m K n
      induction n with
      | zero =>
        intro s h1 hs q
        refine sg_X9_dearest_50 (S1.F q) ?_
        rw [q.2.2, t0, nI_1, show s = ns by omega]
        exact ⟨fun _ => K h1 q, fun c => absurd (nI_le (by omega) (by omega)) c⟩
      | succ n ih =>
        intro s h1 hs q
        refine sg_X9_dearest_50 (S1.F q) ?_
        rw [q.2.2, t0, zcla (show dy < 2 ^ 31 by omega), zcla (show s < 2 ^ 31 by omega)]
        simp only [nI_1]
        refine ⟨fun c => absurd c (nI_ge (by omega) (by omega)), fun _ => ⟨zin_n (by omega) (by decide), zin_n (by omega) (by decide), _, X5_worthOf_ok (b := 48) (S1.F q) (Or.inl rfl) S1.2.1 (show s < 6 by omega) (by rw [q.2.2]; exact hlw), ?_⟩⟩
        rintro v h3 ⟨rfl, q3⟩
        refine ⟨(S1.F q).F q3, ?_⟩
        rw [q.2.2] at q3 ⊢
        have := ih (s + 1) h3 (by omega) (q.trans q3)
        rw [sumF] at this
        have e1 : zI h (t + 9 + 1 + dy) s * worthF (zI h) 48 t s = g dy s := by
          rw [hg, rl.2.2.2.1 dy s hdy (by omega), eq_worth (a := 0) rl w1 (by rw [Nat.mul_zero, Nat.zero_add]; exact (w5 s (by omega)).1)]
        rw [e1]; exact this
    have outer : ∀ n dy b m h1, n + dy = nd → zF h (zI h) h1 → bestC (fun dy => sumF (g dy) ns) n dy b m = bestC (fun dy => sumF (g dy) ns) nd 0 0 (-1) → zg G mX9_dearest (d + 200) 30 [.ref 0, .int x, .int b, .int m, .int (nI dy), zU, zU] [] h1 (zPI (fun v h1 => v = bestV x (bestC (fun dy => sumF (g dy) ns) nd 0 0 (-1)) ∧ cR h h1)) := by
      intro n
      induction n with
      | zero =>
        intro dy b m h1 hk q e
        refine sg_X9_dearest_30 (S1.F q) ?_
        rw [q.2.2, t1, show dy = nd by omega, ← e]
        exact ⟨fun _ => ⟨fun c => ⟨(if_neg c).symm, q.k⟩, fun c => ⟨(if_pos c).symm, q.k⟩⟩, fun c => absurd (nI_le (by omega) (by omega)) c⟩
      | succ n ih =>
        intro dy b m h1 hk q e
        refine sg_X9_dearest_30 (S1.F q) ?_
        rw [q.2.2, t1]
        refine ⟨fun c => absurd c (nI_ge (by omega) (by omega)), fun _ => inner dy (by omega) b m (fun h2 q2 => ⟨fun c => ih (dy + 1) b m h2 (by omega) q2 ?_, fun c => ih (dy + 1) _ _ h2 (by omega) q2 ?_⟩) ns 0 h1 (by omega) q⟩
        · rw [← e]; conv => rhs; unfold bestC
          rw [if_pos c]
        · rw [← e]; conv => rhs; unfold bestC
          rw [if_neg c]
    exact outer nd 0 0 (-1) h (by omega) (zF.rf h) rfl
  · obtain ⟨S3, I3⟩ := P h1 k
    rw [bestCM0 npos (by omega) c0]
    obtain ⟨h3, eh3⟩ : ∃ h3, h3 = zsI h1 132 0 0 := ⟨_, rfl⟩
    have eT3 : eT (zI h) (zI h3) := by rw [eh3]; exact k.eT
    have jR3 : jR h1 h3 := by rw [eh3]; exact jR.thr h1
    refine cn_X10_dearest (sg_X10_dearest_0 (S2.W k.1) ⟨fun c => absurd c xl, fun _ => ⟨fun c => absurd c xh, fun _ => ?_⟩⟩)
    rw [← eh3] at S3 I3 ⊢
    have e134 := eT3.1 134 (by decide)
    have m1' : zI h3 134 1 = nI nd := I3.1.2.1.2.1
    have m0' : zI h3 134 0 = nI ns := I3.1.2.1.1
    rw [m1']
    refine ⟨fun _ => ?_, fun c => absurd c (nI_ne0 npos (by omega))⟩
    obtain ⟨Q, hQ⟩ : ∃ Q : Int32 → zMem → Prop, Q = (fun v h2 => v = bestV x (bestM (fun dy => sumF (g dy) ns) nd 0 (-1) 0) ∧ jR h1 h2) := ⟨_, rfl⟩
    rw [← hQ]
    have inner : ∀ (dy : Nat), dy < nd → ∀ (b m : Int32), (∀ h4, zW h3 h4 → mE (zI h3) (zI h4) → (b = -1 → zg G mX10_dearest (d + 200) 32 [.ref 132, .int x, .int (nI dy), .int (sumF (g dy) ns), .int (nI (dy + 1)), zU, zU] [] h4 (zPI Q)) ∧ (¬ b = -1 → (m < sumF (g dy) ns → zg G mX10_dearest (d + 200) 32 [.ref 132, .int x, .int (nI dy), .int (sumF (g dy) ns), .int (nI (dy + 1)), zU, zU] [] h4 (zPI Q)) ∧ (¬ m < sumF (g dy) ns → zg G mX10_dearest (d + 200) 32 [.ref 132, .int x, .int b, .int m, .int (nI (dy + 1)), zU, zU] [] h4 (zPI Q)))) → ∀ n s h4, n + s = ns → zW h3 h4 → mE (zI h3) (zI h4) → zg G mX10_dearest (d + 200) 49 [.ref 132, .int x, .int b, .int m, .int (nI dy), .int (sumF (g dy) s), .int (nI s)] [] h4 (zPI Q) := by
      intro dy hdy b m K n
      induction n with
      | zero =>
        intro s h4 hs q1 q2
        refine sg_X10_dearest_49 (S3.W q1) ?_
        rw [q2.1 134 (by decide), m0', nI_1, show s = ns by omega]
        exact ⟨fun _ => K h4 q1 q2, fun c => absurd (nI_le (by omega) (by omega)) c⟩
      | succ n ih =>
        intro s h4 hs q1 q2
        have I4 := zInv_j S1.2.1 I3 q2.j
        refine sg_X10_dearest_49 (S3.W q1) ?_
        rw [q2.1 134 (by decide), m0']
        simp only [nI_1]
        refine ⟨fun c => absurd c (nI_ge (by omega) (by omega)), fun _ => ⟨_, X10_mixOf_ok (S3.W q1) I4.1.2.1.2.2.2.2.2.2.2.2.2.1 (show dy < 16 by omega) (show s < 6 by omega), ?_⟩⟩
        rintro v h5 ⟨rfl, rfl⟩
        refine ⟨S3.W q1, _, X10_worthOf_ok (a := 0) (S3.W q1) I4.1.2.1.2.2.2.2.2.2.2.2.1 (by decide) (show s < 6 by omega), ?_⟩
        rintro v h6 ⟨rfl, z1, z2⟩
        refine ⟨(S3.W q1).W z1, ?_⟩
        have := ih (s + 1) h6 (by omega) (q1.trans z1) (q2.trans z2)
        rw [sumF] at this
        have e1 : mxM (zI h5) dy s * wtF (zI h5) 0 s = g dy s := by
          rw [wtF_E q2, eT3.wt, mxM_E q2, eT3.mx, mxM_pln hI.2.1.1 (by omega), hg]
        rw [e1]; exact this
    have outer : ∀ n dy b m h4, n + dy = nd → zW h3 h4 → mE (zI h3) (zI h4) → bestM (fun dy => sumF (g dy) ns) n dy b m = bestM (fun dy => sumF (g dy) ns) nd 0 (-1) 0 → zg G mX10_dearest (d + 200) 32 [.ref 132, .int x, .int b, .int m, .int (nI dy), zU, zU] [] h4 (zPI Q) := by
      intro n
      induction n with
      | zero =>
        intro dy b m h4 hk q1 q2 e
        refine sg_X10_dearest_32 (S3.W q1) ?_
        rw [q2.1 134 (by decide), m1', show dy = nd by omega, hQ, ← e]
        exact ⟨fun _ => ⟨fun c => ⟨(if_neg c).symm, jR3.mE q1 q2⟩, fun c => ⟨(if_pos c).symm, jR3.mE q1 q2⟩⟩, fun c => absurd (nI_le (by omega) (by omega)) c⟩
      | succ n ih =>
        intro dy b m h4 hk q1 q2 e
        refine sg_X10_dearest_32 (S3.W q1) ?_
        rw [q2.1 134 (by decide), m1']
        refine ⟨fun c => absurd c (nI_ge (by omega) (by omega)), fun _ => inner dy (by omega) b m (fun h5 p1 p2 => ⟨fun c => ih (dy + 1) _ _ h5 (by omega) p1 p2 ?_, fun c => ⟨fun c2 => ih (dy + 1) _ _ h5 (by omega) p1 p2 ?_, fun c2 => ih (dy + 1) _ _ h5 (by omega) p1 p2 ?_⟩⟩) ns 0 h4 (by omega) q1 q2⟩
        · rw [← e]; conv => rhs; unfold bestM
          rw [if_pos c]
        · rw [← e]; conv => rhs; unfold bestM
          rw [if_neg c, if_pos c2]
        · rw [← e]; conv => rhs; unfold bestM
          rw [if_neg c, if_neg c2]
    exact outer nd 0 (-1) 0 h3 (by omega) (zW.rf h3) (mE.rf _) rfl
