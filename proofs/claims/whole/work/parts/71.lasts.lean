/-! how long stores last -/
theorem cpR.j1 {I I' : Nat → Nat → Int32} (q : cpR I I' 1 0) : jE I I' := fun c j hn => by
  obtain ⟨q1, q2, q3, q4, q5, q6, q7, q8, q9⟩ := q
  rcases Nat.lt_or_ge c 151 with h | h
  · rw [q1 c (Or.inl h)]
  rcases Nat.lt_or_ge 162 c with h2 | h2
  · rw [q1 c (Or.inr h2)]
  rcases Nat.lt_or_ge 155 c with h3 | h3
  · rcases (show c = 156 ∨ c = 157 ∨ c = 158 ∨ c = 159 ∨ c = 160 ∨ c = 161 ∨ c = 162 by omega) with rfl | rfl | rfl | rfl | rfl | rfl | rfl
    · exact q3.2 j (by unfold jkP at hn; omega)
    · exact q4.2 j (by unfold jkP at hn; omega)
    · exact q5.2 j (by unfold jkP at hn; omega)
    · exact q6.2 j (by unfold jkP at hn; omega)
    · exact q7.2 j (by unfold jkP at hn; omega)
    · exact q8.2 j (by unfold jkP at hn; omega)
    · exact q9.2 j (by unfold jkP at hn; omega)
  · exact (q2 c h h3).2 j (by unfold jkP at hn; omega)
theorem cR_tr {h h1 : zMem} (w : zW h h1) (q : ∀ a, (a < 82 ∨ 99 ≤ a) → zI h1 a = zI h a) : cR h h1 := ⟨w, fun c j hn => by rw [q c (by unfold jkP at hn; omega)], fun c hc => q c (by omega)⟩
def shG (mx st : Nat → Int32) : Nat → Nat → Int32
  | 0, _ => -1
  | n + 1, k => if mx k ≤ st k then shG mx st n (k + 1) else nI k
theorem shG_no {mx st : Nat → Int32} : ∀ n k, k + n < 2 ^ 31 → shG mx st n k = -1 → ∀ j, k ≤ j → j < k + n → mx j ≤ st j
  | 0, _, _, _, j, a, b => absurd b (by omega)
  | n + 1, k, hk, h, j, a, b => by
    rw [shG] at h
    by_cases c : mx k ≤ st k
    · rw [if_pos c] at h
      by_cases e : j = k
      · rw [e]; exact c
      · exact shG_no n (k + 1) (by omega) h j (by omega) (by omega)
    · rw [if_neg c] at h; exact absurd h (nI_nm1 (by omega))
theorem shG_all {mx st : Nat → Int32} : ∀ n k, (∀ j, k ≤ j → j < k + n → mx j ≤ st j) → shG mx st n k = -1
  | 0, _, _ => rfl
  | n + 1, k, h => by
    rw [shG, if_pos (h k (Nat.le_refl _) (by omega))]
    exact shG_all n (k + 1) (fun j a b => h j (by omega) (by omega))
theorem shortF_G {I : Nat → Nat → Int32} {b t nd dt : Nat} {mx st : Nat → Int32} : ∀ n k, (∀ j, k ≤ j → j < k + n → mixOn I t nd dt j = mx j ∧ I (b + 1) j = st j) → shortF I b t nd dt n k = shG mx st n k
  | 0, _, _ => rfl
  | n + 1, k, h => by
    rw [shortF, shG, (h k (Nat.le_refl _) (by omega)).1, (h k (Nat.le_refl _) (by omega)).2, shortF_G n (k + 1) (fun j a b => h j (by omega) (by omega))]
def laF (mx : Nat → Nat → Int32) (ns : Nat) (x : Int32) : Nat → Nat → (Nat → Int32) → Int32
  | 0, _, _ => if x = 0 then 200 else -2
  | n + 1, k, st => if shG (mx k) st ns 0 = -1 then laF mx ns x n (k + 1) (fun s => st s - mx k s) else if x = 0 then nI k else shG (mx k) st ns 0
theorem i32_sub0 (x : Int32) : x - 0 = x := by simp
set_option maxHeartbeats 4000000 in
theorem pr_lasts {G : zG} {d : Nat} {h : zMem} (hOK : zOK h) (x : Int32) : pairI G mX9_lasts mX10_lasts (d + 200) [.ref 0, .int x] [.ref 132, .int x] h := by
  have hOK' := hOK
  obtain ⟨t, ns, nd, nr, nm, dt, u, nn, tp, S1, S2, -, hI⟩ := hOK'
  obtain ⟨td, md, rl, h99, -⟩ := hI.1
  obtain ⟨t0, t1, t2, t3, h6, h8, h6r, h5, hlw⟩ := td
  obtain ⟨w1, w2, w3, w4, w5, w6, w7, w8⟩ := now0 hI.2.2.1.1
  have htn : t = 8 ∨ t = 103 := S1.2.1
  have hdt : dt ≤ 9999 := hI.2.2.1.2.2.2
  have e151 := (ab0 hI.2.2.1.2.1).2.2.1
  have st0 := (ab0 hI.2.2.1.2.1).2.2.2
  have P : ∀ h1, cR h h1 → zSh2 (zsI h1 132 0 0) ∧ zInv (zI (zsI h1 132 0 0)) t ns nd nr nm dt u nn tp := fun h1 k => ⟨S2.W k.thr.1, zInv_j S1.2.1 hI k.thr.2⟩
  by_cases yb : x < 0 ∨ ¬ x ≤ 1
  · refine pair_ro hOK (-1) ?_ (fun h1 k => ?_)
    · exact cn_X9_lasts (sg_X9_lasts_0 S1 ⟨fun _ => ⟨rfl, cR.rf _⟩, fun c => ⟨fun c2 => absurd c2 (yb.resolve_left c), fun _ => ⟨rfl, cR.rf _⟩⟩⟩)
    · exact cn_X10_lasts (sg_X10_lasts_0 (S2.W k.1) ⟨fun _ => ⟨rfl, jR.thr h1⟩, fun c => ⟨fun c2 => absurd c2 (yb.resolve_left c), fun _ => ⟨rfl, jR.thr h1⟩⟩⟩)
  have y0 : ¬ x < 0 := fun c => yb (Or.inl c)
  have y1 : x ≤ 1 := Classical.byContradiction fun c => yb (Or.inr c)
  obtain ⟨mx, hmx⟩ : ∃ mx : Nat → Nat → Int32, mx = fun k s => mN (zI h) nd (dt + k) s := ⟨_, rfl⟩
  have mxv : ∀ k s, mN (zI h) nd (dt + k) s = mx k s := fun k s => by rw [hmx]
  obtain ⟨R, hR⟩ : ∃ R, R = laF mx ns x 200 0 (zI h 156) := ⟨_, rfl⟩
  refine pair_ro hOK R ?_ (fun h1 k => ?_)
  · refine cn_X9_lasts (sg_X9_lasts_0 S1 ⟨fun c => absurd c y0, fun _ => ⟨fun _ => ⟨_, X5_copy_ok S1 (Or.inr (Or.inr rfl)) (Or.inl rfl) (by decide), ?_⟩, fun c => absurd y1 c⟩⟩)
    rintro h2 ⟨c1, c2, c3, c4, c5, c6, -⟩
    refine ⟨S1.W c1, ?_⟩
    have loop : ∀ n k st h1, n + k = 200 → zW h h1 → (∀ a, (a < 82 ∨ 99 ≤ a) → zI h1 a = zI h a) → (∀ s, s < ns → zI h1 (82 + 1) s = st s) → zI h1 82 10 = nI (dt + k) → laF mx ns x n k st = R → zg G mX9_lasts (d + 200) 24 [.ref 0, .int x, .int (nI k), zU] [] h1 (zPI (fun v h1 => v = R ∧ cR h h1)) := by
      intro n
      induction n with
      | zero =>
        intro k st h1 hk q1 q2 q3 q4 e
        refine sg_X9_lasts_24 (S1.W q1) ⟨fun _ => ⟨fun c => ⟨?_, cR_tr q1 q2⟩, fun c => ⟨?_, cR_tr q1 q2⟩⟩, fun c => absurd (show nI 200 ≤ nI k from nI_le (by omega) (by omega)) c⟩
        · rw [← e, laF, if_neg c]
        · rw [← e, laF, if_pos c]
      | succ n ih =>
        intro k st h1 hk q1 q2 q3 q4 e
        have S := S1.W q1
        have I1 := zInv_j S1.2.1 hI (cR_tr q1 q2).2.1
        rw [laF] at e
        have emx : ∀ s, s < ns → mixOn (zI h1) t nd (dt + k) s = mx k s := fun s hs => by
          rw [mix_eq I1.1.2.2.1 I1.2.1.1 h8 hs, ← mxv]
          unfold mN
          by_cases c : nd = 0
          · rw [if_pos c, if_pos c]
          · rw [if_neg c, if_neg c]; exact mxM_C (q2 132 (by omega)) (q2 139 (by omega)) _ _
        have esh : shortF (zI h1) 82 t nd (dt + k) ns 0 = shG (mx k) st ns 0 := shortF_G ns 0 (fun j _ hj => ⟨emx j (by omega), q3 j (by omega)⟩)
        refine sg_X9_lasts_24 S ⟨fun c => absurd (show nI 200 ≤ nI k from c) (nI_ge (by omega) (by decide)), fun _ => ⟨_, X5_firstShort_ok (b := 82) S (Or.inr (Or.inr rfl)) S.2.1 I1.1.1.1 h6 I1.1.1.2.1 h8 q4 (by omega), ?_⟩⟩
        rintro v h3 ⟨rfl, rfl⟩
        rw [esh]
        refine ⟨S, fun c => ⟨_, X5_takeOut_ok (b := 82) S (Or.inr (Or.inr rfl)) S.2.1 I1.1.1.1 h6 I1.1.1.2.1 h8 q4 (by omega), ?_⟩, fun c => ⟨fun c2 => ⟨?_, cR_tr q1 q2⟩, fun c2 => ⟨?_, cR_tr q1 q2⟩⟩⟩
        · rintro h4 ⟨z1, z2, z3⟩
          rw [if_pos c] at e
          refine ⟨S.W z1, ?_⟩
          rw [nI_1, z2 82 (by decide) (by decide), q4, nI_1]
          refine ih (k + 1) _ _ (by omega) ((q1.trans z1).sI _ _ _) (fun a ha => ?_) (fun s hs => ?_) ?_ e
          · rw [zI_sI, zup_ne _ _ (by omega), z2 a (by omega) (by omega)]; exact q2 a ha
          · rw [zI_sI, zup_ne _ _ (by decide), (z3 s hs).2, q3 s hs]
            have hle := shG_no ns 0 (by omega) c s (by omega) (by omega)
            unfold takeF
            rw [q3 s hs, emx s hs, if_neg (Int32.not_lt.mpr hle)]
          · rw [zI_sI, zup_s]; rfl
        · rw [if_neg c, if_neg c2] at e; exact e
        · rw [if_neg c, if_pos c2] at e; exact e
    exact loop 200 0 (zI h 156) h2 (by omega) c1 c2 (fun s hs => by rw [(c3 s (by omega)).1]; exact (w5 s hs).1) (by rw [c6, w1]; exact e151) hR.symm
  · obtain ⟨S3, I3⟩ := P h1 k
    refine cn_X10_lasts (sg_X10_lasts_0 (S2.W k.1) ⟨fun c => absurd c y0, fun _ => ⟨fun _ => ⟨_, X10_copies_ok (x := 1) (y := 0) S3 (by decide) (by decide) (by decide), ?_⟩, fun c => absurd y1 c⟩⟩)
    rintro h2 ⟨c1, cp⟩
    have S4 := S3.W c1
    have j4 : jR h1 h2 := (jR.thr h1).trans ⟨c1, cp.j1⟩
    refine ⟨S4, ?_⟩
    obtain ⟨Q, hQ⟩ : ∃ Q : Int32 → zMem → Prop, Q = (fun v h2 => v = R ∧ jR h1 h2) := ⟨_, rfl⟩
    rw [← hQ]
    obtain ⟨iv, hiv⟩ : ∃ iv : zMem → Prop, iv = fun h4 => zW h1 h4 ∧ (∀ c, c ≠ 156 → zI h4 c = zI h2 c) ∧ ∀ j, j < 6 ∨ 12 ≤ j → zI h4 156 j = zI h2 156 j := ⟨_, rfl⟩
    have ivJ : ∀ h4, iv h4 → jR h1 h4 := fun h4 i => by
      rw [hiv] at i
      refine ⟨i.1, j4.2.trans (fun c j hn => ?_)⟩
      by_cases e : c = 156
      · subst e; exact i.2.2 j (by unfold jkP at hn; omega)
      · rw [i.2.1 c e]
    have e2 : ∀ c, 133 ≤ c → c ≤ 150 → zI h2 c = zI h c := fun c a b => by rw [cp.1 c (by omega)]; exact k.eT.1 c a
    have e1512 : zI h2 151 1 = nI dt := by rw [(cp.2.1 151 (by decide) (by decide)).1, k.eT.1 151 (by decide)]; exact e151
    have m0 : zI h2 134 0 = nI ns := by rw [e2 134 (by decide) (by decide)]; exact md.1
    have m1 : zI h2 134 1 = nI nd := by rw [e2 134 (by decide) (by decide)]; exact md.2.1
    have pl2 : pln (zI h2) := by
      unfold pln
      rw [cp.1 132 (by decide), k.eT.2 50 (by decide), k.eT.2 52 (by decide)]; exact hI.2.1.1
    have mixG : ∀ (h4 : zMem), iv h4 → zSh2 h4 → 0 < nd → ∀ kk s, s < ns → kk < 200 → zConI G mX10_mixOf (d + 199) [.ref 132, .int ((zI h4 151 1 + nI kk) - (zI h4 151 1 + nI kk) / nI nd * nI nd), .int (nI s)] h4 (fun v h' => v = mx kk s ∧ h' = h4) := by
      intro h4 i s4 hpos kk s hs hkk
      rw [hiv] at i
      have hlt := Nat.mod_lt (dt + kk) hpos
      rw [i.2.1 151 (by decide), e1512, nI_add, pk_rem (show dt + kk < 2 ^ 31 by omega) hpos (by omega)]
      have p4 : pln (zI h4) := by unfold pln; rw [i.2.1 132 (by decide)]; exact pl2
      have := X10_mixOf_ok (G := G) (d := d + 199) s4 (Or.inl p4.1) (show (dt + kk) % nd < 16 by omega) (show s < 6 by omega)
      have e : mxM (zI h4) ((dt + kk) % nd) s = mx kk s := by
        rw [mxM_pln p4 (by omega), i.2.1 139 (by decide), e2 139 (by decide) (by decide), ← mxv]
        unfold mN
        rw [if_neg (by omega), mxM_pln hI.2.1.1 (by omega)]
      rw [e] at this
      exact this
    have l102 : ∀ (kk : Nat), kk < 200 → ∀ (st : Nat → Int32), (∀ h4, iv h4 → zSh2 h4 → (∀ s, s < ns → zI h4 156 (6 + s) = st s - mx kk s) → zg G mX10_lasts (d + 200) 24 [.ref 132, .int x, .int (nI (kk + 1)), zU] [] h4 (zPI Q)) → ∀ n s h4, n + s = ns → iv h4 → zSh2 h4 → (∀ s', s' < s → zI h4 156 (6 + s') = st s' - mx kk s') → (∀ s', s ≤ s' → s' < ns → zI h4 156 (6 + s') = st s') → zg G mX10_lasts (d + 200) 102 [.ref 132, .int x, .int (nI kk), .int (nI s)] [] h4 (zPI Q) := by
      intro kk hkk st K n
      induction n with
      | zero =>
        intro s h4 hs i s4 q1 q2
        refine sg_X10_lasts_102 s4 ?_
        have i' := i
        rw [hiv] at i'
        rw [i'.2.1 134 (by decide), m0, nI_1]
        exact ⟨fun _ => K h4 i s4 (fun s' hs' => q1 s' (by omega)), fun c => absurd (nI_le (by omega) (by omega)) c⟩
      | succ n ih =>
        intro s h4 hs i s4 q1 q2
        refine sg_X10_lasts_102 s4 ?_
        have i' := i
        rw [hiv] at i'
        rw [i'.2.1 134 (by decide), m0, m1]
        refine ⟨fun c => absurd c (nI_ge (by omega) (by omega)), fun _ => ⟨fun c => ?_, fun c => ?_⟩⟩
        · have n0 : nd = 0 := nI_eq0 (by omega) c
          rw [nI_1]
          have z0 : ∀ s, mx kk s = 0 := fun s => by rw [← mxv]; unfold mN; rw [if_pos n0]
          refine K h4 i s4 (fun s' hs' => ?_)
          rw [z0, i32_sub0]
          rcases Nat.lt_or_ge s' s with h7 | h7
          · rw [q1 s' h7, z0, i32_sub0]
          · exact q2 s' h7 hs'
        · have npos : 0 < nd := Nat.pos_of_ne_zero (fun e => c (by rw [e]; decide))
          have ei : (6 : Int32) + nI s = nI (6 + s) := nI_add 6 s
          rw [ei, zcla (show 6 + s < 2 ^ 31 by omega)]
          refine ⟨zin_n (by omega) (by decide), nI_ne0 npos (by omega), _, mixG h4 i s4 npos kk s (by omega) hkk, ?_⟩
          rintro v h5' ⟨rfl, rfl⟩
          rw [nI_1, q2 s (Nat.le_refl _) (by omega)]
          refine ⟨s4, ih (s + 1) _ (by omega) ?_ (s4.W ((zW.rf _).sI _ _ _)) (fun s' hs' => ?_) (fun s' a b => ?_)⟩
          · rw [hiv]
            refine ⟨i'.1.sI _ _ _, fun c hc => ?_, fun j hj => ?_⟩
            · rw [zI_sI, zup_ne _ _ hc]; exact i'.2.1 c hc
            · rw [zI_sI, zup_i _ _ _ (by omega)]; exact i'.2.2 j hj
          · by_cases e : s' = s
            · subst e; rw [zI_sI, zup_s]
            · rw [zI_sI, zup_i _ _ _ (by omega)]; exact q1 s' (by omega)
          · rw [zI_sI, zup_i _ _ _ (by omega)]; exact q2 s' (by omega) b
    have l24 : ∀ n kk st h4, n + kk = 200 → iv h4 → zSh2 h4 → (∀ s, s < ns → zI h4 156 (6 + s) = st s) → (nd = 0 → ∀ s, s < ns → ∃ v, v ≤ 9999 ∧ st s = nI v) → laF mx ns x n kk st = R → zg G mX10_lasts (d + 200) 24 [.ref 132, .int x, .int (nI kk), zU] [] h4 (zPI Q) := by
      intro n
      induction n with
      | zero =>
        intro kk st h4 hk i s4 q q0 e
        refine sg_X10_lasts_24 s4 ⟨fun _ => ⟨fun c => ?_, fun c => ?_⟩, fun c => absurd (show nI 200 ≤ nI kk from nI_le (by omega) (by omega)) c⟩
        · rw [hQ]; exact ⟨by rw [← e, laF, if_neg c], ivJ h4 i⟩
        · rw [hQ]; exact ⟨by rw [← e, laF, if_pos c], ivJ h4 i⟩
      | succ n ih =>
        intro kk st h4 hk i s4 q q0 e
        rw [laF] at e
        have i' := i
        rw [hiv] at i'
        refine sg_X10_lasts_24 s4 ⟨fun c => absurd (show nI 200 ≤ nI kk from c) (nI_ge (by omega) (by decide)), fun _ => ?_⟩
        -- behind a look that found none short
        have nxt : shG (mx kk) st ns 0 = -1 → zg G mX10_lasts (d + 200) 102 [.ref 132, .int x, .int (nI kk), .int (nI 0)] [] h4 (zPI Q) := by
          intro c
          rw [if_pos c] at e
          refine l102 kk (by omega) st (fun h5' i5 s5 q5 => ih (kk + 1) _ h5' (by omega) i5 s5 q5 (fun n0 s hs => ?_) e) ns 0 h4 (by omega) i s4 (fun s' hs' => absurd hs' (by omega)) (fun s' _ b => q s' b)
          have z0 : mx kk s = 0 := by rw [← mxv]; unfold mN; rw [if_pos n0]
          obtain ⟨v, v1, v2⟩ := q0 n0 s hs
          exact ⟨v, v1, by rw [z0, i32_sub0]; exact v2⟩
        have l33 : ∀ n' s, n' + s = ns → shG (mx kk) st n' s = shG (mx kk) st ns 0 → zg G mX10_lasts (d + 200) 33 [.ref 132, .int x, .int (nI kk), .int (nI s)] [] h4 (zPI Q) := by
          intro n'
          induction n' with
          | zero =>
            intro s hs e'
            refine sg_X10_lasts_33 s4 ?_
            rw [i'.2.1 134 (by decide), m0]
            exact ⟨fun _ => nxt e'.symm, fun c => absurd (nI_le (by omega) (by omega)) c⟩
          | succ n' ih' =>
            intro s hs e'
            refine sg_X10_lasts_33 s4 ?_
            rw [i'.2.1 134 (by decide), m0, m1]
            refine ⟨fun c => absurd c (nI_ge (by omega) (by omega)), fun _ => ⟨fun c => nxt ?_, fun c => ?_⟩⟩
            · have n0 : nd = 0 := nI_eq0 (by omega) c
              refine shG_all ns 0 (fun j _ hj => ?_)
              have z0 : mx kk j = 0 := by rw [← mxv]; unfold mN; rw [if_pos n0]
              obtain ⟨v, v1, v2⟩ := q0 n0 j (by omega)
              rw [z0, v2]; exact nI_pos' (by omega)
            · have npos : 0 < nd := Nat.pos_of_ne_zero (fun e => c (by rw [e]; decide))
              have ei : (6 : Int32) + nI s = nI (6 + s) := nI_add 6 s
              refine ⟨nI_ne0 npos (by omega), _, mixG h4 i s4 npos kk s (by omega) (by omega), ?_⟩
              rintro v h5' ⟨rfl, rfl⟩
              rw [ei, zcla (show 6 + s < 2 ^ 31 by omega), nI_1, q s (by omega)]
              rw [shG] at e'
              refine ⟨s4, zin_n (by omega) (by decide), fun c2 => ih' (s + 1) (by omega) ?_, fun c2 => ?_⟩
              · rw [if_pos c2] at e'; exact e'
              · rw [if_neg c2] at e'
                rw [← e', if_neg (nI_nm1 (by omega))] at e
                refine ⟨fun c3 => ?_, fun c3 => ?_⟩
                · rw [if_neg c3] at e; rw [hQ]; exact ⟨e, ivJ _ i⟩
                · rw [if_pos c3] at e; rw [hQ]; exact ⟨e, ivJ _ i⟩
        exact l33 ns 0 (by omega) rfl
    refine l24 200 0 (zI h 156) h2 (by omega) (by rw [hiv]; exact ⟨j4.1, fun _ _ => rfl, fun _ _ => rfl⟩) S4 (fun s hs => ?_) (fun _ s hs => ?_) hR.symm
    · have := cp.2.2.1.1 s (by omega)
      rw [Nat.mul_one, Nat.mul_zero, Nat.zero_add] at this
      rw [this, k.eT.1 156 (by decide)]
    · exact st0 s hs
