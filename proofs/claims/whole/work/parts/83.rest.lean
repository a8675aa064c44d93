/-! rests, rest: class and model alike -/
theorem burn_c {G : zG} {d t ns nd : Nat} {h : zMem} {x : Int32} (hS : zSh1 h t) (h0 : zI h (t + 1) 0 = nI ns) (h1 : zI h (t + 1) 1 = nI nd) (h6 : ns ≤ 6) (h8 : nd ≤ 8) : zConI G mX9_canBurn d [.ref 0, .int x] h (fun v h' => v = (if ¬ x < 1 ∧ ¬ (99 : Int32) < x ∧ 0 < ns ∧ 0 < nd then 1 else 0) ∧ h' = h) := by
  refine cn_X9_canBurn (sg_X9_canBurn_0 hS ?_)
  rw [h0, h1]
  refine ⟨fun c => ⟨?_, rfl⟩, fun c => ⟨fun c2 => ⟨?_, rfl⟩, fun c2 => ⟨fun c3 => ⟨?_, rfl⟩, fun c3 => ⟨fun c4 => ⟨?_, rfl⟩, fun c4 => ⟨?_, rfl⟩⟩⟩⟩⟩
  · rw [if_neg (fun q => q.1 c)]
  · rw [if_neg (fun q => q.2.1 c2)]
  · have := nI_eq0 (by omega) c3
    rw [if_neg (fun q => by omega)]
  · have := nI_eq0 (by omega) c4
    rw [if_neg (fun q => by omega)]
  · rw [if_pos ⟨c, c2, Nat.pos_of_ne_zero (fun e => c3 (by rw [e]; decide)), Nat.pos_of_ne_zero (fun e => c4 (by rw [e]; decide))⟩]
theorem burn_m {G : zG} {d ns nd : Nat} {h : zMem} {x : Int32} (hS : zSh2 h) (h0 : zI h 134 0 = nI ns) (h1 : zI h 134 1 = nI nd) (h6 : ns ≤ 6) (h8 : nd ≤ 8) : zConI G mX10_areSextons d [.ref 132, .int x] h (fun v h' => v = (if ¬ x < 1 ∧ ¬ (99 : Int32) < x ∧ 0 < ns ∧ 0 < nd then 1 else 0) ∧ h' = h) := by
  refine cn_X10_areSextons (sg_X10_areSextons_0 hS ?_)
  rw [h0, h1]
  refine ⟨fun c => ⟨?_, rfl⟩, fun c => ⟨fun c2 => ⟨?_, rfl⟩, fun c2 => ⟨fun c3 => ⟨?_, rfl⟩, fun c3 => ⟨fun c4 => ⟨?_, rfl⟩, fun c4 => ⟨?_, rfl⟩⟩⟩⟩⟩
  · rw [if_neg (fun q => q.1 c)]
  · rw [if_neg (fun q => q.2.1 c2)]
  · have := nI_eq0 (by omega) c3
    rw [if_neg (fun q => by omega)]
  · have := nI_eq0 (by omega) c4
    rw [if_neg (fun q => by omega)]
  · rw [if_pos ⟨c, c2, Nat.pos_of_ne_zero (fun e => c3 (by rw [e]; decide)), Nat.pos_of_ne_zero (fun e => c4 (by rw [e]; decide))⟩]
set_option maxHeartbeats 2000000 in
theorem restOf_all {G : zG} {d ns nm : Nat} {h : zMem} {F : Nat → Nat} {x : Int32} {Q : Int32 → zMem → Prop} (S : zSh2 h) (hn : zI h 134 0 = nI ns) (h6 : ns ≤ 6) (h5 : nm ≤ 5) (hF : ∀ a b, a < ns → b < ns → F (6 * a + b) ≤ nm ∧ zI h 166 (6 * a + b) = nI (F (6 * a + b)) ∧ zI h 167 (6 * a + b) = nI (nm - F (6 * a + b))) (hQ : Q (nI (ctO (fun a b => isRb F a b ns 0) ns ns 0)) h) : zg G mX10_restOf (d + 1) 10 [.ref 132, .int x, .int (-1), .int 0, .int 0, zU] [] h (zPI Q) := by
  obtain ⟨p, hp⟩ : ∃ p : Nat → Nat → Bool, p = fun a b => isRb F a b ns 0 := ⟨_, rfl⟩
  have pv : ∀ a b, isRb F a b ns 0 = p a b := fun a b => by rw [hp]
  rw [← hp] at hQ
  have inner : ∀ (a : Nat), a < ns → ∀ T, (∀ c, c = T → c ≤ 6 * (a + 1) → zg G mX10_restOf (d + 1) 10 [.ref 132, .int x, .int (-1), .int (nI c), .int (nI (a + 1)), zU] [] h (zPI Q)) → ∀ m b c, m + b = ns → c ≤ 6 * a + b → c + ctI (p a) m b = T → zg G mX10_restOf (d + 1) 24 [.ref 132, .int x, .int (-1), .int (nI c), .int (nI a), .int (nI b)] [] h (zPI Q) := by
    intro a ha T K m
    induction m with
    | zero =>
      intro b c hb hle hc
      refine sg_X10_restOf_24 S ?_
      rw [hn, nI_1 a]
      exact ⟨fun _ => K c hc (by omega), fun q => absurd (nI_le (by omega) (by omega)) q⟩
    | succ m ih =>
      intro b c hb hle hc
      rw [ctI] at hc
      refine sg_X10_restOf_24 S ?_
      rw [hn]
      simp only [nI_1]
      refine ⟨fun q => absurd q (nI_ge (by omega) (by omega)), fun _ => ⟨_, X10_isRest_ok S hn h6 h5 ha (show b < ns by omega) hF, ?_⟩⟩
      rintro v h3 ⟨rfl, rfl⟩
      rw [pv]
      refine ⟨S, fun q => ⟨fun _ => ih (b + 1) (c + 1) (by omega) (by omega) ?_, fun q2 => absurd q2 (nI_nm1 (by omega))⟩, fun q => ih (b + 1) c (by omega) (by omega) ?_⟩
      · have : p a b = true := Classical.byContradiction fun z => q (b32_0.mpr z)
        rw [if_pos this] at hc; omega
      · rw [if_neg (b32_0.mp q)] at hc; omega
  have outer : ∀ n a c, n + a = ns → c ≤ 6 * a → c + ctO p ns n a = ctO p ns ns 0 → zg G mX10_restOf (d + 1) 10 [.ref 132, .int x, .int (-1), .int (nI c), .int (nI a), zU] [] h (zPI Q) := by
    intro n
    induction n with
    | zero =>
      intro a c ha hle hc
      refine sg_X10_restOf_10 S ?_
      rw [hn]
      have : c = ctO p ns ns 0 := hc
      rw [this]
      exact ⟨fun _ => ⟨fun q => absurd rfl q, fun _ => hQ⟩, fun q => absurd (nI_le (by omega) (by omega)) q⟩
    | succ n ih =>
      intro a c ha hle hc
      rw [ctO] at hc
      refine sg_X10_restOf_10 S ?_
      rw [hn]
      exact ⟨fun q => absurd q (nI_ge (by omega) (by omega)), fun _ => inner a (by omega) (c + ctI (p a) ns 0) (fun c' e hl => ih (a + 1) c' (by omega) hl (by omega)) ns 0 c (by omega) (by omega) rfl⟩
  exact outer ns 0 0 (by omega) (by omega) (by omega)
set_option maxHeartbeats 2000000 in
theorem restOf_one {G : zG} {d ns nm k : Nat} {h : zMem} {F : Nat → Nat} {x : Int32} {Q : Int32 → zMem → Prop} (S : zSh2 h) (hn : zI h 134 0 = nI ns) (h6 : ns ≤ 6) (h5 : nm ≤ 5) (hk : k < 2 ^ 31) (hF : ∀ a b, a < ns → b < ns → F (6 * a + b) ≤ nm ∧ zI h 166 (6 * a + b) = nI (F (6 * a + b)) ∧ zI h 167 (6 * a + b) = nI (nm - F (6 * a + b))) (hQ : Q (fdO (fun a b => isRb F a b ns 0) ns ns 0 k) h) : zg G mX10_restOf (d + 1) 10 [.ref 132, .int x, .int (nI k), .int 0, .int 0, zU] [] h (zPI Q) := by
  obtain ⟨p, hp⟩ : ∃ p : Nat → Nat → Bool, p = fun a b => isRb F a b ns 0 := ⟨_, rfl⟩
  have pv : ∀ a b, isRb F a b ns 0 = p a b := fun a b => by rw [hp]
  rw [← hp] at hQ
  obtain ⟨R, hR⟩ : ∃ R, R = fdO p ns ns 0 k := ⟨_, rfl⟩
  rw [← hR] at hQ
  have inner : ∀ (a : Nat), a < ns → ∀ K' : Nat → Int32, (∀ c l, c + l = k → K' l = R → zg G mX10_restOf (d + 1) 10 [.ref 132, .int x, .int (nI k), .int (nI c), .int (nI (a + 1)), zU] [] h (zPI Q)) → ∀ m b c l, m + b = ns → c + l = k → fdI (p a) K' a m b l = R → zg G mX10_restOf (d + 1) 24 [.ref 132, .int x, .int (nI k), .int (nI c), .int (nI a), .int (nI b)] [] h (zPI Q) := by
    intro a ha K' K m
    induction m with
    | zero =>
      intro b c l hb hcl hc
      refine sg_X10_restOf_24 S ?_
      rw [hn, nI_1 a]
      exact ⟨fun _ => K c l hcl hc, fun q => absurd (nI_le (by omega) (by omega)) q⟩
    | succ m ih =>
      intro b c l hb hcl hc
      rw [fdI] at hc
      refine sg_X10_restOf_24 S ?_
      rw [hn, ix10]
      simp only [nI_1]
      refine ⟨fun q => absurd q (nI_ge (by omega) (by omega)), fun _ => ⟨_, X10_isRest_ok S hn h6 h5 ha (show b < ns by omega) hF, ?_⟩⟩
      rintro v h3 ⟨rfl, rfl⟩
      rw [pv]
      refine ⟨S, fun q => ⟨fun q3 => ?_, fun q3 => ?_⟩, fun q => ih (b + 1) c l (by omega) hcl ?_⟩
      · have : p a b = true := Classical.byContradiction fun z => q (b32_0.mpr z)
        have l0 : ¬ l = 0 := fun e => q3 (by rw [← hcl, e]; rfl)
        rw [if_pos this, if_neg l0] at hc
        exact ih (b + 1) (c + 1) (l - 1) (by omega) (by omega) hc
      · have : p a b = true := Classical.byContradiction fun z => q (b32_0.mpr z)
        have l0 : l = 0 := by have := nI_inj (by omega) hk q3; omega
        rw [if_pos this, if_pos l0] at hc
        rw [hc]; exact hQ
      · rw [if_neg (b32_0.mp q)] at hc; exact hc
  have outer : ∀ n a c l, n + a = ns → c + l = k → fdO p ns n a l = R → zg G mX10_restOf (d + 1) 10 [.ref 132, .int x, .int (nI k), .int (nI c), .int (nI a), zU] [] h (zPI Q) := by
    intro n
    induction n with
    | zero =>
      intro a c l ha hcl hc
      refine sg_X10_restOf_10 S ?_
      rw [hn, show (-2 : Int32) = R from hc]
      exact ⟨fun _ => ⟨fun _ => hQ, fun q => absurd q (nI_nm1 hk)⟩, fun q => absurd (nI_le (by omega) (by omega)) q⟩
    | succ n ih =>
      intro a c l ha hcl hc
      rw [fdO] at hc
      refine sg_X10_restOf_10 S ?_
      rw [hn]
      exact ⟨fun q => absurd q (nI_ge (by omega) (by omega)), fun _ => inner a (by omega) _ (fun c' l' e1 e2 => ih (a + 1) c' l' (by omega) e1 e2) ns 0 c l (by omega) hcl hc⟩
  exact outer ns 0 0 k (by omega) (by omega) hR.symm
theorem cR_tr2 {h h1 : zMem} (w : zW h h1) (q : ∀ c, c < 82 ∨ (99 ≤ c ∧ c ≠ 100) → zI h1 c = zI h c) : cR h h1 := ⟨w, fun c j hn => by rw [q c (by unfold jkP at hn; omega)], fun c hc => q c (by omega)⟩
/-- the table, as the class has it -/
def tbR (h : zMem) (t ns nd nr nm dt mu : Nat) (F : Nat → Nat) : Prop := ∀ a b, a < ns → b < ns → F (6 * a + b) ≤ nm ∧ sxR (zI h) t ns nd nr nm dt a b (nI mu) (F (6 * a + b))
theorem tb_of {h h1 : zMem} {t ns nd nr nm dt mu : Nat} (h5 : nm ≤ 5) (q : ∀ a b, a < ns → b < ns → ∃ f, f ≤ nm ∧ sxR (zI h) t ns nd nr nm dt a b (nI mu) f ∧ zI h1 100 (6 * a + b) = nI f) : ∃ F, tbR h t ns nd nr nm dt mu F ∧ ∀ a b, a < ns → b < ns → F (6 * a + b) ≤ 5 ∧ zI h1 100 (6 * a + b) = nI (F (6 * a + b)) := by
  refine ⟨fun i => (zI h1 100 i).toNatClampNeg, fun a b ha hb => ?_, fun a b ha hb => ?_⟩
  · obtain ⟨f, f1, f2, f3⟩ := q a b ha hb
    have e : (zI h1 100 (6 * a + b)).toNatClampNeg = f := by rw [f3]; exact zcla (by omega)
    show (zI h1 100 (6 * a + b)).toNatClampNeg ≤ nm ∧ sxR (zI h) t ns nd nr nm dt a b (nI mu) (zI h1 100 (6 * a + b)).toNatClampNeg
    rw [e]; exact ⟨f1, f2⟩
  · obtain ⟨f, f1, f2, f3⟩ := q a b ha hb
    have e : (zI h1 100 (6 * a + b)).toNatClampNeg = f := by rw [f3]; exact zcla (by omega)
    show (zI h1 100 (6 * a + b)).toNatClampNeg ≤ 5 ∧ zI h1 100 (6 * a + b) = nI (zI h1 100 (6 * a + b)).toNatClampNeg
    rw [e]; exact ⟨by omega, f3⟩
set_option maxHeartbeats 4000000 in
theorem pr_rests {G : zG} {d : Nat} {h : zMem} (hOK : zOK h) (x : Int32) : pairX G mX9_rests mX10_rests (d + 200) [.ref 0, .int x] [.ref 132, .int x] h := by
  have hOK' := hOK
  obtain ⟨t, ns, nd, nr, nm, dt, u, nn, tp, S1, S2, h174, hI⟩ := hOK'
  obtain ⟨td, md, rl, -⟩ := hI.1
  have td' := td
  obtain ⟨t0, t1, t2, t3, h6, h8, h6r, h5, hlw⟩ := td
  have hdt : dt ≤ 9999 := hI.2.2.1.2.2.2
  have tn : t = 8 ∨ t = 103 := S1.2.1
  have P : ∀ h1, cR h h1 → zSh2 (zsI h1 132 0 0) ∧ zInv (zI (zsI h1 132 0 0)) t ns nd nr nm dt u nn tp := fun h1 k => ⟨S2.W k.thr.1, zInv_j S1.2.1 hI k.thr.2⟩
  by_cases ok : ¬ x < 1 ∧ ¬ (99 : Int32) < x ∧ 0 < ns ∧ 0 < nd
  · obtain ⟨x0, x1, ns0, nd0⟩ := ok
    obtain ⟨mu, mu1, mu2, rfl⟩ := zrange (lo := 1) (hi := 99) (a := 1) (b := 99) (by decide) (by decide) x0 x1
    refine pairX_ro hOK (fun v => ∃ F, tbR h t ns nd nr nm dt mu F ∧ v = nI (ctO (fun a b => isRb F a b ns 0) ns ns 0)) ?_ ?_
    · refine cn_X9_rests (sg_X9_rests_0 S1 ⟨_, burn_c S1 t0 t1 h6 h8, ?_⟩)
      rintro v h2 ⟨rfl, rfl⟩
      rw [if_pos ⟨x0, x1, ns0, nd0⟩]
      refine ⟨S1, fun _ => ⟨_, X9_countFeastThinkers_ok S1 td' (now_st hI.2.2.1) hdt nd0 _, ?_⟩, fun c => absurd c n10⟩
      rintro h7 ⟨c1, c2, c3⟩
      obtain ⟨F, F1, F2⟩ := tb_of h5 c3
      have s7 := S1.W c1
      have n7 : zI h7 (t + 1) 0 = nI ns := by rw [c2 (t + 1) (by omega)]; exact t0
      refine ⟨s7, ?_⟩
      obtain ⟨Q, hQ⟩ : ∃ Q : Int32 → zMem → Prop, Q = (fun v h1 => cR h2 h1 ∧ ∃ F, tbR h2 t ns nd nr nm dt mu F ∧ v = nI (ctO (fun a b => isRb F a b ns 0) ns ns 0)) := ⟨_, rfl⟩
      rw [← hQ]
      obtain ⟨p, hp⟩ : ∃ p : Nat → Nat → Bool, p = fun a b => isRb F a b ns 0 := ⟨_, rfl⟩
      have pv : ∀ a b, isRb F a b ns 0 = p a b := fun a b => by rw [hp]
      have inner : ∀ (a : Nat), a < ns → ∀ T, (∀ c, c = T → zg G mX9_rests (d + 200) 19 [.ref 0, .int (nI mu), .int (nI c), .int (nI (a + 1)), zU] [] h7 (zPI Q)) → ∀ m b c, m + b = ns → c + ctI (p a) m b = T → zg G mX9_rests (d + 200) 35 [.ref 0, .int (nI mu), .int (nI c), .int (nI a), .int (nI b)] [] h7 (zPI Q) := by
        intro a ha T K m
        induction m with
        | zero =>
          intro b c hb hc
          refine sg_X9_rests_35 s7 ?_
          rw [n7, nI_1 a]
          exact ⟨fun _ => K c hc, fun q => absurd (nI_le (by omega) (by omega)) q⟩
        | succ m ih =>
          intro b c hb hc
          rw [ctI] at hc
          refine sg_X9_rests_35 s7 ?_
          rw [n7]
          simp only [nI_1]
          refine ⟨fun q => absurd q (nI_ge (by omega) (by omega)), fun _ => ⟨_, X9_isRest_ok s7 n7 h6 ha (show b < ns by omega) F2, ?_⟩⟩
          rintro v h3 ⟨rfl, rfl⟩
          rw [pv]
          refine ⟨s7, fun q => ih (b + 1) c (by omega) ?_, fun q => ih (b + 1) (c + 1) (by omega) ?_⟩
          · rw [if_neg (b32_0.mp q)] at hc; omega
          · have : p a b = true := Classical.byContradiction fun z => q (b32_0.mpr z)
            rw [if_pos this] at hc; omega
      have outer : ∀ n a c, n + a = ns → c + ctO p ns n a = ctO p ns ns 0 → zg G mX9_rests (d + 200) 19 [.ref 0, .int (nI mu), .int (nI c), .int (nI a), zU] [] h7 (zPI Q) := by
        intro n
        induction n with
        | zero =>
          intro a c ha hc
          refine sg_X9_rests_19 s7 ?_
          have : c = ctO p ns ns 0 := hc
          rw [n7, this, hQ]
          exact ⟨fun _ => ⟨cR_tr2 c1 c2, F, F1, by rw [hp]⟩, fun q => absurd (nI_le (by omega) (by omega)) q⟩
        | succ n ih =>
          intro a c ha hc
          rw [ctO] at hc
          refine sg_X9_rests_19 s7 ?_
          rw [n7]
          exact ⟨fun q => absurd q (nI_ge (by omega) (by omega)), fun _ => inner a (by omega) (c + ctI (p a) ns 0) (fun c' e => ih (a + 1) c' (by omega) (by omega)) ns 0 c (by omega) rfl⟩
      exact outer ns 0 0 (by omega) (by omega)
    · rintro v h1 ⟨F, F1, rfl⟩ k
      obtain ⟨S3, I3⟩ := P h1 k
      refine cn_X10_rests (sg_X10_rests_0 (S2.W k.1) ⟨_, burn_m S3 I3.1.2.1.1 I3.1.2.1.2.1 h6 h8, ?_⟩)
      rintro v h2 ⟨rfl, rfl⟩
      rw [if_pos ⟨x0, x1, ns0, nd0⟩]
      refine ⟨S3, fun c => absurd c n10, fun _ => ⟨fun w h' => w = nI (ctO (fun a b => isRb F a b ns 0) ns ns 0) ∧ jR h1 h', cn_X10_restOf (sg_X10_restOf_0 S3 ⟨_, X10_laySextons_ok S1.2.1 S3 hI k.eT mu2 nd0 F1, ?_⟩), ?_⟩⟩
      · rintro h3 ⟨j3, F3⟩
        have s3 := S3.W j3.1
        exact ⟨s3, restOf_all s3 (by rw [j3.2.row (by omega)]; exact I3.1.2.1.1) h6 h5 (fun a b ha hb => ⟨(F1 a b ha hb).1, F3 a b ha hb⟩) ⟨rfl, (jR.thr h1).trans j3⟩⟩
      · rintro w h4 ⟨rfl, j4⟩
        exact ⟨(S2.W k.1).W j4.1, rfl, j4.two⟩
  · refine pairI.x (pair_ro hOK (-1) ?_ (fun h1 k => ?_))
    · refine cn_X9_rests (sg_X9_rests_0 S1 ⟨_, burn_c S1 t0 t1 h6 h8, ?_⟩)
      rintro v h2 ⟨rfl, rfl⟩
      rw [if_neg ok]
      exact ⟨S1, fun c => absurd rfl c, fun _ => ⟨rfl, cR.rf _⟩⟩
    · obtain ⟨S3, I3⟩ := P h1 k
      refine cn_X10_rests (sg_X10_rests_0 (S2.W k.1) ⟨_, burn_m S3 I3.1.2.1.1 I3.1.2.1.2.1 h6 h8, ?_⟩)
      rintro v h2 ⟨rfl, rfl⟩
      rw [if_neg ok]
      exact ⟨S3, fun _ => ⟨rfl, jR.thr h1⟩, fun c => absurd rfl c⟩
set_option maxHeartbeats 4000000 in
theorem pr_rest {G : zG} {d : Nat} {h : zMem} (hOK : zOK h) (x y : Int32) : pairX G mX9_rest mX10_rest (d + 200) [.ref 0, .int x, .int y] [.ref 132, .int x, .int y] h := by
  have hOK' := hOK
  obtain ⟨t, ns, nd, nr, nm, dt, u, nn, tp, S1, S2, h174, hI⟩ := hOK'
  obtain ⟨td, md, rl, -⟩ := hI.1
  have td' := td
  obtain ⟨t0, t1, t2, t3, h6, h8, h6r, h5, hlw⟩ := td
  have hdt : dt ≤ 9999 := hI.2.2.1.2.2.2
  have tn : t = 8 ∨ t = 103 := S1.2.1
  have P : ∀ h1, cR h h1 → zSh2 (zsI h1 132 0 0) ∧ zInv (zI (zsI h1 132 0 0)) t ns nd nr nm dt u nn tp := fun h1 k => ⟨S2.W k.thr.1, zInv_j S1.2.1 hI k.thr.2⟩
  by_cases ok : ¬ x < 1 ∧ ¬ (99 : Int32) < x ∧ 0 < ns ∧ 0 < nd
  · have ok' := ok
    obtain ⟨x0, x1, ns0, nd0⟩ := ok
    by_cases y0 : y < 0
    · have y0' : ¬ (0 : Int32) ≤ y := Int32.not_le.mpr y0
      refine pairI.x (pair_ro hOK (-1) ?_ (fun h1 k => ?_))
      · refine cn_X9_rest (sg_X9_rest_0 S1 ⟨_, burn_c S1 t0 t1 h6 h8, ?_⟩)
        rintro v h2 ⟨rfl, rfl⟩
        rw [if_pos ok']
        exact ⟨S1, fun _ => ⟨rfl, cR.rf _⟩, fun _ => ⟨fun c => absurd c y0', fun _ => ⟨rfl, cR.rf _⟩⟩⟩
      · obtain ⟨S3, I3⟩ := P h1 k
        refine cn_X10_rest (sg_X10_rest_0 (S2.W k.1) ⟨_, burn_m S3 I3.1.2.1.1 I3.1.2.1.2.1 h6 h8, ?_⟩)
        rintro v h2 ⟨rfl, rfl⟩
        rw [if_pos ok']
        exact ⟨S3, fun _ => ⟨rfl, jR.thr h1⟩, fun _ => ⟨fun _ => ⟨rfl, jR.thr h1⟩, fun c => absurd y0 c⟩⟩
    obtain ⟨k0, hk0, rfl⟩ := nI_of y0
    obtain ⟨mu, mu1, mu2, rfl⟩ := zrange (lo := 1) (hi := 99) (a := 1) (b := 99) (by decide) (by decide) x0 x1
    refine pairX_ro hOK (fun v => ∃ F, tbR h t ns nd nr nm dt mu F ∧ v = fdO (fun a b => isRb F a b ns 0) ns ns 0 k0) ?_ ?_
    · refine cn_X9_rest (sg_X9_rest_0 S1 ⟨_, burn_c S1 t0 t1 h6 h8, ?_⟩)
      rintro v h2 ⟨rfl, rfl⟩
      rw [if_pos ok']
      refine ⟨S1, fun c => absurd c n10, fun _ => ⟨fun _ => ⟨_, X9_countFeastThinkers_ok S1 td' (now_st hI.2.2.1) hdt nd0 _, ?_⟩, fun c => absurd (Int32.not_lt.mp y0) c⟩⟩
      rintro h7 ⟨c1, c2, c3⟩
      obtain ⟨F, F1, F2⟩ := tb_of h5 c3
      have s7 := S1.W c1
      have n7 : zI h7 (t + 1) 0 = nI ns := by rw [c2 (t + 1) (by omega)]; exact t0
      refine ⟨s7, ?_⟩
      obtain ⟨Q, hQ⟩ : ∃ Q : Int32 → zMem → Prop, Q = (fun v h1 => cR h2 h1 ∧ ∃ F, tbR h2 t ns nd nr nm dt mu F ∧ v = fdO (fun a b => isRb F a b ns 0) ns ns 0 k0) := ⟨_, rfl⟩
      rw [← hQ]
      obtain ⟨p, hp⟩ : ∃ p : Nat → Nat → Bool, p = fun a b => isRb F a b ns 0 := ⟨_, rfl⟩
      have pv : ∀ a b, isRb F a b ns 0 = p a b := fun a b => by rw [hp]
      obtain ⟨R, hR⟩ : ∃ R, R = fdO p ns ns 0 k0 := ⟨_, rfl⟩
      have QR : ∀ v, v = R → Q v h7 := fun v e => by rw [hQ]; exact ⟨cR_tr2 c1 c2, F, F1, by rw [e, hR, hp]⟩
      have inner : ∀ (a : Nat), a < ns → ∀ K' : Nat → Int32, (∀ l, l < 2 ^ 31 → K' l = R → zg G mX9_rest (d + 200) 24 [.ref 0, .int (nI mu), .int (nI k0), .int (nI l), .int (nI (a + 1)), zU] [] h7 (zPI Q)) → ∀ m b l, m + b = ns → l < 2 ^ 31 → fdI (p a) K' a m b l = R → zg G mX9_rest (d + 200) 41 [.ref 0, .int (nI mu), .int (nI k0), .int (nI l), .int (nI a), .int (nI b)] [] h7 (zPI Q) := by
        intro a ha K' K m
        induction m with
        | zero =>
          intro b l hb hl hc
          refine sg_X9_rest_41 s7 ?_
          rw [n7, nI_1 a]
          exact ⟨fun _ => K l hl hc, fun q => absurd (nI_le (by omega) (by omega)) q⟩
        | succ m ih =>
          intro b l hb hl hc
          rw [fdI] at hc
          refine sg_X9_rest_41 s7 ?_
          rw [n7, ix10]
          simp only [nI_1]
          refine ⟨fun q => absurd q (nI_ge (by omega) (by omega)), fun _ => ⟨_, X9_isRest_ok s7 n7 h6 ha (show b < ns by omega) F2, ?_⟩⟩
          rintro v h3 ⟨rfl, rfl⟩
          rw [pv]
          refine ⟨s7, fun q => ih (b + 1) l (by omega) hl ?_, fun q => ⟨fun q3 => ?_, fun q3 => QR _ ?_⟩⟩
          · rw [if_neg (b32_0.mp q)] at hc; exact hc
          · have : p a b = true := Classical.byContradiction fun z => q (b32_0.mpr z)
            have l0 : ¬ l = 0 := fun e => q3 (by rw [e]; rfl)
            rw [if_pos this, if_neg l0] at hc
            have := ih (b + 1) (l - 1) (by omega) (by omega) hc
            rw [show nI l + (-1) = nI (l - 1) by have := pk_m1 (l - 1); rw [show l - 1 + 1 = l by omega] at this; exact this]
            exact this
          · have : p a b = true := Classical.byContradiction fun z => q (b32_0.mpr z)
            have l0 : l = 0 := Nat.eq_zero_of_not_pos (fun p => nI_ne0 p hl q3)
            rw [if_pos this, if_pos l0] at hc; exact hc
      have outer : ∀ n a l, n + a = ns → l < 2 ^ 31 → fdO p ns n a l = R → zg G mX9_rest (d + 200) 24 [.ref 0, .int (nI mu), .int (nI k0), .int (nI l), .int (nI a), zU] [] h7 (zPI Q) := by
        intro n
        induction n with
        | zero =>
          intro a l ha hl hc
          refine sg_X9_rest_24 s7 ?_
          rw [n7]
          exact ⟨fun _ => QR _ hc, fun q => absurd (nI_le (by omega) (by omega)) q⟩
        | succ n ih =>
          intro a l ha hl hc
          rw [fdO] at hc
          refine sg_X9_rest_24 s7 ?_
          rw [n7]
          exact ⟨fun q => absurd q (nI_ge (by omega) (by omega)), fun _ => inner a (by omega) _ (fun l' e1 e2 => ih (a + 1) l' (by omega) e1 e2) ns 0 l (by omega) hl hc⟩
      exact outer ns 0 k0 (by omega) hk0 hR.symm
    · rintro v h1 ⟨F, F1, rfl⟩ k
      obtain ⟨S3, I3⟩ := P h1 k
      refine cn_X10_rest (sg_X10_rest_0 (S2.W k.1) ⟨_, burn_m S3 I3.1.2.1.1 I3.1.2.1.2.1 h6 h8, ?_⟩)
      rintro v h2 ⟨rfl, rfl⟩
      rw [if_pos ok']
      refine ⟨S3, fun c => absurd c n10, fun _ => ⟨fun c => absurd c y0, fun _ => ⟨fun w h' => w = fdO (fun a b => isRb F a b ns 0) ns ns 0 k0 ∧ jR h1 h', cn_X10_restOf (sg_X10_restOf_0 S3 ⟨_, X10_laySextons_ok S1.2.1 S3 hI k.eT mu2 nd0 F1, ?_⟩), ?_⟩⟩⟩
      · rintro h3 ⟨j3, F3⟩
        have s3 := S3.W j3.1
        exact ⟨s3, restOf_one s3 (by rw [j3.2.row (by omega)]; exact I3.1.2.1.1) h6 h5 hk0 (fun a b ha hb => ⟨(F1 a b ha hb).1, F3 a b ha hb⟩) ⟨rfl, (jR.thr h1).trans j3⟩⟩
      · rintro w h4 ⟨rfl, j4⟩
        exact ⟨(S2.W k.1).W j4.1, rfl, j4.two⟩
  · refine pairI.x (pair_ro hOK (-1) ?_ (fun h1 k => ?_))
    · refine cn_X9_rest (sg_X9_rest_0 S1 ⟨_, burn_c S1 t0 t1 h6 h8, ?_⟩)
      rintro v h2 ⟨rfl, rfl⟩
      rw [if_neg ok]
      exact ⟨S1, fun _ => ⟨rfl, cR.rf _⟩, fun c => absurd rfl c⟩
    · obtain ⟨S3, I3⟩ := P h1 k
      refine cn_X10_rest (sg_X10_rest_0 (S2.W k.1) ⟨_, burn_m S3 I3.1.2.1.1 I3.1.2.1.2.1 h6 h8, ?_⟩)
      rintro v h2 ⟨rfl, rfl⟩
      rw [if_neg ok]
      exact ⟨S3, fun _ => ⟨rfl, jR.thr h1⟩, fun c => absurd rfl c⟩
