/-! a formula: or, and, not -/
section LN
variable {G : zG} {n : Nat} {h1 : zMem} {B : Nat → Int32}
set_option maxHeartbeats 1000000 in
theorem lv_conjunction (hG : gK G) (bs : mBs h1 n B) {m : Nat} (PY : LvC G h1 n B mX10_negation 17 4 false 3 m) : LvC G h1 n B mX10_conjunction 18 2 false 2 m := by
  intro d o σ A p h I hm ht hn
  obtain ⟨R, hR⟩ : ∃ R : zMem → Prop, R = fun h' => zSh2 h' ∧ lvP h1 n B o σ A p 2 h h' := ⟨_, rfl⟩
  refine ⟨R, cn_X10_conjunction (sg_X10_conjunction_0 (I.1.1.sh bs) ?_), fun h4 z => by rw [hR] at z; exact z⟩
  have bad : ∀ h2, fmE h h2 → lvB h1 n B o σ A p h2 → zg G mX10_conjunction (d + m + 18) 4 [.ref 132] [] h2 (zPV R) := by
    intro h2 fe lb
    have lb' := lb
    obtain ⟨f, pl, b, _⟩ := lb'
    refine sg_X10_conjunction_4 (b.1.sh bs) (m_isWordF bs b ⟨fun _ => ?_, fun z => absurd rfl z⟩)
    rw [hR]
    exact ⟨b.1.sh bs, fe, Or.inl lb⟩
  have L : ∀ k (τ : List Int32) (Ac : tM) (p' : Nat) (h2 : zMem), k = n - p' → fmE h h2 → lvO h1 n B o σ A p 2 3 h τ Ac p' h2 → zg G mX10_conjunction (d + m + 18) 4 [.ref 132] [] h2 (zPV R) := by
    intro k
    induction k using Nat.strongRecOn with
    | ind k ih =>
      intro τ Ac p' h2 hk fe O
      have q := O.1
      have S := q.1.sh bs
      obtain ⟨ln, kn, e7, e8, l64, k64⟩ := O.num (by decide)
      have pp' := O.2.2.2.2.2.1
      refine sg_X10_conjunction_4 S (m_isWord bs q (w := 13) (by decide) (fun tk => ⟨fun z => absurd z (by decide), fun _ => ?_⟩) (fun c1 => ⟨fun _ => ?_, fun z => absurd rfl z⟩))
      · have sL : str (tkt B n p') = 2 := by rw [tk]; decide
        have n14 : tkt B n p' ≠ 14 := by rw [tk]; decide
        obtain ⟨b1, b2, b3⟩ := bin_step O (least := 2) (by rw [sL]; decide) n14 ⟨fun z => absurd (sL.symm.trans z) (by decide), fun _ => sL.symm⟩ (fun z => absurd (sL.symm.trans z) (by decide)) ht (fun x hx => O.2.2.2.2.1 x hx) (by decide)
        refine sim_body (D := d + m + 5) (tok := tkt B n p') (code := 261) (r := 1) (LY := 3) hG bs q O.2.1 O.2.2.2.1 e8 k64 (by omega) (by rw [tk]; decide) b1 (by decide) (by rw [tk]; decide) (by rw [tk]; decide) (by rw [tk]; decide) (Or.inr (Or.inr ⟨rfl, Or.inr (by unfold sgOK; decide)⟩)) (Or.inr ⟨by decide, rfl⟩) O.2.2.2.2.2.2.2.2 fe e7 l64 b2 b3 (fun h3 c i3 => ?_) (fun h3 f pl b => ?_) (fun h5 f5 lb => bad h5 f5 lb) (fun h5 τ2 Ac2 p3 f5 _ O5 hp3 => ?_)
        · exact PY d o _ _ _ h3 i3 (addK_ms hm (kn_mono I.2.2.1 O (by decide)) e8 k64) (by show str (tkt B n p') < 4; rw [sL]; decide) (fun z => absurd z (by decide))
        · exact bad_neg (G := G) bs (d + m + 13) h3 f pl b
        · have O6 := O5 2 (by decide) (by rw [sL]; decide)
          have := O6.1.2.2.1
          exact ih (n - p3) (by omega) _ _ _ _ rfl f5 O6
      · rw [hR]
        refine ⟨S, fe, Or.inr ⟨τ, Ac, p', O.nx ?_⟩⟩
        have c1' : ¬ tkt B n p' = 13 := c1
        rcases O.2.2.2.2.2.2.2.1 with e | e | e | e
        · exact Or.inl e
        · exact Or.inr (Or.inl e)
        · rcases str_cases (tkt B n p') with g | g | g | g | g | g | g | g | g
          · exact Or.inl g
          all_goals first | (exact absurd g c1') | (rw [g] at e ⊢; exact Or.inr (Or.inr (Or.inl (by first | exact e | decide)))) | (exact Or.inr (Or.inr (Or.inl (by rw [g]; decide)))) | (rw [g] at e; exact absurd e (by decide))
        · exact Or.inr (Or.inr (Or.inr e))
  obtain ⟨Q2, z1, z2⟩ := PY d o σ A p h I hm (lt_up ht (by decide)) (fun z => absurd z (by decide))
  refine ⟨Q2, z1, fun h2 z => ⟨(z2 h2 z).1, ?_⟩⟩
  obtain ⟨fe, lb | ⟨τ, Ac, p', O⟩⟩ := (z2 h2 z).2
  · exact bad h2 fe lb
  · exact L (n - p') τ Ac p' h2 rfl fe (O.wk (by decide))
set_option maxHeartbeats 1000000 in
theorem lv_expression (hG : gK G) (bs : mBs h1 n B) {m : Nat} (PY : LvC G h1 n B mX10_conjunction 18 2 false 2 m) : LvC G h1 n B mX10_expression 19 1 false 1 m := by
  intro d o σ A p h I hm ht hn
  obtain ⟨R, hR⟩ : ∃ R : zMem → Prop, R = fun h' => zSh2 h' ∧ lvP h1 n B o σ A p 1 h h' := ⟨_, rfl⟩
  refine ⟨R, cn_X10_expression (sg_X10_expression_0 (I.1.1.sh bs) ?_), fun h4 z => by rw [hR] at z; exact z⟩
  have bad : ∀ h2, fmE h h2 → lvB h1 n B o σ A p h2 → zg G mX10_expression (d + m + 19) 4 [.ref 132] [] h2 (zPV R) := by
    intro h2 fe lb
    have lb' := lb
    obtain ⟨f, pl, b, _⟩ := lb'
    refine sg_X10_expression_4 (b.1.sh bs) (m_isWordF bs b ⟨fun _ => ?_, fun z => absurd rfl z⟩)
    rw [hR]
    exact ⟨b.1.sh bs, fe, Or.inl lb⟩
  have L : ∀ k (τ : List Int32) (Ac : tM) (p' : Nat) (h2 : zMem), k = n - p' → fmE h h2 → lvO h1 n B o σ A p 1 2 h τ Ac p' h2 → zg G mX10_expression (d + m + 19) 4 [.ref 132] [] h2 (zPV R) := by
    intro k
    induction k using Nat.strongRecOn with
    | ind k ih =>
      intro τ Ac p' h2 hk fe O
      have q := O.1
      have S := q.1.sh bs
      obtain ⟨ln, kn, e7, e8, l64, k64⟩ := O.num (by decide)
      have pp' := O.2.2.2.2.2.1
      refine sg_X10_expression_4 S (m_isWord bs q (w := 12) (by decide) (fun tk => ⟨fun z => absurd z (by decide), fun _ => ?_⟩) (fun c1 => ⟨fun _ => ?_, fun z => absurd rfl z⟩))
      · have sL : str (tkt B n p') = 1 := by rw [tk]; decide
        have n14 : tkt B n p' ≠ 14 := by rw [tk]; decide
        obtain ⟨b1, b2, b3⟩ := bin_step O (least := 1) (by rw [sL]; decide) n14 ⟨fun z => absurd (sL.symm.trans z) (by decide), fun _ => sL.symm⟩ (fun z => absurd (sL.symm.trans z) (by decide)) ht (fun x hx => O.2.2.2.2.1 x hx) (by decide)
        refine sim_body (D := d + m + 6) (tok := tkt B n p') (code := 262) (r := 1) (LY := 2) hG bs q O.2.1 O.2.2.2.1 e8 k64 (by omega) (by rw [tk]; decide) b1 (by decide) (by rw [tk]; decide) (by rw [tk]; decide) (by rw [tk]; decide) (Or.inr (Or.inr ⟨rfl, Or.inr (by unfold sgOK; decide)⟩)) (Or.inr ⟨by decide, rfl⟩) O.2.2.2.2.2.2.2.2 fe e7 l64 b2 b3 (fun h3 c i3 => ?_) (fun h3 f pl b => ?_) (fun h5 f5 lb => bad h5 f5 lb) (fun h5 τ2 Ac2 p3 f5 _ O5 hp3 => ?_)
        · exact PY d o _ _ _ h3 i3 (addK_ms hm (kn_mono I.2.2.1 O (by decide)) e8 k64) (by show str (tkt B n p') < 2; rw [sL]; decide) (fun z => absurd z (by decide))
        · exact bad_conj (G := G) bs (d + m + 13) h3 f pl b
        · have O6 := O5 1 (by decide) (by rw [sL]; decide)
          have := O6.1.2.2.1
          exact ih (n - p3) (by omega) _ _ _ _ rfl f5 O6
      · rw [hR]
        refine ⟨S, fe, Or.inr ⟨τ, Ac, p', O.nx ?_⟩⟩
        have c1' : ¬ tkt B n p' = 12 := c1
        rcases O.2.2.2.2.2.2.2.1 with e | e | e | e
        · exact Or.inl e
        · exact Or.inr (Or.inl e)
        · rcases str_cases (tkt B n p') with g | g | g | g | g | g | g | g | g
          · exact Or.inl g
          all_goals first | (exact absurd g c1') | (rw [g] at e ⊢; exact Or.inr (Or.inr (Or.inl (by first | exact e | decide)))) | (exact Or.inr (Or.inr (Or.inl (by rw [g]; decide)))) | (rw [g] at e; exact absurd e (by decide))
        · exact Or.inr (Or.inr (Or.inr e))
  obtain ⟨Q2, z1, z2⟩ := PY d o σ A p h I hm (lt_up ht (by decide)) (fun z => absurd z (by decide))
  refine ⟨Q2, z1, fun h2 z => ⟨(z2 h2 z).1, ?_⟩⟩
  obtain ⟨fe, lb | ⟨τ, Ac, p', O⟩⟩ := (z2 h2 z).2
  · exact bad h2 fe lb
  · exact L (n - p') τ Ac p' h2 rfl fe (O.wk (by decide))
theorem sg_cmp : ∀ a : Fin 13, (sgV (22 + a.val) = 60 ∨ sgV (22 + a.val) = 62 ∨ sgV (22 + a.val) = 61 ∨ 256 ≤ sgV (22 + a.val)) ↔ a.val ≤ 5 := by decide +kernel
theorem cmp_str : ∀ a : Fin 6, str (nI (22 + a.val)) = 4 ∧ nI (22 + a.val) ≠ 14 ∧ nI (22 + a.val) ≠ 37 ∧ nI (22 + a.val) = opT 2 (sgV (22 + a.val)) ∧ nI (22 + a.val) ≠ 36 ∧ nI (22 + a.val) ≠ 32 ∧ sgV (22 + a.val) ≠ 260 := by decide +kernel
theorem cmp_ok : ∀ a : Fin 6, sgOK (sgV (22 + a.val)) := by unfold sgOK; decide +kernel
theorem str4_tok {x : Int32} (h : str x = 4) : ∃ w : Nat, 22 ≤ w ∧ w ≤ 27 ∧ x = nI w := by
  have h2 : ¬ x < 22 ∧ ¬ 27 < x := by
    unfold str at h
    repeat' (split at h)
    all_goals first | (exact absurd h (by decide)) | skip
    rename_i a b
    exact ⟨a, b⟩
  exact zrange (lo := 22) (hi := 27) (a := 22) (b := 27) rfl rfl h2.1 h2.2
set_option maxHeartbeats 2000000 in
theorem lv_neg (hG : gK G) (bs : mBs h1 n B) {m : Nat} (PS : LvC G h1 n B mX10_sum 16 5 true 5 m) (PN : ∀ m', m = m' + 1 → LvC G h1 n B mX10_negation 17 4 false 3 m') : LvC G h1 n B mX10_negation 17 4 false 3 m := by
  intro d o σ A p h I hm ht hn
  have q := I.1
  have S := q.1.sh bs
  obtain ⟨R, hR⟩ : ∃ R : zMem → Prop, R = fun h' => zSh2 h' ∧ lvP h1 n B o σ A p 3 h h' := ⟨_, rfl⟩
  refine ⟨R, cn_X10_negation (sg_X10_negation_0 S ?_), fun h4 z => by rw [hR] at z; exact z⟩
  obtain ⟨ln0, kn0, w1, w2, w3, w4, w5, w6, w7⟩ := id I.2.2.1
  refine m_isWord bs q (w := 14) (by decide) (fun tk => ⟨fun z => absurd z (by decide), fun _ => ?_⟩) (fun tk => ⟨fun _ => ?_, fun z => absurd rfl z⟩)
  · -- not
    have tk' : tkt B n p = 14 := tk
    have n3 : ¬ 3 < topS σ := by
      intro z
      rw [Int32.lt_iff_toInt_lt] at *
      have a : (3 : Int32).toInt = 3 := by decide
      have b : (4 : Int32).toInt = 4 := by decide
      omega
    have eV : stepV B n o σ A p = if A 21 8 < 64 then .inr (true, o, 14 :: σ, addK A) else .inl (2, tks B n p) := by
      unfold stepV
      rw [if_neg (by rw [tk']; decide), if_pos ⟨tk', n3⟩]
    have m1 : A 21 8 < 64 → 1 ≤ 64 - kn0 := fun c => by
      rw [w2] at c
      have := Nat.lt_of_not_le (fun y => absurd c (nI_nlt (b := 64) y (by omega)))
      omega
    have kz : (A 21 8).toNatClampNeg = kn0 := by rw [w2, zcla (by omega)]
    refine sim_body (D := d + m + 4) (p := p) (tok := 14) (code := 260) (r := 0) (LY := 3) (A := A) (A1 := A) hG bs q I.2.1 I.2.2.2 w2 w4 (Nat.le_refl _) (by rw [tk']; decide) (fun c => addK_wf I.2.2.1 c (by decide) (by decide)) (by decide) (by decide) (by decide) (by decide) (Or.inr (Or.inr ⟨rfl, Or.inl rfl⟩)) (Or.inl ⟨rfl, rfl⟩) ⟨Nat.le_refl _, fun _ _ => ⟨rfl, rfl⟩, fun m => by rw [Nat.sub_self]; rfl⟩ (fmE.rf h) w1 (by omega) (fun c k hk => ?_) (fun c k hk => ?_) (fun h3 c i3 => ?_) (fun h3 f pl b => ?_) (fun h5 f5 lb => ?_) (fun h5 τ2 Ac2 p3 f5 _ O5 hp3 => ?_)
    · rw [if_pos c] at eV; exact fml_vl hk q.2.2.1 eV
    · rw [if_neg c] at eV; exact fml_vlF hk eV
    · have := m1 c
      obtain ⟨m', hm'⟩ : ∃ m', m = m' + 1 := ⟨m - 1, by omega⟩
      have e1 : ((addK A) 21 8).toNatClampNeg = kn0 + 1 := by unfold addK; rw [zup_s, w2, nI_1, zcla (by omega)]
      have := PN m' hm' d o _ _ _ h3 i3 (by rw [e1]; rw [kz] at hm; omega) (by show str 14 < 4; decide) (fun z => absurd z (by decide))
      rw [show d + m + 4 + 12 = d + m' + 17 by omega]
      exact this
    · rw [show d + m + 4 + 12 = (d + m + 12) + 4 by omega]
      exact bad_neg (G := G) bs (d + m + 12) h3 f pl b
    · rw [hR]; obtain ⟨f, pl, b, _⟩ := id lb; exact ⟨b.1.sh bs, f5, Or.inl lb⟩
    · rw [hR]
      have O6 := O5 3 (by decide) (by decide)
      exact ⟨O6.1.1.sh bs, f5, Or.inr ⟨_, _, _, O6⟩⟩
  · -- a sum, perhaps compared with another
    obtain ⟨Q2, z1, z2⟩ := PS d o σ A p h I hm (lt_up ht (by decide)) (fun _ => Or.inl tk)
    refine ⟨Q2, z1, fun h7 z => ⟨(z2 h7 z).1, ?_⟩⟩
    obtain ⟨fe, lb | ⟨τ, Ac, p', O⟩⟩ := (z2 h7 z).2
    · obtain ⟨f, pl, b, _⟩ := id lb
      refine ⟨fun _ => ?_, fun z => absurd (b.2.1.symm.trans z) b.2.2.1⟩
      rw [hR]; exact ⟨b.1.sh bs, fe, Or.inl lb⟩
    have q7 := O.1
    have S7 := q7.1.sh bs
    obtain ⟨ln, kn, e7, e8, l64, k64⟩ := O.num (by decide)
    have pp' := O.2.2.2.2.2.1
    -- no more
    have stop : ¬ str (tkt B n p') = 4 → R h7 := fun n4 => by
      rw [hR]
      refine ⟨S7, fe, Or.inr ⟨τ, Ac, p', (O.wk (by decide)).nx ?_⟩⟩
      rcases O.2.2.2.2.2.2.2.1 with e | e | e | e
      · exact Or.inl e
      · exact Or.inr (Or.inl e)
      · rcases str_cases (tkt B n p') with g | g | g | g | g | g | g | g | g
        · exact Or.inl g
        · exact Or.inr (Or.inr (Or.inl (by rw [g]; decide)))
        · exact Or.inr (Or.inr (Or.inl (by rw [g]; decide)))
        · exact Or.inr (Or.inl g)
        · exact absurd g n4
        all_goals (rw [g] at e; exact absurd e (by decide))
      · exact absurd e.1 n4
    have go : ∀ {w : Nat}, 22 ≤ w → w ≤ 27 → tkt B n p' = nI w → ∃ Q6 : zMem → Prop, zConV G mX10_knot (d + m + 16) [.ref 132] h7 Q6 ∧ (∀ h8, Q6 h8 → zSh2 h8 ∧ ∃ Q9 : zMem → Prop, zConV G mX10_goOn (d + m + 16) [.ref 132] h8 Q9 ∧ (∀ h10, Q9 h10 → zSh2 h10 ∧ ∃ Q12 : zMem → Prop, zConV G mX10_sum (d + m + 16) [.ref 132] h10 Q12 ∧ (∀ h13, Q12 h13 → zSh2 h13 ∧ ∃ Q15 : zMem → Prop, zConV G mX10_puts (d + m + 16) [.ref 132, .int 2, .int (zI h7 132 24)] h13 Q15 ∧ (∀ h16, Q15 h16 → zSh2 h16 ∧ R h16)))) := by
      intro w wa wb tkw
      have va : zI h7 132 24 = sgV w := ((q7.2.1.2.2.2.s (w := w) (by omega) (by omega)).mpr tkw).2
      obtain ⟨a1, a2, a3, a4, a5, a6, a7⟩ := cmp_str ⟨w - 22, by omega⟩
      have a8 := cmp_ok ⟨w - 22, by omega⟩
      simp only [show 22 + (w - 22) = w by omega] at a1 a2 a3 a4 a5 a6 a7 a8
      rw [← tkw] at a1 a2 a3 a4 a5 a6
      have t4 : topS σ ≠ 4 := fun z => by rw [z] at ht; exact absurd ht (by decide)
      obtain ⟨b1, b2, b3⟩ := bin_step O (least := 5) (by rw [a1]; decide) a2 ⟨fun _ => rfl, fun z => absurd a1 z⟩ (fun _ => t4) (lt_up ht (by decide)) (fun x hx => O.2.2.2.2.1 x hx) (by decide)
      rw [va]
      refine sim_body (D := d + m + 4) (tok := tkt B n p') (code := sgV w) (r := 1) (LY := 5) hG bs q7 O.2.1 O.2.2.2.1 e8 k64 (by omega) a3 b1 (by decide) a4 a5 a6 (Or.inr (Or.inr ⟨rfl, Or.inr a8⟩)) (Or.inr ⟨a7, rfl⟩) O.2.2.2.2.2.2.2.2 fe e7 l64 b2 b3 (fun h3 c i3 => ?_) (fun h3 f pl b => ?_) (fun h5 f5 lb => ?_) (fun h5 τ2 Ac2 p3 f5 hτ2 O5 hp3 => ?_)
      · exact PS d o _ _ _ h3 i3 (addK_ms hm (kn_mono I.2.2.1 O (by decide)) e8 k64) (by show str (tkt B n p') < 5; rw [a1]; decide) (fun _ => Or.inr (by show 3 < str (tkt B n p'); rw [a1]; decide))
      · rw [show d + m + 4 + 12 = (d + m + 13) + 3 by omega]
        exact bad_sum (G := G) bs (d + m + 13) h3 f pl b
      · rw [hR]; obtain ⟨f, pl, b, _⟩ := id lb; exact ⟨b.1.sh bs, f5, Or.inl lb⟩
      · rw [hR]
        have O6 := O5 3 (by decide) (by rw [a1]; decide)
        refine ⟨O6.1.1.sh bs, f5, Or.inr ⟨_, _, _, O6.nx ?_⟩⟩
        have top4 : topS (stl 5 ((τ2 ++ [tkt B n p']) ++ σ) Ac2).1 = 4 := by
          rw [List.append_assoc, stl_app hτ2 (Or.inr (by show str (tkt B n p') < 5; rw [a1]; decide))]
          exact a1
        rcases O6.2.2.2.2.2.2.2.1 with e | e | e | e
        · exact Or.inl e
        · exact Or.inr (Or.inl e)
        · rcases str_cases (tkt B n p3) with g | g | g | g | g | g | g | g | g
          · exact Or.inl g
          · exact Or.inr (Or.inr (Or.inl (by rw [g]; decide)))
          · exact Or.inr (Or.inr (Or.inl (by rw [g]; decide)))
          · exact Or.inr (Or.inl g)
          · exact Or.inr (Or.inr (Or.inr ⟨g, top4⟩))
          all_goals (rw [g] at e; exact absurd e (by decide))
        · exact Or.inr (Or.inr (Or.inr e))
    refine ⟨fun z => absurd q7.2.2.2 z, fun _ => ⟨fun c3 => stop (fun z => ?_), fun c3 => ?_⟩⟩
    · obtain ⟨w, wa, wb, ew⟩ := str4_tok z
      exact c3 ((q7.2.1.2.2.2.s (w := w) (by omega) (by omega)).mpr ew).1
    · obtain ⟨w, wa, wb, ew, va⟩ : ∃ w : Nat, 22 ≤ w ∧ w ≤ 34 ∧ tkt B n p' = nI w ∧ zI h7 132 24 = sgV w := by
        rcases q7.2.1.2.2.2 with ⟨w', _, _, so, _⟩ | ⟨_, so, _⟩ | ⟨_, so, _⟩ | ⟨w', a1, a2, a3, so, a4⟩ | ⟨_, so⟩ | ⟨_, so⟩
        · exact absurd (so.symm.trans c3) (by decide)
        · exact absurd (so.symm.trans c3) (by decide)
        · exact absurd (so.symm.trans c3) (by decide)
        · exact ⟨w', a1, a2, a3, a4⟩
        · exact absurd (so.symm.trans c3) (by decide)
        · exact absurd (so.symm.trans c3) (by decide)
      have cm := sg_cmp ⟨w - 22, by omega⟩
      simp only [show 22 + (w - 22) = w by omega] at cm
      rw [← va] at cm
      have yes : (zI h7 132 24 = 60 ∨ zI h7 132 24 = 62 ∨ zI h7 132 24 = 61 ∨ 256 ≤ zI h7 132 24) → w ≤ 27 := fun z => by have := cm.mp z; omega
      refine ⟨fun c => go wa (yes (Or.inl c)) ew, fun d1 => ⟨fun c => go wa (yes (Or.inr (Or.inl c))) ew, fun d2 => ⟨fun c => go wa (yes (Or.inr (Or.inr (Or.inl c)))) ew, fun d3 => ⟨fun c => go wa (yes (Or.inr (Or.inr (Or.inr c)))) ew, fun d4 => stop (fun z => ?_)⟩⟩⟩⟩
      obtain ⟨w', wa', wb', ew'⟩ := str4_tok z
      have : w = w' := nI_inj (by omega) (by omega) (ew.symm.trans ew')
      rcases cm.mpr (show w - 22 ≤ 5 by omega) with y | y | y | y
      · exact d1 y
      · exact d2 y
      · exact d3 y
      · exact d4 y
end LN
