/-! a formula: the model's levels with loops -/
section LP
variable {G : zG} {n : Nat} {h1 : zMem} {B : Nat → Int32}
theorem kn_mono {o p p' : Nat} {σ τ : List Int32} {A Ac : tM} {L N : Int32} {h h2 : zMem} (w : wfF o σ A) (O : lvO h1 n B o σ A p L N h τ Ac p' h2) (hL : ¬ L < 1) : (A 21 8).toNatClampNeg ≤ ((apds τ Ac) 21 8).toNatClampNeg := by
  have wσ := apds_wf (fun x hx => lt_1 hL (O.2.2.2.2.1 x hx)) O.2.2.1
  obtain ⟨ln, kn, w1, w2, w3, w4, _⟩ := w
  obtain ⟨ln', kn', v1, v2, v3, v4, _⟩ := wσ
  have k1 := O.2.2.2.2.2.2.2.2.1
  unfold lnA at k1
  rw [w1, v1, zcla (show ln < 2 ^ 31 by omega), zcla (show ln' < 2 ^ 31 by omega)] at k1
  rw [w2, v2, zcla (show kn < 2 ^ 31 by omega), zcla (show kn' < 2 ^ 31 by omega)]
  omega
theorem addK_ms {o m : Nat} {A A1 : tM} (hm : 6 * (8 - o) + (64 - (A 21 8).toNatClampNeg) ≤ m) (h : (A 21 8).toNatClampNeg ≤ (A1 21 8).toNatClampNeg) {kn : Nat} (e : A1 21 8 = nI kn) (h64 : kn ≤ 64) : 6 * (8 - o) + (64 - ((addK A1) 21 8).toNatClampNeg) ≤ m := by
  unfold addK
  rw [zup_s, e, nI_1, zcla (show kn + 1 < 2 ^ 31 by omega)]
  rw [e, zcla (show kn < 2 ^ 31 by omega)] at h
  omega
theorem lvO.wk {o p p' : Nat} {σ τ : List Int32} {A Ac : tM} {L N L' : Int32} {h h2 : zMem} (O : lvO h1 n B o σ A p L N h τ Ac p' h2) (hl : L' ≤ L) : lvO h1 n B o σ A p L' N h τ Ac p' h2 := by
  obtain ⟨o1, o2, o3, o4, o5, o6, o7, o8, o9⟩ := O
  refine ⟨o1, o2, o3, o4, fun x hx z => o5 x hx ?_, o6, o7, o8, o9⟩
  rw [Int32.lt_iff_toInt_lt] at *
  rw [Int32.le_iff_toInt_le] at hl
  omega
theorem lvO.nx {o p p' : Nat} {σ τ : List Int32} {A Ac : tM} {L N N' : Int32} {h h2 : zMem} (O : lvO h1 n B o σ A p L N h τ Ac p' h2) (hl : nxL N' (τ ++ σ) Ac (tkt B n p')) : lvO h1 n B o σ A p L N' h τ Ac p' h2 := by
  obtain ⟨o1, o2, o3, o4, o5, o6, o7, o8, o9⟩ := O
  exact ⟨o1, o2, o3, o4, o5, o6, o7, hl, o9⟩
theorem lt_up {x a b : Int32} (h : x < a) (hab : a ≤ b) : x < b := by
  rw [Int32.lt_iff_toInt_lt] at *
  rw [Int32.le_iff_toInt_le] at hab
  omega
theorem str_cases (x : Int32) : str x = 0 ∨ x = 12 ∨ x = 13 ∨ x = 14 ∨ str x = 4 ∨ x = 28 ∨ x = 29 ∨ x = 30 ∨ x = 31 := by
  by_cases c1 : x = 12
  · exact Or.inr (Or.inl c1)
  by_cases c2 : x = 13
  · exact Or.inr (Or.inr (Or.inl c2))
  by_cases c3 : x = 14
  · exact Or.inr (Or.inr (Or.inr (Or.inl c3)))
  by_cases c4 : x = 28
  · simp [c4]
  by_cases c5 : x = 29
  · simp [c5]
  by_cases c6 : x = 30
  · simp [c6]
  by_cases c7 : x = 31
  · simp [c7]
  have : str x = if x < 22 then 0 else if 27 < x then 0 else 4 := by unfold str; rw [if_neg c1, if_neg c2, if_neg c3, if_neg c4, if_neg c5, if_neg c6, if_neg c7]
  rw [this]
  by_cases d1 : x < 22
  · rw [if_pos d1]; simp
  · rw [if_neg d1]
    by_cases d2 : 27 < x
    · rw [if_pos d2]; simp
    · rw [if_neg d2]; simp
set_option maxHeartbeats 1000000 in
theorem lv_product (hG : gK G) (bs : mBs h1 n B) {m : Nat} (PY : LvC G h1 n B mX10_primary 14 7 true 7 m) : LvC G h1 n B mX10_product 15 6 true 6 m := by
  intro d o σ A p h I hm ht hn
  obtain ⟨R, hR⟩ : ∃ R : zMem → Prop, R = fun h' => zSh2 h' ∧ lvP h1 n B o σ A p 6 h h' := ⟨_, rfl⟩
  refine ⟨R, cn_X10_product (sg_X10_product_0 (I.1.1.sh bs) ?_), fun h4 z => by rw [hR] at z; exact z⟩
  have bad : ∀ h2, fmE h h2 → lvB h1 n B o σ A p h2 → zg G mX10_product (d + m + 15) 4 [.ref 132, zU] [] h2 (zPV R) := by
    intro h2 fe lb
    have lb' := lb
    obtain ⟨f, pl, b, _⟩ := lb'
    refine sg_X10_product_4 (b.1.sh bs) (m_isSignF bs b ⟨fun z => absurd rfl z, fun _ => m_isSignF bs b ⟨fun _ => ?_, fun z => absurd rfl z⟩⟩)
    rw [hR]
    exact ⟨b.1.sh bs, fe, Or.inl lb⟩
  have L : ∀ k (τ : List Int32) (Ac : tM) (p' : Nat) (h2 : zMem), k = n - p' → fmE h h2 → lvO h1 n B o σ A p 6 7 h τ Ac p' h2 → zg G mX10_product (d + m + 15) 4 [.ref 132, zU] [] h2 (zPV R) := by
    intro k
    induction k using Nat.strongRecOn with
    | ind k ih =>
      intro τ Ac p' h2 hk fe O
      have q := O.1
      have S := q.1.sh bs
      obtain ⟨ln, kn, e7, e8, l64, k64⟩ := O.num (by decide)
      have pp' := O.2.2.2.2.2.1
      have go : ∀ {w : Nat}, (w = 30 ∨ w = 31) → tkt B n p' = nI w → ∃ Q6 : zMem → Prop, zConV G mX10_knot (d + m + 14) [.ref 132] h2 Q6 ∧ (∀ h7, Q6 h7 → zSh2 h7 ∧ ∃ Q9 : zMem → Prop, zConV G mX10_goOn (d + m + 14) [.ref 132] h7 Q9 ∧ (∀ h10, Q9 h10 → zSh2 h10 ∧ ∃ Q12 : zMem → Prop, zConV G mX10_primary (d + m + 14) [.ref 132] h10 Q12 ∧ (∀ h13, Q12 h13 → zSh2 h13 ∧ ∃ Q15 : zMem → Prop, zConV G mX10_puts (d + m + 14) [.ref 132, .int 2, .int (zI h2 132 24)] h13 Q15 ∧ (∀ h16, Q15 h16 → zSh2 h16 ∧ zg G mX10_product (d + m + 15) 4 [.ref 132, zU] [] h16 (zPV R))))) := by
        intro w hw tk
        have va : zI h2 132 24 = sgV w := ((q.2.1.2.2.2.s (w := w) (by omega) (by omega)).mpr tk).2
        have sL : str (tkt B n p') = 6 := by rw [tk]; rcases hw with rfl | rfl <;> decide
        have n14 : tkt B n p' ≠ 14 := by rw [tk]; rcases hw with rfl | rfl <;> decide
        obtain ⟨b1, b2, b3⟩ := bin_step O (least := 6) (by rw [sL]; decide) n14 ⟨fun z => absurd (sL.symm.trans z) (by decide), fun _ => sL.symm⟩ (fun z => absurd (sL.symm.trans z) (by decide)) ht (fun x hx => O.2.2.2.2.1 x hx) (by decide)
        rw [va]
        refine sim_body (D := d + m + 2) (tok := tkt B n p') (code := sgV w) (r := 1) (LY := 7) hG bs q O.2.1 O.2.2.2.1 e8 k64 (by omega) (by rw [tk]; rcases hw with rfl | rfl <;> decide) b1 (by decide) (by rw [tk]; rcases hw with rfl | rfl <;> decide) (by rw [tk]; rcases hw with rfl | rfl <;> decide) (by rw [tk]; rcases hw with rfl | rfl <;> decide) (by rcases hw with rfl | rfl <;> exact Or.inr (Or.inr ⟨rfl, Or.inr (by unfold sgOK; decide)⟩)) (by rcases hw with rfl | rfl <;> exact Or.inr ⟨by decide, rfl⟩) O.2.2.2.2.2.2.2.2 fe e7 l64 b2 b3 (fun h3 c i3 => ?_) (fun h3 f pl b => ?_) (fun h5 f5 lb => bad h5 f5 lb) (fun h5 τ2 Ac2 p3 f5 _ O5 hp3 => ?_)
        · exact PY d o _ _ _ h3 i3 (addK_ms hm (kn_mono I.2.2.1 O (by decide)) e8 k64) (by show str (tkt B n p') < 7; rw [sL]; decide) (fun _ => Or.inr (by show 3 < str (tkt B n p'); rw [sL]; decide))
        · exact bad_prim (G := G) bs (d + m + 13) h3 f pl b
        · have O6 := O5 6 (by decide) (by rw [sL]; decide)
          have := O6.1.2.2.1
          exact ih (n - p3) (by omega) _ _ _ _ rfl f5 O6
      refine sg_X10_product_4 S (m_isSign bs q (w := 30) (by decide) (by decide) rfl (fun c1 => ⟨fun _ => go (Or.inl rfl) c1, fun z => absurd z (by decide)⟩) (fun c1 => ⟨fun z => absurd rfl z, fun _ => m_isSign bs q (w := 31) (by decide) (by decide) rfl (fun c2 => ⟨fun z => absurd z (by decide), fun _ => go (Or.inr rfl) c2⟩) (fun c2 => ⟨fun _ => ?_, fun z => absurd rfl z⟩)⟩))
      rw [hR]
      refine ⟨S, fe, Or.inr ⟨τ, Ac, p', O.nx ?_⟩⟩
      have c1' : ¬ tkt B n p' = 30 := c1
      have c2' : ¬ tkt B n p' = 31 := c2
      rcases O.2.2.2.2.2.2.2.1 with e | e | e | e
      · exact Or.inl e
      · exact Or.inr (Or.inl e)
      · rcases str_cases (tkt B n p') with g | g | g | g | g | g | g | g | g
        · exact Or.inl g
        all_goals first | (exact absurd g c1') | (exact absurd g c2') | (rw [g] at e ⊢; exact Or.inr (Or.inr (Or.inl (by first | exact e | decide)))) | (exact Or.inr (Or.inr (Or.inl (by rw [g]; decide)))) | (rw [g] at e; exact absurd e (by decide))
      · exact Or.inr (Or.inr (Or.inr e))
  obtain ⟨Q2, z1, z2⟩ := PY d o σ A p h I hm (lt_up ht (by decide)) hn
  refine ⟨Q2, z1, fun h2 z => ⟨(z2 h2 z).1, ?_⟩⟩
  obtain ⟨fe, lb | ⟨τ, Ac, p', O⟩⟩ := (z2 h2 z).2
  · exact bad h2 fe lb
  · exact L (n - p') τ Ac p' h2 rfl fe (O.wk (by decide))
set_option maxHeartbeats 1000000 in
theorem lv_sum (hG : gK G) (bs : mBs h1 n B) {m : Nat} (PY : LvC G h1 n B mX10_product 15 6 true 6 m) : LvC G h1 n B mX10_sum 16 5 true 5 m := by
  intro d o σ A p h I hm ht hn
  obtain ⟨R, hR⟩ : ∃ R : zMem → Prop, R = fun h' => zSh2 h' ∧ lvP h1 n B o σ A p 5 h h' := ⟨_, rfl⟩
  refine ⟨R, cn_X10_sum (sg_X10_sum_0 (I.1.1.sh bs) ?_), fun h4 z => by rw [hR] at z; exact z⟩
  have bad : ∀ h2, fmE h h2 → lvB h1 n B o σ A p h2 → zg G mX10_sum (d + m + 16) 4 [.ref 132, zU] [] h2 (zPV R) := by
    intro h2 fe lb
    have lb' := lb
    obtain ⟨f, pl, b, _⟩ := lb'
    refine sg_X10_sum_4 (b.1.sh bs) (m_isSignF bs b ⟨fun z => absurd rfl z, fun _ => m_isSignF bs b ⟨fun _ => ?_, fun z => absurd rfl z⟩⟩)
    rw [hR]
    exact ⟨b.1.sh bs, fe, Or.inl lb⟩
  have L : ∀ k (τ : List Int32) (Ac : tM) (p' : Nat) (h2 : zMem), k = n - p' → fmE h h2 → lvO h1 n B o σ A p 5 6 h τ Ac p' h2 → zg G mX10_sum (d + m + 16) 4 [.ref 132, zU] [] h2 (zPV R) := by
    intro k
    induction k using Nat.strongRecOn with
    | ind k ih =>
      intro τ Ac p' h2 hk fe O
      have q := O.1
      have S := q.1.sh bs
      obtain ⟨ln, kn, e7, e8, l64, k64⟩ := O.num (by decide)
      have pp' := O.2.2.2.2.2.1
      have go : ∀ {w : Nat}, (w = 28 ∨ w = 29) → tkt B n p' = nI w → ∃ Q6 : zMem → Prop, zConV G mX10_knot (d + m + 15) [.ref 132] h2 Q6 ∧ (∀ h7, Q6 h7 → zSh2 h7 ∧ ∃ Q9 : zMem → Prop, zConV G mX10_goOn (d + m + 15) [.ref 132] h7 Q9 ∧ (∀ h10, Q9 h10 → zSh2 h10 ∧ ∃ Q12 : zMem → Prop, zConV G mX10_product (d + m + 15) [.ref 132] h10 Q12 ∧ (∀ h13, Q12 h13 → zSh2 h13 ∧ ∃ Q15 : zMem → Prop, zConV G mX10_puts (d + m + 15) [.ref 132, .int 2, .int (zI h2 132 24)] h13 Q15 ∧ (∀ h16, Q15 h16 → zSh2 h16 ∧ zg G mX10_sum (d + m + 16) 4 [.ref 132, zU] [] h16 (zPV R))))) := by
        intro w hw tk
        have va : zI h2 132 24 = sgV w := ((q.2.1.2.2.2.s (w := w) (by omega) (by omega)).mpr tk).2
        have sL : str (tkt B n p') = 5 := by rw [tk]; rcases hw with rfl | rfl <;> decide
        have n14 : tkt B n p' ≠ 14 := by rw [tk]; rcases hw with rfl | rfl <;> decide
        obtain ⟨b1, b2, b3⟩ := bin_step O (least := 5) (by rw [sL]; decide) n14 ⟨fun z => absurd (sL.symm.trans z) (by decide), fun _ => sL.symm⟩ (fun z => absurd (sL.symm.trans z) (by decide)) ht (fun x hx => O.2.2.2.2.1 x hx) (by decide)
        rw [va]
        refine sim_body (D := d + m + 3) (tok := tkt B n p') (code := sgV w) (r := 1) (LY := 6) hG bs q O.2.1 O.2.2.2.1 e8 k64 (by omega) (by rw [tk]; rcases hw with rfl | rfl <;> decide) b1 (by decide) (by rw [tk]; rcases hw with rfl | rfl <;> decide) (by rw [tk]; rcases hw with rfl | rfl <;> decide) (by rw [tk]; rcases hw with rfl | rfl <;> decide) (by rcases hw with rfl | rfl <;> exact Or.inr (Or.inr ⟨rfl, Or.inr (by unfold sgOK; decide)⟩)) (by rcases hw with rfl | rfl <;> exact Or.inr ⟨by decide, rfl⟩) O.2.2.2.2.2.2.2.2 fe e7 l64 b2 b3 (fun h3 c i3 => ?_) (fun h3 f pl b => ?_) (fun h5 f5 lb => bad h5 f5 lb) (fun h5 τ2 Ac2 p3 f5 _ O5 hp3 => ?_)
        · exact PY d o _ _ _ h3 i3 (addK_ms hm (kn_mono I.2.2.1 O (by decide)) e8 k64) (by show str (tkt B n p') < 6; rw [sL]; decide) (fun _ => Or.inr (by show 3 < str (tkt B n p'); rw [sL]; decide))
        · exact bad_prod (G := G) bs (d + m + 13) h3 f pl b
        · have O6 := O5 5 (by decide) (by rw [sL]; decide)
          have := O6.1.2.2.1
          exact ih (n - p3) (by omega) _ _ _ _ rfl f5 O6
      refine sg_X10_sum_4 S (m_isSign bs q (w := 28) (by decide) (by decide) rfl (fun c1 => ⟨fun _ => go (Or.inl rfl) c1, fun z => absurd z (by decide)⟩) (fun c1 => ⟨fun z => absurd rfl z, fun _ => m_isSign bs q (w := 29) (by decide) (by decide) rfl (fun c2 => ⟨fun z => absurd z (by decide), fun _ => go (Or.inr rfl) c2⟩) (fun c2 => ⟨fun _ => ?_, fun z => absurd rfl z⟩)⟩))
      rw [hR]
      refine ⟨S, fe, Or.inr ⟨τ, Ac, p', O.nx ?_⟩⟩
      have c1' : ¬ tkt B n p' = 28 := c1
      have c2' : ¬ tkt B n p' = 29 := c2
      rcases O.2.2.2.2.2.2.2.1 with e | e | e | e
      · exact Or.inl e
      · exact Or.inr (Or.inl e)
      · rcases str_cases (tkt B n p') with g | g | g | g | g | g | g | g | g
        · exact Or.inl g
        all_goals first | (exact absurd g c1') | (exact absurd g c2') | (rw [g] at e ⊢; exact Or.inr (Or.inr (Or.inl (by first | exact e | decide)))) | (exact Or.inr (Or.inr (Or.inl (by rw [g]; decide)))) | (rw [g] at e; exact absurd e (by decide))
      · exact Or.inr (Or.inr (Or.inr e))
  obtain ⟨Q2, z1, z2⟩ := PY d o σ A p h I hm (lt_up ht (by decide)) hn
  refine ⟨Q2, z1, fun h2 z => ⟨(z2 h2 z).1, ?_⟩⟩
  obtain ⟨fe, lb | ⟨τ, Ac, p', O⟩⟩ := (z2 h2 z).2
  · exact bad h2 fe lb
  · exact L (n - p') τ Ac p' h2 rfl fe (O.wk (by decide))
end LP
