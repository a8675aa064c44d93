/-! a formula: the model's levels -/
section LV
variable {G : zG} {d n p : Nat} {h1 h : zMem} {B : Nat → Int32}
theorem fml_sg {k o : Nat} {s : List Int32} {A : tM} {w' o' s' A'} (hk : n - p < k) (hp : p ≤ n) (ht : tkt B n p ≠ 34 ∨ o ≠ 0) (e : stepS B n o s A p = .inr (w', o', s', A')) : ∃ k', n - tke B n p < k' ∧ fml B n k false o s A p = fml B n k' w' o' s' A' (tke B n p) := by
  obtain ⟨k', rfl⟩ : ∃ k', k = k' + 1 := ⟨k - 1, by omega⟩
  have gt := tke_gt B hp (stepS_rw e).2
  have le := (tke_le B hp).2
  refine ⟨k', by omega, ?_⟩
  rw [fml, if_neg (fun z => ht.elim (fun y => y z.2.2) (fun y => y z.2.1)), if_neg (by decide), e]
theorem fml_sgF {k o : Nat} {s : List Int32} {A : tM} {x} (hk : n - p < k) (ht : tkt B n p ≠ 34 ∨ o ≠ 0) (e : stepS B n o s A p = .inl x) : fml B n k false o s A p = .inl x := by
  obtain ⟨k', rfl⟩ : ∃ k', k = k' + 1 := ⟨k - 1, by omega⟩
  rw [fml, if_neg (fun z => ht.elim (fun y => y z.2.2) (fun y => y z.2.1)), if_neg (by decide), e]
theorem fml_vl {k o : Nat} {s : List Int32} {A : tM} {w' o' s' A'} (hk : n - p < k) (hp : p ≤ n) (e : stepV B n o s A p = .inr (w', o', s', A')) : ∃ k', n - tke B n p < k' ∧ fml B n k true o s A p = fml B n k' w' o' s' A' (tke B n p) := by
  obtain ⟨k', rfl⟩ : ∃ k', k = k' + 1 := ⟨k - 1, by omega⟩
  have gt := tke_gt B hp (stepV_rw e).2
  have le := (tke_le B hp).2
  refine ⟨k', by omega, ?_⟩
  rw [fml, if_neg (fun z => absurd z.1 (by decide)), if_pos rfl, e]
theorem fml_vlF {k o : Nat} {s : List Int32} {A : tM} {x} (hk : n - p < k) (e : stepV B n o s A p = .inl x) : fml B n k true o s A p = .inl x := by
  obtain ⟨k', rfl⟩ : ∃ k', k = k' + 1 := ⟨k - 1, by omega⟩
  rw [fml, if_neg (fun z => absurd z.1 (by decide)), if_pos rfl, e]
theorem apds_wf {o : Nat} : ∀ {τ σ : List Int32} {A : tM}, (∀ x, x ∈ τ → ¬ str x < 1) → wfF o (τ ++ σ) A → wfF o σ (apds τ A)
  | [], σ, A, _, w => w
  | x :: r, σ, A, h, w => by
    have hx : x ≠ 32 := by rintro rfl; exact h 32 List.mem_cons_self (by decide)
    exact apds_wf (τ := r) (fun y hy => h y (List.mem_cons_of_mem _ hy)) (apd_wf w hx)
/-- a level's contract -/
def LvC (G : zG) (h1 : zMem) (n : Nat) (B : Nat → Int32) (mY : zM) (c : Nat) (bd : Int32) (nt : Bool) (L : Int32) (m : Nat) : Prop := ∀ d o σ A p h, lvI h1 n B o σ A p h → 6 * (8 - o) + (64 - (A 21 8).toNatClampNeg) ≤ m → topS σ < bd → (nt = true → tkt B n p ≠ 14 ∨ 3 < topS σ) → ∃ Q2 : zMem → Prop, zConV G mY (d + m + c) [.ref 132] h Q2 ∧ (∀ h4, Q2 h4 → zSh2 h4 ∧ lvP h1 n B o σ A p L h h4)
/-- a level behind a fault -/
def LvF (G : zG) (h1 : zMem) (mY : zM) (c : Nat) : Prop := ∀ d h f pl, mbad h1 f pl h → ∃ Q2 : zMem → Prop, zConV G mY (d + c) [.ref 132] h Q2 ∧ (∀ h4, Q2 h4 → zSh2 h4 ∧ h4 = h)
theorem bad_prim (bs : mBs h1 n B) : LvF G h1 mX10_primary 1 := fun d h f pl b =>
  ⟨fun h' => zSh2 h' ∧ h' = h, cn_X10_primary (sg_X10_primary_0 (b.1.sh bs) ⟨fun z => absurd (b.2.1.symm.trans z) b.2.2.1, fun _ => ⟨b.1.sh bs, rfl⟩⟩), fun _ x => x⟩
theorem bad_prod (bs : mBs h1 n B) : LvF G h1 mX10_product 2 := fun d h f pl b => by
  refine ⟨fun h' => zSh2 h' ∧ h' = h, cn_X10_product (sg_X10_product_0 (b.1.sh bs) ?_), fun _ x => x⟩
  obtain ⟨Q2, z1, z2⟩ := bad_prim (G := G) bs d h f pl b
  refine ⟨Q2, z1, fun h2 z => ⟨(z2 h2 z).1, ?_⟩⟩
  rw [(z2 h2 z).2]
  refine sg_X10_product_4 (b.1.sh bs) (m_isSignF bs b ⟨fun z => absurd rfl z, fun _ => m_isSignF bs b ⟨fun _ => ⟨b.1.sh bs, rfl⟩, fun z => absurd rfl z⟩⟩)
theorem bad_sum (bs : mBs h1 n B) : LvF G h1 mX10_sum 3 := fun d h f pl b => by
  refine ⟨fun h' => zSh2 h' ∧ h' = h, cn_X10_sum (sg_X10_sum_0 (b.1.sh bs) ?_), fun _ x => x⟩
  obtain ⟨Q2, z1, z2⟩ := bad_prod (G := G) bs d h f pl b
  refine ⟨Q2, z1, fun h2 z => ⟨(z2 h2 z).1, ?_⟩⟩
  rw [(z2 h2 z).2]
  refine sg_X10_sum_4 (b.1.sh bs) (m_isSignF bs b ⟨fun z => absurd rfl z, fun _ => m_isSignF bs b ⟨fun _ => ⟨b.1.sh bs, rfl⟩, fun z => absurd rfl z⟩⟩)
theorem bad_neg (bs : mBs h1 n B) : LvF G h1 mX10_negation 4 := fun d h f pl b => by
  refine ⟨fun h' => zSh2 h' ∧ h' = h, cn_X10_negation (sg_X10_negation_0 (b.1.sh bs) ?_), fun _ x => x⟩
  refine m_isWordF bs b ⟨fun _ => ?_, fun z => absurd rfl z⟩
  obtain ⟨Q2, z1, z2⟩ := bad_sum (G := G) bs d h f pl b
  refine ⟨Q2, z1, fun h2 z => ⟨(z2 h2 z).1, ?_⟩⟩
  rw [(z2 h2 z).2]
  exact ⟨fun _ => ⟨b.1.sh bs, rfl⟩, fun z => absurd (b.2.1.symm.trans z) b.2.2.1⟩
theorem bad_conj (bs : mBs h1 n B) : LvF G h1 mX10_conjunction 5 := fun d h f pl b => by
  refine ⟨fun h' => zSh2 h' ∧ h' = h, cn_X10_conjunction (sg_X10_conjunction_0 (b.1.sh bs) ?_), fun _ x => x⟩
  obtain ⟨Q2, z1, z2⟩ := bad_neg (G := G) bs d h f pl b
  refine ⟨Q2, z1, fun h2 z => ⟨(z2 h2 z).1, ?_⟩⟩
  rw [(z2 h2 z).2]
  exact sg_X10_conjunction_4 (b.1.sh bs) (m_isWordF bs b ⟨fun _ => ⟨b.1.sh bs, rfl⟩, fun z => absurd rfl z⟩)
/-- a sign between: what the class does with it -/
theorem bin_step {o p' : Nat} {σ τ : List Int32} {A Ac : tM} {L N : Int32} {h2 : zMem} (O : lvO h1 n B o σ A p L N h τ Ac p' h2) {least : Int32} (s0 : ¬ str (tkt B n p') = 0) (n14 : tkt B n p' ≠ 14) (hl : (str (tkt B n p') = 4 → least = 5) ∧ (str (tkt B n p') ≠ 4 → least = str (tkt B n p'))) (h4 : str (tkt B n p') = 4 → topS σ ≠ 4) (ht : topS σ < least) (hτ : ∀ x, x ∈ τ → ¬ str x < least) (hl1 : ¬ least < 1) :
    ((apds τ Ac) 21 8 < 64 → wfF o (tkt B n p' :: σ) (addK (apds τ Ac))) ∧ ((apds τ Ac) 21 8 < 64 → ∀ k, n - p < k → ∃ k', n - tke B n p' < k' ∧ fml B n k true o σ A p = fml B n k' true o (tkt B n p' :: σ) (addK (apds τ Ac)) (tke B n p')) ∧ (¬ (apds τ Ac) 21 8 < 64 → ∀ k, n - p < k → fml B n k true o σ A p = .inl (2, tks B n p')) := by
  obtain ⟨o1, o2, o3, o4, o5, o6, o7, o8, o9⟩ := O
  have wσ := apds_wf (fun x hx => lt_1 hl1 (hτ x hx)) o3
  have n34 : tkt B n p' ≠ 34 := fun z => s0 (by rw [z]; decide)
  have n33 : tkt B n p' ≠ 33 := fun z => s0 (by rw [z]; decide)
  have est : stl least (τ ++ σ) Ac = (σ, apds τ Ac) := stl_app hτ (Or.inr ht)
  have eS : stepS B n o (τ ++ σ) Ac p' = if (apds τ Ac) 21 8 < 64 then .inr (true, o, tkt B n p' :: σ, addK (apds τ Ac)) else .inl (2, tks B n p') := by
    unfold stepS
    rw [if_neg (fun z => n33 z.1), if_neg (fun z => z.elim s0 n14)]
    by_cases c4 : str (tkt B n p') = 4
    · rw [hl.1 c4] at est
      rw [if_pos c4, est]
      show (if topS σ = 4 then _ else _) = _
      rw [if_neg (h4 c4)]
    · rw [hl.2 c4] at est
      rw [if_neg c4, est]
  refine ⟨fun c => addK_wf wσ c (str_36 s0).2 ⟨str_1 s0, (str_36 s0).1⟩, fun c k hk => ?_, fun c k hk => ?_⟩
  · rw [if_pos c] at eS
    obtain ⟨k', hk', e⟩ := o7 k hk
    obtain ⟨k2, hk2, e2⟩ := fml_sg hk' o1.2.2.1 (Or.inl n34) eS
    exact ⟨k2, hk2, e.trans e2⟩
  · rw [if_neg c] at eS
    obtain ⟨k', hk', e⟩ := o7 k hk
    exact e.trans (fml_sgF hk' (Or.inl n34) eS)
/-- the numbers of a level's end -/
theorem lvO.num {o p' : Nat} {σ τ : List Int32} {A Ac : tM} {L N : Int32} {h2 : zMem} (O : lvO h1 n B o σ A p L N h τ Ac p' h2) (hL : ¬ L < 1) : ∃ ln kn : Nat, (apds τ Ac) 21 7 = nI ln ∧ (apds τ Ac) 21 8 = nI kn ∧ ln ≤ 64 ∧ kn ≤ 64 := by
  have w := apds_wf (fun x hx => lt_1 hL (O.2.2.2.2.1 x hx)) O.2.2.1
  obtain ⟨ln, kn, w1, w2, w3, w4, _⟩ := w
  exact ⟨ln, kn, w1, w2, by omega, w4⟩
end LV
