/-! lines: what stays well -/
section PU
variable {n p o : Nat} {B : Nat → Int32} {A : tM} {s : List Int32}
def rw3 (A A' : tM) : Prop := ∀ c, c ≠ 21 → c ≠ 22 → c ≠ 23 → A' c = A c
theorem apd_rw (x z : Int32) : rw3 A (apd A x z) := fun c a1 a2 a3 => by unfold apd; rw [zup_ne _ _ a1, zup_ne _ _ a3, zup_ne _ _ a2]
theorem addK_rw : rw3 A (addK A) := fun c a1 a2 a3 => by unfold addK; rw [zup_ne _ _ a1]
theorem rw3.trans {A A1 A2 : tM} (a : rw3 A A1) (b : rw3 A1 A2) : rw3 A A2 := fun c x y z => (b c x y z).trans (a c x y z)
theorem stl_rw {least : Int32} : ∀ {s : List Int32} {A : tM}, rw3 A (stl least s A).2
  | [], A => fun _ _ _ _ => rfl
  | x :: r, A => by
    rw [stl]
    split
    · exact fun _ _ _ _ => rfl
    · exact (apd_rw x 0).trans stl_rw
theorem stepV_rw {w' o' s' A'} (e : stepV B n o s A p = .inr (w', o', s', A')) : rw3 A A' ∧ tkt B n p ≠ 37 := by
  unfold stepV at e
  split at e
  · rename_i c; split at e
    · cases e; exact ⟨fun _ _ _ _ => rfl, by rw [c]; decide⟩
    · cases e
  · split at e
    · rename_i c; split at e
      · cases e; exact ⟨addK_rw, by rw [c.1]; decide⟩
      · cases e
    · split at e
      · rename_i c; split at e
        · cases e
        · split at e
          · cases e; exact ⟨addK_rw.trans (apd_rw _ _), by rw [c]; decide⟩
          · cases e
      · split at e
        · rename_i c; split at e
          · cases e; exact ⟨addK_rw.trans (apd_rw _ _), fun z => by rw [z] at c; exact absurd c.2 (by decide)⟩
          · cases e
        · cases e
theorem stepS_rw {w' o' s' A'} (e : stepS B n o s A p = .inr (w', o', s', A')) : rw3 A A' ∧ tkt B n p ≠ 37 := by
  unfold stepS at e
  split at e
  · rename_i c; cases e; exact ⟨stl_rw, by rw [c.1]; decide⟩
  · split at e
    · cases e
    · rename_i c
      have n37 : tkt B n p ≠ 37 := fun z => c (Or.inl (by rw [z]; decide))
      split at e
      · split at e
        · cases e
        · split at e
          · cases e; exact ⟨stl_rw.trans addK_rw, n37⟩
          · cases e
      · split at e
        · cases e; exact ⟨stl_rw.trans addK_rw, n37⟩
        · cases e
theorem stl_nil : ∀ {s : List Int32} {A : tM}, (∀ x, x ∈ s → x = 32 ∨ (¬ str x < 1 ∧ x ≠ 36)) → ops s = 0 → (stl 1 s A).1 = []
  | [], A, _, _ => rfl
  | x :: r, A, hx, h => by
    rw [stl]
    rcases hx x List.mem_cons_self with e | e
    · subst e; rw [ops, if_pos rfl] at h; omega
    · have n32 : x ≠ 32 := by rintro rfl; exact e.1 (by decide)
      rw [if_neg e.1]
      exact stl_nil (fun y hy => hx y (List.mem_cons_of_mem _ hy)) (by rw [ops, if_neg n32] at h; exact h)
theorem fml_ok : ∀ (k : Nat) {w : Bool} {o : Nat} {s : List Int32} {A : tM} {p : Nat} {A2 : tM} {p3 : Nat}, p ≤ n → wfF o s A → fml B n k w o s A p = .inr (A2, p3) → rw3 A A2 ∧ wfF 0 [] A2 ∧ p ≤ p3 ∧ p3 ≤ n ∧ tkt B n p3 = 34
  | 0, w, o, s, A, p, A2, p3, hp, hw, e => by cases e
  | k + 1, w, o, s, A, p, A2, p3, hp, hw, e => by
    rw [fml] at e
    by_cases c : w = false ∧ o = 0 ∧ tkt B n p = 34
    · rw [if_pos c] at e
      cases e
      refine ⟨stl_rw, ?_, Nat.le_refl _, hp, c.2.2⟩
      have w1 := stl_wf (least := 1) (by decide) hw
      obtain ⟨ln, kn, v1, v2, v3, v4, v5, v6, v7⟩ := hw
      rw [stl_nil v7 (by omega), c.2.1] at w1
      exact w1
    · rw [if_neg c] at e
      have hp2 := (tke_le B hp).2
      cases w with
      | true =>
        rw [if_pos rfl] at e
        cases es : stepV B n o s A p with
        | inl x => rw [es] at e; cases e
        | inr x =>
          obtain ⟨w', o', s', A'⟩ := x
          rw [es] at e
          obtain ⟨a1, a2⟩ := stepV_rw es
          obtain ⟨b1, b2, b3, b4, b5⟩ := fml_ok k hp2 (stepV_wf hw es) e
          exact ⟨a1.trans b1, b2, by have := tke_gt B hp a2; omega, b4, b5⟩
      | false =>
        rw [if_neg (by decide)] at e
        cases es : stepS B n o s A p with
        | inl x => rw [es] at e; cases e
        | inr x =>
          obtain ⟨w', o', s', A'⟩ := x
          rw [es] at e
          obtain ⟨a1, a2⟩ := stepS_rw es
          obtain ⟨b1, b2, b3, b4, b5⟩ := fml_ok k hp2 (stepS_wf hw es) e
          exact ⟨a1.trans b1, b2, by have := tke_gt B hp a2; omega, b4, b5⟩
theorem stp_inr {A' : tM} {p' : Nat} (e : stp B n A p = .inr (A', p')) : A' = A ∧ p' = tke B n p ∧ tkt B n p = 34 := by
  unfold stp at e
  split at e
  · rename_i c; cases e; exact ⟨rfl, rfl, c⟩
  · cases e
theorem wfL_up {k j : Nat} {v : Int32} (hk : k ≠ 21) (h26 : k ≠ 26) (w : wfL A) : wfL (zup A k j v) := ⟨wfF_up hk w.1, fun r hr => by rw [zup_ne _ _ (Ne.symm h26)]; exact w.2 r hr⟩
theorem nwA_wfL {kd : Nat} (hk : kd < 4) (w : wfL A) : wfL (nwA B n A kd p) := wfL_up (by decide) (by decide) (wfL_up (by omega) (by omega) w)
theorem tke_mono (h : p ≤ n) : p ≤ tke B n p ∧ tke B n p ≤ n := ⟨Nat.le_trans (tks_le B h).1 (tke_le B h).1, (tke_le B h).2⟩
theorem rdLn_wf {A' : tM} {p' : Nat} (hp : p ≤ n) (wA : wfA A) (wL : wfL A) (e : rdLn B n A p = .inr (A', p')) : wfA A' ∧ wfL A' ∧ p < p' ∧ p' ≤ n := by
  have p1 := tke_mono (B := B) hp
  have p2 := tke_mono (B := B) p1.2
  have p3 := tke_mono (B := B) p2.2
  have p4 := tke_mono (B := B) p3.2
  have p5 := tke_mono (B := B) p4.2
  have fin : tkt B n p ≠ 37 → ∀ {P : Prop} {q : Nat}, P → tke B n p ≤ q → q ≤ n → p' = tke B n q → P ∧ p < p' ∧ p' ≤ n := fun h37 P q hP h1 h2 h3 => by
    have := tke_mono (B := B) h2
    have := tke_gt B hp h37
    exact ⟨hP, by omega, by omega⟩
  have sr : ∀ (kd row : Nat) (hi : Int32), kd < 4 → row ≠ 1 → row ≠ 21 → row ≠ 26 → tkt B n p ≠ 37 → lnSR B n A kd row hi p = .inr (A', p') → wfA A' ∧ wfL A' ∧ p < p' ∧ p' ≤ n := by
    intro kd row hi hk r1 r2 r3 h37 e
    unfold lnSR at e
    split at e
    · rename_i c; split at e
      · obtain ⟨rfl, e2, _⟩ := stp_inr e
        have := fin h37 (P := True) trivial (q := tke B n (tke B n (tke B n p))) (by omega) (by omega) e2
        exact ⟨wfA_up (nwA_wf hk wA c) r1, wfL_up r2 r3 (nwA_wfL hk wL), this.2⟩
      · cases e
    · cases e
  unfold rdLn at e
  split at e
  · rename_i c; exact sr 0 7 999 (by decide) (by decide) (by decide) (by decide) (by rw [c]; decide) e
  split at e
  · rename_i c
    have h37 : tkt B n p ≠ 37 := by rw [c]; decide
    unfold lnDay at e
    split at e
    · rename_i c1; split at e
      · obtain ⟨rfl, e2, _⟩ := stp_inr e
        have := fin h37 (P := True) trivial (q := tke B n (tke B n (tke B n p))) (by omega) (by omega) e2
        exact ⟨wfA_up (nwA_wf (by decide) wA c1) (by decide), wfL_up (by decide) (by decide) (nwA_wfL (by decide) wL), this.2⟩
      · obtain ⟨rfl, e2, _⟩ := stp_inr e
        have := fin h37 (P := True) trivial (q := tke B n (tke B n p)) (by omega) (by omega) e2
        exact ⟨nwA_wf (by decide) wA c1, nwA_wfL (by decide) wL, this.2⟩
    · cases e
  split at e
  · rename_i c
    have h37 : tkt B n p ≠ 37 := by rw [c]; decide
    unfold lnMix at e
    split at e
    · split at e
      · rename_i c1
        split at e
        · split at e
          · split at e
            · obtain ⟨rfl, e2, _⟩ := stp_inr e
              have := fin h37 (P := True) trivial (q := tke B n (tke B n (tke B n (tke B n p)))) (by omega) (by omega) e2
              obtain ⟨j, hj, ej⟩ := tdX_ix c1
              have wj := (wA 1 (by decide)).2
              have m8 : msT 1 = 8 := rfl
              have dj : dyT B n A p = j := by unfold dyT; rw [ej, zcla (by omega)]
              rw [dj]
              exact ⟨wfA_up (wfA_up wA (by omega)) (by decide), wfL_up (by decide) (by decide) (wfL_up (by omega) (by omega) wL), this.2⟩
            · cases e
          · cases e
        · cases e
      · cases e
    · cases e
  split at e
  · rename_i c; exact sr 2 18 100 (by decide) (by decide) (by decide) (by decide) (by rw [c]; decide) e
  split at e
  · rename_i c
    have h37 : tkt B n p ≠ 37 := by rw [c]; decide
    unfold lnMonk at e
    split at e
    · rename_i c1; split at e
      · split at e
        · obtain ⟨rfl, e2, _⟩ := stp_inr e
          have := fin h37 (P := True) trivial (q := tke B n (tke B n (tke B n (tke B n p)))) (by omega) (by omega) e2
          exact ⟨wfA_up (wfA_up (nwA_wf (by decide) wA c1) (by decide)) (by decide), wfL_up (by decide) (by decide) (wfL_up (by decide) (by decide) (nwA_wfL (by decide) wL)), this.2⟩
        · cases e
      · cases e
    · cases e
  split at e
  · rename_i c
    have h37 : tkt B n p ≠ 37 := by rw [c]; decide
    unfold lnLinger at e
    split at e
    · split at e
      · obtain ⟨rfl, e2, _⟩ := stp_inr e
        have := fin h37 (P := True) trivial (q := tke B n (tke B n p)) (by omega) (by omega) e2
        exact ⟨wfA_up (wfA_up wA (by decide)) (by decide), wfL_up (by decide) (by decide) (wfL_up (by decide) (by decide) wL), this.2⟩
      · cases e
    · cases e
  split at e
  · rename_i c
    have h37 : tkt B n p ≠ 37 := by rw [c]; decide
    unfold lnSeed at e
    split at e
    · split at e
      · obtain ⟨rfl, e2, _⟩ := stp_inr e
        have := fin h37 (P := True) trivial (q := tke B n (tke B n p)) (by omega) (by omega) e2
        exact ⟨wfA_up wA (by decide), wfL_up (by decide) (by decide) wL, this.2⟩
      · cases e
    · cases e
  split at e
  · rename_i c
    have h37 : tkt B n p ≠ 37 := by rw [c]; decide
    unfold lnLaw at e
    split at e
    · cases e
    · split at e
      · split at e
        · rename_i c9 c11 c26
          cases ef : fml B n 700 true 0 [] (bgL A (tkt B n (tke B n p) - 9).toNatClampNeg) (tke B n (tke B n p)) with
          | inl x => rw [ef] at e; cases e
          | inr x =>
            obtain ⟨A2, p3⟩ := x
            rw [ef] at e
            obtain ⟨r0, hr⟩ : ∃ r0, r0 = (tkt B n (tke B n p) - 9).toNatClampNeg := ⟨_, rfl⟩
            rw [← hr] at e ef
            have wb : wfF 0 [] (bgL A r0) := wfF_up (by decide) (wfF_up (by decide) (wfF_up (by decide) wL.1))
            obtain ⟨f1, f2, f3, f4, f5⟩ := fml_ok 700 p2.2 wb ef
            obtain ⟨rfl, e2, _⟩ := stp_inr e
            have := fin h37 (P := True) trivial (q := p3) (by omega) (by omega) e2
            refine ⟨wfA_up ?_ (by decide), wfL_up (by decide) (by decide) ⟨f2, fun r hr' => ?_⟩, this.2⟩
            · intro kd hkd
              unfold mny
              rw [f1 1 (by decide) (by decide) (by decide)]
              unfold bgL
              rw [zup_ne _ _ (by decide), zup_ne _ _ (by decide), zup_ne _ _ (by decide)]
              exact wA kd hkd
            · rw [f1 26 (by decide) (by decide) (by decide)]
              unfold bgL
              rw [zup_ne _ _ (by decide), zup_ne _ _ (by decide)]
              by_cases er : r = r0
              · subst er; rw [zup_s]; exact Or.inr rfl
              · rw [zup_i _ _ _ er]; exact wL.2 r hr'
        · cases e
      · cases e
  · cases e
/-- the text's lines -/
def txF (B : Nat → Int32) (n : Nat) : Nat → Nat → tM → Nat → Sum (Int32 × Nat) (tM × Nat)
  | 0, i, A, _ => .inr (A, i)
  | k + 1, i, A, p => if tkt B n p = 37 then .inr (A, i) else match rdLn B n A p with
    | .inl e => .inl e
    | .inr (A', p') => txF B n k (i + 1) A' p'
end PU
