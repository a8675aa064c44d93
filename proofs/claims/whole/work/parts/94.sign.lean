/-! the class's reader: signs, the formula, a law's line, every line -/
section FM
variable {G : zG} {d t b n p o : Nat} {h0 h : zMem} {B : Nat → Int32} {A : tM} {s : List Int32} {wt : Bool}
/-- behind a settling by 1 an opening sign is on top -/
theorem stl_open : ∀ {s : List Int32} {A : tM}, (∀ x, x ∈ s → x = 32 ∨ (¬ str x < 1 ∧ x ≠ 36)) → 0 < ops s → ∃ r, (stl 1 s A).1 = 32 :: r ∧ ops (32 :: r) = ops s
  | [], A, _, h => absurd h (Nat.lt_irrefl 0)
  | x :: r, A, hx, h => by
    rw [stl]
    rcases hx x List.mem_cons_self with e | e
    · subst e
      rw [if_pos (by decide)]
      exact ⟨r, rfl, rfl⟩
    · have n32 : x ≠ 32 := by rintro rfl; exact e.1 (by decide)
      rw [if_neg e.1]
      have := stl_open (A := apd A x 0) (fun y hy => hx y (List.mem_cons_of_mem _ hy)) (by rw [ops, if_neg n32] at h; exact h)
      rw [ops.eq_2 x r, if_neg n32]
      exact this
theorem stepV_wf (w : wfF o s A) : ∀ {w' o' s' A'}, stepV B n o s A p = .inr (w', o', s', A') → wfF o' s' A' := by
  intro w' o' s' A' e
  unfold stepV at e
  split at e
  · split at e
    · rename_i c
      cases e
      obtain ⟨ln, kn, w1, w2, w3, w4, w5, w6, w7⟩ := w
      refine ⟨ln, kn, w1, w2, ?_, w4, ?_, c, ?_⟩
      · rw [nop, if_pos rfl]; exact w3
      · rw [ops, if_pos rfl, w5]
      · intro y hy
        rcases List.mem_cons.mp hy with rfl | hy
        · exact Or.inl rfl
        · exact w7 y hy
    · cases e
  · split at e
    · split at e
      · rename_i c
        cases e
        exact addK_wf w c (by decide) (by decide)
      · cases e
    · split at e
      · split at e
        · cases e
        · split at e
          · rename_i c; cases e; exact addV_wf w c
          · cases e
      · split at e
        · split at e
          · rename_i c; cases e; exact addV_wf w c
          · cases e
        · cases e
theorem str_36 {x : Int32} (h : ¬ str x = 0) : x ≠ 36 ∧ x ≠ 32 := ⟨fun e => h (by rw [e]; decide), fun e => h (by rw [e]; decide)⟩
theorem str_or (x : Int32) : str x = 0 ∨ ¬ str x < 1 := by
  unfold str
  repeat' split
  all_goals decide
theorem str_1 {x : Int32} (h : ¬ str x = 0) : ¬ str x < 1 := (str_or x).resolve_left h
theorem stepS_wf (w : wfF o s A) : ∀ {w' o' s' A'}, stepS B n o s A p = .inr (w', o', s', A') → wfF o' s' A' := by
  intro w' o' s' A' e
  unfold stepS at e
  split at e
  · rename_i c
    cases e
    have w1 := stl_wf (least := 1) (by decide) w
    obtain ⟨ln, kn, v1, v2, v3, v4, v5, v6, v7⟩ := w
    obtain ⟨r, hr, ho⟩ := stl_open (s := s) (A := A) v7 (by omega)
    rw [hr] at w1 ⊢
    obtain ⟨ln', kn', u1, u2, u3, u4, u5, u6, u7⟩ := w1
    rw [nop, if_pos rfl] at u3
    rw [ops, if_pos rfl] at u5
    exact ⟨ln', kn', u1, u2, u3, u4, by show ops r = o - 1; omega, by omega, fun y hy => u7 y (List.mem_cons_of_mem _ hy)⟩
  · split at e
    · cases e
    · rename_i c
      have c0 : ¬ str (tkt B n p) = 0 := fun z => c (Or.inl z)
      split at e
      · split at e
        · cases e
        · split at e
          · rename_i c2; cases e; exact addK_wf (stl_wf (by decide) w) c2 (str_36 c0).2 ⟨str_1 c0, (str_36 c0).1⟩
          · cases e
      · split at e
        · rename_i c2; cases e; exact addK_wf (stl_wf (str_1 c0) w) c2 (str_36 c0).2 ⟨str_1 c0, (str_36 c0).1⟩
        · cases e
set_option maxHeartbeats 1000000 in
theorem X3_readSign_ok {Q : Int32 → zMem → Prop} (q : rB h0 t b n B) (f : fC h0 b n false o s A p h) (w : wfF o s A) (K : ∀ v h', stR2 h0 b n p (stepS B n o s A p) v h' → Q v h') : ∃ Q2 : Int32 → zMem → Prop, zConI G mX3_readSign (d + 3) [.ref 2] h Q2 ∧ (∀ v h3, Q2 v h3 → zSh1 h3 t ∧ Q v h3) := by
  have S := f.1.sh q
  refine ⟨fun v h3 => zSh1 h3 t ∧ Q v h3, cn_X3_readSign ?_, fun _ _ x => x⟩
  unfold stepS at K
  have et := f.1.tk q
  have put : ∀ {h1 : zMem} {s1 : List Int32} {A1 : tM} {x2 : Int32}, fC h0 b n false o s1 A1 p h1 → wfF o s1 A1 → (∀ v h', stR2 h0 b n p (if A1 21 8 < 64 then .inr (true, o, tkt B n p :: s1, addK A1) else .inl (2, tks B n p)) v h' → Q v h') → zg G mX3_readSign (d + 3) 104 [.ref 2, .int (tkt B n p), .int x2] [] h1 (zPI (fun v h3 => zSh1 h3 t ∧ Q v h3)) := by
    intro h1 s1 A1 x2 f1 w1 K
    refine sg_X3_readSign_104 (f1.1.sh q) ?_
    rw [← q.2.2.2.2.1]
    have f2 := f1.setw q (c := true)
    refine X0_addKnot_ok q f2.1 (fun c h3 r3 e3 => ?_) (fun c => ?_)
    · rw [if_pos c] at K
      refine ⟨fun z => absurd z (by decide), fun _ => ?_⟩
      have f3 : fC h0 b n true o s1 (addK A1) p h3 := f2.keep r3 (e3 2 (by decide)) (e3 6 (by decide)) (e3 7 (by decide))
      exact X3_putOff_ok q f3 (w1.lt (Or.inl c)).1 _ (fun h' z => ⟨z.1.sh q, K 0 h' ⟨rfl, z⟩⟩)
    · rw [if_neg c] at K
      exact ⟨fun _ => rd_wrong q f2.1 2 (fun h' x => ⟨x.sh q, K (-1) h' ⟨rfl, x⟩⟩), fun z => absurd rfl z⟩
  have bad : (∀ v h', stR2 h0 b n p (.inl (1, tks B n p)) v h' → Q v h') → ∃ Q5 : Int32 → zMem → Prop, zConI G mX3_wrong (d + 2) [.ref 2, .int 1] h Q5 ∧ (∀ v8 h6, Q5 v8 h6 → zSh1 h6 t ∧ (zSh1 h6 t ∧ Q v8 h6)) := fun K => rd_wrong q f.1 1 (fun h' x => ⟨x.sh q, K (-1) h' ⟨rfl, x⟩⟩)
  refine sg_X3_readSign_0 S ?_
  rw [et]
  refine ⟨_, X6_strength_ok _, ?_⟩
  rintro v h2 ⟨rfl, rfl⟩
  have sgn : ¬ (tkt B n p = 33 ∧ 0 < o) → (str (tkt B n p) = 0 → ∃ Q7 : Int32 → zMem → Prop, zConI G mX3_wrong (d + 2) [.ref 2, .int (1)] h2 Q7 ∧ (∀ v10 h8, Q7 v10 h8 → zSh1 h8 t ∧ (zSh1 h8 t ∧ Q v10 h8))) ∧ (¬ str (tkt B n p) = 0 → (¬ tkt B n p = (14) → (¬ str (tkt B n p) = (4) → ∃ Q13 : zMem → Prop, zConV G mX3_settle (d + 2) [.ref 2, .int (str (tkt B n p))] h2 Q13 ∧ (∀ h14, Q13 h14 → zSh1 h14 t ∧ (¬ str (tkt B n p) = (4) → zg G mX3_readSign (d + 3) 104 [.ref 2, .int (tkt B n p), .int (str (tkt B n p))] [] h14 (zPI (fun v h3 => zSh1 h3 t ∧ Q v h3))) ∧ (str (tkt B n p) = (4) → ∃ Q17 : Int32 → zMem → Prop, zConI G mX3_topStrength (d + 2) [.ref 2] h14 Q17 ∧ (∀ v20 h18, Q17 v20 h18 → zSh1 h18 t ∧ (¬ v20 = str (tkt B n p) → zg G mX3_readSign (d + 3) 104 [.ref 2, .int (tkt B n p), .int (str (tkt B n p))] [] h18 (zPI (fun v h3 => zSh1 h3 t ∧ Q v h3))) ∧ (v20 = str (tkt B n p) → ∃ Q22 : Int32 → zMem → Prop, zConI G mX3_wrong (d + 2) [.ref 2, .int (1)] h18 Q22 ∧ (∀ v25 h23, Q22 v25 h23 → zSh1 h23 t ∧ (zSh1 h23 t ∧ Q v25 h23))))))) ∧ (str (tkt B n p) = (4) → ∃ Q26 : zMem → Prop, zConV G mX3_settle (d + 2) [.ref 2, .int (str (tkt B n p) + (1))] h2 Q26 ∧ (∀ h27, Q26 h27 → zSh1 h27 t ∧ (¬ str (tkt B n p) = (4) → zg G mX3_readSign (d + 3) 104 [.ref 2, .int (tkt B n p), .int (str (tkt B n p))] [] h27 (zPI (fun v h3 => zSh1 h3 t ∧ Q v h3))) ∧ (str (tkt B n p) = (4) → ∃ Q30 : Int32 → zMem → Prop, zConI G mX3_topStrength (d + 2) [.ref 2] h27 Q30 ∧ (∀ v33 h31, Q30 v33 h31 → zSh1 h31 t ∧ (¬ v33 = str (tkt B n p) → zg G mX3_readSign (d + 3) 104 [.ref 2, .int (tkt B n p), .int (str (tkt B n p))] [] h31 (zPI (fun v h3 => zSh1 h3 t ∧ Q v h3))) ∧ (v33 = str (tkt B n p) → ∃ Q35 : Int32 → zMem → Prop, zConI G mX3_wrong (d + 2) [.ref 2, .int (1)] h31 Q35 ∧ (∀ v38 h36, Q35 v38 h36 → zSh1 h36 t ∧ (zSh1 h36 t ∧ Q v38 h36)))))))) ∧ (tkt B n p = (14) → ∃ Q39 : Int32 → zMem → Prop, zConI G mX3_wrong (d + 2) [.ref 2, .int (1)] h2 Q39 ∧ (∀ v42 h40, Q39 v42 h40 → zSh1 h40 t ∧ (zSh1 h40 t ∧ Q v42 h40)))) := by
    intro c33
    rw [if_neg c33] at K
    refine ⟨fun c => ?_, fun c => ⟨fun c14 => ⟨fun c4 => ?_, fun c4 => ?_⟩, fun c14 => ?_⟩⟩
    · rw [if_pos (Or.inl c)] at K; exact bad K
    · rw [if_neg (fun z => z.elim c c14), if_neg c4] at K
      refine rd_settle q (str_1 c) f w (fun h3 f3 => ⟨fun _ => put f3 (stl_wf (str_1 c) w) K, fun z => absurd z c4⟩)
    · rw [if_neg (fun z => z.elim c c14), if_pos c4] at K
      rw [c4, show (4 : Int32) + 1 = 5 by decide]
      refine rd_settle q (by decide) f w (fun h3 f3 => ⟨fun z => absurd rfl z, fun _ => ?_⟩)
      have w3 := stl_wf (least := 5) (by decide) w
      refine ⟨_, X3_topStrength_ok q f3 w3.len, ?_⟩
      rintro v h4 ⟨rfl, rfl⟩
      refine ⟨f3.1.sh q, fun z => ?_, fun z => ?_⟩
      · rw [if_neg z] at K
        exact put f3 w3 K
      · rw [if_pos z] at K
        exact rd_wrong q f3.1 1 (fun h' x => ⟨x.sh q, K (-1) h' ⟨rfl, x⟩⟩)
    · rw [if_pos (Or.inr c14)] at K; exact bad K
  refine ⟨S, fun c33 => sgn (fun z => c33 z.1), fun c33 => ⟨fun co => ?_, fun co => ?_⟩⟩
  · rw [f.2.2.2.1] at co
    have o8 : o ≤ 8 := by obtain ⟨_, _, _, _, _, _, _, w6, _⟩ := w; exact w6
    have := nI_eq0 (by omega) co
    exact sgn (fun z => by omega)
  · have o0 : 0 < o := Nat.pos_of_ne_zero (fun z => co (by rw [f.2.2.2.1, z]; decide))
    rw [if_pos ⟨c33, o0⟩] at K
    refine rd_settle q (by decide) f w (fun h3 f3 => ?_)
    have w3 := stl_wf (least := 1) (by decide) w
    obtain ⟨ln, kn, v1, v2, v3, v4, v5, v6, v7⟩ := w
    obtain ⟨r, hr, ho⟩ := stl_open (s := s) (A := A) v7 (by omega)
    have l3 := w3.len
    rw [hr] at f3 K l3
    have r1 := (f3.1.own q (c := 2) (j := 3) (v := nI r.length) (by decide)).own q (c := 2) (j := 4) (v := nI (o - 1)) (by decide)
    have e3 : zI h3 2 3 - 1 = nI r.length := by rw [f3.2.1, List.length_cons, ← nI_1, Int32.add_sub_cancel]
    have e4 : zI (zsI h3 2 3 (nI r.length)) 2 4 - 1 = nI (o - 1) := by
      rw [zI_sI, zup_i _ _ _ (by decide), f3.2.2.2.1]
      obtain ⟨m, rfl⟩ : ∃ m, o = m + 1 := ⟨o - 1, by omega⟩
      rw [← nI_1, Int32.add_sub_cancel]; rfl
    rw [e3, e4]
    refine ⟨r1.sh q, K 0 _ ⟨rfl, r1, ?_, ?_, ?_, ?_⟩⟩
    · simp only [zI_sI, zup_i _ _ _ (show 3 ≠ 4 by decide), zup_s]; rfl
    · simp only [zI_sI, zup_ne _ _ (show 6 ≠ 2 by decide), zup_ne _ _ (show 7 ≠ 2 by decide)]; exact f3.2.2.1.2.2
    · simp only [zI_sI, zup_s]
    · simp only [zI_sI, zup_i _ _ _ (show 5 ≠ 4 by decide), zup_i _ _ _ (show 5 ≠ 3 by decide)]; exact f3.2.2.2.2
/-- the formula, read to its end -/
def fml (B : Nat → Int32) (n : Nat) : Nat → Bool → Nat → List Int32 → tM → Nat → tRes
  | 0, _, _, _, _, p => .inl (1, tks B n p)
  | f + 1, w, o, s, A, p => if w = false ∧ o = 0 ∧ tkt B n p = 34 then .inr ((stl 1 s A).2, p) else
    match (if w then stepV B n o s A p else stepS B n o s A p) with
    | .inl e => .inl e
    | .inr (w', o', s', A') => fml B n f w' o' s' A' (tke B n p)
set_option maxHeartbeats 1000000 in
theorem X3_readFormula_ok {Q : Int32 → zMem → Prop} (q : rB h0 t b n B) : ∀ (k i : Nat) {wt : Bool} {o : Nat} {s : List Int32} {A : tM} {p : Nat} {h : zMem}, k + i = 700 → fC h0 b n wt o s A p h → wfF o s A → (∀ v h', lR h0 b n (fml B n k wt o s A p) v h' → Q v h') → zg G mX3_readFormula (d + 5) 17 [.ref 2, .int (nI i), zU] [] h (zPI (fun v h3 => zSh1 h3 t ∧ Q v h3))
  | 0, i, wt, o, s, A, p, h, hi, f, w, K => by
    refine sg_X3_readFormula_17 (f.1.sh q) ⟨fun _ => ?_, fun c => absurd (nI_le (a := 700) (by omega) (by omega)) c⟩
    exact rd_wrong q f.1 1 (fun h' x => ⟨x.sh q, K (-1) h' ⟨rfl, x⟩⟩)
  | k + 1, i, wt, o, s, A, p, h, hi, f, w, K => by
    have S := f.1.sh q
    refine sg_X3_readFormula_17 S ⟨fun c => absurd c (nI_ge (b := 700) (by omega) (by decide)), fun _ => ?_⟩
    have o8 : o ≤ 8 := by obtain ⟨_, _, _, _, _, _, _, w6, _⟩ := w; exact w6
    rw [f.2.2.2.2, f.2.2.2.1, f.1.tk q, nI_1]
    rw [fml] at K
    cases wt with
    | true =>
      have nx : ∃ Q16 : Int32 → zMem → Prop, zConI G mX3_readValue (d + 4) [.ref 2] h Q16 ∧ (∀ v19 h17, Q16 v19 h17 → zSh1 h17 t ∧ (¬ v19 = (-1) → ∃ Q21 : zMem → Prop, zConV G mX4_advance (d + 4) [.ref 3] h17 Q21 ∧ (∀ h22, Q21 h22 → zSh1 h22 t ∧ zg G mX3_readFormula (d + 5) 17 [.ref 2, .int (nI (i + 1)), zU] [] h22 (zPI (fun v h3 => zSh1 h3 t ∧ Q v h3)))) ∧ (v19 = (-1) → (zSh1 h17 t ∧ Q (-1) h17))) := by
        rw [if_neg (fun z => absurd z.1 (by decide)), if_pos rfl] at K
        refine X3_readValue_ok q f w (fun v h1 z => ?_)
        cases e : stepV B n o s A p with
        | inl x =>
          rw [e] at z K
          exact ⟨fun c => absurd z.1 c, fun _ => ⟨z.2.sh q, K (-1) h1 ⟨rfl, z.2⟩⟩⟩
        | inr x =>
          obtain ⟨w', o', s', A'⟩ := x
          rw [e] at z K
          refine ⟨fun _ => ?_, fun c => absurd (z.1.symm.trans c) (by decide)⟩
          refine rd_adv q z.2.1 (fun h2 r2 e2 => ?_)
          exact X3_readFormula_ok q k (i + 1) (by omega) (z.2.keep r2 (e2 2 (by decide)) (e2 6 (by decide)) (e2 7 (by decide))) (stepV_wf w e) K
      exact ⟨fun _ => ⟨fun z => absurd z (by decide), fun _ => nx⟩, fun z => absurd z (by decide)⟩
    | false =>
      have nx : ¬ (o = 0 ∧ tkt B n p = 34) → ∃ Q16 : Int32 → zMem → Prop, zConI G mX3_readSign (d + 4) [.ref 2] h Q16 ∧ (∀ v19 h17, Q16 v19 h17 → zSh1 h17 t ∧ (¬ v19 = (-1) → ∃ Q21 : zMem → Prop, zConV G mX4_advance (d + 4) [.ref 3] h17 Q21 ∧ (∀ h22, Q21 h22 → zSh1 h22 t ∧ zg G mX3_readFormula (d + 5) 17 [.ref 2, .int (nI (i + 1)), zU] [] h22 (zPI (fun v h3 => zSh1 h3 t ∧ Q v h3)))) ∧ (v19 = (-1) → (zSh1 h17 t ∧ Q (-1) h17))) := by
        intro c0
        rw [if_neg (fun z => c0 z.2), if_neg (by decide)] at K
        refine X3_readSign_ok q f w (fun v h1 z => ?_)
        cases e : stepS B n o s A p with
        | inl x =>
          rw [e] at z K
          exact ⟨fun c => absurd z.1 c, fun _ => ⟨z.2.sh q, K (-1) h1 ⟨rfl, z.2⟩⟩⟩
        | inr x =>
          obtain ⟨w', o', s', A'⟩ := x
          rw [e] at z K
          refine ⟨fun _ => ?_, fun c => absurd (z.1.symm.trans c) (by decide)⟩
          refine rd_adv q z.2.1 (fun h2 r2 e2 => ?_)
          exact X3_readFormula_ok q k (i + 1) (by omega) (z.2.keep r2 (e2 2 (by decide)) (e2 6 (by decide)) (e2 7 (by decide))) (stepS_wf w e) K
      refine ⟨fun z => absurd rfl z, fun _ => ⟨fun co => ⟨fun _ => nx (fun z => co (by rw [z.1]; rfl)), fun z => absurd rfl z⟩, fun co => ⟨fun c34 => ⟨fun _ => nx (fun z => c34 z.2), fun z => absurd rfl z⟩, fun c34 => ?_⟩⟩⟩
      have o0 : o = 0 := nI_inj (by omega) (by decide) co
      rw [if_pos ⟨rfl, o0, c34⟩] at K
      exact rd_settle q (by decide) f w (fun h1 f1 => ⟨f1.1.sh q, K 0 h1 ⟨rfl, f1.1⟩⟩)
def bgL (A : tM) (r : Nat) : tM := zup (zup (zup A 26 r 1) 24 r (A 21 7)) 25 r (A 21 7)
def lnLaw (B : Nat → Int32) (n : Nat) (A : tM) (p : Nat) : tRes :=
  if tkt B n (tke B n p) < 9 then .inl (1, tks B n (tke B n p)) else if tkt B n (tke B n p) ≤ 11 then (if A 26 (tkt B n (tke B n p) - 9).toNatClampNeg = 0 then (match fml B n 700 true 0 [] (bgL A (tkt B n (tke B n p) - 9).toNatClampNeg) (tke B n (tke B n p)) with | .inl e => .inl e | .inr (A2, p3) => stp B n (zup A2 25 (tkt B n (tke B n p) - 9).toNatClampNeg (A2 21 7)) p3) else .inl (3, tks B n (tke B n p))) else .inl (1, tks B n (tke B n p))
def wfL (A : tM) : Prop := wfF 0 [] A ∧ ∀ r, r < 3 → A 26 r = 0 ∨ A 26 r = 1
theorem wfF_up {k j : Nat} {v : Int32} (hk : k ≠ 21) (w : wfF o s A) : wfF o s (zup A k j v) := by
  obtain ⟨ln, kn, w1, w2, w3, w4, w5, w6, w7⟩ := w
  exact ⟨ln, kn, by rw [zup_ne _ _ (Ne.symm hk)]; exact w1, by rw [zup_ne _ _ (Ne.symm hk)]; exact w2, w3, w4, w5, w6, w7⟩
set_option maxHeartbeats 1000000 in
theorem X3_lawLine_ok {Q : Int32 → zMem → Prop} (q : rB h0 t b n B) (r : rC h0 b n A p h) (w : wfL A) (K : ∀ v h', lR h0 b n (lnLaw B n A p) v h' → Q v h') : ∃ Q2 : Int32 → zMem → Prop, zConI G mX3_lawLine (d + 6) [.ref 2] h Q2 ∧ (∀ v h3, Q2 v h3 → zSh1 h3 t ∧ Q v h3) := by
  have S := r.sh q
  have hb := q.td.2
  refine ⟨fun v h3 => zSh1 h3 t ∧ Q v h3, cn_X3_lawLine (sg_X3_lawLine_0 S ?_), fun _ _ x => x⟩
  unfold lnLaw at K
  rw [← q.2.2.2.2.1]
  refine rd_adv q r (fun h1 r1 _ => ?_)
  rw [r1.tk q]
  refine ⟨fun c => ?_, fun c => ⟨fun c2 => ?_, fun c2 => ?_⟩⟩
  · rw [if_pos c] at K
    exact rd_wrong q r1 1 (fun h' x => ⟨x.sh q, K (-1) h' ⟨rfl, x⟩⟩)
  · rw [if_neg c, if_pos c2] at K
    obtain ⟨j, j1, j2, ej⟩ := zrange (lo := 9) (hi := 11) (a := 9) (b := 11) rfl rfl c (fun z => by rw [Int32.lt_iff_toInt_lt] at z; rw [Int32.le_iff_toInt_le] at c2; omega)
    have e9 : tkt B n (tke B n p) - 9 = nI (j - 9) := by
      rw [ej]
      obtain ⟨m, rfl⟩ : ∃ m, j = m + 9 := ⟨j - 9, by omega⟩
      rw [← nI_add, show (9 : Int32) = nI 9 from rfl, Int32.add_sub_cancel]; rfl
    obtain ⟨r0, hr0⟩ : ∃ r0, r0 = j - 9 := ⟨_, rfl⟩
    have r3 : r0 < 3 := by omega
    rw [e9, ← hr0, zcla (show r0 < 2 ^ 31 by omega)] at K
    rw [e9, ← hr0]
    have e26 : zI h1 (b + 21 + 5) r0 = A 26 r0 := by rw [show b + 21 + 5 = b + 26 by omega, r1.row (by decide) (by decide)]
    refine ⟨fun v h' => v = A 26 r0 ∧ h' = h1, cn_X0_isTold (sg_X0_isTold_0 (r1.sh q) (lw_b q) ?_), ?_⟩
    · rw [zcla (show r0 < 2 ^ 31 by omega), e26]
      exact ⟨zin_n r3 (by decide), w.2 r0 r3, rfl, rfl⟩
    rintro v h2 ⟨rfl, rfl⟩
    refine ⟨r1.sh q, fun c3 => ?_, fun c3 => ?_⟩
    · rw [if_pos c3] at K
      refine rd_adv q r1 (fun h3 r3' _ => ?_)
      have rb := ((r3'.put q (k := 26) (j := r0) (v := 1) (by decide)).put q (k := 24) (j := r0) (v := A 21 7) (by decide)).put q (k := 25) (j := r0) (v := A 21 7) (by decide)
      have e7 : zI h3 (b + 21) 7 = A 21 7 := by rw [r3'.row (by decide) (by decide)]
      refine ⟨fun h' => rC h0 b n (bgL A r0) (tke B n (tke B n p)) h', cn_X0_begin (sg_X0_begin_0 (r3'.sh q) (lw_b q) ?_), ?_⟩
      · rw [zcla (show r0 < 2 ^ 31 by omega)]
        refine ⟨zin_n r3 (by decide), ?_⟩
        simp only [zI_sI]
        rw [zup_ne _ _ (show b + 21 ≠ b + 21 + 3 by omega), zup_ne _ _ (show b + 21 ≠ b + 21 + 5 by omega), e7, show b + 21 + 5 = b + 26 by omega, show b + 21 + 3 = b + 24 by omega, show b + 21 + 4 = b + 25 by omega]
        exact rb
      intro h4 r4
      refine ⟨r4.sh q, ?_⟩
      have wb : wfF 0 [] (bgL A r0) := wfF_up (by decide) (wfF_up (by decide) (wfF_up (by decide) w.1))
      have f0 : fC h0 b n true 0 [] (bgL A r0) (tke B n (tke B n p)) (zsI (zsI (zsI h4 2 3 0) 2 4 0) 2 5 1) := by
        refine ⟨((r4.own q (by decide)).own q (by decide)).own q (by decide), ?_, trivial, ?_, ?_⟩
        · simp only [zI_sI, zup_i _ _ _ (show 3 ≠ 5 by decide), zup_i _ _ _ (show 3 ≠ 4 by decide), zup_s]; rfl
        · simp only [zI_sI, zup_i _ _ _ (show 4 ≠ 5 by decide), zup_s]; rfl
        · simp only [zI_sI, zup_s]; rfl
      refine ⟨_, cn_X3_readFormula (sg_X3_readFormula_0 (r4.sh q) (X3_readFormula_ok (Q := fun v h' => lR h0 b n (fml B n 700 true 0 [] (bgL A r0) (tke B n (tke B n p))) v h') q 700 0 rfl f0 wb (fun v h' z => z))), ?_⟩
      rintro v h5 ⟨s5, z⟩
      refine ⟨s5, ?_⟩
      cases e : fml B n 700 true 0 [] (bgL A r0) (tke B n (tke B n p)) with
      | inl x =>
        rw [e] at z K
        exact ⟨fun c => absurd z.1 c, fun _ => ⟨z.2.sh q, K (-1) h5 ⟨rfl, z.2⟩⟩⟩
      | inr x =>
        obtain ⟨A2, p3⟩ := x
        rw [e] at z K
        refine ⟨fun _ => ?_, fun c => absurd (z.1.symm.trans c) (by decide)⟩
        have r5 := z.2
        refine ⟨fun h' => rC h0 b n (zup A2 25 r0 (A2 21 7)) p3 h', cn_X0_end (sg_X0_end_0 (r5.sh q) (lw_b q) ?_), ?_⟩
        · rw [zcla (show r0 < 2 ^ 31 by omega), r5.row (show 21 < 27 by decide) (by decide), show b + 21 + 4 = b + 25 by omega]
          exact ⟨zin_n r3 (by decide), r5.put q (by decide)⟩
        intro h6 r6
        refine ⟨r6.sh q, ?_⟩
        exact X3_readStop_ok q r6 (fun v h' z => ⟨z.sh q, K v h' z⟩)
    · rw [if_neg c3] at K
      exact rd_wrong q r1 3 (fun h' x => ⟨x.sh q, K (-1) h' ⟨rfl, x⟩⟩)
  · rw [if_neg c, if_neg c2] at K
    exact rd_wrong q r1 1 (fun h' x => ⟨x.sh q, K (-1) h' ⟨rfl, x⟩⟩)
def rdLn (B : Nat → Int32) (n : Nat) (A : tM) (p : Nat) : tRes :=
  if tkt B n p = 0 then lnSR B n A 0 7 999 p else if tkt B n p = 1 then lnDay B n A p else if tkt B n p = 2 then lnMix B n A p else if tkt B n p = 3 then lnSR B n A 2 18 100 p else if tkt B n p = 4 then lnMonk B n A p else if tkt B n p = 5 then lnLinger B n A p else if tkt B n p = 6 then lnSeed B n A p else if tkt B n p = 7 then lnLaw B n A p else .inl (1, tks B n p)
theorem X3_readLine_ok {Q : Int32 → zMem → Prop} (hG : gK G) (q : rB h0 t b n B) (r : rC h0 b n A p h) (wA : wfA A) (wL : wfL A) (K : ∀ v h', lR h0 b n (rdLn B n A p) v h' → Q v h') : zConI G mX3_readLine (d + 7) [.ref 2] h (fun v h' => zSh1 h' t ∧ Q v h') := by
  refine cn_X3_readLine (sg_X3_readLine_0 (r.sh q) ?_)
  rw [r.tk q]
  unfold rdLn at K
  refine ⟨?_, ?_, ?_, ?_, ?_, ?_, ?_, ?_, ?_⟩
  · intro c; rw [if_pos c] at K
    exact X3_stuffLine_ok hG q r wA (fun v h' z => ⟨z.sh q, K v h' z⟩)
  · intro c; rw [if_neg (by rw [c]; decide), if_pos c] at K
    exact X3_dayLine_ok hG q r wA (fun v h' z => ⟨z.sh q, K v h' z⟩)
  · intro c; rw [if_neg (by rw [c]; decide), if_neg (by rw [c]; decide), if_pos c] at K
    exact X3_mixLine_ok q r wA (fun v h' z => ⟨z.sh q, K v h' z⟩)
  · intro c; rw [if_neg (by rw [c]; decide), if_neg (by rw [c]; decide), if_neg (by rw [c]; decide), if_pos c] at K
    exact X3_roomLine_ok hG q r wA (fun v h' z => ⟨z.sh q, K v h' z⟩)
  · intro c; rw [if_neg (by rw [c]; decide), if_neg (by rw [c]; decide), if_neg (by rw [c]; decide), if_neg (by rw [c]; decide), if_pos c] at K
    exact X3_monkLine_ok hG q r wA (fun v h' z => ⟨z.sh q, K v h' z⟩)
  · intro c; rw [if_neg (by rw [c]; decide), if_neg (by rw [c]; decide), if_neg (by rw [c]; decide), if_neg (by rw [c]; decide), if_neg (by rw [c]; decide), if_pos c] at K
    exact X3_lingerLine_ok q r (fun v h' z => ⟨z.sh q, K v h' z⟩)
  · intro c; rw [if_neg (by rw [c]; decide), if_neg (by rw [c]; decide), if_neg (by rw [c]; decide), if_neg (by rw [c]; decide), if_neg (by rw [c]; decide), if_neg (by rw [c]; decide), if_pos c] at K
    exact X3_seedLine_ok q r (fun v h' z => ⟨z.sh q, K v h' z⟩)
  · intro c; rw [if_neg (by rw [c]; decide), if_neg (by rw [c]; decide), if_neg (by rw [c]; decide), if_neg (by rw [c]; decide), if_neg (by rw [c]; decide), if_neg (by rw [c]; decide), if_neg (by rw [c]; decide), if_pos c] at K
    exact X3_lawLine_ok q r wL (fun v h' z => ⟨z.sh q, K v h' z⟩)
  · intro c0 c1 c2 c3 c4 c5 c6 c7
    rw [if_neg c0, if_neg c1, if_neg c2, if_neg c3, if_neg c4, if_neg c5, if_neg c6, if_neg c7] at K
    exact rd_wrong q r 1 (fun h' x => ⟨x.sh q, K (-1) h' ⟨rfl, x⟩⟩)
end FM
