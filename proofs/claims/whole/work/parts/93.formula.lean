/-! the class's reader: values, signs, the formula -/
abbrev tSt : Type := Sum (Int32 × Nat) (Bool × Nat × List Int32 × tM)
def stepV (B : Nat → Int32) (n o : Nat) (s : List Int32) (A : tM) (p : Nat) : tSt :=
  if tkt B n p = 32 then (if o < 8 then .inr (true, o + 1, 32 :: s, A) else .inl (2, tks B n p))
  else if tkt B n p = 14 ∧ ¬ 3 < topS s then (if A 21 8 < 64 then .inr (true, o, 14 :: s, addK A) else .inl (2, tks B n p))
  else if tkt B n p = 36 then (if 9999 < tkn B n p then .inl (2, tks B n p) else if A 21 8 < 64 then .inr (false, o, s, apd (addK A) 36 (tkn B n p)) else .inl (2, tks B n p))
  else if ¬ tkt B n p < 15 ∧ tkt B n p ≤ 21 then (if A 21 8 < 64 then .inr (false, o, s, apd (addK A) (tkt B n p) 0) else .inl (2, tks B n p))
  else .inl (1, tks B n p)
def stepS (B : Nat → Int32) (n o : Nat) (s : List Int32) (A : tM) (p : Nat) : tSt :=
  if tkt B n p = 33 ∧ 0 < o then .inr (false, o - 1, (stl 1 s A).1.tail, (stl 1 s A).2)
  else if str (tkt B n p) = 0 ∨ tkt B n p = 14 then .inl (1, tks B n p)
  else if str (tkt B n p) = 4 then (if topS (stl 5 s A).1 = 4 then .inl (1, tks B n p) else if (stl 5 s A).2 21 8 < 64 then .inr (true, o, tkt B n p :: (stl 5 s A).1, addK (stl 5 s A).2) else .inl (2, tks B n p))
  else if (stl (str (tkt B n p)) s A).2 21 8 < 64 then .inr (true, o, tkt B n p :: (stl (str (tkt B n p)) s A).1, addK (stl (str (tkt B n p)) s A).2) else .inl (2, tks B n p)
def stR2 (h0 : zMem) (b n p : Nat) (r : tSt) (v : Int32) (h : zMem) : Prop := match r with
  | .inl (f, pl) => v = -1 ∧ rF h0 b f pl h
  | .inr (w, o, s, A) => v = 0 ∧ fC h0 b n w o s A p h
section FM
variable {G : zG} {d t b n p o : Nat} {h0 h : zMem} {B : Nat → Int32} {A : tM} {s : List Int32} {wt : Bool}
theorem stR2.sh {r : tSt} {v : Int32} (q : rB h0 t b n B) (z : stR2 h0 b n p r v h) : zSh1 h t := by
  cases r with
  | inl x => exact rF.sh q z.2
  | inr x => exact z.2.1.sh q
theorem fC.setw {c : Bool} (q : rB h0 t b n B) (f : fC h0 b n wt o s A p h) : fC h0 b n c o s A p (zsI h 2 5 (if c then 1 else 0)) := by
  have r := f.1.own q (c := 2) (j := 5) (v := if c then 1 else 0) (by decide)
  obtain ⟨_, f2, f3, f4, f5⟩ := f
  refine ⟨r, ?_, ?_, ?_, ?_⟩
  · rw [zI_sI, zup_i _ _ _ (by decide)]; exact f2
  · rw [zI_sI, zup_ne _ _ (by decide), zup_ne _ _ (by decide)]; exact f3
  · rw [zI_sI, zup_i _ _ _ (by decide)]; exact f4
  · rw [zI_sI, zup_s]
theorem addK_wf {x : Int32} (w : wfF o s A) (c : A 21 8 < 64) (hx : x ≠ 32) (h1 : ¬ str x < 1 ∧ x ≠ 36) : wfF o (x :: s) (addK A) := by
  obtain ⟨ln, kn, w1, w2, w3, w4, w5, w6, w7⟩ := w
  have k64 : kn < 64 := by
    rw [w2] at c
    exact Nat.lt_of_not_le (fun z => absurd c (nI_nlt (b := 64) z (by omega)))
  refine ⟨ln, kn + 1, ?_, ?_, ?_, by omega, ?_, w6, ?_⟩
  · unfold addK; rw [zup_i _ _ _ (by decide)]; exact w1
  · unfold addK; rw [zup_s, w2, nI_1]
  · rw [nop, if_neg hx]; omega
  · rw [ops, if_neg hx]; exact w5
  · intro y hy
    rcases List.mem_cons.mp hy with rfl | hy
    · exact Or.inr h1
    · exact w7 y hy
theorem addV_wf {x z : Int32} (w : wfF o s A) (c : A 21 8 < 64) : wfF o s (apd (addK A) x z) := by
  obtain ⟨ln, kn, w1, w2, w3, w4, w5, w6, w7⟩ := w
  have k64 : kn < 64 := by
    rw [w2] at c
    exact Nat.lt_of_not_le (fun z => absurd c (nI_nlt (b := 64) z (by omega)))
  refine ⟨ln + 1, kn + 1, ?_, ?_, by omega, by omega, w5, w6, w7⟩
  · unfold apd addK; rw [zup_s, zup_i _ _ _ (by decide), w1, nI_1]
  · unfold apd addK; rw [zup_i _ _ _ (by decide), zup_ne _ _ (by decide), zup_ne _ _ (by decide), zup_s, w2, nI_1]
theorem wfF.lt (w : wfF o s A) (c : A 21 8 < 64 ∨ o < 8) : s.length < 72 ∧ ∃ ln, A 21 7 = nI ln ∧ ln ≤ 64 ∧ (A 21 8 < 64 → ln < 64) := by
  obtain ⟨ln, kn, w1, w2, w3, w4, w5, w6, w7⟩ := w
  have := nop_ops s
  have k64 : A 21 8 < 64 → kn < 64 := fun c => by
    rw [w2] at c
    exact Nat.lt_of_not_le (fun z => absurd c (nI_nlt (b := 64) z (by omega)))
  refine ⟨?_, ln, w1, by omega, fun c => by have := k64 c; omega⟩
  rcases c with c | c
  · have := k64 c; omega
  · omega
set_option maxHeartbeats 1000000 in
theorem X3_readValue_ok {Q : Int32 → zMem → Prop} (q : rB h0 t b n B) (f : fC h0 b n true o s A p h) (w : wfF o s A) (K : ∀ v h', stR2 h0 b n p (stepV B n o s A p) v h' → Q v h') : ∃ Q2 : Int32 → zMem → Prop, zConI G mX3_readValue (d + 2) [.ref 2] h Q2 ∧ (∀ v h3, Q2 v h3 → zSh1 h3 t ∧ Q v h3) := by
  have S := f.1.sh q
  refine ⟨fun v h3 => zSh1 h3 t ∧ Q v h3, cn_X3_readValue ?_, fun _ _ x => x⟩
  unfold stepV at K
  have et := f.1.tk q
  have lw := lw_b q
  -- a knot that is put down at once
  have val : ∀ {z xs : Int32}, (tkt B n p = 36 → z = tkn B n p) → (∀ v h', stR2 h0 b n p (if A 21 8 < 64 then .inr (false, o, s, apd (addK A) (tkt B n p) z) else .inl (2, tks B n p)) v h' → Q v h') → zg G mX3_readValue (d + 2) 141 [.ref 2, .int (tkt B n p), .int xs] [] h (zPI (fun v h3 => zSh1 h3 t ∧ Q v h3)) := by
    intro z xs hz K
    refine sg_X3_readValue_141 S ?_
    rw [← q.2.2.2.2.1]
    refine X0_addKnot_ok q f.1 (fun c h1 r1 e1 => ?_) (fun c => ?_)
    · rw [if_pos c] at K
      refine ⟨fun _ => ?_, fun z => absurd z (by decide)⟩
      obtain ⟨hl, ln, hln, l64, l64'⟩ := w.lt (Or.inl c)
      have eL : (addK A) 21 7 = nI ln := by unfold addK; rw [zup_i _ _ _ (by decide)]; exact hln
      refine X0_append_ok q r1 eL (l64' c) (z := z) (fun e => ?_) (fun h2 r2 e2 => ?_)
      · rw [hz e]; exact r1.tn q e
      · have f2 : fC h0 b n true o s (apd (addK A) (tkt B n p) z) p h2 := f.keep r2 (by rw [e2 2 (by decide), e1 2 (by decide)]) (by rw [e2 6 (by decide), e1 6 (by decide)]) (by rw [e2 7 (by decide), e1 7 (by decide)])
        have f3 := f2.setw q (c := false)
        exact ⟨f3.1.sh q, K 0 _ ⟨rfl, f3⟩⟩
    · rw [if_neg c] at K
      exact ⟨fun z => absurd rfl z, fun _ => rd_wrong q f.1 2 (fun h' x => ⟨x.sh q, K (-1) h' ⟨rfl, x⟩⟩)⟩
  have bad : (∀ v h', stR2 h0 b n p (.inl (1, tks B n p)) v h' → Q v h') → ∃ Q5 : Int32 → zMem → Prop, zConI G mX3_wrong (d + 1) [.ref 2, .int 1] h Q5 ∧ (∀ v8 h6, Q5 v8 h6 → zSh1 h6 t ∧ (zSh1 h6 t ∧ Q v8 h6)) := fun K => rd_wrong q f.1 1 (fun h' x => ⟨x.sh q, K (-1) h' ⟨rfl, x⟩⟩)
  refine sg_X3_readValue_0 S ?_
  rw [et]
  refine ⟨fun c36 => ?_, fun c36 => ?_⟩
  · -- no number
    refine sg_X3_readValue_19 S ⟨fun c32 => ?_, fun c32 => ?_⟩
    · rw [if_neg c32] at K
      have rest : (∀ v h', stR2 h0 b n p (if ¬ tkt B n p < 15 ∧ tkt B n p ≤ 21 then (if A 21 8 < 64 then .inr (false, o, s, apd (addK A) (tkt B n p) 0) else .inl (2, tks B n p)) else .inl (1, tks B n p)) v h' → Q v h') → (tkt B n p < 15 → ∃ Q5 : Int32 → zMem → Prop, zConI G mX3_wrong (d + 1) [.ref 2, .int 1] h Q5 ∧ (∀ v8 h6, Q5 v8 h6 → zSh1 h6 t ∧ (zSh1 h6 t ∧ Q v8 h6))) ∧ (¬ tkt B n p < 15 → (tkt B n p ≤ 21 → zg G mX3_readValue (d + 2) 124 [.ref 2, .int (tkt B n p), .int 0] [] h (zPI (fun v h3 => zSh1 h3 t ∧ Q v h3))) ∧ (¬ tkt B n p ≤ 21 → ∃ Q10 : Int32 → zMem → Prop, zConI G mX3_wrong (d + 1) [.ref 2, .int 1] h Q10 ∧ (∀ v13 h11, Q10 v13 h11 → zSh1 h11 t ∧ (zSh1 h11 t ∧ Q v13 h11)))) := by
        intro K
        refine ⟨fun c => ?_, fun c => ⟨fun c2 => ?_, fun c2 => ?_⟩⟩
        · rw [if_neg (fun z => z.1 c)] at K; exact bad K
        · rw [if_pos ⟨c, c2⟩] at K
          refine sg_X3_readValue_124 S ⟨fun _ => val (fun e => absurd e c36) K, fun z => absurd rfl z⟩
        · rw [if_neg (fun z => c2 z.2)] at K; exact bad K
      refine ⟨fun c14 => ?_, fun c14 => ?_⟩
      · rw [if_neg (fun z => c14 z.1), if_neg c36] at K
        exact ⟨fun z => absurd rfl z, fun _ => rest K⟩
      · refine ⟨_, X3_topStrength_ok q f w.len, ?_⟩
        rintro v h1 ⟨rfl, rfl⟩
        refine ⟨S, _, X6_strength_ok 14, ?_⟩
        rintro v h2 ⟨rfl, rfl⟩
        have s14 : str 14 = 3 := by decide
        rw [s14]
        refine ⟨S, fun c3 => ?_, fun c3 => ?_⟩
        · rw [if_neg (fun z => z.2 c3), if_neg c36] at K
          exact ⟨fun z => absurd rfl z, fun _ => rest K⟩
        · rw [if_pos ⟨c14, c3⟩] at K
          rw [← q.2.2.2.2.1]
          refine X0_addKnot_ok q f.1 (fun c h3 r3 e3 => ?_) (fun c => ?_)
          · rw [if_pos c] at K
            refine ⟨fun z => absurd z (by decide), fun _ => ?_⟩
            have f3 : fC h0 b n true o s (addK A) p h3 := f.keep r3 (e3 2 (by decide)) (e3 6 (by decide)) (e3 7 (by decide))
            rw [c14]
            exact X3_putOff_ok q f3 (w.lt (Or.inl c)).1 14 (fun h' z => ⟨z.1.sh q, K 0 h' ⟨rfl, z⟩⟩)
          · rw [if_neg c] at K
            exact ⟨fun _ => rd_wrong q f.1 2 (fun h' x => ⟨x.sh q, K (-1) h' ⟨rfl, x⟩⟩), fun z => absurd rfl z⟩
    · rw [if_pos c32] at K
      have e4 := f.2.2.2.1
      rw [e4, nI_1]
      have o8 : o ≤ 8 := by obtain ⟨_, _, _, _, _, _, _, w6, _⟩ := w; exact w6
      refine ⟨fun c => ?_, fun c => ?_⟩
      · have co : o < 8 := Nat.lt_of_not_le (fun z => absurd c (nI_nlt (b := 8) z (by omega)))
        rw [if_pos co] at K
        have r1 := f.1.own q (c := 2) (j := 4) (v := nI (o + 1)) (by decide)
        have f1 : fC h0 b n true (o + 1) s A p (zsI h 2 4 (nI (o + 1))) := by
          obtain ⟨_, f2, f3, f4, f5⟩ := f
          refine ⟨r1, ?_, ?_, ?_, ?_⟩
          · rw [zI_sI, zup_i _ _ _ (by decide)]; exact f2
          · rw [zI_sI, zup_ne _ _ (by decide), zup_ne _ _ (by decide)]; exact f3
          · rw [zI_sI, zup_s]
          · rw [zI_sI, zup_i _ _ _ (by decide)]; exact f5
        rw [c32]
        exact X3_putOff_ok q f1 (w.lt (Or.inr co)).1 32 (fun h' z => ⟨z.1.sh q, K 0 h' ⟨rfl, z⟩⟩)
      · have co : ¬ o < 8 := fun z => c (nI_lt (b := 8) z (by decide))
        rw [if_neg co] at K
        exact rd_wrong q f.1 2 (fun h' x => ⟨x.sh q, K (-1) h' ⟨rfl, x⟩⟩)
  · -- a number
    have c32 : ¬ tkt B n p = 32 := by rw [c36]; decide
    have c14 : ¬ tkt B n p = 14 := by rw [c36]; decide
    rw [if_neg c32, if_neg (fun z => c14 z.1), if_pos c36] at K
    refine sg_X3_readValue_19 S ⟨fun _ => ⟨fun _ => ⟨fun _ => ?_, fun z => absurd z (by decide)⟩, fun z => absurd z c14⟩, fun z => absurd z c32⟩
    refine sg_X3_readValue_124 S ⟨fun z => absurd z (by decide), fun _ => ?_⟩
    rw [f.1.tn q c36]
    refine ⟨fun c => ?_, fun c => ?_⟩
    · rw [if_pos c] at K
      exact rd_wrong q f.1 2 (fun h' x => ⟨x.sh q, K (-1) h' ⟨rfl, x⟩⟩)
    · rw [if_neg c] at K
      refine val (z := tkn B n p) (fun _ => rfl) ?_
      rw [c36]; exact K
end FM
