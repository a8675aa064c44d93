/-! the class's reader: a law's formula -/
def str (x : Int32) : Int32 := if x = 12 then 1 else if x = 13 then 2 else if x = 14 then 3 else if x = 28 then 5 else if x = 29 then 5 else if x = 30 then 6 else if x = 31 then 6 else if x < 22 then 0 else if 27 < x then 0 else 4
def topS : List Int32 → Int32
  | [] => 0
  | x :: _ => str x
def apd (A : tM) (x z : Int32) : tM := zup (zup (zup A 22 (A 21 7).toNatClampNeg x) 23 (A 21 7).toNatClampNeg z) 21 7 (A 21 7 + 1)
def addK (A : tM) : tM := zup A 21 8 (A 21 8 + 1)
def stl (least : Int32) : List Int32 → tM → List Int32 × tM
  | [], A => ([], A)
  | x :: r, A => if str x < least then (x :: r, A) else stl least r (apd A x 0)
def nop : List Int32 → Nat
  | [] => 0
  | x :: r => if x = 32 then nop r else nop r + 1
def ops : List Int32 → Nat
  | [] => 0
  | x :: r => if x = 32 then ops r + 1 else ops r
theorem nop_ops : ∀ s, nop s + ops s = s.length
  | [] => rfl
  | x :: r => by
    have := nop_ops r
    rw [nop, ops]
    by_cases c : x = 32
    · rw [if_pos c, if_pos c, List.length_cons]; omega
    · rw [if_neg c, if_neg c, List.length_cons]; omega
def stkM (w s : Nat → Int32) : List Int32 → Prop
  | [] => True
  | x :: r => w r.length = x ∧ s r.length = str x ∧ stkM w s r
theorem stkM_up {I : Nat → Nat → Int32} {k : Nat} {x y : Int32} : ∀ {r : List Int32}, r.length ≤ k → stkM (I 6) (I 7) r → stkM (zup (zup I 6 k x) 7 k y 6) (zup (zup I 6 k x) 7 k y 7) r
  | [], _, _ => trivial
  | z :: r, hl, hs => by
    have h1 : r.length < k := hl
    refine ⟨?_, ?_, stkM_up (by omega) hs.2.2⟩
    · rw [zup_i _ _ _ (show r.length ≠ k by omega), zup_i _ _ _ (show r.length ≠ k by omega)]; exact hs.1
    · rw [zup_i _ _ _ (show r.length ≠ k by omega), zup_i _ _ _ (show r.length ≠ k by omega)]; exact hs.2.1
/-- the stack, the knots: what is counted -/
def wfF (o : Nat) (s : List Int32) (A : tM) : Prop := ∃ ln kn : Nat, A 21 7 = nI ln ∧ A 21 8 = nI kn ∧ ln + nop s = kn ∧ kn ≤ 64 ∧ ops s = o ∧ o ≤ 8 ∧ ∀ x, x ∈ s → x = 32 ∨ (¬ str x < 1 ∧ x ≠ 36)
def fC (h0 : zMem) (b n : Nat) (wt : Bool) (o : Nat) (s : List Int32) (A : tM) (p : Nat) (h : zMem) : Prop := rC h0 b n A p h ∧ zI h 2 3 = nI s.length ∧ stkM (zI h 6) (zI h 7) s ∧ zI h 2 4 = nI o ∧ zI h 2 5 = (if wt then 1 else 0)
section FM
variable {G : zG} {d t b n p o : Nat} {h0 h : zMem} {B : Nat → Int32} {A : tM} {s : List Int32} {wt : Bool}
theorem fC.keep {h1 : zMem} {A1 : tM} {p1 : Nat} (f : fC h0 b n wt o s A p h) (r : rC h0 b n A1 p1 h1) (e2 : zI h1 2 = zI h 2) (e6 : zI h1 6 = zI h 6) (e7 : zI h1 7 = zI h 7) : fC h0 b n wt o s A1 p1 h1 := by
  obtain ⟨_, f2, f3, f4, f5⟩ := f
  refine ⟨r, ?_, ?_, ?_, ?_⟩
  · rw [e2]; exact f2
  · rw [e6, e7]; exact f3
  · rw [e2]; exact f4
  · rw [e2]; exact f5
theorem lw_b (q : rB h0 t b n B) : isLw (b + 21) := by
  rcases q.td.2 with e | e
  · rw [e]; exact Or.inl rfl
  · rw [e]; exact Or.inr rfl
theorem X6_strength_ok (x : Int32) : zConI G mX6_strength d [.int x] h (fun v h' => v = str x ∧ h' = h) := by
  refine cn_X6_strength (sg_X6_strength_0 ?_)
  unfold str
  refine ⟨?_, ?_, ?_, ?_, ?_, ?_, ?_, ?_⟩
  · rintro rfl; simp
  · rintro rfl; simp
  · rintro rfl; simp
  · rintro rfl; simp
  · rintro rfl; simp
  · rintro rfl; simp
  · rintro rfl; simp
  · intro c1 c2 c3 c4 c5 c6 c7
    simp only [c1, c2, c3, c4, c5, c6, c7, if_false]
    refine ⟨fun c => ?_, fun c => ⟨fun c8 => ?_, fun c8 => ?_⟩⟩
    · rw [if_pos c]; exact ⟨rfl, trivial⟩
    · rw [if_neg c, if_pos c8]; exact ⟨rfl, trivial⟩
    · rw [if_neg c, if_neg c8]; exact ⟨rfl, trivial⟩
theorem X0_append_ok {Q : zMem → Prop} (q : rB h0 t b n B) (r : rC h0 b n A p h) {ln : Nat} (e : A 21 7 = nI ln) (h64 : ln < 64) {x y z : Int32} (hxy : x = 36 → y = z) (K : ∀ h', rC h0 b n (apd A x z) p h' → (∀ c, c < 8 → zI h' c = zI h c) → Q h') : ∃ Q2 : zMem → Prop, zConV G mX0_append d [.ref (b + 21), .int x, .int y] h Q2 ∧ (∀ h3, Q2 h3 → zSh1 h3 t ∧ Q h3) := by
  have S := r.sh q
  have hb := q.td.2
  refine ⟨fun h3 => zSh1 h3 t ∧ Q h3, cn_X0_append (sg_X0_append_0 S (lw_b q) ?_), fun _ x => x⟩
  have e7 : zI h (b + 21) 7 = nI ln := by rw [r.row (by decide) (by decide)]; exact e
  rw [e7]
  refine ⟨fun c => absurd c (nI_ge (b := 64) h64 (by decide)), fun _ => ⟨zin_n h64 (by decide), ?_, ?_⟩⟩
  · rw [zI_sI, zup_ne _ _ (show b + 21 ≠ b + 21 + 1 by omega), e7]; exact zin_n h64 (by decide)
  · rw [zcla (show ln < 2 ^ 31 by omega), zI_sI, zup_ne _ _ (show b + 21 ≠ b + 21 + 1 by omega), e7, zcla (show ln < 2 ^ 31 by omega)]
    have : zI (zsI (zsI h (b + 21 + 1) ln x) (b + 21 + 2) ln y) (b + 21) 7 = nI ln := by
      rw [zI_sI, zup_ne _ _ (show b + 21 ≠ b + 21 + 2 by omega), zI_sI, zup_ne _ _ (show b + 21 ≠ b + 21 + 1 by omega), e7]
    rw [this]
    have ra := r.app q (l := ln) (v := nI ln + 1) hxy
    refine ⟨ra.sh q, K _ ?_ (fun c hc => ?_)⟩
    · unfold apd
      rw [e, zcla (show ln < 2 ^ 31 by omega)]
      exact ra
    · simp only [zI_sI]
      rw [zup_ne _ _ (show c ≠ b + 21 by omega), zup_ne _ _ (show c ≠ b + 21 + 2 by omega), zup_ne _ _ (show c ≠ b + 21 + 1 by omega)]
theorem X0_addKnot_ok {Q : Int32 → zMem → Prop} (q : rB h0 t b n B) (r : rC h0 b n A p h) (K1 : A 21 8 < 64 → ∀ h', rC h0 b n (addK A) p h' → (∀ c, c < 8 → zI h' c = zI h c) → Q 1 h') (K0 : ¬ A 21 8 < 64 → Q 0 h) : ∃ Q2 : Int32 → zMem → Prop, zConI G mX0_addKnot d [.ref (b + 21)] h Q2 ∧ (∀ v h3, Q2 v h3 → zSh1 h3 t ∧ Q v h3) := by
  have S := r.sh q
  have hb := q.td.2
  refine ⟨fun v h3 => zSh1 h3 t ∧ Q v h3, cn_X0_addKnot (sg_X0_addKnot_0 S (lw_b q) ?_), fun _ _ x => x⟩
  rw [r.row (show 21 < 27 by decide) (by decide)]
  refine ⟨fun c => ?_, fun c => ⟨S, K0 c⟩⟩
  have ra := r.put q (k := 21) (j := 8) (v := A 21 8 + 1) (by decide)
  exact ⟨ra.sh q, K1 c _ ra (fun c hc => by rw [zI_sI, zup_ne _ _ (show c ≠ b + 21 by omega)])⟩
theorem X3_topStrength_ok (q : rB h0 t b n B) (f : fC h0 b n wt o s A p h) (hl : s.length ≤ 72) : zConI G mX3_topStrength d [.ref 2] h (fun v h' => v = topS s ∧ h' = h) := by
  refine cn_X3_topStrength (sg_X3_topStrength_0 (f.1.sh q) ?_)
  rw [f.2.1]
  cases s with
  | nil => exact ⟨fun c => absurd rfl c, fun _ => ⟨rfl, rfl⟩⟩
  | cons x r =>
    have h1 : r.length + 1 ≤ 72 := hl
    have e1 : nI (x :: r).length - 1 = nI r.length := by rw [List.length_cons, ← nI_1, Int32.add_sub_cancel]
    rw [e1, zcla (show r.length < 2 ^ 31 by omega)]
    refine ⟨fun _ => ⟨zin_n (by omega) (by decide), f.2.2.1.2.1, rfl⟩, fun c => absurd c (nI_ne0 (Nat.succ_pos _) (by rw [List.length_cons]; omega))⟩
theorem X3_putOff_ok {Q : Int32 → zMem → Prop} (q : rB h0 t b n B) (f : fC h0 b n wt o s A p h) (hl : s.length < 72) (x : Int32) (K : ∀ h', fC h0 b n wt o (x :: s) A p h' → Q 0 h') : ∃ Q2 : Int32 → zMem → Prop, zConI G mX3_putOff (d + 1) [.ref 2, .int x] h Q2 ∧ (∀ v h3, Q2 v h3 → zSh1 h3 t ∧ Q v h3) := by
  have S := f.1.sh q
  refine ⟨fun v h3 => zSh1 h3 t ∧ Q v h3, cn_X3_putOff (sg_X3_putOff_0 S ?_), fun _ _ x => x⟩
  have e3 := f.2.1
  rw [e3]
  refine ⟨fun _ => ⟨zin_n hl (by decide), ?_⟩, fun c => absurd (nI_lt hl (by decide)) c⟩
  rw [zcla (show s.length < 2 ^ 31 by omega)]
  refine ⟨_, X6_strength_ok x, ?_⟩
  rintro v h4 ⟨rfl, rfl⟩
  rw [zI_sI, zup_ne _ _ (show 2 ≠ 6 by decide), e3, zcla (show s.length < 2 ^ 31 by omega)]
  have S4 := S.W ((zW.rf h).sI 6 s.length x)
  refine ⟨S4, zin_n hl (by decide), ?_⟩
  simp only [zI_sI, zup_ne _ _ (show 2 ≠ 7 by decide), zup_ne _ _ (show 2 ≠ 6 by decide), e3, nI_1]
  have r3 := ((f.1.own q (c := 6) (j := s.length) (v := x) (Or.inr (Or.inl rfl))).own q (c := 7) (j := s.length) (v := str x) (Or.inr (Or.inr rfl))).own q (c := 2) (j := 3) (v := nI (s.length + 1)) (by decide)
  refine ⟨r3.sh q, K _ ⟨r3, ?_, ?_, ?_, ?_⟩⟩
  · rw [zI_sI, zup_s]; rfl
  · simp only [zI_sI, zup_ne _ _ (show 6 ≠ 2 by decide), zup_ne _ _ (show 7 ≠ 2 by decide)]
    refine ⟨?_, ?_, stkM_up (Nat.le_refl _) f.2.2.1⟩
    · rw [zup_ne _ _ (show 6 ≠ 7 by decide), zup_s]
    · rw [zup_s]
  · simp only [zI_sI, zup_i _ _ _ (show 4 ≠ 3 by decide), zup_ne _ _ (show 2 ≠ 7 by decide), zup_ne _ _ (show 2 ≠ 6 by decide)]; exact f.2.2.2.1
  · simp only [zI_sI, zup_i _ _ _ (show 5 ≠ 3 by decide), zup_ne _ _ (show 2 ≠ 7 by decide), zup_ne _ _ (show 2 ≠ 6 by decide)]; exact f.2.2.2.2
theorem apd_wf {x z : Int32} {r : List Int32} (w : wfF o (x :: r) A) (hx : x ≠ 32) : wfF o r (apd A x z) := by
  obtain ⟨ln, kn, w1, w2, w3, w4, w5, w6, w7⟩ := w
  rw [nop, if_neg hx] at w3
  rw [ops, if_neg hx] at w5
  refine ⟨ln + 1, kn, ?_, ?_, by omega, w4, w5, w6, fun y hy => w7 y (List.mem_cons_of_mem _ hy)⟩
  · unfold apd; rw [zup_s, w1, nI_1]
  · unfold apd; rw [zup_i _ _ _ (by decide), zup_ne _ _ (by decide), zup_ne _ _ (by decide)]; exact w2
theorem str32 : str 32 = 0 := by decide
theorem stl_wf {least : Int32} (h1 : ¬ least < 1) : ∀ {s : List Int32} {A : tM}, wfF o s A → wfF o (stl least s A).1 (stl least s A).2
  | [], A, w => w
  | x :: r, A, w => by
    rw [stl]
    by_cases c : str x < least
    · rw [if_pos c]; exact w
    · rw [if_neg c]
      have hx : x ≠ 32 := by
        rintro rfl
        rw [str32] at c
        apply c
        rw [Int32.lt_iff_toInt_lt] at h1 ⊢
        have e1 : (1 : Int32).toInt = 1 := by decide
        have e0 : (0 : Int32).toInt = 0 := by decide
        omega
      exact stl_wf h1 (apd_wf w hx)
theorem wfF.len (w : wfF o s A) : s.length ≤ 72 := by
  obtain ⟨ln, kn, w1, w2, w3, w4, w5, w6, w7⟩ := w
  have := nop_ops s
  omega
theorem X3_settle_ok {Q : zMem → Prop} (q : rB h0 t b n B) {least : Int32} (h1 : ¬ least < 1) : ∀ {s : List Int32} {A : tM} {h : zMem}, fC h0 b n wt o s A p h → wfF o s A → (∀ h', fC h0 b n wt o (stl least s A).1 (stl least s A).2 p h' → Q h') → zg G mX3_settle (d + 1) 0 [.ref 2, .int least] [] h (zPV Q)
  | [], A, h, f, w, K => by
    refine sg_X3_settle_0 (f.1.sh q) ?_
    rw [f.2.1]
    exact ⟨fun _ => K h f, fun c => absurd (by decide) c⟩
  | x :: r, A, h, f, w, K => by
    have S := f.1.sh q
    have hl := w.len
    have hlr : r.length + 1 ≤ 72 := hl
    refine sg_X3_settle_0 S ?_
    refine ⟨fun c => ?_, fun _ => ⟨_, X3_topStrength_ok q f hl, ?_⟩⟩
    · rw [f.2.1] at c
      exact absurd (nI_eq0 (by omega) c) (by rw [List.length_cons]; omega)
    rintro v h3 ⟨rfl, rfl⟩
    rw [stl] at K
    refine ⟨S, fun c => ?_, fun c => ?_⟩
    · rw [if_pos (show str x < least from c)] at K
      exact K h3 f
    · rw [if_neg (show ¬ str x < least from c)] at K
      have hx : x ≠ 32 := by
        rintro rfl
        apply c
        show str 32 < least
        rw [str32]
        rw [Int32.lt_iff_toInt_lt] at h1 ⊢
        have e1 : (1 : Int32).toInt = 1 := by decide
        have e0 : (0 : Int32).toInt = 0 := by decide
        omega
      have h36 : x ≠ 36 := by
        obtain ⟨_, _, _, _, _, _, _, _, w7⟩ := w
        rcases w7 x List.mem_cons_self with e | e
        · exact absurd e hx
        · exact e.2
      have e1 : zI h3 2 3 - 1 = nI r.length := by rw [f.2.1, List.length_cons, ← nI_1, Int32.add_sub_cancel]
      rw [e1]
      simp only [zI_sI, zup_s, zup_ne _ _ (show 6 ≠ 2 by decide)]
      rw [zcla (show r.length < 2 ^ 31 by omega), f.2.2.1.1, ← q.2.2.2.2.1]
      refine ⟨zin_n (by omega) (by decide), ?_⟩
      obtain ⟨ln, kn, w1, w2, w3, w4, w5, w6, w7⟩ := id w
      rw [nop, if_neg hx] at w3
      have r1 := f.1.own q (c := 2) (j := 3) (v := nI r.length) (by decide)
      refine X0_append_ok q r1 w1 (by omega) (z := 0) (fun e => absurd e h36) (fun h' r2 e => ?_)
      refine X3_settle_ok q h1 ⟨r2, ?_, ?_, ?_, ?_⟩ (apd_wf w hx) K
      · rw [e 2 (by decide), zI_sI, zup_s]
      · rw [e 6 (by decide), e 7 (by decide), zI_sI, zup_ne _ _ (by decide), zup_ne _ _ (by decide)]; exact f.2.2.1.2.2
      · rw [e 2 (by decide), zI_sI, zup_i _ _ _ (by decide)]; exact f.2.2.2.1
      · rw [e 2 (by decide), zI_sI, zup_i _ _ _ (by decide)]; exact f.2.2.2.2
theorem rd_settle {Q : zMem → Prop} (q : rB h0 t b n B) {least : Int32} (h1 : ¬ least < 1) (f : fC h0 b n wt o s A p h) (w : wfF o s A) (K : ∀ h', fC h0 b n wt o (stl least s A).1 (stl least s A).2 p h' → Q h') : ∃ Q2 : zMem → Prop, zConV G mX3_settle (d + 1) [.ref 2, .int least] h Q2 ∧ (∀ h3, Q2 h3 → zSh1 h3 t ∧ Q h3) :=
  ⟨fun h3 => zSh1 h3 t ∧ Q h3, cn_X3_settle (X3_settle_ok q h1 f w (fun h' z => ⟨z.1.sh q, K h' z⟩)), fun _ x => x⟩
end FM
