/-! the model: its laws -/
/-- the same ints but for how many are worked out -/
def mE (I I' : Nat → Nat → Int32) : Prop := (∀ a, a ≠ 132 → I' a = I a) ∧ ∀ k, k ≠ 33 → I' 132 k = I 132 k
theorem mE.rf (I : Nat → Nat → Int32) : mE I I := ⟨fun _ _ => rfl, fun _ _ => rfl⟩
theorem mE.trans {I I1 I2 : Nat → Nat → Int32} (a : mE I I1) (b : mE I1 I2) : mE I I2 := ⟨fun x hx => (b.1 x hx).trans (a.1 x hx), fun k hk => (b.2 k hk).trans (a.2 k hk)⟩
theorem mE.up {I I1 : Nat → Nat → Int32} (a : mE I I1) (v : Int32) : mE I (zup I1 132 33 v) := ⟨fun x hx => by rw [zup_ne _ _ hx]; exact a.1 x hx, fun k hk => by rw [zup_i _ _ _ hk]; exact a.2 k hk⟩
theorem zW.sL {h h' : zMem} (q : zW h h') (a i : Nat) (v : Int64) (ha : a ≠ 99 := by decide) : zW h (zsL h' a i v) := ⟨⟨q.1.1, by rw [zL_sL]; exact (funext fun j => zup_a _ _ j (Ne.symm ha)).trans q.1.2⟩, q.2⟩
theorem X10_is_ok {G : zG} {d : Nat} {h : zMem} (hS : zSh2 h) (b : Int32) : zConL G mX10_is d [.int b] h (fun v h' => v = (if b = 0 then 0 else 1) ∧ h' = h) :=
  cn_X10_is (sg_X10_is_0 hS ⟨fun c => ⟨by rw [if_pos c], rfl⟩, fun c => ⟨by rw [if_neg c], rfl⟩⟩)
def labsF (x : Int64) : Int64 := if 0 < x then x else if x = 0 then x else -x
/-- what a sign comes to; none: it doesn't -/
def wkF (s : Int32) (x y : Int64) : Option Int64 :=
  if s = 42 then (if x = 0 then some (x * y) else if labsF y ≤ 1000000000000 / labsF x then some (x * y) else none)
  else if s = 43 then some (x + y)
  else if s = 45 then some (x - y)
  else if s = 47 then (if y = 0 then none else some (x / y))
  else if s = 60 then some (if y ≤ x then 0 else 1)
  else if s = 61 then some (if x = y then 1 else 0)
  else if s = 62 then some (if x ≤ y then 0 else 1)
  else if s = 256 then some (if y < x then 0 else 1)
  else if s = 257 then some (if x = y then 0 else 1)
  else if s = 258 then some (if x < y then 0 else 1)
  else if s = 261 then some (if x = 0 then 0 else if y = 0 then 0 else 1)
  else some (if x = 0 then (if y = 0 then 0 else 1) else 1)
def okF (w : Int64) : Bool := if 1000000000000 < w then false else if w < -1000000000000 then false else true
/-- behind a sign of two: v says whether it came out -/
def wkR (h h' : zMem) (k : Nat) (s : Int32) (x y : Int64) (v : Int32) : Prop := zW h h' ∧ mE (zI h) (zI h') ∧ (∀ a, a ≠ 150 → zL h' a = zL h a) ∧ ((v = 0 ∧ (wkF s x y = none ∨ ∃ w, wkF s x y = some w ∧ okF w = false)) ∨ ∃ w, v = 1 ∧ wkF s x y = some w ∧ okF w = true ∧ zI h' 132 33 = nI (k + 1) ∧ zL h' 150 k = w ∧ ∀ j, j < k → zL h' 150 j = zL h 150 j)
theorem labs_ne {x : Int64} (h : ¬ x = 0) : ¬ (if 0 < x then x else if x = 0 then x else -x) = 0 := by
  by_cases q : 0 < x
  · rw [if_pos q]; exact h
  · rw [if_neg q, if_neg h]
    intro e
    exact h (by rw [← Int64.neg_neg (a := x), e]; rfl)
set_option maxHeartbeats 8000000 in
set_option maxRecDepth 20000 in
theorem X10_works_ok {G : zG} {d : Nat} {h : zMem} (hS : zSh2 h) {k : Nat} (hk : zI h 132 33 = nI (k + 2)) (h64 : k + 2 ≤ 64) {s : Int32} (hs : ¬ s = 260) :
    zConI G mX10_works (d + 1) [.ref 132, .int s] h (fun v h' => wkR h h' k s (zL h 150 k) (zL h 150 (k + 1)) v) := by
  refine cn_X10_works (sg_X10_works_0 hS ?_)
  have k1 : nI (k + 2) - 1 = nI (k + 1) := nI_pred (k + 1)
  have k2 : nI (k + 2) - 2 = nI k := pk_sub (a := k + 2) (b := 2) (by omega)
  simp only [hk, k1, k2, zcla (show k < 2 ^ 31 by omega), zcla (show k + 1 < 2 ^ 31 by omega)]
  obtain ⟨x, hx⟩ : ∃ x, x = zL h 150 k := ⟨_, rfl⟩
  obtain ⟨y, hy⟩ : ∃ y, y = zL h 150 (k + 1) := ⟨_, rfl⟩
  simp only [← hx, ← hy]
  have hI1 : zI (zsI h 132 33 (nI (k + 1))) 132 33 = nI (k + 1) := by rw [zI_sI, zup_s]
  have hS1 : zSh2 (zsI h 132 33 (nI (k + 1))) := hS.W ((zW.rf h).sI _ _ _)
  have F : ∀ c : Bool, wkF s x y = none → wkR h (zsI h 132 33 (nI (k + 1))) k s x y 0 := fun _ e => ⟨(zW.rf h).sI _ _ _, (mE.rf _).up _, fun _ _ => rfl, Or.inl ⟨rfl, Or.inl e⟩⟩
  have J : ∀ w : Int64, wkF s x y = some w → zg G mX10_works (d + 1) 407 [.ref 132, .int s, .long y, zU, .long x, zU, .long w, zU] [] (zsI h 132 33 (nI (k + 1))) (zPI (fun v h' => wkR h h' k s x y v)) := by
    intro w e
    refine sg_X10_works_407 hS1 ?_
    rw [hI1, show nI (k + 1) - 1 = nI k from nI_pred k, zcla (show k < 2 ^ 31 by omega), lg_cmp_gt, lg_cmp_lt]
    have hw : zW h (zsL (zsI h 132 33 (nI (k + 1))) 150 k w) := ((zW.rf h).sI _ _ _).sL _ _ _
    have he : mE (zI h) (zI (zsL (zsI h 132 33 (nI (k + 1))) 150 k w)) := (mE.rf _).up _
    have hl : ∀ a, a ≠ 150 → zL (zsL (zsI h 132 33 (nI (k + 1))) 150 k w) a = zL h a := fun a ha => by rw [zL_sL, zup_ne _ _ ha]; rfl
    refine ⟨zin_n (by omega) (by decide), fun c => ⟨hw, he, hl, Or.inl ⟨rfl, Or.inr ⟨w, e, ?_⟩⟩⟩, fun c => ⟨fun c2 => ⟨hw, he, hl, Or.inl ⟨rfl, Or.inr ⟨w, e, ?_⟩⟩⟩, fun c2 => ⟨hw, he, hl, Or.inr ⟨w, rfl, e, ?_, hI1, ?_, fun j hj => ?_⟩⟩⟩⟩
    · unfold okF; rw [if_pos c]
    · unfold okF; rw [if_neg c, if_pos c2]
    · unfold okF; rw [if_neg c, if_neg c2]
    · rw [zL_sL, zup_s]
    · rw [zL_sL, zup_i _ _ _ (by omega)]; rfl
  have JI : ∀ (bb : Int32) (w : Int64), w = (if bb = 0 then 0 else 1) → wkF s x y = some w → ∃ Q1 : Int64 → zMem → Prop, zConL G mX10_is d [.int bb] (zsI h 132 33 (nI (k + 1))) Q1 ∧ (∀ v h', Q1 v h' → zSh2 h' ∧ zg G mX10_works (d + 1) 407 [.ref 132, .int s, .long y, zU, .long x, zU, .long v, zU] [] h' (zPI (fun v h' => wkR h h' k s x y v))) := by
    intro bb w e1 e2
    refine ⟨_, X10_is_ok hS1 bb, ?_⟩
    rintro v h' ⟨rfl, rfl⟩
    exact ⟨hS1, J _ (by rw [← e1]; exact e2)⟩
  simp only [lg_cmp_ge, lg_cmp_le, lg_cmp_gt, lg_cmp_lt, lg_cmp_eq]
  refine ⟨zin_n (by omega) (by decide), fun _ => ⟨zin_n (by omega) (by decide), fun c => ⟨fun c1 => J _ ?_, fun c1 => ⟨labs_ne c1, fun c2 => J _ ?_, fun c2 => F true ?_⟩⟩, fun c => J _ ?_, fun c => J _ ?_, fun c => ⟨fun c1 => ⟨c1, J _ ?_⟩, fun c1 => F true ?_⟩, fun c => ⟨fun c1 => JI 0 0 rfl ?_, fun c1 => JI 1 1 rfl ?_⟩, fun c => ⟨fun c1 => JI 0 0 rfl ?_, fun c1 => JI 1 1 rfl ?_⟩, fun c => ⟨fun c1 => JI 0 0 rfl ?_, fun c1 => JI 1 1 rfl ?_⟩, fun c => ⟨fun c1 => JI 0 0 rfl ?_, fun c1 => JI 1 1 rfl ?_⟩, fun c => ⟨fun c1 => JI 0 0 rfl ?_, fun c1 => JI 1 1 rfl ?_⟩, fun c => ⟨fun c1 => JI 0 0 rfl ?_, fun c1 => JI 1 1 rfl ?_⟩, fun c => ⟨fun c1 => JI 0 0 rfl ?_, fun c1 => ⟨fun c2 => JI 0 0 rfl ?_, fun c2 => JI 1 1 rfl ?_⟩⟩, fun e1 e2 e3 e4 e5 e6 e7 e8 e9 e10 e11 => ⟨fun c1 => JI 1 1 rfl ?_, fun c1 => ⟨fun c2 => JI 0 0 rfl ?_, fun c2 => JI 1 1 rfl ?_⟩⟩⟩, fun c => absurd c hs⟩
  all_goals first
    | (subst c; unfold wkF; simp [c1, c2]; done)
    | (subst c; unfold wkF; simp [c1]; done)
    | (subst c; unfold wkF; simp; done)
    | (subst c; unfold wkF labsF; rw [if_pos rfl, if_pos c1])
    | (subst c; unfold wkF labsF; rw [if_pos rfl, if_neg c1, if_pos c2])
    | (subst c; unfold wkF labsF; rw [if_pos rfl, if_neg c1, if_neg c2])
    | (unfold wkF; rw [if_neg e1, if_neg e2, if_neg e3, if_neg e4, if_neg e5, if_neg e6, if_neg e7, if_neg e8, if_neg e9, if_neg e10, if_neg e11, if_neg c1])
    | (unfold wkF; rw [if_neg e1, if_neg e2, if_neg e3, if_neg e4, if_neg e5, if_neg e6, if_neg e7, if_neg e8, if_neg e9, if_neg e10, if_neg e11, if_pos c1, if_pos c2])
    | (unfold wkF; rw [if_neg e1, if_neg e2, if_neg e3, if_neg e4, if_neg e5, if_neg e6, if_neg e7, if_neg e8, if_neg e9, if_neg e10, if_neg e11, if_pos c1, if_neg c2])
