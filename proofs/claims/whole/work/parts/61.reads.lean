/-! calls that only read: class and model answer alike -/
def zOK (h : zMem) : Prop := ∃ t ns nd nr nm dt u nn tp, zSh1 h t ∧ zSh2 h ∧ (zO h 174 101 ∧ zLen h 174 = 1) ∧ zInv (zI h) t ns nd nr nm dt u nn tp
def zBs (h : zMem) : Prop := (∃ t, zSh1 h t) ∧ zSh2 h ∧ (zO h 174 101 ∧ zLen h 174 = 1)
theorem zOK.bs {h : zMem} (q : zOK h) : zBs h := by
  obtain ⟨t, ns, nd, nr, nm, dt, u, nn, tp, h1, h2, h3, h4⟩ := q
  exact ⟨⟨t, h1⟩, h2, h3⟩
def cR (h h1 : zMem) : Prop := zW h h1 ∧ jE (zI h) (zI h1) ∧ ∀ c, 132 ≤ c → zI h1 c = zI h c
def jR (h h1 : zMem) : Prop := zW h h1 ∧ jE (zI h) (zI h1)
theorem cR.rf (h : zMem) : cR h h := ⟨zW.rf h, jE.rf _, fun _ _ => rfl⟩
theorem jR.rf (h : zMem) : jR h h := ⟨zW.rf h, jE.rf _⟩
theorem zF.k {h h1 : zMem} (q : zF h (zI h) h1) : cR h h1 := ⟨q.w, by rw [q.2.2]; exact jE.rf _, fun c _ => by rw [q.2.2]⟩
theorem cR.trans {h h1 h2 : zMem} (a : cR h h1) (b : cR h1 h2) : cR h h2 := ⟨a.1.trans b.1, a.2.1.trans b.2.1, fun c hc => (b.2.2 c hc).trans (a.2.2 c hc)⟩
theorem jR.trans {h h1 h2 : zMem} (a : jR h h1) (b : jR h1 h2) : jR h h2 := ⟨a.1.trans b.1, a.2.trans b.2⟩
theorem jR.thr (h : zMem) : jR h (zsI h 132 0 0) := ⟨(zW.rf h).sI _ _ _, by rw [zI_sI]; exact (jE.rf _).up (by unfold jkP; omega)⟩
theorem jR.mE {h h1 h2 : zMem} (a : jR h h1) (w : zW h1 h2) (e : mE (zI h1) (zI h2)) : jR h h2 := ⟨a.1.trans w, a.2.trans e.j⟩
theorem zW.out {h h1 : zMem} (w : zW h h1) (q : zO h 174 101 ∧ zLen h 174 = 1) : zO h1 174 101 ∧ zLen h1 174 = 1 := by
  obtain ⟨⟨q1, q2⟩, q3⟩ := q
  unfold zO zn zK zLen at *
  rw [w.1.1, w.2]
  exact ⟨⟨q1, q2⟩, q3⟩
theorem zOK.j {h h1 : zMem} (q : zOK h) (r : jR h h1) : zOK h1 := by
  obtain ⟨t, ns, nd, nr, nm, dt, u, nn, tp, h1, h2, h3, h4⟩ := q
  exact ⟨t, ns, nd, nr, nm, dt, u, nn, tp, h1.W r.1, h2.W r.1, r.1.out h3, zInv_j h1.2.1 h4 r.2⟩
theorem cR.j {h h1 : zMem} (q : cR h h1) : jR h h1 := ⟨q.1, q.2.1⟩
/-- class and model, called one behind the other, answer alike, and what holds between calls holds -/
def pairI (G : zG) (mc mm : zM) (D : Nat) (ac am : List Value) (h : zMem) : Prop := ∃ (R : Int32) (K : zMem → Prop) (L : zMem → zMem → Prop), zConI G mc D ac h (fun v h1 => v = R ∧ K h1) ∧ ∀ h1, K h1 → zBs h1 ∧ zConI G mm D am h1 (fun v h2 => v = R ∧ L h1 h2) ∧ ∀ h2, L h1 h2 → zOK h2
def pairL (G : zG) (mc mm : zM) (D : Nat) (ac am : List Value) (h : zMem) : Prop := ∃ (R : Int64) (K : zMem → Prop) (L : zMem → zMem → Prop), zConL G mc D ac h (fun v h1 => v = R ∧ K h1) ∧ ∀ h1, K h1 → zBs h1 ∧ zConL G mm D am h1 (fun v h2 => v = R ∧ L h1 h2) ∧ ∀ h2, L h1 h2 → zOK h2
theorem pair_ro {G : zG} {mc mm : zM} {D : Nat} {ac am : List Value} {h : zMem} (hOK : zOK h) (R : Int32) (hc : zConI G mc D ac h (fun v h1 => v = R ∧ cR h h1)) (hm : ∀ h1, cR h h1 → zConI G mm D am h1 (fun v h2 => v = R ∧ jR h1 h2)) : pairI G mc mm D ac am h :=
  ⟨R, cR h, jR, hc, fun h1 k => ⟨(hOK.j k.j).bs, hm h1 k, fun _ j => (hOK.j k.j).j j⟩⟩
theorem pair_roL {G : zG} {mc mm : zM} {D : Nat} {ac am : List Value} {h : zMem} (hOK : zOK h) (R : Int64) (hc : zConL G mc D ac h (fun v h1 => v = R ∧ cR h h1)) (hm : ∀ h1, cR h h1 → zConL G mm D am h1 (fun v h2 => v = R ∧ jR h1 h2)) : pairL G mc mm D ac am h :=
  ⟨R, cR h, jR, hc, fun h1 k => ⟨(hOK.j k.j).bs, hm h1 k, fun _ j => (hOK.j k.j).j j⟩⟩
/-- not one of n -/
def noP (n : Nat) (x : Int32) : Prop := x < 0 ∨ nI n ≤ x
theorem ix_or (x : Int32) {n : Nat} (hn : n < 2 ^ 31) : noP n x ∨ ∃ j : Nat, j < n ∧ x = nI j := by
  rcases pk_ix x hn with h | h | h
  · exact Or.inl (Or.inl h)
  · exact Or.inl (Or.inr h)
  · exact Or.inr h
section HAS
variable {G : zG} {d t n : Nat} {h : zMem} {x : Int32}
theorem X9_has_no (hS : zSh1 h t) {k : Nat} (hk : k < 4) (hn : zI h (t + 1) k = nI n) (q : noP n x) : zConI G mX9_has d [.ref 0, .int (nI k), .int x] h (fun v h' => v = 0 ∧ h' = h) := by
  refine cn_X9_has (sg_X9_has_0 hS ?_)
  rw [zcla (show k < 2 ^ 31 by omega), hn]
  exact ⟨fun _ => ⟨rfl, rfl⟩, fun c => ⟨zin_n hk (by decide), fun _ => ⟨rfl, rfl⟩, fun c2 => (q.elim (fun e => absurd e c) (fun e => absurd e c2))⟩⟩
theorem X9_has_yes (hS : zSh1 h t) {k j : Nat} (hk : k < 4) (hn : zI h (t + 1) k = nI n) (hj : j < n) (h8 : n ≤ 8) : zConI G mX9_has d [.ref 0, .int (nI k), .int (nI j)] h (fun v h' => v = 1 ∧ h' = h) := by
  refine cn_X9_has (sg_X9_has_0 hS ?_)
  rw [zcla (show k < 2 ^ 31 by omega), hn]
  exact ⟨fun c => absurd c (nI_pos (by omega)), fun c => ⟨zin_n hk (by decide), fun c2 => absurd c2 (nI_ge hj (by omega)), fun _ => ⟨rfl, rfl⟩⟩⟩
theorem X10_isStuff_no (hS : zSh2 h) (hn : zI h 134 0 = nI n) (q : noP n x) : zConI G mX10_isStuff d [.ref 132, .int x] h (fun v h' => v = 0 ∧ h' = h) := by
  refine cn_X10_isStuff (sg_X10_isStuff_0 hS ?_)
  rw [hn]
  exact ⟨fun _ => ⟨rfl, rfl⟩, fun c => ⟨fun _ => ⟨rfl, rfl⟩, fun c2 => (q.elim (fun e => absurd e c) (fun e => absurd e c2))⟩⟩
theorem X10_isStuff_yes (hS : zSh2 h) {j : Nat} (hn : zI h 134 0 = nI n) (hj : j < n) (h8 : n ≤ 8) : zConI G mX10_isStuff d [.ref 132, .int (nI j)] h (fun v h' => v = 1 ∧ h' = h) := by
  refine cn_X10_isStuff (sg_X10_isStuff_0 hS ?_)
  rw [hn]
  exact ⟨fun c => absurd c (nI_pos (by omega)), fun c => ⟨fun c2 => absurd c2 (nI_ge hj (by omega)), fun _ => ⟨rfl, rfl⟩⟩⟩
theorem X10_isDay_no (hS : zSh2 h) (hn : zI h 134 1 = nI n) (q : noP n x) : zConI G mX10_isDay d [.ref 132, .int x] h (fun v h' => v = 0 ∧ h' = h) := by
  refine cn_X10_isDay (sg_X10_isDay_0 hS ?_)
  rw [hn]
  exact ⟨fun _ => ⟨rfl, rfl⟩, fun c => ⟨fun _ => ⟨rfl, rfl⟩, fun c2 => (q.elim (fun e => absurd e c) (fun e => absurd e c2))⟩⟩
theorem X10_isDay_yes (hS : zSh2 h) {j : Nat} (hn : zI h 134 1 = nI n) (hj : j < n) (h8 : n ≤ 8) : zConI G mX10_isDay d [.ref 132, .int (nI j)] h (fun v h' => v = 1 ∧ h' = h) := by
  refine cn_X10_isDay (sg_X10_isDay_0 hS ?_)
  rw [hn]
  exact ⟨fun c => absurd c (nI_pos (by omega)), fun c => ⟨fun c2 => absurd c2 (nI_ge hj (by omega)), fun _ => ⟨rfl, rfl⟩⟩⟩
theorem X10_isRoom_no (hS : zSh2 h) (hn : zI h 134 3 = nI n) (q : noP n x) : zConI G mX10_isRoom d [.ref 132, .int x] h (fun v h' => v = 0 ∧ h' = h) := by
  refine cn_X10_isRoom (sg_X10_isRoom_0 hS ?_)
  rw [hn]
  exact ⟨fun _ => ⟨rfl, rfl⟩, fun c => ⟨fun _ => ⟨rfl, rfl⟩, fun c2 => (q.elim (fun e => absurd e c) (fun e => absurd e c2))⟩⟩
theorem X10_isRoom_yes (hS : zSh2 h) {j : Nat} (hn : zI h 134 3 = nI n) (hj : j < n) (h8 : n ≤ 8) : zConI G mX10_isRoom d [.ref 132, .int (nI j)] h (fun v h' => v = 1 ∧ h' = h) := by
  refine cn_X10_isRoom (sg_X10_isRoom_0 hS ?_)
  rw [hn]
  exact ⟨fun c => absurd c (nI_pos (by omega)), fun c => ⟨fun c2 => absurd c2 (nI_ge hj (by omega)), fun _ => ⟨rfl, rfl⟩⟩⟩
theorem X10_isMonk_no (hS : zSh2 h) (hn : zI h 134 4 = nI n) (q : noP n x) : zConI G mX10_isMonk d [.ref 132, .int x] h (fun v h' => v = 0 ∧ h' = h) := by
  refine cn_X10_isMonk (sg_X10_isMonk_0 hS ?_)
  rw [hn]
  exact ⟨fun _ => ⟨rfl, rfl⟩, fun c => ⟨fun _ => ⟨rfl, rfl⟩, fun c2 => (q.elim (fun e => absurd e c) (fun e => absurd e c2))⟩⟩
theorem X10_isMonk_yes (hS : zSh2 h) {j : Nat} (hn : zI h 134 4 = nI n) (hj : j < n) (h8 : n ≤ 8) : zConI G mX10_isMonk d [.ref 132, .int (nI j)] h (fun v h' => v = 1 ∧ h' = h) := by
  refine cn_X10_isMonk (sg_X10_isMonk_0 hS ?_)
  rw [hn]
  exact ⟨fun c => absurd c (nI_pos (by omega)), fun c => ⟨fun c2 => absurd c2 (nI_ge hj (by omega)), fun _ => ⟨rfl, rfl⟩⟩⟩
end HAS
theorem n10 : ¬ (1 : Int32) = 0 := by decide
/-- fault -/
theorem pr_fault {G : zG} {d : Nat} {h : zMem} (hOK : zOK h) (x : Int32) : pairI G mX9_fault mX10_fault (d + 200) [.ref 0, .int x] [.ref 132, .int x] h := by
  have hOK' := hOK
  obtain ⟨t, ns, nd, nr, nm, dt, u, nn, tp, S1, S2, -, hI⟩ := hOK'
  have e := hI.2.2.2.2.2.2.2.1
  refine pair_ro hOK (if x = 0 then zI h 2 7 else if x = 1 then zI h 2 8 else -1) ?_ (fun h1 k => ?_)
  · refine cn_X9_fault (sg_X9_fault_0 S1 ⟨fun c => ?_, fun c => ?_, fun c c2 => ?_⟩)
    · rw [if_pos c]; exact ⟨rfl, cR.rf h⟩
    · rw [if_neg (by rw [c]; decide), if_pos c]; exact ⟨rfl, cR.rf h⟩
    · rw [if_neg c, if_neg c2]; exact ⟨rfl, cR.rf h⟩
  · refine cn_X10_fault (sg_X10_fault_0 (S2.W k.1) ?_)
    simp only [zI_sI, zup_i _ _ _ (show (27 : Nat) ≠ 0 by decide), zup_i _ _ _ (show (28 : Nat) ≠ 0 by decide), k.2.2 132 (by decide)]
    refine ⟨fun c => ⟨fun c2 => ?_, fun c2 => ?_⟩, fun c => ?_⟩
    · rw [if_neg c, if_neg c2]; exact ⟨rfl, jR.thr h1⟩
    · rw [if_neg c, if_pos c2]; exact ⟨e.2.symm, jR.thr h1⟩
    · rw [if_pos c]; exact ⟨e.1.symm, jR.thr h1⟩
theorem findF_congr {f g : Nat → Int32} {x : Int32} : ∀ n k, (∀ j, k ≤ j → j < k + n → f j = g j) → findF f x n k = findF g x n k
  | 0, _, _ => rfl
  | n + 1, k, h => by
    unfold findF
    rw [h k (Nat.le_refl _) (by omega), findF_congr n (k + 1) (fun j a b => h j (by omega) (by omega))]
theorem X10_found_ok {G : zG} {d : Nat} {h : zMem} (hS : zSh2 h) {a from' n : Nat} (ho : zO h a 100) (hl : from' + n ≤ zLen h a) (hb : zLen h a < 2 ^ 31) (x : Int32) :
    zConI G mX10_found d [.ref a, .int (nI from'), .int (nI n), .int x] h (fun v h' => v = findF (fun k => zI h a (from' + k)) x n 0 ∧ h' = h) := by
  refine cn_X10_found (sg_X10_found_0 hS ?_)
  have loop : ∀ m k, m + k = n → findF (fun k => zI h a (from' + k)) x m k = findF (fun k => zI h a (from' + k)) x n 0 → zg G mX10_found d 3 [.ref a, .int (nI from'), .int (nI n), .int x, .int (nI k)] [] h (zPI (fun v h' => v = findF (fun k => zI h a (from' + k)) x n 0 ∧ h' = h)) := by
    intro m
    induction m with
    | zero =>
      intro k hk e
      have : k = n := by omega
      subst this
      exact sg_X10_found_3 hS ⟨fun _ => ⟨by rw [← e]; rfl, rfl⟩, fun c => absurd (nI_le (Nat.le_refl _) (by omega)) c⟩
    | succ m ih =>
      intro k hk e
      refine sg_X10_found_3 hS ?_
      rw [nI_add, zcla (show from' + k < 2 ^ 31 by omega), nI_1]
      rw [findF] at e
      refine ⟨fun c => absurd c (nI_ge (by omega) (by omega)), fun _ => ⟨ho, zin_n (by omega) hb, fun c => ?_, fun c => ⟨?_, rfl⟩⟩⟩
      · rw [if_neg c] at e; exact ih (k + 1) (by omega) e
      · rw [if_pos c] at e; exact e
  exact loop n 0 (by omega) rfl
set_option maxHeartbeats 1000000 in
theorem pr_named {G : zG} {d : Nat} {h : zMem} (hOK : zOK h) (x y : Int32) : pairI G mX9_named mX10_named (d + 200) [.ref 0, .int x, .int y] [.ref 132, .int x, .int y] h := by
  have hOK' := hOK
  obtain ⟨t, ns, nd, nr, nm, dt, u, nn, tp, S1, S2, -, hI⟩ := hOK'
  obtain ⟨td, md, -, -, n1, n2, n3, n4, -⟩ := hI.1
  obtain ⟨t0, t1, t2, t3, h6, h8, h6r, h5, -⟩ := td
  obtain ⟨m0, m1, m3, m4, -⟩ := md
  have K : ∀ h1, cR h h1 → zI (zsI h1 132 0 0) 134 = zI h 134 ∧ zI (zsI h1 132 0 0) 135 = zI h 135 ∧ zI (zsI h1 132 0 0) 137 = zI h 137 ∧ zI (zsI h1 132 0 0) 140 = zI h 140 ∧ zI (zsI h1 132 0 0) 142 = zI h 142 := fun h1 k => by
    rw [zI_sI, zup_ne _ _ (by decide), zup_ne _ _ (by decide), zup_ne _ _ (by decide), zup_ne _ _ (by decide), zup_ne _ _ (by decide), k.2.2 134 (by decide), k.2.2 135 (by decide), k.2.2 137 (by decide), k.2.2 140 (by decide), k.2.2 142 (by decide)]
    exact ⟨rfl, rfl, rfl, rfl, rfl⟩
  rcases ix_or x (n := 4) (by decide) with q | ⟨j, hj, rfl⟩
  · refine pair_ro hOK (-1) ?_ (fun h1 k => ?_)
    · refine cn_X9_named (sg_X9_named_0 S1 ⟨fun _ => ⟨rfl, cR.rf h⟩, fun c => ⟨fun c2 => ?_, fun _ => ⟨rfl, cR.rf h⟩⟩⟩)
      rcases q with q | q
      · exact absurd q c
      · have a := Int32.le_iff_toInt_le.mp q
        have b := Int32.le_iff_toInt_le.mp c2
        rw [nI_toInt (by decide)] at a
        have e : (3 : Int32).toInt = 3 := rfl
        omega
    · refine cn_X10_named (sg_X10_named_0 (S2.W k.1) ⟨fun c => ?_, fun c => ?_, fun c => ?_, fun c => ?_, fun _ _ _ _ => ⟨rfl, jR.thr h1⟩⟩)
      all_goals
        subst c
        rcases q with q | q
        · exact absurd q (by decide)
        · exact absurd q (by decide)
  · refine pair_ro hOK (findF (zI h (t + 2 + 1 + j)) y (if j = 0 then ns else if j = 1 then nd else if j = 2 then nr else nm) 0) ?_ (fun h1 k => ?_)
    · refine cn_X9_named (sg_X9_named_0 S1 ⟨fun c => absurd c (nI_pos (by omega)), fun c => ⟨fun c2 => ⟨_, X7_numberOf_ok (n := if j = 0 then ns else if j = 1 then nd else if j = 2 then nr else nm) S1 S1.2.1 hj ?_ ?_ y, ?_⟩, fun c2 => absurd (show nI j ≤ nI 3 from nI_le (by omega) (by decide)) c2⟩⟩)
      · rcases (show j = 0 ∨ j = 1 ∨ j = 2 ∨ j = 3 by omega) with rfl | rfl | rfl | rfl
        · exact t0
        · exact t1
        · exact t2
        · exact t3
      · split
        · omega
        · split
          · omega
          · split <;> omega
      · rintro v h4 ⟨rfl, rfl⟩
        exact ⟨S1, rfl, cR.rf _⟩
    · obtain ⟨k0, k1, k2, k3, k4⟩ := K h1 k
      have S3 : zSh2 (zsI h1 132 0 0) := (S2.W k.1).W ((zW.rf _).sI _ _ _)
      refine cn_X10_named (sg_X10_named_0 (S2.W k.1) ?_)
      rw [k0, m0, m1, m3, m4]
      have L : ∀ a, zI (zsI h1 132 0 0) a = zI h a → ∀ n, (∀ i, i < n → zI h (t + 2 + 1 + j) i = zI h a i) → findF (fun k => zI (zsI h1 132 0 0) a (0 + k)) y n 0 = findF (zI h (t + 2 + 1 + j)) y n 0 := fun a ea n hn => by
        refine findF_congr n 0 (fun i _ hi => ?_)
        show zI (zsI h1 132 0 0) a (0 + i) = _
        rw [ea, Nat.zero_add]; exact (hn i (by omega)).symm
      rcases (show j = 0 ∨ j = 1 ∨ j = 2 ∨ j = 3 by omega) with rfl | rfl | rfl | rfl
      · refine ⟨fun _ => ⟨_, X10_found_ok S3 (from' := 0) (zcl1.o S3 135 100 rfl rfl rfl) (by rw [zcl1.l S3 135 12 rfl rfl rfl]; omega) (by rw [zcl1.l S3 135 12 rfl rfl rfl]; decide) y, ?_⟩, fun c => absurd c (by decide), fun c => absurd c (by decide), fun c => absurd c (by decide), fun c => absurd rfl c⟩
        rintro v h2 ⟨rfl, rfl⟩
        exact ⟨S3, L 135 k1 ns n1, jR.thr h1⟩
      · refine ⟨fun c => absurd c (by decide), fun _ => ⟨_, X10_found_ok S3 (from' := 0) (zcl1.o S3 137 100 rfl rfl rfl) (by rw [zcl1.l S3 137 16 rfl rfl rfl]; omega) (by rw [zcl1.l S3 137 16 rfl rfl rfl]; decide) y, ?_⟩, fun c => absurd c (by decide), fun c => absurd c (by decide), fun _ c => absurd rfl c⟩
        rintro v h2 ⟨rfl, rfl⟩
        exact ⟨S3, L 137 k2 nd n2, jR.thr h1⟩
      · refine ⟨fun c => absurd c (by decide), fun c => absurd c (by decide), fun _ => ⟨_, X10_found_ok S3 (from' := 0) (zcl1.o S3 140 100 rfl rfl rfl) (by rw [zcl1.l S3 140 12 rfl rfl rfl]; omega) (by rw [zcl1.l S3 140 12 rfl rfl rfl]; decide) y, ?_⟩, fun c => absurd c (by decide), fun _ _ c => absurd rfl c⟩
        rintro v h2 ⟨rfl, rfl⟩
        exact ⟨S3, L 140 k3 nr n3, jR.thr h1⟩
      · refine ⟨fun c => absurd c (by decide), fun c => absurd c (by decide), fun c => absurd c (by decide), fun _ => ⟨_, X10_found_ok S3 (from' := 0) (zcl1.o S3 142 100 rfl rfl rfl) (by rw [zcl1.l S3 142 10 rfl rfl rfl]; omega) (by rw [zcl1.l S3 142 10 rfl rfl rfl]; decide) y, ?_⟩, fun _ _ _ c => absurd rfl c⟩
        rintro v h2 ⟨rfl, rfl⟩
        exact ⟨S3, L 142 k4 nm n4, jR.thr h1⟩
