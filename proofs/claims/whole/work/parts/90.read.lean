/-! the class's reader: lines but laws -/
abbrev tM : Type := Nat → Nat → Int32
/-- a fault and its place, or what is told now and where the next token begins -/
abbrev tRes : Type := Sum (Int32 × Nat) (tM × Nat)
/-- all but the reader's own cells stays -/
def frR (I0 I : Nat → Nat → Int32) (b : Nat) : Prop := ∀ c, c ≠ 2 → c ≠ 3 → c ≠ 6 → c ≠ 7 → (c < b ∨ b + 27 ≤ c) → I c = I0 c
def rC (h0 : zMem) (b n : Nat) (A : tM) (p : Nat) (h : zMem) : Prop := zW h0 h ∧ frR (zI h0) (zI h) b ∧ scC (zI h) n p ∧ p ≤ n ∧ ((∀ k, k < 27 → k ≠ 23 → zI h (b + k) = A k) ∧ ∀ i, A 22 i = 36 → zI h (b + 23) i = A 23 i) ∧ (zI h 2 7 = 0 ∧ zI h 2 8 = -1)
def rF (h0 : zMem) (b : Nat) (f : Int32) (pl : Nat) (h : zMem) : Prop := zW h0 h ∧ frR (zI h0) (zI h) b ∧ zI h 2 7 = f ∧ zI h 2 8 = nI pl
/-- what the reader's work rests on -/
def rB (h0 : zMem) (t b n : Nat) (B : Nat → Int32) : Prop := zSh1 h0 t ∧ zR h0 3 1 = some 1 ∧ n ≤ 700 ∧ (∀ k, k < 22 → zI h0 4 k = wdT k) ∧ b = 111 - t ∧ zI h0 1 = B
def lR (h0 : zMem) (b n : Nat) (r : tRes) (v : Int32) (h : zMem) : Prop := match r with
  | .inl (f, pl) => v = -1 ∧ rF h0 b f pl h
  | .inr (A, p) => v = 0 ∧ rC h0 b n A p h
theorem rB.td {h0 : zMem} {t b n : Nat} {B : Nat → Int32} (q : rB h0 t b n B) : isTd b ∧ (b = 8 ∨ b = 103) := by
  obtain ⟨s, _, _, _, e, _⟩ := q
  rcases s.2.1 with r | r
  · rw [e, r]; exact ⟨Or.inr rfl, Or.inr rfl⟩
  · rw [e, r]; exact ⟨Or.inl rfl, Or.inl rfl⟩
section RD
variable {G : zG} {d t b n p : Nat} {h0 h : zMem} {B : Nat → Int32} {A : tM}
theorem rC.b1 (q : rB h0 t b n B) (r : rC h0 b n A p h) : zI h 1 = B := by
  rw [r.2.1 1 (by decide) (by decide) (by decide) (by decide) (by rcases q.td.2 with e | e <;> omega)]; exact q.2.2.2.2.2
theorem rC.sh (q : rB h0 t b n B) (r : rC h0 b n A p h) : zSh1 h t := q.1.W r.1
theorem rC.tk (q : rB h0 t b n B) (r : rC h0 b n A p h) : zI h 3 4 = tkt B n p := by
  have := r.2.2.1.2.2.1; rwa [r.b1 q] at this
theorem rC.ts (q : rB h0 t b n B) (r : rC h0 b n A p h) : zI h 3 5 = nI (tks B n p) := by
  have := r.2.2.1.2.2.2.1; rwa [r.b1 q] at this
theorem rC.tl (q : rB h0 t b n B) (r : rC h0 b n A p h) (e : tkt B n p = 35) : zI h 3 6 = tkl B n p := by
  have := r.2.2.1.2.2.2.2.1; rw [r.b1 q] at this; exact this e
theorem rC.tn (q : rB h0 t b n B) (r : rC h0 b n A p h) (e : tkt B n p = 36) : zI h 3 7 = tkn B n p := by
  have := r.2.2.1.2.2.2.2.2; rw [r.b1 q] at this; exact this e
theorem rC.row (r : rC h0 b n A p h) {k : Nat} (hk : k < 27) (h3 : k ≠ 23) : zI h (b + k) = A k := r.2.2.2.2.1.1 k hk h3
theorem rC.row0 (r : rC h0 b n A p h) : zI h b = A 0 := r.2.2.2.2.1.1 0 (by decide) (by decide)
/-- a thing told is put down -/
theorem rC.put (q : rB h0 t b n B) (r : rC h0 b n A p h) {k j : Nat} {v : Int32} (hk : k < 22 ∨ (24 ≤ k ∧ k < 27)) : rC h0 b n (zup A k j v) p (zsI h (b + k) j v) := by
  obtain ⟨r1, r2, r3, r4, r5, r6⟩ := r
  have hb := q.td.2
  refine ⟨r1.sI _ _ _, fun c a1 a2 a3 a4 a5 => ?_, ?_, r4, ⟨fun i hi i3 => ?_, fun i hi => ?_⟩, ?_⟩
  · rw [zI_sI, zup_ne _ _ (by omega)]; exact r2 c a1 a2 a3 a4 a5
  · unfold scC at *
    rw [zI_sI, zup_ne _ _ (show 3 ≠ b + k by omega), zup_ne _ _ (show 1 ≠ b + k by omega)]; exact r3
  · rw [zI_sI]
    by_cases e : i = k
    · subst e
      funext x
      by_cases e2 : x = j
      · subst e2; rw [zup_s, zup_s]
      · rw [zup_i _ _ _ e2, zup_i _ _ _ e2, r5.1 i hi i3]
    · rw [zup_ne _ _ (show b + i ≠ b + k by omega), zup_ne _ _ e]; exact r5.1 i hi i3
  · rw [zup_ne _ _ (show 22 ≠ k by omega)] at hi
    rw [zI_sI, zup_ne _ _ (show b + 23 ≠ b + k by omega), zup_ne _ _ (show 23 ≠ k by omega)]; exact r5.2 i hi
  · rw [zI_sI, zup_ne _ _ (show 2 ≠ b + k by omega)]; exact r6
theorem rC.put0 (q : rB h0 t b n B) (r : rC h0 b n A p h) {j : Nat} {v : Int32} : rC h0 b n (zup A 0 j v) p (zsI h b j v) := r.put q (k := 0) (by decide)
/-- the reader's own numbers -/
theorem rC.own (q : rB h0 t b n B) (r : rC h0 b n A p h) {c j : Nat} {v : Int32} (hc : c = 2 ∧ j ≠ 7 ∧ j ≠ 8 ∨ c = 6 ∨ c = 7) : rC h0 b n A p (zsI h c j v) := by
  obtain ⟨r1, r2, r3, r4, r5, r6⟩ := r
  have hb := q.td.2
  refine ⟨r1.sI _ _ _, fun c' a1 a2 a3 a4 a5 => ?_, ?_, r4, ⟨fun i hi i3 => ?_, fun i hi => ?_⟩, ?_⟩
  · rw [zI_sI, zup_ne _ _ (by omega)]; exact r2 c' a1 a2 a3 a4 a5
  · unfold scC at *
    rw [zI_sI, zup_ne _ _ (show 3 ≠ c by omega), zup_ne _ _ (show 1 ≠ c by omega)]; exact r3
  · rw [zI_sI, zup_ne _ _ (show b + i ≠ c by omega)]; exact r5.1 i hi i3
  · rw [zI_sI, zup_ne _ _ (show b + 23 ≠ c by omega)]; exact r5.2 i hi
  · rcases hc with ⟨rfl, c7, c8⟩ | hc
    · rw [zI_sI, zup_i _ _ _ (Ne.symm c7), zup_i _ _ _ (Ne.symm c8)]; exact r6
    · rw [zI_sI, zup_ne _ _ (show 2 ≠ c by omega)]; exact r6
/-- a knot is put down -/
theorem rC.app (q : rB h0 t b n B) (r : rC h0 b n A p h) {l : Nat} {x y z v : Int32} (hxy : x = 36 → y = z) : rC h0 b n (zup (zup (zup A 22 l x) 23 l z) 21 7 v) p (zsI (zsI (zsI h (b + 21 + 1) l x) (b + 21 + 2) l y) (b + 21) 7 v) := by
  obtain ⟨r1, r2, r3, r4, r5, r6⟩ := r
  have hb := q.td.2
  have sub : rC h0 b n (zup (zup A 22 l x) 23 l z) p (zsI (zsI h (b + 21 + 1) l x) (b + 21 + 2) l y) := by
    refine ⟨(r1.sI _ _ _).sI _ _ _, fun c a1 a2 a3 a4 a5 => ?_, ?_, r4, ⟨fun i hi i3 => ?_, fun i hi => ?_⟩, ?_⟩
    · simp only [zI_sI]
      rw [zup_ne _ _ (show c ≠ b + 21 + 2 by omega), zup_ne _ _ (show c ≠ b + 21 + 1 by omega)]; exact r2 c a1 a2 a3 a4 a5
    · unfold scC at *
      simp only [zI_sI]
      rw [zup_ne _ _ (show 3 ≠ b + 21 + 2 by omega), zup_ne _ _ (show 3 ≠ b + 21 + 1 by omega), zup_ne _ _ (show 1 ≠ b + 21 + 2 by omega), zup_ne _ _ (show 1 ≠ b + 21 + 1 by omega)]; exact r3
    · simp only [zI_sI]
      rw [zup_ne _ _ (show b + i ≠ b + 21 + 2 by omega), zup_ne _ _ i3]
      by_cases e : i = 22
      · subst e
        funext j
        by_cases e2 : j = l
        · subst e2; rw [show b + 22 = b + 21 + 1 by omega, zup_s, zup_s]
        · rw [zup_i _ _ _ e2, zup_i _ _ _ e2, r5.1 22 hi i3]
      · rw [zup_ne _ _ (show b + i ≠ b + 21 + 1 by omega), zup_ne _ _ e]; exact r5.1 i hi i3
    · rw [zup_ne _ _ (show 22 ≠ 23 by decide)] at hi
      simp only [zI_sI]
      by_cases e2 : i = l
      · subst e2
        rw [zup_s] at hi
        rw [show b + 23 = b + 21 + 2 by omega, zup_s, zup_s]; exact hxy hi
      · rw [zup_i _ _ _ e2] at hi
        rw [zup_i _ _ _ e2, zup_i _ _ _ e2, zup_i _ _ _ e2, zup_i _ _ _ e2]; exact r5.2 i hi
    · simp only [zI_sI]
      rw [zup_ne _ _ (show 2 ≠ b + 21 + 2 by omega), zup_ne _ _ (show 2 ≠ b + 21 + 1 by omega)]; exact r6
  exact sub.put q (k := 21) (by decide)
theorem rF.put (q : rB h0 t b n B) {f : Int32} {pl : Nat} (r : rF h0 b f pl h) {k j : Nat} {v : Int32} (hk : k < 27) : rF h0 b f pl (zsI h (b + k) j v) := by
  obtain ⟨r1, r2, r3, r4⟩ := r
  have hb := q.td.2
  refine ⟨r1.sI _ _ _, fun c a1 a2 a3 a4 a5 => ?_, ?_, ?_⟩
  · rw [zI_sI, zup_ne _ _ (by omega)]; exact r2 c a1 a2 a3 a4 a5
  · rw [zI_sI, zup_ne _ _ (show 2 ≠ b + k by omega)]; exact r3
  · rw [zI_sI, zup_ne _ _ (show 2 ≠ b + k by omega)]; exact r4
theorem rF.sh (q : rB h0 t b n B) {f : Int32} {pl : Nat} (r : rF h0 b f pl h) : zSh1 h t := q.1.W r.1
theorem rd_adv {Q : zMem → Prop} (q : rB h0 t b n B) (r : rC h0 b n A p h) (K : ∀ h', rC h0 b n A (tke B n p) h' → (∀ c, c ≠ 3 → zI h' c = zI h c) → Q h') : ∃ Q2 : zMem → Prop, zConV G mX4_advance (d + 3) [.ref 3] h Q2 ∧ (∀ h3, Q2 h3 → zSh1 h3 t ∧ Q h3) := by
  have e1 := r.b1 q
  have hs := r.sh q
  obtain ⟨r1, r2, r3, r4, r5, r6⟩ := r
  have hb := q.td.2
  refine ⟨_, X4_advance_ok (G := G) (d := d) (p := tke B n p) hs (by have := q.2.1; unfold zR at *; rw [r1.2]; exact this) r3.1 (by have := r3.2.1; rwa [e1] at this) (tke_le B r4).2 q.2.2.1 (fun k hk => by rw [r2 4 (by decide) (by decide) (by decide) (by decide) (by omega)]; exact q.2.2.2.1 k hk), ?_⟩
  rintro h' ⟨a1, a2, a3⟩
  refine ⟨hs.W a1, K h' ⟨r1.trans a1, fun c c1 c2 c3 c4 c5 => (a2 c c2).trans (r2 c c1 c2 c3 c4 c5), a3, (tke_le B r4).2, ⟨fun k hk k3 => (a2 _ (by omega)).trans (r5.1 k hk k3), fun i hi => by rw [a2 _ (by omega)]; exact r5.2 i hi⟩, ?_⟩ a2⟩
  rw [a2 2 (by decide)]; exact r6
theorem rd_wrong {Q : Int32 → zMem → Prop} (q : rB h0 t b n B) (r : rC h0 b n A p h) (x : Int32) (K : ∀ h', rF h0 b x (tks B n p) h' → Q (-1) h') : ∃ Q2 : Int32 → zMem → Prop, zConI G mX3_wrong d [.ref 2, .int x] h Q2 ∧ (∀ v h3, Q2 v h3 → zSh1 h3 t ∧ Q v h3) := by
  refine ⟨fun v h' => v = -1 ∧ rF h0 b x (tks B n p) h', cn_X3_wrong (sg_X3_wrong_0 (r.sh q) ⟨rfl, (r.1.sI _ _ _).sI _ _ _, fun c a1 a2 a3 a4 a5 => ?_, ?_, ?_⟩), ?_⟩
  · simp only [zI_sI, zup_ne _ _ a1]; exact r.2.1 c a1 a2 a3 a4 a5
  · simp only [zI_sI, zup_i _ _ _ (show 7 ≠ 8 by decide), zup_s]
  · simp only [zI_sI, zup_s, zup_ne _ _ (show 3 ≠ 2 by decide)]; exact r.ts q
  · rintro v h3 ⟨rfl, r3⟩
    exact ⟨r3.sh q, K h3 r3⟩
/-- a number between two: 0, or the fault -/
def nmX (B : Nat → Int32) (n p : Nat) (lo hi : Int32) : Int32 := if tkt B n p = 36 then (if tkn B n p < lo then 2 else if tkn B n p ≤ hi then 0 else 2) else 1
def stp (B : Nat → Int32) (n : Nat) (A : tM) (p : Nat) : tRes := if tkt B n p = 34 then .inr (A, tke B n p) else .inl (1, tks B n p)
theorem X3_readNumber_ok {Q : Int32 → zMem → Prop} (q : rB h0 t b n B) (r : rC h0 b n A p h) (lo hi : Int32) (K1 : ∀ h', nmX B n p lo hi = 0 → rC h0 b n A (tke B n p) h' → Q (tkn B n p) h') (K2 : ∀ h', nmX B n p lo hi ≠ 0 → rF h0 b (nmX B n p lo hi) (tks B n p) h' → Q (-1) h') : ∃ Q2 : Int32 → zMem → Prop, zConI G mX3_readNumber (d + 4) [.ref 2, .int lo, .int hi] h Q2 ∧ (∀ v h3, Q2 v h3 → zSh1 h3 t ∧ Q v h3) := by
  have S := r.sh q
  refine ⟨fun v h3 => zSh1 h3 t ∧ Q v h3, cn_X3_readNumber (sg_X3_readNumber_0 S ?_), fun _ _ x => x⟩
  rw [r.tk q]
  unfold nmX at K1 K2
  refine ⟨fun c => ?_, fun c => ?_⟩
  · rw [if_pos c] at K1 K2
    rw [r.tn q c]
    refine ⟨fun c2 => ?_, fun c2 => ⟨fun c3 => ?_, fun c3 => ?_⟩⟩
    · rw [if_pos c2] at K2
      exact rd_wrong q r 2 (fun h' x => ⟨x.sh q, K2 h' (by decide) x⟩)
    · rw [if_neg c2, if_pos c3] at K1
      exact rd_adv q r (fun h' x _ => ⟨x.sh q, K1 h' rfl x⟩)
    · rw [if_neg c2, if_neg c3] at K2
      exact rd_wrong q r 2 (fun h' x => ⟨x.sh q, K2 h' (by decide) x⟩)
  · rw [if_neg c] at K2
    exact rd_wrong q r 1 (fun h' x => ⟨x.sh q, K2 h' (by decide) x⟩)
theorem X3_readStop_ok {Q : Int32 → zMem → Prop} (q : rB h0 t b n B) (r : rC h0 b n A p h) (K : ∀ v h', lR h0 b n (stp B n A p) v h' → Q v h') : ∃ Q2 : Int32 → zMem → Prop, zConI G mX3_readStop (d + 4) [.ref 2] h Q2 ∧ (∀ v h3, Q2 v h3 → zSh1 h3 t ∧ Q v h3) := by
  have S := r.sh q
  refine ⟨fun v h3 => zSh1 h3 t ∧ Q v h3, cn_X3_readStop (sg_X3_readStop_0 S ?_), fun _ _ x => x⟩
  rw [r.tk q]
  unfold stp at K
  refine ⟨fun c => ?_, fun c => ?_⟩
  · rw [if_pos c] at K
    exact rd_adv q r (fun h' x _ => ⟨x.sh q, K 0 h' ⟨rfl, x⟩⟩)
  · rw [if_neg c] at K
    exact rd_wrong q r 1 (fun h' x => ⟨x.sh q, K (-1) h' ⟨rfl, x⟩⟩)
def mny (A : tM) (kd : Nat) : Nat := (A 1 kd).toNatClampNeg
def msT (kd : Nat) : Nat := if kd = 1 then 8 else if kd = 3 then 5 else 6
def wfA (A : tM) : Prop := ∀ kd, kd < 4 → A 1 kd = nI (mny A kd) ∧ mny A kd ≤ msT kd
theorem msT_le (kd : Nat) : msT kd ≤ 8 := by unfold msT; split <;> (try split) <;> omega
def fnd (A : tM) (kd : Nat) (x : Int32) : Int32 := findF (A (3 + kd)) x (mny A kd) 0
/-- a name that is told -/
def tdX (B : Nat → Int32) (n : Nat) (A : tM) (kd p : Nat) : Int32 := if tkt B n p = 35 then (if fnd A kd (tkl B n p) = -1 then 4 else 0) else 1
theorem X3_toldName_ok {Q : Int32 → zMem → Prop} (q : rB h0 t b n B) (r : rC h0 b n A p h) {kd : Nat} (hk : kd < 4) (w : wfA A) (K1 : ∀ h', tdX B n A kd p = 0 → rC h0 b n A p h' → Q (fnd A kd (tkl B n p)) h') (K2 : ∀ h', tdX B n A kd p ≠ 0 → rF h0 b (tdX B n A kd p) (tks B n p) h' → Q (-1) h') : ∃ Q2 : Int32 → zMem → Prop, zConI G mX3_toldName (d + 4) [.ref 2, .int (nI kd)] h Q2 ∧ (∀ v h3, Q2 v h3 → zSh1 h3 t ∧ Q v h3) := by
  have S := r.sh q
  refine ⟨fun v h3 => zSh1 h3 t ∧ Q v h3, cn_X3_toldName (sg_X3_toldName_0 S ?_), fun _ _ x => x⟩
  rw [r.tk q, ← q.2.2.2.2.1]
  unfold tdX at K1 K2
  obtain ⟨w1, w2⟩ := w kd hk
  have m8 := msT_le kd
  refine ⟨fun c => ?_, fun c => ?_⟩
  · rw [if_pos c] at K1 K2
    rw [r.tl q c]
    have eF : findF (zI h (b + 2 + 1 + kd)) (tkl B n p) (mny A kd) 0 = fnd A kd (tkl B n p) := by
      unfold fnd
      rw [show b + 2 + 1 + kd = b + (3 + kd) by omega, r.row (by omega) (by omega)]
    refine ⟨_, X7_numberOf_ok S q.td.1 hk (by rw [r.row (by decide) (by decide)]; exact w1) (by omega) (tkl B n p), ?_⟩
    rw [eF]
    rintro v h3 ⟨rfl, rfl⟩
    refine ⟨S, fun c2 => ?_, fun c2 => ?_⟩
    · rw [if_neg c2] at K1
      exact ⟨S, K1 h3 rfl r⟩
    · rw [if_pos c2] at K2
      exact rd_wrong q r 4 (fun h' x => ⟨x.sh q, K2 h' (by decide) x⟩)
  · rw [if_neg c] at K2
    exact rd_wrong q r 1 (fun h' x => ⟨x.sh q, K2 h' (by decide) x⟩)
theorem findF_or (f : Nat → Int32) (x : Int32) : ∀ n k, findF f x n k = -1 ∨ ∃ j, k ≤ j ∧ j < k + n ∧ findF f x n k = nI j
  | 0, _ => Or.inl rfl
  | n + 1, k => by
    rw [findF]
    by_cases c : f k = x
    · rw [if_pos c]; exact Or.inr ⟨k, Nat.le_refl _, by omega, rfl⟩
    · rw [if_neg c]
      rcases findF_or f x n (k + 1) with h | ⟨j, h1, h2, h3⟩
      · exact Or.inl h
      · exact Or.inr ⟨j, by omega, by omega, h3⟩
theorem fnd_ix {x : Int32} {kd : Nat} (c : fnd A kd x ≠ -1) : ∃ j, j < mny A kd ∧ fnd A kd x = nI j := by
  rcases findF_or (A (3 + kd)) x (mny A kd) 0 with h | ⟨j, _, h2, h3⟩
  · exact absurd h c
  · exact ⟨j, by omega, h3⟩
theorem tdX_ix {kd : Nat} (c : tdX B n A kd p = 0) : ∃ j, j < mny A kd ∧ fnd A kd (tkl B n p) = nI j := by
  unfold tdX at c
  split at c
  · split at c
    · exact absurd c (by decide)
    · rename_i c2; exact fnd_ix c2
  · exact absurd c (by decide)
theorem nmX_nn {lo hi : Int32} (hlo : ¬ lo < 0) (c : nmX B n p lo hi = 0) : tkn B n p ≠ -1 ∧ ¬ tkn B n p < lo ∧ tkn B n p ≤ hi ∧ tkt B n p = 36 := by
  unfold nmX at c
  split at c
  · rename_i c0
    split at c
    · exact absurd c (by decide)
    · rename_i c1
      split at c
      · rename_i c2
        refine ⟨fun q => ?_, c1, c2, c0⟩
        rw [q] at c1
        apply hlo
        rw [Int32.lt_iff_toInt_lt] at c1 ⊢
        have : (-1 : Int32).toInt = -1 := by decide
        have z : (0 : Int32).toInt = 0 := by decide
        omega
      · exact absurd c (by decide)
  · exact absurd c (by decide)
/-- a new name -/
def nwX (B : Nat → Int32) (n : Nat) (A : tM) (kd p : Nat) : Int32 := if nI (msT kd) ≤ A 1 kd then 2 else if tkt B n (tke B n p) = 35 then (if fnd A kd (tkl B n (tke B n p)) = -1 then 0 else 3) else 1
def nwP (B : Nat → Int32) (n : Nat) (A : tM) (kd p : Nat) : Nat := if nI (msT kd) ≤ A 1 kd then tks B n p else tks B n (tke B n p)
def nwA (B : Nat → Int32) (n : Nat) (A : tM) (kd p : Nat) : tM := zup (zup A (3 + kd) (mny A kd) (tkl B n (tke B n p))) 1 kd (A 1 kd + 1)
end RD
