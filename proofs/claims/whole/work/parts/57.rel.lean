/-! class and model: what is told, and one morning on both sides -/
def cut (I : Nat → Nat → Int32) : Nat → Nat → Int32 := fun c => if c < 132 then fun _ => 0 else I c
theorem cutE {I I' : Nat → Nat → Int32} (h : ∀ c, 132 ≤ c → I' c = I c) : cut I' = cut I := by
  funext c
  unfold cut
  by_cases q : c < 132
  · rw [if_pos q, if_pos q]
  · rw [if_neg q, if_neg q]; exact h c (by omega)
theorem arN_cut (I : Nat → Nat → Int32) (a nd dt p s : Nat) : arN I a nd dt p s = arN (cut I) a nd dt p s := rfl
theorem smN_cut (I : Nat → Nat → Int32) (a ns nd dt m : Nat) : smN I a ns nd dt m = smN (cut I) a ns nd dt m := rfl
theorem thN_cut (I : Nat → Nat → Int32) (a ns nd dt m : Nat) : thN I a ns nd dt m = thN (cut I) a ns nd dt m := rfl
theorem moN_cut (I : Nat → Nat → Int32) (a ns nd nm dt : Nat) : moN I a ns nd nm dt = moN (cut I) a ns nd nm dt := rfl
theorem stM_cut (I : Nat → Nat → Int32) (a nd dt s : Nat) : stM I a nd dt s = stM (cut I) a nd dt s := rfl
def lwR (I : Nat → Nat → Int32) (l : Nat) : Prop := ∀ r, r < 3 → (I (l + 5) r = 0 → ¬ I 145 r < I 146 r) ∧ (I (l + 5) r ≠ 0 → I 145 r < I 146 r ∧ I (l + 3) r = I 145 r ∧ I (l + 4) r = I 146 r ∧ ∀ k, (I 145 r).toNatClampNeg ≤ k → k < (I 146 r).toNatClampNeg → I (l + 1) k = opT (I 147 k) (I 148 k) ∧ (I (l + 1) k = 36 → I (l + 2) k = I 148 k))
theorem woS_congr {tok tok' num num' : Nat → Int32} {nm : Nat → Int64} : ∀ n i stk, (∀ k, i ≤ k → k < i + n → tok k = tok' k ∧ (tok k = 36 → num k = num' k)) → woS tok num nm n i stk = woS tok' num' nm n i stk := by
  intro n
  induction n with
  | zero => intro i stk _; rfl
  | succ n ih =>
    intro i stk h
    have h1 := h i (Nat.le_refl _) (by omega)
    have nx : ∀ stk, woS tok num nm n (i + 1) stk = woS tok' num' nm n (i + 1) stk := fun stk => ih (i + 1) stk (fun k a b => h k (by omega) (by omega))
    unfold woS
    by_cases c : tok i = 36
    · rw [if_pos c, if_pos (h1.1 ▸ c), h1.2 c, nx]
    · rw [if_neg c, if_neg (fun q => c (h1.1.trans q))]
      rw [← h1.1]
      simp only [nx]
theorem lawV_lwM {I : Nat → Nat → Int32} {l r : Nat} {nm : Nat → Int64} (h : lwR I l) (hr : r < 3) : lawV I l r nm = lwM I r nm := by
  unfold lawV lwM
  by_cases c : I (l + 5) r = 0
  · rw [if_pos c, if_neg ((h r hr).1 c)]
  · obtain ⟨h1, h2, h3, h4⟩ := (h r hr).2 c
    rw [if_neg c, if_pos h1, h2, h3]
    exact woS_congr _ _ _ (fun k a b => h4 k a (by omega))
def rlT (I : Nat → Nat → Int32) (t ns nd nr nm : Nat) : Prop :=
  I t 10 = I 134 5 ∧ (∀ s, s < ns → I (t + 7) s = I 136 s) ∧ (∀ d, d < nd → I (t + 8) d = I 138 d) ∧ (∀ d s, d < nd → s < ns → I (t + 9 + 1 + d) s = I 139 (6 * d + s)) ∧ (∀ p, p < nr → I (t + 18) p = I 141 p) ∧ (∀ m, m < nm → I (t + 19) m = I 143 m ∧ I (t + 20) m = I 144 m) ∧ lwR I (t + 21)
/-- no stuff in place of another one, nothing more mixed -/
def pln (I : Nat → Nat → Int32) : Prop := I 132 50 = -1 ∧ I 132 52 = -1
theorem nI_nm1 {k : Nat} (h : k < 2 ^ 31) : ¬ nI k = -1 := by
  intro q
  have := congrArg Int32.toInt q
  rw [nI_toInt h] at this
  have z : (-1 : Int32).toInt = -1 := rfl
  omega
theorem mxM_pln {I : Nat → Nat → Int32} (h : pln I) {d : Nat} (hd : d < 2 ^ 31) (s : Nat) : mxM I d s = I 139 (6 * d + s) := by
  unfold mxM mxC mxB
  rw [if_pos h.1, h.2, if_neg (nI_nm1 hd), if_pos h.1]
def preS (I : Nat → Nat → Int32) (b t a ns nd nr nm dt : Nat) : Prop :=
  I b 10 = I 151 a ∧ I b 11 = I 152 a ∧ I b 12 = I 153 a ∧ I b 13 = I 154 a ∧ I b 14 = abM I ∧ (∀ s, s < ns → takeF I b t nd dt s = tkM I a nd dt s) ∧ (∀ s, s < ns → I (b + 2) s = I 157 (6 * a + s)) ∧ (∀ p, p < nr → I (b + 3) p = ptM I p) ∧ (∀ p s, p < nr → s < ns → I (b + 4 + 1 + p) s = leM I a p s) ∧ (∀ m, m < nm → I (b + 11) m = I 159 (5 * a + m) ∧ I (b + 12) m = cdM I a m ∧ I (b + 14) m = I 162 (5 * a + m))
theorem eq_air {I : Nat → Nat → Int32} {b t a ns nd nr nm dt : Nat} (hT : rlT I t ns nd nr nm) (hP : preS I b t a ns nd nr nm dt) {p s : Nat} (hp : p < nr) (hs : s < ns) : airG I b t p s (takeF I b t nd dt s) = arN I a nd dt p s := by
  obtain ⟨t1, -, -, -, -, -, t7⟩ := hT
  obtain ⟨p1, -, -, -, -, p6, p7, p8, p9, -⟩ := hP
  have e : airLawV I b t p s (tkM I a nd dt s) = arLN I a nd dt p s := by
    unfold airLawV arLN
    rw [p8 p hp, p9 p s hp hs, p7 s hs, p1]
    exact lawV_lwM t7 (by decide)
  unfold airG arN
  rw [p6 s hs, e, p8 p hp, p9 p s hp hs, p7 s hs, t1]
theorem eq_keen {I : Nat → Nat → Int32} {b t a ns nd nr nm : Nat} (hT : rlT I t ns nd nr nm) (h1 : I b 10 = I 151 a) {p m : Nat} (h2 : I (b + 3) p = ptM I p) (hm : m < nm) : keenF I b t m p = keF I a m p := by
  obtain ⟨-, -, -, -, -, t6, t7⟩ := hT
  have e : keenLawV I b t m p = keL I a m p := by
    unfold keenLawV keL
    rw [h2, h1, (t6 m hm).2]
    exact lawV_lwM t7 (by decide)
  unfold keenF keF
  rw [e, (t6 m hm).2]
theorem eq_worth {I : Nat → Nat → Int32} {b t a ns nd nr nm : Nat} (hT : rlT I t ns nd nr nm) (h1 : I b 10 = I 151 a) {s : Nat} (h2 : I (b + 1) s = I 156 (6 * a + s)) : worthF I b t s = wtF I a s := by
  obtain ⟨-, -, -, -, -, -, t7⟩ := hT
  have e : worthLawV I b t s = wtL I a s := by
    unfold worthLawV wtL
    rw [h2, h1]
    exact lawV_lwM t7 (by decide)
  unfold worthF wtF
  rw [e]
theorem eq_mark {I : Nat → Nat → Int32} {b t a ns nd nr nm : Nat} (hT : rlT I t ns nd nr nm) (hp : pln I) (h8 : nd ≤ 8) {r m day : Nat} {keen : Int32} (h2 : I (b + 3) r = ptM I r) (h3 : I (b + 12) m = cdM I a m) (hk : keen = keF I a m r) (hd : day < nd) : markF I b t ns m r day keen = mkM I ns a m r day := by
  obtain ⟨-, -, -, t4, -, -, -⟩ := hT
  unfold markF mkM
  rw [h2, h3, hk]
  exact smeltF_congr (fun s hs => by rw [mxM_pln hp (by omega)]; exact t4 day s hd hs)
theorem eq_smth {I : Nat → Nat → Int32} {b t a ns nd nr nm dt : Nat} (hT : rlT I t ns nd nr nm) (hpl : pln I) (h8 : nd ≤ 8) (h6 : nr ≤ 6) (hP : preS I b t a ns nd nr nm dt) (hrm : ∀ m, m < nm → ∃ r, r < nr ∧ I 159 (5 * a + m) = nI r) {m : Nat} (hm : m < nm) : smM I b t ns nd dt m = smN I a ns nd dt m ∧ thM I b t ns nd dt m = thN I a ns nd dt m := by
  obtain ⟨r, hr, er⟩ := hrm m hm
  have hP' := hP
  obtain ⟨p1, -, -, -, -, p6, p7, p8, p9, p10⟩ := hP
  obtain ⟨q1, q2, q3⟩ := p10 m hm
  have e1 : roomN I b m = r := by unfold roomN; rw [q1, er]; exact zcla (by omega)
  have e2 : rmN I a m = r := by unfold rmN; rw [er]; exact zcla (by omega)
  have ek : keenM I b t m = keF I a m r := by unfold keenM; rw [e1]; exact eq_keen hT p1 (p8 r hr) hm
  have es : smM I b t ns nd dt m = smN I a ns nd dt m := by
    unfold smM smN
    rw [ek, e1, e2, q2]
    exact smeltF_congr (fun s hs => eq_air hT hP' hr hs)
  refine ⟨es, ?_⟩
  unfold thM thN
  by_cases c : nd = 0
  · rw [if_pos c, if_pos c, q3]
  · rw [if_neg c, if_neg c, q3, es, ek, e1, e2]
    congr 1
    exact thkF_congr (by omega) (fun day hday => by rw [eq_mark hT hpl h8 (p8 r hr) q2 rfl hday]) _ _
/-- what holds behind a morning on both sides -/
def postS (I I2 : Nat → Nat → Int32) (b a ns nd nr nm dt : Nat) : Prop :=
  I2 b 10 = I2 151 a ∧ I2 b 11 = I2 152 a ∧ I2 b 12 = I2 153 a ∧ I2 b 13 = I2 154 a ∧ I2 b 14 = I b 14 ∧ (∀ s, s < ns → I2 (b + 2) s = 0 ∧ I2 157 (6 * a + s) = 0) ∧ I2 (b + 3) = I (b + 3) ∧ (∀ p s, p < nr → s < ns → I2 (b + 4 + 1 + p) s = I2 158 (36 * a + 6 * p + s)) ∧ I2 (b + 11) = I (b + 11) ∧ I2 (b + 12) = I (b + 12) ∧ (∀ m, m < nm → I2 (b + 13) m = I2 161 (5 * a + m) ∧ I2 (b + 14) m = I2 162 (5 * a + m)) ∧ (∀ s, s < ns → I2 (b + 1) s = I (b + 1) s - tkM I a nd dt s ∧ I2 156 (6 * a + s) = stM I a nd dt s) ∧ I2 151 a = I 151 a + 1
/-- the cells that a morning in b and a leaves -/
def frS (I I2 : Nat → Nat → Int32) (b a : Nat) : Prop :=
  (∀ c, (c < b ∨ b + 17 ≤ c) → c ≠ 132 → c ≠ 151 → c ≠ 152 → c ≠ 153 → c ≠ 154 → c ≠ 156 → c ≠ 157 → c ≠ 158 → c ≠ 161 → c ≠ 162 → c ≠ 163 → c ≠ 164 → I2 c = I c) ∧ (∀ k, k ≠ 33 → I2 132 k = I 132 k) ∧
  (∀ x, x ≠ a → I2 151 x = I 151 x ∧ I2 152 x = I 152 x ∧ I2 153 x = I 153 x ∧ I2 154 x = I 154 x) ∧ (∀ j, j < 6 * a ∨ 6 * a + 6 ≤ j → I2 156 j = I 156 j ∧ I2 157 j = I 157 j) ∧ (∀ j, j < 36 * a ∨ 36 * a + 36 ≤ j → I2 158 j = I 158 j) ∧ (∀ j, j < 5 * a ∨ 5 * a + 5 ≤ j → I2 161 j = I 161 j ∧ I2 162 j = I 162 j)
theorem frS.trans {I I1 I2 : Nat → Nat → Int32} {b a : Nat} (p : frS I I1 b a) (q : frS I1 I2 b a) : frS I I2 b a :=
  ⟨fun c x0 x1 x2 x3 x4 x5 x6 x7 x8 x9 x10 x11 x12 => (q.1 c x0 x1 x2 x3 x4 x5 x6 x7 x8 x9 x10 x11 x12).trans (p.1 c x0 x1 x2 x3 x4 x5 x6 x7 x8 x9 x10 x11 x12), fun k hk => (q.2.1 k hk).trans (p.2.1 k hk),
   fun x hx => ⟨(q.2.2.1 x hx).1.trans (p.2.2.1 x hx).1, (q.2.2.1 x hx).2.1.trans (p.2.2.1 x hx).2.1, (q.2.2.1 x hx).2.2.1.trans (p.2.2.1 x hx).2.2.1, (q.2.2.1 x hx).2.2.2.trans (p.2.2.1 x hx).2.2.2⟩,
   fun j hj => ⟨(q.2.2.2.1 j hj).1.trans (p.2.2.2.1 j hj).1, (q.2.2.2.1 j hj).2.trans (p.2.2.2.1 j hj).2⟩, fun j hj => (q.2.2.2.2.1 j hj).trans (p.2.2.2.2.1 j hj),
   fun j hj => ⟨(q.2.2.2.2.2 j hj).1.trans (p.2.2.2.2.2 j hj).1, (q.2.2.2.2.2 j hj).2.trans (p.2.2.2.2.2 j hj).2⟩⟩
set_option maxHeartbeats 2000000 in
theorem morn_pass {I I1 I2 : Nat → Nat → Int32} {b t a ns nd nr nm dt : Nat} (hb : b + 17 ≤ 132) (hT : rlT I t ns nd nr nm) (hpl : pln I) (h6s : ns ≤ 6) (h8 : nd ≤ 8) (h6 : nr ≤ 6) (hP : preS I b t a ns nd nr nm dt) (hrm : ∀ m, m < nm → ∃ r, r < nr ∧ I 159 (5 * a + m) = nI r) (htd : ∀ d, d < nd → I (t + 8) d = I 138 d) (hM : mornR I I1 b t ns nd nr nm dt) (hR : passR I1 I2 a ns nd nr nm dt) : postS I I2 b a ns nd nr nm dt ∧ frS I I2 b a := by
  have hE := fun {m : Nat} (hm : m < nm) => eq_smth hT hpl h8 h6 hP hrm hm
  have hA := fun {p s : Nat} (hp : p < nr) (hs : s < ns) => eq_air hT hP hp hs
  obtain ⟨p1, p2, p3, p4, p5, p6, p7, p8, p9, p10⟩ := hP
  obtain ⟨m1, m2, m3, m4, m5, m6, m7, m8, m9, m10, m11, m12⟩ := hM
  obtain ⟨r1, r2, r3, r4, r5, r6, r7, r8, r9, r10, r11, r12, r13⟩ := hR
  have hi : ∀ c, 132 ≤ c → I1 c = I c := fun c hc => m1 c (by omega)
  have lo : ∀ c, c < 132 → I2 c = I1 c := fun c hc => r1 c (by omega) (by omega) (by omega) (by omega) (by omega) (by omega) (by omega) (by omega) (by omega) (by omega) (by omega) (by omega)
  have ce := cutE hi
  have ar : ∀ p s, arN I1 a nd dt p s = arN I a nd dt p s := fun p s => by rw [arN_cut, ce, ← arN_cut]
  have sm : ∀ m, smN I1 a ns nd dt m = smN I a ns nd dt m := fun m => by rw [smN_cut, ce, ← smN_cut]
  have th : ∀ m, thN I1 a ns nd dt m = thN I a ns nd dt m := fun m => by rw [thN_cut, ce, ← thN_cut]
  have mo : moN I1 a ns nd nm dt = moN I a ns nd nm dt := by rw [moN_cut, ce, ← moN_cut]
  have sto : ∀ s, stM I1 a nd dt s = stM I a nd dt s := fun s => by rw [stM_cut, ce, ← stM_cut]
  have emo : ∀ today, mostF (thM I b t ns nd dt) (I b 14) nm nd today = mostF (thN I a ns nd dt) (abM I) nm nd today := fun today => by rw [p5]; exact mostF_congr (fun m hm => (hE hm).2)
  refine ⟨⟨?_, ?_, ?_, ?_, ?_, fun s hs => ⟨?_, r9 s (by omega)⟩, ?_, fun p s hp hs => ?_, ?_, ?_, fun m hm => ⟨?_, ?_⟩, fun s hs => ⟨?_, ?_⟩, ?_⟩, fun c x0 x1 x2 x3 x4 x5 x6 x7 x8 x9 x10 x11 x12 => ?_, fun k hk => ?_, fun x hx => ?_, fun j hj => ?_, fun j hj => ?_, fun j hj => ?_⟩
  · rw [lo b (by omega), m9, r7, hi 151 (by decide), p1]
  · by_cases c : nd = 0
    · rw [lo b (by omega), (m11 c).1, (r12 c).1, hi 152 (by decide), p2]
    · rw [lo b (by omega), (m12 (by omega)).1, (r13 (by omega)).1, mo, emo]; rfl
  · by_cases c : nd = 0
    · rw [lo b (by omega), (m11 c).2.1, (r12 c).2.1, hi 153 (by decide), p3]
    · rw [lo b (by omega), (m12 (by omega)).2.1, (r13 (by omega)).2.1, mo, emo, hi 153 (by decide), p3]; rfl
  · by_cases c : nd = 0
    · rw [lo b (by omega), (m11 c).2.2, (r12 c).2.2, hi 154 (by decide), p4]
    · have hlt : moN I a ns nd nm dt < nd := bstF_lt nd 0 _ 0 (by omega) (Nat.mod_lt _ (by omega))
      rw [lo b (by omega), (m12 (by omega)).2.2, (r13 (by omega)).2.2, mo, emo, hi 154 (by decide), hi 138 (by decide), p4]
      show _ + (if I (t + 8) (moN I a ns nd nm dt) = _ then _ else _) = _
      rw [htd _ hlt, htd _ (Nat.mod_lt _ (by omega))]
  · rw [lo b (by omega), m10]
  · rw [lo (b + 2) (by omega)]; exact m6 s (by omega)
  · rw [lo (b + 3) (by omega), m2]
  · rw [lo (b + 4 + 1 + p) (by omega), m7 p s hp hs, r10 p s hp hs, ar, hA hp hs]
  · rw [lo (b + 11) (by omega), m3]
  · rw [lo (b + 12) (by omega), m4]
  · rw [lo (b + 13) (by omega), (m8 m hm).1, (r11 m hm).1, sm, (hE hm).1]
  · rw [lo (b + 14) (by omega), (m8 m hm).2, (r11 m hm).2, th, (hE hm).2]
  · rw [lo (b + 1) (by omega), m5 s hs, p6 s hs]
  · rw [r8 s hs, sto]
  · rw [r7, hi 151 (by decide)]
  · rw [r1 c x1 x2 x3 x4 x5 x6 x7 x8 x9 x10 x11 x12]; exact m1 c x0
  · rw [r2 k hk, hi 132 (by decide)]
  · have := r3 x hx
    rw [hi 151 (by decide), hi 152 (by decide), hi 153 (by decide), hi 154 (by decide)] at this; exact this
  · have := r4 j hj
    rw [hi 156 (by decide), hi 157 (by decide)] at this; exact this
  · rw [r5 j hj, hi 158 (by decide)]
  · have := r6 j hj
    rw [hi 161 (by decide), hi 162 (by decide)] at this; exact this
