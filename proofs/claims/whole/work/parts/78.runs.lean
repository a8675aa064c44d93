/-! mornings: class first, then the model; what the class did is kept as a row of steps -/
def pairX (G : zG) (mc mm : zM) (D : Nat) (ac am : List Value) (h : zMem) : Prop := ∃ (K : Int32 → zMem → Prop) (L : Int32 → zMem → zMem → Prop), zConI G mc D ac h K ∧ ∀ v h1, K v h1 → zBs h1 ∧ zConI G mm D am h1 (fun w h2 => w = v ∧ L v h1 h2) ∧ ∀ h2, L v h1 h2 → zOK h2
theorem pairI.x {G : zG} {mc mm : zM} {D : Nat} {ac am : List Value} {h : zMem} (q : pairI G mc mm D ac am h) : pairX G mc mm D ac am h := by
  obtain ⟨R, K, L, hc, hm⟩ := q
  refine ⟨fun v h1 => v = R ∧ K h1, fun _ => L, hc, ?_⟩
  rintro v h1 ⟨rfl, k⟩
  exact hm h1 k
theorem rlT_E {I I' : Nat → Nat → Int32} {t ns nd nr nm : Nat} (h8 : nd ≤ 8) (ht : ∀ k, k < 29 → I' (t + k) = I (t + k)) (hr : ∀ c, 133 < c → c ≤ 148 → I' c = I c) (q : rlT I t ns nd nr nm) : rlT I' t ns nd nr nm := by
  obtain ⟨r1, r2, r3, r4, r5, r6, r7⟩ := q
  have t0 : I' t = I t := ht 0 (by decide)
  have lw : ∀ k, k < 6 → I' (t + 21 + k) = I (t + 21 + k) := fun k hk => by rw [Nat.add_assoc]; exact ht _ (by omega)
  refine ⟨?_, ?_, ?_, fun d s hd hs => ?_, ?_, ?_, lwR_row lw (hr 145 (by decide) (by decide)) (hr 146 (by decide) (by decide)) (hr 147 (by decide) (by decide)) (hr 148 (by decide) (by decide)) r7⟩
  · rw [t0, hr 134 (by decide) (by decide)]; exact r1
  · rw [ht 7 (by decide), hr 136 (by decide) (by decide)]; exact r2
  · rw [ht 8 (by decide), hr 138 (by decide) (by decide)]; exact r3
  · rw [show t + 9 + 1 + d = t + (10 + d) by omega, ht (10 + d) (by omega), hr 139 (by decide) (by decide), show t + (10 + d) = t + 9 + 1 + d by omega]; exact r4 d s hd hs
  · rw [ht 18 (by decide), hr 141 (by decide) (by decide)]; exact r5
  · rw [ht 19 (by decide), ht 20 (by decide), hr 143 (by decide) (by decide), hr 144 (by decide) (by decide)]; exact r6
theorem tdOK_E {I I' : Nat → Nat → Int32} {t ns nd nr nm : Nat} (ht : ∀ k, k < 29 → I' (t + k) = I (t + k)) (q : tdOK I t ns nd nr nm) : tdOK I' t ns nd nr nm := by
  obtain ⟨a1, a2, a3, a4, a5, a6, a7, a8, a9⟩ := q
  unfold tdOK
  rw [ht 1 (by decide)]
  exact ⟨a1, a2, a3, a4, a5, a6, a7, a8, lwOK_congr (fun k hk => by rw [Nat.add_assoc]; exact ht _ (by omega)) a9⟩
theorem mornR.st {I I' : Nat → Nat → Int32} {b t ns nd nr nm dt : Nat} (h : stOK I b nd nr nm dt) (q : mornR I I' b t ns nd nr nm dt) : stOK I' b nd nr nm (dt + 1) := by
  obtain ⟨s1, s2, s3⟩ := h
  obtain ⟨m1, m2, m3, m4, m5, m6, m7, m8, m9, m10, m11, m12⟩ := q
  refine ⟨fun m hm => by rw [m3]; exact s1 m hm, fun m hm h0 => ?_, by rw [m9, s3, nI_1]⟩
  rw [(m8 m hm).2]; unfold thM; rw [if_neg (by omega)]; exact ⟨_, thkF_lt h0 _ _, rfl⟩
/-- what holds of a run on both sides: C the class's cells, N the model's -/
def rnI (C N : Nat → Nat → Int32) (b t a ns nd nr nm dt : Nat) : Prop := rlT (mg C N) t ns nd nr nm ∧ pln N ∧ N 132 48 = 0 ∧ relS (mg C N) b a ns nr nm ∧ mdOK N ns nd nr nm ∧ abOK N a ns nd nr nm dt
theorem pln_mg {C N : Nat → Nat → Int32} (h : pln N) : pln (mg C N) := by unfold pln; rw [mg_hi (by decide)]; exact h
theorem rnI.rooms {C N : Nat → Nat → Int32} {b t a ns nd nr nm dt : Nat} (hb : b + 17 ≤ 132) (i : rnI C N b t a ns nd nr nm dt) : ∀ m, m < nm → ∃ r, r < nr ∧ C (b + 11) m = nI r := fun m hm => by
  obtain ⟨-, -, -, i4, -, i6⟩ := i
  obtain ⟨r, hr, er⟩ := i6.1 m hm
  have := (i4.2.2.2.2.2.2.2.2 m hm).1
  rw [mg_lo (by omega), mg_hi (by decide)] at this
  exact ⟨r, hr, this.trans er⟩
set_option maxHeartbeats 1000000 in
theorem rnI.step {C C' N N' : Nat → Nat → Int32} {b t a ns nd nr nm dt : Nat} (hb : isSt b) (ht : isTd t) (h6 : ns ≤ 6) (h8 : nd ≤ 8) (h6r : nr ≤ 6) (hd : dt ≤ 20000) (i : rnI C N b t a ns nd nr nm dt) (hm : mornR C C' b t ns nd nr nm dt) (hp : passR N N' a ns nd nr nm dt) : rnI C' N' b t a ns nd nr nm (dt + 1) ∧ postS (mg C N) (mg C' N') b a ns nd nr nm dt ∧ frS (mg C N) (mg C' N') b a := by
  have rm := i.rooms hb.lt
  obtain ⟨i1, i2, i3, i4, i5, i6⟩ := i
  have hl := hb.lt
  have htl := ht.lt
  have dj := st_td hb ht
  have e48 : mg C N 132 48 = 0 := by rw [mg_hi (by decide)]; exact i3
  have P := relS_pre dt i1 (pln_mg i2) e48 h8 i4
  have M := mornR_mg N hl htl h6r h8 rm hm
  have R := passR_mg C' hp
  have rooms : ∀ m, m < nm → ∃ r, r < nr ∧ mg C N 159 (5 * a + m) = nI r := fun m hm => by rw [mg_hi (by decide)]; exact i6.1 m hm
  obtain ⟨Q1, Q2⟩ := morn_pass hl i1 (pln_mg i2) h6 h8 h6r P rooms i1.2.2.1 M R
  refine ⟨⟨rlT_E h8 (fun k hk => ?_) (fun c x y => ?_) i1, ?_, ?_, post_relS hl e48 i4 Q1 Q2, passR_md i5 hp, passR_ab i5 i6 hd hp⟩, Q1, Q2⟩
  · rw [mg_lo (by omega), mg_lo (by omega)]; exact hm.1 _ (by omega)
  · rw [mg_hi (by omega), mg_hi (by omega)]; exact hp.1 c (by omega) (by omega) (by omega) (by omega) (by omega) (by omega) (by omega) (by omega) (by omega) (by omega) (by omega) (by omega)
  · unfold pln; rw [hp.2.1 50 (by decide), hp.2.1 52 (by decide)]; exact i2
  · rw [hp.2.1 48 (by decide)]; exact i3
/-- a morning of the class, whatever follows -/
theorem cl_morn {G : zG} {d t b ns nd nr nm dt : Nat} {h : zMem} {P : zMem → Prop} (hS : zSh1 h t) (hb : isSt b) (hT : tdOK (zI h) t ns nd nr nm) (hO : stOK (zI h) b nd nr nm dt) (hd : dt ≤ 20000) (K : ∀ h7, zSh1 h7 t → zW h h7 → mornR (zI h) (zI h7) b t ns nd nr nm dt → P h7) : ∃ Q6 : zMem → Prop, zConV G mX5_goThroughMorning (d + 4) [.ref b, .ref t] h Q6 ∧ (∀ h7, Q6 h7 → zSh1 h7 t ∧ P h7) :=
  ⟨_, X5_goThroughMorning_ok hS hb hS.2.1 hT hO (by omega), fun h7 q => ⟨hS.W q.1, K h7 (hS.W q.1) q.1 q.2⟩⟩
theorem md_pass {G : zG} {d a ns nd nr nm dt : Nat} {h : zMem} {P : zMem → Prop} (hS : zSh2 h) (ha : a < 23) (hM : mdOK (zI h) ns nd nr nm) (hA : abOK (zI h) a ns nd nr nm dt) (hd : dt ≤ 20000) (K : ∀ h7, zSh2 h7 → zW h h7 → passR (zI h) (zI h7) a ns nd nr nm dt → P h7) : ∃ Q6 : zMem → Prop, zConV G mX10_passes (d + 8) [.ref 132, .int (nI a)] h Q6 ∧ (∀ h7, Q6 h7 → zSh2 h7 ∧ P h7) :=
  ⟨_, X10_passes_ok hS ha hM hA hd, fun h7 q => ⟨hS.W q.1, K h7 (hS.W q.1) q.1 q.2⟩⟩
def mRun (b t ns nd nr nm : Nat) : Nat → Nat → (Nat → Nat → Int32) → (Nat → Nat → Int32) → Prop
  | 0, _, I, I' => I' = I
  | n + 1, dt, I, I' => ∃ J, mornR I J b t ns nd nr nm dt ∧ mRun b t ns nd nr nm n (dt + 1) J I'
theorem now_st {I : Nat → Nat → Int32} {ns nd nr nm dt : Nat} (h : nowR I 48 0 ns nd nr nm dt) : stOK I 48 nd nr nm dt := by
  obtain ⟨w1, w2, w3, w4, w5, w6, w7, w8⟩ := now0 h.1
  obtain ⟨a1, a2, a3, a4⟩ := ab0 h.2.1
  exact ⟨fun m hm => by show ∃ r, r < nr ∧ I 59 m = nI r; rw [(w8 m hm).1]; exact a1 m hm, fun m hm h0 => by show ∃ j, j < nd ∧ I 62 m = nI j; rw [(w8 m hm).2.2.2]; exact a2 m hm h0, w1.trans a3⟩
/-- mornings on what is now leave the rest -/
theorem zInv_go {I I2 : Nat → Nat → Int32} {t ns nd nr nm dt dt' u nn tp : Nat} (ht : isTd t) (h : zInv I t ns nd nr nm dt u nn tp) (e1 : ∀ c, c < 132 → (c < 48 ∨ 65 ≤ c) → c ≠ 44 → I2 c = I c) (e44 : I2 44 3 = nI 0) (e2 : ∀ k, k ≠ 0 → k ≠ 33 → k ≠ 47 → I2 132 k = I 132 k) (e47 : I2 132 47 = nI 0) (e3 : ∀ c, (132 < c ∧ c < 151) ∨ (168 ≤ c ∧ c ≤ 172) → I2 c = I c) (ea : abE I I2 2) (hN : nowR I2 48 0 ns nd nr nm dt') : zInv I2 t ns nd nr nm dt' 0 nn tp := by
  obtain ⟨i1, i2, i3, i4, i5, i6, i7, i8⟩ := h
  have h6 : ns ≤ 6 := i1.1.2.2.2.2.1
  have h6r : nr ≤ 6 := i1.1.2.2.2.2.2.2.1
  have h5 : nm ≤ 5 := i1.1.2.2.2.2.2.2.2.1
  refine ⟨tdR_E (fun k hk => e1 _ (by rcases ht with rfl | rfl <;> omega) (by rcases ht with rfl | rfl <;> omega) (by rcases ht with rfl | rfl <;> omega)) (fun c x y => e3 c (by omega)) (fun k x y => e2 k (by omega) (by omega) (by omega)) i1, ?_, hN, ?_, ⟨e44, e47, by omega, fun j hj => absurd hj (by omega)⟩, ?_, ?_, ?_⟩
  · unfold pln; rw [e2 50 (by decide) (by decide) (by decide), e2 52 (by decide) (by decide) (by decide), e2 48 (by decide) (by decide) (by decide)]; exact i2
  · rw [e1 0 (by decide) (by decide) (by decide), e2 46 (by decide) (by decide) (by decide)]
    refine ⟨i4.1, fun q => ?_⟩
    obtain ⟨dt', q'⟩ := i4.2 q
    exact ⟨dt', nowR_E h6 h6r h5 (fun k hk => e1 _ (by omega) (by omega) (by omega)) (e3 141 (by omega)) ea q'⟩
  · rw [e1 37 (by decide) (by decide) (by decide), e2 60 (by decide) (by decide) (by decide), e2 61 (by decide) (by decide) (by decide)]
    exact ⟨i6.1, i6.2.1, i6.2.2.1, i6.2.2.2.1, i6.2.2.2.2.1, ntR_E (fun c hc => by rcases hc with hc | hc; exact e1 c (by omega) (by omega) (by omega); exact e3 c (by omega)) i6.2.2.2.2.2⟩
  · exact tpR_E (by rw [e1 0 (by decide) (by decide) (by decide)]) (e1 1 (by decide) (by decide) (by decide)) (e2 2 (by decide) (by decide) (by decide)) (e3 133 (by omega)) i7
  · rw [e1 2 (by decide) (by decide) (by decide), e1 4 (by decide) (by decide) (by decide), e2 27 (by decide) (by decide) (by decide), e2 28 (by decide) (by decide) (by decide)]; exact i8
set_option maxHeartbeats 4000000 in
theorem pr_go {G : zG} {d : Nat} {h : zMem} (hOK : zOK h) (x : Int32) : pairX G mX9_go mX10_go (d + 200) [.ref 0, .int x] [.ref 132, .int x] h := by
  have hOK' := hOK
  obtain ⟨t, ns, nd, nr, nm, dt, u, nn, tp, S1, S2, h174, hI⟩ := hOK'
  obtain ⟨td, md, rl, -⟩ := hI.1
  have td' := td
  obtain ⟨t0, t1, t2, t3, h6, h8, h6r, h5, hlw⟩ := td
  have hdt : dt ≤ 9999 := hI.2.2.1.2.2.2
  have w1 := (now0 hI.2.2.1.1).1
  have e151 := (ab0 hI.2.2.1.2.1).2.2.1
  have dj := st_td (b := 48) (Or.inl rfl) S1.2.1
  have e10 : zI h 48 10 = nI dt := w1.trans e151
  by_cases noch : x < 0 ∨ (99 : Int32) < x ∨ ¬ (nI dt + x) ≤ 9999
  · refine pairI.x (pair_ro hOK (-1) ?_ (fun h1 k => ?_))
    · refine cn_X9_go (sg_X9_go_0 S1 ?_)
      rw [e10]
      refine ⟨fun _ => ⟨rfl, cR.rf _⟩, fun c => ⟨fun _ => ⟨rfl, cR.rf _⟩, fun c2 => ⟨fun c3 => ?_, fun _ => ⟨rfl, cR.rf _⟩⟩⟩⟩
      rcases noch with e | e | e
      · exact absurd e c
      · exact absurd e c2
      · exact absurd c3 e
    · refine cn_X10_go (sg_X10_go_0 (S2.W k.1) ?_)
      rw [k.eT.1 151 (by decide), e151]
      refine ⟨fun _ => ⟨rfl, jR.thr h1⟩, fun c => ⟨fun _ => ⟨rfl, jR.thr h1⟩, fun c2 => ⟨fun c3 => ?_, fun _ => ⟨rfl, jR.thr h1⟩⟩⟩⟩
      rcases noch with e | e | e
      · exact absurd e c
      · exact absurd e c2
      · exact absurd c3 e
  have x0 : ¬ x < 0 := fun e => noch (Or.inl e)
  have x1 : ¬ (99 : Int32) < x := fun e => noch (Or.inr (Or.inl e))
  have x2 : (nI dt + x) ≤ 9999 := Classical.byContradiction fun e => noch (Or.inr (Or.inr e))
  obtain ⟨n, -, hn, rfl⟩ := zrange (lo := 0) (hi := 99) (a := 0) (b := 99) (by decide) (by decide) x0 x1
  have hdn : dt + n ≤ 9999 := by
    rw [nI_add] at x2
    exact (nI_leI (by omega) (by decide)).mp (show nI (dt + n) ≤ nI 9999 from x2)
  rcases Nat.eq_zero_or_pos n with n0 | npos
  · subst n0
    refine pairI.x (pair_ro hOK (nI dt) ?_ (fun h1 k => ?_))
    · refine cn_X9_go (sg_X9_go_0 S1 ?_)
      rw [e10]
      refine ⟨fun c => absurd c x0, fun _ => ⟨fun c => absurd c x1, fun _ => ⟨fun _ => ?_, fun c => absurd x2 c⟩⟩⟩
      exact sg_X9_go_29 S1 ⟨fun _ => ⟨fun _ => ⟨e10, cR.rf _⟩, fun c => absurd (by decide) c⟩, fun c => absurd (by decide) c⟩
    · have S3 : zSh2 (zsI h1 132 0 0) := S2.W k.thr.1
      refine cn_X10_go (sg_X10_go_0 (S2.W k.1) ?_)
      rw [k.eT.1 151 (by decide), e151]
      refine ⟨fun c => absurd c x0, fun _ => ⟨fun c => absurd c x1, fun _ => ⟨fun _ => ⟨fun _ => ?_, fun c => absurd (by decide) c⟩, fun c => absurd x2 c⟩⟩⟩
      refine sg_X10_go_42 S3 ⟨fun _ => ⟨?_, jR.thr h1⟩, fun c => absurd (by decide) c⟩
      rw [k.eT.1 151 (by decide), e151]
  have np : ¬ nI n ≤ 0 := nI_nle npos (by omega)
  refine ⟨fun v h1 => v = nI (dt + n) ∧ zW h h1 ∧ ∃ C, mRun 48 t ns nd nr nm n dt (zI h) C ∧ (∀ a, (a < 48 ∨ 65 ≤ a) → C a = zI h a) ∧ zI h1 = zup C 44 3 0, fun v h1 h2 => zOK h2, ?_, ?_⟩
  · refine cn_X9_go (sg_X9_go_0 S1 ?_)
    rw [e10]
    refine ⟨fun c => absurd c x0, fun _ => ⟨fun c => absurd c x1, fun _ => ⟨fun _ => ?_, fun c => absurd x2 c⟩⟩⟩
    have loop : ∀ (Q : Int32 → zMem → Prop) m k (h1 : zMem), m + k = n → zSh1 h1 t → zW h h1 → (∀ a, (a < 48 ∨ 65 ≤ a) → zI h1 a = zI h a) → stOK (zI h1) 48 nd nr nm (dt + k) → (∀ h2, zSh1 h2 t → zW h h2 → (∀ a, (a < 48 ∨ 65 ≤ a) → zI h2 a = zI h a) → zI h2 48 10 = nI (dt + n) → mRun 48 t ns nd nr nm m (dt + k) (zI h1) (zI h2) → Q (nI (dt + n)) (zsI h2 44 3 0)) → zg G mX9_go (d + 200) 29 [.ref 0, .int (nI n), .int (nI k)] [] h1 (zPI Q) := by
      intro Q m
      induction m with
      | zero =>
        intro k h1 hk s1 q1 q2 q3 K
        have e1 : zI h1 48 10 = nI (dt + n) := by rw [q3.2.2, show k = n by omega]
        refine sg_X9_go_29 s1 ⟨fun _ => ⟨fun c => absurd c np, fun _ => ⟨fun h' => h' = zsI h1 44 3 0, cn_X8_clear (sg_X8_clear_0 s1 rfl), ?_⟩⟩, fun c => absurd (nI_le (by omega) (by omega)) c⟩
        rintro h4 rfl
        refine ⟨s1.W ((zW.rf _).sI _ _ _), ?_⟩
        rw [zI_sI, zup_ne _ _ (by decide), e1]
        exact K h1 s1 q1 q2 e1 rfl
      | succ m ih =>
        intro k h1 hk s1 q1 q2 q3 K
        refine sg_X9_go_29 s1 ⟨fun c => absurd c (nI_ge (by omega) (by omega)), fun _ => cl_morn (b := 48) s1 (Or.inl rfl) (tdOK_E (fun k hk => q2 _ (by omega)) td') q3 (by omega) (fun h7 s7 w7 m7 => ?_)⟩
        rw [nI_1]
        refine ih (k + 1) h7 (by omega) s7 (q1.trans w7) (fun a ha => (m7.1 a (by omega)).trans (q2 a ha)) (m7.st q3) (fun h2 a b c e f => K h2 a b c e ⟨_, m7, f⟩)
    exact loop _ n 0 h (by omega) S1 (zW.rf h) (fun _ _ => rfl) (now_st hI.2.2.1) (fun h2 a b c e f => ⟨rfl, b.sI _ _ _, zI h2, f, c, by rw [zI_sI]⟩)
  · rintro v h1 ⟨rfl, k1, C, k2, k3, k4⟩
    have hi1 : ∀ c, 132 ≤ c → zI h1 c = zI h c := fun c hc => by rw [k4, zup_ne _ _ (by omega)]; exact k3 c (by omega)
    refine ⟨⟨⟨t, S1.W k1⟩, S2.W k1, k1.out h174⟩, ?_, fun h2 q => q⟩
    have S3 : zSh2 (zsI (zsI h1 132 0 0) 132 47 0) := (S2.W k1).W (((zW.rf _).sI _ _ _).sI _ _ _)
    refine cn_X10_go (sg_X10_go_0 (S2.W k1) ?_)
    rw [zI_sI, zup_ne _ _ (by decide), hi1 151 (by decide), e151]
    refine ⟨fun c => absurd c x0, fun _ => ⟨fun c => absurd c x1, fun _ => ⟨fun _ => ⟨fun c => absurd c np, fun _ => ?_⟩, fun c => absurd x2 c⟩⟩⟩
    have loop : ∀ m k (D : Nat → Nat → Int32) (h3 : zMem), m + k = n → mRun 48 t ns nd nr nm m (dt + k) D C → zSh2 h3 → zW h1 h3 → rnI D (zI h3) 48 t 0 ns nd nr nm (dt + k) → (0 < k → ∀ s, s < ns → zI h3 157 s = 0) → (∀ c, c < 132 → zI h3 c = zI h1 c) → (∀ c, (132 < c ∧ c < 151) ∨ (168 ≤ c ∧ c ≤ 172) → zI h3 c = zI h c) → (∀ k, k ≠ 0 → k ≠ 33 → k ≠ 47 → zI h3 132 k = zI h 132 k) → zI h3 132 47 = nI 0 → abE (zI h) (zI h3) 2 → zg G mX10_go (d + 200) 42 [.ref 132, .int (nI n), .int (nI k)] [] h3 (zPI (fun w h2 => w = nI (dt + n) ∧ zOK h2)) := by
      intro m
      induction m with
      | zero =>
        intro k D h3 hk r s3 q1 q2 q0 q3 q4 q5 q6 q7
        have ek : k = n := by omega
        subst ek
        have ed : C = D := r
        subst ed
        obtain ⟨a1, a2, a3, a4, a5, a6⟩ := q2
        refine sg_X10_go_42 s3 ⟨fun _ => ⟨a6.2.2.1, ?_⟩, fun c => absurd (nI_le (by omega) (by omega)) c⟩
        have WW := k1.trans q1
        have lo : ∀ c, c < 132 → c ≠ 44 → zI h3 c = C c := fun c hc h44 => by rw [q3 c hc, k4, zup_ne _ _ h44]
        have N : nowR (zI h3) 48 0 ns nd nr nm (dt + k) := by
          refine ⟨?_, a6, fun s hs => ⟨0, by omega, ?_⟩, hdn⟩
          · exact relS_E h6 h6r h5 (fun j hj => by rw [lo (48 + j) (by omega) (by omega), mg_lo (by omega)]) (by rw [mg_hi (by decide)]) ⟨fun c _ _ => by rw [mg_hi (by omega)], fun c s _ _ => by rw [mg_hi (by omega)], fun p s _ _ => by rw [mg_hi (by omega)], fun c m _ _ _ => by rw [mg_hi (by omega)]⟩ a4
          · rw [Nat.mul_zero, Nat.zero_add]; exact q0 npos s hs
        refine ⟨t, ns, nd, nr, nm, dt + k, 0, nn, tp, S1.W WW, S2.W WW, WW.out h174, zInv_go S1.2.1 hI (fun c a b e => by rw [lo c a e]; exact k3 c (by omega)) ?_ q5 q6 q4 q7 N⟩
        rw [q3 44 (by decide), k4, zup_s]; rfl
      | succ m ih =>
        intro k D h3 hk r s3 q1 q2 q0 q3 q4 q5 q6 q7
        obtain ⟨J, m1, r⟩ := r
        refine sg_X10_go_42 s3 ⟨fun c => absurd c (nI_ge (by omega) (by omega)), fun _ => md_pass (a := 0) s3 (by decide) q2.2.2.2.2.1 q2.2.2.2.2.2 (by omega) (fun h7 s7 w7 p7 => ?_)⟩
        obtain ⟨st, po, fr⟩ := rnI.step (Or.inl rfl) S1.2.1 h6 h8 h6r (by omega) q2 m1 p7
        rw [nI_1]
        refine ih (k + 1) J h7 (by omega) r s7 (q1.trans w7) st (fun _ s hs => ?_) (fun c hc => ?_) (fun c hc => ?_) (fun j a b e => ?_) ?_ ?_
        · have := p7.2.2.2.2.2.2.2.2.1 s (by omega)
          rw [Nat.mul_zero, Nat.zero_add] at this; exact this
        · rw [p7.1 c (by omega) (by omega) (by omega) (by omega) (by omega) (by omega) (by omega) (by omega) (by omega) (by omega) (by omega) (by omega)]; exact q3 c hc
        · rw [p7.1 c (by omega) (by omega) (by omega) (by omega) (by omega) (by omega) (by omega) (by omega) (by omega) (by omega) (by omega) (by omega)]; exact q4 c hc
        · rw [p7.2.1 j b]; exact q5 j a b e
        · rw [p7.2.1 47 (by decide)]; exact q6
        · obtain ⟨f1, f2, f3, f4, f5, f6, -⟩ := p7
          obtain ⟨g1, g2, g3, g4⟩ := q7
          refine ⟨fun c a b => ?_, fun c s a b => ?_, fun p s a b => ?_, fun c m a b e => ?_⟩
          · rw [← g1 c a b]
            obtain ⟨x1, x2, x3, x4⟩ := f3 2 (by decide)
            rcases (show c = 151 ∨ c = 152 ∨ c = 153 ∨ c = 154 by omega) with rfl | rfl | rfl | rfl
            · exact x1
            · exact x2
            · exact x3
            · exact x4
          · rw [← g2 c s a b]
            obtain ⟨x1, x2⟩ := f4 (6 * 2 + s) (by omega)
            rcases a with rfl | rfl
            · exact x1
            · exact x2
          · rw [← g3 p s a b]; exact f5 _ (by omega)
          · rw [← g4 c m a b e]
            obtain ⟨x1, x2⟩ := f6 (5 * 2 + m) (by omega)
            rcases (show c = 159 ∨ c = 160 ∨ c = 161 ∨ c = 162 by omega) with rfl | rfl | rfl | rfl
            · rw [f1 159 (by decide) (by decide) (by decide) (by decide) (by decide) (by decide) (by decide) (by decide) (by decide) (by decide) (by decide) (by decide)]
            · rw [f1 160 (by decide) (by decide) (by decide) (by decide) (by decide) (by decide) (by decide) (by decide) (by decide) (by decide) (by decide) (by decide)]
            · exact x1
            · exact x2
    have Z : ∀ c, c ≠ 132 → zI (zsI (zsI h1 132 0 0) 132 47 0) c = zI h1 c := fun c hc => by rw [zI_sI, zup_ne _ _ hc, zI_sI, zup_ne _ _ hc]
    have z132 : ∀ j, j ≠ 0 → j ≠ 47 → zI (zsI (zsI h1 132 0 0) 132 47 0) 132 j = zI h 132 j := fun j a b => by rw [zI_sI, zup_i _ _ _ b, zI_sI, zup_i _ _ _ a, hi1 132 (by decide)]
    refine loop n 0 (zI h) _ (by omega) k2 S3 (((zW.rf h1).sI _ _ _).sI _ _ _) ⟨rlT_E h8 (fun k hk => mg_lo (by have := S1.2.1.lt; omega)) (fun c a b => ?_) rl, ?_, ?_, ?_, ?_, ?_⟩ (fun q => absurd q (by omega)) (fun c hc => Z c (by omega)) (fun c hc => by rw [Z c (by omega)]; exact hi1 c (by omega)) (fun j a b e => z132 j a e) ?_ ?_
    · rw [mg_hi (by omega), Z c (by omega)]; exact hi1 c (by omega)
    · unfold pln; rw [z132 50 (by decide) (by decide), z132 52 (by decide) (by decide)]; exact hI.2.1.1
    · rw [z132 48 (by decide) (by decide)]; exact hI.2.1.2
    · exact relS_E h6 h6r h5 (fun j hj => by rw [mg_lo (by omega)]) (by rw [mg_hi (by decide), Z 141 (by decide)]; exact hi1 141 (by decide)) ⟨fun c _ _ => by rw [mg_hi (by omega), Z c (by omega), hi1 c (by omega)], fun c s _ _ => by rw [mg_hi (by omega), Z c (by omega), hi1 c (by omega)], fun p s _ _ => by rw [mg_hi (by omega), Z 158 (by omega), hi1 158 (by omega)], fun c m _ _ _ => by rw [mg_hi (by omega), Z c (by omega), hi1 c (by omega)]⟩ hI.2.2.1.1
    · exact mdOK_E2 md (fun c hc => by rw [Z c (by omega)]; exact hi1 c (by omega)) (fun j a b => z132 j (by omega) (by omega))
    · exact abOK_E h6 h6r h5 ⟨fun c _ _ => by rw [Z c (by omega), hi1 c (by omega)], fun c s _ _ => by rw [Z c (by omega), hi1 c (by omega)], fun p s _ _ => by rw [Z 158 (by omega), hi1 158 (by omega)], fun c m _ _ _ => by rw [Z c (by omega), hi1 c (by omega)]⟩ hI.2.2.1.2.1
    · rw [zI_sI, zup_s]; rfl
    · exact ⟨fun c _ _ => by rw [Z c (by omega), hi1 c (by omega)], fun c s _ _ => by rw [Z c (by omega), hi1 c (by omega)], fun p s _ _ => by rw [Z 158 (by omega), hi1 158 (by omega)], fun c m _ _ _ => by rw [Z c (by omega), hi1 c (by omega)]⟩
