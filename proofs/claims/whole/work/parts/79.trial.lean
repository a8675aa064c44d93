/-! mornings on a trial: the first feast kept wrongly -/
theorem passR.j1 {I I' : Nat → Nat → Int32} {ns nd nr nm dt : Nat} (q : passR I I' 1 ns nd nr nm dt) : jE I I' := fun c j hn => by
  obtain ⟨q1, q2, q3, q4, q5, q6, -⟩ := q
  unfold jkP at hn
  by_cases e : c = 132
  · subst e; exact q2 j (by omega)
  by_cases e2 : c = 151 ∨ c = 152 ∨ c = 153 ∨ c = 154
  · obtain ⟨x1, x2, x3, x4⟩ := q3 j (by omega)
    rcases e2 with rfl | rfl | rfl | rfl
    · exact x1
    · exact x2
    · exact x3
    · exact x4
  by_cases e3 : c = 156 ∨ c = 157
  · obtain ⟨x1, x2⟩ := q4 j (by omega)
    rcases e3 with rfl | rfl
    · exact x1
    · exact x2
  by_cases e4 : c = 158
  · subst e4; exact q5 j (by omega)
  by_cases e5 : c = 161 ∨ c = 162
  · obtain ⟨x1, x2⟩ := q6 j (by omega)
    rcases e5 with rfl | rfl
    · exact x1
    · exact x2
  · rw [q1 c (by omega) (by omega) (by omega) (by omega) (by omega) (by omega) (by omega) (by omega) (by omega) (by omega) (by omega) (by omega)]
theorem pairX_ro {G : zG} {mc mm : zM} {D : Nat} {ac am : List Value} {h : zMem} (hOK : zOK h) (P : Int32 → Prop) (hc : zConI G mc D ac h (fun v h1 => cR h h1 ∧ P v)) (hm : ∀ v h1, P v → cR h h1 → zConI G mm D am h1 (fun w h2 => w = v ∧ jR2 h1 h2)) : pairX G mc mm D ac am h :=
  ⟨fun v h1 => cR h h1 ∧ P v, fun _ => jR2, hc, fun v h1 k => ⟨(hOK.j k.1.j).bs, hm v h1 k.2 k.1, fun _ j => (hOK.j k.1.j).j2 j⟩⟩
/-- a trial copied from what is now, on both sides -/
theorem tr_init {I X C N : Nat → Nat → Int32} {t ns nd nr nm dt u nn tp : Nat} (ht : isTd t) (hI : zInv I t ns nd nr nm dt u nn tp) (hC : copyR I C 82 48) (hX : eT I X) (hN : cpR X N 1 0) : rnI C N 82 t 1 ns nd nr nm dt := by
  obtain ⟨i1, i2, i3, -⟩ := hI
  have h6 : ns ≤ 6 := i1.1.2.2.2.2.1
  have h8 : nd ≤ 8 := i1.1.2.2.2.2.2.1
  have h6r : nr ≤ 6 := i1.1.2.2.2.2.2.2.1
  have h5 : nm ≤ 5 := i1.1.2.2.2.2.2.2.2.1
  have hl := ht.lt
  have tn : t = 8 ∨ t = 103 := ht
  have QX : abQ I X 0 0 := (abQ.rf I 0).eq (fun c a b => hX.1 c (by omega))
  have Q : abQ I N 1 0 := QX.trans hN.q
  have Qm : abQ I (mg C N) 1 0 := Q.eq (fun c a b => mg_hi (by omega))
  have n132 : ∀ j, j ≠ 0 → N 132 j = I 132 j := fun j hj => by rw [hN.1 132 (by decide)]; exact hX.2 j hj
  have nrow : ∀ c, 133 ≤ c → c < 151 → N c = I c := fun c a b => by rw [hN.1 c (by omega)]; exact hX.1 c a
  refine ⟨rlT_E h8 (fun k hk => ?_) (fun c a b => ?_) i1.2.2.1, ?_, ?_, ?_, ?_, abOK_Q h6 h6r h5 Q i3.2.1⟩
  · rw [mg_lo (by omega)]; exact hC.1 _ (by omega)
  · rw [mg_hi (by omega)]; exact nrow c (by omega) (by omega)
  · unfold pln; rw [n132 50 (by decide), n132 52 (by decide)]; exact i2.1
  · rw [n132 48 (by decide)]; exact i2.2
  · exact relS_cp h6 h6r h5 hC.q (fun k hk => mg_lo (by omega)) (by rw [mg_hi (by decide)]; exact nrow 141 (by decide) (by decide)) Qm i3.1
  · exact mdOK_E2 i1.2.1 (fun c hc => nrow c (by omega) (by omega)) (fun j a b => n132 j (by omega))
theorem copy_st {I C : Nat → Nat → Int32} {nd nr nm dt : Nat} (h5 : nm ≤ 5) (hC : copyR I C 82 48) (h : stOK I 48 nd nr nm dt) : stOK C 82 nd nr nm dt := by
  obtain ⟨s1, s2, s3⟩ := h
  refine ⟨fun m hm => by rw [(hC.q.2.1 m (by omega)).1]; exact s1 m hm, fun m hm h0 => by rw [(hC.q.2.1 m (by omega)).2.2.2]; exact s2 m hm h0, by rw [hC.q.2.2.2.1]; exact s3⟩
def fwR (t ns nd nr nm : Nat) : Nat → Nat → Nat → (Nat → Nat → Int32) → Int32 → Prop
  | 0, _, _, _, v => v = -2
  | n + 1, k, dt, I, v => ∃ J, mornR I J 82 t ns nd nr nm dt ∧ (J 82 13 ≤ J 48 13 → fwR t ns nd nr nm n (k + 1) (dt + 1) J v) ∧ (¬ J 82 13 ≤ J 48 13 → v = nI k)
set_option maxHeartbeats 4000000 in
theorem pr_firstWrong {G : zG} {d : Nat} {h : zMem} (hOK : zOK h) (x : Int32) : pairX G mX9_firstWrong mX10_firstWrong (d + 200) [.ref 0, .int x] [.ref 132, .int x] h := by
  have hOK' := hOK
  obtain ⟨t, ns, nd, nr, nm, dt, u, nn, tp, S1, S2, h174, hI⟩ := hOK'
  obtain ⟨td, md, rl, -⟩ := hI.1
  have td' := td
  obtain ⟨t0, t1, t2, t3, h6, h8, h6r, h5, hlw⟩ := td
  have hdt : dt ≤ 9999 := hI.2.2.1.2.2.2
  have tn : t = 8 ∨ t = 103 := S1.2.1
  have w4 := (now0 hI.2.2.1.1).2.2.2.1
  by_cases noch : x < 1 ∨ ¬ x ≤ 99
  · refine pairI.x (pair_ro hOK (-1) ?_ (fun h1 k => ?_))
    · exact cn_X9_firstWrong (sg_X9_firstWrong_0 S1 ⟨fun _ => ⟨rfl, cR.rf _⟩, fun c => ⟨fun c2 => absurd c2 (noch.resolve_left c), fun _ => ⟨rfl, cR.rf _⟩⟩⟩)
    · exact cn_X10_firstWrong (sg_X10_firstWrong_0 (S2.W k.1) ⟨fun _ => ⟨rfl, jR.thr h1⟩, fun c => ⟨fun c2 => absurd c2 (noch.resolve_left c), fun _ => ⟨rfl, jR.thr h1⟩⟩⟩)
  have x0 : ¬ x < 1 := fun e => noch (Or.inl e)
  have x1 : x ≤ 99 := Classical.byContradiction fun e => noch (Or.inr e)
  obtain ⟨n, n1, hn, rfl⟩ := zrange (lo := 1) (hi := 99) (a := 1) (b := 99) (by decide) (by decide) x0 (Int32.not_lt.mpr x1)
  refine pairX_ro hOK (fun v => ∃ C, copyR (zI h) C 82 48 ∧ fwR t ns nd nr nm n 1 dt C v) ?_ ?_
  · refine cn_X9_firstWrong (sg_X9_firstWrong_0 S1 ⟨fun c => absurd c x0, fun _ => ⟨fun _ => ⟨_, X5_copy_ok S1 (Or.inr (Or.inr rfl)) (Or.inl rfl) (by decide), ?_⟩, fun c => absurd x1 c⟩⟩)
    rintro h4 ⟨c1, c2⟩
    refine ⟨S1.W c1, ?_⟩
    have loop : ∀ (Q : Int32 → zMem → Prop) m k (h1 : zMem), m + k = n + 1 → 1 ≤ k → zSh1 h1 t → zW h h1 → (∀ a, (a < 82 ∨ 99 ≤ a) → zI h1 a = zI h a) → stOK (zI h1) 82 nd nr nm (dt + k - 1) → (∀ v h2, cR h h2 → fwR t ns nd nr nm m k (dt + k - 1) (zI h1) v → Q v h2) → zg G mX9_firstWrong (d + 200) 26 [.ref 0, .int (nI n), .int (nI k)] [] h1 (zPI Q) := by
      intro Q m
      induction m with
      | zero =>
        intro k h1 hk k1 s1 q1 q2 q3 K
        exact sg_X9_firstWrong_26 s1 ⟨fun _ => K _ _ (cR_tr q1 q2) rfl, fun c => absurd (nI_lt (by omega) (by omega)) c⟩
      | succ m ih =>
        intro k h1 hk k1 s1 q1 q2 q3 K
        refine sg_X9_firstWrong_26 s1 ⟨fun c => absurd c (nI_nlt (by omega) (by omega)), fun _ => cl_morn (b := 82) s1 (Or.inr (Or.inr rfl)) (tdOK_E (fun k hk => q2 _ (by omega)) td') q3 (by omega) (fun h7 s7 w7 m7 => ?_)⟩
        have f7 : ∀ a, (a < 82 ∨ 99 ≤ a) → zI h7 a = zI h a := fun a ha => (m7.1 a (by omega)).trans (q2 a ha)
        rw [nI_1]
        have st7 := m7.st q3
        rw [show dt + k - 1 + 1 = dt + (k + 1) - 1 by omega] at st7
        refine ⟨fun c => ih (k + 1) h7 (by omega) (by omega) s7 (q1.trans w7) f7 st7 (fun v h2 a b => K v h2 a ⟨_, m7, fun _ => ?_, fun c' => absurd c c'⟩), fun c => K _ _ (cR_tr (q1.trans w7) f7) ⟨_, m7, fun c' => absurd c' c, fun _ => rfl⟩⟩
        rw [show dt + k - 1 + 1 = dt + (k + 1) - 1 by omega]; exact b
    exact loop _ n 1 h4 (by omega) (by omega) (S1.W c1) c1 c2.1 (copy_st h5 c2 (now_st hI.2.2.1)) (fun v h2 a b => ⟨a, zI h4, c2, b⟩)
  · rintro v h1 ⟨C, kC, kR⟩ k
    have S3 : zSh2 (zsI h1 132 0 0) := S2.W k.thr.1
    refine cn_X10_firstWrong (sg_X10_firstWrong_0 (S2.W k.1) ⟨fun c => absurd c x0, fun _ => ⟨fun _ => ⟨_, X10_copies_ok (x := 1) (y := 0) S3 (by decide) (by decide) (by decide), ?_⟩, fun c => absurd x1 c⟩⟩)
    rintro h4 ⟨c1, cp⟩
    have i0 := tr_init S1.2.1 hI kC k.eT cp
    refine ⟨S3.W c1, ?_⟩
    have loop : ∀ m kk (D : Nat → Nat → Int32) (h3 : zMem), m + kk = n + 1 → 1 ≤ kk → fwR t ns nd nr nm m kk (dt + kk - 1) D v → zSh2 h3 → jR h1 h3 → rnI D (zI h3) 82 t 1 ns nd nr nm (dt + kk - 1) → D 48 = zI h 48 → zI h3 154 0 = zI h 154 0 → zg G mX10_firstWrong (d + 200) 26 [.ref 132, .int (nI n), .int (nI kk)] [] h3 (zPI (fun w h2 => w = v ∧ jR2 h1 h2)) := by
      intro m
      induction m with
      | zero =>
        intro kk D h3 hk k1 r s3 q1 q2 q3 q4
        exact sg_X10_firstWrong_26 s3 ⟨fun _ => ⟨r.symm, q1.two⟩, fun c => absurd (nI_lt (by omega) (by omega)) c⟩
      | succ m ih =>
        intro kk D h3 hk k1 r s3 q1 q2 q3 q4
        obtain ⟨J, m1, r1, r2⟩ := r
        refine sg_X10_firstWrong_26 s3 ⟨fun c => absurd c (nI_nlt (by omega) (by omega)), fun _ => md_pass (a := 1) s3 (by decide) q2.2.2.2.2.1 q2.2.2.2.2.2 (by omega) (fun h7 s7 w7 p7 => ?_)⟩
        obtain ⟨st, po, fr⟩ := rnI.step (Or.inr (Or.inr rfl)) S1.2.1 h6 h8 h6r (by omega) q2 m1 p7
        have e1 : zI h7 154 1 = J 82 13 := by
          have := st.2.2.2.1.2.2.2.1
          rw [mg_lo (by decide), mg_hi (by decide)] at this; exact this.symm
        have J48 : J 48 = zI h 48 := by rw [m1.1 48 (by decide)]; exact q3
        have e0 : zI h7 154 0 = J 48 13 := by rw [(p7.2.2.1 0 (by decide)).2.2.2, q4, J48]; exact w4.symm
        have j7 : jR h1 h7 := q1.trans ⟨w7, p7.j1⟩
        rw [e1, e0, nI_1]
        rw [show dt + kk - 1 + 1 = dt + (kk + 1) - 1 by omega] at st r1
        refine ⟨fun c => ih (kk + 1) J h7 (by omega) (by omega) (r1 c) s7 j7 st J48 (by rw [(p7.2.2.1 0 (by decide)).2.2.2]; exact q4), fun c => ⟨(r2 c).symm, j7.two⟩⟩
    exact loop n 1 C h4 (by omega) (by omega) kR (S3.W c1) ((jR.thr h1).trans ⟨c1, cp.j1⟩) i0 (kC.1 48 (by decide)) (by rw [(cp.2.1 154 (by decide) (by decide)).2 0 (by decide)]; rw [k.eT.1 154 (by decide)])
