/-! tried otherwise: class and model -/
theorem trS_clear {D I1 N : Nat → Nat → Int32} {w k ns nr nm : Nat} (hC : clearR D I1 82) (hw : w = 1) (h : trS (mg D N) w k ns nr nm) : trS (mg I1 N) w k ns nr nm := by
  have e : ∀ c, c < 87 ∨ 93 ≤ c → mg I1 N c = mg D N c := fun c hc => by
    by_cases l : c < 132
    · rw [mg_lo l, mg_lo l]; exact hC.1 c (by omega)
    · rw [mg_hi (by omega), mg_hi (by omega)]
  obtain ⟨s1, s2, s3, s4, s5, s6, s7, s8, s9, s10, s11⟩ := h
  unfold trS abM ptM cdM at *
  rw [e 82 (by decide), e 83 (by decide), e 84 (by decide), e 85 (by decide), e 93 (by decide), e 94 (by decide), e 96 (by decide), e 132 (by decide), e 141 (by decide), e 151 (by decide), e 152 (by decide), e 153 (by decide), e 154 (by decide), e 156 (by decide), e 157 (by decide), e 159 (by decide), e 160 (by decide), e 162 (by decide)]
  exact ⟨s1, s2, s3, s4, s5, s6, s7, s8, s9, fun q => absurd hw q, s11⟩
set_option maxHeartbeats 2000000 in
theorem trS_init {I C C1 N : Nat → Nat → Int32} {w ns nd nr nm dt : Nat} {y : Int32} (hw : w ≤ 5) (h6 : ns ≤ 6) (h6r : nr ≤ 6) (h5 : nm ≤ 5) (hC : copyR I C 82 48) (hct : ctR C C1 w y) (h48 : N 132 48 = nI w) (h49 : N 132 49 = y) (h141 : N 141 = I 141) (Q : abQ I N 1 0) (hn : nowR I 48 0 ns nd nr nm dt) : trS (mg C1 N) w 0 ns nr nm := by
  have r := relS_cp (I2 := mg C N) h6 h6r h5 hC.q (fun k hk => mg_lo (by omega)) (by rw [mg_hi (by decide)]; exact h141) (Q.eq (fun c a b => mg_hi (by omega))) hn.1
  obtain ⟨c1, c2, c3, c4, c5, c6, c7, c8, c9, c10⟩ := hct
  obtain ⟨s1, s2, s3, s4, s5, s6, s7, s8, s9⟩ := r
  have e : ∀ c, c ≠ 94 → c ≠ 83 → c ≠ 85 → c ≠ 82 → mg C1 N c = mg C N c := fun c x1 x2 x3 x4 => by
    by_cases l : c < 132
    · rw [mg_lo l, mg_lo l]; exact c1 c x1 x2 x3 x4
    · rw [mg_hi (by omega), mg_hi (by omega)]
  have l82 : mg C1 N 82 = C1 82 := mg_lo (by decide)
  have m82 : mg C N 82 = C 82 := mg_lo (by decide)
  have n48 : ∀ k, k ≤ 5 → (mg C1 N 132 48 = nI k ↔ w = k) := fun k hk => by
    rw [mg_hi (by decide), h48]; exact ⟨fun q => nI_inj (by omega) (by omega) q, fun q => by rw [q]⟩
  have n3 : mg C1 N 132 48 = 3 ↔ w = 3 := n48 3 (by decide)
  have n5 : mg C1 N 132 48 = 5 ↔ w = 5 := n48 5 (by decide)
  have n2 : mg C1 N 132 48 = 2 ↔ w = 2 := n48 2 (by decide)
  refine ⟨?_, ?_, ?_, ?_, ?_, fun w4 s hs => ?_, fun w4 s hs => ?_, fun s hs => ?_, fun p hp => ?_, fun w1 p s hp hs => ?_, fun m hm => ⟨?_, ?_, ?_⟩⟩
  · rw [l82, c4 10 (by decide), ← m82, e 151 (by decide) (by decide) (by decide) (by decide)]; exact s1
  · rw [l82, c4 11 (by decide), ← m82, e 152 (by decide) (by decide) (by decide) (by decide)]; exact s2
  · rw [l82, c4 12 (by decide), ← m82, e 153 (by decide) (by decide) (by decide) (by decide)]; exact s3
  · rw [l82, c4 13 (by decide), ← m82, e 154 (by decide) (by decide) (by decide) (by decide)]; exact s4
  · unfold abM
    by_cases w3 : w = 3
    · rw [if_pos (n3.mpr w3), l82, c6 w3, mg_hi (by decide), h49]
    · rw [if_neg (fun q => w3 (n3.mp q)), l82, c5 w3, ← m82]; exact s5
  · rw [mg_lo (by decide), c7 w4, ← mg_lo (C := C) (N := N) (show 83 < 132 by decide), e 156 (by decide) (by decide) (by decide) (by decide)]; exact (s6 s hs).1
  · rw [mg_lo (by decide), c8 w4 s (by omega)]; exact ⟨1000000, by omega, by omega, rfl⟩
  · rw [e 84 (by decide) (by decide) (by decide) (by decide), e 157 (by decide) (by decide) (by decide) (by decide)]; exact (s6 s hs).2
  · unfold ptM
    by_cases w5 : w = 5
    · rw [if_pos (n5.mpr w5), mg_lo (by decide), c10 w5 p (by omega)]
    · rw [if_neg (fun q => w5 (n5.mp q)), mg_lo (by decide), c9 w5, ← mg_lo (C := C) (N := N) (show 85 < 132 by decide), e 141 (by decide) (by decide) (by decide) (by decide)]; exact s7 p hp
  · rw [e (87 + p) (by omega) (by omega) (by omega) (by omega), e 158 (by decide) (by decide) (by decide) (by decide)]; exact s8 p s hp hs
  · rw [e 93 (by decide) (by decide) (by decide) (by decide), e 159 (by decide) (by decide) (by decide) (by decide)]; exact (s9 m hm).1
  · unfold cdM
    by_cases w2 : w = 2
    · rw [if_pos (n2.mpr w2), mg_lo (by decide), c3 w2 m (by omega)]
    · rw [if_neg (fun q => w2 (n2.mp q)), mg_lo (by decide), c2 w2, ← mg_lo (C := C) (N := N) (show 94 < 132 by decide), e 160 (by decide) (by decide) (by decide) (by decide)]; exact (s9 m hm).2.1
  · rw [e 96 (by decide) (by decide) (by decide) (by decide), e 162 (by decide) (by decide) (by decide) (by decide)]; exact (s9 m hm).2.2.2
set_option maxHeartbeats 4000000 in
theorem pr_tried {G : zG} {d : Nat} {h : zMem} (hOK : zOK h) (x y z : Int32) : pairX G mX9_tried mX10_tried (d + 200) [.ref 0, .int x, .int y, .int z] [.ref 132, .int x, .int y, .int z] h := by
  have hOK' := hOK
  obtain ⟨t, ns, nd, nr, nm, dt, u, nn, tp, S1, S2, h174, hI⟩ := hOK'
  obtain ⟨td, md, rl, h99, -⟩ := hI.1
  have td' := td
  obtain ⟨t0, t1, t2, t3, h6, h8, h6r, h5, hlw⟩ := td
  have hdt : dt ≤ 9999 := hI.2.2.1.2.2.2
  have tn : t = 8 ∨ t = 103 := S1.2.1
  have w3 := (now0 hI.2.2.1.1).2.2.1
  have P : ∀ h1, cR h h1 → zSh2 (zsI h1 132 0 0) ∧ zInv (zI (zsI h1 132 0 0)) t ns nd nr nm dt u nn tp := fun h1 k => ⟨S2.W k.thr.1, zInv_j S1.2.1 hI k.thr.2⟩
  by_cases bad : x < 0 ∨ (5 : Int32) < x ∨ (¬ x = 3 ∧ ¬ y = 0) ∨ (x = 3 ∧ noP nm y) ∨ z < 0 ∨ ¬ z ≤ 99
  · refine pairI.x (pair_ro hOK (-1) ?_ (fun h1 k => ?_))
    · have F : ∀ a : Int32, (x < 0 ∨ (5 : Int32) < x ∨ a = 0 ∨ z < 0 ∨ ¬ z ≤ 99) → zg G mX9_tried (d + 200) 23 [.ref 0, .int x, .int y, .int z, zU, zU] [.int a] h (zPI (fun v h1 => v = -1 ∧ cR h h1)) := by
        intro a b
        refine sg_X9_tried_23 S1 ⟨fun _ => ⟨rfl, cR.rf _⟩, fun c1 => ⟨fun _ => ⟨rfl, cR.rf _⟩, fun c2 => ⟨fun _ => ⟨rfl, cR.rf _⟩, fun c3 => ⟨fun _ => ⟨rfl, cR.rf _⟩, fun c4 => ⟨fun c5 => ?_, fun _ => ⟨rfl, cR.rf _⟩⟩⟩⟩⟩⟩
        rcases b with e | e | e | e | e
        · exact absurd e c1
        · exact absurd e c2
        · exact absurd e c3
        · exact absurd e c4
        · exact absurd c5 e
      refine cn_X9_tried (sg_X9_tried_0 S1 ⟨fun c => ⟨fun c2 => F 0 (by simp), fun c2 => F 1 ?_⟩, fun c => ?_⟩)
      · rcases bad with e | e | e | e | e
        · exact Or.inl e
        · exact Or.inr (Or.inl e)
        · exact absurd c2 e.2
        · exact absurd e.1 c
        · exact Or.inr (Or.inr (Or.inr e))
      · rcases ix_or y (n := nm) (by omega) with q | ⟨m, hm, rfl⟩
        · refine ⟨_, X9_has_no (k := 3) S1 (by decide) t3 q, ?_⟩
          rintro v h2 ⟨rfl, rfl⟩
          exact ⟨S1, F 0 (by simp)⟩
        · refine ⟨_, X9_has_yes (k := 3) S1 (by decide) t3 hm (by omega), ?_⟩
          rintro v h2 ⟨rfl, rfl⟩
          refine ⟨S1, F 1 ?_⟩
          rcases bad with e | e | e | e | e
          · exact Or.inl e
          · exact Or.inr (Or.inl e)
          · exact absurd c e.1
          · rcases e.2 with q | q
            · exact absurd q (nI_pos (by omega))
            · exact absurd q (nI_ge hm (by omega))
          · exact Or.inr (Or.inr (Or.inr e))
    · obtain ⟨S3, I3⟩ := P h1 k
      have F : ∀ a : Int32, (a = 0 ∨ z < 0 ∨ ¬ z ≤ 99) → zg G mX10_tried (d + 200) 36 [.ref 132, .int x, .int y, .int z, zU, zU] [.int a] (zsI h1 132 0 0) (zPI (fun v h2 => v = -1 ∧ jR h1 h2)) := by
        intro a b
        refine sg_X10_tried_36 S3 ⟨fun _ => ⟨rfl, jR.thr h1⟩, fun c3 => ⟨fun _ => ⟨rfl, jR.thr h1⟩, fun c4 => ⟨fun c5 => ?_, fun _ => ⟨rfl, jR.thr h1⟩⟩⟩⟩
        rcases b with e | e | e
        · exact absurd e c3
        · exact absurd e c4
        · exact absurd c5 e
      refine cn_X10_tried (sg_X10_tried_0 (S2.W k.1) ⟨fun c => ⟨fun _ => F 0 (Or.inl rfl), fun c1 => ⟨fun _ => F 0 (Or.inl rfl), fun c2 => ⟨fun _ => F 0 (Or.inl rfl), fun c3 => F 1 ?_⟩⟩⟩, fun c => ?_⟩)
      · rcases bad with e | e | e | e | e
        · exact absurd e c1
        · exact absurd e c2
        · exact absurd c3 e.2
        · exact absurd e.1 c
        · exact Or.inr e
      · rcases ix_or y (n := nm) (by omega) with q | ⟨m, hm, rfl⟩
        · refine ⟨_, X10_isMonk_no S3 I3.1.2.1.2.2.2.1 q, ?_⟩
          rintro v h2 ⟨rfl, rfl⟩
          exact ⟨S3, F 0 (Or.inl rfl)⟩
        · refine ⟨_, X10_isMonk_yes S3 I3.1.2.1.2.2.2.1 hm (by omega), ?_⟩
          rintro v h2 ⟨rfl, rfl⟩
          refine ⟨S3, F 1 ?_⟩
          rcases bad with e | e | e | e | e
          · rw [c] at e; exact absurd e (by decide)
          · rw [c] at e; exact absurd e (by decide)
          · exact absurd c e.1
          · rcases e.2 with q | q
            · exact absurd q (nI_pos (by omega))
            · exact absurd q (nI_ge hm (by omega))
          · exact Or.inr e
  have x0 : ¬ x < 0 := fun e => bad (Or.inl e)
  have x5 : ¬ (5 : Int32) < x := fun e => bad (Or.inr (Or.inl e))
  have hy0 : ¬ x = 3 → y = 0 := fun e => Classical.byContradiction fun q => bad (Or.inr (Or.inr (Or.inl ⟨e, q⟩)))
  have hy3 : x = 3 → ∃ m, m < nm ∧ y = nI m := fun e => (ix_or y (n := nm) (by omega)).resolve_left (fun q => bad (Or.inr (Or.inr (Or.inr (Or.inl ⟨e, q⟩)))))
  have z0 : ¬ z < 0 := fun e => bad (Or.inr (Or.inr (Or.inr (Or.inr (Or.inl e)))))
  have z1 : z ≤ 99 := Classical.byContradiction fun e => bad (Or.inr (Or.inr (Or.inr (Or.inr (Or.inr e)))))
  obtain ⟨w, -, hw, ew⟩ := zrange (lo := 0) (hi := 5) (a := 0) (b := 5) (by decide) (by decide) x0 x5
  obtain ⟨n, -, hn, en⟩ := zrange (lo := 0) (hi := 99) (a := 0) (b := 99) (by decide) (by decide) z0 (Int32.not_lt.mpr z1)
  have w1x : x = 1 ↔ w = 1 := by rw [ew]; exact ⟨fun q => nI_inj (by omega) (by decide) (show nI w = nI 1 from q), fun q => by rw [q]; rfl⟩
  refine pairX_ro hOK (fun v => ∃ C C1, copyR (zI h) C 82 48 ∧ ctR C C1 w y ∧ trR t w ns nd nr nm n dt C1 v) ?_ ?_
  · have M : zg G mX9_tried (d + 200) 23 [.ref 0, .int x, .int y, .int z, zU, zU] [.int 1] h (zPI (fun v h1 => cR h h1 ∧ ∃ C C1, copyR (zI h) C 82 48 ∧ ctR C C1 w y ∧ trR t w ns nd nr nm n dt C1 v)) := by
      refine sg_X9_tried_23 S1 ⟨fun c => absurd c x0, fun _ => ⟨fun c => absurd c x5, fun _ => ⟨fun c => absurd c n10, fun _ => ⟨fun c => absurd c z0, fun _ => ⟨fun _ => ⟨_, X5_copy_ok S1 (Or.inr (Or.inr rfl)) (Or.inl rfl) (by decide), ?_⟩, fun c => absurd z1 c⟩⟩⟩⟩⟩
      rintro h7 ⟨c1, c2⟩
      refine ⟨S1.W c1, _, by rw [ew]; exact X9_changeTrial_ok (S1.W c1) hw y, ?_⟩
      rintro h10 ⟨e1, e2⟩
      have S10 := (S1.W c1).W e1
      refine ⟨S10, ?_⟩
      have loop : ∀ (Q : Int32 → zMem → Prop) m k (h1 : zMem), m + k = n → zSh1 h1 t → zW h h1 → (∀ a, (a < 82 ∨ 99 ≤ a) → zI h1 a = zI h a) → stOK (zI h1) 82 nd nr nm (dt + k) → (∀ v h2, cR h h2 → trR t w ns nd nr nm m (dt + k) (zI h1) v → Q v h2) → zg G mX9_tried (d + 200) 71 [.ref 0, .int x, .int y, .int z, .int 1, .int (nI k)] [] h1 (zPI Q) := by
        intro Q m
        induction m with
        | zero =>
          intro k h1 hk s1 q1 q2 q3 K
          refine sg_X9_tried_71 s1 ⟨fun _ => K _ _ (cR_tr q1 q2) rfl, fun c => absurd (by rw [en]; exact nI_le (by omega) (by omega)) c⟩
        | succ m ih =>
          intro k h1 hk s1 q1 q2 q3 K
          refine sg_X9_tried_71 s1 ⟨fun c => absurd c (by rw [en]; exact nI_ge (by omega) (by omega)), fun _ => ⟨fun c => ?_, fun c => ?_⟩⟩
          · have w1 : w ≠ 1 := fun e => c (w1x.mpr e)
            refine cl_morn (b := 82) s1 (Or.inr (Or.inr rfl)) (tdOK_E (fun k hk => q2 _ (by omega)) td') q3 (by omega) (fun h8 s8 w8 m8 => ?_)
            rw [nI_1]
            exact ih (k + 1) h8 (by omega) s8 (q1.trans w8) (fun a ha => (m8.1 a (by omega)).trans (q2 a ha)) (m8.st q3) (fun v h2 a b => K v h2 a ⟨_, _, fun _ => rfl, fun e => absurd e w1, m8, b⟩)
          · refine ⟨_, X5_clearAir_ok s1 (Or.inr (Or.inr rfl)), ?_⟩
            rintro h8 ⟨g1, g2⟩
            have f8 : ∀ a, (a < 82 ∨ 99 ≤ a) → zI h8 a = zI h a := fun a ha => (g2.1 a (by omega)).trans (q2 a ha)
            refine ⟨s1.W g1, cl_morn (b := 82) (s1.W g1) (Or.inr (Or.inr rfl)) (tdOK_E (fun k hk => f8 _ (by omega)) td') (clear_st g2 q3) (by omega) (fun h9 s9 w9 m9 => ?_)⟩
            rw [nI_1]
            exact ih (k + 1) h9 (by omega) s9 ((q1.trans g1).trans w9) (fun a ha => (m9.1 a (by omega)).trans (f8 a ha)) (m9.st (clear_st g2 q3)) (fun v h2 a b => K v h2 a ⟨_, _, fun e => absurd (w1x.mp c) e, fun _ => g2, m9, b⟩)
      refine loop _ n 0 h10 (by omega) S10 (c1.trans e1) (fun a ha => ?_) (ct_st e2 (copy_st h5 c2 (now_st hI.2.2.1))) (fun v h2 a b => ⟨a, _, _, c2, e2, b⟩)
      rw [e2.1 a (by omega) (by omega) (by omega) (by omega)]; exact c2.1 a (by omega)
    refine cn_X9_tried (sg_X9_tried_0 S1 ⟨fun c => ⟨fun c2 => absurd (hy0 c) c2, fun _ => M⟩, fun c => ?_⟩)
    obtain ⟨m, hm, em⟩ := hy3 c
    refine ⟨_, by rw [em]; exact X9_has_yes (k := 3) S1 (by decide) t3 hm (by omega), ?_⟩
    rintro v h2 ⟨rfl, rfl⟩
    exact ⟨S1, M⟩
  · rintro v h1 ⟨C, C1, kC, kc, kR⟩ k
    obtain ⟨S3, I3⟩ := P h1 k
    have M : zg G mX10_tried (d + 200) 36 [.ref 132, .int x, .int y, .int z, zU, zU] [.int 1] (zsI h1 132 0 0) (zPI (fun u h2 => u = v ∧ jR2 h1 h2)) := by
      have S4 : zSh2 (zsI (zsI (zsI h1 132 0 0) 132 48 x) 132 49 y) := S3.W (((zW.rf _).sI _ _ _).sI _ _ _)
      refine sg_X10_tried_36 S3 ⟨fun c => absurd c n10, fun _ => ⟨fun c => absurd c z0, fun _ => ⟨fun _ => ⟨_, X10_copies_ok (x := 1) (y := 0) S4 (by decide) (by decide) (by decide), ?_⟩, fun c => absurd z1 c⟩⟩⟩
      rintro h5' ⟨c1, cp⟩
      refine ⟨S4.W c1, ?_⟩
      have Z : ∀ c, c ≠ 132 → zI (zsI (zsI (zsI h1 132 0 0) 132 48 x) 132 49 y) c = zI h1 c := fun c hc => by simp only [zI_sI, zup_ne _ _ hc]
      have hi : ∀ c, 132 ≤ c → zI h1 c = zI h c := k.2.2
      have N48 : zI h5' 132 48 = nI w := by rw [cp.1 132 (by decide), zI_sI, zup_i _ _ _ (by decide), zI_sI, zup_s, ew]
      have N49 : zI h5' 132 49 = y := by rw [cp.1 132 (by decide), zI_sI, zup_s]
      have N132 : ∀ j, j ≠ 0 → j ≠ 48 → j ≠ 49 → zI h5' 132 j = zI h1 132 j := fun j a b e => by rw [cp.1 132 (by decide), zI_sI, zup_i _ _ _ e, zI_sI, zup_i _ _ _ b, zI_sI, zup_i _ _ _ a]
      have Nrow : ∀ c, 133 ≤ c → c < 151 → zI h5' c = zI h c := fun c a b => by rw [cp.1 c (by omega), Z c (by omega)]; exact hi c (by omega)
      have Q : abQ (zI h) (zI h5') 1 0 := ((abQ.rf (zI h) 0).eq (K := zI (zsI (zsI (zsI h1 132 0 0) 132 48 x) 132 49 y)) (fun c a b => by rw [Z c (by omega)]; exact hi c (by omega))).trans cp.q
      have T0 := trS_init hw h6 h6r h5 kC kc N48 N49 (Nrow 141 (by decide) (by decide)) Q hI.2.2.1
      have loop : ∀ m kk (D : Nat → Nat → Int32) (h3 : zMem), m + kk = n → trR t w ns nd nr nm m (dt + kk) D v → zSh2 h3 → zW h1 h3 → rlT (mg D (zI h3)) t ns nd nr nm → trS (mg D (zI h3)) w kk ns nr nm → mdOK (zI h3) ns nd nr nm → abOK (zI h3) 1 ns nd nr nm (dt + kk) → zI h3 132 48 = nI w → (∀ c j, c ≠ 132 → ¬ jkP c j → zI h3 c j = zI h1 c j) → (∀ j, j ≠ 0 → j ≠ 33 → j ≠ 48 → j ≠ 49 → zI h3 132 j = zI h1 132 j) → D 48 = zI h 48 → zg G mX10_tried (d + 200) 74 [.ref 132, .int x, .int y, .int z, .int 1, .int (nI kk)] [] h3 (zPI (fun u h2 => u = v ∧ jR2 h1 h2)) := by
        intro m
        induction m with
        | zero =>
          intro kk D h3 hk r s3 q1 q2 q3 q4 q5 q6 q7 q8 q9
          refine sg_X10_tried_74 s3 ⟨fun _ => ⟨?_, (q1.sI _ _ _).sI _ _ _, fun c j n1 n2 => ?_⟩, fun c => absurd (by rw [en]; exact nI_le (by omega) (by omega)) c⟩
          · have e1 : zI (zsI (zsI h3 132 48 0) 132 49 (-1)) 153 = zI h3 153 := by rw [zI_sI, zup_ne _ _ (by decide), zI_sI, zup_ne _ _ (by decide)]
            have e2 : zI h3 153 0 = zI h 153 0 := by rw [q7 153 0 (by decide) (by unfold jkP; omega), hi 153 (by decide)]
            have e3 : D 82 12 = zI h3 153 1 := by
              have := q3.2.2.1
              rw [mg_lo (by decide), mg_hi (by decide)] at this; exact this
            have e4 : D 48 12 = zI h 153 0 := by rw [q9]; exact w3
            rw [e1, e2, show v = D 82 12 - D 48 12 from r, e3, e4]
          · rw [zI_sI, zI_sI]
            by_cases ec : c = 132
            · subst ec
              have j49 : j ≠ 49 := fun e => n2 ⟨rfl, by omega⟩
              have j0 : j ≠ 0 := fun e => n1 (by unfold jkP; omega)
              have j33 : j ≠ 33 := fun e => n1 (by unfold jkP; omega)
              rw [zup_i _ _ _ j49]
              by_cases j48 : j = 48
              · subst j48; rw [zup_s, hi 132 (by decide), hI.2.1.2]
              · rw [zup_i _ _ _ j48]; exact q8 j j0 j33 j48 j49
            · rw [zup_ne _ _ ec, zup_ne _ _ ec]; exact q7 c j ec n1
        | succ m ih =>
          intro kk D h3 hk r s3 q1 q2 q3 q4 q5 q6 q7 q8 q9
          obtain ⟨D1, J, r1, r2, m1, r⟩ := r
          have pl : pln (zI h3) := by
            unfold pln
            rw [q8 50 (by decide) (by decide) (by decide) (by decide), q8 52 (by decide) (by decide) (by decide) (by decide), hi 132 (by decide)]; exact hI.2.1.1
          have e139 : zI h3 139 = zI h 139 := by funext j; rw [q7 139 j (by decide) (by unfold jkP; omega), hi 139 (by decide)]
          -- the class's cells behind the clearing
          have T1 : trS (mg D1 (zI h3)) w kk ns nr nm := by
            by_cases c : w = 1
            · exact trS_clear (r2 c) c q3
            · rw [r1 c]; exact q3
          have fr1 : ∀ a, (a < 82 ∨ 99 ≤ a) → D1 a = D a := fun a ha => by
            by_cases c : w = 1
            · exact (r2 c).1 a (by omega)
            · rw [r1 c]
          have L1 : rlT (mg D1 (zI h3)) t ns nd nr nm := rlT_E h8 (fun j hj => by rw [mg_lo (by omega), mg_lo (by omega)]; exact fr1 _ (by omega)) (fun c a b => by rw [mg_hi (by omega), mg_hi (by omega)]) q2
          have m48 : mg D1 (zI h3) 132 48 = nI w := by rw [mg_hi (by decide)]; exact q6
          have m139 : ∀ dy s, dy < nd → s < ns → ∃ n, n ≤ 99 ∧ mg D1 (zI h3) 139 (6 * dy + s) = nI n := fun dy s a b => by rw [mg_hi (by decide), e139]; exact h99 dy s a b
          have PP := trS_pre (dt := dt + kk) L1 (pln_mg pl) m48 hw h8 (by omega) m139 T1 (fun c p s hp hs => by rw [mg_lo (by omega)]; exact (r2 c).2 p s (by omega) (by omega))
          have rm1 : ∀ m, m < nm → ∃ r, r < nr ∧ D1 (82 + 11) m = nI r := fun m hm => by
            obtain ⟨r, hr, er⟩ := q5.1 m hm
            have := (T1.2.2.2.2.2.2.2.2.2.2 m hm).1
            rw [mg_lo (by decide), mg_hi (by decide)] at this
            exact ⟨r, hr, this.trans er⟩
          refine sg_X10_tried_74 s3 ⟨fun c => absurd c (by rw [en]; exact nI_ge (by omega) (by omega)), fun _ => md_pass (a := 1) s3 (by decide) q4 q5 (by omega) (fun h7 s7 w7 p7 => ?_)⟩
          have MM := mornR_mg (zI h3) (show 82 + 17 ≤ 132 by decide) (by omega) h6r h8 rm1 m1
          have RR := passR_mg J p7
          obtain ⟨Q1, Q2⟩ := morn_pass (by decide) L1 (pln_mg pl) h6 h8 h6r PP (fun m hm => by rw [mg_hi (by decide)]; exact q5.1 m hm) L1.2.2.1 MM RR
          have T2 := trS_post m48 hw (by omega) (fun s hs => by
            unfold mN
            by_cases c0 : nd = 0
            · rw [if_pos c0]; exact ⟨0, by omega, rfl⟩
            · rw [if_neg c0, mxM_pln (pln_mg pl) (by have := Nat.mod_lt (dt + kk) (show 0 < nd by omega); omega)]; exact m139 _ s (Nat.mod_lt _ (by omega)) hs) T1 Q1 Q2
          rw [nI_1]
          refine ih (kk + 1) J h7 (by omega) r s7 (q1.trans w7) (rlT_E h8 (fun j hj => ?_) (fun c a b => ?_) L1) T2 (passR_md q4 p7) (passR_ab (dt := dt + kk) q4 q5 (by omega) p7) (by rw [p7.2.1 48 (by decide)]; exact q6) (fun c j a b => by rw [p7.j1 c j b]; exact q7 c j a b) (fun j a b e f => by rw [p7.2.1 j b]; exact q8 j a b e f) (by rw [m1.1 48 (by decide), fr1 48 (by decide)]; exact q9)
          · rw [mg_lo (by omega), mg_lo (by omega)]; exact m1.1 _ (by omega)
          · rw [mg_hi (by omega), mg_hi (by omega)]; exact p7.1 c (by omega) (by omega) (by omega) (by omega) (by omega) (by omega) (by omega) (by omega) (by omega) (by omega) (by omega) (by omega)
      refine loop n 0 C1 h5' (by omega) kR (S4.W c1) ((((zW.rf h1).sI _ _ _).sI _ _ _ |>.sI _ _ _).trans c1) (rlT_E h8 (fun j hj => ?_) (fun c a b => ?_) rl) T0 (mdOK_E2 md (fun c hc => Nrow c (by omega) (by omega)) (fun j a b => by rw [N132 j (by omega) (by omega) (by omega), hi 132 (by decide)])) (abOK_Q h6 h6r h5 Q hI.2.2.1.2.1) N48 (fun c j a b => ?_) (fun j a b e f => N132 j a e f) ?_
      · rw [mg_lo (by omega), kc.1 _ (by omega) (by omega) (by omega) (by omega)]; exact kC.1 _ (by omega)
      · rw [mg_hi (by omega)]; exact Nrow c (by omega) (by omega)
      · rw [cp.j1 c j b, Z c a]
      · rw [kc.1 48 (by decide) (by decide) (by decide) (by decide)]; exact kC.1 48 (by decide)
    refine cn_X10_tried (sg_X10_tried_0 (S2.W k.1) ⟨fun c => ⟨fun c1 => absurd c1 x0, fun _ => ⟨fun c1 => absurd c1 x5, fun _ => ⟨fun c1 => absurd (hy0 c) c1, fun _ => M⟩⟩⟩, fun c => ?_⟩)
    obtain ⟨m, hm, em⟩ := hy3 c
    refine ⟨_, by rw [em]; exact X10_isMonk_yes S3 I3.1.2.1.2.2.2.1 hm (by omega), ?_⟩
    rintro v' h2 ⟨rfl, rfl⟩
    exact ⟨S3, M⟩
