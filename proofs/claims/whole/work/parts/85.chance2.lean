/-! mornings by chance: class and model alike -/
set_option maxHeartbeats 4000000 in
theorem pr_chance {G : zG} {d : Nat} {h : zMem} (hOK : zOK h) (x y z : Int32) : pairX G mX9_chance mX10_chance (d + 200) [.ref 0, .int x, .int y, .int z] [.ref 132, .int x, .int y, .int z] h := by
  have hOK' := hOK
  obtain ⟨t, ns, nd, nr, nm, dt, u, nn, tp, S1, S2, h174, hI⟩ := hOK'
  obtain ⟨td, md, rl, -⟩ := hI.1
  have td' := td
  obtain ⟨t0, t1, t2, t3, h6, h8, h6r, h5, hlw⟩ := td
  have hdt : dt ≤ 9999 := hI.2.2.1.2.2.2
  have tn : t = 8 ∨ t = 103 := S1.2.1
  have w3 := (now0 hI.2.2.1.1).2.2.1
  by_cases bad : x < 0 ∨ y < 1 ∨ (40 : Int32) < y ∨ z < 0 ∨ (40 : Int32) < z ∨ ns = 0
  · refine pairI.x (pair_ro hOK (-1) ?_ (fun h1 k => ?_))
    · refine cn_X9_chance (sg_X9_chance_0 S1 ?_)
      rw [t0]
      refine ⟨fun _ => ⟨rfl, cR.rf _⟩, fun c1 => ⟨fun _ => ⟨rfl, cR.rf _⟩, fun c2 => ⟨fun _ => ⟨rfl, cR.rf _⟩, fun c3 => ⟨fun _ => ⟨rfl, cR.rf _⟩, fun c4 => ⟨fun _ => ⟨rfl, cR.rf _⟩, fun c5 => ⟨fun c6 => ?_, fun _ => ⟨rfl, cR.rf _⟩⟩⟩⟩⟩⟩⟩
      rcases bad with e | e | e | e | e | e
      · exact absurd e c1
      · exact absurd e c2
      · exact absurd e c3
      · exact absurd e c4
      · exact absurd e c5
      · exact absurd (by rw [e]; rfl) c6
    · refine cn_X10_chance (sg_X10_chance_0 (S2.W k.1) ?_)
      rw [k.eT.1 134 (by decide), md.1]
      refine ⟨fun _ => ⟨rfl, jR.thr h1⟩, fun c1 => ⟨fun _ => ⟨rfl, jR.thr h1⟩, fun c2 => ⟨fun _ => ⟨rfl, jR.thr h1⟩, fun c3 => ⟨fun _ => ⟨rfl, jR.thr h1⟩, fun c4 => ⟨fun _ => ⟨rfl, jR.thr h1⟩, fun c5 => ⟨fun c6 => ?_, fun _ => ⟨rfl, jR.thr h1⟩⟩⟩⟩⟩⟩⟩
      rcases bad with e | e | e | e | e | e
      · exact absurd e c1
      · exact absurd e c2
      · exact absurd e c3
      · exact absurd e c4
      · exact absurd e c5
      · exact absurd (by rw [e]; rfl) c6
  have b1 : ¬ x < 0 := fun e => bad (Or.inl e)
  have b2 : ¬ y < 1 := fun e => bad (Or.inr (Or.inl e))
  have b3 : ¬ (40 : Int32) < y := fun e => bad (Or.inr (Or.inr (Or.inl e)))
  have b4 : ¬ z < 0 := fun e => bad (Or.inr (Or.inr (Or.inr (Or.inl e))))
  have b5 : ¬ (40 : Int32) < z := fun e => bad (Or.inr (Or.inr (Or.inr (Or.inr (Or.inl e)))))
  have ns0 : 0 < ns := Nat.pos_of_ne_zero fun e => bad (Or.inr (Or.inr (Or.inr (Or.inr (Or.inr e)))))
  obtain ⟨seed, hseed, rfl⟩ := nI_of b1
  obtain ⟨n, n1, n40, rfl⟩ := zrange (lo := 1) (hi := 40) (a := 1) (b := 40) (by decide) (by decide) b2 b3
  have nsn : ¬ nI ns = 0 := nI_ne0 ns0 (by omega)
  refine ⟨fun v h1 => zV h h1 ∧ (∀ a, (a < 82 ∨ 99 ≤ a) → zI h1 a = zI h a) ∧ caR (zI h) t ns nd nr nm dt n z 10 seed 0 v, fun _ => jR2, ?_, ?_⟩
  · refine cn_X9_chance (sg_X9_chance_0 S1 ?_)
    rw [t0]
    refine ⟨fun c => absurd c b1, fun _ => ⟨fun c => absurd c b2, fun _ => ⟨fun c => absurd c b3, fun _ => ⟨fun c => absurd c b4, fun _ => ⟨fun c => absurd c b5, fun _ => ⟨fun _ => ⟨fun h' => h' = zsL h 99 0 (nI seed).toInt64, cn_X2_begin (sg_X2_begin_0 S1 rfl), ?_⟩, fun c => absurd c nsn⟩⟩⟩⟩⟩⟩
    rintro h8 rfl
    have S8 : zSh1 (zsL h 99 0 (nI seed).toInt64) t := S1.V ⟨rfl, rfl⟩
    refine ⟨S8, ?_⟩
    have inner : ∀ (Q : Int32 → zMem → Prop) (c r : Nat) m k l (h1 : zMem), m + k = n → l < 2147483648 → zSh1 h1 t → zV h h1 → (∀ a, (a < 82 ∨ 99 ≤ a) → zI h1 a = zI h a) → zL h1 99 0 = lN l → stOK (zI h1) 82 nd nr nm (dt + k) → (∀ J l' h2, l' < 2147483648 → zSh1 h2 t → zV h h2 → (∀ a, (a < 82 ∨ 99 ≤ a) → zI h2 a = zI h a) → zL h2 99 0 = lN l' → zI h2 = J → chR t ns nd nr nm m (dt + k) l (zI h1) J l' → (J 82 12 - J 48 12 < z → zg G mX9_chance (d + 200) 53 [.ref 0, .int (nI seed), .int (nI n), .int z, .int (nI c), .int (nI (r + 1)), zU] [] h2 (zPI Q)) ∧ (¬ J 82 12 - J 48 12 < z → zg G mX9_chance (d + 200) 53 [.ref 0, .int (nI seed), .int (nI n), .int z, .int (nI (c + 1)), .int (nI (r + 1)), zU] [] h2 (zPI Q))) → zg G mX9_chance (d + 200) 74 [.ref 0, .int (nI seed), .int (nI n), .int z, .int (nI c), .int (nI r), .int (nI k)] [] h1 (zPI Q) := by
      intro Q c r m
      induction m with
      | zero =>
        intro k l h1 hk hl s1 q1 q2 q3 q4 K
        refine sg_X9_chance_74 s1 ?_
        simp only [nI_1]
        exact ⟨fun _ => K (zI h1) l h1 hl s1 q1 q2 q3 rfl ⟨rfl, rfl⟩, fun c => absurd (nI_le (by omega) (by omega)) c⟩
      | succ m ih =>
        intro k l h1 hk hl s1 q1 q2 q3 q4 K
        refine sg_X9_chance_74 s1 ?_
        simp only [nI_1]
        refine ⟨fun c => absurd c (nI_ge (by omega) (by omega)), fun _ => ⟨_, X9_blowByChance_ok s1 (by rw [q2 (t + 1) (by omega)]; exact t0) h6 ns0 q3 hl, ?_⟩⟩
        rintro h4 ⟨g1, g2, g3⟩
        have s4 := s1.V g1
        have f4 : ∀ a, (a < 82 ∨ 99 ≤ a) → zI h4 a = zI h a := fun a ha => by rw [g2, blC_ne (by omega)]; exact q2 a ha
        have st4 : stOK (zI h4) 82 nd nr nm (dt + k) := by rw [g2]; exact bl_st q4
        refine ⟨s4, cl_morn (b := 82) s4 (Or.inr (Or.inr rfl)) (tdOK_E (fun k hk => f4 _ (by omega)) td') st4 (by omega) (fun h7 s7 w7 m7 => ?_)⟩
        refine ih (k + 1) (blN l) h7 (by omega) (blN_lt l) s7 ((q1.trans g1).trans w7.v) (fun a ha => (m7.1 a (by omega)).trans (f4 a ha)) (by rw [w7.1.2]; exact g3) (m7.st st4) (fun J l' h2 a1 a2 a3 a4 a5 a6 a7 => K J l' h2 a1 a2 a3 a4 a5 a6 ⟨zI h7, by rw [g2] at m7; exact m7, a7⟩)
    have outer : ∀ (Q : Int32 → zMem → Prop) m r l c (h1 : zMem), m + r = 10 → l < 2147483648 → zSh1 h1 t → zV h h1 → (∀ a, (a < 82 ∨ 99 ≤ a) → zI h1 a = zI h a) → zL h1 99 0 = lN l → (∀ v h2, zV h h2 → (∀ a, (a < 82 ∨ 99 ≤ a) → zI h2 a = zI h a) → caR (zI h) t ns nd nr nm dt n z m l c v → Q v h2) → zg G mX9_chance (d + 200) 53 [.ref 0, .int (nI seed), .int (nI n), .int z, .int (nI c), .int (nI r), zU] [] h1 (zPI Q) := by
      intro Q m
      induction m with
      | zero =>
        intro r l c h1 hr hl s1 q1 q2 q3 K
        exact sg_X9_chance_53 s1 ⟨fun _ => K _ _ q1 q2 rfl, fun c => absurd (show nI 10 ≤ nI r from nI_le (by omega) (by omega)) c⟩
      | succ m ih =>
        intro r l c h1 hr hl s1 q1 q2 q3 K
        refine sg_X9_chance_53 s1 ⟨fun c => absurd (show nI 10 ≤ nI r from c) (nI_ge (by omega) (by decide)), fun _ => ⟨_, X5_copy_ok s1 (Or.inr (Or.inr rfl)) (Or.inl rfl) (by decide), ?_⟩⟩
        rintro h3 ⟨c1, c2⟩
        have cl := clQ_E c2.q q2
        have f3 : ∀ a, (a < 82 ∨ 99 ≤ a) → zI h3 a = zI h a := fun a ha => (c2.1 a (by omega)).trans (q2 a ha)
        refine ⟨s1.W c1, inner Q c r n 0 l h3 (by omega) hl (s1.W c1) (q1.trans c1.v) f3 (by rw [c1.1.2]; exact q3) (cl_st h5 cl (now_st hI.2.2.1)) (fun J l' h2 a1 a2 a3 a4 a5 a6 a7 => ⟨fun c' => ih (r + 1) l' c h2 (by omega) a1 a2 a3 a4 a5 (fun v h5' e1 e2 e3 => K v h5' e1 e2 ⟨zI h3, J, l', cl, f3, a7, fun _ => e3, fun q => absurd c' q⟩), fun c' => ih (r + 1) l' (c + 1) h2 (by omega) a1 a2 a3 a4 a5 (fun v h5' e1 e2 e3 => K v h5' e1 e2 ⟨zI h3, J, l', cl, f3, a7, fun q => absurd q c', fun _ => e3⟩)⟩)⟩
    exact outer _ 10 0 seed 0 _ (by omega) hseed S8 ⟨rfl, rfl⟩ (fun _ _ => rfl) (by rw [zL_sL, zup_s]; exact nI_l hseed) (fun v h2 a b c => ⟨a, b, c⟩)
  · rintro v h1 ⟨kv, kf, kR⟩
    have jE1 : jE (zI h) (zI h1) := fun c j hn => by rw [kf c (by unfold jkP at hn; omega)]
    have ok1 : zOK h1 := ⟨t, ns, nd, nr, nm, dt, u, nn, tp, S1.V kv, S2.V kv, kv.out h174, zInv_j S1.2.1 hI jE1⟩
    refine ⟨ok1.bs, ?_, fun h2 j => ok1.j2 j⟩
    have s1 : zSh2 h1 := S2.V kv
    have s3 : zSh2 (zsI h1 132 0 0) := s1.W ((zW.rf _).sI _ _ _)
    have E : eT (zI h) (zI (zsI h1 132 0 0)) := ⟨fun c hc => by rw [zI_sI, zup_ne _ _ (by omega)]; exact kf c (by omega), fun j hj => by rw [zI_sI, zup_i _ _ _ hj, kf 132 (by omega)]⟩
    refine cn_X10_chance (sg_X10_chance_0 s1 ?_)
    rw [E.1 134 (by decide), md.1]
    refine ⟨fun c => absurd c b1, fun _ => ⟨fun c => absurd c b2, fun _ => ⟨fun c => absurd c b3, fun _ => ⟨fun c => absurd c b4, fun _ => ⟨fun c => absurd c b5, fun _ => ⟨fun _ => ?_, fun c => absurd c nsn⟩⟩⟩⟩⟩⟩
    obtain ⟨Q, hQ⟩ : ∃ Q : Int32 → zMem → Prop, Q = (fun w h2 => w = v ∧ jR2 h1 h2) := ⟨_, rfl⟩
    rw [← hQ]
    have row : ∀ {h3 : zMem}, jR h1 h3 → ∀ c, 133 ≤ c → c ≤ 150 → zI h3 c = zI h c := fun j c a b => by rw [j.2.row (by omega)]; exact kf c (by omega)
    have inner : ∀ (c r : Nat) (J : Nat → Nat → Int32) (l' : Nat), (∀ h2, zSh2 h2 → jR h1 h2 → zI h2 155 1 = nI l' → zI h2 153 1 - zI h2 153 0 = J 82 12 - J 48 12 → (J 82 12 - J 48 12 < z → zg G mX10_chance (d + 200) 50 [.ref 132, .int (nI seed), .int (nI n), .int z, .int (nI l'), .int (nI c), .int (nI (r + 1)), zU] [] h2 (zPI Q)) ∧ (¬ J 82 12 - J 48 12 < z → zg G mX10_chance (d + 200) 50 [.ref 132, .int (nI seed), .int (nI n), .int z, .int (nI l'), .int (nI (c + 1)), .int (nI (r + 1)), zU] [] h2 (zPI Q))) →
        ∀ m k l (x4 : Int32) D (h3 : zMem), m + k = n → chR t ns nd nr nm m (dt + k) l D J l' → zSh2 h3 → jR h1 h3 → rnI D (zI h3) 82 t 1 ns nd nr nm (dt + k) → zI h3 155 1 = nI l → D 48 = zI h 48 → zg G mX10_chance (d + 200) 74 [.ref 132, .int (nI seed), .int (nI n), .int z, .int x4, .int (nI c), .int (nI r), .int (nI k)] [] h3 (zPI Q) := by
      intro c r J l' K m
      induction m with
      | zero =>
        intro k l x4 D h3 hk rr s3 q1 q2 q3 q4
        obtain ⟨rfl, rfl⟩ := rr
        have e1 : zI h3 153 1 = J 82 12 := by
          have := q2.2.2.2.1.2.2.1
          rw [mg_lo (by decide), mg_hi (by decide)] at this; exact this.symm
        have e0 : zI h3 153 0 = J 48 12 := by rw [q1.2 153 0 (by unfold jkP; omega), kf 153 (by omega), q4]; exact w3.symm
        have ed : zI h3 153 1 - zI h3 153 0 = J 82 12 - J 48 12 := by rw [e1, e0]
        obtain ⟨K1, K2⟩ := K h3 s3 q1 q3 ed
        refine sg_X10_chance_74 s3 ?_
        rw [ed, q3]
        simp only [nI_1, i32_add0]
        exact ⟨fun _ => ⟨K1, K2⟩, fun c => absurd (nI_le (by omega) (by omega)) c⟩
      | succ m ih =>
        intro k l x4 D h3 hk rr s3 q1 q2 q3 q4
        obtain ⟨D2, m1, rr⟩ := rr
        have dl := dv_lt l
        have dl2 := dv_lt (nxt l)
        -- behind the winds
        have go : ∀ h4, zSh2 h4 → jR h1 h4 → rnI (blC ns l D) (zI h4) 82 t 1 ns nd nr nm (dt + k) → zI h4 155 1 = nI (blN l) → ∃ Q8 : zMem → Prop, zConV G mX10_passes (d + 199) [.ref 132, .int (nI 1)] h4 Q8 ∧ (∀ h9, Q8 h9 → zSh2 h9 ∧ zg G mX10_chance (d + 200) 74 [.ref 132, .int (nI seed), .int (nI n), .int z, .int x4, .int (nI c), .int (nI r), .int (nI (k + 1))] [] h9 (zPI Q)) := by
          intro h4 s4 j4 r4 e4
          refine md_pass (a := 1) s4 (by decide) r4.2.2.2.2.1 r4.2.2.2.2.2 (by omega) (fun h7 s7 w7 p7 => ?_)
          obtain ⟨st, po, fr⟩ := rnI.step (Or.inr (Or.inr rfl)) S1.2.1 h6 h8 h6r (by omega) r4 m1 p7
          refine ih (k + 1) (blN l) x4 D2 h7 (by omega) rr s7 (j4.trans ⟨w7, p7.j1⟩) st ?_ ?_
          · rw [p7.1 155 (by decide) (by decide) (by decide) (by decide) (by decide) (by decide) (by decide) (by decide) (by decide) (by decide) (by decide) (by decide)]; exact e4
          · rw [m1.1 48 (by decide), blC_ne (by decide)]; exact q4
        refine sg_X10_chance_74 s3 ?_
        simp only [nI_1]
        refine ⟨fun c => absurd c (nI_ge (by omega) (by omega)), fun _ => ⟨_, X10_draw_ok (bl := 4) s3 q3 (by decide) (by decide), ?_⟩⟩
        rintro w h4 ⟨rfl, rfl⟩
        have w4 : zW h3 (zsI h3 155 1 (nI (nxt l))) := (zW.rf _).sI _ _ _
        have s4 := s3.W w4
        have j4 : jR h1 (zsI h3 155 1 (nI (nxt l))) := q1.trans ⟨w4, by rw [zI_sI]; exact (jE.rf _).up (by unfold jkP; omega)⟩
        have r4 : rnI D (zI (zsI h3 155 1 (nI (nxt l)))) 82 t 1 ns nd nr nm (dt + k) := rnI_155 S1.2.1 h8 q2 (fun c hc => by rw [zI_sI, zup_ne _ _ hc])
        refine ⟨s4, fun cz => ?_, fun cz => ?_⟩
        · have hz : ¬ dv l % 4 = 0 := fun e => cz (by rw [e]; rfl)
          refine go _ s4 j4 ?_ ?_
          · unfold blC; rw [if_neg hz]; exact r4
          · unfold blN; rw [if_neg hz, zI_sI, zup_s]
        · have hz : dv l % 4 = 0 := Nat.eq_zero_of_not_pos (fun p => nI_ne0 p (by omega) cz)
          rw [row j4 134 (by decide) (by decide), md.1]
          refine ⟨_, X10_draw_ok (bl := ns) s4 (by rw [zI_sI, zup_s]) ns0 (by omega), ?_⟩
          rintro w h12 ⟨rfl, rfl⟩
          have hlt := Nat.mod_lt (dv (nxt l)) ns0
          obtain ⟨h5', e5⟩ : ∃ h5', h5' = zsI (zsI h3 155 1 (nI (nxt l))) 155 1 (nI (nxt (nxt l))) := ⟨_, rfl⟩
          rw [← e5, show (6 : Int32) + nI (dv (nxt l) % ns) = nI (6 + dv (nxt l) % ns) from nI_add 6 _, zcla (show 6 + dv (nxt l) % ns < 2 ^ 31 by omega)]
          have w5 : zW h3 h5' := by rw [e5]; exact w4.sI _ _ _
          have s5 := s3.W w5
          have r5 : rnI D (zI h5') 82 t 1 ns nd nr nm (dt + k) := rnI_155 S1.2.1 h8 q2 (fun c hc => by rw [e5, zI_sI, zup_ne _ _ hc, zI_sI, zup_ne _ _ hc])
          have r6 := rnI_bump (s0 := dv (nxt l) % ns) (v := 9) S1.2.1 h6 h8 (by omega) ⟨9, by omega, rfl⟩ r5
          refine ⟨s5, zin_n (by omega) (by decide), go (zsI h5' 157 (6 + dv (nxt l) % ns) 9) (s5.W ((zW.rf _).sI _ _ _)) (q1.trans ⟨w5.sI _ _ _, ?_⟩) ?_ ?_⟩
          · rw [zI_sI, e5, zI_sI, zI_sI]; exact (((jE.rf _).up (by unfold jkP; omega)).up (by unfold jkP; omega)).up (by unfold jkP; omega)
          · unfold blC; rw [if_pos hz, zI_sI]; exact r6
          · unfold blN; rw [if_pos hz, zI_sI, zup_ne _ _ (by decide), e5, zI_sI, zup_s]
    have outer : ∀ m r l c (h3 : zMem), m + r = 10 → caR (zI h) t ns nd nr nm dt n z m l c v → zSh2 h3 → jR h1 h3 → zg G mX10_chance (d + 200) 50 [.ref 132, .int (nI seed), .int (nI n), .int z, .int (nI l), .int (nI c), .int (nI r), zU] [] h3 (zPI Q) := by
      intro m
      induction m with
      | zero =>
        intro r l c h3 hr rr s3 q1
        refine sg_X10_chance_50 s3 ⟨fun _ => ?_, fun c => absurd (show nI 10 ≤ nI r from nI_le (by omega) (by omega)) c⟩
        rw [hQ]; exact ⟨rr.symm, q1.two⟩
      | succ m ih =>
        intro r l c h3 hr rr s3 q1
        obtain ⟨C, J, l', k1, k2, k3, k4, k5⟩ := rr
        refine sg_X10_chance_50 s3 ⟨fun c => absurd (show nI 10 ≤ nI r from c) (nI_ge (by omega) (by decide)), fun _ => ⟨_, X10_copies_ok (x := 1) (y := 0) s3 (by decide) (by decide) (by decide), ?_⟩⟩
        rintro h4 ⟨c1, cp⟩
        have s4 := s3.W c1
        have E0 : eT (zI h) (zI h1) := ⟨fun c hc => kf c (by omega), fun j _ => by rw [kf 132 (by omega)]⟩
        have r0 := tr_init2 S1.2.1 hI k1 (fun k hk => k2 _ (by omega)) E0 q1.2 cp
        refine ⟨s4, inner c r J l' (fun h2 a1 a2 a3 a4 => ⟨fun c' => ih (r + 1) l' c h2 (by omega) (k4 c') a1 a2, fun c' => ih (r + 1) l' (c + 1) h2 (by omega) (k5 c') a1 a2⟩) n 0 l (nI l) C _ (by omega) k3 (s4.W ((zW.rf _).sI _ _ _)) (q1.trans ⟨c1.sI _ _ _, ?_⟩) (rnI_155 S1.2.1 h8 r0 (fun c hc => by rw [zI_sI, zup_ne _ _ hc])) (by rw [zI_sI, zup_s]) (k2 48 (by decide))⟩
        rw [zI_sI]; exact cp.j1.up (by unfold jkP; omega)
    exact outer 10 0 seed 0 _ (by omega) kR s3 ⟨(zW.rf _).sI _ _ _, by rw [zI_sI]; exact (jE.rf _).up (by unfold jkP; omega)⟩
