/-! calls that only read, third part: law, count, needs, dearest -/
theorem ite1 {A : Prop} [Decidable A] (c : ¬ (if A then (1 : Int32) else 0) = 0) : A := by
  by_cases q : A
  · exact q
  · rw [if_neg q] at c; exact absurd rfl c
theorem ite0 {A : Prop} [Decidable A] (c : (if A then (1 : Int32) else 0) = 0) : ¬ A := by
  intro q
  rw [if_pos q] at c; exact absurd c (by decide)
theorem lw_tail {G : zG} {d : Nat} {h : zMem} (hS : zSh2 h) (hl : mlOK (zI h)) {r : Nat} (hr : r < 3) (hh : zI h 145 r < zI h 146 r) (nm : Nat → Int64) (hnm : ∀ k, k < 7 → zL h 149 k = nm k) (hb : ∀ k, k < 7 → bnd (nm k)) {Q : Int64 → zMem → Prop} (hQ : ∀ h', zW h h' → mE (zI h) (zI h') → Q (lwM (zI h) r nm) h') : ∃ Q7 : Int32 → zMem → Prop, zConI G mX10_comesOut (d + 2) [.ref 132, .int (nI r)] h Q7 ∧ (∀ v h8, Q7 v h8 → zSh2 h8 ∧ (v = 0 → Q (-9223372036854775808 : Int64) h8) ∧ (¬ v = 0 → Q (zL h8 150 0) h8)) := by
  obtain ⟨fr, to, e1, e2, h1, h3, h4, h5⟩ := lwM_co hl hr hb hh
  refine ⟨_, X10_comesOut_ok hS (by omega) e1 e2 h1 h3 nm hnm h4, ?_⟩
  rintro v h7 ⟨w1, w2, w3⟩
  refine ⟨hS.W w1, fun c => ?_, fun c => ?_⟩
  · rcases w3 with ⟨-, q⟩ | ⟨w, q, -⟩
    · rcases h5 with ⟨-, z⟩ | ⟨v', z1, -⟩
      · have := hQ h7 w1 w2
        rw [z] at this; exact this
      · rw [z1] at q; exact absurd q (by simp)
    · rw [q] at c; exact absurd c (by decide)
  · rcases w3 with ⟨q, -⟩ | ⟨w, -, q1, q2⟩
    · exact absurd q c
    · rcases h5 with ⟨z, -⟩ | ⟨v', z1, z2, z3⟩
      · rw [z] at q1; exact absurd q1 (by simp)
      · rw [z1] at q1
        have : v' = w := Option.some.inj q1
        subst this
        have := hQ h7 w1 w2
        rw [z2] at this; rw [q2]; exact this
theorem lwM_no {I : Nat → Nat → Int32} {r : Nat} {nm : Nat → Int64} (h : ¬ I 145 r < I 146 r) : lwM I r nm = cERR := by unfold lwM; rw [if_neg h]
set_option maxHeartbeats 2000000 in
theorem pr_law {G : zG} {d : Nat} {h : zMem} (hOK : zOK h) (x y z : Int32) : pairL G mX9_law mX10_law (d + 200) [.ref 0, .int x, .int y, .int z] [.ref 132, .int x, .int y, .int z] h := by
  have hOK' := hOK
  obtain ⟨t, ns, nd, nr, nm, dt, u, nn, tp, S1, S2, -, hI⟩ := hOK'
  obtain ⟨td, md, rl, -⟩ := hI.1
  obtain ⟨t0, t1, t2, t3, h6, h8, h6r, h5, hlw⟩ := td
  obtain ⟨w1, w2, w3, w4, w5, w6, w7, w8⟩ := now0 hI.2.2.1.1
  have rl7 := rl.2.2.2.2.2.2
  have P : ∀ h1, cR h h1 → zSh2 (zsI h1 132 0 0) ∧ zInv (zI (zsI h1 132 0 0)) t ns nd nr nm dt u nn tp := fun h1 k => ⟨S2.W k.thr.1, zInv_j S1.2.1 hI k.thr.2⟩
  by_cases x0 : x = 0
  · subst x0
    rcases ix_or y (n := nr) (by omega) with q | ⟨p, hp, rfl⟩
    · refine pair_roL hOK cERR ?_ (fun h1 k => ?_)
      · refine cn_X9_law (sg_X9_law_0 S1 ⟨fun _ => ⟨_, X9_has_no (k := 2) S1 (by decide) t2 q, ?_⟩, fun c => absurd c (by decide), fun c => absurd c (by decide), fun c => absurd rfl c⟩)
        rintro v h2 ⟨rfl, rfl⟩
        exact ⟨S1, fun _ => ⟨rfl, cR.rf _⟩, fun c => absurd rfl c⟩
      · obtain ⟨S3, I3⟩ := P h1 k
        refine cn_X10_law (sg_X10_law_0 (S2.W k.1) ⟨fun c => absurd c (by decide), fun _ => ⟨fun c => absurd c (by decide), fun _ => ⟨_, X10_hasLaw_ok (r := 0) S3 (by decide), ?_⟩⟩⟩)
        rintro v h4 ⟨rfl, rfl⟩
        refine ⟨S3, fun c => ⟨fun c0 => absurd rfl c0, fun _ => ⟨_, X10_isRoom_no S3 I3.1.2.1.2.2.1 q, ?_⟩⟩, fun _ => ⟨rfl, jR.thr h1⟩⟩
        rintro v h5 ⟨rfl, rfl⟩
        exact ⟨S3, fun _ => ⟨rfl, jR.thr h1⟩, fun c => absurd rfl c⟩
    · rcases ix_or z (n := ns) (by omega) with q | ⟨s, hs, rfl⟩
      · refine pair_roL hOK cERR ?_ (fun h1 k => ?_)
        · refine cn_X9_law (sg_X9_law_0 S1 ⟨fun _ => ⟨_, X9_has_yes (k := 2) S1 (by decide) t2 hp (by omega), ?_⟩, fun c => absurd c (by decide), fun c => absurd c (by decide), fun c => absurd rfl c⟩)
          rintro v h2 ⟨rfl, rfl⟩
          refine ⟨S1, fun c => absurd c n10, fun _ => ⟨_, X9_has_no (k := 0) S1 (by decide) t0 q, ?_⟩⟩
          rintro v h2' ⟨rfl, rfl⟩
          exact ⟨S1, fun _ => ⟨rfl, cR.rf _⟩, fun c => absurd rfl c⟩
        · obtain ⟨S3, I3⟩ := P h1 k
          refine cn_X10_law (sg_X10_law_0 (S2.W k.1) ⟨fun c => absurd c (by decide), fun _ => ⟨fun c => absurd c (by decide), fun _ => ⟨_, X10_hasLaw_ok (r := 0) S3 (by decide), ?_⟩⟩⟩)
          rintro v h4 ⟨rfl, rfl⟩
          refine ⟨S3, fun c => ⟨fun c0 => absurd rfl c0, fun _ => ⟨_, X10_isRoom_yes S3 I3.1.2.1.2.2.1 hp (by omega), ?_⟩⟩, fun _ => ⟨rfl, jR.thr h1⟩⟩
          rintro v h5 ⟨rfl, rfl⟩
          refine ⟨S3, fun c => absurd c n10, fun _ => ⟨fun _ => ⟨fun c => absurd c (by decide), fun _ => ⟨_, X10_isStuff_no S3 I3.1.2.1.1 q, ?_⟩⟩, fun c => absurd c (by decide)⟩⟩
          rintro v h5 ⟨rfl, rfl⟩
          exact ⟨S3, fun c => absurd rfl c, fun _ => ⟨rfl, jR.thr h1⟩⟩
      · refine pair_roL hOK (lwM (zI h) 0 (nmF 0 (zI h 141 p) (zI h 158 (6 * p + s)) (zI h 157 s) (zI h 151 0) (nI p) 0)) ?_ (fun h1 k => ?_)
        · refine cn_X9_law (sg_X9_law_0 S1 ⟨fun _ => ⟨_, X9_has_yes (k := 2) S1 (by decide) t2 hp (by omega), ?_⟩, fun c => absurd c (by decide), fun c => absurd c (by decide), fun c => absurd rfl c⟩)
          rintro v h2 ⟨rfl, rfl⟩
          refine ⟨S1, fun c => absurd c n10, fun _ => ⟨_, X9_has_yes (k := 0) S1 (by decide) t0 hs (by omega), ?_⟩⟩
          rintro v h2' ⟨rfl, rfl⟩
          refine ⟨S1, fun c => absurd c n10, fun _ => ⟨_, X5_airLaw_ok (b := 48) S1 (Or.inl rfl) S1.2.1 (show p < 6 by omega) (show s < 6 by omega) hlw 0, ?_⟩⟩
          rintro v h3 ⟨rfl, q⟩
          refine ⟨S1.F q, ?_, q.k⟩
          unfold airLawV
          rw [w6 p hp, w7 p s hp hs, (w5 s hs).2, w1]
          exact lawV_lwM rl7 (by decide)
        · obtain ⟨S3, I3⟩ := P h1 k
          refine cn_X10_law (sg_X10_law_0 (S2.W k.1) ⟨fun c => absurd c (by decide), fun _ => ⟨fun c => absurd c (by decide), fun _ => ⟨_, X10_hasLaw_ok (r := 0) S3 (by decide), ?_⟩⟩⟩)
          rintro v h4 ⟨rfl, rfl⟩
          refine ⟨S3, fun c => ⟨fun c0 => absurd rfl c0, fun _ => ⟨_, X10_isRoom_yes S3 I3.1.2.1.2.2.1 hp (by omega), ?_⟩⟩, fun c => ⟨?_, jR.thr h1⟩⟩
          · rintro v h5 ⟨rfl, rfl⟩
            refine ⟨S3, fun c => absurd c n10, fun _ => ⟨fun _ => ⟨fun c => absurd c (by decide), fun _ => ⟨_, X10_isStuff_yes S3 I3.1.2.1.1 hs (by omega), ?_⟩⟩, fun c => absurd c (by decide)⟩⟩
            rintro v h5 ⟨rfl, rfl⟩
            refine ⟨S3, fun _ => ?_, fun c => absurd c n10⟩
            refine sg_X10_law_68 S3 ⟨fun c => absurd rfl c, fun _ => ⟨_, X10_partIn_ok S3 (show p < 12 by omega), ?_⟩⟩
            rintro v h5 ⟨rfl, rfl⟩
            rw [ix6, zcla (show 6 * p + s < 2 ^ 31 by omega), zcla (show s < 2 ^ 31 by omega)]
            refine ⟨S3, zin_n (by omega) (by decide), zin_n (by omega) (by decide), _, X10_calls_ok (a := 0) S3 (by decide) _ _ _ _ _ _, ?_⟩
            rintro h6' ⟨f1, f2⟩
            have hI6 : zI h6' = zI (zsI h1 132 0 0) := f1.2.2
            have S6 := S3.F f1
            refine ⟨S6, lw_tail (r := 0) (Q := fun v h2 => v = lwM (zI h) 0 (nmF 0 (zI h 141 p) (zI h 158 (6 * p + s)) (zI h 157 s) (zI h 151 0) (nI p) 0) ∧ jR h1 h2) S6 (by rw [hI6]; exact I3.1.2.1.2.2.2.2.2.2.2.2.1) (by decide) (by rw [hI6]; exact ite1 c) _ f2 (fun k _ => bnd_nmF _ _ _ _ _ _ _ k) (fun h' z1 z2 => ⟨?_, ?_⟩)⟩
            · rw [hI6, k.eT.lw, k.eT.1 158 (by decide), k.eT.1 157 (by decide), k.eT.1 151 (by decide)]
              have : ptM (zI (zsI h1 132 0 0)) p = zI h 141 p := by unfold ptM; rw [k.eT.2 48 (by decide), hI.2.1.2, k.eT.1 141 (by decide)]; rfl
              rw [this]
            · exact ((jR.thr h1).trans f1.k.j).mE z1 z2
          · have c' := ite0 c
            rw [k.eT.1 145 (by decide), k.eT.1 146 (by decide)] at c'
            rw [lwM_no c']
  by_cases x1 : x = 1
  · subst x1
    rcases ix_or y (n := nm) (by omega) with q | ⟨m, hm, rfl⟩
    · refine pair_roL hOK cERR ?_ (fun h1 k => ?_)
      · refine cn_X9_law (sg_X9_law_0 S1 ⟨fun c => absurd c (by decide), fun _ => ⟨_, X9_has_no (k := 3) S1 (by decide) t3 q, ?_⟩, fun c => absurd c (by decide), fun _ c => absurd rfl c⟩)
        rintro v h2 ⟨rfl, rfl⟩
        exact ⟨S1, fun _ => ⟨rfl, cR.rf _⟩, fun c => absurd rfl c⟩
      · obtain ⟨S3, I3⟩ := P h1 k
        refine cn_X10_law (sg_X10_law_0 (S2.W k.1) ⟨fun c => absurd c (by decide), fun _ => ⟨fun c => absurd c (by decide), fun _ => ⟨_, X10_hasLaw_ok (r := 1) S3 (by decide), ?_⟩⟩⟩)
        rintro v h4 ⟨rfl, rfl⟩
        refine ⟨S3, fun c => ⟨fun _ => ⟨fun c => absurd rfl c, fun _ => ⟨_, X10_isMonk_no S3 I3.1.2.1.2.2.2.1 q, ?_⟩⟩, fun c => absurd c (by decide)⟩, fun _ => ⟨rfl, jR.thr h1⟩⟩
        rintro v h5 ⟨rfl, rfl⟩
        exact ⟨S3, fun _ => ⟨rfl, jR.thr h1⟩, fun c => absurd rfl c⟩
    · obtain ⟨r, hr, er⟩ := (ab0 hI.2.2.1.2.1).1 m hm
      refine pair_roL hOK (lwM (zI h) 1 (nmF 0 (zI h 141 r) 0 0 (zI h 151 0) (nI r) (zI h 144 m))) ?_ (fun h1 k => ?_)
      · refine cn_X9_law (sg_X9_law_0 S1 ⟨fun c => absurd c (by decide), fun _ => ⟨_, X9_has_yes (k := 3) S1 (by decide) t3 hm (by omega), ?_⟩, fun c => absurd c (by decide), fun _ c => absurd rfl c⟩)
        rintro v h2 ⟨rfl, rfl⟩
        rw [zcla (show m < 2 ^ 31 by omega), (w8 m hm).1, er]
        refine ⟨S1, fun c => absurd c n10, fun _ => ⟨zin_n (by omega) (by decide), _, X5_keenLaw_ok (b := 48) S1 (Or.inl rfl) S1.2.1 (show r < 6 by omega) (show m < 5 by omega) hlw, ?_⟩⟩
        rintro v h3 ⟨rfl, q⟩
        refine ⟨S1.F q, ?_, q.k⟩
        unfold keenLawV
        rw [w6 r hr, (rl.2.2.2.2.2.1 m hm).2, w1]
        exact lawV_lwM rl7 (by decide)
      · obtain ⟨S3, I3⟩ := P h1 k
        refine cn_X10_law (sg_X10_law_0 (S2.W k.1) ⟨fun c => absurd c (by decide), fun _ => ⟨fun c => absurd c (by decide), fun _ => ⟨_, X10_hasLaw_ok (r := 1) S3 (by decide), ?_⟩⟩⟩)
        rintro v h4 ⟨rfl, rfl⟩
        refine ⟨S3, fun c => ⟨fun _ => ⟨fun c => absurd rfl c, fun _ => ⟨_, X10_isMonk_yes S3 I3.1.2.1.2.2.2.1 hm (by omega), ?_⟩⟩, fun c => absurd c (by decide)⟩, fun c => ⟨?_, jR.thr h1⟩⟩
        · rintro v h5 ⟨rfl, rfl⟩
          refine ⟨S3, fun c => absurd c n10, fun _ => ⟨fun _ => ?_, fun c => absurd rfl c⟩⟩
          refine sg_X10_law_68 S3 ⟨fun _ => ⟨fun c => absurd rfl c, fun _ => ?_⟩, fun c => absurd c (by decide)⟩
          rw [zcla (show m < 2 ^ 31 by omega), k.eT.1 159 (by decide), er]
          refine ⟨zin_n (by omega) (by decide), _, X10_partIn_ok S3 (show r < 12 by omega), ?_⟩
          rintro v h5 ⟨rfl, rfl⟩
          rw [k.eT.1 159 (by decide), er]
          refine ⟨S3, zin_n (by omega) (by decide), _, X10_calls_ok (a := 0) S3 (by decide) _ _ _ _ _ _, ?_⟩
          rintro h6' ⟨f1, f2⟩
          have hI6 : zI h6' = zI (zsI h1 132 0 0) := f1.2.2
          have S6 := S3.F f1
          refine ⟨S6, lw_tail (r := 1) (Q := fun v h2 => v = lwM (zI h) 1 (nmF 0 (zI h 141 r) 0 0 (zI h 151 0) (nI r) (zI h 144 m)) ∧ jR h1 h2) S6 (by rw [hI6]; exact I3.1.2.1.2.2.2.2.2.2.2.2.1) (by decide) (by rw [hI6]; exact ite1 c) _ f2 (fun k _ => bnd_nmF _ _ _ _ _ _ _ k) (fun h' z1 z2 => ⟨?_, ?_⟩)⟩
          · rw [hI6, k.eT.lw, k.eT.1 144 (by decide), k.eT.1 151 (by decide)]
            have : ptM (zI (zsI h1 132 0 0)) r = zI h 141 r := by unfold ptM; rw [k.eT.2 48 (by decide), hI.2.1.2, k.eT.1 141 (by decide)]; rfl
            rw [this]
          · exact ((jR.thr h1).trans f1.k.j).mE z1 z2
        · have c' := ite0 c
          rw [k.eT.1 145 (by decide), k.eT.1 146 (by decide)] at c'
          rw [lwM_no c']
  by_cases x2 : x = 2
  · subst x2
    rcases ix_or z (n := ns) (by omega) with q | ⟨s, hs, rfl⟩
    · refine pair_roL hOK cERR ?_ (fun h1 k => ?_)
      · refine cn_X9_law (sg_X9_law_0 S1 ⟨fun c => absurd c (by decide), fun c => absurd c (by decide), fun _ => ⟨_, X9_has_no (k := 0) S1 (by decide) t0 q, ?_⟩, fun _ _ c => absurd rfl c⟩)
        rintro v h2 ⟨rfl, rfl⟩
        exact ⟨S1, fun _ => ⟨rfl, cR.rf _⟩, fun c => absurd rfl c⟩
      · obtain ⟨S3, I3⟩ := P h1 k
        refine cn_X10_law (sg_X10_law_0 (S2.W k.1) ⟨fun c => absurd c (by decide), fun _ => ⟨fun c => absurd c (by decide), fun _ => ⟨_, X10_hasLaw_ok (r := 2) S3 (by decide), ?_⟩⟩⟩)
        rintro v h4 ⟨rfl, rfl⟩
        refine ⟨S3, fun c => ⟨fun _ => ⟨fun _ => ⟨fun c => absurd c (by decide), fun _ => ⟨_, X10_isStuff_no S3 I3.1.2.1.1 q, ?_⟩⟩, fun c => absurd c (by decide)⟩, fun c => absurd c (by decide)⟩, fun _ => ⟨rfl, jR.thr h1⟩⟩
        rintro v h5 ⟨rfl, rfl⟩
        exact ⟨S3, fun c => absurd rfl c, fun _ => ⟨rfl, jR.thr h1⟩⟩
    · refine pair_roL hOK (lwM (zI h) 2 (nmF (zI h 156 s) 0 0 0 (zI h 151 0) 0 0)) ?_ (fun h1 k => ?_)
      · refine cn_X9_law (sg_X9_law_0 S1 ⟨fun c => absurd c (by decide), fun c => absurd c (by decide), fun _ => ⟨_, X9_has_yes (k := 0) S1 (by decide) t0 hs (by omega), ?_⟩, fun _ _ c => absurd rfl c⟩)
        rintro v h2 ⟨rfl, rfl⟩
        refine ⟨S1, fun c => absurd c n10, fun _ => ⟨_, X5_worthLaw_ok (b := 48) S1 (Or.inl rfl) S1.2.1 (show s < 6 by omega) hlw, ?_⟩⟩
        rintro v h3 ⟨rfl, q⟩
        refine ⟨S1.F q, ?_, q.k⟩
        unfold worthLawV
        rw [(w5 s hs).1, w1]
        exact lawV_lwM rl7 (by decide)
      · obtain ⟨S3, I3⟩ := P h1 k
        refine cn_X10_law (sg_X10_law_0 (S2.W k.1) ⟨fun c => absurd c (by decide), fun _ => ⟨fun c => absurd c (by decide), fun _ => ⟨_, X10_hasLaw_ok (r := 2) S3 (by decide), ?_⟩⟩⟩)
        rintro v h4 ⟨rfl, rfl⟩
        refine ⟨S3, fun c => ⟨fun _ => ⟨fun _ => ⟨fun c => absurd c (by decide), fun _ => ⟨_, X10_isStuff_yes S3 I3.1.2.1.1 hs (by omega), ?_⟩⟩, fun c => absurd c (by decide)⟩, fun c => absurd c (by decide)⟩, fun c => ⟨?_, jR.thr h1⟩⟩
        · rintro v h5 ⟨rfl, rfl⟩
          refine ⟨S3, fun _ => ?_, fun c => absurd c n10⟩
          refine sg_X10_law_68 S3 ⟨fun _ => ⟨fun _ => ?_, fun c => absurd c (by decide)⟩, fun c => absurd c (by decide)⟩
          rw [zcla (show s < 2 ^ 31 by omega)]
          refine ⟨zin_n (by omega) (by decide), _, X10_calls_ok (a := 0) S3 (by decide) _ _ _ _ _ _, ?_⟩
          rintro h6' ⟨f1, f2⟩
          have hI6 : zI h6' = zI (zsI h1 132 0 0) := f1.2.2
          have S6 := S3.F f1
          refine ⟨S6, lw_tail (r := 2) (Q := fun v h2 => v = lwM (zI h) 2 (nmF (zI h 156 s) 0 0 0 (zI h 151 0) 0 0) ∧ jR h1 h2) S6 (by rw [hI6]; exact I3.1.2.1.2.2.2.2.2.2.2.2.1) (by decide) (by rw [hI6]; exact ite1 c) _ f2 (fun k _ => bnd_nmF _ _ _ _ _ _ _ k) (fun h' z1 z2 => ⟨?_, ?_⟩)⟩
          · rw [hI6, k.eT.lw, k.eT.1 156 (by decide), k.eT.1 151 (by decide)]
          · exact ((jR.thr h1).trans f1.k.j).mE z1 z2
        · have c' := ite0 c
          rw [k.eT.1 145 (by decide), k.eT.1 146 (by decide)] at c'
          rw [lwM_no c']
  · refine pair_roL hOK cERR ?_ (fun h1 k => ?_)
    · exact cn_X9_law (sg_X9_law_0 S1 ⟨fun c => absurd c x0, fun c => absurd c x1, fun c => absurd c x2, fun _ _ _ => ⟨rfl, cR.rf _⟩⟩)
    · refine cn_X10_law (sg_X10_law_0 (S2.W k.1) ⟨fun c => ⟨rfl, jR.thr h1⟩, fun c => ⟨fun c => ⟨rfl, jR.thr h1⟩, fun c2 => ?_⟩⟩)
      obtain ⟨j, j1, j2, ej⟩ := zrange (lo := 0) (hi := 2) (a := 0) (b := 2) (by decide) (by decide) c c2
      rcases (show j = 0 ∨ j = 1 ∨ j = 2 by omega) with rfl | rfl | rfl
      · exact absurd ej x0
      · exact absurd ej x1
      · exact absurd ej x2
def sumF (f : Nat → Int32) : Nat → Int32
  | 0 => 0
  | k + 1 => sumF f k + f k
theorem sumF_congr {f g : Nat → Int32} : ∀ n, (∀ k, k < n → f k = g k) → sumF f n = sumF g n
  | 0, _ => rfl
  | n + 1, h => by
    unfold sumF
    rw [sumF_congr n (fun k hk => h k (by omega)), h n (by omega)]
theorem X9_allStores_ok {G : zG} {d t ns : Nat} {h : zMem} (hS : zSh1 h t) (hn : zI h (t + 1) 0 = nI ns) (h6 : ns ≤ 6) : zConI G mX9_allStores d [.ref 0] h (fun v h' => v = sumF (zI h 49) ns ∧ h' = h) := by
  refine cn_X9_allStores (sg_X9_allStores_0 hS ?_)
  have loop : ∀ n k, n + k = ns → zg G mX9_allStores d 4 [.ref 0, .int (sumF (zI h 49) k), .int (nI k)] [] h (zPI (fun v h' => v = sumF (zI h 49) ns ∧ h' = h)) := by
    intro n
    induction n with
    | zero =>
      intro k hk
      refine sg_X9_allStores_4 hS ?_
      rw [hn, show k = ns by omega]
      exact ⟨fun _ => ⟨rfl, rfl⟩, fun c => absurd (nI_le (Nat.le_refl _) (by omega)) c⟩
    | succ n ih =>
      intro k hk
      refine sg_X9_allStores_4 hS ?_
      rw [hn, zcla (show k < 2 ^ 31 by omega), nI_1]
      exact ⟨fun c => absurd c (nI_ge (by omega) (by omega)), fun _ => ⟨zin_n (by omega) (by decide), ih (k + 1) (by omega)⟩⟩
  exact loop ns 0 (by omega)
def cntR (I : Nat → Nat → Int32) (ns : Nat) (x : Int32) : Int32 :=
  if x = 0 then I 134 0 else if x = 1 then I 134 1 else if x = 2 then I 134 3 else if x = 3 then I 134 4 else if x = 4 then I 134 2 else if x = 5 then I 134 7 else if x = 6 then I 151 0 else if x = 7 then I 152 0 else if x = 8 then I 153 0 else if x = 9 then I 154 0 else if x = 10 then sumF (I 156) ns else if x = 11 then I 132 60 else if x = 12 then (if I 132 61 = -1 then I 132 60 else I 132 61) else if x = 13 then I 132 47 else -1
set_option maxHeartbeats 2000000 in
theorem pr_count {G : zG} {d : Nat} {h : zMem} (hOK : zOK h) (x : Int32) : pairI G mX9_count mX10_count (d + 200) [.ref 0, .int x] [.ref 132, .int x] h := by
  have hOK' := hOK
  obtain ⟨t, ns, nd, nr, nm, dt, u, nn, tp, S1, S2, -, hI⟩ := hOK'
  obtain ⟨td, md, rl, -, -, -, -, -, q9, q10, -⟩ := hI.1
  obtain ⟨t0, t1, t2, t3, h6, h8, h6r, h5, hlw⟩ := td
  obtain ⟨m0, m1, m3, m4, -⟩ := md
  obtain ⟨w1, w2, w3, w4, w5, w6, w7, w8⟩ := now0 hI.2.2.1.1
  have P : ∀ h1, cR h h1 → zSh2 (zsI h1 132 0 0) ∧ zInv (zI (zsI h1 132 0 0)) t ns nd nr nm dt u nn tp := fun h1 k => ⟨S2.W k.thr.1, zInv_j S1.2.1 hI k.thr.2⟩
  obtain ⟨n1, n2, -, n4, -⟩ := hI.2.2.2.2.2.1
  obtain ⟨u1, u2, -⟩ := hI.2.2.2.2.1
  have C10 : ∃ Q2 : Int32 → zMem → Prop, zConI G mX9_allStores (d + 199) [.ref 0] h Q2 ∧ (∀ v5 h3, Q2 v5 h3 → zSh1 h3 t ∧ (v5 = cntR (zI h) ns 10 ∧ cR h h3)) := by
    refine ⟨_, X9_allStores_ok S1 t0 h6, ?_⟩
    rintro v h3 ⟨rfl, rfl⟩
    exact ⟨S1, sumF_congr ns (fun s hs => (w5 s hs).1), cR.rf _⟩
  have C12 : ∃ Q6 : Int32 → zMem → Prop, zConI G mX1_considered (d + 199) [.ref 37] h Q6 ∧ (∀ v9 h7, Q6 v9 h7 → zSh1 h7 t ∧ (v9 = cntR (zI h) ns 12 ∧ cR h h7)) := by
    refine ⟨fun v h' => v = cntR (zI h) ns 12 ∧ h' = h, cn_X1_considered (sg_X1_considered_0 S1 ?_), ?_⟩
    · have e : cntR (zI h) ns 12 = if zI h 132 61 = -1 then zI h 132 60 else zI h 132 61 := rfl
      rw [e, n4, n1, n2]
      exact ⟨fun c => ⟨by rw [if_neg c], rfl⟩, fun c => ⟨by rw [if_pos c], rfl⟩⟩
    · rintro v h3 ⟨rfl, rfl⟩
      exact ⟨S1, rfl, cR.rf _⟩
  refine pair_ro hOK (cntR (zI h) ns x) ?_ (fun h1 k => ?_)
  · have L : ∀ (R : Prop), R → R := fun _ r => r
    have lo : ¬ x = 0 → ¬ x = 1 → ¬ x = 2 → ¬ x = 3 → (x = 4 → (zI h t 9 = cntR (zI h) ns x ∧ cR h h)) ∧ (x = 5 → (zI h (t + 21) 8 = cntR (zI h) ns x ∧ cR h h)) ∧ (x = 6 → (zI h 48 10 = cntR (zI h) ns x ∧ cR h h)) ∧ (x = 7 → (zI h 48 11 = cntR (zI h) ns x ∧ cR h h)) ∧ (x = 8 → (zI h 48 12 = cntR (zI h) ns x ∧ cR h h)) ∧ (x = 9 → (zI h 48 13 = cntR (zI h) ns x ∧ cR h h)) ∧ (x = 10 → ∃ Q2 : Int32 → zMem → Prop, zConI G mX9_allStores (d + 199) [.ref 0] h Q2 ∧ (∀ v5 h3, Q2 v5 h3 → zSh1 h3 t ∧ (v5 = cntR (zI h) ns x ∧ cR h h3))) ∧ (x = 11 → (zI h 37 6 = cntR (zI h) ns x ∧ cR h h)) ∧ (x = 12 → ∃ Q6 : Int32 → zMem → Prop, zConI G mX1_considered (d + 199) [.ref 37] h Q6 ∧ (∀ v9 h7, Q6 v9 h7 → zSh1 h7 t ∧ (v9 = cntR (zI h) ns x ∧ cR h h7))) ∧ (x = 13 → (zI h 44 3 = cntR (zI h) ns x ∧ cR h h)) ∧ (¬ x = 4 → ¬ x = 5 → ¬ x = 6 → ¬ x = 7 → ¬ x = 8 → ¬ x = 9 → ¬ x = 10 → ¬ x = 11 → ¬ x = 12 → ¬ x = 13 → ((-1 : Int32) = cntR (zI h) ns x ∧ cR h h)) := by
      intro e0 e1 e2 e3
      refine ⟨fun c => ?_, fun c => ?_, fun c => ?_, fun c => ?_, fun c => ?_, fun c => ?_, fun c => ?_, fun c => ?_, fun c => ?_, fun c => ?_, fun a4 a5 a6 a7 a8 a9 a10 a11 a12 a13 => ⟨?_, cR.rf _⟩⟩
      · subst c; exact ⟨q9, cR.rf _⟩
      · subst c; exact ⟨q10, cR.rf _⟩
      · subst c; exact ⟨w1, cR.rf _⟩
      · subst c; exact ⟨w2, cR.rf _⟩
      · subst c; exact ⟨w3, cR.rf _⟩
      · subst c; exact ⟨w4, cR.rf _⟩
      · subst c; exact C10
      · subst c; exact ⟨n1.trans n2.symm, cR.rf _⟩
      · subst c; exact C12
      · subst c; exact ⟨u1.trans u2.symm, cR.rf _⟩
      · unfold cntR; rw [if_neg e0, if_neg e1, if_neg e2, if_neg e3, if_neg a4, if_neg a5, if_neg a6, if_neg a7, if_neg a8, if_neg a9, if_neg a10, if_neg a11, if_neg a12, if_neg a13]
    refine cn_X9_count (sg_X9_count_0 S1 ⟨fun c => lo ?_ ?_ ?_ ?_, fun c => ⟨fun c2 => lo ?_ ?_ ?_ ?_, fun c2 => ?_⟩⟩)
    · rintro rfl; exact absurd c (by decide)
    · rintro rfl; exact absurd c (by decide)
    · rintro rfl; exact absurd c (by decide)
    · rintro rfl; exact absurd c (by decide)
    · rintro rfl; exact absurd c2 (by decide)
    · rintro rfl; exact absurd c2 (by decide)
    · rintro rfl; exact absurd c2 (by decide)
    · rintro rfl; exact absurd c2 (by decide)
    · obtain ⟨j, j1, j2, ej⟩ := zrange (lo := 0) (hi := 3) (a := 0) (b := 3) (by decide) (by decide) c c2
      subst ej
      rw [zcla (show j < 2 ^ 31 by omega)]
      refine ⟨zin_n (by omega) (by decide), ?_, cR.rf _⟩
      rcases (show j = 0 ∨ j = 1 ∨ j = 2 ∨ j = 3 by omega) with rfl | rfl | rfl | rfl
      · exact t0.trans m0.symm
      · exact t1.trans m1.symm
      · exact t2.trans m3.symm
      · exact t3.trans m4.symm
  · obtain ⟨S3, I3⟩ := P h1 k
    have e := k.eT
    have cS : cntR (zI h) ns 10 = sumF (zI h 156) ns := rfl
    refine cn_X10_count (sg_X10_count_0 (S2.W k.1) ⟨fun c => ?_, fun c => ?_, fun c => ?_, fun c => ?_, fun c => ?_, fun c => ?_, fun c => ?_, fun c => ?_, fun c => ?_, fun c => ?_, fun c => ?_, fun c => ?_, fun c => ?_, fun c => ?_, fun e0 e1 e2 e3 a4 a5 a6 a7 a8 a9 a10 a11 a12 a13 => ⟨?_, jR.thr h1⟩⟩)
    · subst c; rw [e.1 134 (by decide)]; exact ⟨rfl, jR.thr h1⟩
    · subst c; rw [e.1 134 (by decide)]; exact ⟨rfl, jR.thr h1⟩
    · subst c; rw [e.1 134 (by decide)]; exact ⟨rfl, jR.thr h1⟩
    · subst c; rw [e.1 134 (by decide)]; exact ⟨rfl, jR.thr h1⟩
    · subst c; rw [e.1 134 (by decide)]; exact ⟨rfl, jR.thr h1⟩
    · subst c; rw [e.1 134 (by decide)]; exact ⟨rfl, jR.thr h1⟩
    · subst c; rw [e.1 151 (by decide)]; exact ⟨rfl, jR.thr h1⟩
    · subst c; rw [e.1 152 (by decide)]; exact ⟨rfl, jR.thr h1⟩
    · subst c; rw [e.1 153 (by decide)]; exact ⟨rfl, jR.thr h1⟩
    · subst c; rw [e.1 154 (by decide)]; exact ⟨rfl, jR.thr h1⟩
    · subst c
      rw [cS]
      have loop : ∀ n j, n + j = ns → zg G mX10_count (d + 200) 153 [.ref 132, .int 10, .int (sumF (zI h 156) j), .int (nI j)] [] (zsI h1 132 0 0) (zPI (fun v h2 => v = sumF (zI h 156) ns ∧ jR h1 h2)) := by
        intro n
        induction n with
        | zero =>
          intro j hj
          refine sg_X10_count_153 S3 ?_
          rw [I3.1.2.1.1, show j = ns by omega]
          exact ⟨fun _ => ⟨rfl, jR.thr h1⟩, fun c => absurd (nI_le (Nat.le_refl _) (by omega)) c⟩
        | succ n ih =>
          intro j hj
          refine sg_X10_count_153 S3 ?_
          rw [I3.1.2.1.1, zcla (show j < 2 ^ 31 by omega), nI_1, e.1 156 (by decide)]
          exact ⟨fun c => absurd c (nI_ge (by omega) (by omega)), fun _ => ⟨zin_n (by omega) (by decide), ih (j + 1) (by omega)⟩⟩
      exact loop ns 0 (by omega)
    · subst c; rw [e.2 60 (by decide)]; exact ⟨rfl, jR.thr h1⟩
    · subst c
      refine ⟨fun v h' => v = cntR (zI h) ns 12 ∧ h' = zsI h1 132 0 0, cn_X10_knownMany (sg_X10_knownMany_0 S3 ?_), ?_⟩
      · rw [e.2 60 (by decide), e.2 61 (by decide)]
        have ee : cntR (zI h) ns 12 = if zI h 132 61 = -1 then zI h 132 60 else zI h 132 61 := rfl
        rw [ee]
        exact ⟨fun c => ⟨by rw [if_neg c], rfl⟩, fun c => ⟨by rw [if_pos c], rfl⟩⟩
      · rintro v h3 ⟨rfl, rfl⟩
        exact ⟨S3, rfl, jR.thr h1⟩
    · subst c; rw [e.2 47 (by decide)]; exact ⟨rfl, jR.thr h1⟩
    · unfold cntR; rw [if_neg e0, if_neg e1, if_neg e2, if_neg e3, if_neg a4, if_neg a5, if_neg a6, if_neg a7, if_neg a8, if_neg a9, if_neg a10, if_neg a11, if_neg a12, if_neg a13]
