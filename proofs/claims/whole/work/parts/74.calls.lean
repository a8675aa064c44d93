/-! cold, wind, buy, goes, undo, keep, back: class and model alike -/
theorem pair_push {G : zG} {mc mm : zM} {D : Nat} {ac am : List Value} {h : zMem} {t ns nd nr nm dt u nn tp u' o cell mcell one : Nat} {kind v : Int32} (S1 : zSh1 h t) (S2 : zSh2 h) (h174 : zO h 174 101 ∧ zLen h 174 = 1) (hI : zInv (zI h) t ns nd nr nm dt u nn tp) (uu : uuP u u' o) (kc : kcP kind cell mcell one v nr) (R : Int32) (hc : zConI G mc D ac h (fun w h1 => w = R ∧ puK h u' o kind cell one v h1)) (hm : ∀ h1, puK h u' o kind cell one v h1 → zConI G mm D am h1 (fun w h2 => w = R ∧ puL u' o mcell one v h1 h2)) : pairI G mc mm D ac am h :=
  ⟨R, puK h u' o kind cell one v, puL u' o mcell one v, hc, fun h1 k => ⟨⟨⟨t, S1.W k.1⟩, S2.W k.1, k.1.out h174⟩, hm h1 k, fun _ l => push_ok S1 S2 h174 hI uu kc k l⟩⟩
/-- the model's memory behind the class's half of such a call -/
theorem puK.hi {h h1 : zMem} {u' o cell one : Nat} {kind v : Int32} (k : puK h u' o kind cell one v h1) (hc : cell < 132) {c : Nat} (h132 : 132 ≤ c) : zI h1 c = zI h c := by
  obtain ⟨-, J, A, e⟩ := k
  rw [e, zup_ne _ _ (by omega)]; exact A.1 c (by omega) (by omega) (by omega) (by omega)
theorem puK.eT {h h1 : zMem} {u' o cell one : Nat} {kind v : Int32} (k : puK h u' o kind cell one v h1) (hc : cell < 132) : eT (zI h) (zI (zsI h1 132 0 0)) := ⟨fun c hc' => by rw [zI_sI, zup_ne _ _ (by omega)]; exact k.hi hc (by omega), fun j hj => by rw [zI_sI, zup_i _ _ _ hj, k.hi hc (by decide)]⟩
theorem bt_and {b : Int32} {s : Nat} (hs : s < 6) : (b &&& (((1 : Int32) <<< (nI s &&& 31)) ^^^ (-1))) = b ↔ b.toBitVec.getLsbD s = false := by
  constructor
  · intro e
    have := congrArg (fun x : Int32 => x.toBitVec.getLsbD s) e
    simp only [bit_and, bit_xor, bit_one hs (show s < 32 by omega), bit_m1 (show s < 32 by omega), decide_true] at this
    simpa using this.symm
  · intro e
    refine i32_ext (fun k hk => ?_)
    rw [bit_and, bit_xor, bit_one hs hk, bit_m1 hk]
    by_cases c : k = s
    · subst c; rw [e]; simp
    · rw [decide_eq_false c]; simp
theorem bt_or {b : Int32} {s : Nat} (hs : s < 6) : (b ||| ((1 : Int32) <<< (nI s &&& 31))) = b ↔ b.toBitVec.getLsbD s = true := by
  constructor
  · intro e
    have := congrArg (fun x : Int32 => x.toBitVec.getLsbD s) e
    simp only [bit_or, bit_one hs (show s < 32 by omega), decide_true] at this
    simpa using this.symm
  · intro e
    refine i32_ext (fun k hk => ?_)
    rw [bit_or, bit_one hs hk]
    by_cases c : k = s
    · subst c; rw [e]; simp
    · rw [decide_eq_false c]; simp
theorem bt_xo {b : Int32} {s : Nat} (hs : s < 6) (e : b.toBitVec.getLsbD s = false) : b ^^^ ((1 : Int32) <<< (nI s &&& 31)) = b ||| ((1 : Int32) <<< (nI s &&& 31)) := by
  refine i32_ext (fun k hk => ?_)
  rw [bit_xor, bit_or, bit_one hs hk]
  by_cases c : k = s
  · subst c; rw [e]; simp
  · rw [decide_eq_false c]; simp
theorem bt_xa {b : Int32} {s : Nat} (hs : s < 6) (e : b.toBitVec.getLsbD s = true) : b ^^^ ((1 : Int32) <<< (nI s &&& 31)) = b &&& (((1 : Int32) <<< (nI s &&& 31)) ^^^ (-1)) := by
  refine i32_ext (fun k hk => ?_)
  rw [bit_xor, bit_and, bit_xor, bit_one hs hk, bit_m1 hk]
  by_cases c : k = s
  · subst c; rw [e]; simp
  · rw [decide_eq_false c]; simp
set_option maxHeartbeats 4000000 in
theorem pr_cold {G : zG} {d : Nat} {h : zMem} (hOK : zOK h) (x y z : Int32) (hz : z = 0 ∨ z = 1) : pairI G mX9_cold mX10_cold (d + 200) [.ref 0, .int x, .int y, .int z] [.ref 132, .int x, .int y, .int z] h := by
  have hOK' := hOK
  obtain ⟨t, ns, nd, nr, nm, dt, u, nn, tp, S1, S2, h174, hI⟩ := hOK'
  obtain ⟨td, md, rl, -⟩ := hI.1
  obtain ⟨t0, t1, t2, t3, h6, h8, h6r, h5, hlw⟩ := td
  obtain ⟨w1, w2, w3, w4, w5, w6, w7, w8⟩ := now0 hI.2.2.1.1
  have P : ∀ h1, cR h h1 → zSh2 (zsI h1 132 0 0) ∧ zInv (zI (zsI h1 132 0 0)) t ns nd nr nm dt u nn tp := fun h1 k => ⟨S2.W k.thr.1, zInv_j S1.2.1 hI k.thr.2⟩
  rcases ix_or x (n := nm) (by omega) with q | ⟨m, hm, rfl⟩
  · refine pair_ro hOK 0 ?_ (fun h1 k => ?_)
    · refine cn_X9_cold (sg_X9_cold_0 S1 ⟨_, X9_has_no (k := 3) S1 (by decide) t3 q, ?_⟩)
      rintro v h2 ⟨rfl, rfl⟩
      exact ⟨S1, fun _ => ⟨rfl, cR.rf _⟩, fun c => absurd rfl c⟩
    · obtain ⟨S3, I3⟩ := P h1 k
      refine cn_X10_cold (sg_X10_cold_0 (S2.W k.1) ⟨_, X10_isMonk_no S3 I3.1.2.1.2.2.2.1 q, ?_⟩)
      rintro v h2 ⟨rfl, rfl⟩
      exact ⟨S3, fun _ => ⟨rfl, jR.thr h1⟩, fun c => absurd rfl c⟩
  rcases ix_or y (n := ns) (by omega) with q | ⟨s, hs, rfl⟩
  · refine pair_ro hOK 0 ?_ (fun h1 k => ?_)
    · refine cn_X9_cold (sg_X9_cold_0 S1 ⟨_, X9_has_yes (k := 3) S1 (by decide) t3 hm (by omega), ?_⟩)
      rintro v h2 ⟨rfl, rfl⟩
      refine ⟨S1, fun c => absurd c n10, fun _ => ⟨_, X9_has_no (k := 0) S1 (by decide) t0 q, ?_⟩⟩
      rintro v h2' ⟨rfl, rfl⟩
      exact ⟨S1, fun c => absurd rfl c, fun _ => ⟨rfl, cR.rf _⟩⟩
    · obtain ⟨S3, I3⟩ := P h1 k
      refine cn_X10_cold (sg_X10_cold_0 (S2.W k.1) ⟨_, X10_isMonk_yes S3 I3.1.2.1.2.2.2.1 hm (by omega), ?_⟩)
      rintro v h2 ⟨rfl, rfl⟩
      refine ⟨S3, fun c => absurd c n10, fun _ => ⟨_, X10_isStuff_no S3 I3.1.2.1.1 q, ?_⟩⟩
      rintro v h2' ⟨rfl, rfl⟩
      exact ⟨S3, fun _ => ⟨rfl, jR.thr h1⟩, fun c => absurd rfl c⟩
  have e60 : zI h 60 m = zI h 160 m := (w8 m hm).2.1
  have hs6 : s < 6 := by omega
  obtain ⟨b, hb⟩ : ∃ b, b = zI h 160 m := ⟨_, rfl⟩
  obtain ⟨bt, hbt⟩ : ∃ bt, b.toBitVec.getLsbD s = bt := ⟨_, rfl⟩
  obtain ⟨B, hB⟩ : ∃ B : Int32, B = (1 : Int32) <<< (nI s &&& 31) := ⟨_, rfl⟩
  have bA : (b &&& (B ^^^ (-1))) = b ↔ b.toBitVec.getLsbD s = false := by rw [hB]; exact bt_and hs6
  have bO : (b ||| B) = b ↔ b.toBitVec.getLsbD s = true := by rw [hB]; exact bt_or hs6
  have cb := cold_bit b hs6
  by_cases noch : (z = 0 ∧ bt = false) ∨ (z = 1 ∧ bt = true)
  · refine pair_ro hOK 0 ?_ (fun h1 k => ?_)
    · refine cn_X9_cold (sg_X9_cold_0 S1 ⟨_, X9_has_yes (k := 3) S1 (by decide) t3 hm (by omega), ?_⟩)
      rintro v h2 ⟨rfl, rfl⟩
      refine ⟨S1, fun c => absurd c n10, fun _ => ⟨_, X9_has_yes (k := 0) S1 (by decide) t0 hs (by omega), ?_⟩⟩
      rintro v h2' ⟨rfl, rfl⟩
      rw [zcla (show m < 2 ^ 31 by omega), e60, ← hb, ← hB]
      refine ⟨S1, fun _ => ⟨zin_n (by omega) (by decide), fun c => ⟨fun c2 => ?_, fun _ => ⟨rfl, cR.rf _⟩⟩, fun c => ⟨fun c2 => ?_, fun _ => ⟨rfl, cR.rf _⟩⟩⟩, fun c => absurd c n10⟩
      · rcases noch with ⟨-, e⟩ | ⟨e, -⟩
        · exact absurd (bA.mpr (hbt.trans e)) c2
        · rw [e] at c; exact absurd c (by decide)
      · rcases noch with ⟨e, -⟩ | ⟨-, e⟩
        · exact absurd e c
        · exact absurd (bO.mpr (hbt.trans e)) c2
    · obtain ⟨S3, I3⟩ := P h1 k
      refine cn_X10_cold (sg_X10_cold_0 (S2.W k.1) ⟨_, X10_isMonk_yes S3 I3.1.2.1.2.2.2.1 hm (by omega), ?_⟩)
      rintro v h2 ⟨rfl, rfl⟩
      refine ⟨S3, fun c => absurd c n10, fun _ => ⟨_, X10_isStuff_yes S3 I3.1.2.1.1 hs (by omega), ?_⟩⟩
      rintro v h2' ⟨rfl, rfl⟩
      rw [zcla (show m < 2 ^ 31 by omega), k.eT.1 160 (by decide), ← hb]
      refine ⟨S3, fun c => absurd c n10, fun _ => ⟨zin_n (by omega) (by decide), fun c => ⟨fun c2 => ?_, fun _ => ⟨rfl, jR.thr h1⟩⟩, fun c => ⟨fun c2 => ?_, fun _ => ⟨rfl, jR.thr h1⟩⟩⟩⟩
      · rcases noch with ⟨e, -⟩ | ⟨-, e⟩
        · exact absurd e.symm c2
        · exact absurd (cb.mpr (hbt.trans e)) c
      · rcases noch with ⟨-, e⟩ | ⟨e, -⟩
        · rw [cb.mp c] at hbt; rw [e] at hbt; exact absurd hbt (by decide)
        · exact absurd e.symm c2
  · obtain ⟨u', o, uu⟩ := uu_ex hI.2.2.2.2.1.2.2.1
    have hch : (z = 0 ∧ bt = true) ∨ (z = 1 ∧ bt = false) := by
      rcases hz with e | e
      · cases bt with
        | true => exact Or.inl ⟨e, rfl⟩
        | false => exact absurd (Or.inl ⟨e, rfl⟩) noch
      · cases bt with
        | true => exact absurd (Or.inr ⟨e, rfl⟩) noch
        | false => exact Or.inr ⟨e, rfl⟩
    obtain ⟨nv, hnv⟩ : ∃ nv, nv = b ^^^ B := ⟨_, rfl⟩
    refine pair_push (cell := 60) (mcell := 160) (one := m) (kind := 0) (v := nv) S1 S2 h174 hI uu (Or.inl ⟨rfl, rfl, rfl, by omega⟩) 1 ?_ (fun h1 k => ?_)
    · refine cn_X9_cold (sg_X9_cold_0 S1 ⟨_, X9_has_yes (k := 3) S1 (by decide) t3 hm (by omega), ?_⟩)
      rintro v h2 ⟨rfl, rfl⟩
      refine ⟨S1, fun c => absurd c n10, fun _ => ⟨_, X9_has_yes (k := 0) S1 (by decide) t0 hs (by omega), ?_⟩⟩
      rintro v h2' ⟨rfl, rfl⟩
      rw [zcla (show m < 2 ^ 31 by omega), e60, ← hb, ← hB]
      refine ⟨S1, fun _ => ⟨zin_n (by omega) (by decide), fun c => ⟨fun c2 => ⟨_, X8_add_ok S1 hI.2.2.2.2.1.1 uu _ _ _, ?_⟩, fun c2 => ?_⟩, fun c => ⟨fun c2 => ⟨_, X8_add_ok S1 hI.2.2.2.2.1.1 uu _ _ _, ?_⟩, fun c2 => ?_⟩⟩, fun c => absurd c n10⟩
      · rintro h15 ⟨g1, g2⟩
        have e1 : b.toBitVec.getLsbD s = true := by
          rcases hch with ⟨-, e⟩ | ⟨e, -⟩
          · exact hbt.trans e
          · rw [e] at c; exact absurd c (by decide)
        refine ⟨S1.W g1, rfl, g1.sI _ _ _, zI h15, by rw [e60, ← hb]; exact g2, ?_⟩
        rw [zI_sI, hnv, hB, bt_xa hs6 e1]
      · rcases hch with ⟨-, e⟩ | ⟨e, -⟩
        · rw [bA.mp c2, e] at hbt; exact absurd hbt (by decide)
        · rw [e] at c; exact absurd c (by decide)
      · rintro h15 ⟨g1, g2⟩
        have e1 : b.toBitVec.getLsbD s = false := by
          rcases hch with ⟨e, -⟩ | ⟨-, e⟩
          · exact absurd e c
          · exact hbt.trans e
        refine ⟨S1.W g1, rfl, g1.sI _ _ _, zI h15, by rw [e60, ← hb]; exact g2, ?_⟩
        rw [zI_sI, hnv, hB, bt_xo hs6 e1]
      · rcases hch with ⟨e, -⟩ | ⟨-, e⟩
        · exact absurd e c
        · rw [bO.mp c2, e] at hbt; exact absurd hbt (by decide)
    · have E := k.eT (by decide)
      have S3 : zSh2 (zsI h1 132 0 0) := (S2.W k.1).W ((zW.rf _).sI _ _ _)
      have fin : ∀ Q : Int32 → zMem → Prop, Q = (fun w h2 => w = 1 ∧ puL u' o 160 m nv h1 h2) → ∃ Q14 : zMem → Prop, zConV G mX10_keepNow (d + 199) [.ref 132] (zsI h1 132 0 0) Q14 ∧ (∀ h15, Q14 h15 → zSh2 h15 ∧ Q 1 (zsI h15 160 m ((zI h15 160 m) ^^^ ((1 : Int32) <<< (nI s &&& 31))))) := by
        intro Q hQ
        refine ⟨_, X10_keepNow_ok S3 (by rw [E.2 47 (by decide)]; exact hI.2.2.2.2.1.2.1) uu, ?_⟩
        rintro h15 ⟨g1, g2⟩
        refine ⟨S3.W g1, ?_⟩
        rw [hQ]
        refine ⟨rfl, (((zW.rf h1).sI _ _ _).trans g1).sI _ _ _, zI h15, g2, ?_⟩
        have := (g2.2.2.2.1 0 (by decide)).2.2.2 160 m (by decide) (by decide) (by omega)
        rw [Nat.mul_zero, Nat.zero_add, E.1 160 (by decide), ← hb] at this
        rw [zI_sI, this, hnv, hB]
      refine cn_X10_cold (sg_X10_cold_0 (S2.W k.1) ⟨_, X10_isMonk_yes S3 (by rw [E.1 134 (by decide)]; exact md.2.2.2.1) hm (by omega), ?_⟩)
      rintro v h2 ⟨rfl, rfl⟩
      refine ⟨S3, fun c => absurd c n10, fun _ => ⟨_, X10_isStuff_yes S3 (by rw [E.1 134 (by decide)]; exact md.1) hs (by omega), ?_⟩⟩
      rintro v h2' ⟨rfl, rfl⟩
      rw [zcla (show m < 2 ^ 31 by omega), E.1 160 (by decide), ← hb]
      refine ⟨S3, fun c => absurd c n10, fun _ => ⟨zin_n (by omega) (by decide), fun c => ⟨fun c2 => fin _ rfl, fun c2 => ?_⟩, fun c => ⟨fun c2 => fin _ rfl, fun c2 => ?_⟩⟩⟩
      · rcases hch with ⟨-, e⟩ | ⟨e, -⟩
        · exact absurd (cb.mpr (hbt.trans e)) c
        · rw [e] at c2; exact absurd c2 (by decide)
      · rcases hch with ⟨e, -⟩ | ⟨-, e⟩
        · rw [e] at c2; exact absurd c2 (by decide)
        · rw [cb.mp c, e] at hbt; exact absurd hbt (by decide)
set_option maxHeartbeats 4000000 in
theorem pr_wind {G : zG} {d : Nat} {h : zMem} (hOK : zOK h) (x y : Int32) : pairI G mX9_wind mX10_wind (d + 200) [.ref 0, .int x, .int y] [.ref 132, .int x, .int y] h := by
  have hOK' := hOK
  obtain ⟨t, ns, nd, nr, nm, dt, u, nn, tp, S1, S2, h174, hI⟩ := hOK'
  obtain ⟨td, md, rl, -⟩ := hI.1
  obtain ⟨t0, t1, t2, t3, h6, h8, h6r, h5, hlw⟩ := td
  obtain ⟨w1, w2, w3, w4, w5, w6, w7, w8⟩ := now0 hI.2.2.1.1
  have P : ∀ h1, cR h h1 → zSh2 (zsI h1 132 0 0) ∧ zInv (zI (zsI h1 132 0 0)) t ns nd nr nm dt u nn tp := fun h1 k => ⟨S2.W k.thr.1, zInv_j S1.2.1 hI k.thr.2⟩
  rcases ix_or x (n := ns) (by omega) with q | ⟨s, hs, rfl⟩
  · refine pair_ro hOK 0 ?_ (fun h1 k => ?_)
    · refine cn_X9_wind (sg_X9_wind_0 S1 ⟨_, X9_has_no (k := 0) S1 (by decide) t0 q, ?_⟩)
      rintro v h2 ⟨rfl, rfl⟩
      exact ⟨S1, fun _ => ⟨rfl, cR.rf _⟩, fun c => absurd rfl c⟩
    · obtain ⟨S3, I3⟩ := P h1 k
      refine cn_X10_wind (sg_X10_wind_0 (S2.W k.1) ⟨_, X10_isStuff_no S3 I3.1.2.1.1 q, ?_⟩)
      rintro v h2 ⟨rfl, rfl⟩
      exact ⟨S3, fun _ => ⟨rfl, jR.thr h1⟩, fun c => absurd rfl c⟩
  have e50 : zI h 50 s = zI h 157 s := (w5 s hs).2
  by_cases noch : y < 0 ∨ (99 : Int32) < y ∨ zI h 157 s = y
  · refine pair_ro hOK 0 ?_ (fun h1 k => ?_)
    · refine cn_X9_wind (sg_X9_wind_0 S1 ⟨_, X9_has_yes (k := 0) S1 (by decide) t0 hs (by omega), ?_⟩)
      rintro v h2 ⟨rfl, rfl⟩
      rw [zcla (show s < 2 ^ 31 by omega), e50]
      refine ⟨S1, fun _ => ⟨rfl, cR.rf _⟩, fun _ => ⟨fun _ => ⟨rfl, cR.rf _⟩, fun c => ⟨fun _ => ⟨rfl, cR.rf _⟩, fun c2 => ⟨zin_n (by omega) (by decide), fun c3 => ?_, fun _ => ⟨rfl, cR.rf _⟩⟩⟩⟩⟩
      rcases noch with e | e | e
      · exact absurd e c
      · exact absurd e c2
      · exact absurd e c3
    · obtain ⟨S3, I3⟩ := P h1 k
      refine cn_X10_wind (sg_X10_wind_0 (S2.W k.1) ⟨_, X10_isStuff_yes S3 I3.1.2.1.1 hs (by omega), ?_⟩)
      rintro v h2 ⟨rfl, rfl⟩
      rw [zcla (show s < 2 ^ 31 by omega), k.eT.1 157 (by decide)]
      refine ⟨S3, fun _ => ⟨rfl, jR.thr h1⟩, fun _ => ⟨fun _ => ⟨rfl, jR.thr h1⟩, fun c => ⟨fun _ => ⟨rfl, jR.thr h1⟩, fun c2 => ⟨zin_n (by omega) (by decide), fun c3 => ?_, fun _ => ⟨rfl, jR.thr h1⟩⟩⟩⟩⟩
      rcases noch with e | e | e
      · exact absurd e c
      · exact absurd e c2
      · exact absurd e c3
  · have y0 : ¬ y < 0 := fun c => noch (Or.inl c)
    have y1 : ¬ (99 : Int32) < y := fun c => noch (Or.inr (Or.inl c))
    have y2 : ¬ zI h 157 s = y := fun c => noch (Or.inr (Or.inr c))
    obtain ⟨u', o, uu⟩ := uu_ex hI.2.2.2.2.1.2.2.1
    obtain ⟨j, j1, j2, ej⟩ := zrange (lo := 0) (hi := 99) (a := 0) (b := 99) (by decide) (by decide) y0 y1
    refine pair_push (cell := 50) (mcell := 157) (one := s) (kind := 1) (v := y) S1 S2 h174 hI uu (Or.inr (Or.inl ⟨rfl, rfl, rfl, by omega, j, j2, ej⟩)) 1 ?_ (fun h1 k => ?_)
    · refine cn_X9_wind (sg_X9_wind_0 S1 ⟨_, X9_has_yes (k := 0) S1 (by decide) t0 hs (by omega), ?_⟩)
      rintro v h2 ⟨rfl, rfl⟩
      rw [zcla (show s < 2 ^ 31 by omega)]
      refine ⟨S1, fun c => absurd c n10, fun _ => ⟨fun c => absurd c y0, fun _ => ⟨fun c => absurd c y1, fun _ => ⟨zin_n (by omega) (by decide), fun _ => ⟨_, X8_add_ok S1 hI.2.2.2.2.1.1 uu _ _ _, ?_⟩, fun c => absurd c (by rw [e50]; exact y2)⟩⟩⟩⟩
      rintro h15 ⟨g1, g2⟩
      exact ⟨S1.W g1, rfl, g1.sI _ _ _, zI h15, g2, by rw [zI_sI]⟩
    · have E := k.eT (by decide)
      have S3 : zSh2 (zsI h1 132 0 0) := (S2.W k.1).W ((zW.rf _).sI _ _ _)
      refine cn_X10_wind (sg_X10_wind_0 (S2.W k.1) ⟨_, X10_isStuff_yes S3 (by rw [E.1 134 (by decide)]; exact md.1) hs (by omega), ?_⟩)
      rintro v h2 ⟨rfl, rfl⟩
      rw [zcla (show s < 2 ^ 31 by omega), E.1 157 (by decide)]
      refine ⟨S3, fun c => absurd c n10, fun _ => ⟨fun c => absurd c y0, fun _ => ⟨fun c => absurd c y1, fun _ => ⟨zin_n (by omega) (by decide), fun _ => ⟨_, X10_keepNow_ok S3 (by rw [E.2 47 (by decide)]; exact hI.2.2.2.2.1.2.1) uu, ?_⟩, fun c => absurd c y2⟩⟩⟩⟩
      rintro h15 ⟨g1, g2⟩
      exact ⟨S3.W g1, rfl, (((zW.rf h1).sI _ _ _).trans g1).sI _ _ _, zI h15, g2, by rw [zI_sI]⟩
set_option maxHeartbeats 4000000 in
theorem pr_buy {G : zG} {d : Nat} {h : zMem} (hOK : zOK h) (x y : Int32) : pairI G mX9_buy mX10_buy (d + 200) [.ref 0, .int x, .int y] [.ref 132, .int x, .int y] h := by
  have hOK' := hOK
  obtain ⟨t, ns, nd, nr, nm, dt, u, nn, tp, S1, S2, h174, hI⟩ := hOK'
  obtain ⟨td, md, rl, -⟩ := hI.1
  obtain ⟨t0, t1, t2, t3, h6, h8, h6r, h5, hlw⟩ := td
  obtain ⟨w1, w2, w3, w4, w5, w6, w7, w8⟩ := now0 hI.2.2.1.1
  have P : ∀ h1, cR h h1 → zSh2 (zsI h1 132 0 0) ∧ zInv (zI (zsI h1 132 0 0)) t ns nd nr nm dt u nn tp := fun h1 k => ⟨S2.W k.thr.1, zInv_j S1.2.1 hI k.thr.2⟩
  rcases ix_or x (n := ns) (by omega) with q | ⟨s, hs, rfl⟩
  · refine pair_ro hOK (-1) ?_ (fun h1 k => ?_)
    · refine cn_X9_buy (sg_X9_buy_0 S1 ⟨_, X9_has_no (k := 0) S1 (by decide) t0 q, ?_⟩)
      rintro v h2 ⟨rfl, rfl⟩
      exact ⟨S1, fun _ => ⟨rfl, cR.rf _⟩, fun c => absurd rfl c⟩
    · obtain ⟨S3, I3⟩ := P h1 k
      refine cn_X10_buy (sg_X10_buy_0 (S2.W k.1) ⟨_, X10_isStuff_no S3 I3.1.2.1.1 q, ?_⟩)
      rintro v h2 ⟨rfl, rfl⟩
      exact ⟨S3, fun _ => ⟨rfl, jR.thr h1⟩, fun c => absurd rfl c⟩
  have e49 : zI h 49 s = zI h 156 s := (w5 s hs).1
  by_cases noch : y < 1 ∨ (999 : Int32) < y ∨ ¬ (zI h 156 s + y) ≤ 9999
  · refine pair_ro hOK (-1) ?_ (fun h1 k => ?_)
    · refine cn_X9_buy (sg_X9_buy_0 S1 ⟨_, X9_has_yes (k := 0) S1 (by decide) t0 hs (by omega), ?_⟩)
      rintro v h2 ⟨rfl, rfl⟩
      rw [zcla (show s < 2 ^ 31 by omega), e49]
      refine ⟨S1, fun _ => ⟨rfl, cR.rf _⟩, fun _ => ⟨fun _ => ⟨rfl, cR.rf _⟩, fun c => ⟨fun _ => ⟨rfl, cR.rf _⟩, fun c2 => ⟨zin_n (by omega) (by decide), fun c3 => ?_, fun _ => ⟨rfl, cR.rf _⟩⟩⟩⟩⟩
      rcases noch with e | e | e
      · exact absurd e c
      · exact absurd e c2
      · exact absurd c3 e
    · obtain ⟨S3, I3⟩ := P h1 k
      refine cn_X10_buy (sg_X10_buy_0 (S2.W k.1) ⟨_, X10_isStuff_yes S3 I3.1.2.1.1 hs (by omega), ?_⟩)
      rintro v h2 ⟨rfl, rfl⟩
      rw [zcla (show s < 2 ^ 31 by omega), k.eT.1 156 (by decide)]
      refine ⟨S3, fun _ => ⟨rfl, jR.thr h1⟩, fun _ => ⟨fun _ => ⟨rfl, jR.thr h1⟩, fun c => ⟨fun _ => ⟨rfl, jR.thr h1⟩, fun c2 => ⟨zin_n (by omega) (by decide), fun c3 => ?_, fun _ => ⟨rfl, jR.thr h1⟩⟩⟩⟩⟩
      rcases noch with e | e | e
      · exact absurd e c
      · exact absurd e c2
      · exact absurd c3 e
  · have y0 : ¬ y < 1 := fun c => noch (Or.inl c)
    have y1 : ¬ (999 : Int32) < y := fun c => noch (Or.inr (Or.inl c))
    have y2 : (zI h 156 s + y) ≤ 9999 := Classical.byContradiction fun c => noch (Or.inr (Or.inr c))
    obtain ⟨u', o, uu⟩ := uu_ex hI.2.2.2.2.1.2.2.1
    obtain ⟨j, j1, j2, ej⟩ := zrange (lo := 1) (hi := 999) (a := 1) (b := 999) (by decide) (by decide) y0 y1
    obtain ⟨n, n1, en⟩ := (ab0 hI.2.2.1.2.1).2.2.2 s hs
    have ev : zI h 156 s + y = nI (n + j) := by rw [en, ej, nI_add]
    have hnj : n + j ≤ 9999 := by
      rw [ev] at y2
      exact (nI_leI (by omega) (by decide)).mp (show nI (n + j) ≤ nI 9999 from y2)
    refine pair_push (cell := 49) (mcell := 156) (one := s) (kind := 2) (v := nI (n + j)) S1 S2 h174 hI uu (Or.inr (Or.inr (Or.inl ⟨rfl, rfl, rfl, by omega, n + j, hnj, rfl⟩))) (nI (n + j)) ?_ (fun h1 k => ?_)
    · refine cn_X9_buy (sg_X9_buy_0 S1 ⟨_, X9_has_yes (k := 0) S1 (by decide) t0 hs (by omega), ?_⟩)
      rintro v h2 ⟨rfl, rfl⟩
      rw [zcla (show s < 2 ^ 31 by omega)]
      refine ⟨S1, fun c => absurd c n10, fun _ => ⟨fun c => absurd c y0, fun _ => ⟨fun c => absurd c y1, fun _ => ⟨zin_n (by omega) (by decide), fun _ => ⟨_, X8_add_ok S1 hI.2.2.2.2.1.1 uu _ _ _, ?_⟩, fun c => absurd (by rw [e49]; exact y2) c⟩⟩⟩⟩
      rintro h15 ⟨g1, g2⟩
      have e15 : zI h15 49 s + y = nI (n + j) := by rw [g2.1 49 (by decide) (by decide) (by decide) (by decide), e49, ev]
      rw [e15]
      exact ⟨S1.W g1, by rw [zI_sI, zup_s], g1.sI _ _ _, zI h15, g2, by rw [zI_sI]⟩
    · have E := k.eT (by decide)
      have S3 : zSh2 (zsI h1 132 0 0) := (S2.W k.1).W ((zW.rf _).sI _ _ _)
      refine cn_X10_buy (sg_X10_buy_0 (S2.W k.1) ⟨_, X10_isStuff_yes S3 (by rw [E.1 134 (by decide)]; exact md.1) hs (by omega), ?_⟩)
      rintro v h2 ⟨rfl, rfl⟩
      rw [zcla (show s < 2 ^ 31 by omega), E.1 156 (by decide)]
      refine ⟨S3, fun c => absurd c n10, fun _ => ⟨fun c => absurd c y0, fun _ => ⟨fun c => absurd c y1, fun _ => ⟨zin_n (by omega) (by decide), fun _ => ⟨_, X10_keepNow_ok S3 (by rw [E.2 47 (by decide)]; exact hI.2.2.2.2.1.2.1) uu, ?_⟩, fun c => absurd y2 c⟩⟩⟩⟩
      rintro h15 ⟨g1, g2⟩
      have := (g2.2.2.2.1 0 (by decide)).2.1 156 s (by decide) (by omega)
      rw [Nat.mul_zero, Nat.zero_add, E.1 156 (by decide)] at this
      rw [this, ev]
      exact ⟨S3.W g1, by rw [zI_sI, zup_s], (((zW.rf h1).sI _ _ _).trans g1).sI _ _ _, zI h15, g2, by rw [zI_sI]⟩
set_option maxHeartbeats 4000000 in
theorem pr_goes {G : zG} {d : Nat} {h : zMem} (hOK : zOK h) (x y : Int32) : pairI G mX9_goes mX10_goes (d + 200) [.ref 0, .int x, .int y] [.ref 132, .int x, .int y] h := by
  have hOK' := hOK
  obtain ⟨t, ns, nd, nr, nm, dt, u, nn, tp, S1, S2, h174, hI⟩ := hOK'
  obtain ⟨td, md, rl, -⟩ := hI.1
  obtain ⟨t0, t1, t2, t3, h6, h8, h6r, h5, hlw⟩ := td
  obtain ⟨w1, w2, w3, w4, w5, w6, w7, w8⟩ := now0 hI.2.2.1.1
  have P : ∀ h1, cR h h1 → zSh2 (zsI h1 132 0 0) ∧ zInv (zI (zsI h1 132 0 0)) t ns nd nr nm dt u nn tp := fun h1 k => ⟨S2.W k.thr.1, zInv_j S1.2.1 hI k.thr.2⟩
  rcases ix_or x (n := nm) (by omega) with q | ⟨m, hm, rfl⟩
  · refine pair_ro hOK 0 ?_ (fun h1 k => ?_)
    · refine cn_X9_goes (sg_X9_goes_0 S1 ⟨_, X9_has_no (k := 3) S1 (by decide) t3 q, ?_⟩)
      rintro v h2 ⟨rfl, rfl⟩
      exact ⟨S1, fun _ => ⟨rfl, cR.rf _⟩, fun c => absurd rfl c⟩
    · obtain ⟨S3, I3⟩ := P h1 k
      refine cn_X10_goes (sg_X10_goes_0 (S2.W k.1) ⟨_, X10_isMonk_no S3 I3.1.2.1.2.2.2.1 q, ?_⟩)
      rintro v h2 ⟨rfl, rfl⟩
      exact ⟨S3, fun _ => ⟨rfl, jR.thr h1⟩, fun c => absurd rfl c⟩
  rcases ix_or y (n := nr) (by omega) with q | ⟨r, hr, rfl⟩
  · refine pair_ro hOK 0 ?_ (fun h1 k => ?_)
    · refine cn_X9_goes (sg_X9_goes_0 S1 ⟨_, X9_has_yes (k := 3) S1 (by decide) t3 hm (by omega), ?_⟩)
      rintro v h2 ⟨rfl, rfl⟩
      refine ⟨S1, fun c => absurd c n10, fun _ => ⟨_, X9_has_no (k := 2) S1 (by decide) t2 q, ?_⟩⟩
      rintro v h2' ⟨rfl, rfl⟩
      exact ⟨S1, fun _ => ⟨rfl, cR.rf _⟩, fun c => absurd rfl c⟩
    · obtain ⟨S3, I3⟩ := P h1 k
      refine cn_X10_goes (sg_X10_goes_0 (S2.W k.1) ⟨_, X10_isMonk_yes S3 I3.1.2.1.2.2.2.1 hm (by omega), ?_⟩)
      rintro v h2 ⟨rfl, rfl⟩
      refine ⟨S3, fun c => absurd c n10, fun _ => ⟨_, X10_isRoom_no S3 I3.1.2.1.2.2.1 q, ?_⟩⟩
      rintro v h2' ⟨rfl, rfl⟩
      exact ⟨S3, fun _ => ⟨rfl, jR.thr h1⟩, fun c => absurd rfl c⟩
  have e59 : zI h 59 m = zI h 159 m := (w8 m hm).1
  by_cases noch : zI h 159 m = nI r
  · refine pair_ro hOK 0 ?_ (fun h1 k => ?_)
    · refine cn_X9_goes (sg_X9_goes_0 S1 ⟨_, X9_has_yes (k := 3) S1 (by decide) t3 hm (by omega), ?_⟩)
      rintro v h2 ⟨rfl, rfl⟩
      refine ⟨S1, fun c => absurd c n10, fun _ => ⟨_, X9_has_yes (k := 2) S1 (by decide) t2 hr (by omega), ?_⟩⟩
      rintro v h2' ⟨rfl, rfl⟩
      rw [zcla (show m < 2 ^ 31 by omega), e59]
      exact ⟨S1, fun _ => ⟨rfl, cR.rf _⟩, fun _ => ⟨zin_n (by omega) (by decide), fun c => absurd noch c, fun _ => ⟨rfl, cR.rf _⟩⟩⟩
    · obtain ⟨S3, I3⟩ := P h1 k
      refine cn_X10_goes (sg_X10_goes_0 (S2.W k.1) ⟨_, X10_isMonk_yes S3 I3.1.2.1.2.2.2.1 hm (by omega), ?_⟩)
      rintro v h2 ⟨rfl, rfl⟩
      refine ⟨S3, fun c => absurd c n10, fun _ => ⟨_, X10_isRoom_yes S3 I3.1.2.1.2.2.1 hr (by omega), ?_⟩⟩
      rintro v h2' ⟨rfl, rfl⟩
      rw [zcla (show m < 2 ^ 31 by omega), k.eT.1 159 (by decide)]
      exact ⟨S3, fun _ => ⟨rfl, jR.thr h1⟩, fun _ => ⟨zin_n (by omega) (by decide), fun c => absurd noch c, fun _ => ⟨rfl, jR.thr h1⟩⟩⟩
  · obtain ⟨u', o, uu⟩ := uu_ex hI.2.2.2.2.1.2.2.1
    refine pair_push (cell := 59) (mcell := 159) (one := m) (kind := 3) (v := nI r) S1 S2 h174 hI uu (Or.inr (Or.inr (Or.inr ⟨rfl, rfl, rfl, by omega, r, hr, rfl⟩))) 1 ?_ (fun h1 k => ?_)
    · refine cn_X9_goes (sg_X9_goes_0 S1 ⟨_, X9_has_yes (k := 3) S1 (by decide) t3 hm (by omega), ?_⟩)
      rintro v h2 ⟨rfl, rfl⟩
      refine ⟨S1, fun c => absurd c n10, fun _ => ⟨_, X9_has_yes (k := 2) S1 (by decide) t2 hr (by omega), ?_⟩⟩
      rintro v h2' ⟨rfl, rfl⟩
      rw [zcla (show m < 2 ^ 31 by omega)]
      refine ⟨S1, fun c => absurd c n10, fun _ => ⟨zin_n (by omega) (by decide), fun _ => ⟨_, X8_add_ok S1 hI.2.2.2.2.1.1 uu _ _ _, ?_⟩, fun c => absurd c (by rw [e59]; exact noch)⟩⟩
      rintro h15 ⟨g1, g2⟩
      exact ⟨S1.W g1, rfl, g1.sI _ _ _, zI h15, g2, by rw [zI_sI]⟩
    · have E := k.eT (by decide)
      have S3 : zSh2 (zsI h1 132 0 0) := (S2.W k.1).W ((zW.rf _).sI _ _ _)
      refine cn_X10_goes (sg_X10_goes_0 (S2.W k.1) ⟨_, X10_isMonk_yes S3 (by rw [E.1 134 (by decide)]; exact md.2.2.2.1) hm (by omega), ?_⟩)
      rintro v h2 ⟨rfl, rfl⟩
      refine ⟨S3, fun c => absurd c n10, fun _ => ⟨_, X10_isRoom_yes S3 (by rw [E.1 134 (by decide)]; exact md.2.2.1) hr (by omega), ?_⟩⟩
      rintro v h2' ⟨rfl, rfl⟩
      rw [zcla (show m < 2 ^ 31 by omega), E.1 159 (by decide)]
      refine ⟨S3, fun c => absurd c n10, fun _ => ⟨zin_n (by omega) (by decide), fun _ => ⟨_, X10_keepNow_ok S3 (by rw [E.2 47 (by decide)]; exact hI.2.2.2.2.1.2.1) uu, ?_⟩, fun c => absurd c noch⟩⟩
      rintro h15 ⟨g1, g2⟩
      exact ⟨S3.W g1, rfl, (((zW.rf h1).sI _ _ _).trans g1).sI _ _ _, zI h15, g2, by rw [zI_sI]⟩
