/-! calls that only read, second part -/
def cut0 (I : Nat → Nat → Int32) : Nat → Nat → Int32 := fun c => if c < 132 then fun _ => 0 else if c = 132 then fun j => if j = 0 then 0 else I 132 j else I c
def eT (I I' : Nat → Nat → Int32) : Prop := (∀ c, 133 ≤ c → I' c = I c) ∧ ∀ k, k ≠ 0 → I' 132 k = I 132 k
theorem eT.c0 {I I' : Nat → Nat → Int32} (h : eT I I') : cut0 I' = cut0 I := by
  funext c j
  unfold cut0
  by_cases q : c < 132
  · rw [if_pos q, if_pos q]
  · rw [if_neg q, if_neg q]
    by_cases q2 : c = 132
    · rw [if_pos q2, if_pos q2]
      by_cases q3 : j = 0
      · rw [if_pos q3, if_pos q3]
      · rw [if_neg q3, if_neg q3]; exact h.2 j q3
    · rw [if_neg q2, if_neg q2, h.1 c (by omega)]
theorem mkM_c0 (I : Nat → Nat → Int32) (ns a m r dy : Nat) : mkM I ns a m r dy = mkM (cut0 I) ns a m r dy := rfl
theorem keF_c0 (I : Nat → Nat → Int32) (a m r : Nat) : keF I a m r = keF (cut0 I) a m r := rfl
theorem wtF_c0 (I : Nat → Nat → Int32) (a s : Nat) : wtF I a s = wtF (cut0 I) a s := rfl
theorem mxM_c0 (I : Nat → Nat → Int32) (d s : Nat) : mxM I d s = mxM (cut0 I) d s := rfl
theorem lwM_c0 (I : Nat → Nat → Int32) (r : Nat) (nm : Nat → Int64) : lwM I r nm = lwM (cut0 I) r nm := rfl
theorem eT.mk {I I' : Nat → Nat → Int32} (h : eT I I') (ns a m r dy : Nat) : mkM I' ns a m r dy = mkM I ns a m r dy := by rw [mkM_c0, h.c0, ← mkM_c0]
theorem eT.ke {I I' : Nat → Nat → Int32} (h : eT I I') (a m r : Nat) : keF I' a m r = keF I a m r := by rw [keF_c0, h.c0, ← keF_c0]
theorem eT.wt {I I' : Nat → Nat → Int32} (h : eT I I') (a s : Nat) : wtF I' a s = wtF I a s := by rw [wtF_c0, h.c0, ← wtF_c0]
theorem eT.mx {I I' : Nat → Nat → Int32} (h : eT I I') (d s : Nat) : mxM I' d s = mxM I d s := by rw [mxM_c0, h.c0, ← mxM_c0]
theorem eT.lw {I I' : Nat → Nat → Int32} (h : eT I I') (r : Nat) (nm : Nat → Int64) : lwM I' r nm = lwM I r nm := by rw [lwM_c0, h.c0, ← lwM_c0]
theorem cR.eT {h h1 : zMem} (k : cR h h1) : eT (zI h) (zI (zsI h1 132 0 0)) := ⟨fun c hc => by rw [zI_sI, zup_ne _ _ (by omega)]; exact k.2.2 c (by omega), fun j hj => by rw [zI_sI, zup_i _ _ _ hj, k.2.2 132 (by decide)]⟩
theorem cR.thr {h h1 : zMem} (k : cR h h1) : jR h (zsI h1 132 0 0) := k.j.trans (jR.thr h1)
/-- what is now, in short -/
theorem now0 {I : Nat → Nat → Int32} {ns nr nm : Nat} (h : relS I 48 0 ns nr nm) : I 48 10 = I 151 0 ∧ I 48 11 = I 152 0 ∧ I 48 12 = I 153 0 ∧ I 48 13 = I 154 0 ∧ (∀ s, s < ns → I 49 s = I 156 s ∧ I 50 s = I 157 s) ∧ (∀ p, p < nr → I 51 p = I 141 p) ∧ (∀ p s, p < nr → s < ns → I (53 + p) s = I 158 (6 * p + s)) ∧ (∀ m, m < nm → I 59 m = I 159 m ∧ I 60 m = I 160 m ∧ I 61 m = I 161 m ∧ I 62 m = I 162 m) := by
  obtain ⟨s1, s2, s3, s4, s5, s6, s7, s8, s9⟩ := h
  refine ⟨s1, s2, s3, s4, fun s hs => ?_, s7, fun p s hp hs => ?_, fun m hm => ?_⟩
  · have := s6 s hs
    rw [Nat.mul_zero, Nat.zero_add] at this; exact this
  · have := s8 p s hp hs
    rw [Nat.mul_zero, Nat.zero_add] at this; exact this
  · have := s9 m hm
    rw [Nat.mul_zero, Nat.zero_add] at this; exact this
theorem ab0 {I : Nat → Nat → Int32} {ns nd nr nm dt : Nat} (h : abOK I 0 ns nd nr nm dt) : (∀ m, m < nm → ∃ r, r < nr ∧ I 159 m = nI r) ∧ (∀ m, m < nm → 0 < nd → ∃ j, j < nd ∧ I 162 m = nI j) ∧ I 151 0 = nI dt ∧ (∀ s, s < ns → ∃ n, n ≤ 9999 ∧ I 156 s = nI n) := by
  obtain ⟨a1, a2, a3, -, -, a6⟩ := h
  refine ⟨fun m hm => ?_, fun m hm h0 => ?_, a3, fun s hs => ?_⟩
  · have := a1 m hm
    rw [Nat.mul_zero, Nat.zero_add] at this; exact this
  · have := a2 m hm h0
    rw [Nat.mul_zero, Nat.zero_add] at this; exact this
  · have := a6 s hs
    rw [Nat.mul_zero, Nat.zero_add] at this; exact this
set_option maxHeartbeats 1000000 in
theorem pr_stuff {G : zG} {d : Nat} {h : zMem} (hOK : zOK h) (x y : Int32) : pairI G mX9_stuff mX10_stuff (d + 200) [.ref 0, .int x, .int y] [.ref 132, .int x, .int y] h := by
  have hOK' := hOK
  obtain ⟨t, ns, nd, nr, nm, dt, u, nn, tp, S1, S2, -, hI⟩ := hOK'
  obtain ⟨td, md, rl, -⟩ := hI.1
  obtain ⟨t0, t1, t2, t3, h6, h8, h6r, h5, hlw⟩ := td
  obtain ⟨w1, w2, w3, w4, w5, w6, w7, w8⟩ := now0 hI.2.2.1.1
  have P : ∀ h1, cR h h1 → zSh2 (zsI h1 132 0 0) ∧ zInv (zI (zsI h1 132 0 0)) t ns nd nr nm dt u nn tp := fun h1 k => ⟨S2.W k.thr.1, zInv_j S1.2.1 hI k.thr.2⟩
  rcases ix_or x (n := ns) (by omega) with q | ⟨s, hs, rfl⟩
  · refine pair_ro hOK (-1) ?_ (fun h1 k => ?_)
    · refine cn_X9_stuff (sg_X9_stuff_0 S1 ⟨_, X9_has_no (k := 0) S1 (by decide) t0 q, ?_⟩)
      rintro v h2 ⟨rfl, rfl⟩
      exact ⟨S1, fun c => absurd rfl c, fun _ => ⟨rfl, cR.rf _⟩⟩
    · obtain ⟨S3, I3⟩ := P h1 k
      refine cn_X10_stuff (sg_X10_stuff_0 (S2.W k.1) ⟨_, X10_isStuff_no S3 I3.1.2.1.1 q, ?_⟩)
      rintro v h2 ⟨rfl, rfl⟩
      exact ⟨S3, fun c => absurd rfl c, fun _ => ⟨rfl, jR.thr h1⟩⟩
  · refine pair_ro hOK (if y = 0 then zI h 156 s else if y = 1 then wtF (zI h) 0 s else if y = 2 then zI h 157 s else -1) ?_ (fun h1 k => ?_)
    · refine cn_X9_stuff (sg_X9_stuff_0 S1 ⟨_, X9_has_yes (k := 0) S1 (by decide) t0 hs (by omega), ?_⟩)
      rintro v h2 ⟨rfl, rfl⟩
      rw [zcla (show s < 2 ^ 31 by omega)]
      refine ⟨S1, fun _ => ⟨fun c => ⟨zin_n (by omega) (by decide), ?_⟩, fun c => ⟨_, X5_worthOf_ok S1 (Or.inl rfl) S1.2.1 (by omega) hlw, ?_⟩, fun c => ⟨zin_n (by omega) (by decide), ?_⟩, fun c1 c2 c3 => ?_⟩, fun c => absurd c n10⟩
      · rw [if_pos c]; exact ⟨(w5 s hs).1, cR.rf _⟩
      · rintro v h8' ⟨rfl, z⟩
        rw [if_neg (by rw [c]; decide), if_pos c]
        exact ⟨S1.F z, eq_worth rl w1 (by rw [Nat.mul_zero, Nat.zero_add]; exact (w5 s hs).1), z.k⟩
      · rw [if_neg (by rw [c]; decide), if_neg (by rw [c]; decide), if_pos c]; exact ⟨(w5 s hs).2, cR.rf _⟩
      · rw [if_neg c1, if_neg c2, if_neg c3]; exact ⟨rfl, cR.rf _⟩
    · obtain ⟨S3, I3⟩ := P h1 k
      refine cn_X10_stuff (sg_X10_stuff_0 (S2.W k.1) ⟨_, X10_isStuff_yes S3 I3.1.2.1.1 hs (by omega), ?_⟩)
      rintro v h2 ⟨rfl, rfl⟩
      rw [zcla (show s < 2 ^ 31 by omega), k.eT.1 156 (by decide), k.eT.1 157 (by decide)]
      refine ⟨S3, fun _ => ⟨fun c => ⟨fun c2 => ⟨fun c3 => ?_, fun c3 => ⟨zin_n (by omega) (by decide), ?_⟩⟩, fun c2 => ⟨_, X10_worthOf_ok (a := 0) S3 I3.1.2.1.2.2.2.2.2.2.2.2.1 (by decide) (show s < 6 by omega), ?_⟩⟩, fun c => ⟨zin_n (by omega) (by decide), ?_⟩⟩, fun c => absurd c n10⟩
      · rw [if_neg c, if_neg c2, if_neg c3]; exact ⟨rfl, jR.thr h1⟩
      · rw [if_neg c, if_neg c2, if_pos c3]; exact ⟨rfl, jR.thr h1⟩
      · rintro v h11 ⟨rfl, z1, z2⟩
        rw [if_neg c, if_pos c2]
        exact ⟨S3.W z1, k.eT.wt 0 s, (jR.thr h1).mE z1 z2⟩
      · rw [if_pos c]; exact ⟨rfl, jR.thr h1⟩
set_option maxHeartbeats 1000000 in
theorem pr_mix {G : zG} {d : Nat} {h : zMem} (hOK : zOK h) (x y : Int32) : pairI G mX9_mix mX10_mix (d + 200) [.ref 0, .int x, .int y] [.ref 132, .int x, .int y] h := by
  have hOK' := hOK
  obtain ⟨t, ns, nd, nr, nm, dt, u, nn, tp, S1, S2, -, hI⟩ := hOK'
  obtain ⟨td, md, rl, -⟩ := hI.1
  obtain ⟨t0, t1, t2, t3, h6, h8, h6r, h5, hlw⟩ := td
  have P : ∀ h1, cR h h1 → zSh2 (zsI h1 132 0 0) ∧ zInv (zI (zsI h1 132 0 0)) t ns nd nr nm dt u nn tp := fun h1 k => ⟨S2.W k.thr.1, zInv_j S1.2.1 hI k.thr.2⟩
  rcases ix_or x (n := nd) (by omega) with q | ⟨dy, hd, rfl⟩
  · refine pair_ro hOK (-1) ?_ (fun h1 k => ?_)
    · refine cn_X9_mix (sg_X9_mix_0 S1 ⟨_, X9_has_no (k := 1) S1 (by decide) t1 q, ?_⟩)
      rintro v h2 ⟨rfl, rfl⟩
      exact ⟨S1, fun _ => ⟨rfl, cR.rf _⟩, fun c => absurd rfl c⟩
    · obtain ⟨S3, I3⟩ := P h1 k
      refine cn_X10_mix (sg_X10_mix_0 (S2.W k.1) ⟨_, X10_isDay_no S3 I3.1.2.1.2.1 q, ?_⟩)
      rintro v h2 ⟨rfl, rfl⟩
      exact ⟨S3, fun _ => ⟨rfl, jR.thr h1⟩, fun c => absurd rfl c⟩
  · rcases ix_or y (n := ns) (by omega) with q | ⟨s, hs, rfl⟩
    · refine pair_ro hOK (-1) ?_ (fun h1 k => ?_)
      · refine cn_X9_mix (sg_X9_mix_0 S1 ⟨_, X9_has_yes (k := 1) S1 (by decide) t1 hd (by omega), ?_⟩)
        rintro v h2 ⟨rfl, rfl⟩
        refine ⟨S1, fun c => absurd c n10, fun _ => ⟨_, X9_has_no (k := 0) S1 (by decide) t0 q, ?_⟩⟩
        rintro v h2' ⟨rfl, rfl⟩
        exact ⟨S1, fun _ => ⟨rfl, cR.rf _⟩, fun c => absurd rfl c⟩
      · obtain ⟨S3, I3⟩ := P h1 k
        refine cn_X10_mix (sg_X10_mix_0 (S2.W k.1) ⟨_, X10_isDay_yes S3 I3.1.2.1.2.1 hd (by omega), ?_⟩)
        rintro v h2 ⟨rfl, rfl⟩
        refine ⟨S3, fun c => absurd c n10, fun _ => ⟨_, X10_isStuff_no S3 I3.1.2.1.1 q, ?_⟩⟩
        rintro v h2' ⟨rfl, rfl⟩
        exact ⟨S3, fun _ => ⟨rfl, jR.thr h1⟩, fun c => absurd rfl c⟩
    · refine pair_ro hOK (zI h 139 (6 * dy + s)) ?_ (fun h1 k => ?_)
      · refine cn_X9_mix (sg_X9_mix_0 S1 ⟨_, X9_has_yes (k := 1) S1 (by decide) t1 hd (by omega), ?_⟩)
        rintro v h2 ⟨rfl, rfl⟩
        refine ⟨S1, fun c => absurd c n10, fun _ => ⟨_, X9_has_yes (k := 0) S1 (by decide) t0 hs (by omega), ?_⟩⟩
        rintro v h2' ⟨rfl, rfl⟩
        rw [zcla (show dy < 2 ^ 31 by omega), zcla (show s < 2 ^ 31 by omega)]
        exact ⟨S1, fun c => absurd c n10, fun _ => ⟨zin_n (by omega) (by decide), zin_n (by omega) (by decide), rl.2.2.2.1 dy s hd hs, cR.rf _⟩⟩
      · obtain ⟨S3, I3⟩ := P h1 k
        refine cn_X10_mix (sg_X10_mix_0 (S2.W k.1) ⟨_, X10_isDay_yes S3 I3.1.2.1.2.1 hd (by omega), ?_⟩)
        rintro v h2 ⟨rfl, rfl⟩
        refine ⟨S3, fun c => absurd c n10, fun _ => ⟨_, X10_isStuff_yes S3 I3.1.2.1.1 hs (by omega), ?_⟩⟩
        rintro v h2' ⟨rfl, rfl⟩
        rw [ix6, zcla (show 6 * dy + s < 2 ^ 31 by omega), k.eT.1 139 (by decide)]
        exact ⟨S3, fun c => absurd c n10, fun _ => ⟨zin_n (by omega) (by decide), rfl, jR.thr h1⟩⟩
set_option maxHeartbeats 1000000 in
theorem pr_feast {G : zG} {d : Nat} {h : zMem} (hOK : zOK h) (x : Int32) : pairI G mX9_feast mX10_feast (d + 200) [.ref 0, .int x] [.ref 132, .int x] h := by
  have hOK' := hOK
  obtain ⟨t, ns, nd, nr, nm, dt, u, nn, tp, S1, S2, -, hI⟩ := hOK'
  obtain ⟨td, md, rl, -, -, -, -, -, -, -, -, -, hfe⟩ := hI.1
  obtain ⟨t0, t1, t2, t3, h6, h8, h6r, h5, hlw⟩ := td
  have P : ∀ h1, cR h h1 → zSh2 (zsI h1 132 0 0) ∧ zInv (zI (zsI h1 132 0 0)) t ns nd nr nm dt u nn tp := fun h1 k => ⟨S2.W k.thr.1, zInv_j S1.2.1 hI k.thr.2⟩
  rcases ix_or x (n := nd) (by omega) with q | ⟨dy, hd, rfl⟩
  · refine pair_ro hOK (-1) ?_ (fun h1 k => ?_)
    · refine cn_X9_feast (sg_X9_feast_0 S1 ⟨_, X9_has_no (k := 1) S1 (by decide) t1 q, ?_⟩)
      rintro v h2 ⟨rfl, rfl⟩
      exact ⟨S1, fun c => absurd rfl c, fun _ => ⟨rfl, cR.rf _⟩⟩
    · obtain ⟨S3, I3⟩ := P h1 k
      refine cn_X10_feast (sg_X10_feast_0 (S2.W k.1) ⟨_, X10_isDay_no S3 I3.1.2.1.2.1 q, ?_⟩)
      rintro v h2 ⟨rfl, rfl⟩
      exact ⟨S3, fun _ => ⟨rfl, jR.thr h1⟩, fun c => absurd rfl c⟩
  · refine pair_ro hOK (zI h 138 dy) ?_ (fun h1 k => ?_)
    · refine cn_X9_feast (sg_X9_feast_0 S1 ⟨_, X9_has_yes (k := 1) S1 (by decide) t1 hd (by omega), ?_⟩)
      rintro v h2 ⟨rfl, rfl⟩
      rw [zcla (show dy < 2 ^ 31 by omega), rl.2.2.1 dy hd]
      refine ⟨S1, fun _ => ⟨zin_n (by omega) (by decide), fun c => ⟨c.symm, cR.rf _⟩, fun c => ⟨?_, cR.rf _⟩⟩, fun c => absurd c n10⟩
      exact ((hfe dy hd).resolve_left c).symm
    · obtain ⟨S3, I3⟩ := P h1 k
      refine cn_X10_feast (sg_X10_feast_0 (S2.W k.1) ⟨_, X10_isDay_yes S3 I3.1.2.1.2.1 hd (by omega), ?_⟩)
      rintro v h2 ⟨rfl, rfl⟩
      rw [zcla (show dy < 2 ^ 31 by omega), k.eT.1 138 (by decide)]
      exact ⟨S3, fun c => absurd c n10, fun _ => ⟨zin_n (by omega) (by decide), rfl, jR.thr h1⟩⟩
theorem air_row {h : zMem} {t : Nat} (S1 : zSh1 h t) {p : Nat} (hp : p < 6) : zR h 52 p = some (53 + p) ∧ zO h (53 + p) 100 ∧ zLen h (53 + p) = 6 := by
  rcases (show p = 0 ∨ p = 1 ∨ p = 2 ∨ p = 3 ∨ p = 4 ∨ p = 5 by omega) with rfl | rfl | rfl | rfl | rfl | rfl
  · exact ⟨zcl1.r S1.1 52 0 53 rfl rfl rfl, zcl1.o S1.1 53 100 rfl rfl rfl, zcl1.l S1.1 53 6 rfl rfl rfl⟩
  · exact ⟨zcl1.r S1.1 52 1 54 rfl rfl rfl, zcl1.o S1.1 54 100 rfl rfl rfl, zcl1.l S1.1 54 6 rfl rfl rfl⟩
  · exact ⟨zcl1.r S1.1 52 2 55 rfl rfl rfl, zcl1.o S1.1 55 100 rfl rfl rfl, zcl1.l S1.1 55 6 rfl rfl rfl⟩
  · exact ⟨zcl1.r S1.1 52 3 56 rfl rfl rfl, zcl1.o S1.1 56 100 rfl rfl rfl, zcl1.l S1.1 56 6 rfl rfl rfl⟩
  · exact ⟨zcl1.r S1.1 52 4 57 rfl rfl rfl, zcl1.o S1.1 57 100 rfl rfl rfl, zcl1.l S1.1 57 6 rfl rfl rfl⟩
  · exact ⟨zcl1.r S1.1 52 5 58 rfl rfl rfl, zcl1.o S1.1 58 100 rfl rfl rfl, zcl1.l S1.1 58 6 rfl rfl rfl⟩
set_option maxHeartbeats 1000000 in
theorem pr_air {G : zG} {d : Nat} {h : zMem} (hOK : zOK h) (x y : Int32) : pairI G mX9_air mX10_air (d + 200) [.ref 0, .int x, .int y] [.ref 132, .int x, .int y] h := by
  have hOK' := hOK
  obtain ⟨t, ns, nd, nr, nm, dt, u, nn, tp, S1, S2, -, hI⟩ := hOK'
  obtain ⟨td, md, rl, -⟩ := hI.1
  obtain ⟨t0, t1, t2, t3, h6, h8, h6r, h5, hlw⟩ := td
  obtain ⟨w1, w2, w3, w4, w5, w6, w7, w8⟩ := now0 hI.2.2.1.1
  have P : ∀ h1, cR h h1 → zSh2 (zsI h1 132 0 0) ∧ zInv (zI (zsI h1 132 0 0)) t ns nd nr nm dt u nn tp := fun h1 k => ⟨S2.W k.thr.1, zInv_j S1.2.1 hI k.thr.2⟩
  rcases ix_or x (n := nr) (by omega) with q | ⟨p, hp, rfl⟩
  · refine pair_ro hOK (-1) ?_ (fun h1 k => ?_)
    · refine cn_X9_air (sg_X9_air_0 S1 ⟨_, X9_has_no (k := 2) S1 (by decide) t2 q, ?_⟩)
      rintro v h2 ⟨rfl, rfl⟩
      exact ⟨S1, fun _ => ⟨rfl, cR.rf _⟩, fun c => absurd rfl c⟩
    · obtain ⟨S3, I3⟩ := P h1 k
      refine cn_X10_air (sg_X10_air_0 (S2.W k.1) ⟨_, X10_isRoom_no S3 I3.1.2.1.2.2.1 q, ?_⟩)
      rintro v h2 ⟨rfl, rfl⟩
      exact ⟨S3, fun _ => ⟨rfl, jR.thr h1⟩, fun c => absurd rfl c⟩
  · rcases ix_or y (n := ns) (by omega) with q | ⟨s, hs, rfl⟩
    · refine pair_ro hOK (-1) ?_ (fun h1 k => ?_)
      · refine cn_X9_air (sg_X9_air_0 S1 ⟨_, X9_has_yes (k := 2) S1 (by decide) t2 hp (by omega), ?_⟩)
        rintro v h2 ⟨rfl, rfl⟩
        refine ⟨S1, fun c => absurd c n10, fun _ => ⟨_, X9_has_no (k := 0) S1 (by decide) t0 q, ?_⟩⟩
        rintro v h2' ⟨rfl, rfl⟩
        exact ⟨S1, fun _ => ⟨rfl, cR.rf _⟩, fun c => absurd rfl c⟩
      · obtain ⟨S3, I3⟩ := P h1 k
        refine cn_X10_air (sg_X10_air_0 (S2.W k.1) ⟨_, X10_isRoom_yes S3 I3.1.2.1.2.2.1 hp (by omega), ?_⟩)
        rintro v h2 ⟨rfl, rfl⟩
        refine ⟨S3, fun c => absurd c n10, fun _ => ⟨_, X10_isStuff_no S3 I3.1.2.1.1 q, ?_⟩⟩
        rintro v h2' ⟨rfl, rfl⟩
        exact ⟨S3, fun _ => ⟨rfl, jR.thr h1⟩, fun c => absurd rfl c⟩
    · refine pair_ro hOK (zI h 158 (6 * p + s)) ?_ (fun h1 k => ?_)
      · refine cn_X9_air (sg_X9_air_0 S1 ⟨_, X9_has_yes (k := 2) S1 (by decide) t2 hp (by omega), ?_⟩)
        rintro v h2 ⟨rfl, rfl⟩
        refine ⟨S1, fun c => absurd c n10, fun _ => ⟨_, X9_has_yes (k := 0) S1 (by decide) t0 hs (by omega), ?_⟩⟩
        rintro v h2' ⟨rfl, rfl⟩
        rw [zcla (show p < 2 ^ 31 by omega), zcla (show s < 2 ^ 31 by omega), zcl1.l S1.1 52 6 rfl rfl rfl]
        obtain ⟨a1, a2, a3⟩ := air_row S1 (p := p) (by omega)
        exact ⟨S1, fun c => absurd c n10, fun _ => ⟨zin_n (by omega) (by decide), _, a1, a2, by rw [a3]; exact zin_n (by omega) (by decide), w7 p s hp hs, cR.rf _⟩⟩
      · obtain ⟨S3, I3⟩ := P h1 k
        refine cn_X10_air (sg_X10_air_0 (S2.W k.1) ⟨_, X10_isRoom_yes S3 I3.1.2.1.2.2.1 hp (by omega), ?_⟩)
        rintro v h2 ⟨rfl, rfl⟩
        refine ⟨S3, fun c => absurd c n10, fun _ => ⟨_, X10_isStuff_yes S3 I3.1.2.1.1 hs (by omega), ?_⟩⟩
        rintro v h2' ⟨rfl, rfl⟩
        rw [ix6, zcla (show 6 * p + s < 2 ^ 31 by omega), k.eT.1 158 (by decide)]
        exact ⟨S3, fun c => absurd c n10, fun _ => ⟨zin_n (by omega) (by decide), rfl, jR.thr h1⟩⟩
/-- the keen nose of a monk now -/
theorem X9_keenNow_ok {G : zG} {d t m r : Nat} {h : zMem} (hS : zSh1 h t) (hm : m < 5) (hr : zI h 59 m = nI r) (hr6 : r < 6) (hw : lwOK (zI h) (t + 21)) : zConI G mX9_keenNow (d + 4) [.ref 0, .int (nI m)] h (fun v h' => v = keenF (zI h) 48 t m r ∧ zF h (zI h) h') := by
  refine cn_X9_keenNow (sg_X9_keenNow_0 hS ?_)
  rw [zcla (show m < 2 ^ 31 by omega), hr]
  exact ⟨zin_n hm (by decide), _, X5_keenOf_ok hS (Or.inl rfl) hS.2.1 hr6 hm hw, fun v h3 q => ⟨hS.F q.2, q⟩⟩
set_option maxHeartbeats 1000000 in
theorem pr_mark {G : zG} {d : Nat} {h : zMem} (hOK : zOK h) (x y : Int32) : pairI G mX9_mark mX10_mark (d + 200) [.ref 0, .int x, .int y] [.ref 132, .int x, .int y] h := by
  have hOK' := hOK
  obtain ⟨t, ns, nd, nr, nm, dt, u, nn, tp, S1, S2, -, hI⟩ := hOK'
  obtain ⟨td, md, rl, -⟩ := hI.1
  obtain ⟨t0, t1, t2, t3, h6, h8, h6r, h5, hlw⟩ := td
  obtain ⟨w1, w2, w3, w4, w5, w6, w7, w8⟩ := now0 hI.2.2.1.1
  have P : ∀ h1, cR h h1 → zSh2 (zsI h1 132 0 0) ∧ zInv (zI (zsI h1 132 0 0)) t ns nd nr nm dt u nn tp := fun h1 k => ⟨S2.W k.thr.1, zInv_j S1.2.1 hI k.thr.2⟩
  rcases ix_or x (n := nm) (by omega) with q | ⟨m, hm, rfl⟩
  · refine pair_ro hOK (-1) ?_ (fun h1 k => ?_)
    · refine cn_X9_mark (sg_X9_mark_0 S1 ⟨_, X9_has_no (k := 3) S1 (by decide) t3 q, ?_⟩)
      rintro v h2 ⟨rfl, rfl⟩
      exact ⟨S1, fun _ => ⟨rfl, cR.rf _⟩, fun c => absurd rfl c⟩
    · obtain ⟨S3, I3⟩ := P h1 k
      refine cn_X10_mark (sg_X10_mark_0 (S2.W k.1) ⟨_, X10_isMonk_no S3 I3.1.2.1.2.2.2.1 q, ?_⟩)
      rintro v h2 ⟨rfl, rfl⟩
      exact ⟨S3, fun _ => ⟨rfl, jR.thr h1⟩, fun c => absurd rfl c⟩
  · rcases ix_or y (n := nd) (by omega) with q | ⟨dy, hd, rfl⟩
    · refine pair_ro hOK (-1) ?_ (fun h1 k => ?_)
      · refine cn_X9_mark (sg_X9_mark_0 S1 ⟨_, X9_has_yes (k := 3) S1 (by decide) t3 hm (by omega), ?_⟩)
        rintro v h2 ⟨rfl, rfl⟩
        refine ⟨S1, fun c => absurd c n10, fun _ => ⟨_, X9_has_no (k := 1) S1 (by decide) t1 q, ?_⟩⟩
        rintro v h2' ⟨rfl, rfl⟩
        exact ⟨S1, fun c => absurd rfl c, fun _ => ⟨rfl, cR.rf _⟩⟩
      · obtain ⟨S3, I3⟩ := P h1 k
        refine cn_X10_mark (sg_X10_mark_0 (S2.W k.1) ⟨_, X10_isMonk_yes S3 I3.1.2.1.2.2.2.1 hm (by omega), ?_⟩)
        rintro v h2 ⟨rfl, rfl⟩
        refine ⟨S3, fun c => absurd c n10, fun _ => ⟨_, X10_isDay_no S3 I3.1.2.1.2.1 q, ?_⟩⟩
        rintro v h2' ⟨rfl, rfl⟩
        exact ⟨S3, fun _ => ⟨rfl, jR.thr h1⟩, fun c => absurd rfl c⟩
    · obtain ⟨r, hr, er⟩ := (ab0 hI.2.2.1.2.1).1 m hm
      have er' : zI h 59 m = nI r := (w8 m hm).1.trans er
      have ep : zI h (48 + 3) r = ptM (zI h) r := by unfold ptM; rw [hI.2.1.2]; exact w6 r hr
      have ec : zI h (48 + 12) m = cdM (zI h) 0 m := by unfold cdM; rw [hI.2.1.2, Nat.mul_zero, Nat.zero_add]; exact (w8 m hm).2.1
      refine pair_ro hOK (mkM (zI h) ns 0 m r dy) ?_ (fun h1 k => ?_)
      · refine cn_X9_mark (sg_X9_mark_0 S1 ⟨_, X9_has_yes (k := 3) S1 (by decide) t3 hm (by omega), ?_⟩)
        rintro v h2 ⟨rfl, rfl⟩
        refine ⟨S1, fun c => absurd c n10, fun _ => ⟨_, X9_has_yes (k := 1) S1 (by decide) t1 hd (by omega), ?_⟩⟩
        rintro v h2' ⟨rfl, rfl⟩
        refine ⟨S1, fun _ => ⟨_, X9_keenNow_ok S1 (by omega) er' (by omega) hlw, ?_⟩, fun c => absurd c n10⟩
        rintro v h12 ⟨rfl, z⟩
        have S4 := S1.F z
        have e12 : zI h12 = zI h2' := z.2.2
        refine ⟨S4, _, X5_markOf_ok (b := 48) S4 (Or.inl rfl) S4.2.1 (by rw [e12]; exact t0) h6 (show m < 5 by omega) (show dy < 8 by omega) (by rw [e12]; exact er') (by omega) _, ?_⟩
        rintro v h16 ⟨rfl, rfl⟩
        refine ⟨S4, ?_, z.k⟩
        rw [e12]
        exact eq_mark rl hI.2.1.1 h8 ep ec (eq_keen rl w1 ep hm) hd
      · obtain ⟨S3, I3⟩ := P h1 k
        refine cn_X10_mark (sg_X10_mark_0 (S2.W k.1) ⟨_, X10_isMonk_yes S3 I3.1.2.1.2.2.2.1 hm (by omega), ?_⟩)
        rintro v h2 ⟨rfl, rfl⟩
        refine ⟨S3, fun c => absurd c n10, fun _ => ⟨_, X10_isDay_yes S3 I3.1.2.1.2.1 hd (by omega), ?_⟩⟩
        rintro v h2' ⟨rfl, rfl⟩
        obtain ⟨b1, b2, b3, b4, b5, b6, b7, b8, b9, b10, b11, b12, -⟩ := I3.1.2.1
        refine ⟨S3, fun c => absurd c n10, fun _ => ⟨_, X10_markOf_ok (a := 0) (r := r) S3 b9 b10 b1 h6 (show dy < 16 by omega) (by decide) (show m < 5 by omega) (by rw [Nat.mul_zero, Nat.zero_add, k.eT.1 159 (by decide)]; exact er) (by omega) (b11 m hm) (fun s hs => b12 dy s hd hs), ?_⟩⟩
        rintro v h12 ⟨rfl, z1, z2⟩
        exact ⟨S3.W z1, k.eT.mk _ _ _ _ _, (jR.thr h1).mE z1 z2⟩
