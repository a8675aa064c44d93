/-! the whole of a text on the model's side -/
/-- the first m rows are halved -/
def hvR (m : Nat) (h h' : zMem) : Prop := zW h h' ∧ (∀ c, (c < 134 ∨ 134 + m ≤ c) → zI h' c = zI h c) ∧ ∀ c, 134 ≤ c → c < 134 + m → (∀ k, k < hfT c → zI h' c k = zI h c (hfT c + k)) ∧ ∀ k, hfT c ≤ k → zI h' c k = zI h c k
def mtE (A : tM) (h2 h' : zMem) : Prop := ∃ h3, hvR 15 (zsI (zsI h2 132 27 0) 132 28 (-1)) h3 ∧ zW h3 h' ∧ stR (zup (zup (zup (zup (zI h3) 132 60 0) 132 61 (-1)) 132 46 0) 132 47 0) (zI h') 0 (mny A 0) (mny A 3)
def mtxR (h1 : zMem) (n : Nat) (B : Nat → Int32) (r : Sum (Int32 × Nat) (tM × Nat)) (v : Int32) (h' : zMem) : Prop := match r with
  | .inl (f, pl) => v = -1 ∧ ∃ h2, mbad h1 f pl h2 ∧ h' = zsI (zsI h2 132 27 f) 132 28 (nI pl)
  | .inr (A, i) => v = nI i ∧ ∃ p h2, mok h1 n B p h2 ∧ mA A (zI h2) ∧ mtE A h2 h'
section MT
variable {G : zG} {d n p i : Nat} {h1 h : zMem} {B : Nat → Int32} {A : tM}
theorem hv_o (S : zSh2 h) {m : Nat} (hm : m < 15) : zO h (134 + m) 100 ∧ zLen h (134 + m) = 2 * hfT (134 + m) ∧ nI (2 * hfT (134 + m)) / 2 = nI (hfT (134 + m)) ∧ hfT (134 + m) ≤ 64 := by
  rcases (show m = 0 ∨ m = 1 ∨ m = 2 ∨ m = 3 ∨ m = 4 ∨ m = 5 ∨ m = 6 ∨ m = 7 ∨ m = 8 ∨ m = 9 ∨ m = 10 ∨ m = 11 ∨ m = 12 ∨ m = 13 ∨ m = 14 by omega) with rfl | rfl | rfl | rfl | rfl | rfl | rfl | rfl | rfl | rfl | rfl | rfl | rfl | rfl | rfl
  · exact ⟨zcl1.o S 134 100 rfl rfl rfl, zcl1.l S 134 16 rfl rfl rfl, by decide, by decide⟩
  · exact ⟨zcl1.o S 135 100 rfl rfl rfl, zcl1.l S 135 12 rfl rfl rfl, by decide, by decide⟩
  · exact ⟨zcl1.o S 136 100 rfl rfl rfl, zcl1.l S 136 12 rfl rfl rfl, by decide, by decide⟩
  · exact ⟨zcl1.o S 137 100 rfl rfl rfl, zcl1.l S 137 16 rfl rfl rfl, by decide, by decide⟩
  · exact ⟨zcl1.o S 138 100 rfl rfl rfl, zcl1.l S 138 16 rfl rfl rfl, by decide, by decide⟩
  · exact ⟨zcl1.o S 139 100 rfl rfl rfl, zcl1.l S 139 96 rfl rfl rfl, by decide, by decide⟩
  · exact ⟨zcl1.o S 140 100 rfl rfl rfl, zcl1.l S 140 12 rfl rfl rfl, by decide, by decide⟩
  · exact ⟨zcl1.o S 141 100 rfl rfl rfl, zcl1.l S 141 12 rfl rfl rfl, by decide, by decide⟩
  · exact ⟨zcl1.o S 142 100 rfl rfl rfl, zcl1.l S 142 10 rfl rfl rfl, by decide, by decide⟩
  · exact ⟨zcl1.o S 143 100 rfl rfl rfl, zcl1.l S 143 10 rfl rfl rfl, by decide, by decide⟩
  · exact ⟨zcl1.o S 144 100 rfl rfl rfl, zcl1.l S 144 10 rfl rfl rfl, by decide, by decide⟩
  · exact ⟨zcl1.o S 145 100 rfl rfl rfl, zcl1.l S 145 6 rfl rfl rfl, by decide, by decide⟩
  · exact ⟨zcl1.o S 146 100 rfl rfl rfl, zcl1.l S 146 6 rfl rfl rfl, by decide, by decide⟩
  · exact ⟨zcl1.o S 147 100 rfl rfl rfl, zcl1.l S 147 128 rfl rfl rfl, by decide, by decide⟩
  · exact ⟨zcl1.o S 148 100 rfl rfl rfl, zcl1.l S 148 128 rfl rfl rfl, by decide, by decide⟩
theorem hv_step {h0 : zMem} {R : zMem → Prop} {m : Nat} (S : zSh2 h) (v : hvR m h0 h) (hm : m < 15) (K : ∀ h', zSh2 h' → hvR (m + 1) h0 h' → R h') : ∃ Q2 : zMem → Prop, zConV G mX10_half d [.ref (134 + m)] h Q2 ∧ (∀ h3, Q2 h3 → zSh2 h3 ∧ R h3) := by
  obtain ⟨o1, o2, o3, o4⟩ := hv_o S hm
  refine ⟨_, X10_half_ok S o1 o2 o3 o4, ?_⟩
  rintro h3 ⟨w, e1, e2, e3⟩
  have S3 := S.W w
  obtain ⟨v1, v2, v3⟩ := v
  refine ⟨S3, K h3 S3 ⟨v1.trans w, fun c hc => (e1 c (by omega)).trans (v2 c (by omega)), fun c a1 a2 => ?_⟩⟩
  by_cases e : c = 134 + m
  · subst e
    have := v2 (134 + m) (by omega)
    exact ⟨fun k hk => by rw [e2 k hk, this], fun k hk => by rw [e3 k hk, this]⟩
  · obtain ⟨x1, x2⟩ := v3 c a1 (by omega)
    rw [e1 c e]
    exact ⟨x1, x2⟩
theorem hv_0 (h0 : zMem) : hvR 0 h0 h0 := ⟨zW.rf _, fun _ _ => rfl, fun c a1 a2 => by omega⟩
theorem mt_end {Q : Int32 → zMem → Prop} {x1 x2 : Int32} (b : mBs h1 n B) (q : mok h1 n B p h) (m : mA A (zI h)) (wA : wfA A) (e19 : zI h 132 19 = nI i) (t37 : tkt B n p = 37) (K : ∀ h', mtE A h h' → Q (nI i) h') : zg G mX10_text (d + 2) 117 [.ref 132, .int x1, .int x2] [] h (zPI Q) := by
  have S := q.1.sh b
  have e25 := q.2.2.2
  have e26 := q.1.2.2.2.2 e25
  have so := q.2.1.2.2.2.o.2.2.mpr t37
  refine sg_X10_text_117 S ⟨fun z => absurd e25 z, fun _ => ⟨fun _ => ?_, fun z => absurd so z⟩⟩
  have ea : zI (zsI h 132 27 (zI h 132 25)) 132 26 = -1 := by rw [zI_sI, zup_i _ _ _ (by decide)]; exact e26
  rw [ea, e25]
  obtain ⟨hs, ehs⟩ : ∃ hs, hs = zsI (zsI h 132 27 0) 132 28 (-1) := ⟨_, rfl⟩
  rw [← ehs]
  have ws : zW h hs := by rw [ehs]; exact ((zW.rf h).sI _ _ _).sI _ _ _
  have es : ∀ c, c ≠ 132 → zI hs c = zI h c := fun c hc => by rw [ehs]; simp only [zI_sI]; rw [zup_ne _ _ hc, zup_ne _ _ hc]
  have es2 : ∀ j, j ≠ 27 → j ≠ 28 → zI hs 132 j = zI h 132 j := fun j a c => by rw [ehs]; simp only [zI_sI]; rw [zup_i _ _ _ c, zup_i _ _ _ a]
  refine ⟨fun _ => ?_, fun z => absurd (by rw [es2 25 (by decide) (by decide)]; exact e25) z⟩
  refine hv_step (m := 0) (S.W ws) (hv_0 hs) (by decide) (fun h2 s2 v2 => ?_)
  refine hv_step (m := 1) s2 v2 (by decide) (fun h3 s3 v3 => ?_)
  refine hv_step (m := 2) s3 v3 (by decide) (fun h4 s4 v4 => ?_)
  refine hv_step (m := 3) s4 v4 (by decide) (fun h5 s5 v5 => ?_)
  refine hv_step (m := 4) s5 v5 (by decide) (fun h6 s6 v6 => ?_)
  refine hv_step (m := 5) s6 v6 (by decide) (fun h7 s7 v7 => ?_)
  refine hv_step (m := 6) s7 v7 (by decide) (fun h8 s8 v8 => ?_)
  refine hv_step (m := 7) s8 v8 (by decide) (fun h9 s9 v9 => ?_)
  refine hv_step (m := 8) s9 v9 (by decide) (fun h10 s10 v10 => ?_)
  refine hv_step (m := 9) s10 v10 (by decide) (fun h11 s11 v11 => ?_)
  refine hv_step (m := 10) s11 v11 (by decide) (fun h12 s12 v12 => ?_)
  refine hv_step (m := 11) s12 v12 (by decide) (fun h13 s13 v13 => ?_)
  refine hv_step (m := 12) s13 v13 (by decide) (fun h14 s14 v14 => ?_)
  refine hv_step (m := 13) s14 v14 (by decide) (fun h15 s15 v15 => ?_)
  refine hv_step (m := 14) s15 v15 (by decide) (fun h16 s16 v16 => ?_)
  obtain ⟨hz, ehz⟩ : ∃ hz, hz = zsI (zsI (zsI (zsI h16 132 60 0) 132 61 (-1)) 132 46 0) 132 47 0 := ⟨_, rfl⟩
  rw [← ehz]
  have wz : zW h16 hz := by rw [ehz]; exact ((((zW.rf _).sI _ _ _).sI _ _ _).sI _ _ _).sI _ _ _
  have Sz := s16.W wz
  have ez : ∀ c, c ≠ 132 → zI hz c = zI h16 c := fun c hc => by rw [ehz]; simp only [zI_sI]; rw [zup_ne _ _ hc, zup_ne _ _ hc, zup_ne _ _ hc, zup_ne _ _ hc]
  have v134 := v16.2.2 134 (by decide) (by decide)
  have z0 : zI hz 134 0 = nI (mny A 0) := by
    rw [ez 134 (by decide), v134.1 0 (by decide), es 134 (by decide)]
    exact m.1.1.trans (wA 0 (by decide)).1
  have z4 : zI hz 134 4 = nI (mny A 3) := by
    rw [ez 134 (by decide), v134.1 4 (by decide), es 134 (by decide)]
    exact m.2.2.2.2.1.1.trans (wA 3 (by decide)).1
  refine ⟨fun h' => zW hz h' ∧ stR (zI hz) (zI h') 0 (mny A 0) (mny A 3), cn_X10_begins (sg_X10_begins_0 Sz ⟨_, X10_starts_ok (a := 0) Sz (by decide) z0 (wA 0 (by decide)).2 z4 (wA 3 (by decide)).2, fun h2 z => ⟨Sz.W z.1, z⟩⟩), ?_⟩
  rintro h49 ⟨w49, r49⟩
  refine ⟨Sz.W w49, ?_⟩
  have e49 : zI h49 132 19 = nI i := by
    rw [r49.1 132 (by decide), ehz]
    simp only [zI_sI]
    rw [zup_i _ _ _ (by decide), zup_i _ _ _ (by decide), zup_i _ _ _ (by decide), zup_i _ _ _ (by decide), v16.2.1 132 (by decide), es2 19 (by decide) (by decide)]
    exact e19
  rw [e49]
  refine K h49 ⟨h16, ehs ▸ v16, wz.trans w49, ?_⟩
  have ei : zI hz = zup (zup (zup (zup (zI h16) 132 60 0) 132 61 (-1)) 132 46 0) 132 47 0 := by rw [ehz]; rfl
  rw [ei] at r49
  exact r49
theorem mt_bad {Q : Int32 → zMem → Prop} {x1 x2 f : Int32} {pl : Nat} (b : mBs h1 n B) (q : mbad h1 f pl h) (K : ∀ h', h' = zsI (zsI h 132 27 f) 132 28 (nI pl) → Q (-1) h') : zg G mX10_text (d + 2) 117 [.ref 132, .int x1, .int x2] [] h (zPI Q) := by
  have S := q.1.sh b
  obtain ⟨q1, q2, q3, q4⟩ := q
  refine sg_X10_text_117 S ⟨fun _ => ?_, fun z => absurd (q2.symm.trans z) q3⟩
  have ea : zI (zsI h 132 27 (zI h 132 25)) 132 26 = nI pl := by rw [zI_sI, zup_i _ _ _ (by decide)]; exact q4
  rw [ea, q2]
  refine ⟨fun z => absurd ?_ q3, fun _ => K _ rfl⟩
  rw [← q2, ← z, zI_sI, zup_i _ _ _ (by decide), zI_sI, zup_i _ _ _ (by decide)]
theorem mt_loop {Q : Int32 → zMem → Prop} {x1 x2 : Int32} (hG : gK G) (b : mBs h1 n B) : ∀ (k i : Nat) {A : tM} {p : Nat} {h : zMem}, k + i = n → i ≤ p → mok h1 n B p h → mA A (zI h) → wfA A → wfL A → zI h 132 29 = 0 → zI h 132 19 = nI i → (∀ v h', mtxR h1 n B (txF B n k i A p) v h' → Q v h') → zg G mX10_text (d + 134) 117 [.ref 132, .int x1, .int x2] [] h (zPI Q)
  | k, i, A, p, h, hk, hip, q, m, wA, wL, e29, e19, K => by
    by_cases t37 : tkt B n p = 37
    · refine mt_end (d := d + 132) b q m wA e19 t37 (fun h' e => K _ h' ?_)
      have : txF B n k i A p = .inr (A, i) := by
        cases k with
        | zero => rfl
        | succ k => rw [txF, if_pos t37]
      rw [this]
      exact ⟨rfl, p, h, q, m, e⟩
    · have so : ¬ zI h 132 23 = 4 := fun z => t37 (q.2.1.2.2.2.o.2.2.mp z)
      have hp := q.2.2.1
      cases k with
      | zero =>
        exfalso
        have hpn : p = n := by omega
        apply t37
        unfold tkt
        have := (tks_le B hp).1
        rw [if_neg (by omega)]
      | succ k =>
        rw [txF, if_neg t37] at K
        refine sg_X10_text_117 (q.1.sh b) ⟨fun z => absurd q.2.2.2 z, fun _ => ⟨fun z => absurd z so, fun _ => ⟨_, X10_line_ok (d := d) hG b q m wA wL e29 e19 t37, fun h2 r => ?_⟩⟩⟩
        cases e : rdLn B n A p with
        | inl x =>
          obtain ⟨f, pl⟩ := x
          rw [e] at r K
          exact ⟨r.1.sh b, mt_bad (d := d + 132) b r (fun h' e' => K _ h' ⟨rfl, h2, r, e'⟩)⟩
        | inr x =>
          obtain ⟨A', p'⟩ := x
          rw [e] at r K
          obtain ⟨w1, w2, w3, w4⟩ := rdLn_wf hp wA wL e
          obtain ⟨r1, r2, r3, r4⟩ := r
          exact ⟨r1.1.sh b, mt_loop hG b k (i + 1) (by omega) (by omega) r1 r2 w1 w2 r3 r4 K⟩
theorem ceP_mA {I J : Nat → Nat → Int32} {b0 : Nat} (c : ceP I b0) (h134 : ∀ k, k < 8 → J 134 (8 + k) = 0) (h145 : ∀ k, 3 ≤ k → k < 6 → J 145 k = 0 ∧ J 146 k = 0) (h18 : J 132 18 = 0) (h30 : J 132 30 = 0) : mA (fun k => I (b0 + k)) J := by
  have w := (ceP_wf c).1
  obtain ⟨c1, c2, c3, ⟨c4, c5, c6⟩, c7, c8, c9, c10⟩ := c
  have e : ∀ kd, kd < 4 → mny (fun k => I (b0 + k)) kd = 0 := fun kd hk => by
    unfold mny
    show (I (b0 + 1) kd).toNatClampNeg = 0
    rw [c1 kd hk]; rfl
  have c3' : ∀ k s, k < 8 → s < 6 → I (b0 + (10 + k)) s = 0 := fun k s hk hs => by rw [show b0 + (10 + k) = b0 + 9 + 1 + k by omega]; exact c3 k s hk hs
  have c6' : ∀ r, r < 3 → I (b0 + 26) r = 0 := c6
  refine ⟨⟨?_, fun k hk => ?_⟩, ⟨?_, fun k hk => ?_, fun k _ hk => c2 k hk⟩, ⟨⟨?_, 0, by decide, c7⟩, fun k s hk hs => ?_, fun k s hk hs => ⟨0, by decide, c3' k s hk hs⟩, fun k s _ hk hs => c3' k s hk hs⟩, ⟨?_, fun k hk => ?_⟩, ⟨?_, fun k hk => ?_⟩, ⟨?_, 0, by decide, c8⟩, ⟨?_, ?_, fun r hr => ?_⟩, fun r hr => ⟨fun _ => ?_, fun z => absurd (c6' r hr) z⟩, ?_, ?_, fun k hk => ?_⟩
  · exact (h134 0 (by decide)).trans (c1 0 (by decide)).symm
  · rw [e 0 (by decide)] at hk; omega
  · exact (h134 1 (by decide)).trans (c1 1 (by decide)).symm
  · rw [e 1 (by decide)] at hk; omega
  · exact (h134 2 (by decide)).trans c7.symm
  · rw [e 1 (by decide)] at hk; omega
  · exact (h134 3 (by decide)).trans (c1 2 (by decide)).symm
  · rw [e 2 (by decide)] at hk; omega
  · exact (h134 4 (by decide)).trans (c1 3 (by decide)).symm
  · rw [e 3 (by decide)] at hk; omega
  · exact (h134 5 (by decide)).trans c8.symm
  · rw [h18]; exact ⟨fun z => absurd z (tb_0 (by decide)), fun z => absurd c9 z⟩
  · rw [h18]; exact ⟨fun z => absurd z (tb_0 (by decide)), fun z => absurd c10 z⟩
  · rw [h18]; exact ⟨fun z => absurd z (tb_0 (by omega)), fun z => absurd (c6' r hr) z⟩
  · exact h145 (3 + r) (by omega) (by omega)
  · exact (h134 7 (by decide)).trans c4.symm
  · exact h30.trans c5.symm
  · exfalso
    have : (fun k => I (b0 + k)) 21 7 = 0 := c4
    rw [this] at hk
    exact absurd hk (Nat.not_lt_zero _)
/-- the state that a text's reading begins with -/
def mtB (h : zMem) (n : Nat) : zMem := zsI (zsI (zsI h 132 0 0) 132 20 (nI n)) 132 2 0
theorem X10_text_ok {Q : Int32 → zMem → Prop} {tp b0 : Nat} {I : Nat → Nat → Int32} (hG : gK G) (S : zSh2 h) (T : tpM (zI h) B n) (h2 : zI h 132 2 = nI tp) (h700 : tp ≤ 700) (hn : n ≤ tp) (c : ceP I b0) (K : ∀ v h', mtxR (mtB h n) n B (txF B n n 0 (fun k => I (b0 + k)) 0) v h' → Q v h') : zConI G mX10_text (d + 134) [.ref 132, .int (nI n)] h Q := by
  have hle : nI n ≤ zI (zsI h 132 0 0) 132 2 := by rw [zI_sI, zup_i _ _ _ (by decide), h2]; exact nI_le hn (by omega)
  refine cn_X10_text (sg_X10_text_0 S ⟨fun z => absurd z (nI_pos (by omega)), fun _ => ⟨fun _ => ?_, fun z => absurd hle z⟩⟩)
  obtain ⟨hb, ehb⟩ : ∃ hb, hb = mtB h n := ⟨_, rfl⟩
  have wb : zW h hb := by rw [ehb]; exact (((zW.rf h).sI _ _ _).sI _ _ _).sI _ _ _
  have b : mBs hb n B := ⟨S.W wb, fun k hk => by rw [ehb]; unfold mtB; simp only [zI_sI]; rw [zup_ne _ _ (by decide), zup_ne _ _ (by decide), zup_ne _ _ (by decide)]; exact T.1 k hk, T.2⟩
  obtain ⟨hc, ehc⟩ : ∃ hc, hc = zsI (zsI (zsI (zsI (zsI (zsI h 132 0 (0)) 132 20 (nI n)) 132 2 (0)) 132 21 (0)) 132 25 (0)) 132 26 (-1) := ⟨_, rfl⟩
  rw [← ehc]
  have ehc' : hc = zsI (zsI (zsI hb 132 21 0) 132 25 0) 132 26 (-1) := by rw [ehc, ehb]; rfl
  have Xc : mX hb hc := by
    rw [ehc']
    refine ⟨(((zW.rf hb).sI _ _ _).sI _ _ _).sI _ _ _, fun c a1 a2 => ?_, fun c j a1 a2 a3 => ?_, fun j a1 => ?_, fun _ => ?_⟩
    · simp only [zI_sI]; rw [zup_ne _ _ a1, zup_ne _ _ a1, zup_ne _ _ a1]
    · simp only [zI_sI]; rw [zup_ne _ _ (by omega), zup_ne _ _ (by omega), zup_ne _ _ (by omega)]
    · simp only [zI_sI]; rw [zup_i _ _ _ (by omega), zup_i _ _ _ (by omega), zup_i _ _ _ (by omega)]
    · simp only [zI_sI]; rw [zup_s]
  have c20 : zI hc 132 20 = nI n := by rw [ehc]; simp only [zI_sI]; rw [zup_i _ _ _ (by decide), zup_i _ _ _ (by decide), zup_i _ _ _ (by decide), zup_i _ _ _ (by decide), zup_s]
  have c21 : zI hc 132 21 = 0 := by rw [ehc]; simp only [zI_sI]; rw [zup_i _ _ _ (by decide), zup_i _ _ _ (by decide), zup_s]
  have c25 : zI hc 132 25 = 0 := by rw [ehc]; simp only [zI_sI]; rw [zup_i _ _ _ (by decide), zup_s]
  rw [← ehb] at K
  -- sums of the laws
  have L2 : ∀ m k (h2 : zMem), m + k = 6 → 3 ≤ k → mX hb h2 → zI h2 132 = zI hc 132 → (∀ j, j < 8 → zI h2 134 (8 + j) = 0) → (∀ j, 3 ≤ j → j < k → zI h2 145 j = 0 ∧ zI h2 146 j = 0) → zg G mX10_text (d + 134) 67 [.ref 132, .int (nI n), .int (nI k)] [] h2 (zPI Q) := by
    intro m
    induction m with
    | zero =>
      intro k h2 hk hk3 X e1 e2 e3
      have : k = 6 := by omega
      subst this
      refine sg_X10_text_67 (X.sh b) ⟨fun _ => ?_, fun z => absurd (show nI 6 ≤ nI 6 from nI_le (Nat.le_refl _) (by decide)) z⟩
      obtain ⟨h5, e5⟩ : ∃ h5, h5 = zsI (zsI (zsI (zsI h2 132 18 (0)) 132 19 (0)) 132 29 (0)) 132 30 (0) := ⟨_, rfl⟩
      rw [← e5]
      have X5 : mX hb h5 := by
        rw [e5]
        exact (((X.up (by omega)).up (by omega)).up (by omega)).up (by omega)
      have i5 : ∀ c, c ≠ 132 → zI h5 c = zI h2 c := fun c hc => by rw [e5]; simp only [zI_sI]; rw [zup_ne _ _ hc, zup_ne _ _ hc, zup_ne _ _ hc, zup_ne _ _ hc]
      have j5 : ∀ j, j ≠ 18 → j ≠ 19 → j ≠ 29 → j ≠ 30 → zI h5 132 j = zI hc 132 j := fun j a1 a2 a3 a4 => by rw [e5]; simp only [zI_sI]; rw [zup_i _ _ _ a4, zup_i _ _ _ a3, zup_i _ _ _ a2, zup_i _ _ _ a1, e1]
      have f18 : zI h5 132 18 = 0 := by rw [e5]; simp only [zI_sI]; rw [zup_i _ _ _ (by decide), zup_i _ _ _ (by decide), zup_i _ _ _ (by decide), zup_s]
      have f19 : zI h5 132 19 = 0 := by rw [e5]; simp only [zI_sI]; rw [zup_i _ _ _ (by decide), zup_i _ _ _ (by decide), zup_s]
      have f29 : zI h5 132 29 = 0 := by rw [e5]; simp only [zI_sI]; rw [zup_i _ _ _ (by decide), zup_s]
      have f30 : zI h5 132 30 = 0 := by rw [e5]; simp only [zI_sI]; rw [zup_s]
      refine ⟨_, X10_token_ok (d := d + 122) (p := 0) hG (X5.sh b) (X5.tp b) (by rw [j5 20 (by decide) (by decide) (by decide) (by decide)]; exact c20) (by rw [j5 21 (by decide) (by decide) (by decide) (by decide)]; exact c21) (Nat.zero_le _), ?_⟩
      rintro h6 ⟨r6, s6⟩
      have X6 := X5.mt r6
      refine ⟨X6.sh b, ?_⟩
      have q6 : mok hb n B 0 h6 := ⟨X6, s6, Nat.zero_le _, by rw [r6.2.2 25 (by decide), j5 25 (by decide) (by decide) (by decide) (by decide)]; exact c25⟩
      refine mt_loop hG b n 0 rfl (Nat.le_refl _) q6 (ceP_mA c (fun k hk => ?_) (fun k a1 a2 => ?_) ?_ ?_) (ceP_wf c).1 (ceP_wf c).2 ?_ ?_ K
      · rw [r6.2.1 134 (by decide), i5 134 (by decide)]; exact e2 k hk
      · rw [r6.2.1 145 (by decide), r6.2.1 146 (by decide), i5 145 (by decide), i5 146 (by decide)]; exact e3 k a1 a2
      · rw [r6.2.2 18 (by decide)]; exact f18
      · rw [r6.2.2 30 (by decide)]; exact f30
      · rw [r6.2.2 29 (by decide)]; exact f29
      · rw [r6.2.2 19 (by decide)]; exact f19
    | succ m ih =>
      intro k h2 hk hk3 X e1 e2 e3
      refine sg_X10_text_67 (X.sh b) ⟨fun z => absurd z (nI_ge (b := 6) (by omega) (by decide)), fun _ => ⟨zin_n (by omega) (by decide), ?_⟩⟩
      rw [zcla (show k < 2 ^ 31 by omega), nI_1]
      refine ih (k + 1) _ (by omega) (by omega) ((X.up (c := 145) (j := k) (v := 0) (Or.inl ⟨by decide, by decide, hk3⟩)).up (c := 146) (j := k) (v := 0) (Or.inl ⟨by decide, by decide, hk3⟩)) ?_ (fun j hj => ?_) (fun j a1 a2 => ?_)
      · simp only [zI_sI]; rw [zup_ne _ _ (by decide), zup_ne _ _ (by decide)]; exact e1
      · simp only [zI_sI]; rw [zup_ne _ _ (by decide), zup_ne _ _ (by decide)]; exact e2 j hj
      · simp only [zI_sI]
        rw [zup_ne _ _ (show (145 : Nat) ≠ 146 by decide)]
        by_cases e : j = k
        · subst e; rw [zup_s, zup_s]; exact ⟨rfl, rfl⟩
        · rw [zup_i _ _ _ e, zup_i _ _ _ e, zup_ne _ _ (by decide)]; exact e3 j a1 (by omega)
  have L1 : ∀ m k (h2 : zMem), m + k = 8 → mX hb h2 → zI h2 132 = zI hc 132 → (∀ j, j < k → zI h2 134 (8 + j) = 0) → zg G mX10_text (d + 134) 47 [.ref 132, .int (nI n), .int (nI k)] [] h2 (zPI Q) := by
    intro m
    induction m with
    | zero =>
      intro k h2 hk X e1 e2
      have : k = 8 := by omega
      subst this
      exact sg_X10_text_47 (X.sh b) ⟨fun _ => L2 3 3 h2 rfl (Nat.le_refl _) X e1 e2 (fun j a1 a2 => by omega), fun z => absurd (show nI 8 ≤ nI 8 from nI_le (Nat.le_refl _) (by decide)) z⟩
    | succ m ih =>
      intro k h2 hk X e1 e2
      refine sg_X10_text_47 (X.sh b) ⟨fun z => absurd z (nI_ge (b := 8) (by omega) (by decide)), fun _ => ?_⟩
      rw [nI_1]
      refine m_reads (X.sh b) (by omega) (ih (k + 1) _ (by omega) (X.up (c := 134) (j := 8 + k) (v := 0) (Or.inl ⟨by decide, by decide, show 8 ≤ 8 + k by omega⟩)) ?_ (fun j hj => ?_))
      · rw [zI_sI, zup_ne _ _ (by decide)]; exact e1
      · rw [zI_sI]
        by_cases e : j = k
        · subst e; rw [zup_s]
        · rw [zup_i _ _ _ (by omega)]; exact e2 j (by omega)
  exact L1 8 0 hc rfl Xc rfl (fun j hj => absurd hj (by omega))
theorem X10_text_no {Q : Int32 → zMem → Prop} {tp : Nat} {x : Int32} (S : zSh2 h) (h2 : zI h 132 2 = nI tp) (c : x < 0 ∨ nI tp < x) (K : Q (-2) (zsI h 132 0 0)) : zConI G mX10_text (d + 1) [.ref 132, .int x] h Q := by
  refine cn_X10_text (sg_X10_text_0 S ⟨fun _ => K, fun c1 => ⟨fun c2 => ?_, fun _ => K⟩⟩)
  exfalso
  rw [zI_sI, zup_i _ _ _ (by decide), h2] at c2
  rcases c with c | c
  · exact c1 c
  · rw [Int32.lt_iff_toInt_lt] at c
    rw [Int32.le_iff_toInt_le] at c2
    omega
end MT
