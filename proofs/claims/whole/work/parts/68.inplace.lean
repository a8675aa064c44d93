/-! a stuff in place of another one -/
theorem alk_le {f : Nat → Int32} {a : Nat} : ∀ m b, alk f a m b ≤ m
  | 0, _ => Nat.le_refl _
  | m + 1, b => by
    have := alk_le (f := f) (a := a) m (b + 1)
    rw [alk]
    split <;> omega
theorem alp_le {f : Nat → Int32} : ∀ n a, alp f n a ≤ n * n
  | 0, _ => Nat.le_refl _
  | n + 1, a => by
    have h1 := alk_le (f := f) (a := a) n (a + 1)
    have h2 := alp_le (f := f) n (a + 1)
    rw [alp, Nat.succ_mul, Nat.mul_succ]
    omega
theorem alp_64 {f : Nat → Int32} {n : Nat} (h : n ≤ 8) (a : Nat) : alp f n a < 2 ^ 31 := by
  have := alp_le (f := f) n a
  have : n * n ≤ 8 * 8 := Nat.mul_le_mul h h
  omega
def rowP (f : Nat → Int32) (a b s : Nat) : Int32 := if s = a then 0 else if s = b then f a else f s
set_option maxHeartbeats 2000000 in
theorem X9_markDaysInPlace_ok {G : zG} {d t ns nd m r a b : Nat} {h : zMem} (hS : zSh1 h t) (hn : zI h (t + 1) 0 = nI ns) (h6 : ns ≤ 6) (hnd : zI h (t + 1) 1 = nI nd) (h8 : nd ≤ 8) (hm : m < 5) (hrm : zI h 59 m = nI r) (hr : r < 6) (hw : lwOK (zI h) (t + 21)) (ha : a < 6) (hb : b < 6) (hab : a ≠ b) :
    zConV G mX9_markDaysInPlace (d + 5) [.ref 0, .int (nI m), .int (nI a), .int (nI b)] h (fun h' => (zW h h' ∧ ∀ c, c ≠ 101 → c ≠ 102 → zI h' c = zI h c) ∧ ∀ dy, dy < nd → zI h' 102 dy = smeltF ns (rowP (zI h (t + 9 + 1 + dy)) a b) (zI h 51 r) (keenF (zI h) 48 t m r) (zI h 60 m)) := by
  have htn : t = 8 ∨ t = 103 := hS.2.1
  refine cn_X9_markDaysInPlace (sg_X9_markDaysInPlace_0 hS ⟨_, X9_keenNow_ok hS hm hrm hr hw, ?_⟩)
  rintro v h2 ⟨rfl, q⟩
  rw [zcla (show m < 2 ^ 31 by omega), q.2.2, hrm, zcla (show r < 2 ^ 31 by omega)]
  refine ⟨hS.F q, zin_n hm (by decide), zin_n hr (by decide), ?_⟩
  have loop : ∀ n k (h1 : zMem), n + k = nd → zW h h1 → (∀ c, c ≠ 101 → c ≠ 102 → zI h1 c = zI h c) → (∀ dy, dy < k → zI h1 102 dy = smeltF ns (rowP (zI h (t + 9 + 1 + dy)) a b) (zI h 51 r) (keenF (zI h) 48 t m r) (zI h 60 m)) → zg G mX9_markDaysInPlace (d + 5) 29 [.ref 0, .int (nI m), .int (nI a), .int (nI b), .int (keenF (zI h) 48 t m r), .int (zI h 51 r), .int (nI k)] [] h1 (zPV (fun h' => (zW h h' ∧ ∀ c, c ≠ 101 → c ≠ 102 → zI h' c = zI h c) ∧ ∀ dy, dy < nd → zI h' 102 dy = smeltF ns (rowP (zI h (t + 9 + 1 + dy)) a b) (zI h 51 r) (keenF (zI h) 48 t m r) (zI h 60 m))) := by
    intro n
    induction n with
    | zero =>
      intro k h1 hk q1 q2 q3
      refine sg_X9_markDaysInPlace_29 (hS.W q1) ?_
      rw [q2 (t + 1) (by omega) (by omega), hnd]
      exact ⟨fun _ => ⟨⟨q1, q2⟩, fun dy hd => q3 dy (by omega)⟩, fun c => absurd (nI_le (by omega) (by omega)) c⟩
    | succ n ih =>
      intro k h1 hk q1 q2 q3
      refine sg_X9_markDaysInPlace_29 (hS.W q1) ?_
      rw [q2 (t + 1) (by omega) (by omega), hnd]
      simp only [zcla (show k < 2 ^ 31 by omega), zcla (show m < 2 ^ 31 by omega), zcla (show a < 2 ^ 31 by omega), zcla (show b < 2 ^ 31 by omega), nI_1]
      obtain ⟨h3, e3⟩ : ∃ h3, h3 = zsI (zsI (zcp h1 (t + 9 + 1 + k) 0 101 0 6) 101 b (zI (zcp h1 (t + 9 + 1 + k) 0 101 0 6) 101 a)) 101 a 0 := ⟨_, rfl⟩
      rw [← e3]
      have w3 : zW h h3 := by rw [e3]; exact ((q1.cp _ _ _ _ _).sI _ _ _).sI _ _ _
      have i3 : ∀ c, c ≠ 101 → zI h3 c = zI h1 c := fun c hc => by rw [e3, zI_sI, zup_ne _ _ hc, zI_sI, zup_ne _ _ hc, zI_cp_ne hc]
      have r3 : ∀ s, s < 6 → zI h3 101 s = rowP (zI h (t + 9 + 1 + k)) a b s := fun s hs => by
        unfold rowP
        rw [e3, zI_sI]
        by_cases e : s = a
        · subst e; rw [zup_s, if_pos rfl]
        · rw [zup_i _ _ _ e, if_neg e, zI_sI]
          by_cases e2 : s = b
          · subst e2; rw [zup_s, if_pos rfl, zI_cp ha, q2 _ (by omega) (by omega)]
          · rw [zup_i _ _ _ e2, if_neg e2, zI_cp hs, q2 _ (by omega) (by omega)]
      have S := hS.W w3
      rw [i3 60 (by decide), q2 60 (by decide) (by decide)]
      refine ⟨fun c => absurd c (nI_ge (by omega) (by omega)), fun _ => ⟨zin_n (by omega) (by decide), zin_n ha (by decide), zin_n hb (by decide), zin_n hm (by decide), _, X7_smelt_ok S S.2.1 (by rw [i3 (t + 1) (by omega), q2 (t + 1) (by omega) (by omega)]; exact hn) h6 (zcl1.o S.1 101 100 rfl rfl rfl) (zcl1.l S.1 101 6 rfl rfl rfl) _ _ _, ?_⟩⟩
      rintro v h4 ⟨rfl, rfl⟩
      refine ⟨S, ih (k + 1) _ (by omega) (w3.sI _ _ _) (fun c c1 c2 => ?_) (fun dy hd => ?_)⟩
      · rw [zI_sI, zup_ne _ _ c2, i3 c c1]; exact q2 c c1 c2
      · by_cases e : dy = k
        · subst e; rw [zI_sI, zup_s]; exact smeltF_congr (fun s hs => r3 s (by omega))
        · rw [zI_sI, zup_i _ _ _ e, i3 102 (by decide)]; exact q3 dy (by omega)
  exact loop nd 0 h2 (by omega) q.w (fun c _ _ => by rw [q.2.2]) (fun dy hd => absurd hd (by omega))
theorem cR_12 {h h1 : zMem} (q : zW h h1 ∧ ∀ c, c ≠ 101 → c ≠ 102 → zI h1 c = zI h c) : cR h h1 := ⟨q.1, fun c j hn => by rw [q.2 c (fun e => hn (by unfold jkP; omega)) (fun e => hn (by unfold jkP; omega))], fun c hc => q.2 c (by omega) (by omega)⟩
def cnz (F : Nat → Nat) : Nat → Nat
  | 0 => 0
  | m + 1 => cnz F m + (if F m = 0 then 1 else 0)
def plJ (I : Nat → Nat → Int32) (a b : Nat) : Nat → Nat → Int32 := zup (zup (zup I 132 0 0) 132 50 (nI a)) 132 51 (nI b)
theorem plJ_mx {I : Nat → Nat → Int32} {a b dy s : Nat} (hp : pln I) (ha : a < 6) (hb : b < 6) (hs : s < 6) (hd : dy < 8) : mxM (plJ I a b) dy s = rowP (fun s => I 139 (6 * dy + s)) a b s := by
  have e50 : plJ I a b 132 50 = nI a := by unfold plJ; rw [zup_i _ _ _ (by decide), zup_s]
  have e51 : plJ I a b 132 51 = nI b := by unfold plJ; rw [zup_s]
  have e52 : plJ I a b 132 52 = -1 := by unfold plJ; rw [zup_i _ _ _ (by decide), zup_i _ _ _ (by decide), zup_i _ _ _ (by decide)]; exact hp.2
  have e139 : plJ I a b 139 = I 139 := by unfold plJ; rw [zup_ne _ _ (by decide), zup_ne _ _ (by decide), zup_ne _ _ (by decide)]
  unfold mxM mxC mxB rowP
  rw [e50, e51, e52, e139, if_neg (nI_nm1 (by omega)), if_neg (nI_nm1 (show dy < 2 ^ 31 by omega)), if_neg (nI_nm1 (show a < 2 ^ 31 by omega)), zcla (show a < 2 ^ 31 by omega)]
  by_cases c : s = a
  · rw [if_pos c, if_pos (by rw [c])]
  · rw [if_neg c, if_neg (fun q => c (nI_inj (by omega) (by omega) q))]
    by_cases c2 : s = b
    · rw [if_pos c2, if_pos (by rw [c2])]
    · rw [if_neg c2, if_neg (fun q => c2 (nI_inj (by omega) (by omega) q))]
set_option maxHeartbeats 4000000 in
theorem pr_inPlace {G : zG} {d : Nat} {h : zMem} (hOK : zOK h) (x y : Int32) : pairI G mX9_inPlace mX10_inPlace (d + 200) [.ref 0, .int x, .int y] [.ref 132, .int x, .int y] h := by
  have hOK' := hOK
  obtain ⟨t, ns, nd, nr, nm, dt, u, nn, tp, S1, S2, -, hI⟩ := hOK'
  obtain ⟨td, md, rl, h99, -⟩ := hI.1
  obtain ⟨t0, t1, t2, t3, h6, h8, h6r, h5, hlw⟩ := td
  obtain ⟨w1, w2, w3, w4, w5, w6, w7, w8⟩ := now0 hI.2.2.1.1
  have htn : t = 8 ∨ t = 103 := S1.2.1
  have P : ∀ h1, cR h h1 → zSh2 (zsI h1 132 0 0) ∧ zInv (zI (zsI h1 132 0 0)) t ns nd nr nm dt u nn tp := fun h1 k => ⟨S2.W k.thr.1, zInv_j S1.2.1 hI k.thr.2⟩
  rcases ix_or x (n := ns) (by omega) with q | ⟨a, ha, rfl⟩
  · refine pair_ro hOK (-1) ?_ (fun h1 k => ?_)
    · refine cn_X9_inPlace (sg_X9_inPlace_0 S1 ⟨_, X9_has_no (k := 0) S1 (by decide) t0 q, ?_⟩)
      rintro v h2 ⟨rfl, rfl⟩
      exact ⟨S1, fun _ => ⟨rfl, cR.rf _⟩, fun c => absurd rfl c⟩
    · obtain ⟨S3, I3⟩ := P h1 k
      refine cn_X10_inPlace (sg_X10_inPlace_0 (S2.W k.1) ⟨_, X10_isStuff_no S3 I3.1.2.1.1 q, ?_⟩)
      rintro v h2 ⟨rfl, rfl⟩
      exact ⟨S3, fun _ => ⟨rfl, jR.thr h1⟩, fun c => absurd rfl c⟩
  rcases ix_or y (n := ns) (by omega) with q | ⟨b, hb, rfl⟩
  · refine pair_ro hOK (-1) ?_ (fun h1 k => ?_)
    · refine cn_X9_inPlace (sg_X9_inPlace_0 S1 ⟨_, X9_has_yes (k := 0) S1 (by decide) t0 ha (by omega), ?_⟩)
      rintro v h2 ⟨rfl, rfl⟩
      refine ⟨S1, fun c => absurd c n10, fun _ => ⟨_, X9_has_no (k := 0) S1 (by decide) t0 q, ?_⟩⟩
      rintro v h2' ⟨rfl, rfl⟩
      exact ⟨S1, fun _ => ⟨rfl, cR.rf _⟩, fun c => absurd rfl c⟩
    · obtain ⟨S3, I3⟩ := P h1 k
      refine cn_X10_inPlace (sg_X10_inPlace_0 (S2.W k.1) ⟨_, X10_isStuff_yes S3 I3.1.2.1.1 ha (by omega), ?_⟩)
      rintro v h2 ⟨rfl, rfl⟩
      refine ⟨S3, fun c => absurd c n10, fun _ => ⟨_, X10_isStuff_no S3 I3.1.2.1.1 q, ?_⟩⟩
      rintro v h2' ⟨rfl, rfl⟩
      exact ⟨S3, fun _ => ⟨rfl, jR.thr h1⟩, fun c => absurd rfl c⟩
  by_cases hab : a = b
  · subst hab
    refine pair_ro hOK (-1) ?_ (fun h1 k => ?_)
    · refine cn_X9_inPlace (sg_X9_inPlace_0 S1 ⟨_, X9_has_yes (k := 0) S1 (by decide) t0 ha (by omega), ?_⟩)
      rintro v h2 ⟨rfl, rfl⟩
      refine ⟨S1, fun c => absurd c n10, fun _ => ⟨_, X9_has_yes (k := 0) S1 (by decide) t0 ha (by omega), ?_⟩⟩
      rintro v h2' ⟨rfl, rfl⟩
      exact ⟨S1, fun _ => ⟨rfl, cR.rf _⟩, fun _ => ⟨fun c => absurd rfl c, fun _ => ⟨rfl, cR.rf _⟩⟩⟩
    · obtain ⟨S3, I3⟩ := P h1 k
      refine cn_X10_inPlace (sg_X10_inPlace_0 (S2.W k.1) ⟨_, X10_isStuff_yes S3 I3.1.2.1.1 ha (by omega), ?_⟩)
      rintro v h2 ⟨rfl, rfl⟩
      refine ⟨S3, fun c => absurd c n10, fun _ => ⟨_, X10_isStuff_yes S3 I3.1.2.1.1 ha (by omega), ?_⟩⟩
      rintro v h2' ⟨rfl, rfl⟩
      exact ⟨S3, fun _ => ⟨rfl, jR.thr h1⟩, fun _ => ⟨fun c => absurd rfl c, fun _ => ⟨rfl, jR.thr h1⟩⟩⟩
  have hne : ¬ nI a = nI b := fun q => hab (nI_inj (by omega) (by omega) q)
  obtain ⟨J, hJ⟩ : ∃ J, J = plJ (zI h) a b := ⟨_, rfl⟩
  have Jc : ∀ c, c ≠ 132 → J c = zI h c := fun c hc => by rw [hJ]; unfold plJ; rw [zup_ne _ _ hc, zup_ne _ _ hc, zup_ne _ _ hc]
  have J48 : J 132 48 = 0 := by rw [hJ]; unfold plJ; rw [zup_i _ _ _ (by decide), zup_i _ _ _ (by decide), zup_i _ _ _ (by decide)]; exact hI.2.1.2
  have Jmx : ∀ dy s, dy < nd → s < ns → mxM J dy s = rowP (fun s => zI h 139 (6 * dy + s)) a b s := fun dy s hd hs => by rw [hJ]; exact plJ_mx hI.2.1.1 (by omega) (by omega) (by omega) (by omega)
  obtain ⟨rm, hrm⟩ : ∃ rm : Nat → Nat, rm = fun m => (zI h 159 m).toNatClampNeg := ⟨_, rfl⟩
  have Hrm : ∀ m, m < nm → rm m < nr ∧ zI h 159 m = nI (rm m) := fun m hm => by
    obtain ⟨r, hr, er⟩ := (ab0 hI.2.2.1.2.1).1 m hm
    have : rm m = r := by rw [hrm]; show (zI h 159 m).toNatClampNeg = r; rw [er, zcla (by omega)]
    rw [this]; exact ⟨hr, er⟩
  obtain ⟨F, hF⟩ : ∃ F : Nat → Nat, F = fun m => alp (mkM J ns 0 m (rm m)) nd 0 := ⟨_, rfl⟩
  have Fv : ∀ m, F m = alp (mkM J ns 0 m (rm m)) nd 0 := fun m => by rw [hF]
  have F31 : ∀ m, F m < 2 ^ 31 := fun m => by rw [Fv]; exact alp_64 h8 0
  refine pair_ro2 hOK (nI (cnz F nm)) ?_ (fun h1 k => ?_)
  · refine cn_X9_inPlace (sg_X9_inPlace_0 S1 ⟨_, X9_has_yes (k := 0) S1 (by decide) t0 ha (by omega), ?_⟩)
    rintro v h2 ⟨rfl, rfl⟩
    refine ⟨S1, fun c => absurd c n10, fun _ => ⟨_, X9_has_yes (k := 0) S1 (by decide) t0 hb (by omega), ?_⟩⟩
    rintro v h2' ⟨rfl, rfl⟩
    refine ⟨S1, fun c => absurd c n10, fun _ => ⟨fun _ => ?_, fun c => absurd c hne⟩⟩
    have loop : ∀ n m h1, n + m = nm → (zW h2' h1 ∧ ∀ c, c ≠ 101 → c ≠ 102 → zI h1 c = zI h2' c) → zg G mX9_inPlace (d + 200) 30 [.ref 0, .int (nI a), .int (nI b), .int (nI (cnz F m)), .int (nI m)] [] h1 (zPI (fun v h1 => v = nI (cnz F nm) ∧ cR h2' h1)) := by
      intro n
      induction n with
      | zero =>
        intro m h1 hk q
        refine sg_X9_inPlace_30 (S1.W q.1) ?_
        rw [q.2 (t + 1) (by omega) (by omega), t3, show m = nm by omega]
        exact ⟨fun _ => ⟨rfl, cR_12 q⟩, fun c => absurd (nI_le (by omega) (by omega)) c⟩
      | succ n ih =>
        intro m h1 hk q
        have S := S1.W q.1
        have I1 := zInv_j S1.2.1 hI (cR_12 q).2.1
        have hm : m < nm := by omega
        obtain ⟨hr, er⟩ := Hrm m hm
        have nx := fun h1 => ih (m + 1) h1 (by omega)
        rw [cnz] at nx
        refine sg_X9_inPlace_30 S ?_
        rw [q.2 (t + 1) (by omega) (by omega), t3]
        simp only [nI_1]
        refine ⟨fun c => absurd c (nI_ge (by omega) (by omega)), fun _ => ⟨_, X9_markDaysInPlace_ok (r := rm m) S I1.1.1.1 h6 I1.1.1.2.1 h8 (show m < 5 by omega) (by rw [q.2 59 (by decide) (by decide), (w8 m hm).1]; exact er) (by omega) I1.1.1.2.2.2.2.2.2.2.2 (show a < 6 by omega) (show b < 6 by omega) hab, ?_⟩⟩
        rintro h3 ⟨q1, q2⟩
        have S4 := S.W q1.1
        have q' : zW h2' h3 ∧ ∀ c, c ≠ 101 → c ≠ 102 → zI h3 c = zI h2' c := ⟨q.1.trans q1.1, fun c c1 c2 => (q1.2 c c1 c2).trans (q.2 c c1 c2)⟩
        refine ⟨S4, _, X9_alikePairs_ok (f := mkM J ns 0 m (rm m)) S4 (by rw [q1.2 (t + 1) (by omega) (by omega)]; exact I1.1.1.2.1) h8 (fun dy hd => (q2 dy hd).trans ?_), ?_⟩
        · have ek : keenF (zI h1) 48 t m (rm m) = keF J 0 m (rm m) := by
            rw [keenF_congr (I := zI h2') (q.2 48 (by decide) (by decide)) (q.2 (48 + 3) (by decide) (by decide)) (fun k hk => q.2 (t + k) (by omega) (by omega))]
            rw [eq_keen (a := 0) rl w1 (by unfold ptM; rw [hI.2.1.2]; exact w6 (rm m) hr) hm]
            exact (keF_C (Jc 151 (by decide)) (Jc 144 (by decide)) (Jc 141 (by decide)) (Jc 145 (by decide)) (Jc 146 (by decide)) (Jc 147 (by decide)) (Jc 148 (by decide)) (J48.trans hI.2.1.2.symm) 0 m (rm m)).symm
          unfold mkM
          rw [ek, q.2 51 (by decide) (by decide), q.2 60 (by decide) (by decide), w6 (rm m) hr, (w8 m hm).2.1]
          have e1 : ptM J (rm m) = zI h2' 141 (rm m) := by unfold ptM; rw [J48, Jc 141 (by decide)]; rfl
          have e2 : cdM J 0 m = zI h2' 160 m := by unfold cdM; rw [J48, Jc 160 (by decide), Nat.mul_zero, Nat.zero_add]; rfl
          rw [e1, e2]
          refine smeltF_congr (fun s hs => ?_)
          rw [Jmx dy s hd hs, q.2 (t + 9 + 1 + dy) (by omega) (by omega)]
          unfold rowP
          rw [rl.2.2.2.1 dy a hd ha, rl.2.2.2.1 dy s hd hs]
        · rintro v h4 ⟨rfl, rfl⟩
          rw [← Fv m]
          refine ⟨S4, fun c => ?_, fun c => ?_⟩
          · have : ¬ F m = 0 := fun e => c (by rw [e]; rfl)
            have := nx h4 q'
            rw [if_neg (by assumption)] at this; exact this
          · have : F m = 0 := Nat.eq_zero_of_not_pos (fun p => nI_ne0 p (F31 m) c)
            have := nx h4 q'
            rw [if_pos (by assumption)] at this; exact this
    exact loop nm 0 h2' (by omega) ⟨zW.rf _, fun _ _ _ => rfl⟩
  · obtain ⟨S3, I3⟩ := P h1 k
    refine cn_X10_inPlace (sg_X10_inPlace_0 (S2.W k.1) ⟨_, X10_isStuff_yes S3 I3.1.2.1.1 ha (by omega), ?_⟩)
    rintro v h2 ⟨rfl, rfl⟩
    refine ⟨S3, fun c => absurd c n10, fun _ => ⟨_, X10_isStuff_yes S3 I3.1.2.1.1 hb (by omega), ?_⟩⟩
    rintro v h2' ⟨rfl, rfl⟩
    refine ⟨S3, fun c => absurd c n10, fun _ => ⟨fun _ => ?_, fun c => absurd c hne⟩⟩
    obtain ⟨h3, e3⟩ : ∃ h3, h3 = zsI (zsI (zsI h1 132 0 0) 132 50 (nI a)) 132 51 (nI b) := ⟨_, rfl⟩
    rw [← e3]
    have w3' : zW h1 h3 := by rw [e3]; exact (((zW.rf h1).sI _ _ _).sI _ _ _).sI _ _ _
    have S5 : zSh2 h3 := (S2.W k.1).W w3'
    have IJ : ∀ c, 132 ≤ c → zI h3 c = J c := fun c hc => by
      rw [e3, hJ]
      unfold plJ
      simp only [zI_sI]
      funext j
      unfold zup
      rw [k.2.2 c hc]
    have M3 : mdOK (zI h3) ns nd nr nm := mdOK_E3 md (fun c hc => by rw [IJ c (by omega)]; exact Jc c (by omega)) (Or.inr ⟨a, by omega, by rw [IJ 132 (by omega), hJ]; unfold plJ; rw [zup_i _ _ _ (by decide), zup_s]⟩) (fun dy s hd hs => by
      rw [mxM_C (IJ 132 (by omega)) (IJ 139 (by omega)), Jmx dy s hd hs]
      unfold rowP
      obtain ⟨n1, l1, o1⟩ := h99 dy a hd ha
      obtain ⟨n2, l2, o2⟩ := h99 dy s hd hs
      dsimp only
      rw [o1, o2]
      split
      · exact ⟨0, by omega, rfl⟩
      · split
        · exact ⟨n1, by omega, rfl⟩
        · exact ⟨n2, by omega, rfl⟩)
    have loop : ∀ n m h4, n + m = nm → zW h3 h4 → mE5 (zI h3) (zI h4) → zg G mX10_inPlace (d + 200) 43 [.ref 132, .int (nI a), .int (nI b), .int (nI (cnz F m)), .int (nI m)] [] h4 (zPI (fun v h2 => v = nI (cnz F nm) ∧ jR2 h1 h2)) := by
      intro n
      induction n with
      | zero =>
        intro m h4 hk q1 q2
        refine sg_X10_inPlace_43 (S5.W q1) ?_
        rw [(q2.md M3).2.2.2.1, show m = nm by omega]
        refine ⟨fun _ => ⟨rfl, ((w3'.trans q1).sI _ _ _).sI _ _ _, fun c j n1 n2 => ?_⟩, fun c => absurd (nI_le (by omega) (by omega)) c⟩
        rw [zI_sI, zI_sI]
        by_cases ec : c = 132
        · subst ec
          have j51 : j ≠ 51 := fun e => n2 ⟨rfl, by omega⟩
          have j0 : j ≠ 0 := fun e => n1 (by unfold jkP; omega)
          have j33 : j ≠ 33 := fun e => n1 (by unfold jkP; omega)
          rw [zup_i _ _ _ j51]
          by_cases j50 : j = 50
          · subst j50; rw [zup_s, k.2.2 132 (by decide), hI.2.1.1.1]
          · rw [zup_i _ _ _ j50, q2.2 j j33, e3]
            simp only [zI_sI]
            rw [zup_i _ _ _ j51, zup_i _ _ _ j50, zup_i _ _ _ j0]
        · rw [zup_ne _ _ ec, zup_ne _ _ ec, q2.1 c ec (fun e => n1 (by unfold jkP; omega)), e3]
          simp only [zI_sI]
          rw [zup_ne _ _ ec, zup_ne _ _ ec, zup_ne _ _ ec]
      | succ n ih =>
        intro m h4 hk q1 q2
        have M4 := q2.md M3
        have hm : m < nm := by omega
        obtain ⟨hr, er⟩ := Hrm m hm
        have nx := fun h1 => ih (m + 1) h1 (by omega)
        rw [cnz] at nx
        refine sg_X10_inPlace_43 (S5.W q1) ?_
        rw [M4.2.2.2.1]
        simp only [nI_1, i32_add0]
        refine ⟨fun c => absurd c (nI_ge (by omega) (by omega)), fun _ => ⟨_, X10_pairOf_all (r := rm m) (S5.W q1) M4 hm (by rw [q2.1 159 (by decide) (by decide), IJ 159 (by decide), Jc 159 (by decide)]; exact er) hr, ?_⟩⟩
        rintro v h5' ⟨rfl, z1, z2⟩
        have eF : alp (mkM (zI h4) ns 0 m (rm m)) nd 0 = F m := by
          rw [Fv]
          congr 1
          funext dy
          rw [q2.mk]
          exact mkM_C (IJ 151 (by decide)) (IJ 144 (by decide)) (IJ 141 (by decide)) (IJ 145 (by decide)) (IJ 146 (by decide)) (IJ 147 (by decide)) (IJ 148 (by decide)) (fun k _ => by rw [IJ 132 (by decide)]) (IJ 139 (by decide)) (IJ 160 (by decide)) ns 0 m (rm m) dy
        rw [eF]
        refine ⟨(S5.W q1).W z1, fun c => ?_, fun c => ?_⟩
        · have : ¬ F m = 0 := fun e => c (by rw [e]; rfl)
          have := nx h5' (q1.trans z1) (q2.trans z2)
          rw [if_neg (by assumption)] at this; exact this
        · have : F m = 0 := Nat.eq_zero_of_not_pos (fun p => nI_ne0 p (F31 m) c)
          have := nx h5' (q1.trans z1) (q2.trans z2)
          rw [if_pos (by assumption)] at this; exact this
    exact loop nm 0 h3 (by omega) (zW.rf _) (mE5.rf _)
