/-! a morning of the model: mixing and drifting -/
def mN (I : Nat → Nat → Int32) (nd dt s : Nat) : Int32 := if nd = 0 then 0 else mxM I (dt % nd) s
def tkM (I : Nat → Nat → Int32) (a nd dt s : Nat) : Int32 := if I 132 48 = 4 then mN I nd dt s else (if I 156 (6 * a + s) < mN I nd dt s then I 156 (6 * a + s) else mN I nd dt s)
def stM (I : Nat → Nat → Int32) (a nd dt s : Nat) : Int32 := if I 132 48 = 4 then I 156 (6 * a + s) else I 156 (6 * a + s) - tkM I a nd dt s
def mixR (I I' : Nat → Nat → Int32) (a ns nd dt : Nat) : Prop := (∀ c, c ≠ 156 → c ≠ 164 → I' c = I c) ∧ (∀ s, s < ns → I' 164 s = tkM I a nd dt s) ∧ (∀ s, s < ns → I' 156 (6 * a + s) = stM I a nd dt s) ∧ ∀ j, j < 6 * a ∨ 6 * a + ns ≤ j → I' 156 j = I 156 j
theorem mxM_C {I I' : Nat → Nat → Int32} (h1 : I' 132 = I 132) (h2 : I' 139 = I 139) (d s : Nat) : mxM I' d s = mxM I d s := by
  unfold mxM mxC mxB
  rw [h1, h2]
set_option maxHeartbeats 4000000 in
theorem X10_mixes_ok {G : zG} {d : Nat} {h : zMem} (hS : zSh2 h) (hp : plOK (zI h)) {a ns nd dt : Nat} (ha : a < 23) (hn : zI h 134 0 = nI ns) (h6 : ns ≤ 6) (hnd : zI h 134 1 = nI nd) (h8 : nd ≤ 8) (hdt : zI h 151 a = nI dt) (hd : dt < 2 ^ 31) :
    zConV G mX10_mixes (d + 1) [.ref 132, .int (nI a)] h (fun h' => zW h h' ∧ mixR (zI h) (zI h') a ns nd dt) := by
  refine cn_X10_mixes (sg_X10_mixes_0 hS ?_)
  obtain ⟨Q, hQ⟩ : ∃ Q : zMem → Prop, Q = (fun h' => zW h h' ∧ mixR (zI h) (zI h') a ns nd dt) := ⟨_, rfl⟩
  rw [← hQ]
  have loop : ∀ n k (h1 : zMem), n + k = ns → zW h h1 → (∀ c, c ≠ 156 → c ≠ 164 → zI h1 c = zI h c) → (∀ s, s < k → zI h1 164 s = tkM (zI h) a nd dt s) → (∀ s, s < k → zI h1 156 (6 * a + s) = stM (zI h) a nd dt s) → (∀ j, j < 6 * a ∨ 6 * a + k ≤ j → zI h1 156 j = zI h 156 j) →
      zg G mX10_mixes (d + 1) 2 [.ref 132, .int (nI a), .int (nI k), zU] [] h1 (zPV Q) := by
    intro n
    induction n with
    | zero =>
      intro k h1 hk hW f1 f2 f3 f4
      have : k = ns := by omega
      subst this
      refine sg_X10_mixes_2 (hS.W hW) ?_
      rw [f1 134 (by decide) (by decide), hn, hQ]
      exact ⟨fun _ => ⟨hW, f1, f2, f3, f4⟩, fun c => absurd (nI_le (Nat.le_refl _) (by omega)) c⟩
    | succ n ih =>
      intro k h1 hk hW f1 f2 f3 f4
      have S1 := hS.W hW
      have e132 := f1 132 (by decide) (by decide)
      have est : zI h1 156 (6 * a + k) = zI h 156 (6 * a + k) := f4 _ (by omega)
      have fin : ∀ v : Int32, v = mN (zI h) nd dt k → ((zI h1 132 48 = 4 → vp_in (nI k) 6 ∧ zg G mX10_mixes (d + 1) 2 [.ref 132, .int (nI a), .int (nI (k + 1)), zU] [] (zsI h1 164 k v) (zPV Q)) ∧ (¬ zI h1 132 48 = 4 → vp_in (nI (6 * a + k)) 138 ∧ vp_in (nI k) 6 ∧ zg G mX10_mixes (d + 1) 2 [.ref 132, .int (nI a), .int (nI (k + 1)), zU] [] (zsI (zsI h1 156 (6 * a + k) (zI h1 156 (6 * a + k) - (if zI h1 156 (6 * a + k) < v then zI h1 156 (6 * a + k) else v))) 164 k (if zI h1 156 (6 * a + k) < v then zI h1 156 (6 * a + k) else v)) (zPV Q))) := by
        intro v hv
        rw [e132, est]
        refine ⟨fun c => ⟨zin_n (by omega) (by decide), ih (k + 1) _ (by omega) (hW.sI _ _ _) (fun x x1 x2 => ?_) (fun s hs => ?_) (fun s hs => ?_) (fun j hj => ?_)⟩, fun c => ⟨zin_n (by omega) (by decide), zin_n (by omega) (by decide), ih (k + 1) _ (by omega) ((hW.sI _ _ _).sI _ _ _) (fun x x1 x2 => ?_) (fun s hs => ?_) (fun s hs => ?_) (fun j hj => ?_)⟩⟩
        · rw [zI_sI, zup_ne _ _ x2]; exact f1 x x1 x2
        · by_cases e : s = k
          · subst e; rw [zI_sI, zup_s, hv]; unfold tkM; rw [if_pos c]
          · rw [zI_sI, zup_i _ _ _ e]; exact f2 s (by omega)
        · rw [zI_sI, zup_ne _ _ (by decide)]
          by_cases e : s = k
          · subst e; rw [est]; unfold stM; rw [if_pos c]
          · exact f3 s (by omega)
        · rw [zI_sI, zup_ne _ _ (by decide)]; exact f4 j (by omega)
        · rw [zI_sI, zup_ne _ _ x2, zI_sI, zup_ne _ _ x1]; exact f1 x x1 x2
        · by_cases e : s = k
          · subst e; rw [zI_sI, zup_s, hv]; unfold tkM; rw [if_neg c]
          · rw [zI_sI, zup_i _ _ _ e, zI_sI, zup_ne _ _ (by decide)]; exact f2 s (by omega)
        · rw [zI_sI, zup_ne _ _ (by decide), zI_sI]
          by_cases e : s = k
          · subst e; rw [zup_s, hv]; unfold stM tkM; rw [if_neg c, if_neg c]
          · rw [zup_i _ _ _ (by omega)]; exact f3 s (by omega)
        · rw [zI_sI, zup_ne _ _ (by decide), zI_sI, zup_i _ _ _ (by omega)]; exact f4 j (by omega)
      refine sg_X10_mixes_2 S1 ?_
      rw [f1 134 (by decide) (by decide), f1 151 (by decide) (by decide), hn, hnd, nI_1, ix6, zcla (show a < 2 ^ 31 by omega), zcla (show k < 2 ^ 31 by omega), zcla (show 6 * a + k < 2 ^ 31 by omega), hdt]
      refine ⟨fun c => absurd c (nI_ge (by omega) (by omega)), fun _ => ⟨fun c => ?_, fun c => fin 0 ?_⟩⟩
      · have hnd0 : 0 < nd := Nat.pos_of_ne_zero (fun e => c (by rw [e]; rfl))
        rw [pk_rem hd hnd0 (by omega)]
        have hp1 : plOK (zI h1) := by unfold plOK; rw [e132]; exact hp
        refine ⟨zin_n ha (by decide), c, _, X10_mixOf_ok S1 hp1 (by have := Nat.mod_lt dt hnd0; omega) (by omega), ?_⟩
        rintro v h6' ⟨rfl, rfl⟩
        refine ⟨S1, fin _ ?_⟩
        unfold mN
        rw [if_neg (by omega)]
        exact mxM_C e132 (f1 139 (by decide) (by decide)) _ _
      · have : nd = 0 := nI_inj (by omega) (by decide) c
        unfold mN
        rw [if_pos this]
  exact loop ns 0 h (by omega) (zW.rf h) (fun _ _ _ => rfl) (fun s hs => absurd hs (by omega)) (fun s hs => absurd hs (by omega)) (fun _ _ => rfl)
def leM (I : Nat → Nat → Int32) (a p s : Nat) : Int32 := if I 132 48 = 1 then 0 else I 158 (36 * a + 6 * p + s)
def arL (I : Nat → Nat → Int32) (a p s : Nat) : Int64 := lwM I 0 (nmF (I 164 s) (ptM I p) (leM I a p s) (I 157 (6 * a + s)) (I 151 a) (nI p) 0)
def arM (I : Nat → Nat → Int32) (a p s : Nat) : Int32 := if arL I a p s = cERR then (I 164 s * ptM I p) / 100 + (leM I a p s * I 134 5) / 100 + I 157 (6 * a + s) else withinF (arL I a p s) 0 9999
def drR (I I' : Nat → Nat → Int32) (a ns nr : Nat) : Prop := (∀ c, c ≠ 132 → c ≠ 157 → c ≠ 158 → I' c = I c) ∧ (∀ k, k ≠ 33 → I' 132 k = I 132 k) ∧ (∀ p s, p < nr → s < ns → I' 158 (36 * a + 6 * p + s) = arM I a p s) ∧ (∀ s, s < 6 → I' 157 (6 * a + s) = 0) ∧ (∀ j, j < 36 * a ∨ 36 * a + 36 ≤ j → I' 158 j = I 158 j) ∧ (∀ j, j < 6 * a ∨ 6 * a + 6 ≤ j → I' 157 j = I 157 j)
theorem arM_C {I I' : Nat → Nat → Int32} (h1 : ∀ c, c ≠ 132 → c ≠ 158 → I' c = I c) (h2 : ∀ k, k ≠ 33 → I' 132 k = I 132 k) {a p s : Nat} (h3 : I' 158 (36 * a + 6 * p + s) = I 158 (36 * a + 6 * p + s)) : arM I' a p s = arM I a p s := by
  have e1 : ptM I' p = ptM I p := by unfold ptM; rw [h1 141 (by decide) (by decide), h2 48 (by decide)]
  have e2 : leM I' a p s = leM I a p s := by unfold leM; rw [h3, h2 48 (by decide)]
  have e3 : arL I' a p s = arL I a p s := by
    unfold arL
    rw [e1, e2, h1 164 (by decide) (by decide), h1 157 (by decide) (by decide), h1 151 (by decide) (by decide)]
    exact lwM_E (h1 145 (by decide) (by decide)) (h1 146 (by decide) (by decide)) (h1 147 (by decide) (by decide)) (h1 148 (by decide) (by decide))
  unfold arM
  rw [e1, e2, e3, h1 164 (by decide) (by decide), h1 157 (by decide) (by decide), h1 134 (by decide) (by decide)]
set_option maxHeartbeats 8000000 in
set_option maxRecDepth 20000 in
theorem X10_drifts_ok {G : zG} {d : Nat} {h : zMem} (hS : zSh2 h) (hl : mlOK (zI h)) {a ns nr : Nat} (ha : a < 23) (hn : zI h 134 0 = nI ns) (h6 : ns ≤ 6) (hnr : zI h 134 3 = nI nr) (h6r : nr ≤ 6) :
    zConV G mX10_drifts (d + 4) [.ref 132, .int (nI a)] h (fun h' => zW h h' ∧ drR (zI h) (zI h') a ns nr) := by
  refine cn_X10_drifts (sg_X10_drifts_0 hS ?_)
  obtain ⟨Q, hQ⟩ : ∃ Q : zMem → Prop, Q = (fun h' => zW h h' ∧ drR (zI h) (zI h') a ns nr) := ⟨_, rfl⟩
  rw [← hQ]
  -- winds
  have lw : ∀ n k (h1 : zMem), n + k = 6 → zW h h1 → (∀ c, c ≠ 132 → c ≠ 157 → c ≠ 158 → zI h1 c = zI h c) → (∀ k, k ≠ 33 → zI h1 132 k = zI h 132 k) → (∀ p s, p < nr → s < ns → zI h1 158 (36 * a + 6 * p + s) = arM (zI h) a p s) → (∀ s, s < k → zI h1 157 (6 * a + s) = 0) → (∀ j, j < 36 * a ∨ 36 * a + 36 ≤ j → zI h1 158 j = zI h 158 j) → (∀ j, j < 6 * a ∨ 6 * a + 6 ≤ j → zI h1 157 j = zI h 157 j) →
      zg G mX10_drifts (d + 4) 154 [.ref 132, .int (nI a), .int (nI k), zU, zU, zU, zU] [] h1 (zPV Q) := by
    intro n
    induction n with
    | zero =>
      intro k h1 hk hW f1 f2 f3 f4 f5 f6
      have : k = 6 := by omega
      subst this
      refine sg_X10_drifts_154 (hS.W hW) ⟨fun _ => ?_, fun c => absurd (show nI 6 ≤ nI 6 from nI_le (Nat.le_refl _) (by decide)) c⟩
      rw [hQ]
      exact ⟨hW, f1, f2, f3, f4, f5, f6⟩
    | succ n ih =>
      intro k h1 hk hW f1 f2 f3 f4 f5 f6
      refine sg_X10_drifts_154 (hS.W hW) ?_
      rw [ix6, nI_1, zcla (show 6 * a + k < 2 ^ 31 by omega)]
      refine ⟨fun c => absurd (show nI 6 ≤ nI k from c) (nI_ge (by omega) (by decide)), fun _ => ⟨zin_n (by omega) (by decide), ih (k + 1) _ (by omega) (hW.sI _ _ _) (fun c c1 c2 c3 => ?_) (fun k hk => ?_) (fun p s hp hs => ?_) (fun s hs => ?_) (fun j hj => ?_) (fun j hj => ?_)⟩⟩
      · rw [zI_sI, zup_ne _ _ c2]; exact f1 c c1 c2 c3
      · rw [zI_sI, zup_ne _ _ (by decide)]; exact f2 k hk
      · rw [zI_sI, zup_ne _ _ (by decide)]; exact f3 p s hp hs
      · by_cases e : s = k
        · subst e; rw [zI_sI, zup_s]
        · rw [zI_sI, zup_i _ _ _ (by omega)]; exact f4 s (by omega)
      · rw [zI_sI, zup_ne _ _ (by decide)]; exact f5 j hj
      · rw [zI_sI, zup_i _ _ _ (by omega)]; exact f6 j hj
  -- what holds while it drifts: the rooms below p, and of p the stuffs below s
  have ls : ∀ p, p < nr → (∀ (h1 : zMem), zW h h1 → (∀ c, c ≠ 132 → c ≠ 158 → zI h1 c = zI h c) → (∀ k, k ≠ 33 → zI h1 132 k = zI h 132 k) → (∀ p' s, p' < p + 1 → s < ns → zI h1 158 (36 * a + 6 * p' + s) = arM (zI h) a p' s) → (∀ p' s, p + 1 ≤ p' → p' < 6 → s < 6 → zI h1 158 (36 * a + 6 * p' + s) = zI h 158 (36 * a + 6 * p' + s)) → (∀ j, j < 36 * a ∨ 36 * a + 36 ≤ j → zI h1 158 j = zI h 158 j) → zg G mX10_drifts (d + 4) 2 [.ref 132, .int (nI a), .int (nI (p + 1)), zU, zU, zU, zU] [] h1 (zPV Q)) →
      ∀ n k (h1 : zMem), n + k = ns → zW h h1 → (∀ c, c ≠ 132 → c ≠ 158 → zI h1 c = zI h c) → (∀ k, k ≠ 33 → zI h1 132 k = zI h 132 k) → (∀ p' s, p' < p → s < ns → zI h1 158 (36 * a + 6 * p' + s) = arM (zI h) a p' s) → (∀ s, s < k → zI h1 158 (36 * a + 6 * p + s) = arM (zI h) a p s) → (∀ s, k ≤ s → s < 6 → zI h1 158 (36 * a + 6 * p + s) = zI h 158 (36 * a + 6 * p + s)) → (∀ p' s, p + 1 ≤ p' → p' < 6 → s < 6 → zI h1 158 (36 * a + 6 * p' + s) = zI h 158 (36 * a + 6 * p' + s)) → (∀ j, j < 36 * a ∨ 36 * a + 36 ≤ j → zI h1 158 j = zI h 158 j) →
      zg G mX10_drifts (d + 4) 14 [.ref 132, .int (nI a), .int (nI p), .int (nI k), zU, zU, zU] [] h1 (zPV Q) := by
    intro p hp next n
    induction n with
    | zero =>
      intro k h1 hk hW f1 f2 f3 f4 f5 f6 f7
      have : k = ns := by omega
      subst this
      refine sg_X10_drifts_14 (hS.W hW) ?_
      rw [f1 134 (by decide) (by decide), hn, nI_1]
      refine ⟨fun _ => next h1 hW f1 f2 (fun p' s hp' hs => ?_) f6 f7, fun c => absurd (nI_le (Nat.le_refl _) (by omega)) c⟩
      by_cases e : p' = p
      · subst e; exact f4 s hs
      · exact f3 p' s (by omega) hs
    | succ n ih =>
      intro k h1 hk hW f1 f2 f3 f4 f5 f6 f7
      have S1 := hS.W hW
      have l1 : mlOK (zI h1) := mlOK_E hl (f1 145 (by decide) (by decide)) (f1 146 (by decide) (by decide)) (f1 147 (by decide) (by decide)) (f1 148 (by decide) (by decide))
      have ea : arM (zI h1) a p k = arM (zI h) a p k := arM_C f1 f2 (f5 k (Nat.le_refl _) (by omega))
      have put : ∀ (h18 : zMem), zW h1 h18 → mE (zI h1) (zI h18) → zg G mX10_drifts (d + 4) 14 [.ref 132, .int (nI a), .int (nI p), .int (nI (k + 1)), zU, zU, zU] [] (zsI h18 158 (36 * a + 6 * p + k) (arM (zI h1) a p k)) (zPV Q) := by
        intro h18 w1 w2
        have e158 : zI h18 158 = zI h1 158 := w2.1 158 (by decide)
        refine ih (k + 1) _ (by omega) ((hW.trans w1).sI _ _ _) (fun c c1 c2 => ?_) (fun k hk => ?_) (fun p' s hp' hs => ?_) (fun s hs => ?_) (fun s hs hs6 => ?_) (fun p' s hp' hp6 hs => ?_) (fun j hj => ?_)
        · rw [zI_sI, zup_ne _ _ c2, w2.1 c c1]; exact f1 c c1 c2
        · rw [zI_sI, zup_ne _ _ (by decide), w2.2 k hk]; exact f2 k hk
        · rw [zI_sI, zup_i _ _ _ (by omega), e158]; exact f3 p' s hp' hs
        · by_cases e : s = k
          · subst e; rw [zI_sI, zup_s, ea]
          · rw [zI_sI, zup_i _ _ _ (by omega), e158]; exact f4 s (by omega)
        · rw [zI_sI, zup_i _ _ _ (by omega), e158]; exact f5 s (by omega) hs6
        · rw [zI_sI, zup_i _ _ _ (by omega), e158]; exact f6 p' s hp' hp6 hs
        · rw [zI_sI, zup_i _ _ _ (by omega), e158]; exact f7 j hj
      refine sg_X10_drifts_14 S1 ?_
      rw [ix36, ix6, nI_1 k, zcla (show k < 2 ^ 31 by omega), zcla (show 6 * a + k < 2 ^ 31 by omega), zcla (show 36 * a + 6 * p + k < 2 ^ 31 by omega)]
      refine ⟨fun c => absurd (by rw [f1 134 (by decide) (by decide), hn] at c; exact c) (nI_ge (by omega) (by omega)), fun _ => ⟨fun c => ⟨zin_n (by omega) (by decide), zin_n (by omega) (by decide), zin_n (by omega) (by decide), _, X10_partIn_ok S1 (by omega), ?_⟩, fun c => ⟨zin_n (by omega) (by decide), zin_n (by omega) (by decide), _, X10_partIn_ok S1 (by omega), ?_⟩⟩⟩
      · rintro v h7 ⟨rfl, rfl⟩
        refine ⟨S1, _, X10_calls_ok S1 ha _ _ _ _ _ _, ?_⟩
        rintro h11 ⟨q1, q2⟩
        have hI : zI h11 = zI h7 := q1.2.2
        have S11 := S1.F q1
        refine ⟨S11, _, X10_partIn_ok S11 (by omega), ?_⟩
        rintro v h14 ⟨rfl, rfl⟩
        refine ⟨S11, _, X10_within_ok (d := d) S11 (by rw [hI]; exact l1) (r := 0) (by decide) _ q2 (fun k _ => bnd_nmF _ _ _ _ _ _ _ k) _ _ _, ?_⟩
        rintro v h18 ⟨ev, w1, w2⟩
        rw [hI] at ev w2
        have el : leM (zI h7) a p k = zI h7 158 (36 * a + 6 * p + k) := by unfold leM; rw [if_neg c]
        have : v = arM (zI h7) a p k := by rw [ev]; unfold arM arL; rw [el]
        rw [this]
        exact ⟨S11.W w1, put h18 (q1.w.trans w1) w2⟩
      · rintro v h7 ⟨rfl, rfl⟩
        refine ⟨S1, _, X10_calls_ok S1 ha _ _ _ _ _ _, ?_⟩
        rintro h11 ⟨q1, q2⟩
        have hI : zI h11 = zI h7 := q1.2.2
        have S11 := S1.F q1
        refine ⟨S11, _, X10_partIn_ok S11 (by omega), ?_⟩
        rintro v h14 ⟨rfl, rfl⟩
        refine ⟨S11, _, X10_within_ok (d := d) S11 (by rw [hI]; exact l1) (r := 0) (by decide) _ q2 (fun k _ => bnd_nmF _ _ _ _ _ _ _ k) _ _ _, ?_⟩
        rintro v h18 ⟨ev, w1, w2⟩
        rw [hI] at ev w2
        have el : leM (zI h7) a p k = 0 := by unfold leM; rw [if_pos c]
        have : v = arM (zI h7) a p k := by rw [ev]; unfold arM arL; rw [el]
        rw [this]
        exact ⟨S11.W w1, zin_n (by omega) (by decide), put h18 (q1.w.trans w1) w2⟩
  have lp : ∀ n p (h1 : zMem), n + p = nr → zW h h1 → (∀ c, c ≠ 132 → c ≠ 158 → zI h1 c = zI h c) → (∀ k, k ≠ 33 → zI h1 132 k = zI h 132 k) → (∀ p' s, p' < p → s < ns → zI h1 158 (36 * a + 6 * p' + s) = arM (zI h) a p' s) → (∀ p' s, p ≤ p' → p' < 6 → s < 6 → zI h1 158 (36 * a + 6 * p' + s) = zI h 158 (36 * a + 6 * p' + s)) → (∀ j, j < 36 * a ∨ 36 * a + 36 ≤ j → zI h1 158 j = zI h 158 j) → zg G mX10_drifts (d + 4) 2 [.ref 132, .int (nI a), .int (nI p), zU, zU, zU, zU] [] h1 (zPV Q) := by
    intro n
    induction n with
    | zero =>
      intro p h1 hk hW f1 f2 f3 f4 f5
      have : p = nr := by omega
      subst this
      refine sg_X10_drifts_2 (hS.W hW) ?_
      rw [f1 134 (by decide) (by decide), hnr]
      exact ⟨fun _ => lw 6 0 h1 (by omega) hW (fun c c1 _ c3 => f1 c c1 c3) f2 f3 (fun s hs => absurd hs (by omega)) f5 (fun j _ => by rw [f1 157 (by decide) (by decide)]), fun c => absurd (nI_le (Nat.le_refl _) (by omega)) c⟩
    | succ n ih =>
      intro p h1 hk hW f1 f2 f3 f4 f5
      refine sg_X10_drifts_2 (hS.W hW) ?_
      rw [f1 134 (by decide) (by decide), hnr]
      refine ⟨fun c => absurd c (nI_ge (by omega) (by omega)), fun _ => ls p (by omega) (fun h2 w g1 g2 g3 g4 g5 => ih (p + 1) h2 (by omega) w g1 g2 g3 g4 g5) ns 0 h1 (by omega) hW f1 f2 f3 (fun s hs => absurd hs (by omega)) (fun s _ hs => f4 p s (Nat.le_refl _) (by omega) hs) (fun p' s hp' hp6 hs => f4 p' s (by omega) hp6 hs) f5⟩
  exact lp nr 0 h (by omega) (zW.rf h) (fun _ _ _ => rfl) (fun _ _ => rfl) (fun p' s hp' => absurd hp' (by omega)) (fun _ _ _ _ _ => rfl) (fun _ _ => rfl)
