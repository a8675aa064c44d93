/-! tried otherwise -/
def ctR (I I' : Nat → Nat → Int32) (w : Nat) (x : Int32) : Prop := (∀ a, a ≠ 94 → a ≠ 83 → a ≠ 85 → a ≠ 82 → I' a = I a) ∧ (w ≠ 2 → I' 94 = I 94) ∧ (w = 2 → ∀ m, m < 5 → I' 94 m = 0) ∧ (∀ k, k ≠ 14 → I' 82 k = I 82 k) ∧ (w ≠ 3 → I' 82 14 = I 82 14) ∧ (w = 3 → I' 82 14 = x) ∧ (w ≠ 4 → I' 83 = I 83) ∧ (w = 4 → ∀ s, s < 6 → I' 83 s = 1000000) ∧ (w ≠ 5 → I' 85 = I 85) ∧ (w = 5 → ∀ p, p < 6 → I' 85 p = 100)
theorem nI_ne {a b : Nat} (ha : a < 2 ^ 31) (hb : b < 2 ^ 31) (h : a ≠ b) : ¬ nI a = nI b := fun q => h (nI_inj ha hb q)
set_option maxHeartbeats 2000000 in
theorem X9_changeTrial_ok {G : zG} {d t w : Nat} {h : zMem} (hS : zSh1 h t) (hw : w ≤ 5) (x : Int32) : zConV G mX9_changeTrial d [.ref 0, .int (nI w), .int x] h (fun h' => zW h h' ∧ ctR (zI h) (zI h') w x) := by
  refine cn_X9_changeTrial (sg_X9_changeTrial_0 hS ?_)
  obtain ⟨Q, hQ⟩ : ∃ Q : zMem → Prop, Q = (fun h' => zW h h' ∧ ctR (zI h) (zI h') w x) := ⟨_, rfl⟩
  rw [← hQ]
  have ne : ∀ {k : Nat}, k ≤ 5 → w ≠ k → ¬ nI w = nI k := fun hk h => nI_ne (by omega) (by omega) h
  -- the rooms' parts
  have l74 : ∀ n i (h1 : zMem), n + i = 6 → zW h h1 → (∀ a, a ≠ 94 → a ≠ 83 → a ≠ 85 → a ≠ 82 → zI h1 a = zI h a) → (w ≠ 2 → zI h1 94 = zI h 94) → (w = 2 → ∀ m, m < 5 → zI h1 94 m = 0) → (∀ k, k ≠ 14 → zI h1 82 k = zI h 82 k) → (w ≠ 3 → zI h1 82 14 = zI h 82 14) → (w = 3 → zI h1 82 14 = x) → (w ≠ 4 → zI h1 83 = zI h 83) → (w = 4 → ∀ s, s < 6 → zI h1 83 s = 1000000) → (w ≠ 5 → zI h1 85 = zI h 85) → (w = 5 → ∀ p, p < i → zI h1 85 p = 100) → zg G mX9_changeTrial d 74 [.ref 0, .int (nI w), .int x, .int (nI i)] [] h1 (zPV Q) := by
    intro n
    induction n with
    | zero =>
      intro i h1 hi q0 q1 q2 q3 q4 q5 q6 q7 q8 q9 q10
      have : i = 6 := by omega
      subst this
      refine sg_X9_changeTrial_74 (hS.W q0) ⟨fun c => ?_, fun c => ⟨fun _ => ?_, fun c2 => absurd (show nI 6 ≤ nI 6 from nI_le (Nat.le_refl _) (by decide)) c2⟩⟩
      · rw [hQ]; exact ⟨q0, q1, q2, q3, q4, q5, q6, q7, q8, q9, q10⟩
      · rw [hQ]; exact ⟨q0, q1, q2, q3, q4, q5, q6, q7, q8, q9, q10⟩
    | succ n ih =>
      intro i h1 hi q0 q1 q2 q3 q4 q5 q6 q7 q8 q9 q10
      refine sg_X9_changeTrial_74 (hS.W q0) ⟨fun c => ?_, fun c => ⟨fun c2 => absurd (show nI 6 ≤ nI i from c2) (nI_ge (by omega) (by decide)), fun _ => ?_⟩⟩
      · have w5 : w ≠ 5 := fun e => c (by rw [e]; rfl)
        rw [hQ]; exact ⟨q0, q1, q2, q3, q4, q5, q6, q7, q8, q9, fun e => absurd e w5⟩
      · have w5 : w = 5 := Classical.byContradiction fun e => ne (by omega) e c
        rw [zcla (show i < 2 ^ 31 by omega), nI_1]
        refine ⟨zin_n (by omega) (by decide), ih (i + 1) _ (by omega) (q0.sI _ _ _) (fun a a1 a2 a3 a4 => ?_) (fun e => ?_) (fun e => absurd e (by omega)) (fun k hk => ?_) (fun e => ?_) (fun e => absurd e (by omega)) (fun e => ?_) (fun e => absurd e (by omega)) (fun e => absurd w5 e) (fun _ p hp => ?_)⟩
        · rw [zI_sI, zup_ne _ _ a3]; exact q1 a a1 a2 a3 a4
        · rw [zI_sI, zup_ne _ _ (by decide)]; exact q2 e
        · rw [zI_sI, zup_ne _ _ (by decide)]; exact q4 k hk
        · rw [zI_sI, zup_ne _ _ (by decide)]; exact q5 e
        · rw [zI_sI, zup_ne _ _ (by decide)]; exact q7 e
        · by_cases e : p = i
          · subst e; rw [zI_sI, zup_s]
          · rw [zI_sI, zup_i _ _ _ e]; exact q10 w5 p (by omega)
  have l43 : ∀ n i (h1 : zMem), n + i = 6 → zW h h1 → (∀ a, a ≠ 94 → a ≠ 83 → a ≠ 82 → zI h1 a = zI h a) → (w ≠ 2 → zI h1 94 = zI h 94) → (w = 2 → ∀ m, m < 5 → zI h1 94 m = 0) → (∀ k, k ≠ 14 → zI h1 82 k = zI h 82 k) → (w ≠ 3 → zI h1 82 14 = zI h 82 14) → (w = 3 → zI h1 82 14 = x) → (w ≠ 4 → zI h1 83 = zI h 83) → (w = 4 → ∀ s, s < i → zI h1 83 s = 1000000) → zg G mX9_changeTrial d 43 [.ref 0, .int (nI w), .int x, .int (nI i)] [] h1 (zPV Q) := by
    intro n
    induction n with
    | zero =>
      intro i h1 hi q0 q1 q2 q3 q4 q5 q6 q7 q8
      have : i = 6 := by omega
      subst this
      have nx := l74 6 0 h1 (by omega) q0 (fun a a1 a2 a3 a4 => q1 a a1 a2 a4) q2 q3 q4 q5 q6 q7 q8 (fun _ => q1 85 (by decide) (by decide) (by decide)) (fun _ p hp => absurd hp (by omega))
      exact sg_X9_changeTrial_43 (hS.W q0) ⟨fun c => nx, fun c => ⟨fun _ => nx, fun c2 => absurd (show nI 6 ≤ nI 6 from nI_le (Nat.le_refl _) (by decide)) c2⟩⟩
    | succ n ih =>
      intro i h1 hi q0 q1 q2 q3 q4 q5 q6 q7 q8
      refine sg_X9_changeTrial_43 (hS.W q0) ⟨fun c => ?_, fun c => ⟨fun c2 => absurd (show nI 6 ≤ nI i from c2) (nI_ge (by omega) (by decide)), fun _ => ?_⟩⟩
      · have w4 : w ≠ 4 := fun e => c (by rw [e]; rfl)
        exact l74 6 0 h1 (by omega) q0 (fun a a1 a2 a3 a4 => q1 a a1 a2 a4) q2 q3 q4 q5 q6 q7 (fun e => absurd e w4) (fun _ => q1 85 (by decide) (by decide) (by decide)) (fun _ p hp => absurd hp (by omega))
      · have w4 : w = 4 := Classical.byContradiction fun e => ne (by omega) e c
        rw [zcla (show i < 2 ^ 31 by omega), nI_1]
        refine ⟨zin_n (by omega) (by decide), ih (i + 1) _ (by omega) (q0.sI _ _ _) (fun a a1 a2 a3 => ?_) (fun e => ?_) (fun e => absurd e (by omega)) (fun k hk => ?_) (fun e => ?_) (fun e => absurd e (by omega)) (fun e => absurd w4 e) (fun _ p hp => ?_)⟩
        · rw [zI_sI, zup_ne _ _ a2]; exact q1 a a1 a2 a3
        · rw [zI_sI, zup_ne _ _ (by decide)]; exact q2 e
        · rw [zI_sI, zup_ne _ _ (by decide)]; exact q4 k hk
        · rw [zI_sI, zup_ne _ _ (by decide)]; exact q5 e
        · by_cases e : p = i
          · subst e; rw [zI_sI, zup_s]
          · rw [zI_sI, zup_i _ _ _ e]; exact q8 w4 p (by omega)
  have l2 : ∀ n i (h1 : zMem), n + i = 5 → zW h h1 → (∀ a, a ≠ 94 → zI h1 a = zI h a) → (w ≠ 2 → zI h1 94 = zI h 94) → (w = 2 → ∀ m, m < i → zI h1 94 m = 0) → zg G mX9_changeTrial d 2 [.ref 0, .int (nI w), .int x, .int (nI i)] [] h1 (zPV Q) := by
    intro n
    induction n with
    | zero =>
      intro i h1 hi q0 q1 q2 q3
      have : i = 5 := by omega
      subst this
      have nx := fun (w3 : w ≠ 3) => l43 6 0 h1 (by omega) q0 (fun a a1 _ _ => q1 a a1) q2 q3 (fun k _ => by rw [q1 82 (by decide)]) (fun _ => by rw [q1 82 (by decide)]) (fun e => absurd e w3) (fun _ => q1 83 (by decide)) (fun _ s hs => absurd hs (by omega))
      have nx3 := fun (w3 : w = 3) => l43 6 0 (zsI h1 82 14 x) (by omega) (q0.sI _ _ _) (fun a a1 _ a3 => by rw [zI_sI, zup_ne _ _ a3]; exact q1 a a1) (fun e => by rw [zI_sI, zup_ne _ _ (by decide)]; exact q2 e) (fun e => absurd e (by omega)) (fun k hk => by rw [zI_sI, zup_i _ _ _ hk, q1 82 (by decide)]) (fun e => absurd w3 e) (fun _ => by rw [zI_sI, zup_s]) (fun _ => by rw [zI_sI, zup_ne _ _ (by decide)]; exact q1 83 (by decide)) (fun _ s hs => absurd hs (by omega))
      refine sg_X9_changeTrial_2 (hS.W q0) ⟨fun c => ⟨fun c3 => nx (fun e => c3 (by rw [e]; rfl)), fun c3 => nx3 (Classical.byContradiction fun e => ne (by omega) e c3)⟩, fun c => ⟨fun _ => ⟨fun c3 => nx (fun e => c3 (by rw [e]; rfl)), fun c3 => nx3 (Classical.byContradiction fun e => ne (by omega) e c3)⟩, fun c2 => absurd (show nI 5 ≤ nI 5 from nI_le (Nat.le_refl _) (by decide)) c2⟩⟩
    | succ n ih =>
      intro i h1 hi q0 q1 q2 q3
      have nx := fun (w2 : w ≠ 2) (w3 : w ≠ 3) => l43 6 0 h1 (by omega) q0 (fun a a1 _ _ => q1 a a1) q2 (fun e => absurd e w2) (fun k _ => by rw [q1 82 (by decide)]) (fun _ => by rw [q1 82 (by decide)]) (fun e => absurd e w3) (fun _ => q1 83 (by decide)) (fun _ s hs => absurd hs (by omega))
      have nx3 := fun (w3 : w = 3) => l43 6 0 (zsI h1 82 14 x) (by omega) (q0.sI _ _ _) (fun a a1 _ a3 => by rw [zI_sI, zup_ne _ _ a3]; exact q1 a a1) (fun e => by rw [zI_sI, zup_ne _ _ (by decide)]; exact q2 e) (fun e => absurd e (by omega)) (fun k hk => by rw [zI_sI, zup_i _ _ _ hk, q1 82 (by decide)]) (fun e => absurd w3 e) (fun _ => by rw [zI_sI, zup_s]) (fun _ => by rw [zI_sI, zup_ne _ _ (by decide)]; exact q1 83 (by decide)) (fun _ s hs => absurd hs (by omega))
      refine sg_X9_changeTrial_2 (hS.W q0) ⟨fun c => ⟨fun c3 => nx (fun e => c (by rw [e]; rfl)) (fun e => c3 (by rw [e]; rfl)), fun c3 => nx3 (Classical.byContradiction fun e => ne (by omega) e c3)⟩, fun c => ⟨fun c2 => absurd (show nI 5 ≤ nI i from c2) (nI_ge (by omega) (by decide)), fun _ => ?_⟩⟩
      have w2 : w = 2 := Classical.byContradiction fun e => ne (by omega) e c
      rw [zcla (show i < 2 ^ 31 by omega), nI_1]
      refine ⟨zin_n (by omega) (by decide), ih (i + 1) _ (by omega) (q0.sI _ _ _) (fun a a1 => ?_) (fun e => absurd w2 e) (fun _ p hp => ?_)⟩
      · rw [zI_sI, zup_ne _ _ a1]; exact q1 a a1
      · by_cases e : p = i
        · subst e; rw [zI_sI, zup_s]
        · rw [zI_sI, zup_i _ _ _ e]; exact q3 w2 p (by omega)
  exact l2 5 0 h (by omega) (zW.rf h) (fun _ _ => rfl) (fun _ => rfl) (fun _ m hm => absurd hm (by omega))
/-- a trial otherwise, on both sides, behind k mornings -/
def trS (I : Nat → Nat → Int32) (w k ns nr nm : Nat) : Prop := I 82 10 = I 151 1 ∧ I 82 11 = I 152 1 ∧ I 82 12 = I 153 1 ∧ I 82 13 = I 154 1 ∧ I 82 14 = abM I ∧ (w ≠ 4 → ∀ s, s < ns → I 83 s = I 156 (6 + s)) ∧ (w = 4 → ∀ s, s < ns → ∃ q, 1000000 ≤ q + 99 * k ∧ q ≤ 1000000 ∧ I 83 s = nI q) ∧ (∀ s, s < ns → I 84 s = I 157 (6 + s)) ∧ (∀ p, p < nr → I 85 p = ptM I p) ∧ (w ≠ 1 → ∀ p s, p < nr → s < ns → I (87 + p) s = I 158 (36 + 6 * p + s)) ∧ (∀ m, m < nm → I 93 m = I 159 (5 + m) ∧ I 94 m = cdM I 1 m ∧ I 96 m = I 162 (5 + m))
set_option maxHeartbeats 2000000 in
theorem trS_pre {I : Nat → Nat → Int32} {t w k ns nd nr nm dt : Nat} (hT : rlT I t ns nd nr nm) (hpl : pln I) (h48 : I 132 48 = nI w) (hw : w ≤ 5) (h8 : nd ≤ 8) (hk : k ≤ 99) (h99 : ∀ dy s, dy < nd → s < ns → ∃ n, n ≤ 99 ∧ I 139 (6 * dy + s) = nI n) (h : trS I w k ns nr nm) (hair : w = 1 → ∀ p s, p < nr → s < ns → I (87 + p) s = 0) : preS I 82 t 1 ns nd nr nm dt := by
  obtain ⟨s1, s2, s3, s4, s5, s6, s7, s8, s9, s10, s11⟩ := h
  have n4 : I 132 48 = 4 ↔ w = 4 := by rw [h48]; exact ⟨fun q => nI_inj (by omega) (by decide) (show nI w = nI 4 from q), fun q => by rw [q]; rfl⟩
  have n1 : I 132 48 = 1 ↔ w = 1 := by rw [h48]; exact ⟨fun q => nI_inj (by omega) (by decide) (show nI w = nI 1 from q), fun q => by rw [q]; rfl⟩
  refine ⟨s1, s2, s3, s4, s5, fun s hs => ?_, s8, s9, fun p s hp hs => ?_, s11⟩
  · unfold takeF tkM
    rw [mix_eq hT hpl h8 hs]
    by_cases c : w = 4
    · rw [if_pos (n4.mpr c)]
      obtain ⟨q, q1, q2, eq⟩ := s7 c s hs
      have em : ∃ n, n ≤ 99 ∧ mN I nd dt s = nI n := by
        unfold mN
        by_cases c0 : nd = 0
        · rw [if_pos c0]; exact ⟨0, by omega, rfl⟩
        · rw [if_neg c0, mxM_pln hpl (by have := Nat.mod_lt dt (show 0 < nd by omega); omega)]; exact h99 _ s (Nat.mod_lt _ (by omega)) hs
      obtain ⟨n, n9, en⟩ := em
      show (if I 83 s < mN I nd dt s then I 83 s else mN I nd dt s) = _
      rw [eq, en, if_neg (nI_nlt (by omega) (by omega))]
    · rw [if_neg (fun q => c (n4.mp q))]
      show (if I 83 s < _ then I 83 s else _) = _
      rw [s6 c s hs]
  · show I (87 + p) s = leM I 1 p s
    unfold leM
    by_cases c : w = 1
    · rw [if_pos (n1.mpr c)]; exact hair c p s hp hs
    · rw [if_neg (fun q => c (n1.mp q))]; exact s10 c p s hp hs
set_option maxHeartbeats 2000000 in
theorem trS_post {I I2 : Nat → Nat → Int32} {w k ns nd nr nm dt : Nat} (h48 : I 132 48 = nI w) (hw : w ≤ 5) (hk : k ≤ 98) (h99 : ∀ s, s < ns → ∃ n, n ≤ 99 ∧ mN I nd dt s = nI n) (h : trS I w k ns nr nm) (hP : postS I I2 82 1 ns nd nr nm dt) (hF : frS I I2 82 1) : trS I2 w (k + 1) ns nr nm := by
  obtain ⟨s1, s2, s3, s4, s5, s6, s7, s8, s9, s10, s11⟩ := h
  obtain ⟨p1, p2, p3, p4, p5, p6, p7, p8, p9, p10, p11, p12, p13⟩ := hP
  have n4 : I 132 48 = 4 ↔ w = 4 := by rw [h48]; exact ⟨fun q => nI_inj (by omega) (by decide) (show nI w = nI 4 from q), fun q => by rw [q]; rfl⟩
  have c : ∀ c, c = 141 ∨ c = 159 ∨ c = 160 → I2 c = I c := fun c hc => hF.1 c (by omega) (by omega) (by omega) (by omega) (by omega) (by omega) (by omega) (by omega) (by omega) (by omega) (by omega) (by omega) (by omega)
  have e48 := hF.2.1 48 (by decide)
  have e49 := hF.2.1 49 (by decide)
  refine ⟨p1, p2, p3, p4, ?_, fun w4 s hs => ?_, fun w4 s hs => ?_, fun s hs => ?_, fun p hp => ?_, fun _ => p8, fun m hm => ⟨?_, ?_, (p11 m hm).2⟩⟩
  · rw [p5, s5]; unfold abM; rw [e48, e49]
  · rw [(p12 s hs).1, (p12 s hs).2]
    unfold stM
    rw [if_neg (fun q => w4 (n4.mp q))]
    show I 83 s - _ = _
    rw [s6 w4 s hs]
  · obtain ⟨q, q1, q2, eq⟩ := s7 w4 s hs
    obtain ⟨n, n9, en⟩ := h99 s hs
    rw [(p12 s hs).1]
    unfold tkM
    rw [if_pos (n4.mpr w4), en]
    show ∃ q, _ ∧ _ ∧ I 83 s - nI n = nI q
    rw [eq, pk_sub (by omega)]
    exact ⟨q - n, by omega, by omega, rfl⟩
  · rw [(p6 s hs).1, (p6 s hs).2]
  · show I2 (82 + 3) p = _
    rw [p7]
    unfold ptM
    rw [e48, c 141 (by decide)]
    exact s9 p hp
  · show I2 (82 + 11) m = _
    rw [p9, c 159 (by decide)]; exact (s11 m hm).1
  · show I2 (82 + 12) m = _
    rw [p10]
    unfold cdM
    rw [e48, c 160 (by decide)]
    exact (s11 m hm).2.1
def trR (t w ns nd nr nm : Nat) : Nat → Nat → (Nat → Nat → Int32) → Int32 → Prop
  | 0, _, I, v => v = I 82 12 - I 48 12
  | n + 1, dt, I, v => ∃ I1 J, (w ≠ 1 → I1 = I) ∧ (w = 1 → clearR I I1 82) ∧ mornR I1 J 82 t ns nd nr nm dt ∧ trR t w ns nd nr nm n (dt + 1) J v
theorem clear_st {I I1 : Nat → Nat → Int32} {nd nr nm dt : Nat} (hC : clearR I I1 82) (h : stOK I 82 nd nr nm dt) : stOK I1 82 nd nr nm dt := by
  unfold stOK
  rw [hC.1 82 (by decide), hC.1 (82 + 11) (by decide), hC.1 (82 + 14) (by decide)]
  exact h
theorem ct_st {I I1 : Nat → Nat → Int32} {w nd nr nm dt : Nat} {x : Int32} (hC : ctR I I1 w x) (h : stOK I 82 nd nr nm dt) : stOK I1 82 nd nr nm dt := by
  unfold stOK
  rw [hC.2.2.2.1 10 (by decide), hC.1 (82 + 11) (by decide) (by decide) (by decide) (by decide), hC.1 (82 + 14) (by decide) (by decide) (by decide) (by decide)]
  exact h
