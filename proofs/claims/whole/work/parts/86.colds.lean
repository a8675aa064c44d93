/-! whose cold it was: notes weighed, the class -/
def wgF (st : Nat → Int32) : Nat → (Nat → Int32) → (Nat → Int32)
  | 0, S => S
  | n + 1, S => wgF st n (if S n = 0 then (if st n = -1 then S else fun j => if j = (st n).toNatClampNeg then 1 else S j) else S)
/-- notes: what one strikes is ahead of it -/
def stP (st : Nat → Int32) (kk : Nat) : Prop := ∀ k, k < kk → st k = -1 ∨ ∃ j, j < k ∧ st k = nI j
def lmF (mo st S : Nat → Int32) : Nat → Nat → Int32 → Int32
  | 0, _, a => a
  | n + 1, i, a => if S i = 0 then (if st i = -1 then lmF mo st S n (i + 1) (if a < mo i then mo i else a) else lmF mo st S n (i + 1) a) else lmF mo st S n (i + 1) a
theorem lmF_rg {mo st S : Nat → Int32} : ∀ n i a, (∀ k, i ≤ k → k < i + n → st k = -1 → ∃ q, q ≤ 40 ∧ mo k = nI q) → a ≤ 40 → ∃ L, L ≤ 40 ∧ lmF mo st S n i (nI a) = nI L
  | 0, _, a, _, ha => ⟨a, ha, rfl⟩
  | n + 1, i, a, h, ha => by
    have nx := fun a' => lmF_rg (S := S) n (i + 1) a' (fun k x y => h k (by omega) (by omega))
    rw [lmF]
    by_cases c : S i = 0
    · rw [if_pos c]
      by_cases c2 : st i = -1
      · rw [if_pos c2]
        obtain ⟨q, hq, eq⟩ := h i (Nat.le_refl _) (by omega) c2
        rw [eq]
        by_cases c3 : nI a < nI q
        · rw [if_pos c3]; exact nx q hq
        · rw [if_neg c3]; exact nx a ha
      · rw [if_neg c2]; exact nx a ha
    · rw [if_neg c]; exact nx a ha
def alF (I : Nat → Nat → Int32) (S th : Nat → Int32) (x : Int32) : Nat → Nat → Bool
  | 0, _ => true
  | n + 1, i => if S i = 0 then (if I 42 i = -1 then (if I 38 i = x then (if th (I 39 i).toNatClampNeg = I 40 i then (if 1 = I 41 i then alF I S th x n (i + 1) else false) else (if 0 = I 41 i then alF I S th x n (i + 1) else false)) else alF I S th x n (i + 1)) else alF I S th x n (i + 1)) else alF I S th x n (i + 1)
theorem nar0 : vp_nar .boolean (0 : Int32) = 0 := by decide
theorem nar1 : vp_nar .boolean (1 : Int32) = 1 := by decide
theorem consd {G : zG} {d t kk : Nat} {h : zMem} (hS : zSh1 h t) (hk : (if zI h 37 7 = -1 then zI h 37 6 else zI h 37 7) = nI kk) : zConI G mX1_considered d [.ref 37] h (fun v h' => v = nI kk ∧ h' = h) :=
  cn_X1_considered (sg_X1_considered_0 hS ⟨fun c => ⟨by rw [if_neg c] at hk; exact hk, rfl⟩, fun c => ⟨by rw [if_pos c] at hk; exact hk, rfl⟩⟩)
set_option maxHeartbeats 1000000 in
theorem X1_weigh_ok {G : zG} {d t kk : Nat} {h : zMem} (hS : zSh1 h t) (hk : (if zI h 37 7 = -1 then zI h 37 6 else zI h 37 7) = nI kk) (h24 : kk ≤ 24) (hst : stP (zI h 42) kk) : zConV G mX1_weigh (d + 1) [.ref 37] h (fun h' => zW h h' ∧ (∀ c, c ≠ 43 → zI h' c = zI h c) ∧ ∀ j, j < 24 → zI h' 43 j = wgF (zI h 42) kk (fun _ => 0) j) := by
  refine cn_X1_weigh (sg_X1_weigh_0 hS ?_)
  obtain ⟨K, hK⟩ : ∃ K, K = wgF (zI h 42) kk (fun _ => 0) := ⟨_, rfl⟩
  rw [← hK]
  have l28 : ∀ n (S : Nat → Int32) (h1 : zMem), n ≤ kk → zW h h1 → (∀ c, c ≠ 43 → zI h1 c = zI h c) → (∀ j, j < 24 → zI h1 43 j = S j) → wgF (zI h 42) n S = K → zg G mX1_weigh (d + 1) 28 [.ref 37, .int (nI n - 1)] [] h1 (zPV (fun h' => zW h h' ∧ (∀ c, c ≠ 43 → zI h' c = zI h c) ∧ ∀ j, j < 24 → zI h' 43 j = K j)) := by
    intro n
    induction n with
    | zero =>
      intro S h1 hn q1 q2 q3 e
      exact sg_X1_weigh_28 (hS.W q1) ⟨fun _ => ⟨q1, q2, fun j hj => by rw [q3 j hj, ← e]; rfl⟩, fun c => absurd (show nI 0 - 1 < 0 by decide) c⟩
    | succ n ih =>
      intro S h1 hn q1 q2 q3 e
      rw [nI_pred]
      rw [wgF] at e
      refine sg_X1_weigh_28 (hS.W q1) ?_
      rw [zcla (show n < 2 ^ 31 by omega), q3 n (by omega), q2 42 (by decide), nI_m1', nar1]
      refine ⟨fun c => absurd c (nI_pos (by omega)), fun _ => ⟨zin_n (by omega) (by decide), fun c => ?_, fun c => ⟨fun c2 => ?_, fun c2 => ?_⟩⟩⟩
      · rw [if_neg c] at e; exact ih S h1 (by omega) q1 q2 q3 e
      · rw [if_pos c, if_pos c2] at e; exact ih S h1 (by omega) q1 q2 q3 e
      · obtain ⟨j, hj, ej⟩ := (hst n (by omega)).resolve_left c2
        rw [if_pos c, if_neg c2, ej, zcla (show j < 2 ^ 31 by omega)] at e
        rw [ej, zcla (show j < 2 ^ 31 by omega)]
        refine ⟨zin_n (by omega) (by decide), ih _ _ (by omega) (q1.sI _ _ _) (fun c hc => by rw [zI_sI, zup_ne _ _ hc]; exact q2 c hc) (fun i hi => ?_) e⟩
        by_cases ei : i = j
        · subst ei; rw [zI_sI, zup_s, if_pos rfl]
        · rw [zI_sI, zup_i _ _ _ ei, if_neg ei]; exact q3 i hi
  have l2 : ∀ n i (h1 : zMem), n + i = 24 → zW h h1 → (∀ c, c ≠ 43 → zI h1 c = zI h c) → (∀ j, j < i → zI h1 43 j = 0) → zg G mX1_weigh (d + 1) 2 [.ref 37, .int (nI i)] [] h1 (zPV (fun h' => zW h h' ∧ (∀ c, c ≠ 43 → zI h' c = zI h c) ∧ ∀ j, j < 24 → zI h' 43 j = K j)) := by
    intro n
    induction n with
    | zero =>
      intro i h1 hi q1 q2 q3
      have : i = 24 := by omega
      subst this
      refine sg_X1_weigh_2 (hS.W q1) ⟨fun _ => ⟨_, consd (hS.W q1) (by rw [q2 37 (by decide)]; exact hk), ?_⟩, fun c => absurd (show nI 24 ≤ nI 24 from nI_le (Nat.le_refl _) (by decide)) c⟩
      rintro v h3 ⟨rfl, rfl⟩
      exact ⟨hS.W q1, l28 kk (fun _ => 0) h3 (Nat.le_refl _) q1 q2 q3 hK.symm⟩
    | succ n ih =>
      intro i h1 hi q1 q2 q3
      refine sg_X1_weigh_2 (hS.W q1) ?_
      rw [zcla (show i < 2 ^ 31 by omega), nI_1, nar0]
      refine ⟨fun c => absurd (show nI 24 ≤ nI i from c) (nI_ge (by omega) (by decide)), fun _ => ⟨zin_n (by omega) (by decide), ih (i + 1) _ (by omega) (q1.sI _ _ _) (fun c hc => by rw [zI_sI, zup_ne _ _ hc]; exact q2 c hc) (fun j hj => ?_)⟩⟩
      by_cases ej : j = i
      · subst ej; rw [zI_sI, zup_s]
      · rw [zI_sI, zup_i _ _ _ ej]; exact q3 j (by omega)
  exact l2 24 0 h (by omega) (zW.rf h) (fun _ _ => rfl) (fun j hj => absurd hj (by omega))
theorem X1_counts_ok {G : zG} {d t i : Nat} {h : zMem} (hS : zSh1 h t) (hi : i < 24) : zConI G mX1_counts d [.ref 37, .int (nI i)] h (fun v h' => v = (if zI h 43 i = 0 then (if zI h 42 i = -1 then 1 else 0) else 0) ∧ h' = h) := by
  refine cn_X1_counts (sg_X1_counts_0 hS ?_)
  rw [zcla (show i < 2 ^ 31 by omega)]
  refine ⟨zin_n hi (by decide), fun c => ⟨by rw [if_neg c], rfl⟩, fun c => ⟨fun c2 => ⟨by rw [if_pos c, if_neg c2], rfl⟩, fun c2 => ⟨by rw [if_pos c, if_pos c2], rfl⟩⟩⟩
set_option maxHeartbeats 1000000 in
theorem X1_lastMorning_ok {G : zG} {d t kk : Nat} {h : zMem} (hS : zSh1 h t) (hk : (if zI h 37 7 = -1 then zI h 37 6 else zI h 37 7) = nI kk) (h24 : kk ≤ 24) : zConI G mX1_lastMorning (d + 1) [.ref 37] h (fun v h' => v = lmF (zI h 38) (zI h 42) (zI h 43) kk 0 0 ∧ h' = h) := by
  refine cn_X1_lastMorning (sg_X1_lastMorning_0 hS ?_)
  obtain ⟨R, hR⟩ : ∃ R, R = lmF (zI h 38) (zI h 42) (zI h 43) kk 0 0 := ⟨_, rfl⟩
  rw [← hR]
  have loop : ∀ n i a, n + i = kk → lmF (zI h 38) (zI h 42) (zI h 43) n i a = R → zg G mX1_lastMorning (d + 1) 4 [.ref 37, .int a, .int (nI i)] [] h (zPI (fun v h' => v = R ∧ h' = h)) := by
    intro n
    induction n with
    | zero =>
      intro i a hi e
      refine sg_X1_lastMorning_4 hS ⟨_, consd hS hk, ?_⟩
      rintro v h2 ⟨rfl, rfl⟩
      exact ⟨hS, fun _ => ⟨e, rfl⟩, fun c => absurd (nI_le (by omega) (by omega)) c⟩
    | succ n ih =>
      intro i a hi e
      rw [lmF] at e
      refine sg_X1_lastMorning_4 hS ⟨_, consd hS hk, ?_⟩
      rintro v h2 ⟨rfl, rfl⟩
      refine ⟨hS, fun c => absurd c (nI_ge (by omega) (by omega)), fun _ => ⟨_, X1_counts_ok hS (show i < 24 by omega), ?_⟩⟩
      rintro v h7 ⟨rfl, rfl⟩
      rw [zcla (show i < 2 ^ 31 by omega), nI_1]
      refine ⟨hS, fun c => ih (i + 1) a (by omega) ?_, fun c => ⟨zin_n (by omega) (by decide), ih (i + 1) _ (by omega) ?_⟩⟩
      · by_cases c1 : zI h7 43 i = 0
        · rw [if_pos c1] at c e
          by_cases c2 : zI h7 42 i = -1
          · rw [if_pos c2] at c; exact absurd c n10
          · rw [if_neg c2] at e; exact e
        · rw [if_neg c1] at e; exact e
      · by_cases c1 : zI h7 43 i = 0
        · rw [if_pos c1] at c e
          by_cases c2 : zI h7 42 i = -1
          · rw [if_pos c2] at e; exact e
          · rw [if_neg c2] at c; exact absurd rfl c
        · rw [if_neg c1] at c; exact absurd rfl c
  exact loop kk 0 0 (by omega) hR.symm
set_option maxHeartbeats 1000000 in
theorem X1_allow_ok {G : zG} {d t kk : Nat} {h : zMem} {x : Int32} (hS : zSh1 h t) (hk : (if zI h 37 7 = -1 then zI h 37 6 else zI h 37 7) = nI kk) (h24 : kk ≤ 24) (hm : ∀ k, k < kk → zI h 42 k = -1 → ∃ m, m < 5 ∧ zI h 39 k = nI m) : zConI G mX1_allow (d + 1) [.ref 37, .int x, .ref 96] h (fun v h' => v = b32 (alF (zI h) (zI h 43) (zI h 96) x kk 0) ∧ h' = h) := by
  refine cn_X1_allow (sg_X1_allow_0 hS ?_)
  obtain ⟨R, hR⟩ : ∃ R, R = alF (zI h) (zI h 43) (zI h 96) x kk 0 := ⟨_, rfl⟩
  rw [← hR]
  have loop : ∀ n i, n + i = kk → alF (zI h) (zI h 43) (zI h 96) x n i = R → zg G mX1_allow (d + 1) 2 [.ref 37, .int x, .ref 96, .int (nI i)] [] h (zPI (fun v h' => v = b32 R ∧ h' = h)) := by
    intro n
    induction n with
    | zero =>
      intro i hi e
      refine sg_X1_allow_2 hS ⟨_, consd hS hk, ?_⟩
      rintro v h2 ⟨rfl, rfl⟩
      exact ⟨hS, fun _ => ⟨by rw [← e]; rfl, rfl⟩, fun c => absurd (nI_le (by omega) (by omega)) c⟩
    | succ n ih =>
      intro i hi e
      rw [alF] at e
      refine sg_X1_allow_2 hS ⟨_, consd hS hk, ?_⟩
      rintro v h2 ⟨rfl, rfl⟩
      refine ⟨hS, fun c => absurd c (nI_ge (by omega) (by omega)), fun _ => ⟨_, X1_counts_ok hS (show i < 24 by omega), ?_⟩⟩
      rintro v h7 ⟨rfl, rfl⟩
      simp only [zcla (show i < 2 ^ 31 by omega), nI_1]
      refine ⟨hS, fun c => ih (i + 1) (by omega) ?_, fun c => ?_⟩
      · by_cases c1 : zI h7 43 i = 0
        · rw [if_pos c1] at c e
          by_cases c2 : zI h7 42 i = -1
          · rw [if_pos c2] at c; exact absurd c n10
          · rw [if_neg c2] at e; exact e
        · rw [if_neg c1] at e; exact e
      · have c1 : zI h7 43 i = 0 := Classical.byContradiction fun q => c (by rw [if_neg q])
        have c2 : zI h7 42 i = -1 := Classical.byContradiction fun q => c (by rw [if_pos c1, if_neg q])
        obtain ⟨m, hm5, em⟩ := hm i (by omega) c2
        rw [if_pos c1, if_pos c2, em, zcla (show m < 2 ^ 31 by omega)] at e
        rw [em, zcla (show m < 2 ^ 31 by omega), zcl1.l hS.1 96 5 rfl rfl rfl]
        refine ⟨zin_n (by omega) (by decide), fun c3 => ih (i + 1) (by omega) ?_, fun c3 => ⟨zcl1.o hS.1 96 100 rfl rfl rfl, zin_n hm5 (by decide), fun c4 => ⟨fun c5 => ih (i + 1) (by omega) ?_, fun c5 => ⟨?_, trivial⟩⟩, fun c4 => ⟨fun c5 => ih (i + 1) (by omega) ?_, fun c5 => ⟨?_, trivial⟩⟩⟩⟩
        · rw [if_neg c3] at e; exact e
        · rw [if_pos c3, if_neg c4, if_pos c5] at e; exact e
        · rw [if_pos c3, if_neg c4, if_neg c5] at e; rw [← e]; rfl
        · rw [if_pos c3, if_pos c4, if_pos c5] at e; exact e
        · rw [if_pos c3, if_pos c4, if_neg c5] at e; rw [← e]; rfl
  exact loop kk 0 (by omega) hR.symm
def agR (I : Nat → Nat → Int32) (S : Nat → Int32) (t ns nd nr nm kk : Nat) : Nat → Nat → Nat → (Nat → Nat → Int32) → Bool → Prop
  | 0, _, _, _, b => b = true
  | n + 1, k, dt, D, b => ∃ J, mornR D J 82 t ns nd nr nm dt ∧ (alF I S (J 96) (nI k) kk 0 = true → agR I S t ns nd nr nm kk n (k + 1) (dt + 1) J b) ∧ (¬ alF I S (J 96) (nI k) kk 0 = true → b = false)
theorem alF_E {I I' : Nat → Nat → Int32} {S S' th : Nat → Int32} {x : Int32} (h : ∀ c, 38 ≤ c → c ≤ 42 → I' c = I c) : ∀ n i, (∀ k, i ≤ k → k < i + n → S' k = S k) → alF I' S' th x n i = alF I S th x n i
  | 0, _, _ => rfl
  | n + 1, i, hS => by
    rw [alF, alF, alF_E h n (i + 1) (fun k a b => hS k (by omega) (by omega)), h 38 (by decide) (by decide), h 39 (by decide) (by decide), h 40 (by decide) (by decide), h 41 (by decide) (by decide), h 42 (by decide) (by decide), hS i (Nat.le_refl _) (by omega)]
set_option maxHeartbeats 2000000 in
theorem X9_agreesWithNotes_ok {G : zG} {d t ns nd nr nm kk L : Nat} {h h0 : zMem} {S : Nat → Int32} (hS : zSh1 h t) (hT : tdOK (zI h) t ns nd nr nm) (hO : stOK (zI h) 82 nd nr nm 0) (hk : (if zI h 37 7 = -1 then zI h 37 6 else zI h 37 7) = nI kk) (h24 : kk ≤ 24) (hL : L ≤ 40) (e43 : ∀ j, j < kk → zI h 43 j = S j) (hnt : ∀ c, 38 ≤ c → c ≤ 42 → zI h c = zI h0 c) (hl : lmF (zI h 38) (zI h 42) (zI h 43) kk 0 0 = nI L) (hm : ∀ k, k < kk → zI h 42 k = -1 → ∃ m, m < 5 ∧ zI h 39 k = nI m) :
    zConI G mX9_agreesWithNotes (d + 6) [.ref 0] h (fun v h' => (zW h h' ∧ ∀ a, (a < 82 ∨ 99 ≤ a) → zI h' a = zI h a) ∧ ∃ b, v = b32 b ∧ agR (zI h0) S t ns nd nr nm kk L 1 0 (zI h) b) := by
  have tn : t = 8 ∨ t = 103 := hS.2.1
  refine cn_X9_agreesWithNotes (sg_X9_agreesWithNotes_0 hS ⟨_, X1_lastMorning_ok hS hk h24, ?_⟩)
  rintro v h2 ⟨rfl, rfl⟩
  rw [hl]
  refine ⟨hS, ?_⟩
  have loop : ∀ (Q : Int32 → zMem → Prop) m k (h1 : zMem), m + k = L + 1 → 1 ≤ k → zSh1 h1 t → zW h2 h1 → (∀ a, (a < 82 ∨ 99 ≤ a) → zI h1 a = zI h2 a) → stOK (zI h1) 82 nd nr nm (k - 1) → (∀ b h3, zW h2 h3 → (∀ a, (a < 82 ∨ 99 ≤ a) → zI h3 a = zI h2 a) → agR (zI h0) S t ns nd nr nm kk m k (k - 1) (zI h1) b → Q (b32 b) h3) → zg G mX9_agreesWithNotes (d + 6) 10 [.ref 0, .int (nI L), .int (nI k)] [] h1 (zPI Q) := by
    intro Q m
    induction m with
    | zero =>
      intro k h1 hk' k1 s1 q1 q2 q3 K
      exact sg_X9_agreesWithNotes_10 s1 ⟨fun _ => K true h1 q1 q2 rfl, fun c => absurd (nI_lt (by omega) (by omega)) c⟩
    | succ m ih =>
      intro k h1 hk' k1 s1 q1 q2 q3 K
      refine sg_X9_agreesWithNotes_10 s1 ⟨fun c => absurd c (nI_nlt (by omega) (by omega)), fun _ => cl_morn (b := 82) s1 (Or.inr (Or.inr rfl)) (tdOK_E (fun k hk => q2 _ (by omega)) hT) q3 (by omega) (fun h7 s7 w7 m7 => ?_)⟩
      have f7 : ∀ a, (a < 82 ∨ 99 ≤ a) → zI h7 a = zI h2 a := fun a ha => (m7.1 a (by omega)).trans (q2 a ha)
      refine ⟨_, X1_allow_ok s7 (by rw [f7 37 (by omega)]; exact hk) h24 (fun k a b => by rw [f7 42 (by omega)] at b; rw [f7 39 (by omega)]; exact hm k a b), ?_⟩
      rintro v h8 ⟨rfl, rfl⟩
      have ea : alF (zI h8) (zI h8 43) (zI h8 96) (nI k) kk 0 = alF (zI h0) S (zI h8 96) (nI k) kk 0 := alF_E (fun c a b => by rw [f7 c (by omega)]; exact hnt c a b) kk 0 (fun j _ hj => by rw [f7 43 (by omega)]; exact e43 j (by omega))
      rw [ea, nI_1]
      have st7 := m7.st q3
      rw [show k - 1 + 1 = k + 1 - 1 by omega] at st7
      refine ⟨s7, fun c => ih (k + 1) h8 (by omega) (by omega) s7 (q1.trans w7) f7 st7 (fun b h3 a1 a2 a3 => K b h3 a1 a2 ⟨zI h8, m7, fun _ => ?_, fun q => absurd (Classical.byContradiction fun z => c (b32_0.mpr z)) q⟩), fun c => K false h8 (q1.trans w7) f7 ⟨zI h8, m7, fun q => absurd q (b32_0.mp c), fun _ => rfl⟩⟩
      rw [show k - 1 + 1 = k + 1 - 1 by omega]; exact a3
  exact loop _ L 1 h2 (by omega) (by omega) hS (zW.rf _) (fun _ _ => rfl) hO (fun b h3 a1 a2 a3 => ⟨⟨a1, a2⟩, b, rfl, a3⟩)
