def beginR (I I' : Nat → Nat → Int32) (b t : Nat) : Prop := (∀ a, (a < b ∨ b + 17 ≤ a) → I' a = I a) ∧ (∀ s, s < 6 → I' (b + 1) s = I (t + 7) s ∧ I' (b + 2) s = 0) ∧ (∀ p, p < 6 → I' (b + 3) p = I (t + 18) p) ∧ (∀ m, m < 5 → I' (b + 11) m = I (t + 19) m ∧ I' (b + 12) m = 0 ∧ I' (b + 13) m = 0 ∧ I' (b + 14) m = I (t + 1) 1 - 1) ∧ (∀ p s, p < 6 → s < 6 → I' (b + 4 + 1 + p) s = 0) ∧ I' b 10 = 0 ∧ I' b 11 = -1 ∧ I' b 12 = 0 ∧ I' b 13 = 0 ∧ I' b 14 = -1
set_option maxHeartbeats 8000000 in
theorem X5_begin_ok {G : zG} {d t b td : Nat} {h : zMem} (hS : zSh1 h t) (hb : isSt b) (ht : isTd td) : zConV G mX5_begin (d + 1) [.ref b, .ref td] h (fun h' => zW h h' ∧ beginR (zI h) (zI h') b td) := by
  have dj := st_td hb ht
  refine cn_X5_begin (sg_X5_begin_0 hS hb ht ?_)
  obtain ⟨Q, hQ⟩ : ∃ Q : zMem → Prop, Q = (fun h' => zW h h' ∧ beginR (zI h) (zI h') b td) := ⟨_, rfl⟩
  rw [← hQ]
  have l3 : ∀ n k (h1 : zMem), n + k = 5 → zW h h1 → (∀ a, (a < b ∨ b + 17 ≤ a) → zI h1 a = zI h a) → (∀ s, s < 6 → zI h1 (b + 1) s = zI h (td + 7) s ∧ zI h1 (b + 2) s = 0) → (∀ p, p < 6 → zI h1 (b + 3) p = zI h (td + 18) p) → (∀ m, m < k → zI h1 (b + 11) m = zI h (td + 19) m ∧ zI h1 (b + 12) m = 0 ∧ zI h1 (b + 13) m = 0 ∧ zI h1 (b + 14) m = zI h (td + 1) 1 - 1) →
      zg G mX5_begin (d + 1) 61 [.ref b, .ref td, .int (nI k)] [] h1 (zPV Q) := by
    intro n
    induction n with
    | zero =>
      intro k h1 hk hW hA hB hC hD
      have : k = 5 := by omega
      subst this
      refine sg_X5_begin_61 (hS.W hW) hb ht ⟨fun _ => ⟨_, X5_clearAir_ok (hS.W hW) hb, ?_⟩, fun c => absurd (show nI 5 ≤ nI 5 from nI_le (Nat.le_refl _) (by decide)) c⟩
      rintro h3 ⟨hW3, hA3, hR3⟩
      refine ⟨(hS.W hW).W hW3, ?_⟩
      rw [hQ]
      refine ⟨(((((hW.trans hW3).sI _ _ _).sI _ _ _).sI _ _ _).sI _ _ _).sI _ _ _, fun a ha => ?_, fun s hs => ?_, fun p hp => ?_, fun m hm => ?_, fun p s hp hs => ?_, ?_, ?_, ?_, ?_, ?_⟩
      · simp only [zI_sI, zup_ne _ _ (show a ≠ b by omega)]
        rw [hA3 a (by omega)]; exact hA a ha
      · simp only [zI_sI, zup_ne _ _ (show b + 1 ≠ b by omega), zup_ne _ _ (show b + 2 ≠ b by omega)]
        rw [hA3 (b + 1) (by omega), hA3 (b + 2) (by omega)]; exact hB s hs
      · simp only [zI_sI, zup_ne _ _ (show b + 3 ≠ b by omega)]
        rw [hA3 (b + 3) (by omega)]; exact hC p hp
      · simp only [zI_sI, zup_ne _ _ (show b + 11 ≠ b by omega), zup_ne _ _ (show b + 12 ≠ b by omega), zup_ne _ _ (show b + 13 ≠ b by omega), zup_ne _ _ (show b + 14 ≠ b by omega)]
        rw [hA3 (b + 11) (by omega), hA3 (b + 12) (by omega), hA3 (b + 13) (by omega), hA3 (b + 14) (by omega)]; exact hD m hm
      · simp only [zI_sI, zup_ne _ _ (show b + 4 + 1 + p ≠ b by omega)]
        exact hR3 p s hp hs
      all_goals simp [zI_sI, zup]
    | succ n ih =>
      intro k h1 hk hW hA hB hC hD
      refine sg_X5_begin_61 (hS.W hW) hb ht ?_
      rw [zcla (show k < 2 ^ 31 by omega), nI_1]
      refine ⟨fun c => absurd (show nI 5 ≤ nI k from c) (nI_ge (by omega) (by decide)), fun _ => ⟨zin_n (by omega) (by decide), ?_⟩⟩
      simp only [zI_sI, zup_ne _ _ (show td + 1 ≠ b + 11 by omega), zup_ne _ _ (show td + 1 ≠ b + 12 by omega), zup_ne _ _ (show td + 1 ≠ b + 13 by omega)]
      rw [hA (td + 19) (by omega), hA (td + 1) (by omega)]
      refine ih (k + 1) _ (by omega) ((((hW.sI _ _ _).sI _ _ _).sI _ _ _).sI _ _ _) (fun a ha => ?_) (fun s hs => ?_) (fun p hp => ?_) (fun m hm => ?_)
      · simp only [zI_sI, zup_ne _ _ (show a ≠ b + 11 by omega), zup_ne _ _ (show a ≠ b + 12 by omega), zup_ne _ _ (show a ≠ b + 13 by omega), zup_ne _ _ (show a ≠ b + 14 by omega)]
        exact hA a ha
      · simp only [zI_sI, zup_ne _ _ (show b + 1 ≠ b + 11 by omega), zup_ne _ _ (show b + 1 ≠ b + 12 by omega), zup_ne _ _ (show b + 1 ≠ b + 13 by omega), zup_ne _ _ (show b + 1 ≠ b + 14 by omega), zup_ne _ _ (show b + 2 ≠ b + 11 by omega), zup_ne _ _ (show b + 2 ≠ b + 12 by omega), zup_ne _ _ (show b + 2 ≠ b + 13 by omega), zup_ne _ _ (show b + 2 ≠ b + 14 by omega)]
        exact hB s hs
      · simp only [zI_sI, zup_ne _ _ (show b + 3 ≠ b + 11 by omega), zup_ne _ _ (show b + 3 ≠ b + 12 by omega), zup_ne _ _ (show b + 3 ≠ b + 13 by omega), zup_ne _ _ (show b + 3 ≠ b + 14 by omega)]
        exact hC p hp
      · by_cases e : m = k
        · subst e
          simp [zI_sI, zup]
        · have := hD m (by omega)
          simpa [zI_sI, zup, e] using this
  have l2 : ∀ n k (h1 : zMem), n + k = 6 → zW h h1 → (∀ a, (a < b ∨ b + 17 ≤ a) → zI h1 a = zI h a) → (∀ s, s < 6 → zI h1 (b + 1) s = zI h (td + 7) s ∧ zI h1 (b + 2) s = 0) → (∀ p, p < k → zI h1 (b + 3) p = zI h (td + 18) p) →
      zg G mX5_begin (d + 1) 35 [.ref b, .ref td, .int (nI k)] [] h1 (zPV Q) := by
    intro n
    induction n with
    | zero =>
      intro k h1 hk hW hA hB hC
      have : k = 6 := by omega
      subst this
      exact sg_X5_begin_35 (hS.W hW) hb ht ⟨fun _ => l3 5 0 h1 (by omega) hW hA hB hC (fun m hm => absurd hm (by omega)), fun c => absurd (show nI 6 ≤ nI 6 from nI_le (Nat.le_refl _) (by decide)) c⟩
    | succ n ih =>
      intro k h1 hk hW hA hB hC
      refine sg_X5_begin_35 (hS.W hW) hb ht ?_
      rw [zcla (show k < 2 ^ 31 by omega), nI_1, hA (td + 18) (by omega)]
      refine ⟨fun c => absurd (show nI 6 ≤ nI k from c) (nI_ge (by omega) (by decide)), fun _ => ⟨zin_n (by omega) (by decide), ih (k + 1) _ (by omega) (hW.sI _ _ _) (fun a ha => ?_) (fun s hs => ?_) (fun p hp => ?_)⟩⟩
      · rw [zI_sI, zup_ne _ _ (by omega)]; exact hA a ha
      · rw [zI_sI, zup_ne _ _ (show b + 1 ≠ b + 3 by omega), zup_ne _ _ (show b + 2 ≠ b + 3 by omega)]; exact hB s hs
      · by_cases e : p = k
        · subst e; rw [zI_sI, zup_s]
        · rw [zI_sI, zup_i _ _ _ e]; exact hC p (by omega)
  have l1 : ∀ n k (h1 : zMem), n + k = 6 → zW h h1 → (∀ a, (a < b ∨ b + 17 ≤ a) → zI h1 a = zI h a) → (∀ s, s < k → zI h1 (b + 1) s = zI h (td + 7) s ∧ zI h1 (b + 2) s = 0) →
      zg G mX5_begin (d + 1) 2 [.ref b, .ref td, .int (nI k)] [] h1 (zPV Q) := by
    intro n
    induction n with
    | zero =>
      intro k h1 hk hW hA hB
      have : k = 6 := by omega
      subst this
      exact sg_X5_begin_2 (hS.W hW) hb ht ⟨fun _ => l2 6 0 h1 (by omega) hW hA hB (fun m hm => absurd hm (by omega)), fun c => absurd (show nI 6 ≤ nI 6 from nI_le (Nat.le_refl _) (by decide)) c⟩
    | succ n ih =>
      intro k h1 hk hW hA hB
      refine sg_X5_begin_2 (hS.W hW) hb ht ?_
      rw [zcla (show k < 2 ^ 31 by omega), nI_1, hA (td + 7) (by omega)]
      refine ⟨fun c => absurd (show nI 6 ≤ nI k from c) (nI_ge (by omega) (by decide)), fun _ => ⟨zin_n (by omega) (by decide), ih (k + 1) _ (by omega) ((hW.sI _ _ _).sI _ _ _) (fun a ha => ?_) (fun s hs => ?_)⟩⟩
      · rw [zI_sI, zup_ne _ _ (by omega), zI_sI, zup_ne _ _ (by omega)]; exact hA a ha
      · by_cases e : s = k
        · subst e; simp [zI_sI, zup]
        · have := hB s (by omega)
          simpa [zI_sI, zup, e] using this
  exact l1 6 0 h (by omega) (zW.rf h) (fun _ _ => rfl) (fun s hs => absurd hs (by omega))
/-! a copy -/
theorem zI_cp_ne {h : zMem} {src dst n a : Nat} (ha : a ≠ dst) : zI (zcp h src 0 dst 0 n) a = zI h a := funext fun j => if_neg ha
theorem zI_cp {h : zMem} {src dst n j : Nat} (hj : j < n) : zI (zcp h src 0 dst 0 n) dst j = zI h src j := by
  show (if dst = dst then va_cpy (zI h src) (zI h dst) 0 0 n j else zI h dst j) = _
  rw [if_pos rfl]
  simp [va_cpy, hj]
theorem zW.cp {h h' : zMem} (q : zW h h') (a b c d e : Nat) : zW h (zcp h' a b c d e) := ⟨q.1, q.2⟩
def copyR (I I' : Nat → Nat → Int32) (b o : Nat) : Prop := (∀ a, (a < b ∨ b + 17 ≤ a) → I' a = I a) ∧ (∀ s, s < 6 → I' (b + 1) s = I (o + 1) s ∧ I' (b + 2) s = I (o + 2) s ∧ I' (b + 3) s = I (o + 3) s) ∧ (∀ m, m < 5 → I' (b + 11) m = I (o + 11) m ∧ I' (b + 12) m = I (o + 12) m ∧ I' (b + 13) m = I (o + 13) m ∧ I' (b + 14) m = I (o + 14) m) ∧ (∀ p s, p < 6 → s < 6 → I' (b + 4 + 1 + p) s = I (o + 4 + 1 + p) s) ∧ I' b 10 = I o 10 ∧ I' b 11 = I o 11 ∧ I' b 12 = I o 12 ∧ I' b 13 = I o 13 ∧ I' b 14 = I o 14
set_option maxHeartbeats 8000000 in
theorem X5_copy_ok {G : zG} {d t b o : Nat} {h : zMem} (hS : zSh1 h t) (hb : isSt b) (ho : isSt o) (hne : b ≠ o) : zConV G mX5_copy (d + 1) [.ref b, .ref o] h (fun h' => zW h h' ∧ copyR (zI h) (zI h') b o) := by
  have dj : b + 17 ≤ o ∨ o + 17 ≤ b := by
    rcases hb with rfl | rfl | rfl <;> rcases ho with rfl | rfl | rfl <;> omega
  refine cn_X5_copy (sg_X5_copy_0 hS hb ho ?_)
  obtain ⟨Q, hQ⟩ : ∃ Q : zMem → Prop, Q = (fun h' => zW h h' ∧ copyR (zI h) (zI h') b o) := ⟨_, rfl⟩
  rw [← hQ]
  have loop : ∀ n k (h1 : zMem), n + k = 6 → zW h h1 → (∀ a, (a < b ∨ b + 17 ≤ a) → zI h1 a = zI h a) → (∀ s, s < 6 → zI h1 (b + 1) s = zI h (o + 1) s ∧ zI h1 (b + 2) s = zI h (o + 2) s ∧ zI h1 (b + 3) s = zI h (o + 3) s) → (∀ p s, p < k → s < 6 → zI h1 (b + 4 + 1 + p) s = zI h (o + 4 + 1 + p) s) →
      zg G mX5_copy (d + 1) 47 [.ref b, .ref o, .int (nI k)] [] h1 (zPV Q) := by
    intro n
    induction n with
    | zero =>
      intro k h1 hk hW hA hB hC
      have : k = 6 := by omega
      subst this
      refine sg_X5_copy_47 (hS.W hW) hb ho ⟨fun _ => ?_, fun c => absurd (show nI 6 ≤ nI 6 from nI_le (Nat.le_refl _) (by decide)) c⟩
      obtain ⟨h2, e2⟩ : ∃ h2, h2 = zcp (zcp (zcp (zcp h1 (o + 11) 0 (b + 11) 0 5) (o + 12) 0 (b + 12) 0 5) (o + 13) 0 (b + 13) 0 5) (o + 14) 0 (b + 14) 0 5 := ⟨_, rfl⟩
      rw [← e2]
      have hW2 : zW h h2 := by rw [e2]; exact (((hW.cp ..).cp ..).cp ..).cp ..
      have hA2 : ∀ a, a ≠ b + 11 → a ≠ b + 12 → a ≠ b + 13 → a ≠ b + 14 → zI h2 a = zI h1 a := fun a q1 q2 q3 q4 => by rw [e2, zI_cp_ne q4, zI_cp_ne q3, zI_cp_ne q2, zI_cp_ne q1]
      have hM2 : ∀ m, m < 5 → zI h2 (b + 11) m = zI h (o + 11) m ∧ zI h2 (b + 12) m = zI h (o + 12) m ∧ zI h2 (b + 13) m = zI h (o + 13) m ∧ zI h2 (b + 14) m = zI h (o + 14) m := by
        intro m hm
        refine ⟨?_, ?_, ?_, ?_⟩
        · rw [e2, zI_cp_ne (by omega), zI_cp_ne (by omega), zI_cp_ne (by omega), zI_cp hm, hA _ (by omega)]
        · rw [e2, zI_cp_ne (by omega), zI_cp_ne (by omega), zI_cp hm, zI_cp_ne (by omega), hA _ (by omega)]
        · rw [e2, zI_cp_ne (by omega), zI_cp hm, zI_cp_ne (by omega), zI_cp_ne (by omega), hA _ (by omega)]
        · rw [e2, zI_cp hm, zI_cp_ne (by omega), zI_cp_ne (by omega), zI_cp_ne (by omega), hA _ (by omega)]
      have hO2 : zI h2 o = zI h o := by rw [hA2 o (by omega) (by omega) (by omega) (by omega)]; exact hA o (by omega)
      simp only [zI_sI, zup_ne _ _ (Ne.symm hne), hO2]
      rw [hQ]
      refine ⟨((((hW2.sI _ _ _).sI _ _ _).sI _ _ _).sI _ _ _).sI _ _ _, fun a ha => ?_, fun s hs => ?_, fun m hm => ?_, fun p s hp hs => ?_, ?_, ?_, ?_, ?_, ?_⟩
      · simp only [zI_sI, zup_ne _ _ (show a ≠ b by omega)]
        rw [hA2 a (by omega) (by omega) (by omega) (by omega)]; exact hA a ha
      · simp only [zI_sI, zup_ne _ _ (show b + 1 ≠ b by omega), zup_ne _ _ (show b + 2 ≠ b by omega), zup_ne _ _ (show b + 3 ≠ b by omega)]
        rw [hA2 (b + 1) (by omega) (by omega) (by omega) (by omega), hA2 (b + 2) (by omega) (by omega) (by omega) (by omega), hA2 (b + 3) (by omega) (by omega) (by omega) (by omega)]; exact hB s hs
      · simp only [zI_sI, zup_ne _ _ (show b + 11 ≠ b by omega), zup_ne _ _ (show b + 12 ≠ b by omega), zup_ne _ _ (show b + 13 ≠ b by omega), zup_ne _ _ (show b + 14 ≠ b by omega)]
        exact hM2 m hm
      · simp only [zI_sI, zup_ne _ _ (show b + 4 + 1 + p ≠ b by omega)]
        rw [hA2 _ (by omega) (by omega) (by omega) (by omega)]; exact hC p s hp hs
      all_goals simp [zI_sI, zup]
    | succ n ih =>
      intro k h1 hk hW hA hB hC
      refine sg_X5_copy_47 (hS.W hW) hb ho ?_
      rw [zcla (show k < 2 ^ 31 by omega), nI_1]
      refine ⟨fun c => absurd (show nI 6 ≤ nI k from c) (nI_ge (by omega) (by decide)), fun _ => ⟨zin_n (by omega) (by decide), ih (k + 1) _ (by omega) (hW.cp ..) (fun a ha => ?_) (fun s hs => ?_) (fun p s hp hs => ?_)⟩⟩
      · rw [zI_cp_ne (by omega)]; exact hA a ha
      · rw [zI_cp_ne (show b + 1 ≠ _ by omega), zI_cp_ne (show b + 2 ≠ _ by omega), zI_cp_ne (show b + 3 ≠ _ by omega)]; exact hB s hs
      · by_cases e : p = k
        · subst e; rw [zI_cp hs, hA _ (by omega)]
        · rw [zI_cp_ne (by omega)]; exact hC p s (by omega) hs
  refine loop 6 0 _ (by omega) ((((zW.rf h).cp ..).cp ..).cp ..) (fun a ha => ?_) (fun s hs => ⟨?_, ?_, ?_⟩) (fun p s q => absurd q (by omega))
  · rw [zI_cp_ne (by omega), zI_cp_ne (by omega), zI_cp_ne (by omega)]
  · rw [zI_cp_ne (by omega), zI_cp_ne (by omega), zI_cp hs]
  · rw [zI_cp_ne (by omega), zI_cp hs, zI_cp_ne (by omega)]
  · rw [zI_cp hs, zI_cp_ne (by omega), zI_cp_ne (by omega)]
