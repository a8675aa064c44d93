/-! the vote, a whole morning, a state begun and copied -/
def voteR (I I' : Nat → Nat → Int32) (b t nd nm dt : Nat) : Prop := (∀ a, a ≠ b → a ≠ b + 16 → I' a = I a) ∧ (∀ k, k ≠ 11 → k ≠ 12 → k ≠ 13 → I' b k = I b k) ∧ (nd = 0 → I' b = I b) ∧ (0 < nd → I' b 11 = nI (mostF (I (b + 14)) (I b 14) nm nd (dt % nd)) ∧ I' b 12 = I b 12 + (if mostF (I (b + 14)) (I b 14) nm nd (dt % nd) = dt % nd then 1 else 0) ∧ I' b 13 = I b 13 + (if I (t + 8) (mostF (I (b + 14)) (I b 14) nm nd (dt % nd)) = I (t + 8) (dt % nd) then 0 else 1))
theorem i32_add0 (x : Int32) : x + 0 = x := by simp
set_option maxHeartbeats 8000000 in
theorem X5_vote_ok {G : zG} {d t b td : Nat} {h : zMem} (hS : zSh1 h t) (hb : isSt b) (ht : isTd td) {nd nm dt : Nat} (hnd : zI h (td + 1) 1 = nI nd) (h8 : nd ≤ 8) (hnm : zI h (td + 1) 3 = nI nm) (h5 : nm ≤ 5) (hdt : zI h b 10 = nI dt) (hd : dt < 2 ^ 31) (hth : ∀ m, m < nm → 0 < nd → ∃ j, j < nd ∧ zI h (b + 14) m = nI j) :
    zConV G mX5_vote (d + 1) [.ref b, .ref td] h (fun h' => zW h h' ∧ voteR (zI h) (zI h') b td nd nm dt) := by
  have dj := st_td hb ht
  refine cn_X5_vote (sg_X5_vote_0 hS hb ht ?_)
  rw [hnd]
  refine ⟨fun c => ⟨c, ?_⟩, fun c => ?_⟩
  · have hpos : 0 < nd := Nat.pos_of_ne_zero (fun e => c (by rw [e]; rfl))
    have hlt := Nat.mod_lt dt hpos
    rw [hdt, pk_rem hd hpos (by omega)]
    refine ⟨_, X5_mostThought_ok hS hb ht hnd h8 hnm h5 (fun m hm => hth m hm hpos), ?_⟩
    rintro v h4 ⟨rfl, hW4, hA4⟩
    have hq : mostF (zI h (b + 14)) (zI h b 14) nm nd (dt % nd) < nd := bstF_lt nd 0 _ _ (by omega) hlt
    obtain ⟨q, eq⟩ : ∃ q, q = mostF (zI h (b + 14)) (zI h b 14) nm nd (dt % nd) := ⟨_, rfl⟩
    rw [← eq] at hq ⊢
    have n1 : td + 8 ≠ b := by omega
    simp only [zI_sI, zup_s, zup_i _ _ _ (show (12 : Nat) ≠ 11 by decide), zup_i _ _ _ (show (13 : Nat) ≠ 11 by decide), zup_i _ _ _ (show (13 : Nat) ≠ 12 by decide), zup_i _ _ _ (show (11 : Nat) ≠ 12 by decide), zup_ne _ _ n1, zcla (show q < 2 ^ 31 by omega), zcla (show dt % nd < 2 ^ 31 by omega), hA4 (td + 8) (by omega), hA4 b (by omega)]
    have fr1 : ∀ {h2 : zMem} (k : Nat) (w : Int32), (∀ a, a ≠ b → a ≠ b + 16 → zI h2 a = zI h a) → ∀ a, a ≠ b → a ≠ b + 16 → zI (zsI h2 b k w) a = zI h a := fun k w hh a q1 q2 => by rw [zI_sI, zup_ne _ _ q1]; exact hh a q1 q2
    have fr0 : ∀ a, a ≠ b → a ≠ b + 16 → zI h4 a = zI h a := fun a _ q2 => hA4 a q2
    have hb4 : zI h4 b = zI h b := hA4 b (by omega)
    refine ⟨hS.W hW4, fun c1 => ⟨zin_n (by omega) (by decide), zin_n (by omega) (by decide), fun c2 => ⟨hW4.sI _ _ _, fr1 _ _ fr0, fun k q1 q2 q3 => ?_, fun e => absurd e (by omega), fun _ => ⟨?_, ?_, ?_⟩⟩, fun c2 => ⟨(hW4.sI _ _ _).sI _ _ _, fr1 _ _ (fr1 _ _ fr0), fun k q1 q2 q3 => ?_, fun e => absurd e (by omega), fun _ => ⟨?_, ?_, ?_⟩⟩⟩, fun c1 => ⟨zin_n (by omega) (by decide), zin_n (by omega) (by decide), fun c2 => ⟨(hW4.sI _ _ _).sI _ _ _, fr1 _ _ (fr1 _ _ fr0), fun k q1 q2 q3 => ?_, fun e => absurd e (by omega), fun _ => ⟨?_, ?_, ?_⟩⟩, fun c2 => ⟨((hW4.sI _ _ _).sI _ _ _).sI _ _ _, fr1 _ _ (fr1 _ _ (fr1 _ _ fr0)), fun k q1 q2 q3 => ?_, fun e => absurd e (by omega), fun _ => ⟨?_, ?_, ?_⟩⟩⟩⟩
    all_goals (try simp only [zI_sI, zup_s, zup_i _ _ _ (show (12 : Nat) ≠ 11 by decide), zup_i _ _ _ (show (13 : Nat) ≠ 11 by decide), zup_i _ _ _ (show (13 : Nat) ≠ 12 by decide), zup_i _ _ _ (show (11 : Nat) ≠ 12 by decide), zup_i _ _ _ (show (11 : Nat) ≠ 13 by decide), zup_i _ _ _ (show (12 : Nat) ≠ 13 by decide), hb4, ← eq])
    all_goals first
      | rfl
      | (rw [zup_i _ _ _ q3, zup_i _ _ _ q2, zup_i _ _ _ q1, hb4])
      | (rw [zup_i _ _ _ q3, zup_i _ _ _ q1, hb4])
      | (rw [zup_i _ _ _ q2, zup_i _ _ _ q1, hb4])
      | (rw [zup_i _ _ _ q1, hb4])
      | (rw [if_neg (fun e => c1 (by rw [e])), i32_add0])
      | (rw [if_pos ((nI_eq (by omega) (by omega)).mp c1)])
      | (rw [if_pos c2, i32_add0])
      | (rw [if_neg c2])
  · have h0 : nd = 0 := Nat.eq_zero_of_not_pos (fun q => nI_ne0 q (by omega) c)
    exact ⟨zW.rf h, fun _ _ _ => rfl, fun _ _ _ _ => rfl, fun _ => rfl, fun q => absurd q (by omega)⟩
/-- how many monks think it is a feast -/
def fthF (fe th : Nat → Int32) : Nat → Nat
  | 0 => 0
  | m + 1 => fthF fe th m + (if fe (th m).toNatClampNeg = 0 then 0 else 1)
set_option maxHeartbeats 4000000 in
theorem X5_feastThinkers_ok {G : zG} {d t b td : Nat} {h : zMem} (hS : zSh1 h t) (hb : isSt b) (ht : isTd td) {nm : Nat} (hnm : zI h (td + 1) 3 = nI nm) (h5 : nm ≤ 5) (hth : ∀ m, m < nm → ∃ j, j < 8 ∧ zI h (b + 14) m = nI j) :
    zConI G mX5_feastThinkers d [.ref b, .ref td] h (fun v h' => v = nI (fthF (zI h (td + 8)) (zI h (b + 14)) nm) ∧ h' = h) := by
  refine cn_X5_feastThinkers (sg_X5_feastThinkers_0 hS hb ht ?_)
  have loop : ∀ n m, n + m = nm → zg G mX5_feastThinkers d 4 [.ref b, .ref td, .int (nI (fthF (zI h (td + 8)) (zI h (b + 14)) m)), .int (nI m), zU] [] h (zPI (fun v h' => v = nI (fthF (zI h (td + 8)) (zI h (b + 14)) nm) ∧ h' = h)) := by
    intro n
    induction n with
    | zero =>
      intro m hk
      refine sg_X5_feastThinkers_4 hS hb ht ?_
      rw [hnm, show m = nm by omega]
      exact ⟨fun _ => ⟨rfl, rfl⟩, fun c => absurd (nI_le (Nat.le_refl _) (by omega)) c⟩
    | succ n ih =>
      intro m hk
      obtain ⟨j, hj, ej⟩ := hth m (by omega)
      have e := ih (m + 1) (by omega)
      refine sg_X5_feastThinkers_4 hS hb ht ?_
      rw [hnm, zcla (show m < 2 ^ 31 by omega), ej, zcla (show j < 2 ^ 31 by omega)]
      simp only [nI_1]
      refine ⟨fun c => absurd c (nI_ge (by omega) (by omega)), fun _ => ⟨zin_n (by omega) (by decide), fun c => absurd c (nI_pos (by omega)), fun _ => ⟨zin_n hj (by decide), fun c => ?_, fun c => ?_⟩⟩⟩
      · simp only [fthF, ej, zcla (show j < 2 ^ 31 by omega), if_pos c] at e; exact e
      · simp only [fthF, ej, zcla (show j < 2 ^ 31 by omega), if_neg c] at e; exact e
  exact loop nm 0 (by omega)
def clearR (I I' : Nat → Nat → Int32) (b : Nat) : Prop := (∀ a, (a < b + 5 ∨ b + 11 ≤ a) → I' a = I a) ∧ ∀ p s, p < 6 → s < 6 → I' (b + 4 + 1 + p) s = 0
set_option maxHeartbeats 4000000 in
theorem X5_clearAir_ok {G : zG} {d t b : Nat} {h : zMem} (hS : zSh1 h t) (hb : isSt b) : zConV G mX5_clearAir d [.ref b] h (fun h' => zW h h' ∧ clearR (zI h) (zI h') b) := by
  refine cn_X5_clearAir (sg_X5_clearAir_0 hS hb ?_)
  have inner : ∀ (p : Nat), p < 6 → (∀ h1 : zMem, zW h h1 → (∀ a, (a < b + 5 ∨ b + 11 ≤ a) → zI h1 a = zI h a) → (∀ p' s, p' < p + 1 → s < 6 → zI h1 (b + 4 + 1 + p') s = 0) → zg G mX5_clearAir d 2 [.ref b, .int (nI (p + 1)), zU] [] h1 (zPV (fun h' => zW h h' ∧ clearR (zI h) (zI h') b))) →
      ∀ n k (h1 : zMem), n + k = 6 → zW h h1 → (∀ a, (a < b + 5 ∨ b + 11 ≤ a) → zI h1 a = zI h a) → (∀ p' s, p' < p → s < 6 → zI h1 (b + 4 + 1 + p') s = 0) → (∀ s, s < k → zI h1 (b + 4 + 1 + p) s = 0) →
        zg G mX5_clearAir d 10 [.ref b, .int (nI p), .int (nI k)] [] h1 (zPV (fun h' => zW h h' ∧ clearR (zI h) (zI h') b)) := by
    intro p hp K n
    induction n with
    | zero =>
      intro k h1 hk hW hA hB hC
      have : k = 6 := by omega
      subst this
      refine sg_X5_clearAir_10 (hS.W hW) hb ?_
      simp only [nI_1]
      refine ⟨fun _ => K h1 hW hA (fun p' s q1 q2 => ?_), fun c => absurd (show nI 6 ≤ nI 6 from nI_le (Nat.le_refl _) (by decide)) c⟩
      by_cases e : p' = p
      · subst e; exact hC s q2
      · exact hB p' s (by omega) q2
    | succ n ih =>
      intro k h1 hk hW hA hB hC
      refine sg_X5_clearAir_10 (hS.W hW) hb ?_
      rw [zcla (show p < 2 ^ 31 by omega), zcla (show k < 2 ^ 31 by omega)]
      simp only [nI_1]
      refine ⟨fun c => absurd (show nI 6 ≤ nI k from c) (nI_ge (by omega) (by decide)), fun _ => ⟨zin_n hp (by decide), zin_n (by omega) (by decide), ih (k + 1) _ (by omega) (hW.sI _ _ _) (fun a ha => ?_) (fun p' s q1 q2 => ?_) (fun s hs => ?_)⟩⟩
      · rw [zI_sI, zup_ne _ _ (by omega)]; exact hA a ha
      · rw [zI_sI, zup_ne _ _ (by omega)]; exact hB p' s q1 q2
      · by_cases e : s = k
        · subst e; rw [zI_sI, zup_s]
        · rw [zI_sI, zup_i _ _ _ e]; exact hC s (by omega)
  have outer : ∀ n p (h1 : zMem), n + p = 6 → zW h h1 → (∀ a, (a < b + 5 ∨ b + 11 ≤ a) → zI h1 a = zI h a) → (∀ p' s, p' < p → s < 6 → zI h1 (b + 4 + 1 + p') s = 0) → zg G mX5_clearAir d 2 [.ref b, .int (nI p), zU] [] h1 (zPV (fun h' => zW h h' ∧ clearR (zI h) (zI h') b)) := by
    intro n
    induction n with
    | zero =>
      intro p h1 hp hW hA hB
      have : p = 6 := by omega
      subst this
      exact sg_X5_clearAir_2 (hS.W hW) hb ⟨fun _ => ⟨hW, hA, hB⟩, fun c => absurd (show nI 6 ≤ nI 6 from nI_le (Nat.le_refl _) (by decide)) c⟩
    | succ n ih =>
      intro p h1 hp hW hA hB
      refine sg_X5_clearAir_2 (hS.W hW) hb ⟨fun c => absurd (show nI 6 ≤ nI p from c) (nI_ge (by omega) (by decide)), fun _ => ?_⟩
      exact inner p (by omega) (fun h2 a1 a2 a3 => ih (p + 1) h2 (by omega) a1 a2 a3) 6 0 h1 (by omega) hW hA hB (fun s hs => absurd hs (by omega))
  exact outer 6 0 h (by omega) (zW.rf h) (fun _ _ => rfl) (fun p' s q => absurd q (by omega))
