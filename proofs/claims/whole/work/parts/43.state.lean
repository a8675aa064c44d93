/-! a state of the class: what a morning does to it -/
/-- the same cells, other contents (but for the longs of cell 99) -/
def zW (h h' : zMem) : Prop := (h'.1 = h.1 ∧ zL h' 99 = zL h 99) ∧ h'.2.1 = h.2.1
theorem zW.rf (h : zMem) : zW h h := ⟨⟨rfl, rfl⟩, rfl⟩
theorem zW.trans {h h1 h2 : zMem} (a : zW h h1) (b : zW h1 h2) : zW h h2 := ⟨⟨b.1.1.trans a.1.1, b.1.2.trans a.1.2⟩, b.2.trans a.2⟩
theorem zW.sI {h h' : zMem} (q : zW h h') (a i : Nat) (v : Int32) : zW h (zsI h' a i v) := ⟨q.1, q.2⟩
theorem zF.w {h h' : zMem} {I' : Nat → Nat → Int32} (q : zF h I' h') : zW h h' := ⟨q.1, q.2.1⟩
theorem zSh1.W {h h' : zMem} {t : Nat} (hS : zSh1 h t) (q : zW h h') : zSh1 h' t := hS.of q.1.1 q.2
theorem zSh2.W {h h' : zMem} (hS : zSh2 h) (q : zW h h') : zSh2 h' := hS.of q.1.1 q.2
theorem st_td {b t : Nat} (hb : isSt b) (ht : isTd t) : t + 29 ≤ b ∨ b + 17 ≤ t := by
  rcases hb with rfl | rfl | rfl <;> rcases ht with rfl | rfl <;> omega
theorem zup_ne {α : Type} (f : Nat → Nat → α) {a i : Nat} (v : α) {b : Nat} (h : b ≠ a) : zup f a i v b = f b := zup_row f v h
/-- how much of a stuff is taken out -/
def takeF (I : Nat → Nat → Int32) (b t nd dt s : Nat) : Int32 := if I (b + 1) s < mixOn I t nd dt s then I (b + 1) s else mixOn I t nd dt s
def takeR (I I' : Nat → Nat → Int32) (b t ns nd dt : Nat) : Prop := (∀ a, a ≠ b + 1 → a ≠ b + 15 → I' a = I a) ∧ ∀ s, s < ns → I' (b + 15) s = takeF I b t nd dt s ∧ I' (b + 1) s = I (b + 1) s - takeF I b t nd dt s
set_option maxHeartbeats 4000000 in
theorem X5_takeOut_ok {G : zG} {d t b td : Nat} {h : zMem} (hS : zSh1 h t) (hb : isSt b) (ht : isTd td) {ns nd dt : Nat} (hn : zI h (td + 1) 0 = nI ns) (h6 : ns ≤ 6) (hnd : zI h (td + 1) 1 = nI nd) (h8 : nd ≤ 8) (hdt : zI h b 10 = nI dt) (hd : dt < 2 ^ 31) :
    zConV G mX5_takeOut (d + 1) [.ref b, .ref td] h (fun h' => zW h h' ∧ takeR (zI h) (zI h') b td ns nd dt) := by
  have dj := st_td hb ht
  refine cn_X5_takeOut (sg_X5_takeOut_0 hS hb ht ?_)
  have loop : ∀ n k (h1 : zMem), n + k = ns → zW h h1 → (∀ a, a ≠ b + 1 → a ≠ b + 15 → zI h1 a = zI h a) → (∀ s, s < k → zI h1 (b + 15) s = takeF (zI h) b td nd dt s ∧ zI h1 (b + 1) s = zI h (b + 1) s - takeF (zI h) b td nd dt s) → (∀ s, k ≤ s → zI h1 (b + 1) s = zI h (b + 1) s) →
      zg G mX5_takeOut (d + 1) 2 [.ref b, .ref td, .int (nI k)] [] h1 (zPV (fun h' => zW h h' ∧ takeR (zI h) (zI h') b td ns nd dt)) := by
    intro n
    induction n with
    | zero =>
      intro k h1 hk hW hA hB hC
      refine sg_X5_takeOut_2 (hS.W hW) hb ht ?_
      rw [hA (td + 1) (by omega) (by omega), hn]
      exact ⟨fun _ => ⟨hW, hA, fun s hs => hB s (by omega)⟩, fun c => absurd (nI_le (by omega) (by omega)) c⟩
    | succ n ih =>
      intro k h1 hk hW hA hB hC
      refine sg_X5_takeOut_2 (hS.W hW) hb ht ?_
      rw [hA (td + 1) (by omega) (by omega), hn, hA b (by omega) (by omega), hdt, zcla (show k < 2 ^ 31 by omega), nI_1]
      refine ⟨fun c => absurd c (nI_ge (by omega) (by omega)), fun _ => ⟨_, X7_mixedOn_ok (hS.W hW) ht (by rw [hA (td + 1) (by omega) (by omega)]; exact hnd) h8 hd (by omega), ?_⟩⟩
      rintro v h3 ⟨rfl, rfl⟩
      have hm : mixOn (zI h3) td nd dt k = mixOn (zI h) td nd dt k := by
        unfold mixOn
        by_cases q : nd = 0
        · rw [if_pos q, if_pos q]
        · have := Nat.mod_lt dt (Nat.pos_of_ne_zero q)
          rw [if_neg q, if_neg q, hA (td + 9 + 1 + dt % nd) (by omega) (by omega)]
      rw [hm, hC k (Nat.le_refl _)]
      refine ⟨hS.W hW, zin_n (by omega) (by decide), ?_⟩
      have e1 : (if zI h (b + 1) k < mixOn (zI h) td nd dt k then zI h (b + 1) k else mixOn (zI h) td nd dt k) = takeF (zI h) b td nd dt k := rfl
      rw [e1]
      refine ih (k + 1) _ (by omega) ((hW.sI _ _ _).sI _ _ _) (fun a q1 q2 => ?_) (fun s hs => ?_) (fun s hs => ?_)
      · rw [zI_sI, zup_ne _ _ q1, zI_sI, zup_ne _ _ q2]; exact hA a q1 q2
      · by_cases e : s = k
        · subst e
          simp only [zI_sI, zup_s, zup_ne _ _ (show b + 15 ≠ b + 1 by omega), zup_ne _ _ (show b + 1 ≠ b + 15 by omega), hC s (Nat.le_refl _)]
          first | trivial | exact ⟨trivial, rfl⟩ | exact ⟨rfl, rfl⟩
        · simp only [zI_sI, zup_i _ _ _ e]
          exact hB s (by omega)
      · simp only [zI_sI, zup_i _ _ _ (show s ≠ k by omega)]
        exact hC s (by omega)
  exact loop ns 0 h (by omega) (zW.rf h) (fun _ _ _ => rfl) (fun s hs => absurd hs (by omega)) (fun _ _ => rfl)
/-- the first stuff that is short, or -1 -/
def shortF (I : Nat → Nat → Int32) (b t nd dt : Nat) : Nat → Nat → Int32
  | 0, _ => -1
  | n + 1, k => if mixOn I t nd dt k ≤ I (b + 1) k then shortF I b t nd dt n (k + 1) else nI k
set_option maxHeartbeats 4000000 in
theorem X5_firstShort_ok {G : zG} {d t b td : Nat} {h : zMem} (hS : zSh1 h t) (hb : isSt b) (ht : isTd td) {ns nd dt : Nat} (hn : zI h (td + 1) 0 = nI ns) (h6 : ns ≤ 6) (hnd : zI h (td + 1) 1 = nI nd) (h8 : nd ≤ 8) (hdt : zI h b 10 = nI dt) (hd : dt < 2 ^ 31) :
    zConI G mX5_firstShort (d + 1) [.ref b, .ref td] h (fun v h' => v = shortF (zI h) b td nd dt ns 0 ∧ h' = h) := by
  refine cn_X5_firstShort (sg_X5_firstShort_0 hS hb ht ?_)
  obtain ⟨W, hW⟩ : ∃ W, shortF (zI h) b td nd dt ns 0 = W := ⟨_, rfl⟩
  rw [hW]
  have loop : ∀ n k, n + k = ns → shortF (zI h) b td nd dt n k = W → zg G mX5_firstShort (d + 1) 2 [.ref b, .ref td, .int (nI k)] [] h (zPI (fun v h' => v = W ∧ h' = h)) := by
    intro n
    induction n with
    | zero =>
      intro k hk hW
      refine sg_X5_firstShort_2 hS hb ht ?_
      rw [hn]
      exact ⟨fun _ => ⟨hW, rfl⟩, fun c => absurd (nI_le (by omega) (by omega)) c⟩
    | succ n ih =>
      intro k hk hW
      refine sg_X5_firstShort_2 hS hb ht ?_
      rw [hn, hdt, zcla (show k < 2 ^ 31 by omega), nI_1]
      refine ⟨fun c => absurd c (nI_ge (by omega) (by omega)), fun _ => ⟨_, X7_mixedOn_ok hS ht hnd h8 hd (by omega), ?_⟩⟩
      rintro v h3 ⟨rfl, rfl⟩
      refine ⟨hS, zin_n (by omega) (by decide), fun c => ih (k + 1) (by omega) ?_, fun c => ⟨?_, rfl⟩⟩
      · rw [← hW, shortF, if_pos c]
      · rw [← hW, shortF, if_neg c]
  exact loop ns 0 (by omega) hW
/-- the air of a stuff in a room, behind the drift -/
def airF (I : Nat → Nat → Int32) (b t p s : Nat) : Int32 := if airLawV I b t p s (I (b + 15) s) = cERR then ((I (b + 15) s * I (b + 3) p) / 100 + (I (b + 4 + 1 + p) s * I t 10) / 100) + I (b + 2) s else withinF (airLawV I b t p s (I (b + 15) s)) 0 9999
theorem lawV_congr {I I' : Nat → Nat → Int32} {l r : Nat} {nm : Nat → Int64} (h : ∀ k, k < 6 → I' (l + k) = I (l + k)) : lawV I' l r nm = lawV I l r nm := by
  unfold lawV
  rw [h 1 (by decide), h 2 (by decide), h 3 (by decide), h 4 (by decide), h 5 (by decide)]
theorem lwOK_congr {I I' : Nat → Nat → Int32} {l : Nat} (h : ∀ k, k < 6 → I' (l + k) = I (l + k)) (q : lwOK I l) : lwOK I' l := by
  unfold lwOK at *
  rw [h 3 (by decide), h 4 (by decide), h 5 (by decide)]
  exact q
theorem airF_congr {I I' : Nat → Nat → Int32} {b t p s : Nat} (h0 : I' b = I b) (h2 : I' (b + 2) = I (b + 2)) (h3 : I' (b + 3) = I (b + 3)) (h15 : I' (b + 15) = I (b + 15)) (ha : I' (b + 4 + 1 + p) s = I (b + 4 + 1 + p) s) (hT : ∀ k, k < 29 → I' (t + k) = I (t + k)) : airF I' b t p s = airF I b t p s := by
  have ht0 : I' t = I t := hT 0 (by decide)
  have e : ∀ m, airLawV I' b t p s m = airLawV I b t p s m := fun m => by
    unfold airLawV
    rw [h3, ha, h2, h0]
    exact lawV_congr (fun k hk => by rw [Nat.add_assoc]; exact hT (21 + k) (by omega))
  unfold airF
  rw [h15, e, h3, ha, ht0, h2]
def driftR (I I' : Nat → Nat → Int32) (b t nr ns : Nat) : Prop := (∀ a, (a < b + 5 ∨ b + 11 ≤ a) → I' a = I a) ∧ ∀ p s, p < nr → s < ns → I' (b + 4 + 1 + p) s = airF I b t p s
set_option maxHeartbeats 8000000 in
theorem X5_drift_ok {G : zG} {d t b td : Nat} {h : zMem} (hS : zSh1 h t) (hb : isSt b) (ht : isTd td) {ns nr : Nat} (hn : zI h (td + 1) 0 = nI ns) (h6 : ns ≤ 6) (hnr : zI h (td + 1) 2 = nI nr) (h6r : nr ≤ 6) (hw : lwOK (zI h) (td + 21)) :
    zConV G mX5_drift (d + 3) [.ref b, .ref td] h (fun h' => zW h h' ∧ driftR (zI h) (zI h') b td nr ns) := by
  have dj := st_td hb ht
  refine cn_X5_drift (sg_X5_drift_0 hS hb ht ?_)
  have inner : ∀ (p : Nat), p < nr → (∀ h1 : zMem, zW h h1 → (∀ a, (a < b + 5 ∨ b + 11 ≤ a) → zI h1 a = zI h a) → (∀ p' s, p' < p + 1 → s < ns → zI h1 (b + 4 + 1 + p') s = airF (zI h) b td p' s) → (∀ p', p < p' → p' < 6 → zI h1 (b + 4 + 1 + p') = zI h (b + 4 + 1 + p')) →
        zg G mX5_drift (d + 3) 2 [.ref b, .ref td, .int (nI (p + 1)), zU, zU, zU, zU] [] h1 (zPV (fun h' => zW h h' ∧ driftR (zI h) (zI h') b td nr ns))) →
      ∀ n k (h1 : zMem), n + k = ns → zW h h1 → (∀ a, (a < b + 5 ∨ b + 11 ≤ a) → zI h1 a = zI h a) → (∀ p' s, p' < p → s < ns → zI h1 (b + 4 + 1 + p') s = airF (zI h) b td p' s) → (∀ p', p < p' → p' < 6 → zI h1 (b + 4 + 1 + p') = zI h (b + 4 + 1 + p')) → (∀ s, s < k → zI h1 (b + 4 + 1 + p) s = airF (zI h) b td p s) → (∀ s, k ≤ s → zI h1 (b + 4 + 1 + p) s = zI h (b + 4 + 1 + p) s) →
        zg G mX5_drift (d + 3) 14 [.ref b, .ref td, .int (nI p), .int (nI k), zU, zU, zU] [] h1 (zPV (fun h' => zW h h' ∧ driftR (zI h) (zI h') b td nr ns)) := by
    intro p hp K n
    induction n with
    | zero =>
      intro k h1 hk hW hA hB hC hD hE
      refine sg_X5_drift_14 (hS.W hW) hb ht ?_
      rw [hA (td + 1) (by omega), hn, nI_1]
      refine ⟨fun _ => K h1 hW hA (fun p' s hp' hs => ?_) hC, fun c => absurd (nI_le (by omega) (by omega)) c⟩
      by_cases e : p' = p
      · subst e; exact hD s (by omega)
      · exact hB p' s (by omega) hs
    | succ n ih =>
      intro k h1 hk hW hA hB hC hD hE
      refine sg_X5_drift_14 (hS.W hW) hb ht ?_
      have hT : ∀ k, k < 29 → zI h1 (td + k) = zI h (td + k) := fun k hk => hA (td + k) (by omega)
      have ea : airF (zI h1) b td p k = airF (zI h) b td p k := airF_congr (hA b (by omega)) (hA (b + 2) (by omega)) (hA (b + 3) (by omega)) (hA (b + 15) (by omega)) (hE k (Nat.le_refl _)) hT
      rw [hA (td + 1) (by omega), hn, zcla (show k < 2 ^ 31 by omega), zcla (show p < 2 ^ 31 by omega)]
      simp only [nI_1]
      refine ⟨fun c => absurd c (nI_ge (by omega) (by omega)), fun _ => ⟨zin_n (by omega) (by decide), _, X5_airLaw_ok (hS.W hW) hb ht (by omega) (by omega) (lwOK_congr (fun j hj => by rw [Nat.add_assoc]; exact hT (21 + j) (by omega)) hw) _, ?_⟩⟩
      rintro v h4 ⟨rfl, q4⟩
      have hW4 : zW h h4 := hW.trans q4.w
      have next : ∀ v : Int32, v = airF (zI h1) b td p k → zg G mX5_drift (d + 3) 14 [.ref b, .ref td, .int (nI p), .int (nI (k + 1)), zU, zU, zU] [] (zsI h4 (b + 4 + 1 + p) k v) (zPV (fun h' => zW h h' ∧ driftR (zI h) (zI h') b td nr ns)) := by
        intro v hv
        refine ih (k + 1) _ (by omega) (hW4.sI _ _ _) (fun a ha => ?_) (fun p' s hp' hs => ?_) (fun p' q1 q2 => ?_) (fun s hs => ?_) (fun s hs => ?_)
        · rw [zI_sI, zup_ne _ _ (by omega), q4.2.2]; exact hA a ha
        · rw [zI_sI, zup_ne _ _ (by omega), q4.2.2]; exact hB p' s hp' hs
        · rw [zI_sI, zup_ne _ _ (by omega), q4.2.2]; exact hC p' q1 q2
        · by_cases e : s = k
          · subst e; rw [zI_sI, zup_s, hv, ea]
          · rw [zI_sI, zup_i _ _ _ e, q4.2.2]; exact hD s (by omega)
        · rw [zI_sI, zup_i _ _ _ (by omega), q4.2.2]; exact hE s (by omega)
      rw [lg_cmp_eq]
      refine ⟨hS.W hW4, zin_n (by omega) (by decide), fun c => ⟨_, X5_within_ok (hS.W hW4) _ _ _, ?_⟩, fun c => ?_⟩
      · rintro v h10 ⟨rfl, rfl⟩
        exact ⟨hS.W hW4, next _ (by unfold airF; rw [if_neg c])⟩
      · rw [q4.2.2]
        exact next _ (by unfold airF; rw [if_pos c])
  have outer : ∀ n p (h1 : zMem), n + p = nr → zW h h1 → (∀ a, (a < b + 5 ∨ b + 11 ≤ a) → zI h1 a = zI h a) → (∀ p' s, p' < p → s < ns → zI h1 (b + 4 + 1 + p') s = airF (zI h) b td p' s) → (∀ p', p ≤ p' → p' < 6 → zI h1 (b + 4 + 1 + p') = zI h (b + 4 + 1 + p')) →
      zg G mX5_drift (d + 3) 2 [.ref b, .ref td, .int (nI p), zU, zU, zU, zU] [] h1 (zPV (fun h' => zW h h' ∧ driftR (zI h) (zI h') b td nr ns)) := by
    intro n
    induction n with
    | zero =>
      intro p h1 hp hW hA hB hC
      refine sg_X5_drift_2 (hS.W hW) hb ht ?_
      rw [hA (td + 1) (by omega), hnr]
      exact ⟨fun _ => ⟨hW, hA, fun p' s q1 q2 => hB p' s (by omega) q2⟩, fun c => absurd (nI_le (by omega) (by omega)) c⟩
    | succ n ih =>
      intro p h1 hp hW hA hB hC
      refine sg_X5_drift_2 (hS.W hW) hb ht ?_
      rw [hA (td + 1) (by omega), hnr]
      refine ⟨fun c => absurd c (nI_ge (by omega) (by omega)), fun _ => ?_⟩
      refine inner p (by omega) (fun h2 a1 a2 a3 a4 => ih (p + 1) h2 (by omega) a1 a2 a3 (fun p' q1 q2 => a4 p' (by omega) q2)) ns 0 h1 (by omega) hW hA hB (fun p' q1 q2 => hC p' (by omega) q2) (fun s hs => absurd hs (by omega)) (fun s _ => by rw [hC p (Nat.le_refl _) (by omega)])
  exact outer nr 0 h (by omega) (zW.rf h) (fun _ _ => rfl) (fun p' s q => absurd q (by omega)) (fun _ _ _ => rfl)
