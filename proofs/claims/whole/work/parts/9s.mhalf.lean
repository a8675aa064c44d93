/-! the model's rows: the other half becomes what is told -/
section HF
variable {G : zG} {d : Nat} {h : zMem}
def hfR (c hn : Nat) (h h' : zMem) : Prop := zW h h' ∧ (∀ c', c' ≠ c → zI h' c' = zI h c') ∧ (∀ k, k < hn → zI h' c k = zI h c (hn + k)) ∧ ∀ k, hn ≤ k → zI h' c k = zI h c k
theorem X10_half_ok (S : zSh2 h) {c hn : Nat} (ho : zO h c 100) (hl : zLen h c = 2 * hn) (hd : nI (2 * hn) / 2 = nI hn) (hb : hn ≤ 64) : zConV G mX10_half d [.ref c] h (hfR c hn h) := by
  refine cn_X10_half (sg_X10_half_0 S ⟨ho, ?_⟩)
  rw [hl, hd]
  have L : ∀ m k (h1 : zMem), m + k = hn → zW h h1 → (∀ c', c' ≠ c → zI h1 c' = zI h c') → (∀ j, j < k → zI h1 c j = zI h c (hn + j)) → (∀ j, k ≤ j → zI h1 c j = zI h c j) → zg G mX10_half d 7 [.ref c, .int (nI hn), .int (nI k)] [] h1 (zPV (hfR c hn h)) := by
    intro m
    induction m with
    | zero =>
      intro k h1 hk w e1 e2 e3
      have : k = hn := by omega
      subst this
      exact sg_X10_half_7 (S.W w) ⟨fun _ => ⟨w, e1, e2, e3⟩, fun z => absurd (nI_le (Nat.le_refl _) (by omega)) z⟩
    | succ m ih =>
      intro k h1 hk w e1 e2 e3
      have ho1 : zO h1 c 100 := by unfold zO zn zK at *; rw [w.1.1, w.2]; exact ho
      have hl1 : zLen h1 c = 2 * hn := by unfold zLen at *; rw [w.2]; exact hl
      refine sg_X10_half_7 (S.W w) ⟨fun z => absurd z (nI_ge (by omega) (by omega)), fun _ => ⟨ho1, ?_⟩⟩
      rw [hl1, nI_add, nI_1, zcla (show k < 2 ^ 31 by omega), zcla (show hn + k < 2 ^ 31 by omega)]
      refine ⟨zin_n (by omega) (by omega), zin_n (by omega) (by omega), ?_⟩
      refine ih (k + 1) _ (by omega) (w.sI _ _ _) (fun c' hc => by rw [zI_sI, zup_ne _ _ hc]; exact e1 c' hc) (fun j hj => ?_) (fun j hj => by rw [zI_sI, zup_i _ _ _ (by omega)]; exact e3 j (by omega))
      rw [zI_sI]
      by_cases e : j = k
      · rw [e, zup_s]; exact e3 _ (by omega)
      · rw [zup_i _ _ _ e]; exact e2 j (by omega)
  exact L hn 0 h (by omega) (zW.rf h) (fun _ _ => rfl) (fun j hj => absurd hj (by omega)) (fun _ _ => rfl)
end HF
