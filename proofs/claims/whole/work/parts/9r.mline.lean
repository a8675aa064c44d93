/-! the model's line: as the class's -/
section ML
variable {G : zG} {d n p i : Nat} {h1 h : zMem} {B : Nat → Int32} {A : tM}
theorem rdLn_w {w : Nat} (hw : w < 8) (e : tkt B n p = nI w) : rdLn B n A p = (if w = 0 then lnSR B n A 0 7 999 p else if w = 1 then lnDay B n A p else if w = 2 then lnMix B n A p else if w = 3 then lnSR B n A 2 18 100 p else if w = 4 then lnMonk B n A p else if w = 5 then lnLinger B n A p else if w = 6 then lnSeed B n A p else lnLaw B n A p) := by
  unfold rdLn
  rw [e]
  rcases (show w = 0 ∨ w = 1 ∨ w = 2 ∨ w = 3 ∨ w = 4 ∨ w = 5 ∨ w = 6 ∨ w = 7 by omega) with rfl | rfl | rfl | rfl | rfl | rfl | rfl | rfl <;> rfl
theorem rdLn_no (c : ∀ w : Nat, w < 8 → tkt B n p ≠ nI w) : rdLn B n A p = .inl (1, tks B n p) := by
  unfold rdLn
  rw [if_neg (show ¬ tkt B n p = 0 from c 0 (by decide)), if_neg (show ¬ tkt B n p = 1 from c 1 (by decide)), if_neg (show ¬ tkt B n p = 2 from c 2 (by decide)), if_neg (show ¬ tkt B n p = 3 from c 3 (by decide)), if_neg (show ¬ tkt B n p = 4 from c 4 (by decide)), if_neg (show ¬ tkt B n p = 5 from c 5 (by decide)), if_neg (show ¬ tkt B n p = 6 from c 6 (by decide)), if_neg (show ¬ tkt B n p = 7 from c 7 (by decide))]
/-- full: the class's fault 2 -/
theorem full_eq {w : Nat} (hw : w < 8) (wA : wfA A) (mx : ∃ x : Nat, x ≤ 24 ∧ A 0 9 = nI x) (e : tkt B n p = nI w) (f : flT A w) : rdLn B n A p = .inl (2, tks B n p) := by
  rw [rdLn_w hw e]
  have le : ∀ kd, A 1 kd = nI (msT kd) → nwX B n A kd p = 2 ∧ nwP B n A kd p = tks B n p := fun kd ek => by
    have : nI (msT kd) ≤ A 1 kd := by rw [ek]; exact nI_le (Nat.le_refl _) (by have := msT_le kd; omega)
    unfold nwX nwP
    rw [if_pos this, if_pos this]; exact ⟨rfl, rfl⟩
  rcases f with ⟨rfl, f⟩ | ⟨rfl, f⟩ | ⟨rfl, f⟩ | ⟨rfl, f⟩ | ⟨rfl, f⟩
  · obtain ⟨g1, g2⟩ := le 0 f
    show lnSR B n A 0 7 999 p = _
    unfold lnSR; rw [g1, g2]; rfl
  · obtain ⟨g1, g2⟩ := le 1 f
    show lnDay B n A p = _
    unfold lnDay; rw [g1, g2]; rfl
  · show lnMix B n A p = _
    unfold lnMix; rw [f]; rfl
  · obtain ⟨g1, g2⟩ := le 2 f
    show lnSR B n A 2 18 100 p = _
    unfold lnSR; rw [g1, g2]; rfl
  · obtain ⟨g1, g2⟩ := le 3 f
    show lnMonk B n A p = _
    unfold lnMonk; rw [g1, g2]; rfl
theorem nfull {kd w : Nat} {x : Int32} (hk : kd < 4) (wA : wfA A) (ex : x = nI (msT kd)) (c : ¬ A 1 kd = x) : ¬ nI (msT kd) ≤ A 1 kd := fun z => by
  obtain ⟨w1, w2⟩ := wA kd hk
  have m8 := msT_le kd
  rw [w1] at z
  have : msT kd ≤ mny A kd := Nat.le_of_not_lt (fun y => absurd z (nI_ge y (by omega)))
  exact c (by rw [w1, ex, show mny A kd = msT kd by omega])
set_option maxHeartbeats 2000000 in
theorem X10_line_ok (hG : gK G) (b : mBs h1 n B) (q : mok h1 n B p h) (m : mA A (zI h)) (wA : wfA A) (wL : wfL A) (e29 : zI h 132 29 = 0) (e19 : zI h 132 19 = nI i) (t37 : tkt B n p ≠ 37) : zConV G mX10_line (d + 133) [.ref 132] h (mlR h1 n B i (rdLn B n A p)) := by
  have S := q.1.sh b
  have T := q.2.1.2.2.2
  have w8 : mny A 1 ≤ 8 := (wA 1 (by decide)).2
  obtain ⟨R, hR⟩ : ∃ R, R = mlR h1 n B i (rdLn B n A p) := ⟨_, rfl⟩
  rw [← hR]
  refine cn_X10_line (sg_X10_line_0 S ?_)
  have b71 : ∀ {h5 : zMem} {f : Int32} {pl : Nat} (x : Int32), mbad h1 f pl h5 → rdLn B n A p = .inl (f, pl) → zg G mX10_line (d + 133) 71 [.ref 132, .int x, zU, zU, zU] [] h5 (zPV R) := fun x bb e =>
    sg_X10_line_71 (bb.1.sh b) ⟨fun z => absurd (bb.2.1.symm.trans z) bb.2.2.1, fun _ => by rw [hR, e]; exact bb⟩
  refine ⟨fun so => ?_, fun so => ?_⟩
  · refine m_wrong b q (by decide) (fun h' bb e => ?_)
    rw [hR, rdLn_no (fun w hw z => so ((T.w (w := w) (by omega)).mpr z).1)]; exact bb
  obtain ⟨j, hj, ej, va⟩ : ∃ w : Nat, w < 22 ∧ tkt B n p = nI w ∧ zI h 132 24 = nI w := by
    rcases T with ⟨w', a1, a2, _, a4⟩ | ⟨_, so', _⟩ | ⟨_, so', _⟩ | ⟨w', _, _, _, so', _⟩ | ⟨_, so'⟩ | ⟨_, so'⟩
    · exact ⟨w', a1, a2, a4⟩
    all_goals exact absurd (so'.symm.trans so) (by decide)
  rw [va]
  refine ⟨fun c7 => ?_, fun c7 => ?_⟩
  · have j7 : j < 8 := Nat.lt_of_not_le (fun z => absurd c7 (nI_ge (a := 7) (by omega) (by omega)))
    have K : ∀ h', mlR h1 n B i (rdLn B n A p) h' → R h' := fun h' z => by rw [hR]; exact z
    rw [rdLn_w j7 ej] at K
    -- the switch
    have go : ¬ flT A j → (j = 5 → A 0 11 = 0) → (j = 6 → A 0 12 = 0) → zg G mX10_line (d + 133) 71 [.ref 132, .int (nI j), zU, zU, zU] [] h (zPV R) := by
      intro nf n5 n6
      refine sg_X10_line_71 S ⟨fun _ => ?_, fun z => absurd q.2.2.2 z⟩
      have q1 := q.up (c := 132) (j := 18) (v := zI h 132 18 ||| ((1 : Int32) <<< (nI j &&& 31))) (by omega)
      refine m_token (d := d + 121) hG b q1.1 q1.2.1 q1.2.2.1 q1.2.2.2 (fun h3 q3 t3 => ?_)
      have f29 : zI h3 132 29 = 0 := by rw [t3.2 29 (by decide), zI_sI, zup_i _ _ _ (by decide)]; exact e29
      have f19 : zI h3 132 19 = nI i := by rw [t3.2 19 (by decide), zI_sI, zup_i _ _ _ (by decide)]; exact e19
      have ne : ∀ k : Nat, k < 8 → k ≠ j → ¬ nI j = nI k := fun k hk hkj z => hkj (nI_inj (by omega) (by omega) z).symm
      have hp := tke_gt B q.2.2.1 t37
      rcases (show j = 0 ∨ j = 1 ∨ j = 2 ∨ j = 3 ∨ j = 4 ∨ j = 5 ∨ j = 6 ∨ j = 7 by omega) with rfl | rfl | rfl | rfl | rfl | rfl | rfl | rfl
      · have m3 := (m.set (w := 0) (by decide) (by decide) (by decide)).tok t3
        exact ⟨fun _ => ml_stuff (d := d + 120) hG b q3 m3 wA (nfull (kd := 0) (w := 0) (by decide) wA rfl (fun z => nf (Or.inl ⟨rfl, z⟩))) f29 f19 K, fun z => absurd z (ne 1 (by decide) (by decide)), fun z => absurd z (ne 2 (by decide) (by decide)), fun z => absurd z (ne 3 (by decide) (by decide)), fun z => absurd z (ne 4 (by decide) (by decide)), fun z => absurd z (ne 5 (by decide) (by decide)), fun z => absurd z (ne 6 (by decide) (by decide)), fun z => absurd rfl z⟩
      · have m3 := (m.set (w := 1) (by decide) (by decide) (by decide)).tok t3
        exact ⟨fun z => absurd z (ne 0 (by decide) (by decide)), fun _ => ml_day (d := d + 119) hG b q3 m3 wA (nfull (kd := 1) (w := 1) (by decide) wA rfl (fun z => nf (Or.inr (Or.inl ⟨rfl, z⟩)))) f29 f19 K, fun z => absurd z (ne 2 (by decide) (by decide)), fun z => absurd z (ne 3 (by decide) (by decide)), fun z => absurd z (ne 4 (by decide) (by decide)), fun z => absurd z (ne 5 (by decide) (by decide)), fun z => absurd z (ne 6 (by decide) (by decide)), fun _ z => absurd rfl z⟩
      · have m3 := (m.set (w := 2) (by decide) (by decide) (by decide)).tok t3
        exact ⟨fun z => absurd z (ne 0 (by decide) (by decide)), fun z => absurd z (ne 1 (by decide) (by decide)), fun _ => ml_mix (d := d + 119) hG b q3 m3 wA (fun z => nf (Or.inr (Or.inr (Or.inl ⟨rfl, z⟩)))) f29 f19 K, fun z => absurd z (ne 3 (by decide) (by decide)), fun z => absurd z (ne 4 (by decide) (by decide)), fun z => absurd z (ne 5 (by decide) (by decide)), fun z => absurd z (ne 6 (by decide) (by decide)), fun _ _ z => absurd rfl z⟩
      · have m3 := (m.set (w := 3) (by decide) (by decide) (by decide)).tok t3
        exact ⟨fun z => absurd z (ne 0 (by decide) (by decide)), fun z => absurd z (ne 1 (by decide) (by decide)), fun z => absurd z (ne 2 (by decide) (by decide)), fun _ => ml_room (d := d + 120) hG b q3 m3 wA (nfull (kd := 2) (w := 3) (by decide) wA rfl (fun z => nf (Or.inr (Or.inr (Or.inr (Or.inl ⟨rfl, z⟩)))))) f29 f19 K, fun z => absurd z (ne 4 (by decide) (by decide)), fun z => absurd z (ne 5 (by decide) (by decide)), fun z => absurd z (ne 6 (by decide) (by decide)), fun _ _ _ z => absurd rfl z⟩
      · have m3 := (m.set (w := 4) (by decide) (by decide) (by decide)).tok t3
        exact ⟨fun z => absurd z (ne 0 (by decide) (by decide)), fun z => absurd z (ne 1 (by decide) (by decide)), fun z => absurd z (ne 2 (by decide) (by decide)), fun z => absurd z (ne 3 (by decide) (by decide)), fun _ => ml_monk (d := d + 120) hG b q3 m3 wA (nfull (kd := 3) (w := 4) (by decide) wA rfl (fun z => nf (Or.inr (Or.inr (Or.inr (Or.inr ⟨rfl, z⟩)))))) f29 f19 K, fun z => absurd z (ne 5 (by decide) (by decide)), fun z => absurd z (ne 6 (by decide) (by decide)), fun _ _ _ _ z => absurd rfl z⟩
      · have m3 := (m.set5 w8).tok t3
        exact ⟨fun z => absurd z (ne 0 (by decide) (by decide)), fun z => absurd z (ne 1 (by decide) (by decide)), fun z => absurd z (ne 2 (by decide) (by decide)), fun z => absurd z (ne 3 (by decide) (by decide)), fun z => absurd z (ne 4 (by decide) (by decide)), fun _ => ml_linger (d := d + 120) hG b w8 q3 m3 (n5 rfl) f29 f19 K, fun z => absurd z (ne 6 (by decide) (by decide)), fun _ _ _ _ _ z => absurd rfl z⟩
      · have m3 := (m.set6 w8).tok t3
        exact ⟨fun z => absurd z (ne 0 (by decide) (by decide)), fun z => absurd z (ne 1 (by decide) (by decide)), fun z => absurd z (ne 2 (by decide) (by decide)), fun z => absurd z (ne 3 (by decide) (by decide)), fun z => absurd z (ne 4 (by decide) (by decide)), fun z => absurd z (ne 5 (by decide) (by decide)), fun _ => ml_seed (d := d + 120) hG b q3 m3 (n6 rfl) f29 f19 K, fun _ _ _ _ _ _ z => absurd rfl z⟩
      · have m3 := (m.set (w := 7) (by decide) (by decide) (by decide)).tok t3
        exact ⟨fun z => absurd z (ne 0 (by decide) (by decide)), fun z => absurd z (ne 1 (by decide) (by decide)), fun z => absurd z (ne 2 (by decide) (by decide)), fun z => absurd z (ne 3 (by decide) (by decide)), fun z => absurd z (ne 4 (by decide) (by decide)), fun z => absurd z (ne 5 (by decide) (by decide)), fun z => absurd z (ne 6 (by decide) (by decide)), fun _ _ _ _ _ _ _ => ml_law (d := d) hG b hp q3 m3 wA wL f29 f19 K⟩
    refine m_isFull (d := d + 131) S m j7 (fun f => ⟨fun z => absurd z (by decide), fun _ => m_wrong b q (by decide) (fun h' bb e => b71 _ bb (full_eq j7 wA m.2.2.1.1.2 ej f))⟩) (fun nf => ⟨fun _ => ⟨fun c5 => ?_, fun c5 => ⟨fun c6 => ?_, fun c6 => ?_⟩⟩, fun z => absurd rfl z⟩)
    · have e5 : j = 5 := nI_inj (by omega) (by decide) c5
      subst e5
      refine ⟨fun nb => go nf (fun _ => Classical.byContradiction (fun z => nb (m.2.2.2.2.2.2.1.1.mpr z))) (fun z => absurd z (by decide)), fun yb => m_wrong b q (by decide) (fun h' bb e => b71 _ bb ?_)⟩
      rw [rdLn_w j7 ej]
      show lnLinger B n A p = _
      unfold lnLinger
      rw [if_neg (m.2.2.2.2.2.2.1.1.mp yb)]
    · exact go nf (fun z => absurd (by rw [z]; rfl) c5) (fun z => absurd (by rw [z]; rfl) c6)
    · have e6 : j = 6 := nI_inj (by omega) (by decide) c6
      subst e6
      refine ⟨fun nb => go nf (fun z => absurd z (by decide)) (fun _ => Classical.byContradiction (fun z => nb (m.2.2.2.2.2.2.1.2.1.mpr z))), fun yb => m_wrong b q (by decide) (fun h' bb e => b71 _ bb ?_)⟩
      rw [rdLn_w j7 ej]
      show lnSeed B n A p = _
      unfold lnSeed
      rw [if_neg (m.2.2.2.2.2.2.1.2.1.mp yb)]
  · refine m_wrong b q (by decide) (fun h' bb e => ?_)
    rw [hR, rdLn_no (fun w hw z => c7 (by rw [nI_inj (by omega) (by omega) (ej.symm.trans z)]; exact nI_le (b := 7) (by omega) (by decide)))]; exact bb
end ML
