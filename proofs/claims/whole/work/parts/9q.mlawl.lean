/-! the model's lines: a law's line -/
section ML
variable {G : zG} {d n p i : Nat} {h1 h : zMem} {B : Nat → Int32} {A : tM}
theorem ml_tailN {Q : zMem → Prop} {x1 : Int32} (b : mBs h1 n B) (q : mok h1 n B p h) (c : ¬ tkt B n p = 34) (K : ∀ h', mbad h1 1 (tks B n p) h' → Q h') : zg G mX10_line (d + 12) 399 [.ref 132, .int x1, zU, zU, zU] [] h (zPV Q) := by
  refine sg_X10_line_399 (q.1.sh b) ⟨fun _ => m_isSign b q (w := 34) (by decide) (by decide) rfl (fun z => absurd z c) (fun _ => ⟨fun z => absurd rfl z, fun _ => ?_⟩), fun z => absurd q.2.2.2 z⟩
  exact m_wrong b q (by decide) (fun h' bb e => K _ (bb.up (by omega)))
set_option maxHeartbeats 2000000 in
theorem ml_law {Q : zMem → Prop} {x1 : Int32} {h3 : zMem} (hG : gK G) (b : mBs h1 n B) (hp : p < tke B n p) (q : mok h1 n B (tke B n p) h3) (m : mA A (zI h3)) (w : wfA A) (wL : wfL A) (e29 : zI h3 132 29 = 0) (e19 : zI h3 132 19 = nI i) (K : ∀ h', mlR h1 n B i (lnLaw B n A p) h' → Q h') :
    ∃ Q112 : zMem → Prop, zConV G mX10_lawLine (d + 132) [.ref 132] h3 Q112 ∧ (∀ h113, Q112 h113 → zSh2 h113 ∧ zg G mX10_line (d + 133) 399 [.ref 132, .int x1, zU, zU, zU] [] h113 (zPV Q)) := by
  have S := q.1.sh b
  have hn := b.2.2.2
  have T := q.2.1.2.2.2
  obtain ⟨R, hR⟩ : ∃ R : zMem → Prop, R = fun h37 => zSh2 h37 ∧ zg G mX10_line (d + 133) 399 [.ref 132, .int x1, zU, zU, zU] [] h37 (zPV Q) := ⟨_, rfl⟩
  have Rbad : ∀ {h5 : zMem} {f : Int32} {pl : Nat}, mbad h1 f pl h5 → (∀ h', mbad h1 f pl h' → Q h') → R h5 := fun bb KK => by
    rw [hR]; exact ⟨bb.1.sh b, ml_tailF (d := d + 121) b bb (KK _ bb)⟩
  refine ⟨R, cn_X10_lawLine (sg_X10_lawLine_0 S ?_), fun h37 z => by rw [hR] at z; exact z⟩
  have b65 : ∀ {h5 : zMem} {f : Int32} {pl : Nat} (x : Int32), mbad h1 f pl h5 → (∀ h', mbad h1 f pl h' → Q h') → zg G mX10_lawLine (d + 132) 65 [.ref 132, .int x] [] h5 (zPV R) := fun x bb KK =>
    sg_X10_lawLine_65 (bb.1.sh b) ⟨fun z => absurd (bb.2.1.symm.trans z) bb.2.2.1, fun _ => Rbad bb KK⟩
  unfold lnLaw at K
  -- no rule's word
  have wr : ¬ (¬ tkt B n (tke B n p) < 9 ∧ tkt B n (tke B n p) ≤ 11) → ∀ h', mbad h1 1 (tks B n (tke B n p)) h' → Q h' := fun c h' bb => by
    by_cases c9 : tkt B n (tke B n p) < 9
    · rw [if_pos c9] at K; exact K h' bb
    · rw [if_neg c9, if_neg (fun z => c ⟨c9, z⟩)] at K; exact K h' bb
  refine ⟨fun so => ?_, fun so => ?_⟩
  · refine m_wrong b q (by decide) (fun h' bb e => ?_)
    have c : ¬ (¬ tkt B n (tke B n p) < 9 ∧ tkt B n (tke B n p) ≤ 11) := fun z => by
      obtain ⟨j, j1, j2, ej⟩ := zrange (lo := 9) (hi := 11) (a := 9) (b := 11) rfl rfl z.1 (fun y => by have z2 := z.2; rw [Int32.lt_iff_toInt_lt] at y; rw [Int32.le_iff_toInt_le] at z2; omega)
      exact so ((T.w (w := j) (by omega)).mpr ej).1
    exact ⟨fun _ => b65 _ bb (wr c), fun z => absurd (bb.2.1.symm.trans z) bb.2.2.1⟩
  obtain ⟨j, hj, ej, va⟩ : ∃ w : Nat, w < 22 ∧ tkt B n (tke B n p) = nI w ∧ zI h3 132 24 = nI w := by
    rcases T with ⟨w', a1, a2, _, a4⟩ | ⟨_, so', _⟩ | ⟨_, so', _⟩ | ⟨w', _, _, _, so', _⟩ | ⟨_, so'⟩ | ⟨_, so'⟩
    · exact ⟨w', a1, a2, a4⟩
    all_goals exact absurd (so'.symm.trans so) (by decide)
  rw [va]
  refine ⟨fun c9 => ?_, fun c9 => ⟨fun c11 => ?_, fun c11 => ?_⟩⟩
  · refine m_wrong b q (by decide) (fun h' bb e => ⟨fun _ => b65 _ bb (wr (fun z => z.1 (by rw [ej]; exact c9))), fun z => absurd (bb.2.1.symm.trans z) bb.2.2.1⟩)
  · have j9 : 9 ≤ j := Nat.le_of_not_lt (fun z => c9 (nI_lt (b := 9) z (by decide)))
    have j11 : j ≤ 11 := Nat.le_of_not_lt (fun z => absurd c11 (nI_ge (a := 11) z (by omega)))
    obtain ⟨r, hr⟩ : ∃ r, r = j - 9 := ⟨_, rfl⟩
    have r3 : r < 3 := by omega
    rw [sub9 j9, ← hr]
    have a16 : (16 : Int32) + nI r = nI (16 + r) := nI_add 16 r
    rw [a16]
    rw [ej, if_neg c9, if_pos c11, sub9 j9, ← hr, zcla (show r < 2 ^ 31 by omega)] at K
    have tb := m.2.2.2.2.2.2.1.2.2 r r3
    refine ⟨fun z => absurd q.2.2.2 z, fun _ => ⟨fun nb => ?_, fun yb => ?_⟩⟩
    · have c0 : A 26 r = 0 := Classical.byContradiction (fun z => nb (tb.mpr z))
      rw [if_pos c0] at K
      refine sg_X10_lawLine_65 S ⟨fun _ => ?_, fun z => absurd q.2.2.2 z⟩
      rw [a16, show (3 : Int32) + nI r = nI (3 + r) from nI_add 3 r, zcla (show 3 + r < 2 ^ 31 by omega)]
      have q4 := q.up (c := 132) (j := 18) (v := zI h3 132 18 ||| ((1 : Int32) <<< (nI (16 + r) &&& 31))) (by omega)
      refine m_token (d := d + 120) hG b q4.1 q4.2.1 q4.2.2.1 q4.2.2.2 (fun h5 q5 t5 => ?_)
      obtain ⟨ln, kn, w1, w2, w3, w4, w5, w6, w7⟩ := id wL.1
      have e15 : zI h5 134 (8 + 7) = nI ln := by rw [t5.1 134 (by decide), zI_sI, zup_ne _ _ (by decide)]; exact m.2.2.2.2.2.2.2.2.1.trans w1
      refine m_fresher (q5.1.sh b) (j := 7) (by decide) ?_
      rw [e15]
      refine ⟨zin_n (by omega) (by decide), ?_⟩
      have q6 := q5.up (c := 145) (j := 3 + r) (v := nI ln) (by unfold hfT; simp)
      obtain ⟨h6, e6⟩ : ∃ h6, h6 = zsI h5 145 (3 + r) (nI ln) := ⟨_, rfl⟩
      rw [← e6] at q6 ⊢
      have s6 : ∀ c, c ≠ 132 → c ≠ 145 → zI h6 c = zI h3 c := fun c a1 a2 => by rw [e6, zI_sI, zup_ne _ _ a2, t5.1 c a1, zI_sI, zup_ne _ _ a1]
      have j6 : ∀ j, j < 18 ∨ (18 < j ∧ j < 21) ∨ 27 ≤ j → zI h6 132 j = zI h3 132 j := fun j hj => by rw [e6, zI_sI, zup_ne _ _ (by decide), t5.2 j (by omega), zI_sI, zup_i _ _ _ (by omega)]
      have g18 : zI h6 132 18 = zI h3 132 18 ||| ((1 : Int32) <<< (nI (16 + r) &&& 31)) := by rw [e6, zI_sI, zup_ne _ _ (by decide), t5.2 18 (by decide), zI_sI, zup_s]
      have kb : kS (bgL A r) (zI h6) := kS_E m.2.2.2.2.2.2.2.2 (by unfold bgL; rw [zup_ne _ _ (by decide), zup_ne _ _ (by decide), zup_ne _ _ (by decide)]) (by unfold bgL; rw [zup_ne _ _ (by decide), zup_ne _ _ (by decide), zup_ne _ _ (by decide)]) (by unfold bgL; rw [zup_ne _ _ (by decide), zup_ne _ _ (by decide), zup_ne _ _ (by decide)]) (congrFun (s6 134 (by decide) (by decide)) 15) (j6 30 (by decide)) (s6 147 (by decide) (by decide)) (s6 148 (by decide) (by decide))
      have wb : wfF 0 [] (bgL A r) := wfF_up (by decide) (wfF_up (by decide) (wfF_up (by decide) wL.1))
      have b21 : (bgL A r) 21 = A 21 := by unfold bgL; rw [zup_ne _ _ (by decide), zup_ne _ _ (by decide), zup_ne _ _ (by decide)]
      obtain ⟨Q2, z1, z2⟩ := (lv_all hG b 112).2 d 0 [] (bgL A r) _ h6 ⟨q6, kb, wb, by rw [j6 29 (by decide)]; exact e29⟩ (by omega) (by decide) (fun z => absurd z (by decide))
      refine ⟨Q2, z1, fun h7 z => ⟨(z2 h7 z).1, ?_⟩⟩
      obtain ⟨fe, oY⟩ := (z2 h7 z).2
      have fuel : n - tke B n (tke B n p) < 700 := by
        have := tke_mono (B := B) q.2.2.1
        omega
      have S7 := (z2 h7 z).1
      refine m_fresher S7 (j := 7) (by decide) ?_
      rcases oY with ⟨f, pl, b7, hf⟩ | ⟨τ, Ac, p3, O⟩
      · rw [hf 700 fuel] at K
        exact Rbad (b7.up (c := 146) (by unfold hfT; simp)) K
      · have q7 := O.1
        obtain ⟨ln2, kn2, v1, v2, v3, v4⟩ := O.num (by decide)
        have e15' : zI h7 134 (8 + 7) = nI ln2 := O.2.1.1.trans v1
        rw [e15']
        have q8 := q7.up (c := 146) (j := 3 + r) (v := nI ln2) (by unfold hfT; simp)
        obtain ⟨k', hk', ef⟩ := O.2.2.2.2.2.2.1 700 fuel
        have est : stl 1 (τ ++ []) Ac = ([], apds τ Ac) := stl_app (fun x hx => O.2.2.2.2.1 x hx) (Or.inl rfl)
        obtain ⟨k2, rfl⟩ : ∃ k2, k' = k2 + 1 := ⟨k' - 1, by omega⟩
        by_cases c34 : tkt B n p3 = 34
        · have efm : fml B n 700 true 0 [] (bgL A r) (tke B n (tke B n p)) = .inr (apds τ Ac, p3) := by
            rw [ef, fml, if_pos ⟨rfl, rfl, c34⟩, est]
          rw [efm] at K
          obtain ⟨f1, f2, _⟩ := fml_ok 700 q5.2.2.1 wb efm
          have kw0 := O.2.2.2.2.2.2.2.2
          obtain ⟨hF, eF⟩ : ∃ hF, hF = zsI h7 146 (3 + r) (nI ln2) := ⟨_, rfl⟩
          have neF : ∀ c, c ≠ 146 → zI hF c = zI h7 c := fun c hc => by rw [eF, zI_sI, zup_ne _ _ hc]
          have lA : lnA (bgL A r) = ln := by unfold lnA; rw [b21, w1, zcla (by omega)]
          have lA0 : lnA A = ln := by unfold lnA; rw [w1, zcla (by omega)]
          have lA2 : lnA (apds τ Ac) = ln2 := by unfold lnA; rw [v1, zcla (by omega)]
          have kw : kpW A (apds τ Ac) 1 h3 hF := by
            obtain ⟨y1, y2, y3⟩ := kw0
            rw [lA] at y1 y2 y3
            refine ⟨by omega, fun j hj => ?_, fun mm => ?_⟩
            · rw [lA0] at hj
              rw [neF 147 (by decide), neF 148 (by decide)]
              have := y2 j hj
              rw [s6 147 (by decide) (by decide), s6 148 (by decide) (by decide)] at this
              exact this
            · rw [lA0]
              exact wfP_E _ _ _ (fun j _ _ => ⟨congrFun (neF 147 (by decide)) _, congrFun (neF 148 (by decide)) _⟩) (y3 mm)
          have lt : ln < ln2 := by
            have y3 := kw.2.2 0
            have y1 := kw.1
            rw [lA0, lA2] at y1 y3
            rcases Nat.lt_or_ge ln ln2 with z | z
            · exact z
            · rw [show ln2 - ln = 0 by omega] at y3
              exact absurd (show (0 : Nat) = 0 + 1 from y3) (by decide)
          have kF : kS (apds τ Ac) (zI hF) := by
            have := O.2.1
            unfold kS at *
            rw [neF 134 (by decide), neF 132 (by decide), neF 147 (by decide), neF 148 (by decide)]; exact this
          have mm := mA_law (h' := hF) r3 (by have := (w 1 (by decide)).2; have : msT 1 = 8 := rfl; omega) m c0 f1 kF w1 v1 v3 kw lt (fun c a1 a2 a3 a4 a5 a6 => by rw [neF c a4, fe.1 c a1 a2 a5 a6]; exact s6 c a1 a3) (fun j hj => by rw [neF 134 (by decide), fe.2.1 j hj]; exact congrFun (s6 134 (by decide) (by decide)) j) (by rw [neF 132 (by decide), fe.2.2 18 (by decide)]; exact g18) (fun j hj => ⟨by rw [neF 145 (by decide), fe.1 145 (by decide) (by decide) (by decide) (by decide), e6, zI_sI, zup_i _ _ _ hj, t5.1 145 (by decide), zI_sI, zup_ne _ _ (by decide)], by rw [eF, zI_sI, zup_i _ _ _ hj, fe.1 146 (by decide) (by decide) (by decide) (by decide)]; exact congrFun (s6 146 (by decide) (by decide)) j⟩) (by rw [neF 145 (by decide), fe.1 145 (by decide) (by decide) (by decide) (by decide), e6, zI_sI, zup_s]) (by rw [eF, zI_sI, zup_s])
          rw [← eF] at q8 ⊢
          rw [hR]
          exact ⟨q8.1.sh b, ml_tail (d := d + 121) hG b q8 mm (by rw [neF 132 (by decide)]; exact O.2.2.2.1) (by rw [neF 132 (by decide), fe.2.2 19 (by decide), j6 19 (by decide)]; exact e19) K⟩
        · have eS : stepS B n 0 (τ ++ []) Ac p3 = .inl (1, tks B n p3) := by
            unfold stepS
            rw [if_neg (fun z => absurd z.2 (by decide))]
            rcases O.2.2.2.2.2.2.2.1 with e | e | e | e
            · rw [if_pos (Or.inl e)]
            · rw [if_pos (Or.inr e)]
            · rw [if_pos (Or.inl ((str_or _).resolve_right (fun z => z e)))]
            · by_cases c0 : str (tkt B n p3) = 0 ∨ tkt B n p3 = 14
              · rw [if_pos c0]
              · rw [if_neg c0, if_pos e.1, if_pos e.2]
          rw [ef, fml_sgF hk' (Or.inl c34) eS] at K
          rw [hR]
          exact ⟨q8.1.sh b, ml_tailN (d := d + 121) b q8 c34 K⟩
    · have c0 : ¬ A 26 r = 0 := tb.mp yb
      rw [if_neg c0] at K
      exact m_wrong b q (by decide) (fun h' bb e => b65 _ bb K)
  · refine m_wrong b q (by decide) (fun h' bb e => ⟨fun _ => b65 _ bb (wr (fun z => c11 (by rw [← ej]; exact z.2))), fun z => absurd (bb.2.1.symm.trans z) bb.2.2.1⟩)
end ML
