/-! a formula: values and parentheses, and all levels together -/
section PR
variable {G : zG} {n : Nat} {h1 : zMem} {B : Nat → Int32}
theorem str_7 (x : Int32) : str x < 7 := by
  unfold str
  repeat' split
  all_goals decide
theorem bad_expr (bs : mBs h1 n B) : LvF G h1 mX10_expression 6 := fun d h f pl b => by
  refine ⟨fun h' => zSh2 h' ∧ h' = h, cn_X10_expression (sg_X10_expression_0 (b.1.sh bs) ?_), fun _ x => x⟩
  obtain ⟨Q2, z1, z2⟩ := bad_conj (G := G) bs d h f pl b
  refine ⟨Q2, z1, fun h2 z => ⟨(z2 h2 z).1, ?_⟩⟩
  rw [(z2 h2 z).2]
  exact sg_X10_expression_4 (b.1.sh bs) (m_isWordF bs b ⟨fun _ => ⟨b.1.sh bs, rfl⟩, fun z => absurd rfl z⟩)
set_option maxHeartbeats 2000000 in
theorem lv_prim (hG : gK G) (bs : mBs h1 n B) {m : Nat} (PE : ∀ m', m = m' + 6 → LvC G h1 n B mX10_expression 19 1 false 1 m') : LvC G h1 n B mX10_primary 14 7 true 7 m := by
  intro d o σ A p h I hm ht hn
  have q := I.1
  have S := q.1.sh bs
  obtain ⟨R, hR⟩ : ∃ R : zMem → Prop, R = fun h' => zSh2 h' ∧ lvP h1 n B o σ A p 7 h h' := ⟨_, rfl⟩
  refine ⟨R, cn_X10_primary (sg_X10_primary_0 S ⟨fun _ => ?_, fun z => absurd q.2.2.2 z⟩), fun h4 z => by rw [hR] at z; exact z⟩
  obtain ⟨ln0, kn0, w1, w2, w3, w4, w5, w6, w7⟩ := id I.2.2.1
  have lt8 : kn0 < 64 ↔ A 21 8 < 64 := by
    rw [w2]
    exact ⟨fun z => nI_lt (b := 64) z (by decide), fun z => Nat.lt_of_not_le (fun y => absurd z (nI_nlt (b := 64) y (by omega)))⟩
  have Rbad : ∀ h2, fmE h h2 → lvB h1 n B o σ A p h2 → R h2 := fun h2 fe lb => by
    rw [hR]; obtain ⟨f, pl, b, _⟩ := id lb; exact ⟨b.1.sh bs, fe, Or.inl lb⟩
  have n14 := hn rfl
  have o132 : ∀ h2, mX h1 h2 → zO h2 132 9 := fun h2 x => zcl1.o (x.sh bs) 132 9 rfl rfl rfl
  -- behind a fault
  have bad162 : ∀ h2 (x1 : Int32), fmE h h2 → lvB h1 n B o σ A p h2 → zg G mX10_primary (d + m + 14) 162 [.ref 132, .int x1] [] h2 (zPV R) := by
    intro h2 x1 fe lb
    obtain ⟨f, pl, b, _⟩ := id lb
    have S2 := b.1.sh bs
    refine sg_X10_primary_162 S2 (m_knotF (d := d + m + 12) bs b ?_)
    have t176 : ∀ x0, zg G mX10_primary (d + m + 14) 176 [.ref 132, .int x1] [.int x0, .ref 132] h2 (zPV R) := fun x0 =>
      sg_X10_primary_176 S2 ⟨fun _ => ⟨o132 h2 b.1, m_putsF (d := d + m + 12) bs b (m_goOnF (d := d + m + 12) bs b (Rbad h2 fe lb))⟩, fun _ => ⟨o132 h2 b.1, m_putsF (d := d + m + 12) bs b (m_goOnF (d := d + m + 12) bs b (Rbad h2 fe lb))⟩⟩
    exact ⟨fun _ => t176 1, fun _ => t176 0⟩
  have wrongs : ∀ {f : Int32} {x1 : Int32}, f ≠ 0 → stepV B n o σ A p = .inl (f, tks B n p) → ∃ Q11 : zMem → Prop, zConV G mX10_wrong (d + m + 13) [.ref 132, .int f] h Q11 ∧ (∀ h12, Q11 h12 → zSh2 h12 ∧ zg G mX10_primary (d + m + 14) 162 [.ref 132, .int x1] [] h12 (zPV R)) := fun f0 eV =>
    m_wrong bs q f0 (fun h' b e => bad162 h' _ e.fm ⟨_, _, b, fun k hk => fml_vlF hk eV⟩)
  -- a value
  have val : ∀ {so va z : Int32} {x1 : Int32}, kvOK so va → so ≠ 2 → tkt B n p = opT so va → (tkt B n p = 36 → z = va) → tkt B n p ≠ 37 → stepV B n o σ A p = (if A 21 8 < 64 then .inr (false, o, σ, apd (addK A) (tkt B n p) z) else .inl (2, tks B n p)) → (x1 = 0 ∧ so = 1 ∧ va = zI h 132 24 - 15 ∨ x1 = 1 ∧ so = 0 ∧ va = zI h 132 24) → zg G mX10_primary (d + m + 14) 162 [.ref 132, .int x1] [] h (zPV R) := by
    intro so va z x1 hkv so2 hop hz t37 eV hx
    refine sg_X10_primary_162 S (m_knot (d := d + m + 12) bs q I.2.1 w2 w4 (fun h2 c q2 k2 f2 g2 e29 e24 => ?_) (fun h2 c b2 t2 => ?_))
    · have c8 := lt8.mp c
      rw [if_pos c8] at eV
      have eL : (addK A) 21 7 = nI ln0 := by unfold addK; rw [zup_i _ _ _ (by decide)]; exact w1
      have fin : ∃ Q2 : zMem → Prop, zConV G mX10_puts (d + m + 13) [.ref 132, .int so, .int va] h2 Q2 ∧ (∀ h3, Q2 h3 → zSh2 h3 ∧ ∃ Q5 : zMem → Prop, zConV G mX10_goOn (d + m + 13) [.ref 132] h3 Q5 ∧ (∀ h6, Q5 h6 → zSh2 h6 ∧ R h6)) := by
        refine m_puts (d := d + m + 12) (x := tkt B n p) (z := z) bs q2 k2 eL (by omega) hop hz hkv (fun h3 q3 k3 f3 s3 v3 g3 e3 => ?_)
        refine m_goOn (d := d + m + 1) hG bs q3 (fun h4 q4 t4 => ?_)
        rw [hR]
        refine ⟨q4.1.sh bs, (f2.trans f3).trans t4.fm, Or.inr ⟨[], apd (addK A) (tkt B n p) z, tke B n p, q4, k3.tk t4, stepV_wf I.2.2.1 eV, ?_, fun x hx => absurd hx List.not_mem_nil, tke_gt B q.2.2.1 t37, fun k hk => fml_vl hk q.2.2.1 eV, Or.inr (Or.inr (Or.inl (str_7 _))), ?_⟩⟩
        · rw [t4.2 29 (by decide), e3, e29]; exact I.2.2.2
        · have lA : lnA A = ln0 := by unfold lnA; rw [w1, zcla (by omega)]
          have lA2 : lnA (apds [] (apd (addK A) (tkt B n p) z)) = ln0 + 1 := by
            show (apd (addK A) (tkt B n p) z 21 7).toNatClampNeg = ln0 + 1
            unfold apd
            rw [zup_s, eL, nI_1, zcla (by omega)]
          refine ⟨by omega, fun j hj => ?_, fun mm => ?_⟩
          · rw [t4.1 147 (by decide), t4.1 148 (by decide)]
            rw [lA] at hj
            have a1 := g3 j (by omega)
            have a2 := g2 j
            exact ⟨a1.1.trans a2.1, a1.2.trans a2.2⟩
          · rw [lA, lA2, show ln0 + 1 - ln0 = 1 by omega, wfP]
            show if zI h4 147 (64 + ln0) = 2 then _ else _
            rw [t4.1 147 (by decide), s3, if_neg so2]
            by_cases c0 : so = 0
            · rw [if_pos c0]; rfl
            · rw [if_neg c0]
              refine ⟨?_, rfl⟩
              show ∃ j, j < 7 ∧ zI h4 148 (64 + ln0) = nI j
              rw [t4.1 148 (by decide), v3]
              rcases hkv with y | ⟨_, y⟩ | ⟨y, _⟩
              · exact absurd y c0
              · exact y
              · exact absurd y so2
      refine ⟨fun x0 => ?_, fun x0 => ?_⟩
      · rcases hx with ⟨_, hs, hv⟩ | ⟨e1, _, _⟩
        · refine sg_X10_primary_176 (q2.1.sh bs) ⟨fun _ => ⟨o132 h2 q2.1, ?_⟩, fun z => absurd x0 z⟩
          rw [e24, ← hv, ← hs]; exact fin
        · rw [e1] at x0; exact absurd x0 (by decide)
      · rcases hx with ⟨e1, _, _⟩ | ⟨_, hs, hv⟩
        · exact absurd e1 x0
        · refine sg_X10_primary_176 (q2.1.sh bs) ⟨fun z => absurd z x0, fun _ => ⟨o132 h2 q2.1, ?_⟩⟩
          rw [e24, ← hv, ← hs]; exact fin
    · have c8 : ¬ A 21 8 < 64 := fun z => c (lt8.mpr z)
      rw [if_neg c8] at eV
      have lb : lvB h1 n B o σ A p h2 := ⟨2, _, b2, fun k hk => fml_vlF hk eV⟩
      have S2 := b2.1.sh bs
      have t176 : ∀ x0, zg G mX10_primary (d + m + 14) 176 [.ref 132, .int x1] [.int x0, .ref 132] h2 (zPV R) := fun x0 =>
        sg_X10_primary_176 S2 ⟨fun _ => ⟨o132 h2 b2.1, m_putsF (d := d + m + 12) bs b2 (m_goOnF (d := d + m + 12) bs b2 (Rbad h2 t2.fm lb))⟩, fun _ => ⟨o132 h2 b2.1, m_putsF (d := d + m + 12) bs b2 (m_goOnF (d := d + m + 12) bs b2 (Rbad h2 t2.fm lb))⟩⟩
      exact ⟨fun _ => t176 1, fun _ => t176 0⟩
  refine m_isSign bs q (w := 32) (by decide) (by decide) rfl (fun tk => ⟨fun z => absurd z (by decide), fun _ => ?_⟩) (fun tk => ⟨fun _ => ?_, fun z => absurd rfl z⟩)
  · -- an opening sign
    have tk' : tkt B n p = 32 := tk
    have eV : stepV B n o σ A p = if o < 8 then .inr (true, o + 1, 32 :: σ, A) else .inl (2, tks B n p) := by unfold stepV; rw [if_pos tk']
    rw [I.2.2.2]
    refine ⟨fun c => ⟨fun _ => ?_, fun z => absurd q.2.2.2 z⟩, fun c => ?_⟩
    · have o8 : o < 8 := by
        rcases Nat.lt_or_ge o 8 with z | z
        · exact z
        · exact absurd (by rw [show o = 8 by omega]; rfl) c
      rw [if_pos o8] at eV
      rw [nI_1]
      have q1 := q.up (c := 132) (j := 29) (v := nI (o + 1)) (by omega)
      have f1 : fmE h (zsI h 132 29 (nI (o + 1))) := ⟨fun c a _ _ _ => by rw [zI_sI, zup_ne _ _ a], fun j _ => by rw [zI_sI, zup_ne _ _ (by decide)], fun j hj => by rw [zI_sI, zup_i _ _ _ (by omega)]⟩
      have k1 : kS A (zI (zsI h 132 29 (nI (o + 1)))) := by
        have := I.2.1
        unfold kS at *
        rw [zI_sI, zup_ne _ _ (show 134 ≠ 132 by decide), zup_ne _ _ (show 147 ≠ 132 by decide), zup_ne _ _ (show 148 ≠ 132 by decide), zup_i _ _ _ (show 30 ≠ 29 by decide)]; exact this
      refine m_token (d := d + m + 2) hG bs q1.1 q1.2.1 q1.2.2.1 q1.2.2.2 (fun h57 q57 t57 => ?_)
      have i57 : lvI h1 n B (o + 1) (32 :: σ) A (tke B n p) h57 := ⟨q57, k1.tk t57, stepV_wf I.2.2.1 eV, by rw [t57.2 29 (by decide), zI_sI, zup_s]⟩
      obtain ⟨m', hm'⟩ : ∃ m', m = m' + 6 := ⟨m - 6, by omega⟩
      obtain ⟨Q2, z1, z2⟩ := PE m' hm' d (o + 1) _ _ _ h57 i57 (by omega) (by show str 32 < 1; decide) (fun z => absurd z (by decide))
      rw [show d + m' + 19 = d + m + 13 by omega] at z1
      refine ⟨Q2, z1, fun h60 z => ⟨(z2 h60 z).1, ?_⟩⟩
      obtain ⟨fe, oY⟩ := (z2 h60 z).2
      have fh : fmE h h60 := (f1.trans t57.fm).trans fe
      have lift : ∀ h2 f pl, fmE h h2 → mbad h1 f pl h2 → (∀ k, n - tke B n p < k → fml B n k true (o + 1) (32 :: σ) A (tke B n p) = .inl (f, pl)) → zg G mX10_primary (d + m + 14) 78 [.ref 132, zU] [] h2 (zPV R) := by
        intro h2 f pl fe2 b hf
        refine sg_X10_primary_78 (b.1.sh bs) ⟨fun z => absurd (b.2.1.symm.trans z) b.2.2.1, fun _ => Rbad h2 fe2 ⟨f, pl, b, fun k hk => ?_⟩⟩
        obtain ⟨k', hk', e⟩ := fml_vl hk q.2.2.1 eV
        rw [e]; exact hf k' hk'
      rcases oY with ⟨f, pl, b60, hf⟩ | ⟨τ, Ac, p2, O⟩
      · exact ⟨fun _ => lift h60 f pl fh b60 hf, fun z => absurd (b60.2.1.symm.trans z) b60.2.2.1⟩
      · have q60 := O.1
        have est : stl 1 (τ ++ 32 :: σ) Ac = (32 :: σ, apds τ Ac) := stl_app (fun x hx => O.2.2.2.2.1 x hx) (Or.inr (by show str 32 < 1; decide))
        refine ⟨fun z => absurd q60.2.2.2 z, fun _ => m_isSign bs q60 (w := 33) (by decide) (by decide) rfl (fun t33 => ⟨fun _ => ?_, fun z => absurd z (by decide)⟩) (fun t33 => ⟨fun z => absurd rfl z, fun _ => ?_⟩)⟩
        · have t33' : tkt B n p2 = 33 := t33
          have eS : stepS B n (o + 1) (τ ++ 32 :: σ) Ac p2 = .inr (false, o, σ, apds τ Ac) := by
            unfold stepS
            rw [if_pos ⟨t33', Nat.succ_pos _⟩, est]; rfl
          refine sg_X10_primary_78 (q60.1.sh bs) ⟨fun _ => ?_, fun z => absurd q60.2.2.2 z⟩
          have e29 : zI h60 132 29 - 1 = nI o := by rw [O.2.2.2.1, ← nI_1, Int32.add_sub_cancel]
          rw [e29]
          have q61 := q60.up (c := 132) (j := 29) (v := nI o) (by omega)
          have f61 : fmE h60 (zsI h60 132 29 (nI o)) := ⟨fun c a _ _ _ => by rw [zI_sI, zup_ne _ _ a], fun j _ => by rw [zI_sI, zup_ne _ _ (by decide)], fun j hj => by rw [zI_sI, zup_i _ _ _ (by omega)]⟩
          have k61 : kS (apds τ Ac) (zI (zsI h60 132 29 (nI o))) := by
            have := O.2.1
            unfold kS at *
            rw [zI_sI, zup_ne _ _ (show 134 ≠ 132 by decide), zup_ne _ _ (show 147 ≠ 132 by decide), zup_ne _ _ (show 148 ≠ 132 by decide), zup_i _ _ _ (show 30 ≠ 29 by decide)]; exact this
          refine m_token (d := d + m + 2) hG bs q61.1 q61.2.1 q61.2.2.1 q61.2.2.2 (fun h62 q62 t62 => ?_)
          rw [hR]
          have gt1 := tke_gt B q.2.2.1 (by rw [tk']; decide)
          have gt2 := tke_gt B q60.2.2.1 (by rw [t33']; decide)
          refine ⟨q62.1.sh bs, (fh.trans f61).trans t62.fm, Or.inr ⟨[], apds τ Ac, tke B n p2, q62, k61.tk t62, stepS_wf O.2.2.1 eS, ?_, fun x hx => absurd hx List.not_mem_nil, ?_, fun k hk => ?_, Or.inr (Or.inr (Or.inl (str_7 _))), ?_⟩⟩
          · rw [t62.2 29 (by decide), zI_sI, zup_s]
          · have := O.2.2.2.2.2.1; omega
          · obtain ⟨k', hk', e⟩ := fml_vl hk q.2.2.1 eV
            obtain ⟨k2, hk2, e2⟩ := O.2.2.2.2.2.2.1 k' hk'
            obtain ⟨k3, hk3, e3⟩ := fml_sg hk2 q60.2.2.1 (Or.inr (Nat.succ_ne_zero _)) eS
            exact ⟨k3, hk3, by rw [e, e2, e3]; rfl⟩
          · obtain ⟨y1, y2, y3⟩ := O.2.2.2.2.2.2.2.2
            have s147 : ∀ j, zI h62 147 j = zI h60 147 j := fun j => by rw [t62.1 147 (by decide), zI_sI, zup_ne _ _ (by decide)]
            have s148 : ∀ j, zI h62 148 j = zI h60 148 j := fun j => by rw [t62.1 148 (by decide), zI_sI, zup_ne _ _ (by decide)]
            have r147 : ∀ j, zI h57 147 j = zI h 147 j := fun j => by rw [t57.1 147 (by decide), zI_sI, zup_ne _ _ (by decide)]
            have r148 : ∀ j, zI h57 148 j = zI h 148 j := fun j => by rw [t57.1 148 (by decide), zI_sI, zup_ne _ _ (by decide)]
            refine ⟨y1, fun j hj => ?_, fun mm => wfP_E _ _ _ (fun j _ _ => ⟨s147 _, s148 _⟩) (y3 mm)⟩
            have a := y2 j hj
            exact ⟨(s147 j).trans (a.1.trans (r147 j)), (s148 j).trans (a.2.trans (r148 j))⟩
        · have t33' : ¬ tkt B n p2 = 33 := t33
          have eS : stepS B n (o + 1) (τ ++ 32 :: σ) Ac p2 = .inl (1, tks B n p2) := by
            unfold stepS
            rw [if_neg (fun z => t33' z.1)]
            rcases O.2.2.2.2.2.2.2.1 with e | e | e | e
            · rw [if_pos (Or.inl e)]
            · rw [if_pos (Or.inr e)]
            · rw [if_pos (Or.inl ((str_or _).resolve_right (fun z => z e)))]
            · by_cases c0 : str (tkt B n p2) = 0 ∨ tkt B n p2 = 14
              · rw [if_pos c0]
              · rw [if_neg c0, if_pos e.1, if_pos e.2]
          refine m_wrong bs q60 (by decide) (fun h69 b69 t69 => lift h69 1 _ (fh.trans t69.fm) b69 (fun k hk => ?_))
          obtain ⟨k2, hk2, e2⟩ := O.2.2.2.2.2.2.1 k hk
          rw [e2]; exact fml_sgF hk2 (Or.inr (Nat.succ_ne_zero _)) eS
    · have o8 : ¬ o < 8 := fun z => by
        have := nI_inj (b := 8) (by omega) (by decide) c
        omega
      rw [if_neg o8] at eV
      refine m_wrong bs q (by decide) (fun h' b e => ?_)
      exact ⟨fun z => absurd (b.2.1.symm.trans z) b.2.2.1, fun _ => Rbad h' e.fm ⟨2, _, b, fun k hk => fml_vlF hk eV⟩⟩
  · have t32 : ¬ tkt B n p = 32 := tk
    have c14 : ¬ (tkt B n p = 14 ∧ ¬ 3 < topS σ) := fun z => n14.elim (fun y => y z.1) (fun y => z.2 y)
    have T := q.2.1.2.2.2
    refine ⟨fun c2 => ⟨fun _ => ⟨fun z => absurd rfl z, fun _ => ⟨fun c0 => ?_, fun c0 => ⟨fun c15 => ?_, fun c15 => ?_⟩⟩⟩, fun z => absurd rfl z⟩, fun c2 => ⟨fun z => absurd z (by decide), fun _ => ⟨fun c9 => ⟨fun _ => ?_, fun z => absurd z (by decide)⟩, fun c9 => ?_⟩⟩⟩
    · -- no word
      have c36 : ¬ tkt B n p = 36 := fun z => c2 (T.o.2.1.mpr z)
      refine wrongs (by decide) ?_
      unfold stepV
      rw [if_neg t32, if_neg c14, if_neg c36, if_neg]
      rintro ⟨z1, z2⟩
      obtain ⟨j, j1, j2, ej⟩ := zrange (lo := 15) (hi := 21) (a := 15) (b := 21) rfl rfl z1 (fun z => by rw [Int32.lt_iff_toInt_lt] at z; rw [Int32.le_iff_toInt_le] at z2; omega)
      exact c0 ((T.w (w := j) (by omega)).mpr ej).1
    · -- a name of the law's
      have c36 : ¬ tkt B n p = 36 := fun z => c2 (T.o.2.1.mpr z)
      obtain ⟨w, hw, ew, va⟩ : ∃ w : Nat, w < 22 ∧ tkt B n p = nI w ∧ zI h 132 24 = nI w := by
        rcases T with ⟨w', a1, a2, _, a4⟩ | ⟨_, so, _⟩ | ⟨_, so, _⟩ | ⟨w', _, _, _, so, _⟩ | ⟨_, so⟩ | ⟨_, so⟩
        · exact ⟨w', a1, a2, a4⟩
        all_goals exact absurd (so.symm.trans c0) (by decide)
      have w15 : 15 ≤ w := by
        rw [va] at c15
        exact Nat.le_of_not_lt (fun z => absurd c15 (nI_ge (b := 15) z (by decide)))
      have sub : nI w - 15 = nI (w - 15) := by
        obtain ⟨j, rfl⟩ : ∃ j, w = j + 15 := ⟨w - 15, by omega⟩
        rw [← nI_add, show (15 : Int32) = nI 15 from rfl, Int32.add_sub_cancel]; rfl
      refine val (so := 1) (va := nI (w - 15)) (z := 0) (Or.inr (Or.inl ⟨rfl, w - 15, by omega, rfl⟩)) (by decide) ?_ (fun z => absurd z c36) ?_ ?_ (Or.inl ⟨rfl, rfl, by rw [va, sub]⟩)
      · rw [ew]
        show nI w = if (1 : Int32) = 0 then 36 else if (1 : Int32) = 1 then nI (w - 15) + 15 else _
        rw [if_neg (by decide), if_pos rfl]
        show nI w = nI (w - 15) + nI 15
        rw [nI_add, show w - 15 + 15 = w by omega]
      · rw [ew]; exact nI_ne (b := 37) (by omega) (by decide) (by omega)
      · unfold stepV
        rw [if_neg t32, if_neg c14, if_neg c36, if_pos]
        rw [ew]
        exact ⟨nI_nlt (b := 15) w15 (by omega), nI_le (b := 21) (by omega) (by decide)⟩
    · -- a word that is no value
      have c36 : ¬ tkt B n p = 36 := fun z => c2 (T.o.2.1.mpr z)
      refine wrongs (by decide) ?_
      unfold stepV
      rw [if_neg t32, if_neg c14, if_neg c36, if_neg]
      rintro ⟨z1, z2⟩
      obtain ⟨j, j1, j2, ej⟩ := zrange (lo := 15) (hi := 21) (a := 15) (b := 21) rfl rfl z1 (fun z => by rw [Int32.lt_iff_toInt_lt] at z; rw [Int32.le_iff_toInt_le] at z2; omega)
      have va := ((T.w (w := j) (by omega)).mpr ej).2
      rw [va] at c15
      exact c15 (nI_le (a := 15) j1 (by omega))
    · -- a number
      have c36 : tkt B n p = 36 := T.o.2.1.mp c2
      have nb := T.v.2 c36
      have en : tkn B n p = zI h 132 24 ∧ ¬ 9999 < tkn B n p := by
        rcases nb with ⟨e, k, hk, ek⟩ | ⟨a, b, a1, b1, a2, b2, ea, eb⟩
        · refine ⟨e, ?_⟩
          rw [e]
          intro z
          rw [Int32.lt_iff_toInt_lt] at z
          rw [Int32.le_iff_toInt_le] at c9
          omega
        · rw [eb] at c9
          exact absurd c9 (nI_ge (a := 9999) (by omega) (by omega))
      refine val (so := 0) (va := zI h 132 24) (z := tkn B n p) (Or.inl rfl) (by decide) ?_ (fun _ => en.1) (by rw [c36]; decide) ?_ (Or.inr ⟨rfl, rfl, rfl⟩)
      · rw [c36]; rfl
      · unfold stepV
        rw [if_neg t32, if_neg c14, if_pos c36, if_neg en.2, c36]
    · have c36 : tkt B n p = 36 := T.o.2.1.mp c2
      have nb := T.v.2 c36
      have en : 9999 < tkn B n p := by
        rcases nb with ⟨e, k, hk, ek⟩ | ⟨a, b, a1, b1, a2, b2, ea, eb⟩
        · rw [e]
          rw [Int32.lt_iff_toInt_lt]
          rw [Int32.le_iff_toInt_le] at c9
          omega
        · rw [ea]; exact nI_lt (a := 9999) (by omega) (by omega)
      refine wrongs (by decide) ?_
      unfold stepV
      rw [if_neg t32, if_neg c14, if_pos c36, if_pos en]
/-- all levels -/
theorem lv_all (hG : gK G) (bs : mBs h1 n B) : ∀ m, LvC G h1 n B mX10_negation 17 4 false 3 m ∧ LvC G h1 n B mX10_expression 19 1 false 1 m := by
  intro m
  induction m using Nat.strongRecOn with
  | ind m ih =>
    have pr := lv_prim hG bs (m := m) (fun m' e => (ih m' (by omega)).2)
    have sm := lv_sum hG bs (lv_product hG bs pr)
    have ng := lv_neg hG bs sm (fun m' e => (ih m' (by omega)).1)
    exact ⟨ng, lv_expression hG bs (lv_conjunction hG bs ng)⟩
end PR
