/-! a text on the class's side -/
/-- a text that is right: what it tells is told now -/
def txE (t : Nat) (h2 h1 : zMem) : Prop := zU3 h2 h1 ∧ zR h1 0 11 = some (111 - t) ∧ zR h1 2 6 = some t ∧ ∃ J, beginR (zI h2) J 48 (111 - t) ∧ zI h1 = zup (zup (zup (zup J 37 6 0) 37 7 (-1)) 44 3 0) 0 13 0
def txR (h0 : zMem) (t n : Nat) (r : Sum (Int32 × Nat) (tM × Nat)) (v : Int32) (h1 : zMem) : Prop := match r with
  | .inl (f, pl) => v = -1 ∧ rF h0 (111 - t) f pl h1
  | .inr (A, i) => v = nI i ∧ ∃ p h2, rC h0 (111 - t) n A p h2 ∧ txE t h2 h1
section CT
variable {G : zG} {d t n : Nat} {h0 h : zMem} {B : Nat → Int32}
theorem tx_end {Q : Int32 → zMem → Prop} {A : tM} {p i : Nat} (q : rB h0 t (111 - t) n B) (r : rC h0 (111 - t) n A p h) (K : ∀ h1, txE t h h1 → Q (nI i) h1) : ∃ r2, zR h 0 11 = some r2 ∧ ∃ Q3 : Nat → zMem → Prop, zConR G mX3_exchange (d + 7) [.ref 2, .ref r2] h Q3 ∧ (∀ v6 h4, Q3 v6 h4 → zcl1 h4 0 132 ∧ ∃ r7, zR (zsR h4 0 11 (some v6)) 0 11 = some r7 ∧ ∃ Q8 : zMem → Prop, zConV G mX5_begin (d + 7) [.ref 48, .ref r7] (zsR h4 0 11 (some v6)) Q8 ∧ (∀ h9, Q8 h9 → zcl1 h9 0 132 ∧ ∃ Q11 : zMem → Prop, zConV G mX1_clear (d + 7) [.ref 37] h9 Q11 ∧ (∀ h12, Q11 h12 → zcl1 h12 0 132 ∧ ∃ Q14 : zMem → Prop, zConV G mX8_clear (d + 7) [.ref 44] h12 Q14 ∧ (∀ h15, Q14 h15 → zcl1 h15 0 132 ∧ Q (nI i) (zsI h15 0 13 (0)))))) := by
  have S := r.sh q
  have hb := q.td.1
  refine ⟨t, S.2.2.1, fun v h' => v = 111 - t ∧ h' = zsR h 2 6 (some t), cn_X3_exchange (sg_X3_exchange_0 S.1 S.2.1 ⟨111 - t, S.2.2.2, rfl, rfl⟩), ?_⟩
  rintro v h4 ⟨rfl, rfl⟩
  have u1 : zU3 h (zsR h 2 6 (some t)) := (zU3.rf h).sR (Or.inr (Or.inr ⟨rfl, rfl⟩))
  obtain ⟨h5, e5⟩ : ∃ h5, h5 = zsR (zsR h 2 6 (some t)) 0 11 (some (111 - t)) := ⟨_, rfl⟩
  have u2 : zU3 h h5 := by rw [e5]; exact u1.sR (Or.inr (Or.inl ⟨rfl, rfl⟩))
  have r1 : zR h5 0 11 = some (111 - t) := by rw [e5]; exact zup_s (zR (zsR h 2 6 (some t))) 0 11 (some (111 - t))
  have r2 : zR h5 2 6 = some t := by
    rw [e5]
    show zup (zup (zR h) 2 6 (some t)) 0 11 (some (111 - t)) 2 6 = some t
    rw [zup_ne _ _ (by decide), zup_s]
  have i5 : zI h5 = zI h := by rw [e5]; rfl
  have tt : 111 - (111 - t) = t := by rcases S.2.1 with rfl | rfl <;> rfl
  have S5 : zSh1 h5 (111 - t) := ⟨S.1.u3 u2, hb, r1, by rw [tt]; exact r2⟩
  rw [← e5]
  refine ⟨S.1.u3 u1, 111 - t, r1, _, X5_begin_ok S5 (Or.inl rfl) hb, ?_⟩
  rintro h9 ⟨w9, b9⟩
  have S9 := S5.W w9
  refine ⟨S9.1, fun h' => h' = zsI (zsI h9 37 6 0) 37 7 (-1), cn_X1_clear (sg_X1_clear_0 S9 rfl), ?_⟩
  rintro h12 rfl
  have S12 := S9.W (((zW.rf h9).sI 37 6 0).sI 37 7 (-1))
  refine ⟨S12.1, fun h' => h' = zsI (zsI (zsI h9 37 6 0) 37 7 (-1)) 44 3 0, cn_X8_clear (sg_X8_clear_0 S12 rfl), ?_⟩
  rintro h15 rfl
  have w15 : zW h9 (zsI (zsI (zsI (zsI h9 37 6 0) 37 7 (-1)) 44 3 0) 0 13 0) := ((((zW.rf h9).sI 37 6 0).sI 37 7 (-1)).sI 44 3 0).sI 0 13 0
  refine ⟨(S12.W ((zW.rf _).sI _ _ _)).1, K _ ⟨u2.trans (w9.trans w15).u3, ?_, ?_, zI h9, ?_, rfl⟩⟩
  · have : ∀ a j, zR (zsI (zsI (zsI (zsI h9 37 6 0) 37 7 (-1)) 44 3 0) 0 13 0) a j = zR h5 a j := fun a j => by unfold zR; rw [(w9.trans w15).2]
    rw [this]; exact r1
  · have : ∀ a j, zR (zsI (zsI (zsI (zsI h9 37 6 0) 37 7 (-1)) 44 3 0) 0 13 0) a j = zR h5 a j := fun a j => by unfold zR; rw [(w9.trans w15).2]
    rw [this]; exact r2
  · rw [i5] at b9; exact b9
theorem tx_loop {Q : Int32 → zMem → Prop} (hG : gK G) (q : rB h0 t (111 - t) n B) : ∀ (k i : Nat) {A : tM} {p : Nat} {h : zMem}, k + i = n → rC h0 (111 - t) n A p h → wfA A → wfL A → (∀ v h1, txR h0 t n (txF B n k i A p) v h1 → Q v h1) → zg G mX9_text (d + 8) 34 [.ref 0, .int (nI n), .int (nI i)] [] h (zPI Q)
  | 0, i, A, p, h, hk, r, wA, wL, K => by
    have hn := q.2.2.1
    refine sg_X9_text_34 (r.sh q).1 ⟨fun _ => ?_, fun c => absurd (nI_le (by omega) (by omega)) c⟩
    exact tx_end q r (fun h1 e => K _ h1 ⟨rfl, p, h, r, e⟩)
  | k + 1, i, A, p, h, hk, r, wA, wL, K => by
    have hn := q.2.2.1
    have S := r.sh q
    refine sg_X9_text_34 S.1 ⟨fun c => absurd c (nI_ge (by omega) (by omega)), fun _ => ?_⟩
    rw [txF] at K
    refine ⟨fun v h' => h' = h ∧ (tkt B n p = 37 → v = 0) ∧ (tkt B n p ≠ 37 → v = 1), cn_X3_hasMore (sg_X3_hasMore_0 S ?_), ?_⟩
    · rw [r.tk q]
      exact ⟨fun c => ⟨rfl, fun _ => rfl, fun z => absurd c z⟩, fun c => ⟨rfl, fun z => absurd z c, fun _ => rfl⟩⟩
    rintro v h' ⟨rfl, v1, v2⟩
    refine ⟨S.1, fun c => ?_, fun c => ?_⟩
    · have c37 : tkt B n p = 37 := Classical.byContradiction (fun z => by rw [v2 z] at c; exact absurd c (by decide))
      rw [if_pos c37] at K
      exact tx_end q r (fun h1 e => K _ h1 ⟨rfl, p, _, r, e⟩)
    · have c37 : ¬ tkt B n p = 37 := fun z => c (v1 z)
      rw [if_neg c37] at K
      refine ⟨_, X3_readLine_ok (Q := fun v h1 => lR h0 (111 - t) n (rdLn B n A p) v h1) hG q r wA wL (fun v h1 z => z), ?_⟩
      rintro v h1 ⟨s1, z⟩
      refine ⟨s1.1, ?_⟩
      cases e : rdLn B n A p with
      | inl x =>
        rw [e] at z K
        exact ⟨fun c => absurd z.1 c, fun _ => K (-1) h1 ⟨rfl, z.2⟩⟩
      | inr x =>
        obtain ⟨A', p'⟩ := x
        rw [e] at z K
        obtain ⟨w1, w2, w3, w4⟩ := rdLn_wf r.2.2.2.1 wA wL e
        refine ⟨fun _ => ?_, fun c => absurd (z.1.symm.trans c) (by decide)⟩
        rw [nI_1]
        exact tx_loop hG q k (i + 1) (by omega) z.2 w1 w2 K
theorem ceP_wf {I : Nat → Nat → Int32} {b : Nat} (c : ceP I b) : wfA (fun k => I (b + k)) ∧ wfL (fun k => I (b + k)) := by
  obtain ⟨c1, c2, c3, ⟨c4, c5, c6⟩, c7⟩ := c
  refine ⟨fun kd hk => ?_, ⟨0, 0, c4, c5, rfl, by decide, rfl, by decide, fun x hx => absurd hx List.not_mem_nil⟩, fun r hr => Or.inl (c6 r hr)⟩
  have e : mny (fun k => I (b + k)) kd = 0 := by
    unfold mny
    show (I (b + 1) kd).toNatClampNeg = 0
    rw [c1 kd hk]; rfl
  rw [e]
  exact ⟨c1 kd hk, Nat.zero_le _⟩
/-- the whole of a text that can be read -/
theorem X9_text_ok {Q : Int32 → zMem → Prop} {tp : Nat} (hG : gK G) (hS : zSh1 h t) (hW : ∀ k, k < 22 → zI h 4 k = wdT k) (h12 : zI h 0 12 = nI tp) (h700 : tp ≤ 700) (hn : n ≤ tp) (K : ∀ h0 v h1, opR (zsI h 0 12 0) t n (zI h 1) h0 → txR h0 t n (txF (zI h 1) n n 0 (fun k => zI h0 (111 - t + k)) 0) v h1 → Q v h1) : zConI G mX9_text (d + 8) [.ref 0, .int (nI n)] h Q := by
  refine cn_X9_text (sg_X9_text_0 hS.1 ?_)
  rw [h12]
  refine ⟨fun c => absurd c (nI_pos (by omega)), fun _ => ⟨fun _ => ?_, fun c => absurd (nI_le hn (by omega)) c⟩⟩
  have S1 := hS.W ((zW.rf h).sI 0 12 0)
  refine ⟨_, X3_open_ok (d := d + 2) S1 (by omega) (fun k hk => by rw [zI_sI, zup_ne _ _ (by decide)]; exact hW k hk), ?_⟩
  rintro h0 ⟨s0, o0⟩
  refine ⟨s0.1, ?_⟩
  have o0' := o0
  obtain ⟨o1, o2, o3, o4, o5⟩ := o0'
  have eB : zI (zsI h 0 12 0) 1 = zI h 1 := by rw [zI_sI, zup_ne _ _ (by decide)]
  rw [eB] at o2 o0
  obtain ⟨w1, w2⟩ := ceP_wf o4
  exact tx_loop hG o2 n 0 rfl o5 w1 w2 (fun v h1 z => K h0 v h1 o0 z)
theorem X9_text_no {Q : Int32 → zMem → Prop} {tp : Nat} {x : Int32} (hS : zSh1 h t) (h12 : zI h 0 12 = nI tp) (c : x < 0 ∨ nI tp < x) (K : Q (-2) h) : zConI G mX9_text (d + 8) [.ref 0, .int x] h Q := by
  refine cn_X9_text (sg_X9_text_0 hS.1 ?_)
  rw [h12]
  refine ⟨fun _ => K, fun c1 => ⟨fun c2 => ?_, fun _ => K⟩⟩
  exfalso
  rcases c with c | c
  · exact c1 c
  · rw [Int32.lt_iff_toInt_lt] at c
    rw [Int32.le_iff_toInt_le] at c2
    omega
end CT
