/-! whose cold it was: class and model alike -/
theorem lmF_E {mo mo' st st' S S' : Nat → Int32} : ∀ n i a, (∀ k, i ≤ k → k < i + n → S' k = S k ∧ st' k = st k ∧ (st k = -1 → mo' k = mo k)) → lmF mo' st' S' n i a = lmF mo st S n i a
  | 0, _, _, _ => rfl
  | n + 1, i, a, h => by
    obtain ⟨h1, h2, h3⟩ := h i (Nat.le_refl _) (by omega)
    have nx := fun a => lmF_E n (i + 1) a (fun k x y => h k (by omega) (by omega))
    rw [lmF, lmF, h1, h2, nx, nx]
    by_cases c : st i = -1
    · rw [h3 c]
    · rw [if_neg c, if_neg c]
theorem stR.j1 {I I' : Nat → Nat → Int32} {ns nm : Nat} (h5 : nm ≤ 5) (q : stR I I' 1 ns nm) : jE I I' := fun c j hn => by
  obtain ⟨q1, q2, q3, q4, q5, q6, q7, q8, q9⟩ := q
  unfold jkP at hn
  by_cases a : c < 151 ∨ 162 < c
  · rw [q1 c a]
  by_cases b : c ≤ 155
  · exact q3 c (by omega) b j (by omega)
  by_cases e3 : c = 156 ∨ c = 157
  · obtain ⟨x1, x2⟩ := q5 j (by omega)
    rcases e3 with rfl | rfl
    · exact x1
    · exact x2
  by_cases e4 : c = 158
  · subst e4; exact q7 j (by omega)
  · obtain ⟨x1, x2, x3, x4⟩ := q9 j (by omega)
    rcases (show c = 159 ∨ c = 160 ∨ c = 161 ∨ c = 162 by omega) with rfl | rfl | rfl | rfl
    · exact x1
    · exact x2
    · exact x3
    · exact x4
def bgQ (I C : Nat → Nat → Int32) (t : Nat) : Prop := (∀ s, s < 6 → C (82 + 1) s = I (t + 7) s ∧ C (82 + 2) s = 0) ∧ (∀ p, p < 6 → C (82 + 3) p = I (t + 18) p) ∧ (∀ m, m < 5 → C (82 + 11) m = I (t + 19) m ∧ C (82 + 12) m = 0 ∧ C (82 + 13) m = 0 ∧ C (82 + 14) m = I (t + 1) 1 - 1) ∧ (∀ p s, p < 6 → s < 6 → C (82 + 4 + 1 + p) s = 0) ∧ C 82 10 = 0 ∧ C 82 11 = -1 ∧ C 82 12 = 0 ∧ C 82 13 = 0 ∧ C 82 14 = -1
def cdC (C : Nat → Nat → Int32) (s m ns : Nat) : Nat → Nat → Int32 := if s < ns then zup C 94 m ((1 : Int32) <<< (nI s &&& 31)) else C
def cdR (I : Nat → Nat → Int32) (S : Nat → Int32) (t ns nd nr nm kk L m s : Nat) (b : Bool) : Prop := ∃ C, bgQ I C t ∧ (∀ a, (a < 82 ∨ 99 ≤ a) → a ≠ 43 → C a = I a) ∧ agR I S t ns nd nr nm kk L 1 0 (cdC C s m ns) b
def cdA (I : Nat → Nat → Int32) (S : Nat → Int32) (t ns nd nr nm kk L m : Nat) : Nat → Nat → Int32 → Int32 → Prop
  | 0, _, acc, v => v = acc
  | n + 1, s, acc, v => ∃ b, cdR I S t ns nd nr nm kk L m s b ∧ (b = true → cdA I S t ns nd nr nm kk L m n (s + 1) (acc ||| ((1 : Int32) <<< (nI s &&& 31))) v) ∧ (b = false → cdA I S t ns nd nr nm kk L m n (s + 1) acc v)
theorem cdC_ne {C : Nat → Nat → Int32} {s m ns c : Nat} (h : c ≠ 94) : cdC C s m ns c = C c := by
  unfold cdC
  split
  · rw [zup_ne _ _ h]
  · rfl
set_option maxHeartbeats 2000000 in
theorem bg_st {I C : Nat → Nat → Int32} {t ns nd nr nm s m : Nat} (hT : tdR I t ns nd nr nm) (hC : bgQ I C t) : stOK (cdC C s m ns) 82 nd nr nm 0 := by
  have h5 : nm ≤ 5 := hT.1.2.2.2.2.2.2.2.1
  have h8 : nd ≤ 8 := hT.1.2.2.2.2.2.1
  obtain ⟨c1, c2, c3, c4, c5, -⟩ := hC
  unfold stOK
  rw [cdC_ne (show 82 + 11 ≠ 94 by decide), cdC_ne (show 82 + 14 ≠ 94 by decide), cdC_ne (show 82 ≠ 94 by decide)]
  refine ⟨fun m hm => ?_, fun m hm h0 => ?_, c5⟩
  · rw [(c3 m (by omega)).1, (hT.2.2.1.2.2.2.2.2.1 m hm).1]
    exact hT.2.2.2.2.2.2.2.2.2.2.2.1 m hm
  · rw [(c3 m (by omega)).2.2.2, hT.1.2.1]
    exact ⟨nd - 1, by omega, by have := nI_pred (nd - 1); rw [show nd - 1 + 1 = nd by omega] at this; exact this⟩
/-- a trial begun anew on both sides, with a cold -/
theorem bg_init {I C N : Nat → Nat → Int32} {t ns nd nr nm dt u nn tp s m : Nat} {N1 : Nat → Nat → Int32} {v : Int32} (ht : isTd t) (hI : zInv I t ns nd nr nm dt u nn tp) (hm : m < nm) (hC : bgQ I C t) (hf : ∀ k, k < 29 → C (t + k) = I (t + k)) (hr : ∀ c, 133 ≤ c → c ≤ 150 → N1 c = I c) (h132 : ∀ k, k ≠ 0 → k ≠ 33 → N1 132 k = I 132 k) (hN : stR N1 N 1 ns nm) (hv : v = if s < ns then (1 : Int32) <<< (nI s &&& 31) else 0) : rnI (cdC C s m ns) (zup N 160 (5 + m) v) 82 t 1 ns nd nr nm 0 := by
  obtain ⟨i1, i2, i3, -⟩ := hI
  have h6 : ns ≤ 6 := i1.1.2.2.2.2.1
  have h8 : nd ≤ 8 := i1.1.2.2.2.2.2.1
  have h6r : nr ≤ 6 := i1.1.2.2.2.2.2.2.1
  have h5 : nm ≤ 5 := i1.1.2.2.2.2.2.2.2.1
  have hl := ht.lt
  have tn : t = 8 ∨ t = 103 := ht
  obtain ⟨c1, c2, c3, c4, c5, c6, c7, c8, c9⟩ := hC
  obtain ⟨n1, n2, n3, n4, n5, n6, n7, n8, n9⟩ := hN
  have N0 : ∀ c, c ≠ 160 → zup N 160 (5 + m) v c = N c := fun c hc => zup_ne _ _ hc
  have row : ∀ c, 133 ≤ c → c ≤ 150 → zup N 160 (5 + m) v c = I c := fun c a b => by rw [N0 c (by omega), n1 c (by omega)]; exact hr c a b
  have k132 : ∀ k, k ≠ 0 → k ≠ 33 → zup N 160 (5 + m) v 132 k = I 132 k := fun k a b => by rw [N0 132 (by decide), n1 132 (by decide)]; exact h132 k a b
  have e136 : N1 136 = I 136 := hr 136 (by decide) (by decide)
  have e143 : N1 143 = I 143 := hr 143 (by decide) (by decide)
  have e134 : N1 134 = I 134 := hr 134 (by decide) (by decide)
  have th0 : I (t + 1) 1 - 1 = I 134 1 - 1 := by rw [i1.1.2.1, i1.2.1.2.1]
  refine ⟨rlT_E h8 (fun k hk => ?_) (fun c a b => ?_) i1.2.2.1, ?_, ?_, ⟨?_, ?_, ?_, ?_, ?_, fun s' hs => ⟨?_, ?_⟩, fun p hp => ?_, fun p s' hp hs => ?_, fun m' hm' => ⟨?_, ?_, ?_, ?_⟩⟩, ?_, ⟨fun m' hm' => ?_, fun m' hm' h0 => ?_, ?_, fun s' hs => ⟨0, by omega, ?_⟩, fun p s' hp hs => ⟨0, by unfold airB; omega, ?_⟩, fun s' hs => ?_⟩⟩
  · rw [mg_lo (by omega), cdC_ne (by omega)]; exact hf k hk
  · rw [mg_hi (by omega)]; exact row c (by omega) (by omega)
  · unfold pln; rw [k132 50 (by decide) (by decide), k132 52 (by decide) (by decide)]; exact i2.1
  · rw [k132 48 (by decide) (by decide)]; exact i2.2
  · rw [mg_lo (by decide), mg_hi (by decide), cdC_ne (by decide), N0 151 (by decide), c5, n2.1]
  · rw [mg_lo (by decide), mg_hi (by decide), cdC_ne (by decide), N0 152 (by decide), c6, n2.2.1]
  · rw [mg_lo (by decide), mg_hi (by decide), cdC_ne (by decide), N0 153 (by decide), c7, n2.2.2.1]
  · rw [mg_lo (by decide), mg_hi (by decide), cdC_ne (by decide), N0 154 (by decide), c8, n2.2.2.2]
  · rw [mg_lo (by decide), cdC_ne (by decide), c9]
  · rw [mg_lo (by decide), mg_hi (by decide), cdC_ne (by decide), N0 156 (by decide), (c1 s' (by omega)).1, (n4 s' (by omega)).1, if_pos hs, e136]; exact i1.2.2.1.2.1 s' hs
  · rw [mg_lo (by decide), mg_hi (by decide), cdC_ne (by decide), N0 157 (by decide), (c1 s' (by omega)).2, (n4 s' (by omega)).2]
  · rw [mg_lo (by decide), mg_hi (by decide), cdC_ne (by decide), row 141 (by decide) (by decide), c2 p (by omega)]; exact i1.2.2.1.2.2.2.2.1 p hp
  · rw [mg_lo (by omega), mg_hi (by decide), cdC_ne (by omega), N0 158 (by decide), c4 p s' (by omega) (by omega), n6 p s' (by omega) (by omega)]
  · rw [mg_lo (by decide), mg_hi (by decide), cdC_ne (by decide), N0 159 (by decide), (c3 m' (by omega)).1, (n8 m' hm').1, e143]; exact (i1.2.2.1.2.2.2.2.2.1 m' hm').1
  · rw [mg_lo (by decide), mg_hi (by decide)]
    show cdC C s m ns 94 m' = zup N 160 (5 + m) v 160 (5 + m')
    by_cases e : m' = m
    · subst e
      rw [zup_s, hv]
      unfold cdC
      by_cases q : s < ns
      · rw [if_pos q, if_pos q, zup_s]
      · rw [if_neg q, if_neg q]; exact (c3 m' (by omega)).2.1
    · rw [zup_i _ _ _ (by omega)]
      have e2 : N 160 (5 + m') = 0 := (n8 m' hm').2.1
      rw [e2]
      unfold cdC
      by_cases q : s < ns
      · rw [if_pos q, zup_i _ _ _ e]; exact (c3 m' (by omega)).2.1
      · rw [if_neg q]; exact (c3 m' (by omega)).2.1
  · rw [mg_lo (by decide), mg_hi (by decide), cdC_ne (by decide), N0 161 (by decide), (c3 m' (by omega)).2.2.1, (n8 m' hm').2.2.1]
  · rw [mg_lo (by decide), mg_hi (by decide), cdC_ne (by decide), N0 162 (by decide), (c3 m' (by omega)).2.2.2, (n8 m' hm').2.2.2, e134]; exact th0
  · exact mdOK_E2 i1.2.1 (fun c hc => row c (by omega) (by omega)) (fun k a b => k132 k (by omega) (by omega))
  · rw [N0 159 (by decide), (n8 m' hm').1, e143]; exact i1.2.2.2.2.2.2.2.2.2.2.2.1 m' hm'
  · rw [N0 162 (by decide), (n8 m' hm').2.2.2, e134, i1.2.1.2.1]
    exact ⟨nd - 1, by omega, by have := nI_pred (nd - 1); rw [show nd - 1 + 1 = nd by omega] at this; exact this⟩
  · rw [N0 151 (by decide), n2.1]; rfl
  · rw [N0 157 (by decide), (n4 s' (by omega)).2]; rfl
  · rw [N0 158 (by decide), n6 p s' (by omega) (by omega)]; rfl
  · rw [N0 156 (by decide), (n4 s' (by omega)).1, if_pos hs, e136]
    obtain ⟨n, a, b⟩ := i1.2.2.2.2.2.2.2.2.2.2.1 s' hs
    exact ⟨n, by omega, b⟩
set_option maxHeartbeats 4000000 in
theorem pr_colds {G : zG} {d : Nat} {h : zMem} (hOK : zOK h) (x : Int32) : pairX G mX9_colds mX10_colds (d + 200) [.ref 0, .int x] [.ref 132, .int x] h := by
  have hOK' := hOK
  obtain ⟨t, ns, nd, nr, nm, dt, u, nn, tp, S1, S2, h174, hI⟩ := hOK'
  have hTd := hI.1
  obtain ⟨td, md, rl, -⟩ := hI.1
  have td' := td
  obtain ⟨t0, t1, t2, t3, h6, h8, h6r, h5, hlw⟩ := td
  have tn : t = 8 ∨ t = 103 := S1.2.1
  obtain ⟨n1, n2, n3, n4, n5, n6⟩ := hI.2.2.2.2.2.1
  have P : ∀ h1, cR h h1 → zSh2 (zsI h1 132 0 0) ∧ zInv (zI (zsI h1 132 0 0)) t ns nd nr nm dt u nn tp := fun h1 k => ⟨S2.W k.thr.1, zInv_j S1.2.1 hI k.thr.2⟩
  rcases ix_or x (n := nm) (by omega) with q | ⟨m, hm, rfl⟩
  · refine pairI.x (pair_ro hOK (-1) ?_ (fun h1 k => ?_))
    · refine cn_X9_colds (sg_X9_colds_0 S1 ⟨_, X9_has_no (k := 3) S1 (by decide) t3 q, ?_⟩)
      rintro v h2 ⟨rfl, rfl⟩
      exact ⟨S1, fun c => absurd rfl c, fun _ => ⟨rfl, cR.rf _⟩⟩
    · obtain ⟨S3, I3⟩ := P h1 k
      refine cn_X10_colds (sg_X10_colds_0 (S2.W k.1) ⟨_, X10_isMonk_no S3 I3.1.2.1.2.2.2.1 q, ?_⟩)
      rintro v h2 ⟨rfl, rfl⟩
      exact ⟨S3, fun c => absurd rfl c, fun _ => ⟨rfl, jR.thr h1⟩⟩
  obtain ⟨kk, hkk, hkn⟩ : ∃ kk, (if zI h 37 7 = -1 then zI h 37 6 else zI h 37 7) = nI kk ∧ kk ≤ nn := by
    rcases n5 with e | ⟨k, a, e⟩
    · rw [if_pos e]; exact ⟨nn, n1, Nat.le_refl _⟩
    · rw [if_neg (by rw [e]; exact nI_nm1 (by omega))]; exact ⟨k, e, a⟩
  have nt : ∀ k, k < kk → zI h 42 k = -1 → zI h 38 k = zI h 168 k ∧ zI h 39 k = zI h 169 k ∧ zI h 40 k = zI h 170 k ∧ zI h 41 k = zI h 171 k ∧ (∃ q, q ≤ 40 ∧ zI h 38 k = nI q) ∧ (∃ m, m < nm ∧ zI h 39 k = nI m) := fun k hk e => by
    obtain ⟨-, o⟩ := n6 k (by omega)
    rcases o with ⟨j, hj, ej⟩ | ⟨-, o1, o2, o3, o4, ⟨q, -, o5, o6⟩, o7, -⟩
    · rw [e] at ej; exact absurd ej.symm (nI_nm1 (by omega))
    · exact ⟨o1, o2, o3, o4, ⟨q, o5, o6⟩, o7⟩
  have hst : stP (zI h 42) kk := fun k hk => by
    obtain ⟨-, o⟩ := n6 k (by omega)
    rcases o with ⟨j, hj, ej⟩ | ⟨o, -⟩
    · exact Or.inr ⟨j, hj, ej⟩
    · exact Or.inl o
  obtain ⟨S, hS⟩ : ∃ S, S = wgF (zI h 42) kk (fun _ => 0) := ⟨_, rfl⟩
  obtain ⟨L, hL, eL⟩ := lmF_rg (mo := zI h 38) (st := zI h 42) (S := S) kk 0 0 (fun k _ b e => (nt k (by omega) e).2.2.2.2.1) (by omega)
  refine pairX_ro hOK (fun v => cdA (zI h) S t ns nd nr nm kk L m (ns + 1) 0 0 v) ?_ ?_
  · refine cn_X9_colds (sg_X9_colds_0 S1 ⟨_, X9_has_yes (k := 3) S1 (by decide) t3 hm (by omega), ?_⟩)
    rintro v h2 ⟨rfl, rfl⟩
    refine ⟨S1, fun _ => ⟨_, X1_weigh_ok S1 hkk (by omega) hst, ?_⟩, fun c => absurd c n10⟩
    rintro h7 ⟨g1, g2, g3⟩
    refine ⟨S1.W g1, ?_⟩
    have cRf : ∀ {h1 : zMem}, zW h2 h1 → (∀ a, (a < 82 ∨ 99 ≤ a) → a ≠ 43 → zI h1 a = zI h2 a) → cR h2 h1 := fun w q => ⟨w, fun c j hn => by rw [q c (by unfold jkP at hn; omega) (by unfold jkP at hn; omega)], fun c hc => q c (by omega) (by omega)⟩
    have loop : ∀ (Q : Int32 → zMem → Prop) n s acc (h1 : zMem), n + s = ns + 1 → zSh1 h1 t → zW h2 h1 → (∀ a, (a < 82 ∨ 99 ≤ a) → a ≠ 43 → zI h1 a = zI h2 a) → (∀ j, j < kk → zI h1 43 j = S j) → (∀ v h3, cR h2 h3 → cdA (zI h2) S t ns nd nr nm kk L m n s acc v → Q v h3) → zg G mX9_colds (d + 200) 22 [.ref 0, .int (nI m), .int acc, .int (nI s)] [] h1 (zPI Q) := by
      intro Q n
      induction n with
      | zero =>
        intro s acc h1 hs s1 q1 q2 q3 K
        refine sg_X9_colds_22 s1 ?_
        rw [q2 (t + 1) (by omega) (by omega), t0]
        exact ⟨fun _ => K _ _ (cRf q1 q2) rfl, fun c => absurd (nI_lt (by omega) (by omega)) c⟩
      | succ n ih =>
        intro s acc h1 hs s1 q1 q2 q3 K
        refine sg_X9_colds_22 s1 ?_
        rw [q2 (t + 1) (by omega) (by omega), t0]
        refine ⟨fun c => absurd c (nI_nlt (by omega) (by omega)), fun _ => ⟨_, X5_begin_ok (b := 82) s1 (Or.inr (Or.inr rfl)) s1.2.1, ?_⟩⟩
        rintro h3 ⟨b1, b2⟩
        have s3 := s1.W b1
        have f3 : ∀ a, (a < 82 ∨ 99 ≤ a) → a ≠ 43 → zI h3 a = zI h2 a := fun a ha hb => (b2.1 a (by omega)).trans (q2 a ha hb)
        have f43 : ∀ j, j < kk → zI h3 43 j = S j := fun j hj => by rw [b2.1 43 (by omega)]; exact q3 j hj
        have bq : bgQ (zI h2) (zI h3) t := by
          have := b2.2
          rw [q2 (t + 7) (by omega) (by omega), q2 (t + 18) (by omega) (by omega), q2 (t + 19) (by omega) (by omega), q2 (t + 1) (by omega) (by omega)] at this
          exact this
        have ag : ∀ h4, zSh1 h4 t → zW h3 h4 → zI h4 = cdC (zI h3) s m ns → ∃ Q12 : Int32 → zMem → Prop, zConI G mX9_agreesWithNotes (d + 199) [.ref 0] h4 Q12 ∧ (∀ v15 h13, Q12 v15 h13 → zSh1 h13 t ∧ (v15 = 0 → zg G mX9_colds (d + 200) 22 [.ref 0, .int (nI m), .int acc, .int (nI (s + 1))] [] h13 (zPI Q)) ∧ (¬ v15 = 0 → zg G mX9_colds (d + 200) 22 [.ref 0, .int (nI m), .int (acc ||| ((1 : Int32) <<< (nI s &&& 31))), .int (nI (s + 1))] [] h13 (zPI Q))) := by
          intro h4 s4 w4 e4
          have f4 : ∀ a, (a < 82 ∨ 99 ≤ a) → a ≠ 43 → zI h4 a = zI h2 a := fun a ha hb => by rw [e4, cdC_ne (by omega)]; exact f3 a ha hb
          have f44 : ∀ j, j < kk → zI h4 43 j = S j := fun j hj => by rw [e4, cdC_ne (by decide)]; exact f43 j hj
          have st4 : stOK (zI h4) 82 nd nr nm 0 := by rw [e4]; exact bg_st hTd bq
          refine ⟨_, X9_agreesWithNotes_ok (h0 := h2) (S := S) (L := L) s4 (tdOK_E (fun k hk => f4 _ (by omega) (by omega)) td') st4 (by rw [f4 37 (by omega) (by omega)]; exact hkk) (by omega) hL f44 (fun c a b => f4 c (by omega) (by omega)) ?_ (fun k a b => ?_), ?_⟩
          · rw [← eL]
            exact lmF_E kk 0 0 (fun k _ b => ⟨f44 k (by omega), by rw [f4 42 (by omega) (by omega)], fun _ => by rw [f4 38 (by omega) (by omega)]⟩)
          · rw [f4 42 (by omega) (by omega)] at b
            rw [f4 39 (by omega) (by omega)]
            obtain ⟨m', a', b'⟩ := (nt k a b).2.2.2.2.2
            exact ⟨m', by omega, b'⟩
          · rintro v h13 ⟨⟨w1, w2⟩, b, rfl, r⟩
            have s13 := s4.W w1
            have cd : cdR (zI h2) S t ns nd nr nm kk L m s b := ⟨zI h3, bq, f3, by rw [e4] at r; exact r⟩
            have nx := fun acc' (K' : ∀ v h3, cR h2 h3 → cdA (zI h2) S t ns nd nr nm kk L m n (s + 1) acc' v → Q v h3) => ih (s + 1) acc' h13 (by omega) s13 (((q1.trans b1).trans w4).trans w1) (fun a ha hb => (w2 a ha).trans (f4 a ha hb)) (fun j hj => by rw [w2 43 (by omega)]; exact f44 j hj) K'
            refine ⟨s13, fun c => nx acc (fun v h5' a1 a2 => K v h5' a1 ⟨b, cd, fun e => absurd e (b32_0.mp c), fun _ => a2⟩), fun c => nx _ (fun v h5' a1 a2 => K v h5' a1 ⟨b, cd, fun _ => a2, fun e => ?_⟩)⟩
            rw [e] at c; exact absurd rfl c
        refine ⟨s3, ?_⟩
        rw [f3 (t + 1) (by omega) (by omega), t0, nI_1]
        refine ⟨fun c => ag h3 s3 (zW.rf _) ?_, fun c => ?_⟩
        · have : ¬ s < ns := fun z => nI_ge z (by omega) c
          unfold cdC; rw [if_neg this]
        · have hs' : s < ns := Nat.lt_of_not_le (fun z => c (nI_le z (by omega)))
          rw [zcla (show m < 2 ^ 31 by omega)]
          refine ⟨zin_n (by omega) (by decide), ag _ (s3.W ((zW.rf _).sI _ _ _)) ((zW.rf _).sI _ _ _) ?_⟩
          unfold cdC; rw [if_pos hs', zI_sI]
    exact loop _ (ns + 1) 0 0 h7 (by omega) (S1.W g1) g1 (fun a _ hb => g2 a hb) (fun j hj => by rw [g3 j (by omega), hS]) (fun v h3 a b => ⟨a, b⟩)
  · rintro v h1 kR k
    obtain ⟨S3, I3⟩ := P h1 k
    have E := k.eT
    refine cn_X10_colds (sg_X10_colds_0 (S2.W k.1) ⟨_, X10_isMonk_yes S3 I3.1.2.1.2.2.2.1 hm (by omega), ?_⟩)
    rintro w h2 ⟨rfl, rfl⟩
    refine ⟨S3, fun _ => ?_, fun c => absurd c n10⟩
    obtain ⟨Q, hQ⟩ : ∃ Q : Int32 → zMem → Prop, Q = (fun w h2 => w = v ∧ jR2 h1 h2) := ⟨_, rfl⟩
    rw [← hQ]
    have row : ∀ {h3 : zMem}, jR h1 h3 → ∀ c, (133 ≤ c ∧ c ≤ 150) ∨ (168 ≤ c ∧ c ≤ 172) → zI h3 c = zI h c := fun j c hc => by rw [j.2.row (by omega)]; exact k.2.2 c (by omega)
    have k132 : ∀ {h3 : zMem}, jR h1 h3 → ∀ j, j ≠ 0 → j ≠ 33 → zI h3 132 j = zI h 132 j := fun j i a b => by rw [j.2 132 i (by unfold jkP; omega), k.2.2 132 (by decide)]
    have km : ∀ {d' : Nat} {h3 : zMem}, zSh2 h3 → jR h1 h3 → zConI G mX10_knownMany d' [.ref 132] h3 (fun v h' => v = nI kk ∧ h' = h3) := fun {d'} {h3} s3 j => by
      refine cn_X10_knownMany (sg_X10_knownMany_0 s3 ?_)
      rw [k132 j 61 (by decide) (by decide), k132 j 60 (by decide) (by decide), ← n4, n2, ← n1]
      exact ⟨fun c => ⟨by rw [if_neg c] at hkk; exact hkk, rfl⟩, fun c => ⟨by rw [if_pos c] at hkk; exact hkk, rfl⟩⟩
    have e42 : ∀ i, i < kk → zI h 42 i = zI h 172 i := fun i hi => (n6 i (by omega)).1
    -- is it so
    have so : ∀ {d' : Nat} {h3 : zMem} (th : Nat → Int32) (x : Nat), x ≤ 40 → zSh2 h3 → jR h1 h3 → (∀ j, j < kk → zI h3 173 j = S j) → (∀ m, m < nm → zI h3 162 (5 + m) = th m) → zConI G mX10_isSo (d' + 1) [.ref 132, .int (nI x)] h3 (fun v h' => v = b32 (alF (zI h) S th (nI x) kk 0) ∧ h' = h3) := by
      intro d' h3 th x hx s3 j3 e73 eth
      refine cn_X10_isSo (sg_X10_isSo_0 s3 ?_)
      obtain ⟨R, hR⟩ : ∃ R, R = alF (zI h) S th (nI x) kk 0 := ⟨_, rfl⟩
      rw [← hR]
      have loop : ∀ n i, n + i = kk → alF (zI h) S th (nI x) n i = R → zg G mX10_isSo (d' + 1) 2 [.ref 132, .int (nI x), .int (nI i)] [] h3 (zPI (fun v h' => v = b32 R ∧ h' = h3)) := by
        intro n
        induction n with
        | zero =>
          intro i hi e
          refine sg_X10_isSo_2 s3 ⟨_, km s3 j3, ?_⟩
          rintro w h2 ⟨rfl, rfl⟩
          exact ⟨s3, fun _ => ⟨by rw [← e]; rfl, rfl⟩, fun c => absurd (nI_le (by omega) (by omega)) c⟩
        | succ n ih =>
          intro i hi e
          rw [alF] at e
          refine sg_X10_isSo_2 s3 ⟨_, km s3 j3, ?_⟩
          rintro w h2 ⟨rfl, rfl⟩
          rw [zcla (show i < 2 ^ 31 by omega), nI_1, e73 i (by omega), row j3 172 (by omega), row j3 168 (by omega), row j3 169 (by omega), row j3 170 (by omega), row j3 171 (by omega), ← e42 i (by omega)]
          refine ⟨s3, fun c => absurd c (nI_ge (by omega) (by omega)), fun _ => ⟨zin_n (by omega) (by decide), fun c => ih (i + 1) (by omega) ?_, fun c => ⟨fun c2 => ih (i + 1) (by omega) ?_, fun c2 => ?_⟩⟩⟩
          · rw [if_neg c] at e; exact e
          · rw [if_pos c, if_neg c2] at e; exact e
          · obtain ⟨o1, o2, o3, o4, -, ⟨m', hm', em'⟩⟩ := nt i (by omega) c2
            rw [if_pos c, if_pos c2, em', zcla (show m' < 2 ^ 31 by omega), o1, o3, o4] at e
            rw [← o2, em', show (5 : Int32) + nI m' = nI (5 + m') from nI_add 5 m', zcla (show 5 + m' < 2 ^ 31 by omega), eth m' hm']
            refine ⟨fun c3 => ⟨zin_n (by omega) (by decide), fun c4 => ⟨fun c5 => ih (i + 1) (by omega) ?_, fun c5 => ⟨?_, rfl⟩⟩, fun c4 => ⟨fun c5 => ih (i + 1) (by omega) ?_, fun c5 => ⟨?_, rfl⟩⟩⟩, fun c3 => ih (i + 1) (by omega) ?_⟩
            · rw [if_pos c3, if_neg c4, if_pos c5] at e; exact e
            · rw [if_pos c3, if_neg c4, if_neg c5] at e; rw [← e]; rfl
            · rw [if_pos c3, if_pos c4, if_pos c5] at e; exact e
            · rw [if_pos c3, if_pos c4, if_neg c5] at e; rw [← e]; rfl
            · rw [if_neg c3] at e; exact e
      exact loop kk 0 (by omega) hR.symm
    -- does a cold fit
    have fit : ∀ {h3 : zMem} (s : Nat) (sv : Int32) (b : Bool), s ≤ ns → (sv = if s < ns then (1 : Int32) <<< (nI s &&& 31) else 0) → cdR (zI h) S t ns nd nr nm kk L m s b → zSh2 h3 → jR h1 h3 → (∀ j, j < kk → zI h3 173 j = S j) → zConI G mX10_fitsCold (d + 199) [.ref 132, .int (nI m), .int sv, .int (nI L)] h3 (fun w h' => w = b32 b ∧ jR h1 h' ∧ ∀ j, j < kk → zI h' 173 j = S j) := by
      intro h3 s sv b hs hsv cd s3 j3 e73
      obtain ⟨C, bq, cf, ag⟩ := cd
      refine cn_X10_fitsCold (sg_X10_fitsCold_0 s3 ⟨_, X10_starts_ok (a := 1) s3 (by decide) (by rw [row j3 134 (by omega)]; exact md.1) h6 (by rw [row j3 134 (by omega)]; exact md.2.2.2.1) h5, ?_⟩)
      rintro h4 ⟨g1, g2⟩
      have s4 := s3.W g1
      rw [show (5 : Int32) + nI m = nI (5 + m) from nI_add 5 m, zcla (show 5 + m < 2 ^ 31 by omega)]
      refine ⟨s4, zin_n (by omega) (by decide), ?_⟩
      have r0 := bg_init (s := s) (v := sv) S1.2.1 hI hm bq (fun k hk => cf _ (by omega) (by omega)) (fun c a b => row j3 c (by omega)) (fun j a b => k132 j3 j a b) g2 hsv
      have j4 : jR h1 (zsI h4 160 (5 + m) sv) := j3.trans ⟨g1.sI _ _ _, by rw [zI_sI]; exact (g2.j1 h5).up (by unfold jkP; omega)⟩
      have loop : ∀ n kx D (h5' : zMem), n + kx = L + 1 → 1 ≤ kx → agR (zI h) S t ns nd nr nm kk n kx (kx - 1) D b → zSh2 h5' → jR h1 h5' → (∀ j, j < kk → zI h5' 173 j = S j) → rnI D (zI h5') 82 t 1 ns nd nr nm (kx - 1) → zg G mX10_fitsCold (d + 199) 17 [.ref 132, .int (nI m), .int sv, .int (nI L), .int (nI kx)] [] h5' (zPI (fun w h' => w = b32 b ∧ jR h1 h' ∧ ∀ j, j < kk → zI h' 173 j = S j)) := by
        intro n
        induction n with
        | zero =>
          intro kx D h5' hk k1 ag s5 j5 e5 r5
          have : b = true := ag
          exact sg_X10_fitsCold_17 s5 ⟨fun _ => ⟨by rw [this]; rfl, j5, e5⟩, fun c => absurd (nI_lt (by omega) (by omega)) c⟩
        | succ n ih =>
          intro kx D h5' hk k1 ag s5 j5 e5 r5
          obtain ⟨J, m1, a1, a2⟩ := ag
          refine sg_X10_fitsCold_17 s5 ⟨fun c => absurd c (nI_nlt (by omega) (by omega)), fun _ => md_pass (a := 1) s5 (by decide) r5.2.2.2.2.1 r5.2.2.2.2.2 (by omega) (fun h7 s7 w7 p7 => ?_)⟩
          obtain ⟨st, po, fr⟩ := rnI.step (Or.inr (Or.inr rfl)) S1.2.1 h6 h8 h6r (by omega) r5 m1 p7
          have j7 : jR h1 h7 := j5.trans ⟨w7, p7.j1⟩
          have e7 : ∀ j, j < kk → zI h7 173 j = S j := fun j hj => by rw [p7.1 173 (by decide) (by decide) (by decide) (by decide) (by decide) (by decide) (by decide) (by decide) (by decide) (by decide) (by decide) (by decide)]; exact e5 j hj
          refine ⟨_, so (J 96) kx (by omega) s7 j7 e7 (fun m' hm' => ?_), ?_⟩
          · have := (st.2.2.2.1.2.2.2.2.2.2.2.2 m' hm').2.2.2
            rw [mg_lo (by decide), mg_hi (by decide)] at this; exact this.symm
          · rintro w h8' ⟨rfl, rfl⟩
            rw [nI_1]
            rw [show kx - 1 + 1 = kx + 1 - 1 by omega] at st a1
            refine ⟨s7, fun c => ih (kx + 1) J h8' (by omega) (by omega) (a1 (Classical.byContradiction fun z => c (b32_0.mpr z))) s7 j7 e7 st, fun c => ⟨?_, j7, e7⟩⟩
            rw [a2 (b32_0.mp c)]; rfl
      refine loop L 1 _ _ (by omega) (by omega) ag (s4.W ((zW.rf _).sI _ _ _)) j4 (fun j hj => ?_) (by rw [zI_sI]; exact r0)
      rw [zI_sI, zup_ne _ _ (by decide), g2.1 173 (by decide)]; exact e73 j hj
    -- all colds
    have l139 : ∀ n s acc (h3 : zMem), n + s = ns + 1 → cdA (zI h) S t ns nd nr nm kk L m n s acc v → zSh2 h3 → jR h1 h3 → (∀ j, j < kk → zI h3 173 j = S j) → zg G mX10_colds (d + 200) 139 [.ref 132, .int (nI m), .int (nI L), .int acc, .int (nI s)] [] h3 (zPI Q) := by
      intro n
      induction n with
      | zero =>
        intro s acc h3 hs r s3 j3 e3
        refine sg_X10_colds_139 s3 ?_
        rw [row j3 134 (by omega), md.1, hQ]
        exact ⟨fun _ => ⟨(show v = acc from r).symm, j3.two⟩, fun c => absurd (nI_lt (by omega) (by omega)) c⟩
      | succ n ih =>
        intro s acc h3 hs r s3 j3 e3
        obtain ⟨b, cd, r1, r2⟩ := r
        refine sg_X10_colds_139 s3 ?_
        rw [row j3 134 (by omega), md.1]
        simp only [nI_1, or_0]
        have nx : ∀ w h4, (w = b32 b ∧ jR h1 h4 ∧ ∀ j, j < kk → zI h4 173 j = S j) → zSh2 h4 ∧ (w = 0 → zg G mX10_colds (d + 200) 139 [.ref 132, .int (nI m), .int (nI L), .int acc, .int (nI (s + 1))] [] h4 (zPI Q)) ∧ (¬ w = 0 → zg G mX10_colds (d + 200) 139 [.ref 132, .int (nI m), .int (nI L), .int (acc ||| ((1 : Int32) <<< (nI s &&& 31))), .int (nI (s + 1))] [] h4 (zPI Q)) := by
          rintro w h4 ⟨rfl, j4, e4⟩
          have s4 : zSh2 h4 := (S2.W k.1).W j4.1
          refine ⟨s4, fun c => ih (s + 1) acc h4 (by omega) (r2 ?_) s4 j4 e4, fun c => ih (s + 1) _ h4 (by omega) (r1 (Classical.byContradiction fun z => c (b32_0.mpr z))) s4 j4 e4⟩
          have := b32_0.mp c
          cases b with
          | true => exact absurd rfl this
          | false => rfl
        refine ⟨fun c => absurd c (nI_nlt (by omega) (by omega)), fun _ => ⟨fun c => ⟨_, fit s 0 b (by omega) ?_ cd s3 j3 e3, nx⟩, fun c => ⟨_, fit s _ b (by omega) ?_ cd s3 j3 e3, nx⟩⟩⟩
        · have : ¬ s < ns := fun z => nI_ge z (by omega) c
          rw [if_neg this]
        · have hs' : s < ns := Nat.lt_of_not_le (fun z => c (nI_le z (by omega)))
          rw [if_pos hs']
    -- the last morning
    have l90 : ∀ n i a (h3 : zMem), n + i = kk → lmF (zI h 38) (zI h 42) S n i a = nI L → zSh2 h3 → jR h1 h3 → (∀ j, j < kk → zI h3 173 j = S j) → zg G mX10_colds (d + 200) 90 [.ref 132, .int (nI m), .int a, .int (nI i), zU] [] h3 (zPI Q) := by
      intro n
      induction n with
      | zero =>
        intro i a h3 hi e s3 j3 e3
        refine sg_X10_colds_90 s3 ⟨_, km s3 j3, ?_⟩
        rintro w h2 ⟨rfl, rfl⟩
        refine ⟨s3, fun _ => ?_, fun c => absurd (nI_le (by omega) (by omega)) c⟩
        rw [show a = nI L from e]
        exact l139 (ns + 1) 0 0 h2 (by omega) kR s3 j3 e3
      | succ n ih =>
        intro i a h3 hi e s3 j3 e3
        rw [lmF] at e
        refine sg_X10_colds_90 s3 ⟨_, km s3 j3, ?_⟩
        rintro w h2 ⟨rfl, rfl⟩
        simp only [zcla (show i < 2 ^ 31 by omega), nI_1]
        rw [e3 i (by omega), row j3 172 (by omega), row j3 168 (by omega), ← e42 i (by omega)]
        refine ⟨s3, fun c => absurd c (nI_ge (by omega) (by omega)), fun _ => ⟨zin_n (by omega) (by decide), fun c => ih (i + 1) a h2 (by omega) ?_ s3 j3 e3, fun c => ⟨fun c2 => ih (i + 1) a h2 (by omega) ?_ s3 j3 e3, fun c2 => ih (i + 1) _ h2 (by omega) ?_ s3 j3 e3⟩⟩⟩
        · rw [if_neg c] at e; exact e
        · rw [if_pos c, if_neg c2] at e; exact e
        · rw [if_pos c, if_pos c2, (nt i (by omega) c2).1] at e; exact e
    -- which are struck
    have l47 : ∀ n (T : Nat → Int32) (h3 : zMem), n ≤ kk → zSh2 h3 → jR h1 h3 → (∀ j, j < kk → zI h3 173 j = T j) → wgF (zI h 42) n T = S → zg G mX10_colds (d + 200) 47 [.ref 132, .int (nI m), .int 0, .int (nI n - 1), zU] [] h3 (zPI Q) := by
      intro n
      induction n with
      | zero =>
        intro T h3 hn s3 j3 e3 e
        refine sg_X10_colds_47 s3 ⟨fun _ => l90 kk 0 0 h3 (by omega) eL s3 j3 (fun j hj => by rw [e3 j hj, ← e]; rfl), fun c => absurd (show nI 0 - 1 < 0 by decide) c⟩
      | succ n ih =>
        intro T h3 hn s3 j3 e3 e
        rw [nI_pred]
        rw [wgF] at e
        refine sg_X10_colds_47 s3 ?_
        rw [zcla (show n < 2 ^ 31 by omega), e3 n (by omega), row j3 172 (by omega), ← e42 n (by omega), nI_m1', nar1]
        refine ⟨fun c => absurd c (nI_pos (by omega)), fun _ => ⟨zin_n (by omega) (by decide), fun c => ?_, fun c => ⟨fun c2 => ?_, fun c2 => ?_⟩⟩⟩
        · rw [if_neg c] at e; exact ih T h3 (by omega) s3 j3 e3 e
        · rw [if_pos c, if_pos c2] at e; exact ih T h3 (by omega) s3 j3 e3 e
        · obtain ⟨j, hj, ej⟩ := (hst n (by omega)).resolve_left c2
          rw [if_pos c, if_neg c2, ej, zcla (show j < 2 ^ 31 by omega)] at e
          rw [ej, zcla (show j < 2 ^ 31 by omega)]
          refine ⟨zin_n (by omega) (by decide), ih _ _ (by omega) (s3.W ((zW.rf _).sI _ _ _)) (j3.trans ⟨(zW.rf _).sI _ _ _, by rw [zI_sI]; exact (jE.rf _).up (by unfold jkP; omega)⟩) (fun i hi => ?_) e⟩
          by_cases ei : i = j
          · subst ei; rw [zI_sI, zup_s, if_pos rfl]
          · rw [zI_sI, zup_i _ _ _ ei, if_neg ei]; exact e3 i hi
    have l19 : ∀ n i (h3 : zMem), n + i = kk → zSh2 h3 → jR h1 h3 → (∀ j, j < i → zI h3 173 j = 0) → zg G mX10_colds (d + 200) 19 [.ref 132, .int (nI m), .int 0, .int (nI i), zU] [] h3 (zPI Q) := by
      intro n
      induction n with
      | zero =>
        intro i h3 hi s3 j3 e3
        refine sg_X10_colds_19 s3 ⟨_, km s3 j3, ?_⟩
        rintro w h2 ⟨rfl, rfl⟩
        refine ⟨s3, fun _ => ⟨_, km s3 j3, ?_⟩, fun c => absurd (nI_le (by omega) (by omega)) c⟩
        rintro w h7 ⟨rfl, rfl⟩
        exact ⟨s3, l47 kk (fun _ => 0) h7 (Nat.le_refl _) s3 j3 (fun j hj => e3 j (by omega)) hS.symm⟩
      | succ n ih =>
        intro i h3 hi s3 j3 e3
        refine sg_X10_colds_19 s3 ⟨_, km s3 j3, ?_⟩
        rintro w h2 ⟨rfl, rfl⟩
        rw [zcla (show i < 2 ^ 31 by omega), nI_1, nar0]
        refine ⟨s3, fun c => absurd c (nI_ge (by omega) (by omega)), fun _ => ⟨zin_n (by omega) (by decide), ih (i + 1) _ (by omega) (s3.W ((zW.rf _).sI _ _ _)) (j3.trans ⟨(zW.rf _).sI _ _ _, by rw [zI_sI]; exact (jE.rf _).up (by unfold jkP; omega)⟩) (fun j hj => ?_)⟩⟩
        by_cases ej : j = i
        · subst ej; rw [zI_sI, zup_s]
        · rw [zI_sI, zup_i _ _ _ ej]; exact e3 j (by omega)
    exact l19 kk 0 _ (by omega) S3 (jR.thr h1) (fun j hj => absurd hj (by omega))
