/-! the model's next token -/
section MS
variable {G : zG} {d n : Nat} {h : zMem} {B : Nat → Int32}
theorem tpM.of {h1 : zMem} (hT : tpM (zI h) B n) (e : zI h1 133 = zI h 133) : tpM (zI h1) B n := ⟨fun k hk => by rw [e]; exact hT.1 k hk, hT.2⟩
set_option maxHeartbeats 2000000 in
theorem X10_token_ok (hG : gK G) (hS : zSh2 h) (hT : tpM (zI h) B n) {p : Nat} (h20 : zI h 132 20 = nI n) (h21 : zI h 132 21 = nI p) (hp : p ≤ n) : zConV G mX10_token (d + 11) [.ref 132] h (fun h' => mtR h h' ∧ scM (zI h') B n p) := by
  have hn := hT.2.2
  obtain ⟨Q, hQ⟩ : ∃ Q : zMem → Prop, Q = (fun h' => mtR h h' ∧ scM (zI h') B n p) := ⟨_, rfl⟩
  rw [← hQ]
  obtain ⟨s, hs⟩ : ∃ s, s = tks B n p := ⟨_, rfl⟩
  have hsn : p ≤ s ∧ s ≤ n := hs ▸ tks_le B hp
  have mk : ∀ h', mtR h h' → zI h' 132 22 = nI s → zI h' 132 21 = nI (tke B n p) → tkR (tkt B n p) (tkl B n p) (tkn B n p) (zI h' 132 23) (zI h' 132 24) → Q h' := by
    intro h' a1 a2 a3 a4
    rw [hQ]
    exact ⟨a1, (a1.2.2 20 (Or.inl (by decide))).trans h20, a3, by rw [← hs]; exact a2, a4⟩
  -- digits
  have L162 : ∀ k q (x1 c m : Int32) (h1 : zMem), k = n - q → s ≤ q → q ≤ n → s < n → ¬ isL (B s) → isD (B s) → mtR h h1 → zI h1 132 22 = nI s → zI h1 132 23 = 2 → zI h1 132 24 = m → zI h1 132 21 = nI q → nbR c m → rnE isD B n q = rnE isD B n s → nbF B n (n - q) q c = nbF B n (n - s) s 0 → zg G mX10_token (d + 11) 162 [.ref 132, .int x1] [] h1 (zPV Q) := by
    intro k
    induction k with
    | zero =>
      intro q x1 c m h1 hk q1 q2 sn nl nd w1 e22 e23 e24 e21 r er en
      have S1 := hS.W w1.1
      have T1 := hT.of (w1.2.1 133 (by decide))
      have e20 := (w1.2.2 20 (Or.inl (by decide))).trans h20
      refine sg_X10_token_162 S1 ⟨_, X10_here_ok S1 T1 e20 e21 q2, ?_⟩
      rintro v h2 ⟨rfl, v1, v2⟩
      have : v = -1 := v2 (by omega)
      refine ⟨S1, _, X10_isDigit_ok S1 v, ?_⟩
      rintro u h3 ⟨hu, rfl⟩
      rw [this, if_neg (by decide)] at hu
      refine ⟨S1, fun _ => ?_, fun z => absurd hu z⟩
      rw [rnE_n (p := q) (by omega)] at er
      rw [show n - q = 0 by omega, nbF] at en
      refine mk _ w1 e22 ?_ (Or.inr (Or.inr (Or.inl ⟨?_, e23, ?_⟩)))
      · unfold tke; rw [← hs, if_pos sn, if_neg nl, if_pos nd, ← er]; exact e21
      · unfold tkt; rw [← hs, if_pos sn, if_neg nl, if_pos nd]
      · unfold tkn; rw [← hs, ← en, e24]; exact r
    | succ k ih =>
      intro q x1 c m h1 hk q1 q2 sn nl nd w1 e22 e23 e24 e21 r er en
      have S1 := hS.W w1.1
      have T1 := hT.of (w1.2.1 133 (by decide))
      have e20 := (w1.2.2 20 (Or.inl (by decide))).trans h20
      refine sg_X10_token_162 S1 ⟨_, X10_here_ok S1 T1 e20 e21 q2, ?_⟩
      rintro v h2 ⟨rfl, v1, v2⟩
      have ev : v = B q &&& 255 := v1 (by omega)
      refine ⟨S1, _, X10_isDigit_ok S1 v, ?_⟩
      rintro u h3 ⟨hu, rfl⟩
      by_cases cd : isD (B q)
      · rw [ev, if_pos ((hT.by q).D.mpr cd)] at hu
        refine ⟨S1, fun z => absurd (hu.symm.trans z) (by decide), fun _ => ?_⟩
        have er' : rnE isD B n (q + 1) = rnE isD B n s := by rw [← rnE_y (by omega) cd]; exact er
        have st := nb_step r cd
        have en' : nbF B n (n - (q + 1)) (q + 1) (if c * 10 + B q - 48 < 1000000 then c * 10 + B q - 48 else 1000000) = nbF B n (n - s) s 0 := by
          rw [show n - q = (n - (q + 1)) + 1 by omega, nbF, if_pos ⟨by omega, cd⟩] at en
          exact en
        rw [e24]
        have nx : ∀ m', (if m ≤ 99999 then 10 * m + B q - 48 else m) = m' → zg G mX10_token (d + 11) 162 [.ref 132, .int x1] [] (zsI (zsI h3 132 24 m') 132 21 (nI (q + 1))) (zPV Q) := by
          intro m' em
          rw [em] at st
          refine ih (q + 1) x1 _ m' _ (by omega) (by omega) (by omega) sn nl nd ((w1.sI (by omega)).sI (by omega)) ?_ ?_ ?_ ?_ st er' en'
          · simp only [zI_sI, zup_i _ _ _ (show 22 ≠ 21 by decide), zup_i _ _ _ (show 22 ≠ 24 by decide)]; exact e22
          · simp only [zI_sI, zup_i _ _ _ (show 23 ≠ 21 by decide), zup_i _ _ _ (show 23 ≠ 24 by decide)]; exact e23
          · simp only [zI_sI, zup_i _ _ _ (show 24 ≠ 21 by decide), zup_s]
          · simp only [zI_sI, zup_s]
        refine ⟨fun cm => ?_, fun cm => ?_⟩
        · refine ⟨_, X10_here_ok S1 T1 e20 e21 q2, ?_⟩
          rintro v' h2' ⟨rfl, v1', v2'⟩
          have ev' : v' = B q := (v1' (by omega)).trans (hT.dt cd)
          refine ⟨S1, ?_⟩
          have e21' : zI (zsI h2' 132 24 (10 * m + v' - 48)) 132 21 = nI q := by rw [zI_sI, zup_i _ _ _ (by decide)]; exact e21
          rw [e21', nI_1]
          exact nx _ (by rw [if_pos cm, ev'])
        · have e21' : zI (zsI h3 132 24 m) 132 21 = nI q := by rw [zI_sI, zup_i _ _ _ (by decide)]; exact e21
          rw [e21', nI_1]
          exact nx _ (by rw [if_neg cm])
      · rw [ev, if_neg (fun z => cd ((hT.by q).D.mp z))] at hu
        refine ⟨S1, fun _ => ?_, fun z => absurd hu z⟩
        rw [rnE_n (p := q) (fun z => cd z.2)] at er
        rw [show n - q = (n - (q + 1)) + 1 by omega, nbF, if_neg (fun z => cd z.2)] at en
        refine mk _ w1 e22 ?_ (Or.inr (Or.inr (Or.inl ⟨?_, e23, ?_⟩)))
        · unfold tke; rw [← hs, if_pos sn, if_neg nl, if_pos nd, ← er]; exact e21
        · unfold tkt; rw [← hs, if_pos sn, if_neg nl, if_pos nd]
        · unfold tkn; rw [← hs, ← en, e24]; exact r
  -- a word or a name
  have wend : ∀ (h1 : zMem), s < n → isL (B s) → mtR h h1 → zI h1 132 22 = nI s → zI h1 132 21 = nI (rnE isL B n s) → ∃ Q10 : Int32 → zMem → Prop, zConI G mX10_word (d + 10) [.ref 132] h1 Q10 ∧ (∀ v13 h11, Q10 v13 h11 → zSh2 h11 ∧ ((zI (zsI h11 132 24 v13) 132 24) = (-1) → (((zI (zsI h11 132 24 v13) 132 21) - (zI (zsI h11 132 24 v13) 132 22)) ≤ (6) → (¬ (zI (zsI (zsI h11 132 24 v13) 132 23 (1)) 132 23) = (1) → Q (zsI (zsI h11 132 24 v13) 132 23 (1))) ∧ ((zI (zsI (zsI h11 132 24 v13) 132 23 (1)) 132 23) = (1) → ∃ Q17 : zMem → Prop, zConV G mX10_name (d + 10) [.ref 132] (zsI (zsI h11 132 24 v13) 132 23 (1)) Q17 ∧ (∀ h18, Q17 h18 → zSh2 h18 ∧ Q h18))) ∧ (¬ ((zI (zsI h11 132 24 v13) 132 21) - (zI (zsI h11 132 24 v13) 132 22)) ≤ (6) → (¬ (zI (zsI (zsI h11 132 24 v13) 132 23 (5)) 132 23) = (1) → Q (zsI (zsI h11 132 24 v13) 132 23 (5))) ∧ ((zI (zsI (zsI h11 132 24 v13) 132 23 (5)) 132 23) = (1) → ∃ Q21 : zMem → Prop, zConV G mX10_name (d + 10) [.ref 132] (zsI (zsI h11 132 24 v13) 132 23 (5)) Q21 ∧ (∀ h22, Q21 h22 → zSh2 h22 ∧ Q h22)))) ∧ (¬ (zI (zsI h11 132 24 v13) 132 24) = (-1) → (¬ (zI (zsI (zsI h11 132 24 v13) 132 23 (0)) 132 23) = (1) → Q (zsI (zsI h11 132 24 v13) 132 23 (0))) ∧ ((zI (zsI (zsI h11 132 24 v13) 132 23 (0)) 132 23) = (1) → ∃ Q25 : zMem → Prop, zConV G mX10_name (d + 10) [.ref 132] (zsI (zsI h11 132 24 v13) 132 23 (0)) Q25 ∧ (∀ h26, Q25 h26 → zSh2 h26 ∧ Q h26)))) := by
    intro h1 sn nl w1 e22 e21
    have S1 := hS.W w1.1
    have T1 := hT.of (w1.2.1 133 (by decide))
    have eL : s ≤ rnE isL B n s := rnE_ge _ s rfl
    have eN : rnE isL B n s ≤ n := rnE_le _ s rfl hsn.2
    have ee : tke B n p = rnE isL B n s := by unfold tke; rw [← hs, if_pos sn, if_pos nl]
    have et : tkt B n p = (if rnE isL B n s - s ≤ 6 then wdF wdT (lvS B n s) 22 0 35 else 38) := by unfold tkt tkl; rw [← hs, if_pos sn, if_pos nl]
    have el : tkl B n p = lvS B n s := by unfold tkl; rw [← hs]
    refine ⟨_, X10_word_ok hG S1 T1 e21 e22 sn nl, ?_⟩
    rintro v h11 ⟨rfl, rfl⟩
    obtain ⟨x, hx⟩ : ∃ x, x = wdV B n s := ⟨_, rfl⟩
    rw [← hx]
    obtain ⟨m, hm⟩ : ∃ m, m = rnE isL B n s - s := ⟨_, rfl⟩
    simp only [zI_sI, zup_s, zup_i _ _ _ (show 21 ≠ 24 by decide), zup_i _ _ _ (show 22 ≠ 24 by decide), e21, e22]
    have esub : nI (rnE isL B n s) - nI s = nI m := by
      have : nI (rnE isL B n s) = nI (m + s) := by rw [hm, show rnE isL B n s - s + s = rnE isL B n s by omega]
      rw [this, ← nI_add, Int32.add_sub_cancel]
    rw [esub]
    have m22 : ∀ so va, zI (zsI (zsI h11 132 24 va) 132 23 so) 132 22 = nI s := fun so va => by
      simp only [zI_sI, zup_i _ _ _ (show 22 ≠ 23 by decide), zup_i _ _ _ (show 22 ≠ 24 by decide)]; exact e22
    have m21 : ∀ so va, zI (zsI (zsI h11 132 24 va) 132 23 so) 132 21 = nI (rnE isL B n s) := fun so va => by
      simp only [zI_sI, zup_i _ _ _ (show 21 ≠ 23 by decide), zup_i _ _ _ (show 21 ≠ 24 by decide)]; exact e21
    have mw : ∀ so va, mtR h (zsI (zsI h11 132 24 va) 132 23 so) := fun so va => (w1.sI (by omega)).sI (by omega)
    unfold wdV at hx
    rw [← hm] at hx et
    refine ⟨S1, fun c1 => ⟨fun c6 => ⟨fun z => absurd trivial z, fun _ => ?_⟩, fun c6 => ⟨fun _ => ?_, fun z => absurd z (by decide)⟩⟩, fun c1 => ⟨fun _ => ?_, fun z => absurd z (by decide)⟩⟩
    · have h6 : m ≤ 6 := Nat.le_of_not_lt (fun z => absurd c6 (nI_ge (a := 6) z (by omega)))
      rw [if_pos h6] at hx et
      have e35 : wdF wdT (lvS B n s) 22 0 35 = 35 := by
        rcases wdF_or (lvS B n s) 22 0 35 rfl with e | ⟨j, hj, e⟩
        · exact e
        · exfalso
          rw [e, if_neg (show ¬ nI j = 35 from nI_ne (b := 35) (by omega) (by decide) (by omega))] at hx
          exact nI_nm1 (by omega) (hx.symm.trans c1)
      refine ⟨_, X10_name_ok (hS.W (mw 1 x).1) (hT.of ((mw 1 x).2.1 133 (by decide))) (m21 1 x) (m22 1 x) hsn.2 (by omega), ?_⟩
      rintro h18 rfl
      refine ⟨hS.W ((mw 1 x).1.sI _ _ _), mk _ ((mw 1 x).sI (by omega)) ?_ ?_ (Or.inr (Or.inl ⟨?_, ?_, ?_⟩))⟩
      · rw [zI_sI, zup_i _ _ _ (by decide)]; exact m22 1 x
      · rw [zI_sI, zup_i _ _ _ (by decide), ee]; exact m21 1 x
      · rw [et, e35]
      · simp only [zI_sI, zup_i _ _ _ (show 23 ≠ 24 by decide), zup_s]
      · rw [zI_sI, zup_s, el]
    · have h6 : ¬ m ≤ 6 := fun z => c6 (nI_le (b := 6) z (by decide))
      rw [if_neg h6] at et
      refine mk _ (mw 5 x) (m22 5 x) (by rw [ee]; exact m21 5 x) (Or.inr (Or.inr (Or.inr (Or.inr (Or.inr ⟨et, ?_⟩)))))
      rw [zI_sI, zup_s]
    · have h6 : m ≤ 6 := Classical.byContradiction (fun z => by rw [if_neg z] at hx; exact c1 hx)
      rw [if_pos h6] at hx et
      have n35 : ¬ wdF wdT (lvS B n s) 22 0 35 = 35 := fun z => by rw [if_pos z] at hx; exact c1 hx
      rw [if_neg n35] at hx
      rcases wdF_or (lvS B n s) 22 0 35 rfl with e | ⟨j, hj, e⟩
      · exact absurd e n35
      · refine mk _ (mw 0 x) (m22 0 x) (by rw [ee]; exact m21 0 x) (Or.inl ⟨j, hj, by rw [et, e], ?_, ?_⟩)
        · rw [zI_sI, zup_s]
        · simp only [zI_sI, zup_i _ _ _ (show 24 ≠ 23 by decide), zup_s]; rw [hx, e]
  have L64 : ∀ k q (x1 : Int32) (h1 : zMem), k = n - q → s ≤ q → q ≤ n → s < n → isL (B s) → mtR h h1 → zI h1 132 22 = nI s → zI h1 132 21 = nI q → rnE isL B n q = rnE isL B n s → zg G mX10_token (d + 11) 64 [.ref 132, .int x1] [] h1 (zPV Q) := by
    intro k
    induction k with
    | zero =>
      intro q x1 h1 hk q1 q2 sn nl w1 e22 e21 er
      have S1 := hS.W w1.1
      have T1 := hT.of (w1.2.1 133 (by decide))
      have e20 := (w1.2.2 20 (Or.inl (by decide))).trans h20
      refine sg_X10_token_64 S1 ⟨_, X10_here_ok S1 T1 e20 e21 q2, ?_⟩
      rintro v h2 ⟨rfl, v1, v2⟩
      have : v = -1 := v2 (by omega)
      refine ⟨S1, _, X10_isSmall_ok S1 v, ?_⟩
      rintro u h3 ⟨hu, rfl⟩
      rw [this, if_neg (by decide)] at hu
      rw [rnE_n (p := q) (by omega)] at er
      exact ⟨S1, fun _ => wend _ sn nl w1 e22 (by rw [← er]; exact e21), fun z => absurd hu z⟩
    | succ k ih =>
      intro q x1 h1 hk q1 q2 sn nl w1 e22 e21 er
      have S1 := hS.W w1.1
      have T1 := hT.of (w1.2.1 133 (by decide))
      have e20 := (w1.2.2 20 (Or.inl (by decide))).trans h20
      refine sg_X10_token_64 S1 ⟨_, X10_here_ok S1 T1 e20 e21 q2, ?_⟩
      rintro v h2 ⟨rfl, v1, v2⟩
      have ev : v = B q &&& 255 := v1 (by omega)
      refine ⟨S1, _, X10_isSmall_ok S1 v, ?_⟩
      rintro u h3 ⟨hu, rfl⟩
      by_cases cd : isL (B q)
      · rw [ev, if_pos ((hT.by q).L.mpr cd)] at hu
        refine ⟨S1, fun z => absurd (hu.symm.trans z) (by decide), fun _ => ?_⟩
        rw [e21, nI_1]
        refine ih (q + 1) x1 _ (by omega) (by omega) (by omega) sn nl (w1.sI (by omega)) ?_ ?_ ?_
        · rw [zI_sI, zup_i _ _ _ (by decide)]; exact e22
        · rw [zI_sI, zup_s]
        · rw [← rnE_y (by omega) cd]; exact er
      · rw [ev, if_neg (fun z => cd ((hT.by q).L.mp z))] at hu
        rw [rnE_n (p := q) (fun z => cd z.2)] at er
        exact ⟨S1, fun _ => wend _ sn nl w1 e22 (by rw [← er]; exact e21), fun z => absurd hu z⟩
  have L0 : ∀ k q (h1 : zMem), k = n - q → p ≤ q → q ≤ n → mtR h h1 → zI h1 132 21 = nI q → rnE isW B n q = s → zg G mX10_token (d + 11) 0 [.ref 132, zU] [] h1 (zPV Q) := by
    intro k
    induction k with
    | zero =>
      intro q h1 hk q1 q2 w1 e21 er
      have S1 := hS.W w1.1
      have T1 := hT.of (w1.2.1 133 (by decide))
      have e20 := (w1.2.2 20 (Or.inl (by decide))).trans h20
      refine sg_X10_token_0 S1 ⟨_, X10_here_ok S1 T1 e20 e21 q2, ?_⟩
      rintro v h2 ⟨rfl, v1, v2⟩
      have ev : v = -1 := v2 (by omega)
      refine ⟨S1, fun z => absurd (ev.symm.trans z) (by decide), fun _ => ⟨_, X10_here_ok S1 T1 e20 e21 q2, ?_⟩⟩
      rintro v' h3 ⟨rfl, v1', v2'⟩
      have ev' : v' = -1 := v2' (by omega)
      refine ⟨S1, fun _ => ?_, fun z => absurd (ev'.symm.trans z) (by decide)⟩
      rw [rnE_n (p := q) (by omega)] at er
      have w2 : mtR h (zsI h3 132 22 (zI h3 132 21)) := w1.sI (by omega)
      have S2 := hS.W w2.1
      refine ⟨_, X10_here_ok S2 (hT.of (w2.2.1 133 (by decide))) ((w2.2.2 20 (Or.inl (by decide))).trans h20) (by rw [zI_sI, zup_i _ _ _ (by decide)]; exact e21) q2, ?_⟩
      rintro u h4 ⟨rfl, u1, u2⟩
      have eu : u = -1 := u2 (by omega)
      refine ⟨S2, fun z => absurd eu z, fun _ => ?_⟩
      refine mk _ (w2.sI (by omega)) ?_ ?_ (Or.inr (Or.inr (Or.inr (Or.inr (Or.inl ⟨?_, ?_⟩)))))
      · simp only [zI_sI, zup_i _ _ _ (show 22 ≠ 23 by decide), zup_s]; rw [e21, er]
      · simp only [zI_sI, zup_i _ _ _ (show 21 ≠ 23 by decide), zup_i _ _ _ (show 21 ≠ 22 by decide)]; rw [e21]; unfold tke; rw [← hs, if_neg (by omega), er]
      · unfold tkt; rw [← hs, if_neg (by omega)]
      · rw [zI_sI, zup_s]
    | succ k ih =>
      intro q h1 hk q1 q2 w1 e21 er
      have S1 := hS.W w1.1
      have T1 := hT.of (w1.2.1 133 (by decide))
      have e20 := (w1.2.2 20 (Or.inl (by decide))).trans h20
      have nx : isW (B q) → zg G mX10_token (d + 11) 0 [.ref 132, zU] [] (zsI h1 132 21 ((zI h1 132 21) + (1))) (zPV Q) := fun c => by
        rw [e21, nI_1]
        exact ih (q + 1) _ (by omega) (by omega) (by omega) (w1.sI (by omega)) (by rw [zI_sI, zup_s]) (by rw [← rnE_y (by omega) c]; exact er)
      refine sg_X10_token_0 S1 ⟨_, X10_here_ok S1 T1 e20 e21 q2, ?_⟩
      rintro v h2 ⟨rfl, v1, v2⟩
      have ev : v = B q &&& 255 := v1 (by omega)
      refine ⟨S1, fun z => nx (Or.inl (((hT.by q).eq (k := 10) (by decide)).mp (ev.symm.trans z))), fun c10 => ⟨_, X10_here_ok S1 T1 e20 e21 q2, ?_⟩⟩
      rintro v' h3 ⟨rfl, v1', v2'⟩
      have ev' : v' = B q &&& 255 := v1' (by omega)
      refine ⟨S1, fun c32 => ?_, fun z => nx (Or.inr (((hT.by q).eq (k := 32) (by decide)).mp (ev'.symm.trans z)))⟩
      have nw : ¬ isW (B q) := by
        rintro (z | z)
        · exact c10 (ev.trans (((hT.by q).eq (k := 10) (by decide)).mpr z))
        · exact c32 (ev'.trans (((hT.by q).eq (k := 32) (by decide)).mpr z))
      rw [rnE_n (p := q) (fun z => nw z.2)] at er
      subst er
      have w2 : mtR h (zsI h3 132 22 (zI h3 132 21)) := w1.sI (by omega)
      have S2 := hS.W w2.1
      have T2 := hT.of (w2.2.1 133 (by decide))
      have g20 := (w2.2.2 20 (Or.inl (by decide))).trans h20
      have g21 : zI (zsI h3 132 22 (zI h3 132 21)) 132 21 = nI q := by rw [zI_sI, zup_i _ _ _ (by decide)]; exact e21
      have g22 : zI (zsI h3 132 22 (zI h3 132 21)) 132 22 = nI q := by rw [zI_sI, zup_s]; exact e21
      refine ⟨_, X10_here_ok S2 T2 g20 g21 q2, ?_⟩
      rintro u h4 ⟨rfl, u1, u2⟩
      have eu : u = B q &&& 255 := u1 (by omega)
      refine ⟨S2, fun _ => ⟨_, X10_isSmall_ok S2 u, ?_⟩, fun z => absurd (eu.symm.trans z) (hT.by q).n1⟩
      rintro a h5 ⟨ha, rfl⟩
      refine ⟨S2, fun a0 => ?_, fun a0 => ?_⟩
      · have nl : ¬ isL (B q) := fun z => by rw [eu, if_pos ((hT.by q).L.mpr z)] at ha; exact absurd (ha.symm.trans a0) (by decide)
        refine ⟨_, X10_isDigit_ok S2 u, ?_⟩
        rintro b h6 ⟨hb, rfl⟩
        refine ⟨S2, fun b0 => ?_, fun b0 => ?_⟩
        · have nd : ¬ isD (B q) := fun z => by rw [eu, if_pos ((hT.by q).D.mpr z)] at hb; exact absurd (hb.symm.trans b0) (by decide)
          rw [eu]
          refine ⟨_, X10_sign_ok (d := d + 9) S2 T2 g20 g21 (by omega), ?_⟩
          rintro h7 ⟨m1, m2, m3, m4⟩
          have et : tkt B n p = sgnT B n q := by unfold tkt; rw [← hs, if_pos (by omega), if_neg nl, if_neg nd]
          have ee : tke B n p = sgnE B n q := by unfold tke; rw [← hs, if_pos (by omega), if_neg nl, if_neg nd]
          refine ⟨S2.W m1.1, mk _ (w2.trans m1) (m2.trans g22) (by rw [ee]; exact m3) (by rw [et]; exact m4 _ _)⟩
        · have nd : isD (B q) := Classical.byContradiction (fun z => by rw [eu, if_neg (fun y => z ((hT.by q).D.mp y))] at hb; exact b0 hb)
          refine L162 (n - q) q _ 0 0 _ rfl (Nat.le_refl _) q2 (by omega) nl nd ((w2.sI (by omega)).sI (by omega)) ?_ ?_ ?_ ?_ (Or.inl ⟨rfl, 0, by decide, rfl⟩) rfl rfl
          · simp only [zI_sI, zup_i _ _ _ (show 22 ≠ 24 by decide), zup_i _ _ _ (show 22 ≠ 23 by decide), zup_s]; exact e21
          · simp only [zI_sI, zup_i _ _ _ (show 23 ≠ 24 by decide), zup_s]
          · simp only [zI_sI, zup_s]
          · simp only [zI_sI, zup_i _ _ _ (show 21 ≠ 24 by decide), zup_i _ _ _ (show 21 ≠ 23 by decide), zup_i _ _ _ (show 21 ≠ 22 by decide)]; exact e21
      · have nl : isL (B q) := Classical.byContradiction (fun z => by rw [eu, if_neg (fun y => z ((hT.by q).L.mp y))] at ha; exact a0 ha)
        exact L64 (n - q) q _ _ rfl (Nat.le_refl _) q2 (by omega) nl w2 g22 g21 rfl
  exact cn_X10_token (L0 (n - p) p h rfl (Nat.le_refl _) hp (mtR.rf h) h21 hs.symm)
end MS
