/-! a whole morning -/
def airG (I : Nat → Nat → Int32) (b t p s : Nat) (mx : Int32) : Int32 := if airLawV I b t p s mx = cERR then ((mx * I (b + 3) p) / 100 + (I (b + 4 + 1 + p) s * I t 10) / 100) + I (b + 2) s else withinF (airLawV I b t p s mx) 0 9999
theorem airF_eq (I : Nat → Nat → Int32) (b t p s : Nat) : airF I b t p s = airG I b t p s (I (b + 15) s) := rfl
theorem airG_congr {I I' : Nat → Nat → Int32} {b t p s : Nat} {mx : Int32} (h0 : I' b = I b) (h2 : I' (b + 2) = I (b + 2)) (h3 : I' (b + 3) = I (b + 3)) (ha : I' (b + 4 + 1 + p) s = I (b + 4 + 1 + p) s) (hT : ∀ k, k < 29 → I' (t + k) = I (t + k)) : airG I' b t p s mx = airG I b t p s mx := by
  have ht0 : I' t = I t := hT 0 (by decide)
  have e : airLawV I' b t p s mx = airLawV I b t p s mx := by
    unfold airLawV
    rw [h3, ha, h2, h0]
    exact lawV_congr (fun k hk => by rw [Nat.add_assoc]; exact hT (21 + k) (by omega))
  unfold airG
  rw [e, h3, ha, ht0, h2]
theorem keenF_congr {I I' : Nat → Nat → Int32} {b t m p : Nat} (h0 : I' b = I b) (h3 : I' (b + 3) = I (b + 3)) (hT : ∀ k, k < 29 → I' (t + k) = I (t + k)) : keenF I' b t m p = keenF I b t m p := by
  have e : keenLawV I' b t m p = keenLawV I b t m p := by
    unfold keenLawV
    rw [h3, h0, hT 20 (by decide)]
    exact lawV_congr (fun k hk => by rw [Nat.add_assoc]; exact hT (21 + k) (by omega))
  unfold keenF
  rw [e, hT 20 (by decide)]
theorem cntF_congr {f g : Nat → Int32} {ab : Int32} {d : Nat} : ∀ n, (∀ m, m < n → f m = g m) → cntF f ab d n = cntF g ab d n
  | 0, _ => rfl
  | n + 1, h => by
    unfold cntF
    rw [cntF_congr n (fun m hm => h m (by omega)), h n (by omega)]
theorem mostF_congr {f g : Nat → Int32} {ab : Int32} {nm nd today : Nat} (h : ∀ m, m < nm → f m = g m) : mostF f ab nm nd today = mostF g ab nm nd today := by
  unfold mostF
  congr 1
  funext d
  exact cntF_congr nm h
theorem thkF_congr {ok ok' : Nat → Bool} {nd j : Nat} (hnd : 0 < nd) (h : ∀ day, day < nd → ok day = ok' day) : ∀ n st, thkF ok nd j n st = thkF ok' nd j n st
  | 0, _ => rfl
  | n + 1, st => by
    unfold thkF
    rw [h _ (Nat.mod_lt _ hnd), thkF_congr hnd h n (st + 1)]
def roomN (I : Nat → Nat → Int32) (b m : Nat) : Nat := (I (b + 11) m).toNatClampNeg
def keenM (I : Nat → Nat → Int32) (b t m : Nat) : Int32 := keenF I b t m (roomN I b m)
def smM (I : Nat → Nat → Int32) (b t ns nd dt m : Nat) : Int32 := smeltF ns (fun s => airG I b t (roomN I b m) s (takeF I b t nd dt s)) 100 (keenM I b t m) (I (b + 12) m)
def thM (I : Nat → Nat → Int32) (b t ns nd dt m : Nat) : Int32 := if nd = 0 then I (b + 14) m else nI (thkF (fun day => decide (markF I b t ns m (roomN I b m) day (keenM I b t m) = smM I b t ns nd dt m)) nd (I (b + 14) m).toNatClampNeg nd 1)
/-- what is known of a state: rooms, thoughts, the date -/
def stOK (I : Nat → Nat → Int32) (b nd nr nm dt : Nat) : Prop := (∀ m, m < nm → ∃ r, r < nr ∧ I (b + 11) m = nI r) ∧ (∀ m, m < nm → 0 < nd → ∃ j, j < nd ∧ I (b + 14) m = nI j) ∧ I b 10 = nI dt
def mornR (I I' : Nat → Nat → Int32) (b t ns nd nr nm dt : Nat) : Prop :=
  (∀ a, (a < b ∨ b + 17 ≤ a) → I' a = I a) ∧ I' (b + 3) = I (b + 3) ∧ I' (b + 11) = I (b + 11) ∧ I' (b + 12) = I (b + 12) ∧ (∀ s, s < ns → I' (b + 1) s = I (b + 1) s - takeF I b t nd dt s) ∧ (∀ s, s < 6 → I' (b + 2) s = 0) ∧
  (∀ p s, p < nr → s < ns → I' (b + 4 + 1 + p) s = airG I b t p s (takeF I b t nd dt s)) ∧ (∀ m, m < nm → I' (b + 13) m = smM I b t ns nd dt m ∧ I' (b + 14) m = thM I b t ns nd dt m) ∧ I' b 10 = I b 10 + 1 ∧ I' b 14 = I b 14 ∧ (nd = 0 → I' b 11 = I b 11 ∧ I' b 12 = I b 12 ∧ I' b 13 = I b 13) ∧
  (0 < nd → I' b 11 = nI (mostF (thM I b t ns nd dt) (I b 14) nm nd (dt % nd)) ∧ I' b 12 = I b 12 + (if mostF (thM I b t ns nd dt) (I b 14) nm nd (dt % nd) = dt % nd then 1 else 0) ∧ I' b 13 = I b 13 + (if I (t + 8) (mostF (thM I b t ns nd dt) (I b 14) nm nd (dt % nd)) = I (t + 8) (dt % nd) then 0 else 1))
set_option maxHeartbeats 8000000 in
theorem morn_winds {G : zG} {d t b td : Nat} {h : zMem} (hS : zSh1 h t) (hb : isSt b) (ht : isTd td) {ns nd nr nm dt : Nat} (dj : td + 29 ≤ b ∨ b + 17 ≤ td) (h6r : nr ≤ 6) (Q : zMem → Prop) (hQ : Q = (fun h' => zW h h' ∧ mornR (zI h) (zI h') b td ns nd nr nm dt)) : ∀ n k (h1 : zMem), n + k = 6 → zW h h1 → (∀ a, (a < b ∨ b + 17 ≤ a) → zI h1 a = zI h a) → zI h1 (b + 3) = zI h (b + 3) → zI h1 (b + 11) = zI h (b + 11) → zI h1 (b + 12) = zI h (b + 12) → (∀ s, s < ns → zI h1 (b + 1) s = zI h (b + 1) s - takeF (zI h) b td nd dt s) → (∀ s, s < k → zI h1 (b + 2) s = 0) →
      (∀ p s, p < nr → s < ns → zI h1 (b + 4 + 1 + p) s = airG (zI h) b td p s (takeF (zI h) b td nd dt s)) → (∀ m, m < nm → zI h1 (b + 13) m = smM (zI h) b td ns nd dt m ∧ zI h1 (b + 14) m = thM (zI h) b td ns nd dt m) → zI h1 b 10 = zI h b 10 → zI h1 b 14 = zI h b 14 → (nd = 0 → zI h1 b 11 = zI h b 11 ∧ zI h1 b 12 = zI h b 12 ∧ zI h1 b 13 = zI h b 13) →
      (0 < nd → zI h1 b 11 = nI (mostF (thM (zI h) b td ns nd dt) (zI h b 14) nm nd (dt % nd)) ∧ zI h1 b 12 = zI h b 12 + (if mostF (thM (zI h) b td ns nd dt) (zI h b 14) nm nd (dt % nd) = dt % nd then 1 else 0) ∧ zI h1 b 13 = zI h b 13 + (if zI h (td + 8) (mostF (thM (zI h) b td ns nd dt) (zI h b 14) nm nd (dt % nd)) = zI h (td + 8) (dt % nd) then 0 else 1)) →
      zg G mX5_goThroughMorning (d + 4) 53 [.ref b, .ref td, .int (nI k)] [] h1 (zPV Q) := by
  intro n
  induction n with
  | zero =>
    intro k h1 hk hW f1 f2 f3 f4 f5 f6 f7 f8 f9 f10 f11 f12
    have : k = 6 := by omega
    subst this
    refine sg_X5_goThroughMorning_53 (hS.W hW) hb ht ⟨fun _ => ?_, fun c => absurd (show nI 6 ≤ nI 6 from nI_le (Nat.le_refl _) (by decide)) c⟩
    rw [hQ]
    refine ⟨hW.sI _ _ _, fun a ha => ?_, ?_, ?_, ?_, fun s hs => ?_, fun s hs => ?_, fun p s hp hs => ?_, fun m hm => ?_, ?_, ?_, fun q => ?_, fun q => ?_⟩
    · rw [zI_sI, zup_ne _ _ (by omega)]; exact f1 a ha
    · rw [zI_sI, zup_ne _ _ (by omega)]; exact f2
    · rw [zI_sI, zup_ne _ _ (by omega)]; exact f3
    · rw [zI_sI, zup_ne _ _ (by omega)]; exact f4
    · rw [zI_sI, zup_ne _ _ (by omega)]; exact f5 s hs
    · rw [zI_sI, zup_ne _ _ (by omega)]; exact f6 s hs
    · rw [zI_sI, zup_ne _ _ (by omega)]; exact f7 p s hp hs
    · rw [zI_sI, zup_ne _ _ (show b + 13 ≠ b by omega), zup_ne _ _ (show b + 14 ≠ b by omega)]; exact f8 m hm
    · rw [zI_sI, zup_s, f9]
    · rw [zI_sI, zup_i _ _ _ (by decide), f10]
    · rw [zI_sI, zup_i _ _ _ (by decide), zup_i _ _ _ (by decide), zup_i _ _ _ (by decide)]; exact f11 q
    · rw [zI_sI, zup_i _ _ _ (by decide), zup_i _ _ _ (by decide), zup_i _ _ _ (by decide)]; exact f12 q
  | succ n ih =>
    intro k h1 hk hW f1 f2 f3 f4 f5 f6 f7 f8 f9 f10 f11 f12
    refine sg_X5_goThroughMorning_53 (hS.W hW) hb ht ?_
    rw [zcla (show k < 2 ^ 31 by omega), nI_1]
    refine ⟨fun c => absurd (show nI 6 ≤ nI k from c) (nI_ge (by omega) (by decide)), fun _ => ⟨zin_n (by omega) (by decide), ih (k + 1) _ (by omega) (hW.sI _ _ _) (fun a ha => ?_) ?_ ?_ ?_ (fun s hs => ?_) (fun s hs => ?_) (fun p s hp hs => ?_) (fun m hm => ?_) ?_ ?_ (fun q => ?_) (fun q => ?_)⟩⟩
    · rw [zI_sI, zup_ne _ _ (by omega)]; exact f1 a ha
    · rw [zI_sI, zup_ne _ _ (by omega)]; exact f2
    · rw [zI_sI, zup_ne _ _ (by omega)]; exact f3
    · rw [zI_sI, zup_ne _ _ (by omega)]; exact f4
    · rw [zI_sI, zup_ne _ _ (by omega)]; exact f5 s hs
    · by_cases e : s = k
      · subst e; rw [zI_sI, zup_s]
      · rw [zI_sI, zup_i _ _ _ e]; exact f6 s (by omega)
    · rw [zI_sI, zup_ne _ _ (by omega)]; exact f7 p s hp hs
    · rw [zI_sI, zup_ne _ _ (show b + 13 ≠ b + 2 by omega), zup_ne _ _ (show b + 14 ≠ b + 2 by omega)]; exact f8 m hm
    · rw [zI_sI, zup_ne _ _ (by omega)]; exact f9
    · rw [zI_sI, zup_ne _ _ (by omega)]; exact f10
    · rw [zI_sI, zup_ne _ _ (by omega)]; exact f11 q
    · rw [zI_sI, zup_ne _ _ (by omega)]; exact f12 q
set_option maxHeartbeats 8000000 in
set_option maxRecDepth 100000 in
theorem X5_goThroughMorning_ok {G : zG} {d t b td : Nat} {h : zMem} (hS : zSh1 h t) (hb : isSt b) (ht : isTd td) {ns nd nr nm dt : Nat} (hT : tdOK (zI h) td ns nd nr nm) (hO : stOK (zI h) b nd nr nm dt) (hd : dt < 2 ^ 31) :
    zConV G mX5_goThroughMorning (d + 4) [.ref b, .ref td] h (fun h' => zW h h' ∧ mornR (zI h) (zI h') b td ns nd nr nm dt) := by
  have dj := st_td hb ht
  obtain ⟨hns, hnd, hnr, hnm, h6, h8, h6r, h5, hlw⟩ := hT
  obtain ⟨hrm, hth, hdt⟩ := hO
  refine cn_X5_goThroughMorning (sg_X5_goThroughMorning_0 hS hb ht ⟨_, X5_takeOut_ok hS hb ht hns h6 hnd h8 hdt hd, ?_⟩)
  rintro h2 ⟨hW2, hA2, hT2⟩
  have td2 : ∀ k, k < 29 → zI h2 (td + k) = zI h (td + k) := fun k hk => hA2 (td + k) (by omega) (by omega)
  refine ⟨hS.W hW2, _, X5_drift_ok (hS.W hW2) hb ht (by rw [td2 1 (by decide)]; exact hns) h6 (by rw [td2 1 (by decide)]; exact hnr) h6r (lwOK_congr (fun k hk => by rw [Nat.add_assoc]; exact td2 (21 + k) (by omega)) hlw), ?_⟩
  rintro h5' ⟨hW5', hA5, hR5⟩
  have hW5 : zW h h5' := hW2.trans hW5'
  have td5 : ∀ k, k < 29 → zI h5' (td + k) = zI h (td + k) := fun k hk => by rw [hA5 (td + k) (by omega)]; exact td2 k hk
  have air5 : ∀ p s, p < nr → s < ns → zI h5' (b + 4 + 1 + p) s = airG (zI h) b td p s (takeF (zI h) b td nd dt s) := fun p s hp hs => by
    rw [hR5 p s hp hs, airF_eq, (hT2 s hs).1]
    exact airG_congr (hA2 b (by omega) (by omega)) (hA2 (b + 2) (by omega) (by omega)) (hA2 (b + 3) (by omega) (by omega)) (by rw [hA2 _ (by omega) (by omega)]) td2
  have k5 : ∀ a, a = b ∨ a = b + 2 ∨ a = b + 3 ∨ a = b + 11 ∨ a = b + 12 ∨ a = b + 13 ∨ a = b + 14 → zI h5' a = zI h a := fun a ha => by rw [hA5 a (by omega)]; exact hA2 a (by omega) (by omega)
  refine ⟨(hS.W hW2).W hW5', ?_⟩
  obtain ⟨Q, hQ⟩ : ∃ Q : zMem → Prop, Q = (fun h' => zW h h' ∧ mornR (zI h) (zI h') b td ns nd nr nm dt) := ⟨_, rfl⟩
  rw [← hQ]
  -- the winds, then the date
  have lw := morn_winds (G := G) (d := d) hS hb ht dj h6r Q hQ
  -- the monks
  have lm : ∀ n k (h1 : zMem), n + k = nm → zW h h1 → (∀ a, a ≠ b + 13 → a ≠ b + 14 → zI h1 a = zI h5' a) → (∀ m, m < k → zI h1 (b + 13) m = smM (zI h) b td ns nd dt m ∧ zI h1 (b + 14) m = thM (zI h) b td ns nd dt m) → (∀ m, k ≤ m → zI h1 (b + 14) m = zI h (b + 14) m) →
      zg G mX5_goThroughMorning (d + 4) 12 [.ref b, .ref td, .int (nI k)] [] h1 (zPV Q) := by
    intro n
    induction n with
    | zero =>
      intro k h1 hk hW hA hB hC
      have : k = nm := by omega
      subst this
      have td1 : ∀ j, j < 29 → zI h1 (td + j) = zI h (td + j) := fun j hj => by rw [hA (td + j) (by omega) (by omega)]; exact td5 j hj
      refine sg_X5_goThroughMorning_12 (hS.W hW) hb ht ?_
      rw [td1 1 (by decide), hnm]
      have thOK : ∀ m, m < k → 0 < nd → ∃ j, j < nd ∧ zI h1 (b + 14) m = nI j := fun m hm hpos => by
        rw [(hB m hm).2]
        unfold thM
        rw [if_neg (by omega)]
        exact ⟨_, thkF_lt hpos _ _, rfl⟩
      have b1 : zI h1 b = zI h b := by rw [hA b (by omega) (by omega)]; exact k5 b (Or.inl rfl)
      refine ⟨fun _ => ⟨_, X5_vote_ok (hS.W hW) hb ht (by rw [td1 1 (by decide)]; exact hnd) h8 (by rw [td1 1 (by decide)]; exact hnm) h5 (by rw [b1]; exact hdt) hd thOK, ?_⟩, fun c => absurd (nI_le (Nat.le_refl _) (by omega)) c⟩
      rintro h3 ⟨hW3, v1, v2, v3, v4⟩
      have em : ∀ today, mostF (zI h1 (b + 14)) (zI h1 b 14) k nd today = mostF (thM (zI h) b td ns nd dt) (zI h b 14) k nd today := fun today => by
        rw [b1]; exact mostF_congr (fun m hm => (hB m hm).2)
      refine ⟨(hS.W hW).W hW3, lw 6 0 h3 (by omega) (hW.trans hW3) (fun a ha => ?_) ?_ ?_ ?_ (fun s hs => ?_) (fun s hs => absurd hs (by omega)) (fun p s hp hs => ?_) (fun m hm => ?_) ?_ ?_ (fun q => ?_) (fun q => ?_)⟩
      · rw [v1 a (by omega) (by omega), hA a (by omega) (by omega), hA5 a (by omega)]
        exact hA2 a (by omega) (by omega)
      · rw [v1 _ (by omega) (by omega), hA _ (by omega) (by omega)]; exact k5 _ (by omega)
      · rw [v1 _ (by omega) (by omega), hA _ (by omega) (by omega)]; exact k5 _ (by omega)
      · rw [v1 _ (by omega) (by omega), hA _ (by omega) (by omega)]; exact k5 _ (by omega)
      · rw [v1 _ (by omega) (by omega), hA _ (by omega) (by omega), hA5 _ (by omega)]; exact (hT2 s hs).2
      · rw [v1 _ (by omega) (by omega), hA _ (by omega) (by omega)]; exact air5 p s hp hs
      · rw [v1 (b + 13) (by omega) (by omega), v1 (b + 14) (by omega) (by omega)]; exact hB m hm
      · rw [v2 10 (by decide) (by decide) (by decide), b1]
      · rw [v2 14 (by decide) (by decide) (by decide), b1]
      · rw [v3 q, b1]; exact ⟨rfl, rfl, rfl⟩
      · have := v4 q
        rw [em, td1 8 (by decide)] at this
        rw [b1] at this
        exact this
    | succ n ih =>
      intro k h1 hk hW hA hB hC
      have td1 : ∀ j, j < 29 → zI h1 (td + j) = zI h (td + j) := fun j hj => by rw [hA (td + j) (by omega) (by omega)]; exact td5 j hj
      obtain ⟨r, hr, er⟩ := hrm k (by omega)
      have b1 : zI h1 b = zI h b := by rw [hA b (by omega) (by omega)]; exact k5 b (Or.inl rfl)
      have b3 : zI h1 (b + 3) = zI h (b + 3) := by rw [hA _ (by omega) (by omega)]; exact k5 _ (by omega)
      have b11 : zI h1 (b + 11) = zI h (b + 11) := by rw [hA _ (by omega) (by omega)]; exact k5 _ (by omega)
      have b12 : zI h1 (b + 12) = zI h (b + 12) := by rw [hA _ (by omega) (by omega)]; exact k5 _ (by omega)
      have eroom : roomN (zI h) b k = r := by unfold roomN; rw [er, zcla (by omega)]
      refine sg_X5_goThroughMorning_12 (hS.W hW) hb ht ?_
      rw [td1 1 (by decide), hnm, b11, zcla (show k < 2 ^ 31 by omega), er, nI_1]
      refine ⟨fun c => absurd c (nI_ge (by omega) (by omega)), fun _ => ⟨zin_n (by omega) (by decide), _, X5_keenOf_ok (hS.W hW) hb ht (by omega) (by omega) (lwOK_congr (fun j hj => by rw [Nat.add_assoc]; exact td1 (21 + j) (by omega)) hlw), ?_⟩⟩
      rintro v h7 ⟨rfl, q7⟩
      have ek : keenF (zI h1) b td k r = keenM (zI h) b td k := by
        unfold keenM; rw [eroom]; exact keenF_congr b1 b3 td1
      rw [ek]
      have hW7 : zW h h7 := hW.trans q7.w
      have i7 : zI h7 = zI h1 := q7.2.2
      refine ⟨hS.W hW7, _, X5_smellAndThink_ok (j := (zI h (b + 14) k).toNatClampNeg) (hS.W hW7) hb ht (by rw [i7, td1 1 (by decide)]; exact hns) h6 (by rw [i7, td1 1 (by decide)]; exact hnd) h8 (by omega) (by rw [i7, b11]; exact er) (by omega) ?_ _, ?_⟩
      · rcases Nat.eq_zero_or_pos nd with q | q
        · exact Or.inl q
        · obtain ⟨j, hj, ej⟩ := hth k (by omega) q
          refine Or.inr ⟨?_, ?_⟩
          · rw [i7, hC k (Nat.le_refl _), ej, zcla (by omega)]
          · rw [ej, zcla (by omega)]; exact hj
      · rintro h9 ⟨hW9, s1, s2, s3, s4⟩
        have esm : smellV (zI h7) b ns k r (keenM (zI h) b td k) = smM (zI h) b td ns nd dt k := by
          unfold smellV smM
          rw [i7, b12, eroom]
          refine smeltF_congr (fun s hs => ?_)
          rw [hA _ (by omega) (by omega)]
          exact air5 r s hr hs
        have emk : ∀ day, day < nd → markF (zI h7) b td ns k r day (keenM (zI h) b td k) = markF (zI h) b td ns k r day (keenM (zI h) b td k) := fun day hday => by
          unfold markF
          have := td1 (9 + 1 + day) (by omega)
          rw [i7, b12, b3, show td + 9 + 1 + day = td + (9 + 1 + day) by omega, this]
        refine ⟨(hS.W hW7).W hW9, ih (k + 1) h9 (by omega) (hW7.trans hW9) (fun a q1 q2 => ?_) (fun m hm => ?_) (fun m hm => ?_)⟩
        · rw [s1 a q1 q2, i7]; exact hA a q1 q2
        · by_cases e : m = k
          · subst e
            refine ⟨s3.trans esm, ?_⟩
            rw [s4]
            unfold thinkV thM
            by_cases q : nd = 0
            · rw [if_pos q, if_pos q, i7]; exact hC m (Nat.le_refl _)
            · rw [if_neg q, if_neg q, eroom]
              refine congrArg nI (thkF_congr (Nat.pos_of_ne_zero q) (fun day hday => ?_) nd 1)
              rw [emk day hday, esm]
          · rw [(s2 m e).1, (s2 m e).2, i7]; exact hB m (by omega)
        · rw [(s2 m (by omega)).2, i7]; exact hC m (by omega)
  exact lm nm 0 h5' (by omega) hW5 (fun _ _ _ => rfl) (fun m hm => absurd hm (by omega)) (fun m _ => by rw [k5 (b + 14) (by omega)])
