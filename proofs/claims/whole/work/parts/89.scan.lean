/-! the class's scanner goes on -/
section SC
variable {G : zG} {d t n : Nat} {h : zMem}
theorem X4_takes_ok {p : Nat} (hS : zSh1 h t) (hr : zR h 3 1 = some 1) (h2 : zI h 3 2 = nI n) (h3 : zI h 3 3 = nI p) (hp : p ≤ n) (hn : n ≤ 700) (x : Int32) : zConI G mX4_takes d [.ref 3, .int x] h (fun v h' => (p < n ∧ zI h 1 p = x → v = 1 ∧ h' = zsI h 3 3 (nI (p + 1))) ∧ (¬ (p < n ∧ zI h 1 p = x) → v = 0 ∧ h' = h)) := by
  refine cn_X4_takes (sg_X4_takes_0 hS ?_)
  rw [h2, h3]
  refine ⟨fun c => ?_, fun c => ⟨1, hr, (sh_o1 hS).1, ?_, fun c2 => ?_, fun c2 => ?_⟩⟩
  · have : ¬ p < n := fun q => absurd c (nI_ge q (by omega))
    exact ⟨fun q => absurd q.1 this, fun _ => ⟨rfl, rfl⟩⟩
  · have : p < n := Nat.lt_of_not_le (fun q => c (nI_le q (by omega)))
    rw [(sh_o1 hS).2]; exact zin_n (by omega) (by decide)
  · rw [zcla (show p < 2 ^ 31 by omega)] at c2
    exact ⟨fun q => absurd q.2 c2, fun _ => ⟨rfl, rfl⟩⟩
  · have : p < n := Nat.lt_of_not_le (fun q => c (nI_le q (by omega)))
    rw [zcla (show p < 2 ^ 31 by omega)] at c2
    rw [nI_1]
    exact ⟨fun _ => ⟨rfl, rfl⟩, fun q => absurd ⟨this, c2⟩ q⟩
set_option maxHeartbeats 1000000 in
theorem X4_signOf_ok {s : Nat} (hS : zSh1 h t) (hr : zR h 3 1 = some 1) (h2 : zI h 3 2 = nI n) (h3 : zI h 3 3 = nI (s + 1)) (hs : s < n) (hn : n ≤ 700) : zConI G mX4_signOf (d + 1) [.ref 3, .int (zI h 1 s)] h (fun v h' => v = sgnT (zI h 1) n s ∧ h' = zsI h 3 3 (nI (sgnE (zI h 1) n s))) := by
  refine cn_X4_signOf (sg_X4_signOf_0 hS ?_)
  have id1 : zsI h 3 3 (nI (s + 1)) = h := zsI_id h3
  unfold sgnT sgnE
  obtain ⟨x, hx⟩ : ∃ x, x = zI h 1 s := ⟨_, rfl⟩
  rw [← hx]
  refine ⟨?_, ?_, ?_, ?_, ?_, ?_, ?_, ?_, ?_, ?_, ?_⟩
  · rintro rfl; simp [id1]
  · rintro rfl; simp [id1]
  · rintro rfl; simp [id1]
  · rintro rfl; simp [id1]
  · rintro rfl; simp [id1]
  · rintro rfl; simp [id1]
  · rintro rfl; simp [id1]
  · rintro rfl
    refine ⟨_, X4_takes_ok hS hr h2 h3 (by omega) hn 61, ?_⟩
    rintro v h2' ⟨q1, q2⟩
    by_cases c : s + 1 < n ∧ zI h 1 (s + 1) = 61
    · obtain ⟨rfl, rfl⟩ := q1 c
      refine ⟨hS.W ((zW.rf h).sI _ _ _), fun q => absurd q (by decide), fun _ => ?_⟩
      simp [c]
    · obtain ⟨rfl, rfl⟩ := q2 c
      refine ⟨hS, fun _ => ⟨_, X4_takes_ok hS hr h2 h3 (by omega) hn 62, ?_⟩, fun q => absurd rfl q⟩
      rintro v h7 ⟨r1, r2⟩
      by_cases c2 : s + 1 < n ∧ zI h2' 1 (s + 1) = 62
      · obtain ⟨rfl, rfl⟩ := r1 c2
        refine ⟨hS.W ((zW.rf h2').sI _ _ _), fun q => absurd q (by decide), fun _ => ?_⟩
        simp [c, c2]
      · obtain ⟨rfl, rfl⟩ := r2 c2
        refine ⟨hS, fun _ => ?_, fun q => absurd rfl q⟩
        simp [c, c2, id1]
  · rintro rfl; simp [id1]
  · rintro rfl
    refine ⟨_, X4_takes_ok hS hr h2 h3 (by omega) hn 61, ?_⟩
    rintro v h2' ⟨q1, q2⟩
    by_cases c : s + 1 < n ∧ zI h 1 (s + 1) = 61
    · obtain ⟨rfl, rfl⟩ := q1 c
      refine ⟨hS.W ((zW.rf h).sI _ _ _), fun q => absurd q (by decide), fun _ => ?_⟩
      simp [c]
    · obtain ⟨rfl, rfl⟩ := q2 c
      refine ⟨hS, fun _ => ?_, fun q => absurd rfl q⟩
      simp [c, id1]
  · intro c1 c2 c3 c4 c5 c6 c7 c8 c9 c10
    simp [c1, c2, c3, c4, c5, c6, c7, c8, c9, c10, id1]
/-- the scanner has gone on to the token behind p -/
def avR (h : zMem) (n p : Nat) (h' : zMem) : Prop := zW h h' ∧ (∀ c, c ≠ 3 → zI h' c = zI h c) ∧ scC (zI h') n p
set_option maxHeartbeats 2000000 in
theorem X4_advance_ok {p : Nat} (hS : zSh1 h t) (hr : zR h 3 1 = some 1) (h2 : zI h 3 2 = nI n) (h3 : zI h 3 3 = nI p) (hp : p ≤ n) (hn : n ≤ 700) (hW : ∀ k, k < 22 → zI h 4 k = wdT k) : zConV G mX4_advance (d + 3) [.ref 3] h (avR h n p) := by
  obtain ⟨s, hs⟩ : ∃ s, s = tks (zI h 1) n p := ⟨_, rfl⟩
  have hsn : p ≤ s ∧ s ≤ n := hs ▸ tks_le (zI h 1) hp
  have ne1 : ¬ (1 : Nat) = 3 := by decide
  have mk : ∀ h', zW h h' → (∀ c, c ≠ 3 → zI h' c = zI h c) → zI h' 3 2 = nI n → zI h' 3 5 = nI s → zI h' 3 3 = nI (tke (zI h 1) n p) → zI h' 3 4 = tkt (zI h 1) n p → (tkt (zI h 1) n p = 35 → zI h' 3 6 = tkl (zI h 1) n p) → (tkt (zI h 1) n p = 36 → zI h' 3 7 = tkn (zI h 1) n p) → avR h n p h' := by
    intro h' a1 a2 a3 a4 a5 a6 a7 a8
    refine ⟨a1, a2, ?_⟩
    unfold scC
    rw [a2 1 ne1, ← hs]
    exact ⟨a3, a5, a6, a4, a7, a8⟩
  have fin : zR h 3 1 = some 1 → s < n → ∀ {d' : Nat}, d' = d + 2 → (∃ Q39 : Int32 → zMem → Prop, zConI G mX4_isLetter d' [.int (zI h 1 s)] (zsI (zsI h 3 3 (nI s)) 3 5 (nI s)) Q39 ∧ (∀ v42 h40, Q39 v42 h40 → zSh1 h40 t ∧ (v42 = 0 → ∃ r44, zR h40 3 1 = some r44 ∧ zO h40 r44 102 ∧ vp_in (zI h40 3 3) (zLen h40 r44) ∧ ∃ Q47 : Int32 → zMem → Prop, zConI G mX4_isDigit d' [.int (zI h40 r44 (zI h40 3 3).toNatClampNeg)] h40 Q47 ∧ (∀ v50 h48, Q47 v50 h48 → zSh1 h48 t ∧ (v50 = 0 → ∃ r52, zR h48 3 1 = some r52 ∧ zO h48 r52 102 ∧ vp_in (zI (zsI h48 3 3 ((zI h48 3 3) + (1))) 3 5) (zLen h48 r52) ∧ ∃ Q55 : Int32 → zMem → Prop, zConI G mX4_signOf d' [.ref 3, .int (zI (zsI h48 3 3 ((zI h48 3 3) + (1))) r52 (zI (zsI h48 3 3 ((zI h48 3 3) + (1))) 3 5).toNatClampNeg)] (zsI h48 3 3 ((zI h48 3 3) + (1))) Q55 ∧ (∀ v58 h56, Q55 v58 h56 → zSh1 h56 t ∧ avR h n p (zsI h56 3 4 v58))) ∧ (¬ v50 = 0 → ∃ Q59 : zMem → Prop, zConV G mX4_readNumber d' [.ref 3] h48 Q59 ∧ (∀ h60, Q59 h60 → zSh1 h60 t ∧ avR h n p h60)))) ∧ (¬ v42 = 0 → ∃ Q62 : zMem → Prop, zConV G mX4_readWord d' [.ref 3] h40 Q62 ∧ (∀ h63, Q62 h63 → zSh1 h63 t ∧ avR h n p h63)))) := by
    intro hr sn d' hd
    subst hd
    obtain ⟨m, hm⟩ : ∃ m, m = zsI (zsI h 3 3 (nI s)) 3 5 (nI s) := ⟨_, rfl⟩
    rw [← hm]
    have wm : zW h m := by rw [hm]; exact ((zW.rf h).sI _ _ _).sI _ _ _
    have S := hS.W wm
    have m3 : zI m 3 3 = nI s := by rw [hm]; simp only [zI_sI, zup_i _ _ _ (show 3 ≠ 5 by decide), zup_s]
    have m5 : zI m 3 5 = nI s := by rw [hm]; simp only [zI_sI, zup_s]
    have m2 : zI m 3 2 = nI n := by rw [hm]; simp only [zI_sI, zup_i _ _ _ (show 2 ≠ 5 by decide), zup_i _ _ _ (show 2 ≠ 3 by decide)]; exact h2
    have mc : ∀ c, c ≠ 3 → zI m c = zI h c := fun c hc => by rw [hm]; simp only [zI_sI, zup_ne _ _ hc]
    have mr : zR m 3 1 = some 1 := by rw [hm]; exact hr
    refine ⟨_, X4_isLetter_ok S _, ?_⟩
    rintro v h40 ⟨hv, rfl⟩
    refine ⟨S, fun v0 => ⟨1, mr, (sh_o1 S).1, by rw [m3, (sh_o1 S).2]; exact zin_n (by omega) (by decide), ?_⟩, fun v0 => ?_⟩
    · have nl : ¬ isL (zI h 1 s) := fun q => by rw [if_pos q] at hv; exact absurd (hv.symm.trans v0) (by decide)
      rw [m3, zcla (show s < 2 ^ 31 by omega), mc 1 ne1]
      refine ⟨_, X4_isDigit_ok S _, ?_⟩
      rintro w h48 ⟨hw, rfl⟩
      refine ⟨S, fun w0 => ⟨1, mr, (sh_o1 S).1, ?_, ?_⟩, fun w0 => ?_⟩
      · rw [zI_sI, zup_i _ _ _ (show 5 ≠ 3 by decide), m5, (sh_o1 S).2]; exact zin_n (by omega) (by decide)
      · have nd : ¬ isD (zI h 1 s) := fun q => by rw [if_pos q] at hw; exact absurd (hw.symm.trans w0) (by decide)
        rw [m3, nI_1]
        obtain ⟨m', hm'⟩ : ∃ m', m' = zsI h48 3 3 (nI (s + 1)) := ⟨_, rfl⟩
        rw [← hm']
        have wm' : zW h m' := by rw [hm']; exact wm.sI _ _ _
        have e5 : zI m' 3 5 = nI s := by rw [hm', zI_sI, zup_i _ _ _ (by decide)]; exact m5
        have e3 : zI m' 3 3 = nI (s + 1) := by rw [hm', zI_sI, zup_s]
        have e2 : zI m' 3 2 = nI n := by rw [hm', zI_sI, zup_i _ _ _ (by decide)]; exact m2
        have ec : ∀ c, c ≠ 3 → zI m' c = zI h c := fun c hc => by rw [hm', zI_sI, zup_ne _ _ hc]; exact mc c hc
        rw [e5, zcla (show s < 2 ^ 31 by omega)]
        refine ⟨_, X4_signOf_ok (hS.W wm') (by rw [hm']; exact mr) e2 e3 sn hn, ?_⟩
        rintro u h56 ⟨hu, rfl⟩
        rw [ec 1 ne1] at hu ⊢
        have et : tkt (zI h 1) n p = sgnT (zI h 1) n s := by unfold tkt; rw [← hs, if_pos sn, if_neg nl, if_neg nd]
        have ee : tke (zI h 1) n p = sgnE (zI h 1) n s := by unfold tke; rw [← hs, if_pos sn, if_neg nl, if_neg nd]
        have n35 : sgnT (zI h 1) n s ≠ 35 ∧ sgnT (zI h 1) n s ≠ 36 := by
          unfold sgnT
          repeat' split
          all_goals decide
        refine ⟨hS.W (wm'.sI _ _ _), mk _ ((wm'.sI _ _ _).sI _ _ _) (fun c hc => ?_) ?_ ?_ ?_ ?_ (fun q => absurd (et.symm.trans q) n35.1) (fun q => absurd (et.symm.trans q) n35.2)⟩
        · simp only [zI_sI, zup_ne _ _ hc]; exact ec c hc
        · simp only [zI_sI, zup_i _ _ _ (show 2 ≠ 4 by decide), zup_i _ _ _ (show 2 ≠ 3 by decide)]; exact e2
        · simp only [zI_sI, zup_i _ _ _ (show 5 ≠ 4 by decide), zup_i _ _ _ (show 5 ≠ 3 by decide)]; exact e5
        · simp only [zI_sI, zup_i _ _ _ (show 3 ≠ 4 by decide), zup_s]; rw [ee]
        · simp only [zI_sI, zup_s]; rw [et, hu]
      · have nd : isD (zI h 1 s) := Classical.byContradiction (fun q => by rw [if_neg q] at hw; exact w0 hw)
        refine ⟨_, X4_readNumber_ok S mr m2 m3 hsn.2 hn, ?_⟩
        rintro h60 ⟨a1, a2, a3, a4, a5, a6, a7⟩
        rw [mc 1 ne1] at a5 a7
        have et : tkt (zI h 1) n p = 36 := by unfold tkt; rw [← hs, if_pos sn, if_neg nl, if_pos nd]
        have ee : tke (zI h 1) n p = rnE isD (zI h 1) n s := by unfold tke; rw [← hs, if_pos sn, if_neg nl, if_pos nd]
        refine ⟨S.W a1, mk _ (wm.trans a1) (fun c hc => (a2 c hc).trans (mc c hc)) a3 (a4.trans m5) (by rw [ee]; exact a5) (by rw [et]; exact a6) (fun q => absurd (et.symm.trans q) (by decide)) (fun _ => by unfold tkn; rw [← hs]; exact a7)⟩
    · have nl : isL (zI h 1 s) := Classical.byContradiction (fun q => by rw [if_neg q] at hv; exact v0 hv)
      refine ⟨_, X4_readWord_ok S mr m2 m3 hsn.2 hn (fun k hk => by rw [mc 4 (by decide)]; exact hW k hk), ?_⟩
      rintro h60 ⟨a1, a2, a3, a4, a5, a6, a7⟩
      rw [mc 1 ne1] at a5 a6 a7
      have et : tkt (zI h 1) n p = (if rnE isL (zI h 1) n s - s ≤ 6 then wdF wdT (lvS (zI h 1) n s) 22 0 35 else 38) := by unfold tkt tkl; rw [← hs, if_pos sn, if_pos nl]
      have ee : tke (zI h 1) n p = rnE isL (zI h 1) n s := by unfold tke; rw [← hs, if_pos sn, if_pos nl]
      have n36 : ∀ k w a, a ≠ 36 → k + w = 22 → wdF wdT (lvS (zI h 1) n s) k w a ≠ 36 := by
        intro k
        induction k with
        | zero => intro w a ha _; exact ha
        | succ k ih =>
          intro w a ha hw
          rw [wdF]
          refine ih _ _ ?_ (by omega)
          split
          · exact nI_ne (b := 36) (by omega) (by decide) (by omega)
          · exact ha
      refine ⟨S.W a1, mk _ (wm.trans a1) (fun c hc => (a2 c hc).trans (mc c hc)) a3 (a4.trans m5) (by rw [ee]; exact a5) (by rw [et]; exact a6) (fun q => ?_) (fun q => ?_)⟩
      · unfold tkl; rw [← hs]
        refine a7 (Classical.byContradiction (fun z => ?_))
        rw [et, if_neg z] at q
        exact absurd q (by decide)
      · rw [et] at q
        split at q
        · exact absurd q (n36 22 0 35 (by decide) rfl)
        · exact absurd q (by decide)
  have L : ∀ k q, k = n - q → p ≤ q → q ≤ n → rnE isW (zI h 1) n q = s → zg G mX4_advance (d + 3) 0 [.ref 3] [] (zsI h 3 3 (nI q)) (zPV (avR h n p)) := by
    intro k
    induction k with
    | zero =>
      intro q hk h1 h2' he
      rw [rnE_n (by omega)] at he
      subst he
      refine sg_X4_advance_0 (hS.W ((zW.rf h).sI _ _ _)) ?_
      simp only [zI_sI, zup_s, zup_i _ _ _ (show 2 ≠ 3 by decide), zup_i _ _ _ (show 3 ≠ 5 by decide), zup_i _ _ _ (show 2 ≠ 5 by decide), h2]
      refine ⟨fun _ => ⟨fun c => absurd c (nI_nlt (by omega) (by omega)), fun _ => ?_⟩, fun c => absurd (nI_le (by omega) (by omega)) c⟩
      have et : tkt (zI h 1) n p = 37 := by unfold tkt; rw [← hs, if_neg (by omega)]
      have ee : tke (zI h 1) n p = q := by unfold tke; rw [← hs, if_neg (by omega)]
      refine mk _ ((((zW.rf h).sI _ _ _).sI _ _ _).sI _ _ _) (fun c hc => ?_) ?_ ?_ ?_ ?_ (fun r => absurd (et.symm.trans r) (by decide)) (fun r => absurd (et.symm.trans r) (by decide))
      · simp only [zI_sI, zup_ne _ _ hc]
      · simp only [zI_sI, zup_i _ _ _ (show 2 ≠ 4 by decide), zup_i _ _ _ (show 2 ≠ 5 by decide), zup_i _ _ _ (show 2 ≠ 3 by decide)]; exact h2
      · simp only [zI_sI, zup_i _ _ _ (show 5 ≠ 4 by decide), zup_s]
      · simp only [zI_sI, zup_i _ _ _ (show 3 ≠ 4 by decide), zup_i _ _ _ (show 3 ≠ 5 by decide), zup_s]; rw [ee]
      · simp only [zI_sI, zup_s]; exact et.symm
    | succ k ih =>
      intro q hk h1 h2' he
      have S := hS.W ((zW.rf h).sI 3 3 (nI q))
      refine sg_X4_advance_0 S ?_
      have fin' : isW (zI h 1 q) = False → s = q := fun e => by
        rw [rnE_n (fun z => (e ▸ z.2 : False))] at he; exact he.symm
      have nx : isW (zI h 1 q) → zg G mX4_advance (d + 3) 0 [.ref 3] [] (zsI (zsI h 3 3 (nI q)) 3 3 (nI (q + 1))) (zPV (avR h n p)) := fun c => by
        rw [zsI_sI]
        exact ih (q + 1) (by omega) (by omega) (by omega) (by rw [← rnE_y (by omega) c]; exact he)
      refine ⟨fun c => ?_, fun c => ⟨1, hr, (sh_o1 S).1, ?_, ?_⟩⟩
      · rw [zI_sI, zup_s, zup_i _ _ _ (by decide), h2] at c
        exact absurd c (nI_ge (by omega) (by omega))
      · rw [zI_sI, zup_s, (sh_o1 S).2]; exact zin_n (by omega) (by decide)
      · rw [zI_sI, zup_s, zup_ne _ _ ne1, zcla (show q < 2 ^ 31 by omega), nI_1]
        refine ⟨fun c => nx (Or.inl c), fun c1 => ⟨fun c2 => ?_, fun c => nx (Or.inr c)⟩⟩
        have e : s = q := fin' (by simp [c1, c2])
        subst e
        have c3 : zI (zsI (zsI h 3 3 (nI s)) 3 5 (nI s)) 3 3 = nI s := by simp only [zI_sI, zup_i _ _ _ (show 3 ≠ 5 by decide), zup_s]
        have c4 : zI (zsI (zsI h 3 3 (nI s)) 3 5 (nI s)) 3 2 = nI n := by simp only [zI_sI, zup_i _ _ _ (show 2 ≠ 5 by decide), zup_i _ _ _ (show 2 ≠ 3 by decide)]; exact h2
        have c5 : zI (zsI (zsI h 3 3 (nI s)) 3 5 (nI s)) 1 = zI h 1 := by simp only [zI_sI, zup_ne _ _ ne1]
        rw [c3, c4, zcla (show s < 2 ^ 31 by omega), c5]
        refine ⟨fun _ => ⟨by rw [(sh_o1 S).2]; exact zin_n (by omega) (by decide), fin hr (by omega) rfl⟩, fun c => absurd (nI_lt (by omega) (by omega)) c⟩
  have := L (n - p) p rfl (Nat.le_refl _) hp hs.symm
  rw [zsI_id h3] at this
  exact cn_X4_advance this
end SC
