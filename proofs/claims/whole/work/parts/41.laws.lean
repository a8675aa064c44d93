/-! the laws of the class: what an expression comes to -/
abbrev cERR : Int64 := -9223372036854775808
abbrev cLIM : Int64 := 1000000000000
def jF (k : Int32) (a b : Int64) : Int64 :=
  if k = 12 then (if a = 0 then (if b = 0 then 0 else 1) else 1)
  else if k = 13 then (if a = 0 then 0 else (if b = 0 then 0 else 1))
  else if k = 22 then (if a < b then 1 else 0)
  else if k = 23 then (if a ≤ b then 1 else 0)
  else if k = 24 then (if a = b then 1 else 0)
  else if k = 25 then (if a = b then 0 else 1)
  else if k = 26 then (if b ≤ a then 1 else 0)
  else if k = 27 then (if b < a then 1 else 0)
  else if k = 28 then a + b
  else if k = 29 then a - b
  else if k = 31 then (if b = 0 then cERR else a / b)
  else cERR
def mF (a b : Int64) : Int64 :=
  if 0 ≤ b then (if b ≤ 0 then a * b else if cLIM / b < a then cERR else if -(cLIM / b) ≤ a then a * b else cERR)
  else (if -b ≤ 0 then a * b else if cLIM / -b < a then cERR else if -(cLIM / -b) ≤ a then a * b else cERR)
set_option maxHeartbeats 4000000 in
theorem X0_joined_ok {G : zG} {d t : Nat} {h : zMem} (hS : zSh1 h t) (k : Int32) (a b : Int64) : zConL G mX0_joined d [.int k, .long a, .long b] h (fun v h' => v = jF k a b ∧ h' = h) := by
  refine cn_X0_joined (sg_X0_joined_0 hS ?_)
  simp only [lg_cmp_ge, lg_cmp_le, lg_cmp_gt, lg_cmp_lt, lg_cmp_eq, and_true]
  repeat' (first | refine ⟨?_, ?_⟩ | intro _)
  all_goals first | assumption | (subst_vars; simp_all [jF, cERR])
set_option maxHeartbeats 4000000 in
theorem X0_multiplied_ok {G : zG} {d t : Nat} {h : zMem} (hS : zSh1 h t) (a b : Int64) : zConL G mX0_multiplied d [.long a, .long b] h (fun v h' => v = mF a b ∧ h' = h) := by
  refine cn_X0_multiplied (sg_X0_multiplied_0 hS ?_)
  simp only [lg_cmp_ge, lg_cmp_le, lg_cmp_gt, lg_cmp_lt, lg_cmp_eq, and_true]
  repeat' (first | refine ⟨?_, ?_⟩ | intro _)
  all_goals first | (simp only [mF, *, if_true, if_false]; done) | (rename_i p q; rw [q] at p; exact p (by decide))
/-- names by number -/
def nmF (much part left wind date place nose : Int32) (k : Nat) : Int64 :=
  if k = 0 then much.toInt64 else if k = 1 then part.toInt64 else if k = 2 then left.toInt64 else if k = 3 then wind.toInt64 else if k = 4 then date.toInt64 else if k = 5 then place.toInt64 else nose.toInt64
def woS (tok num : Nat → Int32) (nm : Nat → Int64) : Nat → Nat → List Int64 → Int64
  | 0, _, stk => match stk with
    | [v] => v
    | _ => cERR
  | n + 1, i, stk =>
    if tok i = 36 then woS tok num nm n (i + 1) ((num i).toInt64 :: stk)
    else if ¬ tok i < 15 ∧ ¬ 21 < tok i then woS tok num nm n (i + 1) (nm (tok i - 15).toNatClampNeg :: stk)
    else match stk with
      | [] => woS tok num nm n (i + 1) []
      | y :: r =>
        if tok i = 14 then woS tok num nm n (i + 1) ((if y = 0 then 1 else 0) :: r)
        else match r with
          | [] => woS tok num nm n (i + 1) [y]
          | x :: r' =>
            let v := if tok i = 30 then mF x y else jF (tok i) x y
            if cLIM < v then cERR else if -cLIM ≤ v then woS tok num nm n (i + 1) (v :: r') else cERR
set_option maxHeartbeats 4000000 in
theorem X0_setNames_ok {G : zG} {d t l : Nat} {h : zMem} (hS : zSh1 h t) (hl : isLw l) (much part left wind date place nose : Int32) : zConV G mX0_setNames d [.ref l, .int much, .int part, .int left, .int wind, .int date, .int place, .int nose] h (fun h' => zF h (zI h) h' ∧ ∀ k, k < 7 → zL h' (l + 6) k = nmF much part left wind date place nose k) := by
  refine cn_X0_setNames (sg_X0_setNames_0 hS hl ⟨⟨⟨rfl, by
    have h6 : (99 : Nat) ≠ l + 6 := by rcases hl with e | e <;> omega
    funext j
    simp only [zL_sL, zup_a _ _ j h6]⟩, rfl, rfl⟩, fun k hk => ?_⟩)
  simp only [zL_sL]
  rcases (show k = 0 ∨ k = 1 ∨ k = 2 ∨ k = 3 ∨ k = 4 ∨ k = 5 ∨ k = 6 by omega) with rfl | rfl | rfl | rfl | rfl | rfl | rfl <;> simp [zup, nmF]
set_option maxHeartbeats 4000000 in
set_option maxRecDepth 20000 in
theorem X0_workOut_ok {G : zG} {d t l : Nat} {h : zMem} (hS : zSh1 h t) (hl : isLw l) {r fr to : Nat} (hr : r < 3) (nm : Nat → Int64) (hnm : ∀ k, k < 7 → zL h (l + 6) k = nm k) (hw : zI h (l + 5) r ≠ 0 → zI h (l + 3) r = nI fr ∧ zI h (l + 4) r = nI to ∧ fr ≤ to ∧ to ≤ 64) :
    zConL G mX0_workOut (d + 1) [.ref l, .int (nI r)] h (fun v h' => v = (if zI h (l + 5) r = 0 then cERR else woS (zI h (l + 1)) (zI h (l + 2)) nm (to - fr) fr []) ∧ zF h (zI h) h') := by
  have l99 : l + 7 ≠ 99 := by rcases hl with e | e <;> omega
  refine cn_X0_workOut (sg_X0_workOut_0 hS hl ?_)
  rw [zcla (show r < 2 ^ 31 by omega)]
  refine ⟨zin_n hr (by decide), fun c => ?_, fun c => ⟨by rw [if_pos c], zF.rf h⟩⟩
  rw [if_neg c]
  obtain ⟨hfr, hto, hle, h64⟩ := hw c
  obtain ⟨W0, hW0⟩ : ∃ W0, woS (zI h (l + 1)) (zI h (l + 2)) nm (to - fr) fr [] = W0 := ⟨_, rfl⟩
  rw [hW0, hfr]
  have loop : ∀ (n i : Nat) (stk : List Int64) (h1 : zMem), zF h (zI h) h1 → (∀ k, k < 7 → zL h1 (l + 6) k = nm k) → stkR (zL h1 (l + 7)) stk → i + n = to → stk.length + fr ≤ i → woS (zI h (l + 1)) (zI h (l + 2)) nm n i stk = W0 →
      zg G mX0_workOut (d + 1) 22 [.ref l, .int (nI r), .int (nI stk.length), .int (nI i), zU, zU, zU, zU, zU, zU, zU] [] h1 (zPL (fun v h' => v = W0 ∧ zF h (zI h) h')) := by
    intro n
    induction n with
    | zero =>
      intro i stk h1 hF hnm1 hst hin hk hW
      refine sg_X0_workOut_22 (hS.F hF) hl ?_
      rw [hF.2.2]
      simp only [zcla (show r < 2 ^ 31 by omega), hto]
      refine ⟨zin_n hr (by decide), fun _ => ⟨fun c => ⟨?_, hF⟩, fun c => ⟨?_, hF⟩⟩, fun c => absurd (nI_le (by omega) (by omega)) c⟩
      · rw [← hW]
        match stk, c with
        | [], _ => rfl
        | [v], c => exact absurd rfl c
        | _ :: _ :: _, _ => rfl
      · have := nI_inj (by omega) (by decide) (c.trans n1)
        match stk, this, hst, hW with
        | [v], _, hst, hW => rw [← hW]; exact hst.1
    | succ n ih =>
      intro i stk h1 hF hnm1 hst hin hk hW
      have hi31 : i < 2 ^ 31 := by omega
      have J : ∀ tk : Int32, tk = zI h (l + 1) i → ¬ tk = 36 → (tk < 15 ∨ 21 < tk) → (¬ tk = 14 ∨ stk = []) → zg G mX0_workOut (d + 1) 143 [.ref l, .int (nI r), .int (nI stk.length), .int (nI i), .int tk, zU, zU, zU, zU, zU, zU] [] h1 (zPL (fun v h' => v = W0 ∧ zF h (zI h) h')) := by
        intro tk e1 e2 e3 e4
        have e5 : ¬ (¬ tk < 15 ∧ ¬ 21 < tk) := fun q => e3.elim q.1 q.2
        refine sg_X0_workOut_143 (hS.F hF) hl ⟨fun c => ?_, fun c => ?_⟩
        · rw [nI_1]
          refine ih (i + 1) stk h1 hF hnm1 hst (by omega) (by omega) ?_
          rw [← hW]
          have hlen := (nI_ltI (by omega) (by decide)).mp (show nI stk.length < nI 2 from c)
          match stk, hlen with
          | [], _ => simp only [woS, ← e1, if_neg e2, if_neg e5]
          | [v], _ =>
            have e6 : ¬ tk = 14 := e4.elim id (fun q => by cases q)
            simp only [woS, ← e1, if_neg e2, if_neg e5, if_neg e6]
        · have hlen : 2 ≤ stk.length := Nat.not_lt.mp fun q => c (show nI stk.length < nI 2 from nI_lt q (by decide))
          match stk, hlen with
          | y :: x :: rr, _ =>
            have e6 : ¬ tk = 14 := e4.elim id (fun q => by cases q)
            have k1 : nI (y :: x :: rr).length + (-1) = nI (rr.length + 1) := pk_m1 (rr.length + 1)
            have k2 : nI (rr.length + 1) - 1 = nI rr.length := nI_pred rr.length
            have hl2 : rr.length + 2 + fr ≤ i := hk
            simp only [k1, k2, zcla (show rr.length + 1 < 2 ^ 31 by omega), zcla (show rr.length < 2 ^ 31 by omega), lg_cmp_ge, lg_cmp_gt]
            have hy : zL h1 (l + 7) (rr.length + 1) = y := hst.1
            have hx : zL h1 (l + 7) rr.length = x := hst.2.1
            rw [hy, hx]
            refine ⟨zin_n (by omega) (by decide), zin_n (by omega) (by decide), fun c3 => ⟨_, X0_joined_ok (hS.F hF) tk x y, ?_⟩, fun c3 => ⟨_, X0_multiplied_ok (hS.F hF) x y, ?_⟩⟩
            · rintro v h2 ⟨rfl, rfl⟩
              refine ⟨hS.F hF, fun c4 => ⟨?_, hF⟩, fun c4 => ⟨fun c5 => ?_, fun c5 => ⟨?_, hF⟩⟩⟩
              · rw [← hW]
                simp only [woS, ← e1, if_neg e2, if_neg e5, if_neg e6, if_neg c3]
                rw [if_pos c4]
              · rw [nI_1]
                refine ih (i + 1) (jF tk x y :: rr) _ (hF.sL _ _ _ l99) (fun k hk => ?_) (stkR_push rfl hst.2.2) (by omega) (by show rr.length + 1 + fr ≤ i + 1; omega) ?_
                · rw [zL_sL, zup_a _ _ _ (by omega)]; exact hnm1 k hk
                · rw [← hW]
                  simp only [woS, ← e1, if_neg e2, if_neg e5, if_neg e6, if_neg c3]
                  rw [if_neg c4, if_pos c5]
              · rw [← hW]
                simp only [woS, ← e1, if_neg e2, if_neg e5, if_neg e6, if_neg c3]
                rw [if_neg c4, if_neg c5]
            · rintro v h2 ⟨rfl, rfl⟩
              refine ⟨hS.F hF, fun c4 => ⟨?_, hF⟩, fun c4 => ⟨fun c5 => ?_, fun c5 => ⟨?_, hF⟩⟩⟩
              · rw [← hW]
                simp only [woS, ← e1, if_neg e2, if_neg e5, if_neg e6, if_pos c3]
                rw [if_pos c4]
              · rw [nI_1]
                refine ih (i + 1) (mF x y :: rr) _ (hF.sL _ _ _ l99) (fun k hk => ?_) (stkR_push rfl hst.2.2) (by omega) (by show rr.length + 1 + fr ≤ i + 1; omega) ?_
                · rw [zL_sL, zup_a _ _ _ (by omega)]; exact hnm1 k hk
                · rw [← hW]
                  simp only [woS, ← e1, if_neg e2, if_neg e5, if_neg e6, if_pos c3]
                  rw [if_neg c4, if_pos c5]
              · rw [← hW]
                simp only [woS, ← e1, if_neg e2, if_neg e5, if_neg e6, if_pos c3]
                rw [if_neg c4, if_neg c5]
      have NT : zI h (l + 1) i = 14 → ¬ stk = [] → vp_in (nI stk.length - 1) 64 ∧ (¬ lg_cmp (zL h1 (l + 7) (nI stk.length - 1).toNatClampNeg) 0 = 0 → zg G mX0_workOut (d + 1) 22 [.ref l, .int (nI r), .int (nI stk.length), .int (nI i + 1), zU, zU, zU, zU, zU, zU, zU] [] (zsL h1 (l + 7) (nI stk.length - 1).toNatClampNeg 0) (zPL (fun v h' => v = W0 ∧ zF h (zI h) h'))) ∧ (lg_cmp (zL h1 (l + 7) (nI stk.length - 1).toNatClampNeg) 0 = 0 → zg G mX0_workOut (d + 1) 22 [.ref l, .int (nI r), .int (nI stk.length), .int (nI i + 1), zU, zU, zU, zU, zU, zU, zU] [] (zsL h1 (l + 7) (nI stk.length - 1).toNatClampNeg 1) (zPL (fun v h' => v = W0 ∧ zF h (zI h) h'))) := by
        intro e1 e2
        match stk, e2 with
        | y :: rr, _ =>
          have k2 : nI (y :: rr).length - 1 = nI rr.length := nI_pred rr.length
          have hl2 : rr.length + 1 + fr ≤ i := hk
          have e9 : ¬ (zI h (l + 1) i = 36) := by rw [e1]; decide
          have e10 : ¬ (¬ zI h (l + 1) i < 15 ∧ ¬ 21 < zI h (l + 1) i) := by rw [e1]; decide
          simp only [k2, zcla (show rr.length < 2 ^ 31 by omega), lg_cmp_eq, nI_1]
          have hy : zL h1 (l + 7) rr.length = y := hst.1
          rw [hy]
          refine ⟨zin_n (by omega) (by decide), fun c => ?_, fun c => ?_⟩
          · refine ih (i + 1) (0 :: rr) _ (hF.sL _ _ _ l99) (fun k hk => ?_) (stkR_push rfl hst.2) (by omega) (by show rr.length + 1 + fr ≤ i + 1; omega) ?_
            · rw [zL_sL, zup_a _ _ _ (by omega)]; exact hnm1 k hk
            · rw [← hW]; simp only [woS, if_neg e9, if_neg e10, if_pos e1, if_neg c]
          · refine ih (i + 1) (1 :: rr) _ (hF.sL _ _ _ l99) (fun k hk => ?_) (stkR_push rfl hst.2) (by omega) (by show rr.length + 1 + fr ≤ i + 1; omega) ?_
            · rw [zL_sL, zup_a _ _ _ (by omega)]; exact hnm1 k hk
            · rw [← hW]; simp only [woS, if_neg e9, if_neg e10, if_pos e1, if_pos c]
      have E0 : nI stk.length < 1 → stk = [] := fun q => List.eq_nil_of_length_eq_zero (by
        have := (nI_ltI (by omega) (by decide)).mp (show nI stk.length < nI 1 from q)
        omega)
      have E1 : ¬ nI stk.length < 1 → ¬ stk = [] := fun q e => q (by rw [e]; decide)
      refine sg_X0_workOut_22 (hS.F hF) hl ?_
      rw [hF.2.2]
      simp only [zcla (show r < 2 ^ 31 by omega), zcla hi31, hto]
      refine ⟨zin_n hr (by decide), fun c => absurd ((nI_leI (by omega) (by omega)).mp c) (by omega), fun _ => ⟨zin_n (by omega) (by decide), fun c1 => ⟨fun c2 => ⟨fun c3 => J _ rfl c1 (Or.inl c2) (Or.inl c3), fun c3 => ⟨fun c4 => J _ rfl c1 (Or.inl c2) (Or.inr (E0 c4)), fun c4 => NT c3 (E1 c4)⟩⟩, fun c2 => ⟨fun c3 => ⟨fun c4 => J _ rfl c1 (Or.inr c3) (Or.inl c4), fun c4 => ⟨fun c5 => J _ rfl c1 (Or.inr c3) (Or.inr (E0 c5)), fun c5 => NT c4 (E1 c5)⟩⟩, fun c3 => ?_⟩⟩, fun c1 => ?_⟩⟩
      · obtain ⟨j, hj1, hj2, hj⟩ := zrange (a := 15) (b := 21) (by decide) (by decide) c2 c3
        have e7 : zI h (l + 1) i - 15 = nI (j - 15) := by rw [hj]; exact pk_sub (a := j) (b := 15) hj1
        have hx15 : vp_in (zI h (l + 1) i - 15) 7 := by rw [e7]; exact zin_n (by omega) (by decide)
        refine ⟨hx15, zin_n (by omega) (by decide), ?_⟩
        rw [nI_1, nI_1, zcla (show stk.length < 2 ^ 31 by omega)]
        refine ih (i + 1) (_ :: stk) _ (hF.sL _ _ _ l99) (fun k hk => ?_) (stkR_push rfl hst) (by omega) (by show stk.length + 1 + fr ≤ i + 1; omega) ?_
        · rw [zL_sL, zup_a _ _ _ (by omega)]; exact hnm1 k hk
        · rw [← hW, hnm1 _ (by rw [e7, zcla (by omega)]; omega)]
          simp only [woS, if_neg c1]
          rw [if_pos ⟨c2, c3⟩]
      · refine ⟨zin_n (by omega) (by decide), ?_⟩
        rw [nI_1, nI_1, zcla (show stk.length < 2 ^ 31 by omega)]
        refine ih (i + 1) (_ :: stk) _ (hF.sL _ _ _ l99) (fun k hk => ?_) (stkR_push rfl hst) (by omega) (by show stk.length + 1 + fr ≤ i + 1; omega) ?_
        · rw [zL_sL, zup_a _ _ _ (by omega)]; exact hnm1 k hk
        · rw [← hW]
          simp only [woS, if_pos c1]
  exact loop (to - fr) fr [] h (zF.rf h) hnm trivial (by omega) (by show 0 + fr ≤ fr; omega) hW0
