theorem stkR_congr {vs vs' : Nat → Int64} : ∀ {r : List Int64}, (∀ j, j < r.length → vs' j = vs j) → stkR vs r → stkR vs' r
  | [], _, _ => trivial
  | y :: r, h, hs => ⟨by rw [h r.length (by show r.length < r.length + 1; omega)]; exact hs.1, stkR_congr (fun j hj => h j (by show j < r.length + 1; omega)) hs.2⟩
def woM (srt val : Nat → Int32) (nm : Nat → Int64) : Nat → Nat → List Int64 → Option Int64
  | 0, _, stk => match stk with
    | [v] => some v
    | _ => none
  | n + 1, i, stk =>
    if srt i = 2 then
      (match stk with
      | [] => none
      | y :: r => if val i = 260 then woM srt val nm n (i + 1) ((if y = 0 then 1 else 0) :: r)
        else match r with
          | [] => none
          | x :: r' => match wkF (val i) x y with
            | none => none
            | some w => if okF w = true then woM srt val nm n (i + 1) (w :: r') else none)
    else if srt i = 0 then woM srt val nm n (i + 1) ((val i).toInt64 :: stk)
    else woM srt val nm n (i + 1) (nm (val i).toNatClampNeg :: stk)
/-- a row of knots that comes to one value -/
def wfM (srt val : Nat → Int32) : Nat → Nat → Nat → Prop
  | 0, _, k => k = 1
  | n + 1, i, k =>
    if srt i = 2 then (if val i = 260 then 1 ≤ k ∧ wfM srt val n (i + 1) k else 2 ≤ k ∧ wfM srt val n (i + 1) (k - 1))
    else if srt i = 0 then wfM srt val n (i + 1) (k + 1)
    else (∃ j, j < 7 ∧ val i = nI j) ∧ wfM srt val n (i + 1) (k + 1)
set_option maxHeartbeats 4000000 in
theorem X10_worksN_ok {G : zG} {d : Nat} {h : zMem} (hS : zSh2 h) {k : Nat} (hk : zI h 132 33 = nI (k + 1)) (h64 : k + 1 ≤ 64) :
    zConI G mX10_works (d + 1) [.ref 132, .int 260] h (fun v h' => v = 1 ∧ zW h h' ∧ zI h' = zI h ∧ (∀ a, a ≠ 150 → zL h' a = zL h a) ∧ (∀ j, j ≠ k → zL h' 150 j = zL h 150 j) ∧ zL h' 150 k = (if zL h 150 k = 0 then 1 else 0)) := by
  refine cn_X10_works (sg_X10_works_0 hS ?_)
  have k1 : nI (k + 1) - 1 = nI k := nI_pred k
  simp only [hk, k1, zcla (show k < 2 ^ 31 by omega), lg_cmp_eq]
  refine ⟨zin_n (by omega) (by decide), fun c => absurd trivial c, fun _ => ⟨fun c => ⟨_, X10_is_ok hS 0, ?_⟩, fun c => ⟨_, X10_is_ok hS 1, ?_⟩⟩⟩
  · rintro v h' ⟨rfl, rfl⟩
    refine ⟨hS, trivial, (zW.rf _).sL _ _ _, rfl, fun a ha => ?_, fun j hj => ?_, ?_⟩
    · rw [zL_sL, zup_ne _ _ ha]
    · rw [zL_sL, zup_i _ _ _ hj]
    · rw [zL_sL, zup_s, if_neg c]; rfl
  · rintro v h' ⟨rfl, rfl⟩
    refine ⟨hS, trivial, (zW.rf _).sL _ _ _, rfl, fun a ha => ?_, fun j hj => ?_, ?_⟩
    · rw [zL_sL, zup_ne _ _ ha]
    · rw [zL_sL, zup_i _ _ _ hj]
    · rw [zL_sL, zup_s, if_pos c]; rfl
def coR (h h' : zMem) (W : Option Int64) (v : Int32) : Prop := zW h h' ∧ mE (zI h) (zI h') ∧ ((v = 0 ∧ W = none) ∨ ∃ w, v = 1 ∧ W = some w ∧ zL h' 150 0 = w)
set_option maxHeartbeats 8000000 in
set_option maxRecDepth 20000 in
theorem X10_comesOut_ok {G : zG} {d : Nat} {h : zMem} (hS : zSh2 h) {r fr to : Nat} (hr : r < 6) (hfr : zI h 145 r = nI fr) (hto : zI h 146 r = nI to) (hle : fr ≤ to) (h64 : to ≤ 64) (nm : Nat → Int64) (hnm : ∀ k, k < 7 → zL h 149 k = nm k) (hwf : wfM (zI h 147) (zI h 148) (to - fr) fr 0) :
    zConI G mX10_comesOut (d + 2) [.ref 132, .int (nI r)] h (fun v h' => coR h h' (woM (zI h 147) (zI h 148) nm (to - fr) fr []) v) := by
  refine cn_X10_comesOut (sg_X10_comesOut_0 hS ?_)
  rw [zcla (show r < 2 ^ 31 by omega), zI_sI, zup_ne _ _ (show (145 : Nat) ≠ 132 by decide), hfr]
  refine ⟨zin_n hr (by decide), ?_⟩
  obtain ⟨W0, hW0⟩ : ∃ W0, woM (zI h 147) (zI h 148) nm (to - fr) fr [] = W0 := ⟨_, rfl⟩
  rw [hW0]
  have loop : ∀ (n i : Nat) (stk : List Int64) (h1 : zMem), zW h h1 → mE (zI h) (zI h1) → zI h1 132 33 = nI stk.length → (∀ k, k < 7 → zL h1 149 k = nm k) → stkR (zL h1 150) stk → i + n = to → stk.length + fr ≤ i → wfM (zI h 147) (zI h 148) n i stk.length → woM (zI h 147) (zI h 148) nm n i stk = W0 →
      zg G mX10_comesOut (d + 2) 12 [.ref 132, .int (nI r), .int (nI i)] [] h1 (zPI (fun v h' => coR h h' W0 v)) := by
    intro n
    induction n with
    | zero =>
      intro i stk h1 hW hE hc hn1 hst hi hk hwf hWo
      refine sg_X10_comesOut_12 (hS.W hW) ?_
      rw [zcla (show r < 2 ^ 31 by omega), hE.1 146 (by decide), hto]
      refine ⟨zin_n hr (by decide), fun _ => ?_, fun c => absurd (nI_le (by omega) (by omega)) c⟩
      have h1' : stk.length = 1 := hwf
      match stk, h1', hst, hWo with
      | [v], _, hst, hWo => exact ⟨hW, hE, Or.inr ⟨v, rfl, hWo.symm, hst.1⟩⟩
    | succ n ih =>
      intro i stk h1 hW hE hc hn1 hst hi hk hwf hWo
      have push : ∀ w : Int64, wfM (zI h 147) (zI h 148) n (i + 1) (stk.length + 1) → woM (zI h 147) (zI h 148) nm n (i + 1) (w :: stk) = W0 → zg G mX10_comesOut (d + 2) 12 [.ref 132, .int (nI r), .int (nI (i + 1))] [] (zsI (zsL h1 150 stk.length w) 132 33 (nI (stk.length + 1))) (zPI (fun v h' => coR h h' W0 v)) := by
        intro w q1 q2
        refine ih (i + 1) (w :: stk) _ ((hW.sL _ _ _).sI _ _ _) (hE.up _) ?_ (fun k hk => ?_) (stkR_push rfl hst) (by omega) (by show stk.length + 1 + fr ≤ i + 1; omega) q1 q2
        · rw [zI_sI, zup_s]; rfl
        · show zup (zL h1) 150 stk.length w 149 k = _
          rw [zup_ne _ _ (by decide)]; exact hn1 k hk
      refine sg_X10_comesOut_12 (hS.W hW) ?_
      rw [zcla (show r < 2 ^ 31 by omega), zcla (show i < 2 ^ 31 by omega), hE.1 146 (by decide), hto, hE.1 147 (by decide), hE.1 148 (by decide)]
      simp only [hc, zcla (show stk.length < 2 ^ 31 by omega), zI_sL, nI_1]
      refine ⟨zin_n hr (by decide), fun c => absurd c (nI_ge (by omega) (by omega)), fun _ => ⟨zin_n (by omega) (by decide), fun c1 => ⟨fun c2 => ?_, fun c2 => ?_⟩, fun c1 => ?_⟩⟩
      · simp only [wfM, if_neg c1, if_neg c2] at hwf
        simp only [woM, if_neg c1, if_neg c2] at hWo
        obtain ⟨⟨j, hj, ej⟩, hwf⟩ := hwf
        rw [ej, zcla (show j < 2 ^ 31 by omega), hn1 j hj]
        refine ⟨zin_n hj (by decide), zin_n (by omega) (by decide), push _ hwf ?_⟩
        rw [← hWo, ej, zcla (show j < 2 ^ 31 by omega)]
      · simp only [wfM, if_neg c1, if_pos c2] at hwf
        simp only [woM, if_neg c1, if_pos c2] at hWo
        exact ⟨zin_n (by omega) (by decide), push _ hwf hWo⟩
      · simp only [wfM, if_pos c1] at hwf
        by_cases c2 : zI h 148 i = 260
        · rw [if_pos c2] at hwf
          match stk, hwf, hst, hWo, hc, hk with
          | y :: rr, hwf, hst, hWo, hc, hk =>
            simp only [woM, if_pos c1, if_pos c2] at hWo
            have hl2 : rr.length + 1 + fr ≤ i := hk
            refine ⟨_, by rw [c2]; exact X10_worksN_ok (hS.W hW) hc (by omega), ?_⟩
            rintro v h2 ⟨rfl, w1, w2, w3, w4, w5⟩
            refine ⟨(hS.W hW).W w1, fun _ => ih (i + 1) (_ :: rr) h2 (hW.trans w1) (by rw [w2]; exact hE) (by rw [w2]; exact hc) (fun k hk => by rw [w3 149 (by decide)]; exact hn1 k hk) ⟨w5, stkR_congr (fun j hj => w4 j (by omega)) hst.2⟩ (by omega) (by show rr.length + 1 + fr ≤ i + 1; omega) hwf.2 ?_, fun q => absurd q (by decide)⟩
            rw [show zL h1 150 rr.length = y from hst.1]; exact hWo
        · rw [if_neg c2] at hwf
          match stk, hwf, hst, hWo, hc, hk with
          | [y], hwf, _, _, _, _ => exact absurd hwf.1 (by show ¬ 2 ≤ 1; omega)
          | y :: x :: rr, hwf, hst, hWo, hc, hk =>
            simp only [woM, if_pos c1, if_neg c2] at hWo
            have hl2 : rr.length + 2 + fr ≤ i := hk
            refine ⟨_, X10_works_ok (k := rr.length) (hS.W hW) hc (by omega) c2, ?_⟩
            rintro v h2 ⟨w1, w2, w3, w4⟩
            have hx : zL h1 150 rr.length = x := hst.2.1
            have hy : zL h1 150 (rr.length + 1) = y := hst.1
            rw [hx, hy] at w4
            refine ⟨(hS.W hW).W w1, fun q => ?_, fun q => ?_⟩
            · rcases w4 with ⟨rfl, -⟩ | ⟨w, -, e1, e2, e3, e4, e5⟩
              · exact absurd rfl q
              · simp only [e1, e2, if_true] at hWo
                exact ih (i + 1) (w :: rr) h2 (hW.trans w1) (hE.trans w2) e3 (fun k hk => by rw [w3 149 (by decide)]; exact hn1 k hk) ⟨e4, stkR_congr (fun j hj => e5 j hj) hst.2.2⟩ (by omega) (by show rr.length + 1 + fr ≤ i + 1; omega) hwf.2 hWo
            · refine ⟨hW.trans w1, hE.trans w2, Or.inl ⟨rfl, ?_⟩⟩
              rcases w4 with ⟨-, e⟩ | ⟨w, e1, -⟩
              · rw [← hWo]
                rcases e with e | ⟨w, e1, e2⟩
                · rw [e]
                · rw [e1]; simp [e2]
              · rw [e1] at q; exact absurd q (by decide)
  exact loop (to - fr) fr [] _ ((zW.rf h).sI _ _ _) ((mE.rf _).up _) (by rw [zI_sI, zup_s]; rfl) hnm trivial (by omega) (by show 0 + fr ≤ fr; omega) hwf hW0
