/-! the class's reader: a new name, and the lines but laws -/
/-- the tape of the model -/
def tpM (I : Nat → Nat → Int32) (B : Nat → Int32) (n : Nat) : Prop := (∀ k, k < n → I 133 k = B k &&& 255) ∧ (∀ k, B k = (B k).toInt8.toInt32) ∧ n ≤ 700
/-- the word, by its letters as the class packs them; else -1 -/
def wdV (B : Nat → Int32) (n s : Nat) : Int32 := if rnE isL B n s - s ≤ 6 then (if wdF wdT (lvS B n s) 22 0 35 = 35 then -1 else wdF wdT (lvS B n s) 22 0 35) else -1
/-- what rests on things outside of the cells: a new name (the row MOST), a word (the words of the language) -/
def nwK (G : zG) : Prop := ∀ (d t b n p kd : Nat) (h0 h : zMem) (B : Nat → Int32) (A : tM) (Q : Int32 → zMem → Prop) (q : rB h0 t b n B) (r : rC h0 b n A p h) (hk : kd < 4) (w : wfA A) (K1 : ∀ h', nwX B n A kd p = 0 → rC h0 b n (nwA B n A kd p) (tke B n (tke B n p)) h' → Q (A 1 kd) h') (K2 : ∀ h', nwX B n A kd p ≠ 0 → rF h0 b (nwX B n A kd p) (nwP B n A kd p) h' → Q (-1) h'), ∃ Q2 : Int32 → zMem → Prop, zConI G mX3_newName (d + 4) [.ref 2, .int (nI kd)] h Q2 ∧ (∀ v h3, Q2 v h3 → zSh1 h3 t ∧ Q v h3)
def wdK (G : zG) : Prop := ∀ (d n s : Nat) (h : zMem) (B : Nat → Int32) (hS : zSh2 h) (hT : tpM (zI h) B n) (h21 : zI h 132 21 = nI (rnE isL B n s)) (h22 : zI h 132 22 = nI s) (hs : s < n) (hl : isL (B s)), zConI G mX10_word (d + 10) [.ref 132] h (fun v h' => h' = h ∧ v = wdV B n s)
def gK (G : zG) : Prop := nwK G ∧ wdK G
section LN
variable {G : zG} {d t b n p : Nat} {h0 h : zMem} {B : Nat → Int32} {A : tM}
theorem X3_newName_ok {Q : Int32 → zMem → Prop} (hG : gK G) (q : rB h0 t b n B) (r : rC h0 b n A p h) {kd : Nat} (hk : kd < 4) (w : wfA A) (K1 : ∀ h', nwX B n A kd p = 0 → rC h0 b n (nwA B n A kd p) (tke B n (tke B n p)) h' → Q (A 1 kd) h') (K2 : ∀ h', nwX B n A kd p ≠ 0 → rF h0 b (nwX B n A kd p) (nwP B n A kd p) h' → Q (-1) h') : ∃ Q2 : Int32 → zMem → Prop, zConI G mX3_newName (d + 4) [.ref 2, .int (nI kd)] h Q2 ∧ (∀ v h3, Q2 v h3 → zSh1 h3 t ∧ Q v h3) := hG.1 d t b n p kd h0 h B A Q q r hk w K1 K2
theorem nwX_ix {kd : Nat} (hk : kd < 4) (w : wfA A) (c : nwX B n A kd p = 0) : mny A kd < msT kd ∧ tkt B n (tke B n p) = 35 ∧ fnd A kd (tkl B n (tke B n p)) = -1 := by
  have m8 := msT_le kd
  unfold nwX at c
  split at c
  · exact absurd c (by decide)
  · rename_i c0
    split at c
    · rename_i c1
      split at c
      · rename_i c2
        refine ⟨?_, c1, c2⟩
        rw [(w kd hk).1] at c0
        exact Nat.lt_of_not_le (fun z => c0 (nI_le z (by have := (w kd hk).2; omega)))
      · exact absurd c (by decide)
    · exact absurd c (by decide)
theorem nwA_wf {kd : Nat} (hk : kd < 4) (w : wfA A) (c : nwX B n A kd p = 0) : wfA (nwA B n A kd p) := by
  obtain ⟨c1, _, _⟩ := nwX_ix hk w c
  have m8 := msT_le kd
  intro k2 hk2
  unfold nwA mny
  by_cases e : k2 = kd
  · subst e
    rw [zup_s, (w k2 hk).1, nI_1, zcla (show mny A k2 + 1 < 2 ^ 31 by omega)]
    exact ⟨rfl, c1⟩
  · rw [zup_i _ _ _ e, zup_ne _ _ (by omega)]
    exact w k2 hk2
theorem wfA_up {k j : Nat} {v : Int32} (w : wfA A) (hk : k ≠ 1) : wfA (zup A k j v) := by
  intro k2 hk2
  unfold mny
  rw [zup_ne _ _ (Ne.symm hk)]; exact w k2 hk2
def lnSR (B : Nat → Int32) (n : Nat) (A : tM) (kd row : Nat) (hi : Int32) (p : Nat) : tRes :=
  if nwX B n A kd p = 0 then (if nmX B n (tke B n (tke B n p)) 0 hi = 0 then stp B n (zup (nwA B n A kd p) row (mny A kd) (tkn B n (tke B n (tke B n p)))) (tke B n (tke B n (tke B n p))) else .inl (nmX B n (tke B n (tke B n p)) 0 hi, tks B n (tke B n (tke B n p)))) else .inl (nwX B n A kd p, nwP B n A kd p)
def lnDay (B : Nat → Int32) (n : Nat) (A : tM) (p : Nat) : tRes :=
  if nwX B n A 1 p = 0 then (if tkt B n (tke B n (tke B n p)) = 8 then stp B n (zup (nwA B n A 1 p) 8 (mny A 1) 1) (tke B n (tke B n (tke B n p))) else stp B n (nwA B n A 1 p) (tke B n (tke B n p))) else .inl (nwX B n A 1 p, nwP B n A 1 p)
def lnMonk (B : Nat → Int32) (n : Nat) (A : tM) (p : Nat) : tRes :=
  if nwX B n A 3 p = 0 then (if tdX B n (nwA B n A 3 p) 2 (tke B n (tke B n p)) = 0 then (if nmX B n (tke B n (tke B n (tke B n p))) 1 99 = 0 then stp B n (zup (zup (nwA B n A 3 p) 19 (mny A 3) (fnd (nwA B n A 3 p) 2 (tkl B n (tke B n (tke B n p))))) 20 (mny A 3) (tkn B n (tke B n (tke B n (tke B n p))))) (tke B n (tke B n (tke B n (tke B n p)))) else .inl (nmX B n (tke B n (tke B n (tke B n p))) 1 99, tks B n (tke B n (tke B n (tke B n p))))) else .inl (tdX B n (nwA B n A 3 p) 2 (tke B n (tke B n p)), tks B n (tke B n (tke B n p)))) else .inl (nwX B n A 3 p, nwP B n A 3 p)
def lnLinger (B : Nat → Int32) (n : Nat) (A : tM) (p : Nat) : tRes :=
  if A 0 11 = 0 then (if nmX B n (tke B n p) 0 100 = 0 then stp B n (zup (zup A 0 11 1) 0 10 (tkn B n (tke B n p))) (tke B n (tke B n p)) else .inl (nmX B n (tke B n p) 0 100, tks B n (tke B n p))) else .inl (3, tks B n p)
def lnSeed (B : Nat → Int32) (n : Nat) (A : tM) (p : Nat) : tRes :=
  if A 0 12 = 0 then (if nmX B n (tke B n p) 0 99999 = 0 then stp B n (zup A 0 12 1) (tke B n (tke B n p)) else .inl (nmX B n (tke B n p) 0 99999, tks B n (tke B n p))) else .inl (3, tks B n p)
def dyT (B : Nat → Int32) (n : Nat) (A : tM) (p : Nat) : Nat := (fnd A 1 (tkl B n (tke B n p))).toNatClampNeg
def sfT (B : Nat → Int32) (n : Nat) (A : tM) (p : Nat) : Nat := (fnd A 0 (tkl B n (tke B n (tke B n p)))).toNatClampNeg
def lnMix (B : Nat → Int32) (n : Nat) (A : tM) (p : Nat) : tRes :=
  if A 0 9 < 24 then (if tdX B n A 1 (tke B n p) = 0 then (if tdX B n A 0 (tke B n (tke B n p)) = 0 then (if A (10 + dyT B n A p) (sfT B n A p) ≤ 0 then (if nmX B n (tke B n (tke B n (tke B n p))) 1 99 = 0 then stp B n (zup (zup A (10 + dyT B n A p) (sfT B n A p) (tkn B n (tke B n (tke B n (tke B n p))))) 0 9 (A 0 9 + 1)) (tke B n (tke B n (tke B n (tke B n p)))) else .inl (nmX B n (tke B n (tke B n (tke B n p))) 1 99, tks B n (tke B n (tke B n (tke B n p))))) else .inl (3, tks B n (tke B n (tke B n p)))) else .inl (tdX B n A 0 (tke B n (tke B n p)), tks B n (tke B n (tke B n p)))) else .inl (tdX B n A 1 (tke B n p), tks B n (tke B n p))) else .inl (2, tks B n p)
theorem lR.sh {r : tRes} {v : Int32} (q : rB h0 t b n B) (z : lR h0 b n r v h) : zSh1 h t := by
  cases r with
  | inl x => exact rF.sh q z.2
  | inr x => exact rC.sh q z.2
theorem X3_stuffLine_ok {Q : Int32 → zMem → Prop} (hG : gK G) (q : rB h0 t b n B) (r : rC h0 b n A p h) (w : wfA A) (K : ∀ v h', lR h0 b n (lnSR B n A 0 7 999 p) v h' → Q v h') : ∃ Q2 : Int32 → zMem → Prop, zConI G mX3_stuffLine (d + 5) [.ref 2] h Q2 ∧ (∀ v h3, Q2 v h3 → zSh1 h3 t ∧ Q v h3) := by
  have S := r.sh q
  refine ⟨fun v h3 => zSh1 h3 t ∧ Q v h3, cn_X3_stuffLine (sg_X3_stuffLine_0 S ?_), fun _ _ x => x⟩
  unfold lnSR at K
  rw [← q.2.2.2.2.1]
  refine X3_newName_ok hG q r (kd := 0) (by decide) w (fun h1 c r1 => ?_) (fun h1 c f1 => ?_)
  · rw [if_pos c] at K
    have lt := (nwX_ix (kd := 0) (by decide) w c).1
    rw [(w 0 (by decide)).1]
    refine ⟨fun _ => ?_, fun z => absurd z (nI_nm1 (by have := msT_le 0; omega))⟩
    refine X3_readNumber_ok q r1 0 999 (fun h2 c2 r2 => ?_) (fun h2 c2 f2 => ?_)
    · rw [if_pos c2] at K
      refine ⟨fun _ => ⟨zin_n lt (by decide), ?_⟩, fun z => absurd z (nmX_nn (by decide) c2).1⟩
      rw [zcla (show mny A 0 < 2 ^ 31 by have := msT_le 0; omega)]
      exact X3_readStop_ok q (r2.put q (k := 7) (by decide)) (fun v h' z => ⟨z.sh q, K v h' z⟩)
    · rw [if_neg c2] at K
      exact ⟨fun z => absurd rfl z, fun _ => ⟨f2.sh q, K (-1) h2 ⟨rfl, f2⟩⟩⟩
  · rw [if_neg c] at K
    exact ⟨fun z => absurd rfl z, fun _ => ⟨fun z => absurd rfl z, fun _ => ⟨f1.sh q, K (-1) h1 ⟨rfl, f1⟩⟩⟩⟩
theorem X3_roomLine_ok {Q : Int32 → zMem → Prop} (hG : gK G) (q : rB h0 t b n B) (r : rC h0 b n A p h) (w : wfA A) (K : ∀ v h', lR h0 b n (lnSR B n A 2 18 100 p) v h' → Q v h') : ∃ Q2 : Int32 → zMem → Prop, zConI G mX3_roomLine (d + 5) [.ref 2] h Q2 ∧ (∀ v h3, Q2 v h3 → zSh1 h3 t ∧ Q v h3) := by
  have S := r.sh q
  refine ⟨fun v h3 => zSh1 h3 t ∧ Q v h3, cn_X3_roomLine (sg_X3_roomLine_0 S ?_), fun _ _ x => x⟩
  unfold lnSR at K
  rw [← q.2.2.2.2.1]
  refine X3_newName_ok hG q r (kd := 2) (by decide) w (fun h1 c r1 => ?_) (fun h1 c f1 => ?_)
  · rw [if_pos c] at K
    have lt := (nwX_ix (kd := 2) (by decide) w c).1
    rw [(w 2 (by decide)).1]
    refine ⟨fun _ => ?_, fun z => absurd z (nI_nm1 (by have := msT_le 2; omega))⟩
    refine X3_readNumber_ok q r1 0 100 (fun h2 c2 r2 => ?_) (fun h2 c2 f2 => ?_)
    · rw [if_pos c2] at K
      refine ⟨fun _ => ⟨zin_n lt (by decide), ?_⟩, fun z => absurd z (nmX_nn (by decide) c2).1⟩
      rw [zcla (show mny A 2 < 2 ^ 31 by have := msT_le 2; omega)]
      exact X3_readStop_ok q (r2.put q (k := 18) (by decide)) (fun v h' z => ⟨z.sh q, K v h' z⟩)
    · rw [if_neg c2] at K
      exact ⟨fun z => absurd rfl z, fun _ => ⟨f2.sh q, K (-1) h2 ⟨rfl, f2⟩⟩⟩
  · rw [if_neg c] at K
    exact ⟨fun z => absurd rfl z, fun _ => ⟨fun z => absurd rfl z, fun _ => ⟨f1.sh q, K (-1) h1 ⟨rfl, f1⟩⟩⟩⟩
theorem X3_dayLine_ok {Q : Int32 → zMem → Prop} (hG : gK G) (q : rB h0 t b n B) (r : rC h0 b n A p h) (w : wfA A) (K : ∀ v h', lR h0 b n (lnDay B n A p) v h' → Q v h') : ∃ Q2 : Int32 → zMem → Prop, zConI G mX3_dayLine (d + 5) [.ref 2] h Q2 ∧ (∀ v h3, Q2 v h3 → zSh1 h3 t ∧ Q v h3) := by
  have S := r.sh q
  refine ⟨fun v h3 => zSh1 h3 t ∧ Q v h3, cn_X3_dayLine (sg_X3_dayLine_0 S ?_), fun _ _ x => x⟩
  unfold lnDay at K
  rw [← q.2.2.2.2.1]
  refine X3_newName_ok hG q r (kd := 1) (by decide) w (fun h1 c r1 => ?_) (fun h1 c f1 => ?_)
  · rw [if_pos c] at K
    have lt := (nwX_ix (kd := 1) (by decide) w c).1
    rw [(w 1 (by decide)).1]
    refine ⟨fun _ => ?_, fun z => absurd z (nI_nm1 (by have := msT_le 1; omega))⟩
    rw [r1.tk q]
    refine ⟨fun c2 => ?_, fun c2 => ⟨zin_n lt (by decide), ?_⟩⟩
    · rw [if_neg c2] at K
      exact X3_readStop_ok q r1 (fun v h' z => ⟨z.sh q, K v h' z⟩)
    · rw [if_pos c2] at K
      rw [zcla (show mny A 1 < 2 ^ 31 by have := msT_le 1; omega)]
      refine rd_adv q (r1.put q (k := 8) (by decide)) (fun h2 r2 _ => ?_)
      exact X3_readStop_ok q r2 (fun v h' z => ⟨z.sh q, K v h' z⟩)
  · rw [if_neg c] at K
    exact ⟨fun z => absurd rfl z, fun _ => ⟨f1.sh q, K (-1) h1 ⟨rfl, f1⟩⟩⟩
theorem X3_monkLine_ok {Q : Int32 → zMem → Prop} (hG : gK G) (q : rB h0 t b n B) (r : rC h0 b n A p h) (w : wfA A) (K : ∀ v h', lR h0 b n (lnMonk B n A p) v h' → Q v h') : ∃ Q2 : Int32 → zMem → Prop, zConI G mX3_monkLine (d + 5) [.ref 2] h Q2 ∧ (∀ v h3, Q2 v h3 → zSh1 h3 t ∧ Q v h3) := by
  have S := r.sh q
  refine ⟨fun v h3 => zSh1 h3 t ∧ Q v h3, cn_X3_monkLine (sg_X3_monkLine_0 S ?_), fun _ _ x => x⟩
  unfold lnMonk at K
  rw [← q.2.2.2.2.1]
  refine X3_newName_ok hG q r (kd := 3) (by decide) w (fun h1 c r1 => ?_) (fun h1 c f1 => ?_)
  · rw [if_pos c] at K
    have lt := (nwX_ix (kd := 3) (by decide) w c).1
    rw [(w 3 (by decide)).1]
    refine ⟨fun _ => ?_, fun z => absurd z (nI_nm1 (by have := msT_le 3; omega))⟩
    refine X3_toldName_ok q r1 (kd := 2) (by decide) (nwA_wf (by decide) w c) (fun h2 c2 r2 => ?_) (fun h2 c2 f2 => ?_)
    · rw [if_pos c2] at K
      obtain ⟨j, hj, ej⟩ := tdX_ix c2
      have wj := (nwA_wf (by decide) w c 2 (by decide)).2
      refine ⟨fun _ => ?_, fun z => absurd (ej.symm.trans z) (nI_nm1 (by have := msT_le 2; omega))⟩
      refine rd_adv q r2 (fun h3 r3 _ => ?_)
      refine X3_readNumber_ok q r3 1 99 (fun h4 c4 r4 => ?_) (fun h4 c4 f4 => ?_)
      · rw [if_pos c4] at K
        refine ⟨fun _ => ⟨zin_n lt (by decide), ?_⟩, fun z => absurd z (nmX_nn (by decide) c4).1⟩
        rw [zcla (show mny A 3 < 2 ^ 31 by have := msT_le 3; omega)]
        exact X3_readStop_ok q ((r4.put q (k := 19) (by decide)).put q (k := 20) (by decide)) (fun v h' z => ⟨z.sh q, K v h' z⟩)
      · rw [if_neg c4] at K
        exact ⟨fun z => absurd rfl z, fun _ => ⟨f4.sh q, K (-1) h4 ⟨rfl, f4⟩⟩⟩
    · rw [if_neg c2] at K
      exact ⟨fun z => absurd rfl z, fun _ => ⟨f2.sh q, K (-1) h2 ⟨rfl, f2⟩⟩⟩
  · rw [if_neg c] at K
    exact ⟨fun z => absurd rfl z, fun _ => ⟨fun z => absurd rfl z, fun _ => ⟨f1.sh q, K (-1) h1 ⟨rfl, f1⟩⟩⟩⟩
theorem X3_lingerLine_ok {Q : Int32 → zMem → Prop} (q : rB h0 t b n B) (r : rC h0 b n A p h) (K : ∀ v h', lR h0 b n (lnLinger B n A p) v h' → Q v h') : ∃ Q2 : Int32 → zMem → Prop, zConI G mX3_lingerLine (d + 5) [.ref 2] h Q2 ∧ (∀ v h3, Q2 v h3 → zSh1 h3 t ∧ Q v h3) := by
  have S := r.sh q
  refine ⟨fun v h3 => zSh1 h3 t ∧ Q v h3, cn_X3_lingerLine (sg_X3_lingerLine_0 S ?_), fun _ _ x => x⟩
  unfold lnLinger at K
  rw [← q.2.2.2.2.1, r.row0]
  refine ⟨fun c => ?_, fun c => ?_⟩
  · rw [if_pos c] at K
    refine rd_adv q r (fun h1 r1 _ => ?_)
    refine X3_readNumber_ok q (r1.put0 q) 0 100 (fun h2 c2 r2 => ?_) (fun h2 c2 f2 => ?_)
    · rw [if_pos c2] at K
      rw [zI_sI, zup_s]
      refine ⟨fun _ => ?_, fun z => absurd z (nmX_nn (by decide) c2).1⟩
      exact X3_readStop_ok q (r2.put0 q) (fun v h' z => ⟨z.sh q, K v h' z⟩)
    · rw [if_neg c2] at K
      rw [zI_sI, zup_s]
      have f3 : rF h0 b (nmX B n (tke B n p) 0 100) (tks B n (tke B n p)) (zsI h2 b 10 (-1)) := f2.put q (k := 0) (by decide)
      exact ⟨fun z => absurd rfl z, fun _ => ⟨f3.sh q, K (-1) _ ⟨rfl, f3⟩⟩⟩
  · rw [if_neg c] at K
    exact rd_wrong q r 3 (fun h' x => ⟨x.sh q, K (-1) h' ⟨rfl, x⟩⟩)
theorem X3_seedLine_ok {Q : Int32 → zMem → Prop} (q : rB h0 t b n B) (r : rC h0 b n A p h) (K : ∀ v h', lR h0 b n (lnSeed B n A p) v h' → Q v h') : ∃ Q2 : Int32 → zMem → Prop, zConI G mX3_seedLine (d + 5) [.ref 2] h Q2 ∧ (∀ v h3, Q2 v h3 → zSh1 h3 t ∧ Q v h3) := by
  have S := r.sh q
  refine ⟨fun v h3 => zSh1 h3 t ∧ Q v h3, cn_X3_seedLine (sg_X3_seedLine_0 S ?_), fun _ _ x => x⟩
  unfold lnSeed at K
  rw [← q.2.2.2.2.1, r.row0]
  refine ⟨fun c => ?_, fun c => ?_⟩
  · rw [if_pos c] at K
    refine rd_adv q r (fun h1 r1 _ => ?_)
    refine X3_readNumber_ok q (r1.put0 q) 0 99999 (fun h2 c2 r2 => ?_) (fun h2 c2 f2 => ?_)
    · rw [if_pos c2] at K
      refine ⟨fun _ => ?_, fun z => absurd z (nmX_nn (by decide) c2).1⟩
      exact X3_readStop_ok q r2 (fun v h' z => ⟨z.sh q, K v h' z⟩)
    · rw [if_neg c2] at K
      exact ⟨fun z => absurd rfl z, fun _ => ⟨f2.sh q, K (-1) _ ⟨rfl, f2⟩⟩⟩
  · rw [if_neg c] at K
    exact rd_wrong q r 3 (fun h' x => ⟨x.sh q, K (-1) h' ⟨rfl, x⟩⟩)
theorem X3_mixLine_ok {Q : Int32 → zMem → Prop} (q : rB h0 t b n B) (r : rC h0 b n A p h) (w : wfA A) (K : ∀ v h', lR h0 b n (lnMix B n A p) v h' → Q v h') : ∃ Q2 : Int32 → zMem → Prop, zConI G mX3_mixLine (d + 5) [.ref 2] h Q2 ∧ (∀ v h3, Q2 v h3 → zSh1 h3 t ∧ Q v h3) := by
  have S := r.sh q
  refine ⟨fun v h3 => zSh1 h3 t ∧ Q v h3, cn_X3_mixLine (sg_X3_mixLine_0 S ?_), fun _ _ x => x⟩
  unfold lnMix at K
  rw [← q.2.2.2.2.1, r.row0]
  refine ⟨fun c => ?_, fun c => ?_⟩
  · rw [if_pos c] at K
    refine rd_adv q r (fun h1 r1 _ => ?_)
    refine X3_toldName_ok q r1 (kd := 1) (by decide) w (fun h2 c2 r2 => ?_) (fun h2 c2 f2 => ?_)
    · rw [if_pos c2] at K
      obtain ⟨dy, hdy, edy⟩ := tdX_ix c2
      have w1 := (w 1 (by decide)).2
      have d8 : dy < 8 := by have : msT 1 = 8 := rfl; omega
      refine ⟨fun _ => ?_, fun z => absurd (edy.symm.trans z) (nI_nm1 (by omega))⟩
      refine rd_adv q r2 (fun h3 r3 _ => ?_)
      refine X3_toldName_ok q r3 (kd := 0) (by decide) w (fun h4 c4 r4 => ?_) (fun h4 c4 f4 => ?_)
      · rw [if_pos c4] at K
        obtain ⟨sf, hsf, esf⟩ := tdX_ix c4
        have w0 := (w 0 (by decide)).2
        have s6 : sf < 6 := by have : msT 0 = 6 := rfl; omega
        have eD : dyT B n A p = dy := by unfold dyT; rw [edy, zcla (by omega)]
        have eS : sfT B n A p = sf := by unfold sfT; rw [esf, zcla (by omega)]
        rw [eD, eS] at K
        refine ⟨fun _ => ?_, fun z => absurd (esf.symm.trans z) (nI_nm1 (by omega))⟩
        rw [edy, esf, zcla (show dy < 2 ^ 31 by omega), zcla (show sf < 2 ^ 31 by omega), show b + 9 + 1 + dy = b + (10 + dy) by omega, r4.row (by omega) (by omega)]
        refine ⟨zin_n (by omega) (by decide), zin_n (by omega) (by decide), fun c5 => ?_, fun c5 => ?_⟩
        · rw [if_pos c5] at K
          refine rd_adv q r4 (fun h5 r5 _ => ?_)
          refine X3_readNumber_ok q r5 1 99 (fun h6 c6 r6 => ?_) (fun h6 c6 f6 => ?_)
          · rw [if_pos c6] at K
            refine ⟨fun _ => ?_, fun z => absurd z (nmX_nn (by decide) c6).1⟩
            have r7 := r6.put q (k := 10 + dy) (j := sf) (v := tkn B n (tke B n (tke B n (tke B n p)))) (by omega)
            have e9 : zI (zsI h6 (b + (10 + dy)) sf (tkn B n (tke B n (tke B n (tke B n p))))) b 9 = A 0 9 := by
              rw [zI_sI, zup_ne _ _ (by omega), r6.row0]
            rw [e9]
            exact X3_readStop_ok q (r7.put0 q) (fun v h' z => ⟨z.sh q, K v h' z⟩)
          · rw [if_neg c6] at K
            exact ⟨fun z => absurd rfl z, fun _ => ⟨f6.sh q, K (-1) _ ⟨rfl, f6⟩⟩⟩
        · rw [if_neg c5] at K
          exact rd_wrong q r4 3 (fun h' x => ⟨x.sh q, K (-1) h' ⟨rfl, x⟩⟩)
      · rw [if_neg c4] at K
        exact ⟨fun z => absurd rfl z, fun _ => ⟨f4.sh q, K (-1) _ ⟨rfl, f4⟩⟩⟩
    · rw [if_neg c2] at K
      exact ⟨fun z => absurd rfl z, fun _ => ⟨f2.sh q, K (-1) _ ⟨rfl, f2⟩⟩⟩
  · rw [if_neg c] at K
    exact rd_wrong q r 2 (fun h' x => ⟨x.sh q, K (-1) h' ⟨rfl, x⟩⟩)
end LN
