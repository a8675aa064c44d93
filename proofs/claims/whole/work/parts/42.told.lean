/-! what is told, and a state of the class: reads -/
def lawV (I : Nat → Nat → Int32) (l r : Nat) (nm : Nat → Int64) : Int64 := if I (l + 5) r = 0 then cERR else woS (I (l + 1)) (I (l + 2)) nm ((I (l + 4) r).toNatClampNeg - (I (l + 3) r).toNatClampNeg) (I (l + 3) r).toNatClampNeg []
def lwOK (I : Nat → Nat → Int32) (l : Nat) : Prop := ∀ r, r < 3 → I (l + 5) r ≠ 0 → ∃ fr to : Nat, I (l + 3) r = nI fr ∧ I (l + 4) r = nI to ∧ fr ≤ to ∧ to ≤ 64
def tdOK (I : Nat → Nat → Int32) (t ns nd nr nm : Nat) : Prop := I (t + 1) 0 = nI ns ∧ I (t + 1) 1 = nI nd ∧ I (t + 1) 2 = nI nr ∧ I (t + 1) 3 = nI nm ∧ ns ≤ 6 ∧ nd ≤ 8 ∧ nr ≤ 6 ∧ nm ≤ 5 ∧ lwOK I (t + 21)
theorem X0_workOut_ok2 {G : zG} {d t l : Nat} {h : zMem} (hS : zSh1 h t) (hl : isLw l) {r : Nat} (hr : r < 3) (nm : Nat → Int64) (hnm : ∀ k, k < 7 → zL h (l + 6) k = nm k) (hw : lwOK (zI h) l) :
    zConL G mX0_workOut (d + 1) [.ref l, .int (nI r)] h (fun v h' => v = lawV (zI h) l r nm ∧ zF h (zI h) h') := by
  by_cases c : zI h (l + 5) r = 0
  · have := X0_workOut_ok (G := G) (d := d) hS hl (fr := 0) (to := 0) hr nm hnm (fun q => absurd c q)
    unfold lawV
    rw [if_pos c] at *
    exact this
  · obtain ⟨fr, to, e1, e2, e3, e4⟩ := hw r hr c
    have := X0_workOut_ok (G := G) (d := d) hS hl (fr := fr) (to := to) hr nm hnm (fun _ => ⟨e1, e2, e3, e4⟩)
    unfold lawV
    rw [e1, e2, zcla (show fr < 2 ^ 31 by omega), zcla (show to < 2 ^ 31 by omega)]
    exact this
/-- which stuffs are smelt: bits -/
def bitsF (f : Nat → Int32) (p keen : Int32) : Nat → Int32
  | 0 => 0
  | k + 1 => if f k * p / 100 < keen then bitsF f p keen k else bitsF f p keen k ||| (1 <<< (nI k &&& 31))
def smeltF (ns : Nat) (f : Nat → Int32) (p keen colds : Int32) : Int32 := bitsF f p keen ns &&& (colds ^^^ (-1))
set_option maxHeartbeats 4000000 in
theorem X7_smelt_ok {G : zG} {d t b : Nat} {h : zMem} (hS : zSh1 h t) (hb : isTd b) {ns a : Nat} (hn : zI h (b + 1) 0 = nI ns) (h6 : ns ≤ 6) (ho : zO h a 100) (hl : zLen h a = 6) (p keen colds : Int32) :
    zConI G mX7_smelt d [.ref b, .ref a, .int p, .int keen, .int colds] h (fun v h' => v = smeltF ns (zI h a) p keen colds ∧ h' = h) := by
  refine cn_X7_smelt (sg_X7_smelt_0 hS hb ?_)
  have loop : ∀ n k, n + k = ns → zg G mX7_smelt d 6 [.ref b, .ref a, .int p, .int keen, .int colds, .int (bitsF (zI h a) p keen k), .int (nI k)] [] h (zPI (fun v h' => v = smeltF ns (zI h a) p keen colds ∧ h' = h)) := by
    intro n
    induction n with
    | zero =>
      intro k hk
      refine sg_X7_smelt_6 hS hb ⟨fun _ => ⟨?_, rfl⟩, fun c => absurd ?_ c⟩
      · rw [← hk, Nat.zero_add]; rfl
      · rw [hn, ← hk, Nat.zero_add]; exact nI_le (Nat.le_refl _) (by omega)
    | succ n ih =>
      intro k hk
      refine sg_X7_smelt_6 hS hb ⟨fun c => absurd c ?_, fun _ => ⟨ho, by rw [hl]; exact zin_n (by omega) (by decide), ?_⟩⟩
      · rw [hn]; exact nI_ge (by omega) (by omega)
      · rw [zcla (show k < 2 ^ 31 by omega), nI_1]
        have e := ih (k + 1) (by omega)
        simp only [bitsF] at e
        refine ⟨fun c => ?_, fun c => ?_⟩
        · rw [if_pos c] at e; exact e
        · rw [if_neg c] at e; exact e
  exact loop ns 0 (by omega)
/-- the first of a row that is x; -1 -/
def findF (f : Nat → Int32) (x : Int32) : Nat → Nat → Int32
  | 0, _ => -1
  | n + 1, k => if f k = x then nI k else findF f x n (k + 1)
set_option maxHeartbeats 4000000 in
theorem X7_numberOf_ok {G : zG} {d t b : Nat} {h : zMem} (hS : zSh1 h t) (hb : isTd b) {n kd : Nat} (hk : kd < 4) (hn : zI h (b + 1) kd = nI n) (h8 : n ≤ 8) (x : Int32) :
    zConI G mX7_numberOf d [.ref b, .int (nI kd), .int x] h (fun v h' => v = findF (zI h (b + 2 + 1 + kd)) x n 0 ∧ h' = h) := by
  refine cn_X7_numberOf (sg_X7_numberOf_0 hS hb ?_)
  obtain ⟨W, hW⟩ : ∃ W, findF (zI h (b + 2 + 1 + kd)) x n 0 = W := ⟨_, rfl⟩
  rw [hW]
  have loop : ∀ m k, m + k = n → findF (zI h (b + 2 + 1 + kd)) x m k = W → zg G mX7_numberOf d 2 [.ref b, .int (nI kd), .int x, .int (nI k)] [] h (zPI (fun v h' => v = W ∧ h' = h)) := by
    intro m
    induction m with
    | zero =>
      intro k hk2 hW
      refine sg_X7_numberOf_2 hS hb ?_
      rw [zcla (show kd < 2 ^ 31 by omega)]
      refine ⟨zin_n hk (by decide), fun _ => ⟨hW, rfl⟩, fun c => absurd ?_ c⟩
      rw [hn, ← hk2, Nat.zero_add]; exact nI_le (Nat.le_refl _) (by omega)
    | succ m ih =>
      intro k hk2 hW
      refine sg_X7_numberOf_2 hS hb ?_
      rw [zcla (show kd < 2 ^ 31 by omega), zcla (show k < 2 ^ 31 by omega), nI_1]
      refine ⟨zin_n hk (by decide), fun c => absurd c ?_, fun _ => ⟨zin_n (by omega) (by decide), fun c => ih (k + 1) (by omega) ?_, fun c => ⟨?_, rfl⟩⟩⟩
      · rw [hn]; exact nI_ge (by omega) (by omega)
      · rw [← hW, findF, if_neg c]
      · rw [← hW, findF, if_pos c]
  exact loop n 0 (by omega) hW
/-- the mix of a stuff on a date -/
def mixOn (I : Nat → Nat → Int32) (t nd dt s : Nat) : Int32 := if nd = 0 then 0 else I (t + 9 + 1 + dt % nd) s
set_option maxHeartbeats 4000000 in
theorem X7_mixedOn_ok {G : zG} {d t b : Nat} {h : zMem} (hS : zSh1 h t) (hb : isTd b) {nd dt s : Nat} (hn : zI h (b + 1) 1 = nI nd) (h8 : nd ≤ 8) (hd : dt < 2 ^ 31) (hs : s < 6) :
    zConI G mX7_mixedOn d [.ref b, .int (nI dt), .int (nI s)] h (fun v h' => v = mixOn (zI h) b nd dt s ∧ h' = h) := by
  refine cn_X7_mixedOn (sg_X7_mixedOn_0 hS hb ?_)
  rw [hn]
  refine ⟨fun c => ⟨?_, rfl⟩, fun c => ?_⟩
  · have := (nI_leI (by omega) (by decide)).mp (show nI nd ≤ nI 0 from c)
    unfold mixOn; rw [if_pos (by omega)]
  · have hpos : 0 < nd := Nat.pos_of_ne_zero (fun e => c (by rw [e]; decide))
    have hlt := Nat.mod_lt dt hpos
    rw [pk_rem hd hpos (by omega), zcla (show dt % nd < 2 ^ 31 by omega), zcla (show s < 2 ^ 31 by omega)]
    refine ⟨nI_ne0 hpos (by omega), zin_n (by omega) (by decide), zin_n hs (by decide), ?_, rfl⟩
    unfold mixOn; rw [if_neg (by omega)]
def withinF (v : Int64) (lo hi : Int32) : Int32 := (if (if v < hi.toInt64 then v else hi.toInt64) < lo.toInt64 then lo.toInt64 else (if v < hi.toInt64 then v else hi.toInt64)).toInt32
theorem X5_within_ok {G : zG} {d t : Nat} {h : zMem} (hS : zSh1 h t) (v : Int64) (lo hi : Int32) : zConI G mX5_within (d + 1) [.long v, .int lo, .int hi] h (fun r h' => r = withinF v lo hi ∧ h' = h) :=
  cn_X5_within (sg_X5_within_0 hS ⟨rfl, rfl⟩)
def airLawV (I : Nat → Nat → Int32) (b t p s : Nat) (mixed : Int32) : Int64 := lawV I (t + 21) 0 (nmF mixed (I (b + 3) p) (I (b + 4 + 1 + p) s) (I (b + 2) s) (I b 10) (nI p) 0)
def keenLawV (I : Nat → Nat → Int32) (b t m p : Nat) : Int64 := lawV I (t + 21) 1 (nmF 0 (I (b + 3) p) 0 0 (I b 10) (nI p) (I (t + 20) m))
def worthLawV (I : Nat → Nat → Int32) (b t s : Nat) : Int64 := lawV I (t + 21) 2 (nmF (I (b + 1) s) 0 0 0 (I b 10) 0 0)
set_option maxHeartbeats 4000000 in
theorem X5_airLaw_ok {G : zG} {d t b td : Nat} {h : zMem} (hS : zSh1 h t) (hb : isSt b) (ht : isTd td) {p s : Nat} (hp : p < 6) (hs : s < 6) (hw : lwOK (zI h) (td + 21)) (mixed : Int32) :
    zConL G mX5_airLaw (d + 2) [.ref b, .ref td, .int (nI p), .int (nI s), .int mixed] h (fun v h' => v = airLawV (zI h) b td p s mixed ∧ zF h (zI h) h') := by
  refine cn_X5_airLaw (sg_X5_airLaw_0 hS hb ht ?_)
  rw [zcla (show p < 2 ^ 31 by omega), zcla (show s < 2 ^ 31 by omega)]
  refine ⟨zin_n hp (by decide), zin_n hs (by decide), _, X0_setNames_ok hS ht.lw _ _ _ _ _ _ _, fun h4 q4 => ⟨hS.F q4.1, _, X0_workOut_ok2 (r := 0) (hS.F q4.1) ht.lw (by decide) _ q4.2 (by rw [q4.1.2.2]; exact hw), ?_⟩⟩
  rintro v h5 ⟨rfl, q5⟩
  refine ⟨(hS.F q4.1).F q5, ?_, ?_⟩
  · rw [q4.1.2.2]; rfl
  · have := q4.1.trans q5
    rw [q4.1.2.2] at this
    exact this
set_option maxHeartbeats 4000000 in
theorem X5_keenLaw_ok {G : zG} {d t b td : Nat} {h : zMem} (hS : zSh1 h t) (hb : isSt b) (ht : isTd td) {p m : Nat} (hp : p < 6) (hm : m < 5) (hw : lwOK (zI h) (td + 21)) :
    zConL G mX5_keenLaw (d + 2) [.ref b, .ref td, .int (nI m), .int (nI p)] h (fun v h' => v = keenLawV (zI h) b td m p ∧ zF h (zI h) h') := by
  refine cn_X5_keenLaw (sg_X5_keenLaw_0 hS hb ht ?_)
  rw [zcla (show p < 2 ^ 31 by omega), zcla (show m < 2 ^ 31 by omega)]
  refine ⟨zin_n hp (by decide), zin_n hm (by decide), _, X0_setNames_ok hS ht.lw _ _ _ _ _ _ _, fun h4 q4 => ⟨hS.F q4.1, _, X0_workOut_ok2 (r := 1) (hS.F q4.1) ht.lw (by decide) _ q4.2 (by rw [q4.1.2.2]; exact hw), ?_⟩⟩
  rintro v h5 ⟨rfl, q5⟩
  refine ⟨(hS.F q4.1).F q5, ?_, ?_⟩
  · rw [q4.1.2.2]; rfl
  · have := q4.1.trans q5
    rw [q4.1.2.2] at this
    exact this
set_option maxHeartbeats 4000000 in
theorem X5_worthLaw_ok {G : zG} {d t b td : Nat} {h : zMem} (hS : zSh1 h t) (hb : isSt b) (ht : isTd td) {s : Nat} (hs : s < 6) (hw : lwOK (zI h) (td + 21)) :
    zConL G mX5_worthLaw (d + 2) [.ref b, .ref td, .int (nI s)] h (fun v h' => v = worthLawV (zI h) b td s ∧ zF h (zI h) h') := by
  refine cn_X5_worthLaw (sg_X5_worthLaw_0 hS hb ht ?_)
  rw [zcla (show s < 2 ^ 31 by omega)]
  refine ⟨zin_n hs (by decide), _, X0_setNames_ok hS ht.lw _ _ _ _ _ _ _, fun h4 q4 => ⟨hS.F q4.1, _, X0_workOut_ok2 (r := 2) (hS.F q4.1) ht.lw (by decide) _ q4.2 (by rw [q4.1.2.2]; exact hw), ?_⟩⟩
  rintro v h5 ⟨rfl, q5⟩
  refine ⟨(hS.F q4.1).F q5, ?_, ?_⟩
  · rw [q4.1.2.2]; rfl
  · have := q4.1.trans q5
    rw [q4.1.2.2] at this
    exact this
def keenF (I : Nat → Nat → Int32) (b t m p : Nat) : Int32 := if keenLawV I b t m p = cERR then I (t + 20) m else withinF (keenLawV I b t m p) 1 99
def worthF (I : Nat → Nat → Int32) (b t s : Nat) : Int32 := if worthLawV I b t s = cERR then 1 else withinF (worthLawV I b t s) 0 999
set_option maxHeartbeats 4000000 in
theorem X5_keenOf_ok {G : zG} {d t b td : Nat} {h : zMem} (hS : zSh1 h t) (hb : isSt b) (ht : isTd td) {p m : Nat} (hp : p < 6) (hm : m < 5) (hw : lwOK (zI h) (td + 21)) :
    zConI G mX5_keenOf (d + 3) [.ref b, .ref td, .int (nI m), .int (nI p)] h (fun v h' => v = keenF (zI h) b td m p ∧ zF h (zI h) h') := by
  refine cn_X5_keenOf (sg_X5_keenOf_0 hS hb ht ⟨_, X5_keenLaw_ok hS hb ht hp hm hw, ?_⟩)
  rintro v h2 ⟨rfl, q2⟩
  rw [zcla (show m < 2 ^ 31 by omega), lg_cmp_eq]
  refine ⟨hS.F q2, fun c => ⟨_, X5_within_ok (hS.F q2) _ _ _, ?_⟩, fun c => ⟨zin_n hm (by decide), ?_, q2⟩⟩
  · rintro v h3 ⟨rfl, rfl⟩
    exact ⟨hS.F q2, by unfold keenF; rw [if_neg c], q2⟩
  · rw [q2.2.2]; unfold keenF; rw [if_pos c]
set_option maxHeartbeats 4000000 in
theorem X5_worthOf_ok {G : zG} {d t b td : Nat} {h : zMem} (hS : zSh1 h t) (hb : isSt b) (ht : isTd td) {s : Nat} (hs : s < 6) (hw : lwOK (zI h) (td + 21)) :
    zConI G mX5_worthOf (d + 3) [.ref b, .ref td, .int (nI s)] h (fun v h' => v = worthF (zI h) b td s ∧ zF h (zI h) h') := by
  refine cn_X5_worthOf (sg_X5_worthOf_0 hS hb ht ⟨_, X5_worthLaw_ok hS hb ht hs hw, ?_⟩)
  rintro v h2 ⟨rfl, q2⟩
  rw [lg_cmp_eq]
  refine ⟨hS.F q2, fun c => ⟨_, X5_within_ok (hS.F q2) _ _ _, ?_⟩, fun c => ⟨?_, q2⟩⟩
  · rintro v h3 ⟨rfl, rfl⟩
    exact ⟨hS.F q2, by unfold worthF; rw [if_neg c], q2⟩
  · unfold worthF; rw [if_pos c]
/-- a day's mark for a monk in a room, by keen -/
def markF (I : Nat → Nat → Int32) (b t ns m r day : Nat) (keen : Int32) : Int32 := smeltF ns (I (t + 9 + 1 + day)) (I (b + 3) r) keen (I (b + 12) m)
set_option maxHeartbeats 4000000 in
theorem X5_markOf_ok {G : zG} {d t b td : Nat} {h : zMem} (hS : zSh1 h t) (hb : isSt b) (ht : isTd td) {ns m r day : Nat} (hn : zI h (td + 1) 0 = nI ns) (h6 : ns ≤ 6) (hm : m < 5) (hday : day < 8) (hr : zI h (b + 11) m = nI r) (hr6 : r < 6) (keen : Int32) :
    zConI G mX5_markOf (d + 1) [.ref b, .ref td, .int (nI m), .int (nI day), .int keen] h (fun v h' => v = markF (zI h) b td ns m r day keen ∧ h' = h) := by
  refine cn_X5_markOf (sg_X5_markOf_0 hS hb ht ?_)
  have hrow := zS_trow hS ht 9 8 6 rfl rfl rfl (zin_n hday (by decide))
  rw [zcla (show day < 2 ^ 31 by omega)] at hrow
  rw [zcla (show m < 2 ^ 31 by omega), zcla (show day < 2 ^ 31 by omega), hr, zcla (show r < 2 ^ 31 by omega)]
  refine ⟨zin_n hday (by decide), zin_n hm (by decide), zin_n hr6 (by decide), _, X7_smelt_ok hS ht hn h6 hrow.2.1 hrow.2.2 _ _ _, ?_⟩
  rintro v h2 ⟨rfl, rfl⟩
  exact ⟨hS, rfl, rfl⟩
