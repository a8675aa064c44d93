/-! reads of the model -/
def mlOK (I : Nat → Nat → Int32) : Prop := ∀ r, r < 3 → ∃ fr to : Nat, I 145 r = nI fr ∧ I 146 r = nI to ∧ fr ≤ to ∧ to ≤ 64 ∧ (fr < to → wfM (I 147) (I 148) (to - fr) fr 0) ∧ ∀ j, fr ≤ j → j < to → kvOK (I 147 j) (I 148 j)
def lwM (I : Nat → Nat → Int32) (r : Nat) (nm : Nat → Int64) : Int64 := if I 145 r < I 146 r then woS (fun k => opT (I 147 k) (I 148 k)) (I 148) nm ((I 146 r).toNatClampNeg - (I 145 r).toNatClampNeg) (I 145 r).toNatClampNeg [] else cERR
theorem mlOK_E {I I' : Nat → Nat → Int32} (h : mlOK I) (e1 : I' 145 = I 145) (e2 : I' 146 = I 146) (e3 : I' 147 = I 147) (e4 : I' 148 = I 148) : mlOK I' := by
  unfold mlOK at *
  rw [e1, e2, e3, e4]; exact h
theorem mE.ml {I I' : Nat → Nat → Int32} (q : mE I I') (h : mlOK I) : mlOK I' := mlOK_E h (q.1 145 (by decide)) (q.1 146 (by decide)) (q.1 147 (by decide)) (q.1 148 (by decide))
theorem lwM_E {I I' : Nat → Nat → Int32} {r : Nat} {nm : Nat → Int64} (e1 : I' 145 = I 145) (e2 : I' 146 = I 146) (e3 : I' 147 = I 147) (e4 : I' 148 = I 148) : lwM I' r nm = lwM I r nm := by
  unfold lwM
  rw [e1, e2, e3, e4]
theorem bnd_nmF (a b c e f g i : Int32) (k : Nat) : bnd (nmF a b c e f g i k) := by
  unfold nmF
  repeat' split
  all_goals exact bnd_i32 _
theorem X10_hasLaw_ok {G : zG} {d : Nat} {h : zMem} (hS : zSh2 h) {r : Nat} (hr : r < 6) : zConI G mX10_hasLaw d [.ref 132, .int (nI r)] h (fun v h' => v = (if zI h 145 r < zI h 146 r then 1 else 0) ∧ h' = h) := by
  refine cn_X10_hasLaw (sg_X10_hasLaw_0 hS ?_)
  rw [zcla (show r < 2 ^ 31 by omega)]
  refine ⟨zin_n hr (by decide), fun c => ⟨?_, rfl⟩, fun c => ⟨?_, rfl⟩⟩
  · rw [if_neg (Int32.not_lt.mpr c)]
  · rw [if_pos (Int32.not_le.mp c)]
theorem lwM_co {I : Nat → Nat → Int32} (hl : mlOK I) {r : Nat} (hr : r < 3) {nm : Nat → Int64} (hb : ∀ k, k < 7 → bnd (nm k)) (hh : I 145 r < I 146 r) : ∃ fr to : Nat, I 145 r = nI fr ∧ I 146 r = nI to ∧ fr ≤ to ∧ to ≤ 64 ∧ wfM (I 147) (I 148) (to - fr) fr 0 ∧ ((woM (I 147) (I 148) nm (to - fr) fr [] = none ∧ lwM I r nm = cERR) ∨ ∃ v, woM (I 147) (I 148) nm (to - fr) fr [] = some v ∧ lwM I r nm = v ∧ bnd v) := by
  obtain ⟨fr, to, e1, e2, h1, h2, h3, h4⟩ := hl r hr
  have hlt : fr < to := by rw [e1, e2] at hh; exact (nI_ltI (by omega) (by omega)).mp hh
  refine ⟨fr, to, e1, e2, h1, h2, h3 hlt, ?_⟩
  have := woS_woM (I 147) (I 148) nm hb (to - fr) fr [] (fun j a b => h4 j a (by omega)) (h3 hlt) trivial
  unfold lwM
  rw [if_pos hh, e1, e2, zcla (show fr < 2 ^ 31 by omega), zcla (show to < 2 ^ 31 by omega)]
  exact this
set_option maxHeartbeats 1000000 in
theorem X10_within_ok {G : zG} {d : Nat} {h : zMem} (hS : zSh2 h) (hl : mlOK (zI h)) {r : Nat} (hr : r < 3) (nm : Nat → Int64) (hnm : ∀ k, k < 7 → zL h 149 k = nm k) (hb : ∀ k, k < 7 → bnd (nm k)) (lo hi wo : Int32) :
    zConI G mX10_within (d + 3) [.ref 132, .int (nI r), .int lo, .int hi, .int wo] h (fun v h' => v = (if lwM (zI h) r nm = cERR then wo else withinF (lwM (zI h) r nm) lo hi) ∧ zW h h' ∧ mE (zI h) (zI h')) := by
  refine cn_X10_within (sg_X10_within_0 hS ⟨_, X10_hasLaw_ok hS (by omega), ?_⟩)
  rintro v h2 ⟨rfl, rfl⟩
  refine ⟨hS, fun c => ?_, fun c => ?_⟩
  · have hh : ¬ zI h2 145 r < zI h2 146 r := fun q => by rw [if_pos q] at c; exact absurd c (by decide)
    refine ⟨?_, zW.rf _, mE.rf _⟩
    have : lwM (zI h2) r nm = cERR := by unfold lwM; rw [if_neg hh]
    rw [this, if_pos rfl]
  · have hh : zI h2 145 r < zI h2 146 r := by
      by_cases q : zI h2 145 r < zI h2 146 r
      · exact q
      · rw [if_neg q] at c; exact absurd rfl c
    obtain ⟨fr, to, e1, e2, h1, h3, h4, h5⟩ := lwM_co hl hr hb hh
    refine ⟨_, X10_comesOut_ok hS (by omega) e1 e2 h1 h3 nm hnm h4, ?_⟩
    rintro v h7 ⟨w1, w2, w3⟩
    refine ⟨hS.W w1, fun c2 => ?_, fun c2 => ?_⟩
    · rcases w3 with ⟨q, -⟩ | ⟨w, -, q1, q2⟩
      · exact absurd q c2
      · rcases h5 with ⟨z, -⟩ | ⟨v', z1, z2, z3⟩
        · rw [z] at q1; exact absurd q1 (by simp)
        · rw [z1] at q1
          have : v' = w := Option.some.inj q1
          subst this
          have hne : ¬ v' = cERR := fun q => cERR_nb (q ▸ z3)
          refine ⟨?_, w1, w2⟩
          rw [z2, q2]
          show withinF v' lo hi = _
          rw [if_neg hne]
    · rcases w3 with ⟨-, q⟩ | ⟨w, q, -⟩
      · rcases h5 with ⟨-, z⟩ | ⟨v', z1, -⟩
        · rw [z, if_pos rfl]; exact ⟨rfl, w1, w2⟩
        · rw [z1] at q; exact absurd q (by simp)
      · rw [q] at c2; exact absurd c2 (by decide)
def ptM (I : Nat → Nat → Int32) (r : Nat) : Int32 := if I 132 48 = 5 then 100 else I 141 r
theorem X10_partIn_ok {G : zG} {d : Nat} {h : zMem} (hS : zSh2 h) {r : Nat} (hr : r < 12) : zConI G mX10_partIn d [.ref 132, .int (nI r)] h (fun v h' => v = ptM (zI h) r ∧ h' = h) := by
  refine cn_X10_partIn (sg_X10_partIn_0 hS ?_)
  rw [zcla (show r < 2 ^ 31 by omega)]
  unfold ptM
  refine ⟨fun c => ⟨zin_n hr (by decide), ?_, rfl⟩, fun c => ⟨?_, rfl⟩⟩
  · rw [if_neg c]
  · rw [if_pos c]
theorem X10_calls_ok {G : zG} {d : Nat} {h : zMem} (hS : zSh2 h) {a : Nat} (ha : a < 23) (much part left wind place nose : Int32) : zConV G mX10_calls d [.ref 132, .int (nI a), .int much, .int part, .int left, .int wind, .int place, .int nose] h (fun h' => zF h (zI h) h' ∧ ∀ k, k < 7 → zL h' 149 k = nmF much part left wind (zI h 151 a) place nose k) := by
  refine cn_X10_calls (sg_X10_calls_0 hS ?_)
  rw [zcla (show a < 2 ^ 31 by omega)]
  refine ⟨zin_n ha (by decide), ⟨⟨rfl, by
    funext j
    simp only [zL_sL, zup_a _ _ j (show (99 : Nat) ≠ 149 by decide)]⟩, rfl, rfl⟩, fun k hk => ?_⟩
  simp only [zL_sL, zI_sL]
  rcases (show k = 0 ∨ k = 1 ∨ k = 2 ∨ k = 3 ∨ k = 4 ∨ k = 5 ∨ k = 6 by omega) with rfl | rfl | rfl | rfl | rfl | rfl | rfl <;> simp [zup, nmF]
def keL (I : Nat → Nat → Int32) (a m r : Nat) : Int64 := lwM I 1 (nmF 0 (ptM I r) 0 0 (I 151 a) (nI r) (I 144 m))
def keF (I : Nat → Nat → Int32) (a m r : Nat) : Int32 := if keL I a m r = cERR then I 144 m else withinF (keL I a m r) 1 99
theorem keF_E {I I' : Nat → Nat → Int32} (q : mE I I') (a m r : Nat) : keF I' a m r = keF I a m r := by
  have e : keL I' a m r = keL I a m r := by
    unfold keL ptM
    rw [q.1 151 (by decide), q.1 144 (by decide), q.1 141 (by decide), q.2 48 (by decide)]
    exact lwM_E (q.1 145 (by decide)) (q.1 146 (by decide)) (q.1 147 (by decide)) (q.1 148 (by decide))
  unfold keF
  rw [e, q.1 144 (by decide)]
theorem X10_keenIn_ok {G : zG} {d : Nat} {h : zMem} (hS : zSh2 h) (hl : mlOK (zI h)) {a m r : Nat} (ha : a < 23) (hm : m < 10) (hr : r < 12) :
    zConI G mX10_keenIn (d + 4) [.ref 132, .int (nI a), .int (nI m), .int (nI r)] h (fun v h' => v = keF (zI h) a m r ∧ zW h h' ∧ mE (zI h) (zI h')) := by
  refine cn_X10_keenIn (sg_X10_keenIn_0 hS ⟨_, X10_partIn_ok hS hr, ?_⟩)
  rintro v h2 ⟨rfl, rfl⟩
  rw [zcla (show m < 2 ^ 31 by omega)]
  refine ⟨hS, zin_n hm (by decide), _, X10_calls_ok hS ha _ _ _ _ _ _, ?_⟩
  rintro h7 ⟨q1, q2⟩
  have hI : zI h7 = zI h2 := q1.2.2
  have hS7 : zSh2 h7 := hS.F q1
  refine ⟨hS7, _, X10_within_ok (d := d) hS7 (by rw [hI]; exact hl) (r := 1) (by decide) _ q2 (fun k _ => bnd_nmF _ _ _ _ _ _ _ k) _ _ _, ?_⟩
  rintro v h10 ⟨rfl, w1, w2⟩
  rw [hI] at w2 ⊢
  exact ⟨hS7.W w1, rfl, q1.w.trans w1, w2⟩
theorem X10_keenOf_ok {G : zG} {d : Nat} {h : zMem} (hS : zSh2 h) (hl : mlOK (zI h)) {a m r : Nat} (ha : a < 23) (hm : m < 5) (hrm : zI h 159 (5 * a + m) = nI r) (hr : r < 12) :
    zConI G mX10_keenOf (d + 5) [.ref 132, .int (nI a), .int (nI m)] h (fun v h' => v = keF (zI h) a m r ∧ zW h h' ∧ mE (zI h) (zI h')) := by
  refine cn_X10_keenOf (sg_X10_keenOf_0 hS ?_)
  rw [ix5, zcla (show 5 * a + m < 2 ^ 31 by omega), hrm]
  exact ⟨zin_n (by omega) (by decide), _, X10_keenIn_ok hS hl ha (by omega) hr, fun v h3 q => ⟨hS.W q.2.1, q⟩⟩
def cdM (I : Nat → Nat → Int32) (a m : Nat) : Int32 := if I 132 48 = 2 then 0 else I 160 (5 * a + m)
theorem X10_coldsOf_ok {G : zG} {d : Nat} {h : zMem} (hS : zSh2 h) {a m : Nat} (ha : a < 23) (hm : m < 5) : zConI G mX10_coldsOf d [.ref 132, .int (nI a), .int (nI m)] h (fun v h' => v = cdM (zI h) a m ∧ h' = h) := by
  refine cn_X10_coldsOf (sg_X10_coldsOf_0 hS ?_)
  rw [ix5, zcla (show 5 * a + m < 2 ^ 31 by omega)]
  unfold cdM
  refine ⟨fun c => ⟨zin_n (by omega) (by decide), ?_, rfl⟩, fun c => ⟨?_, rfl⟩⟩
  · rw [if_neg c]
  · rw [if_pos c]
def wtL (I : Nat → Nat → Int32) (a s : Nat) : Int64 := lwM I 2 (nmF (I 156 (6 * a + s)) 0 0 0 (I 151 a) 0 0)
def wtF (I : Nat → Nat → Int32) (a s : Nat) : Int32 := if wtL I a s = cERR then 1 else withinF (wtL I a s) 0 999
theorem X10_worthOf_ok {G : zG} {d : Nat} {h : zMem} (hS : zSh2 h) (hl : mlOK (zI h)) {a s : Nat} (ha : a < 23) (hs : s < 6) :
    zConI G mX10_worthOf (d + 4) [.ref 132, .int (nI a), .int (nI s)] h (fun v h' => v = wtF (zI h) a s ∧ zW h h' ∧ mE (zI h) (zI h')) := by
  refine cn_X10_worthOf (sg_X10_worthOf_0 hS ?_)
  rw [ix6, zcla (show 6 * a + s < 2 ^ 31 by omega)]
  refine ⟨zin_n (by omega) (by decide), _, X10_calls_ok hS ha _ _ _ _ _ _, ?_⟩
  rintro h3 ⟨q1, q2⟩
  have hI : zI h3 = zI h := q1.2.2
  have hS7 : zSh2 h3 := hS.F q1
  refine ⟨hS7, _, X10_within_ok (d := d) hS7 (by rw [hI]; exact hl) (r := 2) (by decide) _ q2 (fun k _ => bnd_nmF _ _ _ _ _ _ _ k) _ _ _, ?_⟩
  rintro v h10 ⟨rfl, w1, w2⟩
  rw [hI] at w2 ⊢
  exact ⟨hS7.W w1, rfl, q1.w.trans w1, w2⟩
def mxB (I : Nat → Nat → Int32) (d s : Nat) : Int32 := if I 132 50 = -1 then I 139 (6 * d + s) else if nI s = I 132 51 then I 139 (6 * d + (I 132 50).toNatClampNeg) else I 139 (6 * d + s)
def mxC (I : Nat → Nat → Int32) (d s : Nat) : Int32 := if nI d = I 132 52 then (if nI s = I 132 53 then mxB I d s + I 132 54 else mxB I d s) else mxB I d s
def mxM (I : Nat → Nat → Int32) (d s : Nat) : Int32 := if I 132 50 = -1 then mxC I d s else if nI s = I 132 50 then 0 else mxC I d s
theorem mxM_E {I I' : Nat → Nat → Int32} (q : mE I I') (d s : Nat) : mxM I' d s = mxM I d s := by
  unfold mxM mxC mxB
  rw [q.1 139 (by decide), q.2 50 (by decide), q.2 51 (by decide), q.2 52 (by decide), q.2 53 (by decide), q.2 54 (by decide)]
/-- a stuff in place of another one, or none -/
def plOK (I : Nat → Nat → Int32) : Prop := I 132 50 = -1 ∨ ∃ f, f < 6 ∧ I 132 50 = nI f
set_option maxHeartbeats 1000000 in
theorem X10_mixOf_ok {G : zG} {d : Nat} {h : zMem} (hS : zSh2 h) (hp : plOK (zI h)) {dy s : Nat} (hd : dy < 16) (hs : s < 6) : zConI G mX10_mixOf d [.ref 132, .int (nI dy), .int (nI s)] h (fun v h' => v = mxM (zI h) dy s ∧ h' = h) := by
  have hO : zO h 139 100 ∧ zLen h 139 = 96 := ⟨zcl1.o hS 139 100 rfl rfl rfl, zcl1.l hS 139 96 rfl rfl rfl⟩
  have J : ∀ j : Nat, j < 6 → zI h 139 (6 * dy + j) = mxB (zI h) dy s → mxM (zI h) dy s = mxC (zI h) dy s → zg G mX10_mixOf d 50 [.ref 132, .int (nI dy), .int (nI s), zU] [.int (nI j), .int ((6 : Int32) * nI dy), .ref 139] h (zPI (fun v h' => v = mxM (zI h) dy s ∧ h' = h)) := by
    intro j hj e1 e2
    refine sg_X10_mixOf_50 hS ?_
    rw [ix6, zcla (show 6 * dy + j < 2 ^ 31 by omega), hO.2, e1, e2]
    unfold mxC
    refine ⟨hO.1, zin_n (by omega) (by decide), fun c => ?_, fun c => ⟨fun c2 => ?_, fun c2 => ?_⟩⟩
    · rw [if_neg c]; exact ⟨rfl, rfl⟩
    · rw [if_pos c, if_neg c2]; exact ⟨rfl, rfl⟩
    · rw [if_pos c, if_pos c2]; exact ⟨rfl, rfl⟩
  refine cn_X10_mixOf (sg_X10_mixOf_0 hS ⟨fun c => ⟨fun _ => J s hs ?_ ?_, fun q => absurd c q⟩, fun c => ⟨fun c1 => ⟨fun q => absurd q c, fun _ => ⟨fun c2 => J s hs ?_ ?_, fun c2 => ?_⟩⟩, fun c1 => ⟨?_, rfl⟩⟩⟩)
  · unfold mxB; rw [if_pos c]
  · unfold mxM; rw [if_pos c]
  · unfold mxB; rw [if_neg c, if_neg c2]
  · unfold mxM; rw [if_neg c, if_neg c1]
  · rcases hp with q | ⟨f, hf, ef⟩
    · exact absurd q c
    · rw [ef]
      refine J f hf ?_ ?_
      · unfold mxB; rw [if_neg c, if_pos c2, ef, zcla (show f < 2 ^ 31 by omega)]
      · unfold mxM; rw [if_neg c, if_neg c1]
  · unfold mxM; rw [if_neg c, if_pos c1]
theorem nI_eq0 {k : Nat} (h : k < 2 ^ 31) (c : nI k ≤ 0) : k = 0 := by
  have := Int32.le_iff_toInt_le.mp c
  rw [nI_toInt h] at this
  have z : (0 : Int32).toInt = 0 := rfl
  omega
set_option maxHeartbeats 2000000 in
theorem X10_markBy_ok {G : zG} {d : Nat} {h : zMem} (hS : zSh2 h) (hp : plOK (zI h)) {ns dy r kn : Nat} (hn : zI h 134 0 = nI ns) (h6 : ns ≤ 6) (hd : dy < 16) (hr : r < 12) (hk : 1 ≤ kn) (hk2 : kn ≤ 99) (hmx : ∀ s, s < ns → ∃ n, n ≤ 198 ∧ mxM (zI h) dy s = nI n) (but : Int32) :
    zConI G mX10_markBy (d + 1) [.ref 132, .int (nI dy), .int (nI r), .int (nI kn), .int but] h (fun v h' => v = smeltF ns (mxM (zI h) dy) (ptM (zI h) r) (nI kn) but ∧ h' = h) := by
  refine cn_X10_markBy (sg_X10_markBy_0 hS ?_)
  have loop : ∀ n k, n + k = ns → zg G mX10_markBy (d + 1) 6 [.ref 132, .int (nI dy), .int (nI r), .int (nI kn), .int but, .int (bitsF (mxM (zI h) dy) (ptM (zI h) r) (nI kn) k), .int (nI k), zU] [] h (zPI (fun v h' => v = smeltF ns (mxM (zI h) dy) (ptM (zI h) r) (nI kn) but ∧ h' = h)) := by
    intro n
    induction n with
    | zero =>
      intro k hk
      have : k = ns := by omega
      subst this
      refine sg_X10_markBy_6 hS ?_
      rw [hn]
      exact ⟨fun _ => ⟨rfl, rfl⟩, fun c => absurd (nI_le (Nat.le_refl _) (by omega)) c⟩
    | succ n ih =>
      intro k hk
      refine sg_X10_markBy_6 hS ?_
      rw [hn, nI_1]
      refine ⟨fun c => absurd c (nI_ge (by omega) (by omega)), fun _ => ⟨_, X10_mixOf_ok hS hp hd (by omega), ?_⟩⟩
      rintro v h3 ⟨rfl, rfl⟩
      have nx := ih (k + 1) (by omega)
      obtain ⟨q, hq, eq⟩ := hmx k (by omega)
      refine ⟨hS, fun c => ?_, fun c => ⟨_, X10_partIn_ok hS hr, ?_⟩⟩
      · have q0 : q = 0 := nI_eq0 (by omega) (by rw [← eq]; exact c)
        have lt : mxM (zI h3) dy k * ptM (zI h3) r / 100 < nI kn := by
          rw [eq, q0]
          have : nI 0 * ptM (zI h3) r / 100 = nI 0 := by
            show (0 : Int32) * ptM (zI h3) r / 100 = 0
            rw [Int32.zero_mul]; rfl
          rw [this]
          exact (nI_ltI (by decide) (by omega)).mpr (by omega)
        rw [show bitsF (mxM (zI h3) dy) (ptM (zI h3) r) (nI kn) k ||| 0 = bitsF (mxM (zI h3) dy) (ptM (zI h3) r) (nI kn) (k + 1) by unfold bitsF; rw [if_pos lt]; cases k <;> simp [bitsF]]
        exact nx
      · rintro v h8 ⟨rfl, rfl⟩
        refine ⟨hS, fun c2 => ?_, fun c2 => ?_⟩
        · rw [show bitsF (mxM (zI h8) dy) (ptM (zI h8) r) (nI kn) k ||| 0 = bitsF (mxM (zI h8) dy) (ptM (zI h8) r) (nI kn) (k + 1) by rw [bitsF, if_pos c2]; simp]
          exact nx
        · rw [show bitsF (mxM (zI h8) dy) (ptM (zI h8) r) (nI kn) k ||| ((1 : Int32) <<< (nI k &&& 31)) = bitsF (mxM (zI h8) dy) (ptM (zI h8) r) (nI kn) (k + 1) by rw [bitsF, if_neg c2]]
          exact nx
  exact loop ns 0 (by omega)
theorem withinF_rg (v : Int64) {lo hi : Nat} (h1 : lo ≤ hi) (h2 : hi < 2 ^ 31) : ∃ k, lo ≤ k ∧ k ≤ hi ∧ withinF v (nI lo) (nI hi) = nI k := by
  have e1 : (nI lo).toInt64.toInt = lo := by rw [Int32.toInt_toInt64, nI_toInt (by omega)]
  have e2 : (nI hi).toInt64.toInt = hi := by rw [Int32.toInt_toInt64, nI_toInt h2]
  have K : ∀ w : Int64, (lo : Int) ≤ w.toInt → w.toInt ≤ hi → ∃ k : Nat, lo ≤ k ∧ k ≤ hi ∧ w.toInt32 = nI k := by
    intro w a b
    refine ⟨w.toInt.toNat, by omega, by omega, ?_⟩
    apply Int32.toInt_inj.mp
    rw [Int64.toInt_toInt32, nI_toInt (by omega)]
    rw [Int.bmod_eq_of_le (by omega) (by omega)]
    omega
  unfold withinF
  by_cases c : v < (nI hi).toInt64
  · have c' := Int64.lt_iff_toInt_lt.mp c
    rw [e2] at c'
    simp only [if_pos c]
    by_cases c2 : v < (nI lo).toInt64
    · simp only [if_pos c2]; exact K _ (by rw [e1]; omega) (by rw [e1]; omega)
    · have c2' : ¬ v.toInt < lo := fun q => c2 (Int64.lt_iff_toInt_lt.mpr (by rw [e1]; exact q))
      simp only [if_neg c2]; exact K _ (by omega) (by omega)
  · simp only [if_neg c]
    by_cases c2 : (nI hi).toInt64 < (nI lo).toInt64
    · have := Int64.lt_iff_toInt_lt.mp c2
      rw [e1, e2] at this
      omega
    · simp only [if_neg c2]; exact K _ (by rw [e2]; omega) (by rw [e2]; omega)
theorem keF_rg {I : Nat → Nat → Int32} {m : Nat} (hn : ∃ j, 1 ≤ j ∧ j ≤ 99 ∧ I 144 m = nI j) (a r : Nat) : ∃ k, 1 ≤ k ∧ k ≤ 99 ∧ keF I a m r = nI k := by
  unfold keF
  by_cases c : keL I a m r = cERR
  · rw [if_pos c]; exact hn
  · rw [if_neg c]; exact withinF_rg _ (lo := 1) (hi := 99) (by decide) (by decide)
def mkM (I : Nat → Nat → Int32) (ns a m r dy : Nat) : Int32 := smeltF ns (mxM I dy) (ptM I r) (keF I a m r) (cdM I a m)
set_option maxHeartbeats 1000000 in
theorem X10_markOf_ok {G : zG} {d : Nat} {h : zMem} (hS : zSh2 h) (hl : mlOK (zI h)) (hp : plOK (zI h)) {ns a m r dy : Nat} (hn : zI h 134 0 = nI ns) (h6 : ns ≤ 6) (hd : dy < 16) (ha : a < 23) (hm : m < 5) (hrm : zI h 159 (5 * a + m) = nI r) (hr : r < 12) (hno : ∃ j, 1 ≤ j ∧ j ≤ 99 ∧ zI h 144 m = nI j) (hmx : ∀ s, s < ns → ∃ n, n ≤ 198 ∧ mxM (zI h) dy s = nI n) :
    zConI G mX10_markOf (d + 6) [.ref 132, .int (nI a), .int (nI m), .int (nI dy)] h (fun v h' => v = mkM (zI h) ns a m r dy ∧ zW h h' ∧ mE (zI h) (zI h')) := by
  refine cn_X10_markOf (sg_X10_markOf_0 hS ?_)
  rw [ix5, zcla (show 5 * a + m < 2 ^ 31 by omega), hrm]
  refine ⟨zin_n (by omega) (by decide), _, X10_keenOf_ok hS hl ha hm hrm hr, ?_⟩
  rintro v h3 ⟨rfl, w1, w2⟩
  have hS3 := hS.W w1
  refine ⟨hS3, _, X10_coldsOf_ok hS3 ha hm, ?_⟩
  rintro v h7 ⟨rfl, rfl⟩
  obtain ⟨kn, k1, k2, ek⟩ := keF_rg hno a r
  have em : mxM (zI h7) dy = mxM (zI h) dy := funext fun s => mxM_E w2 dy s
  have ep : ptM (zI h7) r = ptM (zI h) r := by unfold ptM; rw [w2.1 141 (by decide), w2.2 48 (by decide)]
  have ec : cdM (zI h7) a m = cdM (zI h) a m := by unfold cdM; rw [w2.1 160 (by decide), w2.2 48 (by decide)]
  have hp7 : plOK (zI h7) := by unfold plOK; rw [w2.2 50 (by decide)]; exact hp
  rw [ek, ec]
  refine ⟨hS3, _, X10_markBy_ok hS3 hp7 (by rw [w2.1 134 (by decide)]; exact hn) h6 hd hr k1 k2 (by rw [em]; exact hmx) _, ?_⟩
  rintro v h11 ⟨rfl, rfl⟩
  refine ⟨hS3, ?_, w1, w2⟩
  unfold mkM
  rw [em, ep, ek]
