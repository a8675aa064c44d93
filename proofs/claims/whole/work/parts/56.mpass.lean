/-! a whole morning of the model -/
def arLN (I : Nat → Nat → Int32) (a nd dt p s : Nat) : Int64 := lwM I 0 (nmF (tkM I a nd dt s) (ptM I p) (leM I a p s) (I 157 (6 * a + s)) (I 151 a) (nI p) 0)
def arN (I : Nat → Nat → Int32) (a nd dt p s : Nat) : Int32 := if arLN I a nd dt p s = cERR then (tkM I a nd dt s * ptM I p) / 100 + (leM I a p s * I 134 5) / 100 + I 157 (6 * a + s) else withinF (arLN I a nd dt p s) 0 9999
def rmN (I : Nat → Nat → Int32) (a m : Nat) : Nat := (I 159 (5 * a + m)).toNatClampNeg
def smN (I : Nat → Nat → Int32) (a ns nd dt m : Nat) : Int32 := smeltF ns (fun s => arN I a nd dt (rmN I a m) s) 100 (keF I a m (rmN I a m)) (cdM I a m)
def thN (I : Nat → Nat → Int32) (a ns nd dt m : Nat) : Int32 := if nd = 0 then I 162 (5 * a + m) else nI (thkF (fun day => decide (mkM I ns a m (rmN I a m) day = smN I a ns nd dt m)) nd (I 162 (5 * a + m)).toNatClampNeg nd 1)
def moN (I : Nat → Nat → Int32) (a ns nd nm dt : Nat) : Nat := mostF (thN I a ns nd dt) (abM I) nm nd (dt % nd)
def mdOK (I : Nat → Nat → Int32) (ns nd nr nm : Nat) : Prop := I 134 0 = nI ns ∧ I 134 1 = nI nd ∧ I 134 3 = nI nr ∧ I 134 4 = nI nm ∧ ns ≤ 6 ∧ nd ≤ 8 ∧ nr ≤ 6 ∧ nm ≤ 5 ∧ mlOK I ∧ plOK I ∧ (∀ m, m < nm → ∃ j, 1 ≤ j ∧ j ≤ 99 ∧ I 144 m = nI j) ∧ (∀ dy s, dy < nd → s < ns → ∃ n, n ≤ 198 ∧ mxM I dy s = nI n) ∧ (∃ g, g ≤ 100 ∧ I 134 5 = nI g) ∧ (∀ p, p < nr → ∃ q, q ≤ 100 ∧ I 141 p = nI q)
def airB (dt : Nat) : Nat := 9999 + 500 * dt
def abOK (I : Nat → Nat → Int32) (a ns nd nr nm dt : Nat) : Prop := (∀ m, m < nm → ∃ r, r < nr ∧ I 159 (5 * a + m) = nI r) ∧ (∀ m, m < nm → 0 < nd → ∃ j, j < nd ∧ I 162 (5 * a + m) = nI j) ∧ I 151 a = nI dt ∧ (∀ s, s < ns → ∃ w, w ≤ 297 ∧ I 157 (6 * a + s) = nI w) ∧ (∀ p s, p < nr → s < ns → ∃ n, n ≤ airB dt ∧ I 158 (36 * a + 6 * p + s) = nI n) ∧ (∀ s, s < ns → ∃ n, n ≤ 9999 ∧ I 156 (6 * a + s) = nI n)
def passR (I I' : Nat → Nat → Int32) (a ns nd nr nm dt : Nat) : Prop :=
  (∀ c, c ≠ 132 → c ≠ 151 → c ≠ 152 → c ≠ 153 → c ≠ 154 → c ≠ 156 → c ≠ 157 → c ≠ 158 → c ≠ 161 → c ≠ 162 → c ≠ 163 → c ≠ 164 → I' c = I c) ∧ (∀ k, k ≠ 33 → I' 132 k = I 132 k) ∧
  (∀ x, x ≠ a → I' 151 x = I 151 x ∧ I' 152 x = I 152 x ∧ I' 153 x = I 153 x ∧ I' 154 x = I 154 x) ∧ (∀ j, j < 6 * a ∨ 6 * a + 6 ≤ j → I' 156 j = I 156 j ∧ I' 157 j = I 157 j) ∧ (∀ j, j < 36 * a ∨ 36 * a + 36 ≤ j → I' 158 j = I 158 j) ∧ (∀ j, j < 5 * a ∨ 5 * a + 5 ≤ j → I' 161 j = I 161 j ∧ I' 162 j = I 162 j) ∧
  I' 151 a = I 151 a + 1 ∧ (∀ s, s < ns → I' 156 (6 * a + s) = stM I a nd dt s) ∧ (∀ s, s < 6 → I' 157 (6 * a + s) = 0) ∧ (∀ p s, p < nr → s < ns → I' 158 (36 * a + 6 * p + s) = arN I a nd dt p s) ∧ (∀ m, m < nm → I' 161 (5 * a + m) = smN I a ns nd dt m ∧ I' 162 (5 * a + m) = thN I a ns nd dt m) ∧
  (nd = 0 → I' 152 a = I 152 a ∧ I' 153 a = I 153 a ∧ I' 154 a = I 154 a) ∧ (0 < nd → I' 152 a = nI (moN I a ns nd nm dt) ∧ I' 153 a = I 153 a + (if moN I a ns nd nm dt = dt % nd then 1 else 0) ∧ I' 154 a = I 154 a + (if I 138 (moN I a ns nd nm dt) = I 138 (dt % nd) then 0 else 1))
theorem keF_C {I I' : Nat → Nat → Int32} (h1 : I' 151 = I 151) (h2 : I' 144 = I 144) (h3 : I' 141 = I 141) (h4 : I' 145 = I 145) (h5 : I' 146 = I 146) (h6 : I' 147 = I 147) (h7 : I' 148 = I 148) (h8 : I' 132 48 = I 132 48) (a m r : Nat) : keF I' a m r = keF I a m r := by
  have e : keL I' a m r = keL I a m r := by
    unfold keL ptM
    rw [h1, h2, h3, h8]
    exact lwM_E h4 h5 h6 h7
  unfold keF
  rw [e, h2]
theorem mxM_K {I I' : Nat → Nat → Int32} (h1 : ∀ k, k ≠ 33 → I' 132 k = I 132 k) (h2 : I' 139 = I 139) (d s : Nat) : mxM I' d s = mxM I d s := by
  unfold mxM mxC mxB
  rw [h1 50 (by decide), h1 51 (by decide), h1 52 (by decide), h1 53 (by decide), h1 54 (by decide), h2]
theorem mkM_C {I I' : Nat → Nat → Int32} (h1 : I' 151 = I 151) (h2 : I' 144 = I 144) (h3 : I' 141 = I 141) (h4 : I' 145 = I 145) (h5 : I' 146 = I 146) (h6 : I' 147 = I 147) (h7 : I' 148 = I 148) (h8 : ∀ k, k ≠ 33 → I' 132 k = I 132 k) (h9 : I' 139 = I 139) (h10 : I' 160 = I 160) (ns a m r dy : Nat) : mkM I' ns a m r dy = mkM I ns a m r dy := by
  have em : mxM I' dy = mxM I dy := funext fun s => mxM_K h8 h9 dy s
  have ep : ptM I' r = ptM I r := by unfold ptM; rw [h3, h8 48 (by decide)]
  have ec : cdM I' a m = cdM I a m := by unfold cdM; rw [h10, h8 48 (by decide)]
  unfold mkM
  rw [em, ep, ec, keF_C h1 h2 h3 h4 h5 h6 h7 (h8 48 (by decide))]
theorem div100 {n : Nat} (h : n < 2 ^ 31) : nI n / 100 = nI (n / 100) := pk_div (d := 100) h (by decide) (by decide)
/-- how much is in the air is bounded by the date -/
theorem arN_B {I : Nat → Nat → Int32} {a ns nd nr nm dt p s : Nat} (hM : mdOK I ns nd nr nm) (hA : abOK I a ns nd nr nm dt) (hd : dt ≤ 20000) (hp : p < nr) (hs : s < ns) : ∃ n, n ≤ airB (dt + 1) ∧ arN I a nd dt p s = nI n := by
  obtain ⟨-, -, -, -, h6, -, h6r, -, -, -, -, hmx, ⟨g, hg, eg⟩, hpt⟩ := hM
  obtain ⟨-, -, -, hw, har, hst⟩ := hA
  obtain ⟨w, w1, ew⟩ := hw s hs
  obtain ⟨l, l1, el⟩ := har p s hp hs
  obtain ⟨q, q1, eq⟩ : ∃ q, q ≤ 100 ∧ ptM I p = nI q := by
    unfold ptM
    by_cases c : I 132 48 = 5
    · rw [if_pos c]; exact ⟨100, by omega, rfl⟩
    · rw [if_neg c]; exact hpt p hp
  obtain ⟨l', l1', el'⟩ : ∃ l', l' ≤ airB dt ∧ leM I a p s = nI l' := by
    unfold leM
    by_cases c : I 132 48 = 1
    · rw [if_pos c]; exact ⟨0, by omega, rfl⟩
    · rw [if_neg c]; exact ⟨l, l1, el⟩
  have hN : ∃ n, n ≤ 198 ∧ mN I nd dt s = nI n := by
    unfold mN
    by_cases c : nd = 0
    · rw [if_pos c]; exact ⟨0, by omega, rfl⟩
    · rw [if_neg c]; exact hmx _ s (Nat.mod_lt _ (by omega)) hs
  obtain ⟨k, k1, ek⟩ : ∃ k, k ≤ 198 ∧ tkM I a nd dt s = nI k := by
    obtain ⟨n, n1, en⟩ := hN
    obtain ⟨o, o1, eo⟩ := hst s hs
    unfold tkM
    by_cases c : I 132 48 = 4
    · rw [if_pos c]; exact ⟨n, n1, en⟩
    · rw [if_neg c, en, eo]
      by_cases c2 : nI o < nI n
      · rw [if_pos c2]; exact ⟨o, by have := (nI_ltI (by omega) (by omega)).mp c2; omega, rfl⟩
      · rw [if_neg c2]; exact ⟨n, n1, rfl⟩
  unfold arN
  unfold airB at *
  by_cases c : arLN I a nd dt p s = cERR
  · rw [if_pos c, ek, eq, el', eg, ew, pk_mul, pk_mul]
    have b1 : k * q ≤ 198 * 100 := Nat.mul_le_mul k1 q1
    have b2 : l' * g ≤ l' * 100 := Nat.mul_le_mul (Nat.le_refl _) hg
    rw [div100 (by omega), div100 (by omega), nI_add, nI_add]
    exact ⟨_, by omega, rfl⟩
  · rw [if_neg c]
    obtain ⟨k, -, k2, e⟩ := withinF_rg (arLN I a nd dt p s) (lo := 0) (hi := 9999) (by decide) (by decide)
    exact ⟨k, Nat.le_trans k2 (Nat.le_add_right _ _), e⟩
set_option maxHeartbeats 8000000 in
set_option maxRecDepth 20000 in
theorem X10_passes_ok {G : zG} {d : Nat} {h : zMem} (hS : zSh2 h) {a ns nd nr nm dt : Nat} (ha : a < 23) (hM : mdOK (zI h) ns nd nr nm) (hA : abOK (zI h) a ns nd nr nm dt) (hd : dt ≤ 20000) :
    zConV G mX10_passes (d + 8) [.ref 132, .int (nI a)] h (fun h' => zW h h' ∧ passR (zI h) (zI h') a ns nd nr nm dt) := by
  have hB := fun p s => arN_B (p := p) (s := s) hM hA hd
  obtain ⟨hn, hnd, hnr, hnm, h6, h8, h6r, h5, hl, hpl, hno, hmx, hg, hpt⟩ := hM
  obtain ⟨hrm, hth, hdt, hw, har, hst⟩ := hA
  refine cn_X10_passes (sg_X10_passes_0 hS ⟨_, X10_mixes_ok (d := d + 6) hS hpl ha hn h6 hnd h8 hdt (by omega), ?_⟩)
  rintro h2 ⟨W2, m1, m2, m3, m4⟩
  have S2 := hS.W W2
  refine ⟨S2, _, X10_drifts_ok (d := d + 3) S2 (mlOK_E hl (m1 145 (by decide) (by decide)) (m1 146 (by decide) (by decide)) (m1 147 (by decide) (by decide)) (m1 148 (by decide) (by decide))) ha (by rw [m1 134 (by decide) (by decide)]; exact hn) h6 (by rw [m1 134 (by decide) (by decide)]; exact hnr) h6r, ?_⟩
  rintro h5' ⟨W5, d1, d2, d3, d4, d5, d6⟩
  have S5 := S2.W W5
  have hW5 := W2.trans W5
  have c5 : ∀ c, c ≠ 132 → c ≠ 156 → c ≠ 157 → c ≠ 158 → c ≠ 164 → zI h5' c = zI h c := fun c x1 x2 x3 x4 x5 => by rw [d1 c x1 x3 x4]; exact m1 c x2 x5
  have k5 : ∀ k, k ≠ 33 → zI h5' 132 k = zI h 132 k := fun k hk => by rw [d2 k hk, m1 132 (by decide) (by decide)]
  have air5 : ∀ p s, p < nr → s < ns → zI h5' 158 (36 * a + 6 * p + s) = arN (zI h) a nd dt p s := fun p s hp hs => by
    rw [d3 p s hp hs]
    have e1 : ptM (zI h2) p = ptM (zI h) p := by unfold ptM; rw [m1 132 (by decide) (by decide), m1 141 (by decide) (by decide)]
    have e2 : leM (zI h2) a p s = leM (zI h) a p s := by unfold leM; rw [m1 132 (by decide) (by decide), m1 158 (by decide) (by decide)]
    unfold arM arN arL arLN
    rw [m2 s hs, e1, e2, m1 157 (by decide) (by decide), m1 151 (by decide) (by decide), m1 134 (by decide) (by decide), lwM_E (I := zI h) (I' := zI h2) (m1 145 (by decide) (by decide)) (m1 146 (by decide) (by decide)) (m1 147 (by decide) (by decide)) (m1 148 (by decide) (by decide))]
  refine ⟨S5, ?_⟩
  obtain ⟨Q, hQ⟩ : ∃ Q : zMem → Prop, Q = (fun h' => zW h h' ∧ passR (zI h) (zI h') a ns nd nr nm dt) := ⟨_, rfl⟩
  rw [← hQ]
  have fin : ∀ (h3 : zMem), zW h h3 → (∀ c, c ≠ 132 → c ≠ 152 → c ≠ 153 → c ≠ 154 → c ≠ 161 → c ≠ 162 → c ≠ 163 → zI h3 c = zI h5' c) → (∀ k, k ≠ 33 → zI h3 132 k = zI h 132 k) → (∀ x, x ≠ a → zI h3 152 x = zI h 152 x ∧ zI h3 153 x = zI h 153 x ∧ zI h3 154 x = zI h 154 x) → (∀ j, j < 5 * a ∨ 5 * a + 5 ≤ j → zI h3 161 j = zI h 161 j ∧ zI h3 162 j = zI h 162 j) → (∀ m, m < nm → zI h3 161 (5 * a + m) = smN (zI h) a ns nd dt m ∧ zI h3 162 (5 * a + m) = thN (zI h) a ns nd dt m) → (nd = 0 → zI h3 152 a = zI h 152 a ∧ zI h3 153 a = zI h 153 a ∧ zI h3 154 a = zI h 154 a) → (0 < nd → zI h3 152 a = nI (moN (zI h) a ns nd nm dt) ∧ zI h3 153 a = zI h 153 a + (if moN (zI h) a ns nd nm dt = dt % nd then 1 else 0) ∧ zI h3 154 a = zI h 154 a + (if zI h 138 (moN (zI h) a ns nd nm dt) = zI h 138 (dt % nd) then 0 else 1)) →
      Q (zsI h3 151 a (zI h3 151 a + 1)) := by
    intro h3 w1 g1 g2 g3 g4 g5 g6 g7
    rw [hQ]
    have e151 : zI h3 151 = zI h 151 := by rw [g1 151 (by decide) (by decide) (by decide) (by decide) (by decide) (by decide) (by decide)]; exact c5 151 (by decide) (by decide) (by decide) (by decide) (by decide)
    have k3 : ∀ c, c = 156 ∨ c = 157 ∨ c = 158 → zI h3 c = zI h5' c := fun c hc => g1 c (by omega) (by omega) (by omega) (by omega) (by omega) (by omega) (by omega)
    have e156 : zI h5' 156 = zI h2 156 := d1 156 (by decide) (by decide) (by decide)
    refine ⟨w1.sI _ _ _, fun c x1 x2 x3 x4 x5 x6 x7 x8 x9 x10 x11 x12 => ?_, fun k hk => ?_, fun x hx => ⟨?_, ?_⟩, fun j hj => ⟨?_, ?_⟩, fun j hj => ?_, fun j hj => ?_, ?_, fun s hs => ?_, fun s hs => ?_, fun p s hp hs => ?_, fun m hm => ?_, fun q => ?_, fun q => ?_⟩
    · rw [zI_sI, zup_ne _ _ x2, g1 c x1 x3 x4 x5 x9 x10 x11]; exact c5 c x1 x6 x7 x8 x12
    · rw [zI_sI, zup_ne _ _ (by decide)]; exact g2 k hk
    · rw [zI_sI, zup_i _ _ _ hx, e151]
    · rw [zI_sI, zup_ne _ _ (by decide), zup_ne _ _ (by decide), zup_ne _ _ (by decide)]; exact g3 x hx
    · rw [zI_sI, zup_ne _ _ (by decide), k3 156 (by decide), e156]; exact m4 j (by omega)
    · rw [zI_sI, zup_ne _ _ (by decide), k3 157 (by decide), d6 j hj, m1 157 (by decide) (by decide)]
    · rw [zI_sI, zup_ne _ _ (by decide), k3 158 (by decide), d5 j hj, m1 158 (by decide) (by decide)]
    · rw [zI_sI, zup_ne _ _ (by decide), zup_ne _ _ (by decide)]; exact g4 j hj
    · rw [zI_sI, zup_s, e151]
    · rw [zI_sI, zup_ne _ _ (by decide), k3 156 (by decide), e156]; exact m3 s hs
    · rw [zI_sI, zup_ne _ _ (by decide), k3 157 (by decide)]; exact d4 s hs
    · rw [zI_sI, zup_ne _ _ (by decide), k3 158 (by decide)]; exact air5 p s hp hs
    · rw [zI_sI, zup_ne _ _ (by decide), zup_ne _ _ (by decide)]; exact g5 m hm
    · rw [zI_sI, zup_ne _ _ (by decide), zup_ne _ _ (by decide), zup_ne _ _ (by decide)]; exact g6 q
    · rw [zI_sI, zup_ne _ _ (by decide), zup_ne _ _ (by decide), zup_ne _ _ (by decide)]; exact g7 q
  have lm : ∀ n k (h1 : zMem), n + k = nm → zW h h1 → (∀ c, c ≠ 132 → c ≠ 161 → c ≠ 162 → zI h1 c = zI h5' c) → (∀ k, k ≠ 33 → zI h1 132 k = zI h 132 k) → (∀ j, j < 5 * a ∨ 5 * a + 5 ≤ j → zI h1 161 j = zI h 161 j ∧ zI h1 162 j = zI h 162 j) → (∀ m, m < k → zI h1 161 (5 * a + m) = smN (zI h) a ns nd dt m ∧ zI h1 162 (5 * a + m) = thN (zI h) a ns nd dt m) → (∀ m, k ≤ m → m < 5 → zI h1 162 (5 * a + m) = zI h 162 (5 * a + m)) → zg G mX10_passes (d + 8) 12 [.ref 132, .int (nI a), .int (nI k)] [] h1 (zPV Q) := by
    intro n
    induction n with
    | zero =>
      intro k h1 hk hW g1 g2 g3 g4 g5
      have : k = nm := by omega
      subst this
      have e134 : zI h1 134 = zI h 134 := by rw [g1 134 (by decide) (by decide) (by decide)]; exact c5 134 (by decide) (by decide) (by decide) (by decide) (by decide)
      have ec : ∀ c, c = 151 ∨ c = 152 ∨ c = 153 ∨ c = 154 ∨ c = 138 → zI h1 c = zI h c := fun c hc => by rw [g1 c (by omega) (by omega) (by omega)]; exact c5 c (by omega) (by omega) (by omega) (by omega) (by omega)
      refine sg_X10_passes_12 (hS.W hW) ?_
      rw [e134, hnm, hnd, zcla (show a < 2 ^ 31 by omega)]
      refine ⟨fun _ => ⟨fun c => ⟨zin_n ha (by decide), fin h1 hW (fun c x1 _ _ _ x5 x6 _ => g1 c x1 x5 x6) g2 (fun x _ => ?_) g3 g4 (fun _ => ?_) (fun q => ?_)⟩, fun c => ?_⟩, fun c => absurd (nI_le (Nat.le_refl _) (by omega)) c⟩
      · rw [ec 152 (by decide), ec 153 (by decide), ec 154 (by decide)]; exact ⟨rfl, rfl, rfl⟩
      · rw [ec 152 (by decide), ec 153 (by decide), ec 154 (by decide)]; exact ⟨rfl, rfl, rfl⟩
      · exact absurd c (nI_nle q (by omega))
      · have hnd0 : 0 < nd := Nat.pos_of_ne_zero (fun e => c (by rw [e]; exact nI_le (Nat.le_refl _) (by decide)))
        have thr : ∀ m, m < k → ∃ j, j < nd ∧ zI h1 162 (5 * a + m) = nI j := fun m hm => by
          rw [(g4 m hm).2]
          unfold thN
          rw [if_neg (by omega)]
          exact ⟨_, thkF_lt hnd0 _ _, rfl⟩
        refine ⟨_, X10_keepsHouse_ok (hS.W hW) (by rw [e134]; exact hnm) h5 (by rw [e134]; exact hnd) h8 hnd0 ha (by rw [ec 151 (by decide)]; exact hdt) (by omega) thr, ?_⟩
        rintro h3 ⟨w3, q1, q2, q3, q4, q5⟩
        have emo : moM (zI h1) a k nd dt = moN (zI h) a ns nd k dt := by
          unfold moM moN
          rw [show abM (zI h1) = abM (zI h) by unfold abM; rw [g2 48 (by decide), g2 49 (by decide)]]
          exact mostF_congr (fun m hm => (g4 m hm).2)
        rw [emo] at q3 q4 q5
        rw [ec 153 (by decide)] at q4
        rw [ec 154 (by decide), ec 138 (by decide)] at q5
        refine ⟨(hS.W hW).W w3, zin_n ha (by decide), fin h3 (hW.trans w3) (fun c x1 x2 x3 x4 x5 x6 x7 => ?_) (fun k hk => ?_) (fun x hx => ?_) (fun j hj => ?_) (fun m hm => ?_) (fun q => absurd q (by omega)) (fun _ => ⟨q3, q4, q5⟩)⟩
        · rw [q1 c x2 x3 x4 x7]; exact g1 c x1 x5 x6
        · rw [q1 132 (by decide) (by decide) (by decide) (by decide)]; exact g2 k hk
        · rw [(q2 x hx).1, (q2 x hx).2.1, (q2 x hx).2.2, ec 152 (by decide), ec 153 (by decide), ec 154 (by decide)]; exact ⟨rfl, rfl, rfl⟩
        · rw [q1 161 (by decide) (by decide) (by decide) (by decide), q1 162 (by decide) (by decide) (by decide) (by decide)]; exact g3 j hj
        · rw [q1 161 (by decide) (by decide) (by decide) (by decide), q1 162 (by decide) (by decide) (by decide) (by decide)]; exact g4 m hm
    | succ n ih =>
      intro k h1 hk hW g1 g2 g3 g4 g5
      have S1 := hS.W hW
      have ec : ∀ c, c ≠ 132 → c ≠ 156 → c ≠ 157 → c ≠ 158 → c ≠ 161 → c ≠ 162 → c ≠ 164 → zI h1 c = zI h c := fun c x1 x2 x3 x4 x5 x6 x7 => by rw [g1 c x1 x5 x6]; exact c5 c x1 x2 x3 x4 x7
      have e134 : zI h1 134 = zI h 134 := ec 134 (by decide) (by decide) (by decide) (by decide) (by decide) (by decide) (by decide)
      have e159 : zI h1 159 = zI h 159 := ec 159 (by decide) (by decide) (by decide) (by decide) (by decide) (by decide) (by decide)
      have e144 : zI h1 144 = zI h 144 := ec 144 (by decide) (by decide) (by decide) (by decide) (by decide) (by decide) (by decide)
      have e158 : zI h1 158 = zI h5' 158 := g1 158 (by decide) (by decide) (by decide)
      have e145 : zI h1 145 = zI h 145 := ec 145 (by decide) (by decide) (by decide) (by decide) (by decide) (by decide) (by decide)
      have e146 : zI h1 146 = zI h 146 := ec 146 (by decide) (by decide) (by decide) (by decide) (by decide) (by decide) (by decide)
      have e147 : zI h1 147 = zI h 147 := ec 147 (by decide) (by decide) (by decide) (by decide) (by decide) (by decide) (by decide)
      have e148 : zI h1 148 = zI h 148 := ec 148 (by decide) (by decide) (by decide) (by decide) (by decide) (by decide) (by decide)
      have e151 : zI h1 151 = zI h 151 := ec 151 (by decide) (by decide) (by decide) (by decide) (by decide) (by decide) (by decide)
      have e141 : zI h1 141 = zI h 141 := ec 141 (by decide) (by decide) (by decide) (by decide) (by decide) (by decide) (by decide)
      have e139 : zI h1 139 = zI h 139 := ec 139 (by decide) (by decide) (by decide) (by decide) (by decide) (by decide) (by decide)
      have e160 : zI h1 160 = zI h 160 := ec 160 (by decide) (by decide) (by decide) (by decide) (by decide) (by decide) (by decide)
      have l1 : mlOK (zI h1) := mlOK_E hl e145 e146 e147 e148
      obtain ⟨r, hr, er⟩ := hrm k (by omega)
      have ern : rmN (zI h) a k = r := by unfold rmN; rw [er]; exact zcla (by omega)
      refine sg_X10_passes_12 S1 ?_
      rw [e134, hnm, ix5, zcla (show 5 * a + k < 2 ^ 31 by omega), nI_1]
      refine ⟨fun c => absurd c (nI_ge (by omega) (by omega)), fun _ => ⟨_, X10_smells_ok (d := d + 1) S1 l1 (by rw [e134]; exact hn) h6 ha (by omega) (by rw [e159]; exact er) (by omega) (fun s hs => ?_), ?_⟩⟩
      · rw [e158, air5 r s hr hs]
        obtain ⟨n, n1, en⟩ := hB r s hr hs
        exact ⟨n, by unfold airB at n1; omega, en⟩
      rintro v h9 ⟨ev, w1, w2⟩
      have ev : v = smN (zI h) a ns nd dt k := by
        rw [ev]
        unfold smN
        rw [ern, keF_C e151 e144 e141 e145 e146 e147 e148 (g2 48 (by decide)), show cdM (zI h1) a k = cdM (zI h) a k by unfold cdM; rw [e160, g2 48 (by decide)]]
        exact smeltF_congr (fun s hs => by rw [e158]; exact air5 r s hr hs)
      rw [ev]
      have S9 := S1.W w1
      have b1 : ∀ c, c ≠ 132 → c ≠ 161 → zI (zsI h9 161 (5 * a + k) (smN (zI h) a ns nd dt k)) c = zI h1 c := fun c x1 x2 => by rw [zI_sI, zup_ne _ _ x2]; exact w2.1 c x1
      have b2 : ∀ k', k' ≠ 33 → zI (zsI h9 161 (5 * a + k) (smN (zI h) a ns nd dt k)) 132 k' = zI h1 132 k' := fun k' hk' => by rw [zI_sI, zup_ne _ _ (by decide)]; exact w2.2 k' hk'
      have b3 : ∀ j, zI (zsI h9 161 (5 * a + k) (smN (zI h) a ns nd dt k)) 161 j = if j = 5 * a + k then smN (zI h) a ns nd dt k else zI h1 161 j := fun j => by
        by_cases e : j = 5 * a + k
        · rw [if_pos e, zI_sI, e, zup_s]
        · rw [if_neg e, zI_sI, zup_i _ _ _ e, w2.1 161 (by decide)]
      have W9 := (hW.trans w1).sI 161 (5 * a + k) (smN (zI h) a ns nd dt k)
      obtain ⟨hb, hhb⟩ : ∃ hb, hb = zsI h9 161 (5 * a + k) (smN (zI h) a ns nd dt k) := ⟨_, rfl⟩
      rw [← hhb] at b1 b2 b3 W9 ⊢
      have Sb : zSh2 hb := hS.W W9
      refine ⟨S9, zin_n (by omega) (by decide), fun c => ?_, fun c => ?_⟩
      · rw [b1 134 (by decide) (by decide), e134, hnd] at c
        have hnd0 : nd = 0 := nI_eq0 (by omega) c
        refine ih (k + 1) hb (by omega) W9 (fun c x1 x2 x3 => ?_) (fun k' hk' => ?_) (fun j hj => ?_) (fun m hm => ?_) (fun m hm hm5 => ?_)
        · rw [b1 c x1 x2]; exact g1 c x1 x2 x3
        · rw [b2 k' hk']; exact g2 k' hk'
        · rw [b3, if_neg (by omega), b1 162 (by decide) (by decide)]; exact g3 j hj
        · rw [b1 162 (by decide) (by decide), b3]
          by_cases e : m = k
          · subst e; rw [if_pos rfl, g5 m (Nat.le_refl _) (by omega)]
            refine ⟨rfl, ?_⟩
            unfold thN; rw [if_pos hnd0]
          · rw [if_neg (by omega)]; exact g4 m (by omega)
        · rw [b1 162 (by decide) (by decide)]; exact g5 m (by omega) hm5
      · rw [b1 134 (by decide) (by decide), e134, hnd] at c
        have hnd0 : 0 < nd := Nat.pos_of_ne_zero (fun e => c (by rw [e]; exact nI_le (Nat.le_refl _) (by decide)))
        obtain ⟨j, hj, ej⟩ := hth k (by omega) hnd0
        have hbE : ∀ c, c ≠ 132 → c ≠ 156 → c ≠ 157 → c ≠ 158 → c ≠ 161 → c ≠ 162 → c ≠ 164 → zI hb c = zI h c := fun c x1 x2 x3 x4 x5 x6 x7 => by rw [b1 c x1 x5]; exact ec c x1 x2 x3 x4 x5 x6 x7
        have hbK : ∀ k', k' ≠ 33 → zI hb 132 k' = zI h 132 k' := fun k' hk' => by rw [b2 k' hk']; exact g2 k' hk'
        have emk : ∀ dy, mkM (zI hb) ns a k r dy = mkM (zI h) ns a k r dy := fun dy => mkM_C (by rw [b1 151 (by decide) (by decide)]; exact e151) (by rw [b1 144 (by decide) (by decide)]; exact e144) (by rw [b1 141 (by decide) (by decide)]; exact e141) (by rw [b1 145 (by decide) (by decide)]; exact e145) (by rw [b1 146 (by decide) (by decide)]; exact e146) (by rw [b1 147 (by decide) (by decide)]; exact e147) (by rw [b1 148 (by decide) (by decide)]; exact e148) hbK (by rw [b1 139 (by decide) (by decide)]; exact e139) (by rw [b1 160 (by decide) (by decide)]; exact e160) ns a k r dy
        refine ⟨_, X10_thinks_ok (d := d) Sb (mlOK_E l1 (b1 145 (by decide) (by decide)) (b1 146 (by decide) (by decide)) (b1 147 (by decide) (by decide)) (b1 148 (by decide) (by decide))) (by unfold plOK; rw [hbK 50 (by decide)]; exact hpl) (by rw [b1 134 (by decide) (by decide), e134]; exact hn) h6 (by rw [b1 134 (by decide) (by decide), e134]; exact hnd) h8 hnd0 ha (by omega) (by rw [b1 159 (by decide) (by decide), e159]; exact er) (by omega) (by rw [b1 162 (by decide) (by decide), g5 k (Nat.le_refl _) (by omega)]; exact ej) hj (by rw [b1 144 (by decide) (by decide), e144]; exact hno k (by omega)) (fun dy s hdy hs => by rw [mxM_K hbK (by rw [b1 139 (by decide) (by decide)]; exact e139)]; exact hmx dy s hdy hs), ?_⟩
        rintro v2 h15 ⟨ev2, w3, w4⟩
        have ev2 : v2 = thN (zI h) a ns nd dt k := by
          rw [ev2]
          unfold thN
          rw [if_neg (by omega), ej, zcla (show j < 2 ^ 31 by omega), ern]
          congr 1
          refine thkF_congr hnd0 (fun day hday => ?_) _ _
          rw [emk day, b3, if_pos rfl]
        rw [ev2]
        refine ⟨Sb.W w3, ih (k + 1) _ (by omega) ((W9.trans w3).sI _ _ _) (fun c x1 x2 x3 => ?_) (fun k' hk' => ?_) (fun j hj => ?_) (fun m hm => ?_) (fun m hm hm5 => ?_)⟩
        · rw [zI_sI, zup_ne _ _ x3, w4.1 c x1, b1 c x1 x2]; exact g1 c x1 x2 x3
        · rw [zI_sI, zup_ne _ _ (by decide), w4.2 k' hk']; exact hbK k' hk'
        · rw [zI_sI, zup_ne _ _ (by decide), zup_i _ _ _ (by omega), w4.1 161 (by decide), w4.1 162 (by decide), b3, if_neg (by omega), b1 162 (by decide) (by decide)]; exact g3 j hj
        · rw [zI_sI, zup_ne _ _ (show (161 : Nat) ≠ 162 by decide), w4.1 161 (by decide), b3]
          by_cases e : m = k
          · subst e; rw [if_pos rfl, zup_s]; exact ⟨rfl, rfl⟩
          · rw [if_neg (by omega), zup_i _ _ _ (by omega), w4.1 162 (by decide), b1 162 (by decide) (by decide)]; exact g4 m (by omega)
        · rw [zI_sI, zup_i _ _ _ (by omega), w4.1 162 (by decide), b1 162 (by decide) (by decide)]; exact g5 m (by omega) hm5
  exact lm nm 0 h5' (by omega) hW5 (fun _ _ _ _ => rfl) k5 (fun j hj => by rw [c5 161 (by decide) (by decide) (by decide) (by decide) (by decide), c5 162 (by decide) (by decide) (by decide) (by decide) (by decide)]; exact ⟨rfl, rfl⟩) (fun m hm => absurd hm (by omega)) (fun m _ _ => by rw [c5 162 (by decide) (by decide) (by decide) (by decide) (by decide)])
