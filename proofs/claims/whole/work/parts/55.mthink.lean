/-! a morning of the model: smelling, thinking, the house -/
theorem ar100 {n : Nat} (h : n ≤ 20000000) : nI n * 100 / 100 = nI n := by
  show nI n * nI 100 / nI 100 = nI n
  rw [pk_mul, pk_div (by omega) (by decide) (by decide)]
  congr 1
  omega
set_option maxHeartbeats 2000000 in
theorem X10_smells_ok {G : zG} {d : Nat} {h : zMem} (hS : zSh2 h) (hl : mlOK (zI h)) {ns a m r : Nat} (hn : zI h 134 0 = nI ns) (h6 : ns ≤ 6) (ha : a < 23) (hm : m < 5) (hrm : zI h 159 (5 * a + m) = nI r) (hr : r < 6) (har : ∀ s, s < ns → ∃ n, n ≤ 20000000 ∧ zI h 158 (36 * a + 6 * r + s) = nI n) :
    zConI G mX10_smells (d + 6) [.ref 132, .int (nI a), .int (nI m)] h (fun v h' => v = smeltF ns (fun s => zI h 158 (36 * a + 6 * r + s)) 100 (keF (zI h) a m r) (cdM (zI h) a m) ∧ zW h h' ∧ mE (zI h) (zI h')) := by
  refine cn_X10_smells (sg_X10_smells_0 hS ⟨_, X10_keenOf_ok hS hl ha hm hrm (by omega), ?_⟩)
  rintro v h2 ⟨rfl, w1, w2⟩
  have S2 := hS.W w1
  refine ⟨S2, ?_⟩
  have loop : ∀ n k, n + k = ns → zg G mX10_smells (d + 6) 13 [.ref 132, .int (nI a), .int (nI m), .int (keF (zI h) a m r), .int (bitsF (fun s => zI h 158 (36 * a + 6 * r + s)) 100 (keF (zI h) a m r) k), .int (nI k)] [] h2 (zPI (fun v h' => v = smeltF ns (fun s => zI h 158 (36 * a + 6 * r + s)) 100 (keF (zI h) a m r) (cdM (zI h) a m) ∧ zW h h' ∧ mE (zI h) (zI h'))) := by
    intro n
    induction n with
    | zero =>
      intro k hk
      have : k = ns := by omega
      subst this
      refine sg_X10_smells_13 S2 ?_
      rw [w2.1 134 (by decide), hn]
      refine ⟨fun _ => ⟨_, X10_coldsOf_ok S2 ha hm, ?_⟩, fun c => absurd (nI_le (Nat.le_refl _) (by omega)) c⟩
      rintro v h3 ⟨rfl, rfl⟩
      have ec : cdM (zI h3) a m = cdM (zI h) a m := by unfold cdM; rw [w2.1 160 (by decide), w2.2 48 (by decide)]
      exact ⟨S2, by rw [ec]; rfl, w1, w2⟩
    | succ n ih =>
      intro k hk
      refine sg_X10_smells_13 S2 ?_
      rw [w2.1 134 (by decide), hn, w2.1 159 (by decide), w2.1 158 (by decide), ix5, zcla (show 5 * a + m < 2 ^ 31 by omega), hrm, ix36, zcla (show 36 * a + 6 * r + k < 2 ^ 31 by omega), nI_1]
      obtain ⟨q, hq, eq⟩ := har k (by omega)
      have nx := ih (k + 1) (by omega)
      have ex : zI h 158 (36 * a + 6 * r + k) * 100 / 100 = zI h 158 (36 * a + 6 * r + k) := by rw [eq, ar100 hq]
      refine ⟨fun c => absurd c (nI_ge (by omega) (by omega)), fun _ => ⟨zin_n (by omega) (by decide), zin_n (by omega) (by decide), fun c => ?_, fun c => ?_⟩⟩
      · rw [show bitsF (fun s => zI h 158 (36 * a + 6 * r + s)) 100 (keF (zI h) a m r) (k + 1) = bitsF (fun s => zI h 158 (36 * a + 6 * r + s)) 100 (keF (zI h) a m r) k ||| 0 by rw [bitsF, ex, if_pos c]; simp] at nx
        exact nx
      · rw [show bitsF (fun s => zI h 158 (36 * a + 6 * r + s)) 100 (keF (zI h) a m r) (k + 1) = bitsF (fun s => zI h 158 (36 * a + 6 * r + s)) 100 (keF (zI h) a m r) k ||| ((1 : Int32) <<< (nI k &&& 31)) by rw [bitsF, ex, if_neg c]] at nx
        exact nx
  exact loop ns 0 (by omega)
theorem mkM_E {I I' : Nat → Nat → Int32} (q : mE I I') (ns a m r dy : Nat) : mkM I' ns a m r dy = mkM I ns a m r dy := by
  have em : mxM I' dy = mxM I dy := funext fun s => mxM_E q dy s
  have ep : ptM I' r = ptM I r := by unfold ptM; rw [q.1 141 (by decide), q.2 48 (by decide)]
  have ec : cdM I' a m = cdM I a m := by unfold cdM; rw [q.1 160 (by decide), q.2 48 (by decide)]
  unfold mkM
  rw [em, ep, ec, keF_E q]
set_option maxHeartbeats 2000000 in
theorem X10_thinks_ok {G : zG} {d : Nat} {h : zMem} (hS : zSh2 h) (hl : mlOK (zI h)) (hp : plOK (zI h)) {ns nd a m r j : Nat} (hn : zI h 134 0 = nI ns) (h6 : ns ≤ 6) (hnd : zI h 134 1 = nI nd) (h8 : nd ≤ 8) (h0 : 0 < nd) (ha : a < 23) (hm : m < 5) (hrm : zI h 159 (5 * a + m) = nI r) (hr : r < 6) (hj : zI h 162 (5 * a + m) = nI j) (hjn : j < nd) (hno : ∃ j, 1 ≤ j ∧ j ≤ 99 ∧ zI h 144 m = nI j) (hmx : ∀ dy s, dy < nd → s < ns → ∃ n, n ≤ 198 ∧ mxM (zI h) dy s = nI n) :
    zConI G mX10_thinks (d + 7) [.ref 132, .int (nI a), .int (nI m)] h (fun v h' => v = nI (thkF (fun day => decide (mkM (zI h) ns a m r day = zI h 161 (5 * a + m))) nd j nd 1) ∧ zW h h' ∧ mE (zI h) (zI h')) := by
  refine cn_X10_thinks (sg_X10_thinks_0 hS ?_)
  rw [ix5, zcla (show 5 * a + m < 2 ^ 31 by omega), hj, hnd, nI_1, pk_rem (by omega) h0 (by omega)]
  refine ⟨zin_n (by omega) (by decide), nI_ne0 h0 (by omega), ?_⟩
  have loop : ∀ n k (h1 : zMem), n + k = nd → zW h h1 → mE (zI h) (zI h1) → thkF (fun day => decide (mkM (zI h) ns a m r day = zI h 161 (5 * a + m))) nd j n (k + 1) = thkF (fun day => decide (mkM (zI h) ns a m r day = zI h 161 (5 * a + m))) nd j nd 1 → zg G mX10_thinks (d + 7) 26 [.ref 132, .int (nI a), .int (nI m), .int (nI nd), .int (nI ((j + 1) % nd)), .int (nI k), zU] [] h1 (zPI (fun v h' => v = nI (thkF (fun day => decide (mkM (zI h) ns a m r day = zI h 161 (5 * a + m))) nd j nd 1) ∧ zW h h' ∧ mE (zI h) (zI h'))) := by
    intro n
    induction n with
    | zero =>
      intro k h1 hk hW hE ht
      have : k = nd := by omega
      subst this
      refine sg_X10_thinks_26 (hS.W hW) ⟨fun _ => ⟨?_, hW, hE⟩, fun c => absurd (nI_le (Nat.le_refl _) (by omega)) c⟩
      rw [← ht]; rfl
    | succ n ih =>
      intro k h1 hk hW hE ht
      have S1 := hS.W hW
      refine sg_X10_thinks_26 S1 ?_
      have hlt := Nat.mod_lt (j + 1) h0
      have e1 : nI ((j + 1) % nd) + nI k = nI ((j + 1) % nd + k) := nI_add _ _
      have e2 : ((j + 1) % nd + k) % nd = (j + (k + 1)) % nd := by rw [Nat.mod_add_mod]; congr 1; omega
      rw [e1, pk_rem (show (j + 1) % nd + k < 2 ^ 31 by omega) h0 (by omega), e2, ix5, zcla (show 5 * a + m < 2 ^ 31 by omega), nI_1]
      have hlt2 := Nat.mod_lt (j + (k + 1)) h0
      refine ⟨fun c => absurd c (nI_ge (by omega) (by omega)), fun _ => ⟨nI_ne0 h0 (by omega), _, X10_markOf_ok (d := d) S1 (hE.ml hl) (by unfold plOK; rw [hE.2 50 (by decide)]; exact hp) (by rw [hE.1 134 (by decide)]; exact hn) h6 (show (j + (k + 1)) % nd < 16 by omega) ha hm (by rw [hE.1 159 (by decide)]; exact hrm) (by omega) (by rw [hE.1 144 (by decide)]; exact hno) (fun s hs => by rw [mxM_E hE]; exact hmx _ s hlt2 hs), ?_⟩⟩
      rintro v h4 ⟨rfl, w1, w2⟩
      have E4 := hE.trans w2
      rw [mkM_E hE, E4.1 161 (by decide)]
      refine ⟨S1.W w1, zin_n (by omega) (by decide), fun c => ih (k + 1) h4 (by omega) (hW.trans w1) E4 ?_, fun c => ⟨?_, hW.trans w1, E4⟩⟩
      · rw [← ht, thkF, if_neg (by simpa using c)]
      · rw [← ht, thkF, if_pos (by simpa using c)]
  exact loop nd 0 h (by omega) (zW.rf h) (mE.rf _) rfl
/-! the house -/
def bs2 (v : Nat → Nat) : Nat → Nat → Nat → Nat
  | 0, _, best => best
  | n + 1, k, best => if v k ≤ v best then bs2 v n (k + 1) best else bs2 v n (k + 1) k
def mnyF (ab : Int32) : Nat → Nat
  | 0 => 0
  | m + 1 => mnyF ab m + (if nI m = ab then 0 else 1)
theorem mnyF_le {ab : Int32} : ∀ m, mnyF ab m ≤ m
  | 0 => Nat.le_refl _
  | m + 1 => by
    have := mnyF_le (ab := ab) m
    unfold mnyF
    split <;> omega
theorem bst_a {v : Nat → Nat} : ∀ n k best, bstF v n k best (v best) = bs2 v n k best
  | 0, _, _ => rfl
  | n + 1, k, best => by
    unfold bstF bs2
    rw [bst_a n (k + 1) best, bst_a n (k + 1) k]
theorem bst_0 {v : Nat → Nat} {td : Nat} : ∀ n k, (∀ j, k ≤ j → j < k + n → v j = 0) → bstF v n k td 0 = td
  | 0, _, _ => rfl
  | n + 1, k, h => by
    unfold bstF
    rw [if_pos (by rw [h k (Nat.le_refl _) (by omega)]; omega)]
    exact bst_0 n (k + 1) (fun j a b => h j (by omega) (by omega))
theorem bst_b {v : Nat → Nat} {td : Nat} (v0 : v 0 = 0) : ∀ n k, (∃ j, k ≤ j ∧ j < k + n ∧ 0 < v j) → bstF v n k td 0 = bs2 v n k 0
  | 0, _, h => by obtain ⟨j, a, b, _⟩ := h; omega
  | n + 1, k, h => by
    unfold bstF bs2
    rw [v0]
    by_cases c : v k ≤ 0
    · rw [if_pos c, if_pos c]
      refine bst_b v0 n (k + 1) ?_
      obtain ⟨j, a, b, e⟩ := h
      have : j ≠ k := fun q => by rw [q] at e; omega
      exact ⟨j, by omega, by omega, e⟩
    · rw [if_neg c, if_neg c]; exact bst_a n (k + 1) k
theorem most_a {v : Nat → Nat} {n td : Nat} (h : ∃ j, j < n + 1 ∧ 0 < v j) : bstF v (n + 1) 0 td 0 = bs2 v n 1 0 := by
  by_cases c : v 0 = 0
  · unfold bstF
    rw [if_pos (by omega)]
    refine bst_b c n 1 ?_
    obtain ⟨j, a, b⟩ := h
    have : j ≠ 0 := fun q => by rw [q] at b; omega
    exact ⟨j, by omega, by omega, b⟩
  · unfold bstF
    rw [if_neg (by omega)]; exact bst_a n 1 0
theorem cnt_0 {th : Nat → Int32} {ab : Int32} {d : Nat} : ∀ m, mnyF ab m = 0 → cntF th ab d m = 0
  | 0, _ => rfl
  | m + 1, h => by
    unfold mnyF at h
    unfold cntF
    by_cases c : nI m = ab
    · rw [if_pos c] at h ⊢; rw [cnt_0 m (by omega)]
    · rw [if_neg c] at h; omega
theorem cnt_pos {th : Nat → Int32} {ab : Int32} {nd : Nat} : ∀ m, (∀ k, k < m → ∃ j, j < nd ∧ th k = nI j) → 0 < mnyF ab m → ∃ j, j < nd ∧ 0 < cntF th ab j m
  | 0, _, h => absurd h (by unfold mnyF; omega)
  | m + 1, hth, h => by
    unfold mnyF at h
    by_cases c : nI m = ab
    · rw [if_pos c] at h
      obtain ⟨j, hj, q⟩ := cnt_pos m (fun k hk => hth k (by omega)) h
      exact ⟨j, hj, by unfold cntF; omega⟩
    · obtain ⟨j, hj, e⟩ := hth m (by omega)
      exact ⟨j, hj, by unfold cntF; rw [if_neg c, if_pos e]; omega⟩
theorem bs2_lt {v : Nat → Nat} {N : Nat} : ∀ n k best, n + k = N → best < N → bs2 v n k best < N
  | 0, _, _, _, h => h
  | n + 1, k, best, hk, hb => by
    unfold bs2
    split
    · exact bs2_lt n (k + 1) best (by omega) hb
    · exact bs2_lt n (k + 1) k (by omega) (by omega)
def abM (I : Nat → Nat → Int32) : Int32 := if I 132 48 = 3 then I 132 49 else -1
def moM (I : Nat → Nat → Int32) (a nm nd dt : Nat) : Nat := mostF (fun m => I 162 (5 * a + m)) (abM I) nm nd (dt % nd)
def khR (I I' : Nat → Nat → Int32) (a nm nd dt : Nat) : Prop := (∀ c, c ≠ 152 → c ≠ 153 → c ≠ 154 → c ≠ 163 → I' c = I c) ∧ (∀ j, j ≠ a → I' 152 j = I 152 j ∧ I' 153 j = I 153 j ∧ I' 154 j = I 154 j) ∧ I' 152 a = nI (moM I a nm nd dt) ∧ I' 153 a = I 153 a + (if moM I a nm nd dt = dt % nd then 1 else 0) ∧ I' 154 a = I 154 a + (if I 138 (moM I a nm nd dt) = I 138 (dt % nd) then 0 else 1)
theorem kh_leaf {h h1 : zMem} {a nm nd dt bst : Nat} {w1 w2 : Int32} (hW : zW h h1) (f1 : ∀ c, c ≠ 163 → zI h1 c = zI h c) (hb : bst = moM (zI h) a nm nd dt) (e1 : w1 = (if moM (zI h) a nm nd dt = dt % nd then 1 else 0)) (e2 : w2 = (if zI h 138 (moM (zI h) a nm nd dt) = zI h 138 (dt % nd) then 0 else 1)) :
    zW h (zsI (zsI (zsI h1 152 a (nI bst)) 153 a (zI h1 153 a + w1)) 154 a (zI h1 154 a + w2)) ∧ khR (zI h) (zI (zsI (zsI (zsI h1 152 a (nI bst)) 153 a (zI h1 153 a + w1)) 154 a (zI h1 154 a + w2))) a nm nd dt := by
  refine ⟨((hW.sI _ _ _).sI _ _ _).sI _ _ _, fun c c1 c2 c3 c4 => ?_, fun j hj => ⟨?_, ?_, ?_⟩, ?_, ?_, ?_⟩
  · rw [zI_sI, zup_ne _ _ c3, zI_sI, zup_ne _ _ c2, zI_sI, zup_ne _ _ c1]; exact f1 c c4
  · rw [zI_sI, zup_ne _ _ (by decide), zI_sI, zup_ne _ _ (by decide), zI_sI, zup_i _ _ _ hj, f1 152 (by decide)]
  · rw [zI_sI, zup_ne _ _ (by decide), zI_sI, zup_i _ _ _ hj, zI_sI, zup_ne _ _ (by decide), f1 153 (by decide)]
  · rw [zI_sI, zup_i _ _ _ hj, zI_sI, zup_ne _ _ (by decide), zI_sI, zup_ne _ _ (by decide), f1 154 (by decide)]
  · rw [zI_sI, zup_ne _ _ (by decide), zI_sI, zup_ne _ _ (by decide), zI_sI, zup_s, hb]
  · rw [zI_sI, zup_ne _ _ (by decide), zI_sI, zup_s, e1, f1 153 (by decide)]
  · rw [zI_sI, zup_s, e2, f1 154 (by decide)]
set_option maxHeartbeats 8000000 in
set_option maxRecDepth 20000 in
theorem X10_keepsHouse_ok {G : zG} {d : Nat} {h : zMem} (hS : zSh2 h) {nm nd a dt : Nat} (hnm : zI h 134 4 = nI nm) (h5 : nm ≤ 5) (hnd : zI h 134 1 = nI nd) (h8 : nd ≤ 8) (h0 : 0 < nd) (ha : a < 23) (hdt : zI h 151 a = nI dt) (hd : dt < 2 ^ 31) (hth : ∀ m, m < nm → ∃ j, j < nd ∧ zI h 162 (5 * a + m) = nI j) :
    zConV G mX10_keepsHouse d [.ref 132, .int (nI a)] h (fun h' => zW h h' ∧ khR (zI h) (zI h') a nm nd dt) := by
  refine cn_X10_keepsHouse (sg_X10_keepsHouse_0 hS ?_)
  rw [zcla (show a < 2 ^ 31 by omega), hdt, hnd, pk_rem hd h0 (by omega)]
  refine ⟨zin_n ha (by decide), nI_ne0 h0 (by omega), ?_⟩
  have htd := Nat.mod_lt dt h0
  obtain ⟨Q, hQ⟩ : ∃ Q : zMem → Prop, Q = (fun h' => zW h h' ∧ khR (zI h) (zI h') a nm nd dt) := ⟨_, rfl⟩
  rw [← hQ]
  obtain ⟨th, hth'⟩ : ∃ th : Nat → Int32, th = (fun m => zI h 162 (5 * a + m)) := ⟨_, rfl⟩
  obtain ⟨ab, hab⟩ : ∃ ab : Int32, ab = abM (zI h) := ⟨_, rfl⟩
  have ths : ∀ m, m < nm → ∃ j, j < nd ∧ th m = nI j := fun m hm => by rw [hth']; exact hth m hm
  -- the best
  have lb : ∀ n k best (h1 : zMem), n + k = nd → best < nd → zW h h1 → (∀ c, c ≠ 163 → zI h1 c = zI h c) → (∀ d, d < 8 → zI h1 163 d = nI (cntF th ab d nm)) → bs2 (fun d => cntF th ab d nm) n k best = bs2 (fun d => cntF th ab d nm) (nd - 1) 1 0 → zg G mX10_keepsHouse d 109 [.ref 132, .int (nI a), .int (nI (dt % nd)), .int (nI (mnyF ab nm)), .int (nI best), .int (nI k)] [] h1 (zPV Q) := by
    intro n
    induction n with
    | zero =>
      intro k best h1 hk hbn hW f1 f2 hb
      have : k = nd := by omega
      subst this
      have hb' : best = bs2 (fun d => cntF th ab d nm) (k - 1) 1 0 := hb
      have hmn := mnyF_le (ab := ab) nm
      have mo : moM (zI h) a nm k dt = if mnyF ab nm = 0 then dt % k else best := by
        unfold moM mostF
        rw [← hth', ← hab]
        by_cases c : mnyF ab nm = 0
        · rw [if_pos c]; exact bst_0 k 0 (fun j _ _ => cnt_0 nm c)
        · rw [if_neg c, hb']
          have := most_a (v := fun d => cntF th ab d nm) (n := k - 1) (td := dt % k) (by rw [show k - 1 + 1 = k by omega]; exact cnt_pos nm ths (by omega))
          rw [show k - 1 + 1 = k by omega] at this
          exact this
      have e153 := f1 153 (by decide)
      have e138 := f1 138 (by decide)
      refine sg_X10_keepsHouse_109 (hS.W hW) ?_
      rw [f1 134 (by decide), hnd, hQ]
      refine ⟨fun _ => ⟨fun c => ?_, fun c => ?_⟩, fun c => absurd (nI_le (Nat.le_refl _) (by omega)) c⟩
      · have c' : mnyF ab nm ≠ 0 := fun q => c (by rw [q]; rfl)
        rw [if_neg c'] at mo
        rw [zcla (show a < 2 ^ 31 by omega)]
        simp only [zI_sI, zup, if_true, if_false, Nat.reduceEqDiff, reduceIte, zcla (show best < 2 ^ 31 by omega), zcla (show dt % k < 2 ^ 31 by omega)]
        rw [e138]
        refine ⟨zin_n ha (by decide), fun c2 => ⟨zin_n (by omega) (by decide), zin_n (by omega) (by decide), fun c3 => ?_, fun c3 => ?_⟩, fun c2 => ⟨zin_n (by omega) (by decide), zin_n (by omega) (by decide), fun c3 => ?_, fun c3 => ?_⟩⟩
        · exact kh_leaf hW f1 mo.symm (by rw [mo, if_neg (fun q => c2 (by rw [q]))]) (by rw [mo, if_pos c3])
        · exact kh_leaf hW f1 mo.symm (by rw [mo, if_neg (fun q => c2 (by rw [q]))]) (by rw [mo, if_neg c3])
        · exact kh_leaf hW f1 mo.symm (by rw [mo, if_pos (nI_inj (by omega) (by omega) c2)]) (by rw [mo, if_pos c3])
        · exact kh_leaf hW f1 mo.symm (by rw [mo, if_pos (nI_inj (by omega) (by omega) c2)]) (by rw [mo, if_neg c3])
      · have c' : mnyF ab nm = 0 := nI_inj (by omega) (by decide) c
        rw [if_pos c'] at mo
        rw [zcla (show a < 2 ^ 31 by omega)]
        simp only [zI_sI, zup, if_true, if_false, Nat.reduceEqDiff, reduceIte, zcla (show dt % k < 2 ^ 31 by omega)]
        refine ⟨zin_n ha (by decide), fun c2 => absurd trivial c2, fun c2 => ⟨zin_n (by omega) (by decide), zin_n (by omega) (by decide), fun c3 => ?_, fun c3 => absurd trivial c3⟩⟩
        exact kh_leaf hW f1 mo.symm (by rw [mo, if_pos rfl]) (by rw [mo, if_pos rfl])
    | succ n ih =>
      intro k best h1 hk hbn hW f1 f2 hb
      refine sg_X10_keepsHouse_109 (hS.W hW) ?_
      rw [f1 134 (by decide), hnd, zcla (show best < 2 ^ 31 by omega), zcla (show k < 2 ^ 31 by omega), f2 k (by omega), f2 best (by omega), nI_1]
      have l1 := cntF_le (th := th) (ab := ab) (d := k) nm
      have l2 := cntF_le (th := th) (ab := ab) (d := best) nm
      refine ⟨fun c => absurd c (nI_ge (by omega) (by omega)), fun _ => ⟨zin_n (by omega) (by decide), zin_n (by omega) (by decide), fun c => ih (k + 1) best h1 (by omega) hbn hW f1 f2 ?_, fun c => ih (k + 1) k h1 (by omega) (by omega) hW f1 f2 ?_⟩⟩
      · rw [← hb]; show _ = if cntF th ab k nm ≤ cntF th ab best nm then _ else _; rw [if_pos ((nI_leI (by omega) (by omega)).mp c)]
      · rw [← hb]; show _ = if cntF th ab k nm ≤ cntF th ab best nm then _ else _; rw [if_neg (fun q => c ((nI_leI (by omega) (by omega)).mpr q))]
  -- the monks
  have lm : ∀ n k (h1 : zMem), n + k = nm → zW h h1 → (∀ c, c ≠ 163 → zI h1 c = zI h c) → (∀ d, d < 8 → zI h1 163 d = nI (cntF th ab d k)) → zg G mX10_keepsHouse d 43 [.ref 132, .int (nI a), .int (nI (dt % nd)), .int (nI (mnyF ab k)), .int (nI k), zU] [] h1 (zPV Q) := by
    intro n
    induction n with
    | zero =>
      intro k h1 hk hW f1 f2
      have : k = nm := by omega
      subst this
      refine sg_X10_keepsHouse_43 (hS.W hW) ?_
      rw [f1 134 (by decide), hnm]
      exact ⟨fun _ => lb (nd - 1) 1 0 h1 (by omega) h0 hW f1 f2 rfl, fun c => absurd (nI_le (Nat.le_refl _) (by omega)) c⟩
    | succ n ih =>
      intro k h1 hk hW f1 f2
      refine sg_X10_keepsHouse_43 (hS.W hW) ?_
      obtain ⟨j, hj, ej⟩ := ths k (by omega)
      have ej' : zI h 162 (5 * a + k) = nI j := by rw [hth'] at ej; exact ej
      rw [f1 134 (by decide), hnm, f1 132 (by decide), f1 162 (by decide), ix5, zcla (show 5 * a + k < 2 ^ 31 by omega), ej', zcla (show j < 2 ^ 31 by omega), f2 j (by omega), nI_1, nI_1, nI_1]
      have vote : ¬ nI k = ab → zg G mX10_keepsHouse d 43 [.ref 132, .int (nI a), .int (nI (dt % nd)), .int (nI (mnyF ab k + 1)), .int (nI (k + 1)), zU] [] (zsI h1 163 j (nI (cntF th ab j k + 1))) (zPV Q) := by
        intro c
        have nx := ih (k + 1) (zsI h1 163 j (nI (cntF th ab j k + 1))) (by omega) (hW.sI _ _ _) (fun x hx => by rw [zI_sI, zup_ne _ _ hx]; exact f1 x hx) (fun d hd => by
          by_cases e : d = j
          · subst e; rw [zI_sI, zup_s]; unfold cntF; rw [if_neg c, if_pos ej]
            cases k <;> rfl
          · rw [zI_sI, zup_i _ _ _ e, f2 d hd, cntF, if_neg c, if_neg (fun q => e (nI_inj (by omega) (by omega) (q.symm.trans ej)))]; rfl)
        rw [mnyF, if_neg c] at nx
        exact nx
      refine ⟨fun c => absurd c (nI_ge (by omega) (by omega)), fun _ => ⟨fun c => ⟨zin_n (by omega) (by decide), zin_n (by omega) (by decide), vote ?_⟩, fun c => ⟨fun c2 => ⟨zin_n (by omega) (by decide), zin_n (by omega) (by decide), vote ?_⟩, fun c2 => ?_⟩⟩⟩
      · rw [hab]; unfold abM; rw [if_neg c]
        intro q
        have := congrArg Int32.toInt q
        rw [nI_toInt (by omega)] at this
        have z : (-1 : Int32).toInt = -1 := rfl
        omega
      · rw [hab]; unfold abM; rw [if_pos c]; exact c2
      · have c' : nI k = ab := by rw [hab]; unfold abM; rw [if_pos c]; exact c2
        have nx := ih (k + 1) h1 (by omega) hW f1 (fun d hd => by rw [f2 d hd, cntF, if_pos c']; rfl)
        rw [mnyF, if_pos c'] at nx
        exact nx
  have lz : ∀ n k (h1 : zMem), n + k = 8 → zW h h1 → (∀ c, c ≠ 163 → zI h1 c = zI h c) → (∀ d, d < k → zI h1 163 d = 0) → zg G mX10_keepsHouse d 19 [.ref 132, .int (nI a), .int (nI (dt % nd)), .int (nI 0), .int (nI k), zU] [] h1 (zPV Q) := by
    intro n
    induction n with
    | zero =>
      intro k h1 hk hW f1 f2
      have : k = 8 := by omega
      subst this
      exact sg_X10_keepsHouse_19 (hS.W hW) ⟨fun _ => lm nm 0 h1 (by omega) hW f1 f2, fun c => absurd (show nI 8 ≤ nI 8 from nI_le (Nat.le_refl _) (by decide)) c⟩
    | succ n ih =>
      intro k h1 hk hW f1 f2
      refine sg_X10_keepsHouse_19 (hS.W hW) ?_
      rw [zcla (show k < 2 ^ 31 by omega), nI_1]
      refine ⟨fun c => absurd (show nI 8 ≤ nI k from c) (nI_ge (by omega) (by decide)), fun _ => ⟨zin_n (by omega) (by decide), ih (k + 1) _ (by omega) (hW.sI _ _ _) (fun x hx => by rw [zI_sI, zup_ne _ _ hx]; exact f1 x hx) (fun d hd => ?_)⟩⟩
      by_cases e : d = k
      · subst e; rw [zI_sI, zup_s]
      · rw [zI_sI, zup_i _ _ _ e]; exact f2 d (by omega)
  exact lz 8 0 h (by omega) (zW.rf h) (fun _ _ => rfl) (fun d hd => absurd hd (by omega))
