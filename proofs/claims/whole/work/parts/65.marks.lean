/-! days alike, where one would tell most: marks laid on both sides -/
def mE5 (I I' : Nat → Nat → Int32) : Prop := (∀ a, a ≠ 132 → a ≠ 165 → I' a = I a) ∧ ∀ k, k ≠ 33 → I' 132 k = I 132 k
theorem mE5.rf (I : Nat → Nat → Int32) : mE5 I I := ⟨fun _ _ _ => rfl, fun _ _ => rfl⟩
theorem mE5.trans {I I1 I2 : Nat → Nat → Int32} (a : mE5 I I1) (b : mE5 I1 I2) : mE5 I I2 := ⟨fun x hx hy => (b.1 x hx hy).trans (a.1 x hx hy), fun k hk => (b.2 k hk).trans (a.2 k hk)⟩
theorem mE.five {I I' : Nat → Nat → Int32} (a : mE I I') : mE5 I I' := ⟨fun x hx _ => a.1 x hx, a.2⟩
theorem mE5.up {I I1 : Nat → Nat → Int32} (a : mE5 I I1) (i : Nat) (v : Int32) : mE5 I (zup I1 165 i v) := ⟨fun x hx hy => by rw [zup_ne _ _ hy]; exact a.1 x hx hy, fun k hk => by rw [zup_ne _ _ (by decide)]; exact a.2 k hk⟩
theorem mE5.j {I I' : Nat → Nat → Int32} (h : mE5 I I') : jE I I' := fun c j hn => by
  by_cases e : c = 132
  · subst e; exact h.2 j (fun q => hn (by unfold jkP; omega))
  · rw [h.1 c e (fun q => hn (by unfold jkP; omega))]
theorem mE5.mk {I I' : Nat → Nat → Int32} (h : mE5 I I') (ns a m r dy : Nat) : mkM I' ns a m r dy = mkM I ns a m r dy :=
  mkM_C (h.1 151 (by decide) (by decide)) (h.1 144 (by decide) (by decide)) (h.1 141 (by decide) (by decide)) (h.1 145 (by decide) (by decide)) (h.1 146 (by decide) (by decide)) (h.1 147 (by decide) (by decide)) (h.1 148 (by decide) (by decide)) h.2 (h.1 139 (by decide) (by decide)) (h.1 160 (by decide) (by decide)) ns a m r dy
theorem mE5.md {I I' : Nat → Nat → Int32} {ns nd nr nm : Nat} (h : mE5 I I') (q : mdOK I ns nd nr nm) : mdOK I' ns nd nr nm := mdOK_E q (fun c hc => h.1 c (by omega) (by omega)) h.2
theorem jR.mE5 {h h1 h2 : zMem} (a : jR h h1) (w : zW h1 h2) (e : mE5 (zI h1) (zI h2)) : jR h h2 := ⟨a.1.trans w, a.2.trans e.j⟩
set_option maxHeartbeats 1000000 in
theorem X10_layMarks_ok {G : zG} {d : Nat} {h : zMem} (hS : zSh2 h) {ns nd nr nm m r : Nat} (hM : mdOK (zI h) ns nd nr nm) (hm : m < nm) (hrm : zI h 159 m = nI r) (hr : r < nr) :
    zConV G mX10_layMarks (d + 7) [.ref 132, .int (nI m)] h (fun h' => zW h h' ∧ mE5 (zI h) (zI h') ∧ ∀ dy, dy < nd → zI h' 165 dy = mkM (zI h) ns 0 m r dy) := by
  refine cn_X10_layMarks (sg_X10_layMarks_0 hS ?_)
  have loop : ∀ n k (h1 : zMem), n + k = nd → zW h h1 → mE5 (zI h) (zI h1) → (∀ dy, dy < k → zI h1 165 dy = mkM (zI h) ns 0 m r dy) → zg G mX10_layMarks (d + 7) 2 [.ref 132, .int (nI m), .int (nI k)] [] h1 (zPV (fun h' => zW h h' ∧ mE5 (zI h) (zI h') ∧ ∀ dy, dy < nd → zI h' 165 dy = mkM (zI h) ns 0 m r dy)) := by
    intro n
    induction n with
    | zero =>
      intro k h1 hk q1 q2 q3
      obtain ⟨b1, b2, b3, b4, b5, b6, -⟩ := q2.md hM
      refine sg_X10_layMarks_2 (hS.W q1) ?_
      rw [b2]
      exact ⟨fun _ => ⟨q1, q2, fun dy hd => q3 dy (by omega)⟩, fun c => absurd (nI_le (by omega) (by omega)) c⟩
    | succ n ih =>
      intro k h1 hk q1 q2 q3
      obtain ⟨b1, b2, b3, b4, b5, b6, b7, b8, b9, b10, b11, b12, -⟩ := q2.md hM
      refine sg_X10_layMarks_2 (hS.W q1) ?_
      rw [b2, zcla (show k < 2 ^ 31 by omega), nI_1]
      refine ⟨fun c => absurd c (nI_ge (by omega) (by omega)), fun _ => ⟨_, X10_markOf_ok (a := 0) (r := r) (hS.W q1) b9 b10 b1 b5 (show k < 16 by omega) (by decide) (show m < 5 by omega) (by rw [Nat.mul_zero, Nat.zero_add, q2.1 159 (by decide) (by decide)]; exact hrm) (by omega) (b11 m hm) (fun s hs => b12 k s (by omega) hs), ?_⟩⟩
      rintro v h3 ⟨rfl, z1, z2⟩
      refine ⟨(hS.W q1).W z1, zin_n (by omega) (by decide), ih (k + 1) _ (by omega) ((q1.trans z1).sI _ _ _) (by rw [zI_sI]; exact (q2.trans z2.five).up _ _) (fun dy hd => ?_)⟩
      by_cases e : dy = k
      · subst e; rw [zI_sI, zup_s, q2.mk]
      · rw [zI_sI, zup_i _ _ _ e, z2.1 165 (by decide)]; exact q3 dy (by omega)
  exact loop nd 0 h (by omega) (zW.rf h) (mE5.rf _) (fun dy hd => absurd hd (by omega))
/-- how many are like the a-th, of m from b on; how many pairs; the l-th pair -/
def alk (f : Nat → Int32) (a : Nat) : Nat → Nat → Nat
  | 0, _ => 0
  | m + 1, b => (if f a = f b then 1 else 0) + alk f a m (b + 1)
def alp (f : Nat → Int32) : Nat → Nat → Nat
  | 0, _ => 0
  | n + 1, a => alk f a n (a + 1) + alp f n (a + 1)
def fnq (f : Nat → Int32) (K : Nat → Int32) (a : Nat) : Nat → Nat → Nat → Int32
  | 0, _, l => K l
  | m + 1, b, l => if f a = f b then (if l = 0 then nI (10 * a + b) else fnq f K a m (b + 1) (l - 1)) else fnq f K a m (b + 1) l
def fnp (f : Nat → Int32) : Nat → Nat → Nat → Int32
  | 0, _, _ => -2
  | n + 1, a, l => fnq f (fun l' => fnp f n (a + 1) l') a n (a + 1) l
theorem ix10 (a s : Nat) : (10 : Int32) * nI a + nI s = nI (10 * a + s) := by
  show nI 10 * nI a + nI s = _
  rw [pk_mul]; exact (Int32.ofNat_add _ _).symm
set_option maxHeartbeats 1000000 in
theorem X9_alikePairs_ok {G : zG} {d t nd : Nat} {h : zMem} {f : Nat → Int32} (hS : zSh1 h t) (hn : zI h (t + 1) 1 = nI nd) (h8 : nd ≤ 8) (hf : ∀ dy, dy < nd → zI h 102 dy = f dy) : zConI G mX9_alikePairs d [.ref 0] h (fun v h' => v = nI (alp f nd 0) ∧ h' = h) := by
  refine cn_X9_alikePairs (sg_X9_alikePairs_0 hS ?_)
  have inner : ∀ (a : Nat), a < nd → ∀ T, (∀ c, c = T → zg G mX9_alikePairs d 4 [.ref 0, .int (nI c), .int (nI (a + 1)), zU] [] h (zPI (fun v h' => v = nI (alp f nd 0) ∧ h' = h))) → ∀ m b c, m + b = nd → a < b → c + alk f a m b = T → zg G mX9_alikePairs d 21 [.ref 0, .int (nI c), .int (nI a), .int (nI b)] [] h (zPI (fun v h' => v = nI (alp f nd 0) ∧ h' = h)) := by
    intro a ha T K m
    induction m with
    | zero =>
      intro b c hb hab hc
      refine sg_X9_alikePairs_21 hS ?_
      rw [hn, nI_1 a]
      exact ⟨fun _ => K c hc, fun q => absurd (nI_le (by omega) (by omega)) q⟩
    | succ m ih =>
      intro b c hb hab hc
      refine sg_X9_alikePairs_21 hS ?_
      rw [hn, zcla (show a < 2 ^ 31 by omega), zcla (show b < 2 ^ 31 by omega), hf a ha, hf b (by omega)]
      simp only [nI_1]
      unfold alk at hc
      refine ⟨fun q => absurd q (nI_ge (by omega) (by omega)), fun _ => ⟨zin_n (by omega) (by decide), zin_n (by omega) (by decide), fun q => ih (b + 1) c (by omega) (by omega) ?_, fun q => ih (b + 1) (c + 1) (by omega) (by omega) ?_⟩⟩
      · rw [if_neg q] at hc; omega
      · rw [if_pos q] at hc; omega
  have outer : ∀ n a c, n + a = nd → c + alp f n a = alp f nd 0 → zg G mX9_alikePairs d 4 [.ref 0, .int (nI c), .int (nI a), zU] [] h (zPI (fun v h' => v = nI (alp f nd 0) ∧ h' = h)) := by
    intro n
    induction n with
    | zero =>
      intro a c ha hc
      refine sg_X9_alikePairs_4 hS ?_
      rw [hn, ← hc]
      exact ⟨fun _ => ⟨rfl, rfl⟩, fun q => absurd (nI_le (by omega) (by omega)) q⟩
    | succ n ih =>
      intro a c ha hc
      refine sg_X9_alikePairs_4 hS ?_
      rw [hn, nI_1]
      rw [alp] at hc
      exact ⟨fun q => absurd q (nI_ge (by omega) (by omega)), fun _ => inner a (by omega) (c + alk f a n (a + 1)) (fun c' e => ih (a + 1) c' (by omega) (by omega)) n (a + 1) c (by omega) (by omega) rfl⟩
  exact outer nd 0 0 (by omega) (by omega)
set_option maxHeartbeats 1000000 in
theorem X10_pairOf_all {G : zG} {d : Nat} {h : zMem} (hS : zSh2 h) {ns nd nr nm m r : Nat} (hM : mdOK (zI h) ns nd nr nm) (hm : m < nm) (hrm : zI h 159 m = nI r) (hr : r < nr) :
    zConI G mX10_pairOf (d + 8) [.ref 132, .int (nI m), .int (-1)] h (fun v h' => v = nI (alp (mkM (zI h) ns 0 m r) nd 0) ∧ zW h h' ∧ mE5 (zI h) (zI h')) := by
  refine cn_X10_pairOf (sg_X10_pairOf_0 hS ⟨_, X10_layMarks_ok hS hM hm hrm hr, ?_⟩)
  rintro h2 ⟨q1, q2, hf⟩
  have S := hS.W q1
  obtain ⟨-, hn, -, -, -, h8, -⟩ := q2.md hM
  obtain ⟨f, ef⟩ : ∃ f, f = mkM (zI h) ns 0 m r := ⟨_, rfl⟩
  rw [← ef] at hf ⊢
  refine ⟨S, ?_⟩
  obtain ⟨Q, hQ⟩ : ∃ Q : Int32 → zMem → Prop, Q = (fun v h' => v = nI (alp f nd 0) ∧ zW h h' ∧ mE5 (zI h) (zI h')) := ⟨_, rfl⟩
  rw [← hQ]
  have inner : ∀ (a : Nat), a < nd → ∀ T, (∀ c, c = T → c ≤ 8 * (a + 1) → zg G mX10_pairOf (d + 8) 10 [.ref 132, .int (nI m), .int (-1), .int (nI c), .int (nI (a + 1)), zU] [] h2 (zPI Q)) → ∀ m' b c, m' + b = nd → a < b → c ≤ 8 * a + b → c + alk f a m' b = T → zg G mX10_pairOf (d + 8) 27 [.ref 132, .int (nI m), .int (-1), .int (nI c), .int (nI a), .int (nI b)] [] h2 (zPI Q) := by
    intro a ha T K m'
    induction m' with
    | zero =>
      intro b c hb hab hle hc
      refine sg_X10_pairOf_27 S ?_
      rw [hn, nI_1 a]
      exact ⟨fun _ => K c hc (by omega), fun q => absurd (nI_le (by omega) (by omega)) q⟩
    | succ m' ih =>
      intro b c hb hab hle hc
      refine sg_X10_pairOf_27 S ?_
      rw [hn, zcla (show a < 2 ^ 31 by omega), zcla (show b < 2 ^ 31 by omega), hf a ha, hf b (by omega)]
      simp only [nI_1]
      unfold alk at hc
      refine ⟨fun q => absurd q (nI_ge (by omega) (by omega)), fun _ => ⟨zin_n (by omega) (by decide), zin_n (by omega) (by decide), fun q => ⟨fun _ => ih (b + 1) (c + 1) (by omega) (by omega) (by omega) ?_, fun q2 => absurd q2 (nI_nm1 (by omega))⟩, fun q => ih (b + 1) c (by omega) (by omega) (by omega) ?_⟩⟩
      · rw [if_pos q] at hc; omega
      · rw [if_neg q] at hc; omega
  have outer : ∀ n a c, n + a = nd → c ≤ 8 * a → c + alp f n a = alp f nd 0 → zg G mX10_pairOf (d + 8) 10 [.ref 132, .int (nI m), .int (-1), .int (nI c), .int (nI a), zU] [] h2 (zPI Q) := by
    intro n
    induction n with
    | zero =>
      intro a c ha hle hc
      refine sg_X10_pairOf_10 S ?_
      rw [hn, hQ, ← hc]
      exact ⟨fun _ => ⟨fun q => absurd rfl q, fun _ => ⟨rfl, q1, q2⟩⟩, fun q => absurd (nI_le (by omega) (by omega)) q⟩
    | succ n ih =>
      intro a c ha hle hc
      refine sg_X10_pairOf_10 S ?_
      rw [hn, nI_1]
      rw [alp] at hc
      exact ⟨fun q => absurd q (nI_ge (by omega) (by omega)), fun _ => inner a (by omega) (c + alk f a n (a + 1)) (fun c' e hl => ih (a + 1) c' (by omega) hl (by omega)) n (a + 1) c (by omega) (by omega) (by omega) rfl⟩
  exact outer nd 0 0 (by omega) (by omega) (by omega)
set_option maxHeartbeats 1000000 in
theorem X10_pairOf_one {G : zG} {d : Nat} {h : zMem} (hS : zSh2 h) {ns nd nr nm m r k : Nat} (hM : mdOK (zI h) ns nd nr nm) (hm : m < nm) (hrm : zI h 159 m = nI r) (hr : r < nr) (hk : k < 2 ^ 31) :
    zConI G mX10_pairOf (d + 8) [.ref 132, .int (nI m), .int (nI k)] h (fun v h' => v = fnp (mkM (zI h) ns 0 m r) nd 0 k ∧ zW h h' ∧ mE5 (zI h) (zI h')) := by
  refine cn_X10_pairOf (sg_X10_pairOf_0 hS ⟨_, X10_layMarks_ok hS hM hm hrm hr, ?_⟩)
  rintro h2 ⟨q1, q2, hf⟩
  have S := hS.W q1
  obtain ⟨-, hn, -, -, -, h8, -⟩ := q2.md hM
  obtain ⟨f, ef⟩ : ∃ f, f = mkM (zI h) ns 0 m r := ⟨_, rfl⟩
  rw [← ef] at hf ⊢
  refine ⟨S, ?_⟩
  obtain ⟨R, hR⟩ : ∃ R, R = fnp f nd 0 k := ⟨_, rfl⟩
  rw [← hR]
  have inner : ∀ (a : Nat), a < nd → ∀ F : Nat → Int32, (∀ c l, c + l = k → F l = R → zg G mX10_pairOf (d + 8) 10 [.ref 132, .int (nI m), .int (nI k), .int (nI c), .int (nI (a + 1)), zU] [] h2 (zPI (fun v h' => v = R ∧ zW h h' ∧ mE5 (zI h) (zI h')))) → ∀ m' b c l, m' + b = nd → a < b → c + l = k → fnq f F a m' b l = R → zg G mX10_pairOf (d + 8) 27 [.ref 132, .int (nI m), .int (nI k), .int (nI c), .int (nI a), .int (nI b)] [] h2 (zPI (fun v h' => v = R ∧ zW h h' ∧ mE5 (zI h) (zI h'))) := by
    intro a ha F K m'
    induction m' with
    | zero =>
      intro b c l hb hab hcl hc
      refine sg_X10_pairOf_27 S ?_
      rw [hn, nI_1 a]
      exact ⟨fun _ => K c l hcl hc, fun q => absurd (nI_le (by omega) (by omega)) q⟩
    | succ m' ih =>
      intro b c l hb hab hcl hc
      refine sg_X10_pairOf_27 S ?_
      rw [hn, zcla (show a < 2 ^ 31 by omega), zcla (show b < 2 ^ 31 by omega), hf a ha, hf b (by omega), ix10]
      simp only [nI_1]
      unfold fnq at hc
      refine ⟨fun q => absurd q (nI_ge (by omega) (by omega)), fun _ => ⟨zin_n (by omega) (by decide), zin_n (by omega) (by decide), fun q => ⟨fun q3 => ?_, fun q3 => ?_⟩, fun q => ih (b + 1) c l (by omega) (by omega) hcl ?_⟩⟩
      · have l0 : ¬ l = 0 := fun e => q3 (by rw [← hcl, e]; rfl)
        rw [if_pos q, if_neg l0] at hc
        exact ih (b + 1) (c + 1) (l - 1) (by omega) (by omega) (by omega) hc
      · have l0 : l = 0 := by have := nI_inj (by omega) hk q3; omega
        rw [if_pos q, if_pos l0] at hc
        exact ⟨hc, q1, q2⟩
      · rw [if_neg q] at hc; exact hc
  have outer : ∀ n a c l, n + a = nd → c + l = k → fnp f n a l = R → zg G mX10_pairOf (d + 8) 10 [.ref 132, .int (nI m), .int (nI k), .int (nI c), .int (nI a), zU] [] h2 (zPI (fun v h' => v = R ∧ zW h h' ∧ mE5 (zI h) (zI h'))) := by
    intro n
    induction n with
    | zero =>
      intro a c l ha hcl hc
      refine sg_X10_pairOf_10 S ?_
      rw [hn]
      exact ⟨fun _ => ⟨fun _ => ⟨hc, q1, q2⟩, fun q => absurd q (nI_nm1 hk)⟩, fun q => absurd (nI_le (by omega) (by omega)) q⟩
    | succ n ih =>
      intro a c l ha hcl hc
      refine sg_X10_pairOf_10 S ?_
      rw [hn, nI_1]
      unfold fnp at hc
      exact ⟨fun q => absurd q (nI_ge (by omega) (by omega)), fun _ => inner a (by omega) _ (fun c' l' e1 e2 => ih (a + 1) c' l' (by omega) e1 e2) n (a + 1) c l (by omega) (by omega) hcl hc⟩
  exact outer nd 0 0 k (by omega) (by omega) hR.symm
set_option maxHeartbeats 1000000 in
theorem X9_markDays_ok {G : zG} {d t ns nd m r : Nat} {h : zMem} (hS : zSh1 h t) (hn : zI h (t + 1) 0 = nI ns) (h6 : ns ≤ 6) (hnd : zI h (t + 1) 1 = nI nd) (h8 : nd ≤ 8) (hm : m < 5) (hr : r < 6) (hw : lwOK (zI h) (t + 21)) :
    zConV G mX9_markDays (d + 4) [.ref 0, .int (nI m), .int (nI r)] h (fun h' => (zW h h' ∧ ∀ a, a ≠ 102 → zI h' a = zI h a) ∧ ∀ dy, dy < nd → zI h' 102 dy = markF (zI h) 48 t ns m r dy (keenF (zI h) 48 t m r)) := by
  refine cn_X9_markDays (sg_X9_markDays_0 hS ⟨_, X5_keenOf_ok (b := 48) hS (Or.inl rfl) hS.2.1 hr hm hw, ?_⟩)
  rintro v h2 ⟨rfl, q⟩
  refine ⟨hS.F q, ?_⟩
  have ht : t + 29 ≤ 132 := hS.2.1.lt
  have htn : t = 8 ∨ t = 103 := hS.2.1
  have loop : ∀ n k (h1 : zMem), n + k = nd → zW h h1 → (∀ a, a ≠ 102 → zI h1 a = zI h a) → (∀ dy, dy < k → zI h1 102 dy = markF (zI h) 48 t ns m r dy (keenF (zI h) 48 t m r)) → zg G mX9_markDays (d + 4) 17 [.ref 0, .int (nI m), .int (nI r), .int (keenF (zI h) 48 t m r), .int (nI k)] [] h1 (zPV (fun h' => (zW h h' ∧ ∀ a, a ≠ 102 → zI h' a = zI h a) ∧ ∀ dy, dy < nd → zI h' 102 dy = markF (zI h) 48 t ns m r dy (keenF (zI h) 48 t m r))) := by
    intro n
    induction n with
    | zero =>
      intro k h1 hk q1 q2 q3
      refine sg_X9_markDays_17 (hS.W q1) ?_
      rw [q2 (t + 1) (by omega), hnd]
      exact ⟨fun _ => ⟨⟨q1, q2⟩, fun dy hd => q3 dy (by omega)⟩, fun c => absurd (nI_le (by omega) (by omega)) c⟩
    | succ n ih =>
      intro k h1 hk q1 q2 q3
      have S := hS.W q1
      have hrow := zS_trow S S.2.1 9 8 6 rfl rfl rfl (zin_n (show k < 8 by omega) (by decide))
      rw [zcla (show k < 2 ^ 31 by omega)] at hrow
      refine sg_X9_markDays_17 S ?_
      rw [q2 (t + 1) (by omega), hnd, zcla (show k < 2 ^ 31 by omega), zcla (show m < 2 ^ 31 by omega), zcla (show r < 2 ^ 31 by omega), q2 51 (by decide), q2 60 (by decide), nI_1]
      refine ⟨fun c => absurd c (nI_ge (by omega) (by omega)), fun _ => ⟨zin_n (by omega) (by decide), zin_n (by omega) (by decide), zin_n (by omega) (by decide), _, X7_smelt_ok S S.2.1 (by rw [q2 (t + 1) (by omega)]; exact hn) h6 hrow.2.1 hrow.2.2 _ _ _, ?_⟩⟩
      rintro v h3 ⟨rfl, rfl⟩
      refine ⟨S, ih (k + 1) _ (by omega) (q1.sI _ _ _) (fun a ha => ?_) (fun dy hd => ?_)⟩
      · rw [zI_sI, zup_ne _ _ ha]; exact q2 a ha
      · by_cases e : dy = k
        · subst e; rw [zI_sI, zup_s, q2 (t + 9 + 1 + dy) (by omega)]; rfl
        · rw [zI_sI, zup_i _ _ _ e]; exact q3 dy (by omega)
  exact loop nd 0 h2 (by omega) q.w (fun a _ => by rw [q.2.2]) (fun dy hd => absurd hd (by omega))
theorem cR_102 {h h1 : zMem} (q : zW h h1 ∧ ∀ a, a ≠ 102 → zI h1 a = zI h a) : cR h h1 := ⟨q.1, fun c j hn => by rw [q.2 c (fun e => hn (by unfold jkP; omega))], fun c hc => q.2 c (by omega)⟩
/-- what is told and now, seen from both sides -/
theorem mk_eq {I : Nat → Nat → Int32} {t ns nd nr nm dt u nn tp m r dy : Nat} (hI : zInv I t ns nd nr nm dt u nn tp) (hm : m < nm) (hr : r < nr) (hd : dy < nd) : markF I 48 t ns m r dy (keenF I 48 t m r) = mkM I ns 0 m r dy := by
  obtain ⟨w1, w2, w3, w4, w5, w6, w7, w8⟩ := now0 hI.2.2.1.1
  have ep : I (48 + 3) r = ptM I r := by unfold ptM; rw [hI.2.1.2]; exact w6 r hr
  have ec : I (48 + 12) m = cdM I 0 m := by unfold cdM; rw [hI.2.1.2, Nat.mul_zero, Nat.zero_add]; exact (w8 m hm).2.1
  have rl := hI.1.2.2.1
  exact eq_mark rl hI.2.1.1 hI.1.1.2.2.2.2.2.1 ep ec (eq_keen rl w1 ep hm) hd
set_option maxHeartbeats 1000000 in
theorem pr_mixedUp {G : zG} {d : Nat} {h : zMem} (hOK : zOK h) (x : Int32) : pairI G mX9_mixedUp mX10_mixedUp (d + 200) [.ref 0, .int x] [.ref 132, .int x] h := by
  have hOK' := hOK
  obtain ⟨t, ns, nd, nr, nm, dt, u, nn, tp, S1, S2, -, hI⟩ := hOK'
  obtain ⟨td, md, rl, -⟩ := hI.1
  obtain ⟨t0, t1, t2, t3, h6, h8, h6r, h5, hlw⟩ := td
  obtain ⟨w1, w2, w3, w4, w5, w6, w7, w8⟩ := now0 hI.2.2.1.1
  have P : ∀ h1, cR h h1 → zSh2 (zsI h1 132 0 0) ∧ zInv (zI (zsI h1 132 0 0)) t ns nd nr nm dt u nn tp := fun h1 k => ⟨S2.W k.thr.1, zInv_j S1.2.1 hI k.thr.2⟩
  rcases ix_or x (n := nm) (by omega) with q | ⟨m, hm, rfl⟩
  · refine pair_ro hOK (-1) ?_ (fun h1 k => ?_)
    · refine cn_X9_mixedUp (sg_X9_mixedUp_0 S1 ⟨_, X9_has_no (k := 3) S1 (by decide) t3 q, ?_⟩)
      rintro v h2 ⟨rfl, rfl⟩
      exact ⟨S1, fun c => absurd rfl c, fun _ => ⟨rfl, cR.rf _⟩⟩
    · obtain ⟨S3, I3⟩ := P h1 k
      refine cn_X10_mixedUp (sg_X10_mixedUp_0 (S2.W k.1) ⟨_, X10_isMonk_no S3 I3.1.2.1.2.2.2.1 q, ?_⟩)
      rintro v h2 ⟨rfl, rfl⟩
      exact ⟨S3, fun _ => ⟨rfl, jR.thr h1⟩, fun c => absurd rfl c⟩
  · obtain ⟨r, hr, er⟩ := (ab0 hI.2.2.1.2.1).1 m hm
    have er' : zI h 59 m = nI r := (w8 m hm).1.trans er
    refine pair_ro hOK (nI (alp (mkM (zI h) ns 0 m r) nd 0)) ?_ (fun h1 k => ?_)
    · refine cn_X9_mixedUp (sg_X9_mixedUp_0 S1 ⟨_, X9_has_yes (k := 3) S1 (by decide) t3 hm (by omega), ?_⟩)
      rintro v h2 ⟨rfl, rfl⟩
      rw [zcla (show m < 2 ^ 31 by omega), er']
      refine ⟨S1, fun _ => ⟨zin_n (by omega) (by decide), _, X9_markDays_ok S1 t0 h6 t1 h8 (show m < 5 by omega) (show r < 6 by omega) hlw, ?_⟩, fun c => absurd c n10⟩
      rintro h3 ⟨q1, q2⟩
      have hk := cR_102 q1
      refine ⟨S1.W q1.1, _, X9_alikePairs_ok (f := mkM (zI h2) ns 0 m r) (S1.W q1.1) (by rw [q1.2 (t + 1) (by have := S1.2.1; unfold isTd at this; omega)]; exact t1) h8 (fun dy hd => (q2 dy hd).trans (mk_eq hI hm hr hd)), ?_⟩
      rintro v h4 ⟨rfl, rfl⟩
      exact ⟨S1.W q1.1, rfl, hk⟩
    · obtain ⟨S3, I3⟩ := P h1 k
      refine cn_X10_mixedUp (sg_X10_mixedUp_0 (S2.W k.1) ⟨_, X10_isMonk_yes S3 I3.1.2.1.2.2.2.1 hm (by omega), ?_⟩)
      rintro v h2 ⟨rfl, rfl⟩
      refine ⟨S3, fun c => absurd c n10, fun _ => ⟨_, X10_pairOf_all S3 I3.1.2.1 hm (by rw [k.eT.1 159 (by decide)]; exact er) hr, ?_⟩⟩
      rintro v h4 ⟨rfl, z1, z2⟩
      refine ⟨S3.W z1, ?_, (jR.thr h1).mE5 z1 z2⟩
      rw [show mkM (zI (zsI h1 132 0 0)) ns 0 m r = mkM (zI h) ns 0 m r from funext fun dy => k.eT.mk _ _ _ _ _]
set_option maxHeartbeats 1000000 in
theorem pr_pair {G : zG} {d : Nat} {h : zMem} (hOK : zOK h) (x y : Int32) : pairI G mX9_pair mX10_pair (d + 200) [.ref 0, .int x, .int y] [.ref 132, .int x, .int y] h := by
  have hOK' := hOK
  obtain ⟨t, ns, nd, nr, nm, dt, u, nn, tp, S1, S2, -, hI⟩ := hOK'
  obtain ⟨td, md, rl, -⟩ := hI.1
  obtain ⟨t0, t1, t2, t3, h6, h8, h6r, h5, hlw⟩ := td
  obtain ⟨w1, w2, w3, w4, w5, w6, w7, w8⟩ := now0 hI.2.2.1.1
  have P : ∀ h1, cR h h1 → zSh2 (zsI h1 132 0 0) ∧ zInv (zI (zsI h1 132 0 0)) t ns nd nr nm dt u nn tp := fun h1 k => ⟨S2.W k.thr.1, zInv_j S1.2.1 hI k.thr.2⟩
  rcases ix_or x (n := nm) (by omega) with q | ⟨m, hm, rfl⟩
  · refine pair_ro hOK (-1) ?_ (fun h1 k => ?_)
    · refine cn_X9_pair (sg_X9_pair_0 S1 ⟨_, X9_has_no (k := 3) S1 (by decide) t3 q, ?_⟩)
      rintro v h2 ⟨rfl, rfl⟩
      exact ⟨S1, fun _ => ⟨rfl, cR.rf _⟩, fun c => absurd rfl c⟩
    · obtain ⟨S3, I3⟩ := P h1 k
      refine cn_X10_pair (sg_X10_pair_0 (S2.W k.1) ⟨_, X10_isMonk_no S3 I3.1.2.1.2.2.2.1 q, ?_⟩)
      rintro v h2 ⟨rfl, rfl⟩
      exact ⟨S3, fun _ => ⟨rfl, jR.thr h1⟩, fun c => absurd rfl c⟩
  by_cases y0 : y < 0
  · have y0' : ¬ (0 : Int32) ≤ y := Int32.not_le.mpr y0
    refine pair_ro hOK (-1) ?_ (fun h1 k => ?_)
    · refine cn_X9_pair (sg_X9_pair_0 S1 ⟨_, X9_has_yes (k := 3) S1 (by decide) t3 hm (by omega), ?_⟩)
      rintro v h2 ⟨rfl, rfl⟩
      exact ⟨S1, fun _ => ⟨rfl, cR.rf _⟩, fun _ => ⟨fun c => absurd c y0', fun _ => ⟨rfl, cR.rf _⟩⟩⟩
    · obtain ⟨S3, I3⟩ := P h1 k
      refine cn_X10_pair (sg_X10_pair_0 (S2.W k.1) ⟨_, X10_isMonk_yes S3 I3.1.2.1.2.2.2.1 hm (by omega), ?_⟩)
      rintro v h2 ⟨rfl, rfl⟩
      exact ⟨S3, fun _ => ⟨rfl, jR.thr h1⟩, fun _ => ⟨fun _ => ⟨rfl, jR.thr h1⟩, fun c => absurd y0 c⟩⟩
  obtain ⟨k0, hk0, rfl⟩ := nI_of y0
  obtain ⟨r, hr, er⟩ := (ab0 hI.2.2.1.2.1).1 m hm
  have er' : zI h 59 m = nI r := (w8 m hm).1.trans er
  obtain ⟨f, ef⟩ : ∃ f, f = mkM (zI h) ns 0 m r := ⟨_, rfl⟩
  obtain ⟨R, hR⟩ : ∃ R, R = fnp f nd 0 k0 := ⟨_, rfl⟩
  refine pair_ro hOK R ?_ (fun h1 k => ?_)
  · refine cn_X9_pair (sg_X9_pair_0 S1 ⟨_, X9_has_yes (k := 3) S1 (by decide) t3 hm (by omega), ?_⟩)
    rintro v h2 ⟨rfl, rfl⟩
    rw [zcla (show m < 2 ^ 31 by omega), er']
    refine ⟨S1, fun c => absurd c n10, fun _ => ⟨fun _ => ⟨zin_n (by omega) (by decide), _, X9_markDays_ok S1 t0 h6 t1 h8 (show m < 5 by omega) (show r < 6 by omega) hlw, ?_⟩, fun c => absurd (Int32.not_lt.mp y0) c⟩⟩
    rintro h3 ⟨q1, q2⟩
    have hk := cR_102 q1
    have S := S1.W q1.1
    refine ⟨S, ?_⟩
    have hn : zI h3 (t + 1) 1 = nI nd := by rw [q1.2 (t + 1) (by have := S1.2.1; unfold isTd at this; omega)]; exact t1
    have hf : ∀ dy, dy < nd → zI h3 102 dy = f dy := fun dy hd => by rw [ef]; exact (q2 dy hd).trans (mk_eq hI hm hr hd)
    have inner : ∀ (a : Nat), a < nd → ∀ F : Nat → Int32, (∀ l, l < 2 ^ 31 → F l = R → zg G mX9_pair (d + 200) 34 [.ref 0, .int (nI m), .int (nI k0), .int (nI l), .int (nI (a + 1)), zU] [] h3 (zPI (fun v h1 => v = R ∧ cR h2 h1))) → ∀ m' b l, m' + b = nd → a < b → l < 2 ^ 31 → fnq f F a m' b l = R → zg G mX9_pair (d + 200) 54 [.ref 0, .int (nI m), .int (nI k0), .int (nI l), .int (nI a), .int (nI b)] [] h3 (zPI (fun v h1 => v = R ∧ cR h2 h1)) := by
      intro a ha F K m'
      induction m' with
      | zero =>
        intro b l hb hab hl hc
        refine sg_X9_pair_54 S ?_
        rw [hn, nI_1 a]
        exact ⟨fun _ => K l hl hc, fun q => absurd (nI_le (by omega) (by omega)) q⟩
      | succ m' ih =>
        intro b l hb hab hl hc
        refine sg_X9_pair_54 S ?_
        rw [hn, zcla (show a < 2 ^ 31 by omega), zcla (show b < 2 ^ 31 by omega), hf a ha, hf b (by omega), ix10]
        simp only [nI_1]
        unfold fnq at hc
        refine ⟨fun q => absurd q (nI_ge (by omega) (by omega)), fun _ => ⟨zin_n (by omega) (by decide), zin_n (by omega) (by decide), fun q => ih (b + 1) l (by omega) (by omega) hl ?_, fun q => ⟨fun q3 => ?_, fun q3 => ?_⟩⟩⟩
        · rw [if_neg q] at hc; exact hc
        · have l0 : ¬ l = 0 := fun e => q3 (by rw [e]; rfl)
          rw [if_pos q, if_neg l0] at hc
          have := ih (b + 1) (l - 1) (by omega) (by omega) (by omega) hc
          rw [show nI l + (-1) = nI (l - 1) by have := pk_m1 (l - 1); rw [show l - 1 + 1 = l by omega] at this; exact this]
          exact this
        · have l0 : l = 0 := Nat.eq_zero_of_not_pos (fun p => nI_ne0 p hl q3)
          rw [if_pos q, if_pos l0] at hc
          exact ⟨hc, hk⟩
    have outer : ∀ n a l, n + a = nd → l < 2 ^ 31 → fnp f n a l = R → zg G mX9_pair (d + 200) 34 [.ref 0, .int (nI m), .int (nI k0), .int (nI l), .int (nI a), zU] [] h3 (zPI (fun v h1 => v = R ∧ cR h2 h1)) := by
      intro n
      induction n with
      | zero =>
        intro a l ha hl hc
        refine sg_X9_pair_34 S ?_
        rw [hn]
        exact ⟨fun _ => ⟨hc, hk⟩, fun q => absurd (nI_le (by omega) (by omega)) q⟩
      | succ n ih =>
        intro a l ha hl hc
        refine sg_X9_pair_34 S ?_
        rw [hn, nI_1]
        unfold fnp at hc
        exact ⟨fun q => absurd q (nI_ge (by omega) (by omega)), fun _ => inner a (by omega) _ (fun l' e1 e2 => ih (a + 1) l' (by omega) e1 e2) n (a + 1) l (by omega) (by omega) hl hc⟩
    exact outer nd 0 k0 (by omega) hk0 hR.symm
  · obtain ⟨S3, I3⟩ := P h1 k
    refine cn_X10_pair (sg_X10_pair_0 (S2.W k.1) ⟨_, X10_isMonk_yes S3 I3.1.2.1.2.2.2.1 hm (by omega), ?_⟩)
    rintro v h2 ⟨rfl, rfl⟩
    refine ⟨S3, fun c => absurd c n10, fun _ => ⟨fun c => absurd c y0, fun _ => ⟨_, X10_pairOf_one S3 I3.1.2.1 hm (by rw [k.eT.1 159 (by decide)]; exact er) hr hk0, ?_⟩⟩⟩
    rintro v h4 ⟨rfl, z1, z2⟩
    refine ⟨S3.W z1, ?_, (jR.thr h1).mE5 z1 z2⟩
    rw [hR, ef, show mkM (zI (zsI h1 132 0 0)) ns 0 m r = mkM (zI h) ns 0 m r from funext fun dy => k.eT.mk _ _ _ _ _]
