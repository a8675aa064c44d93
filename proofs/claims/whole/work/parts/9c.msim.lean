/-! a formula: the model's descent beside the class's stack -/
def apds : List Int32 → tM → tM
  | [], A => A
  | x :: r, A => apds r (apd A x 0)
theorem apds_app : ∀ (τ : List Int32) (x : Int32) (A : tM), apds (τ ++ [x]) A = apd (apds τ A) x 0
  | [], _, _ => rfl
  | y :: r, x, A => apds_app r x (apd A y 0)
theorem stl_app {L : Int32} : ∀ {τ : List Int32} {σ : List Int32} {A : tM}, (∀ x, x ∈ τ → ¬ str x < L) → (σ = [] ∨ topS σ < L) → stl L (τ ++ σ) A = (σ, apds τ A)
  | [], σ, A, _, h => by
    cases σ with
    | nil => rfl
    | cons x r =>
      rcases h with h | h
      · cases h
      · show stl L (x :: r) A = _
        rw [stl, if_pos (show str x < L from h)]; rfl
  | x :: r, σ, A, hx, h => by
    show stl L (x :: (r ++ σ)) A = _
    rw [stl, if_neg (hx x List.mem_cons_self)]
    exact stl_app (fun y hy => hx y (List.mem_cons_of_mem _ hy)) h
/-- knots from the i-th on bring a stack from k values to m -/
def wfP (srt val : Nat → Int32) : Nat → Nat → Nat → Nat → Prop
  | 0, _, k, m => k = m
  | n + 1, i, k, m =>
    if srt i = 2 then (if val i = 260 then 1 ≤ k ∧ wfP srt val n (i + 1) k m else 2 ≤ k ∧ wfP srt val n (i + 1) (k - 1) m)
    else if srt i = 0 then wfP srt val n (i + 1) (k + 1) m
    else (∃ j, j < 7 ∧ val i = nI j) ∧ wfP srt val n (i + 1) (k + 1) m
theorem wfP_M (srt val : Nat → Int32) : ∀ n i k, wfP srt val n i k 1 → wfM srt val n i k
  | 0, _, _, h => h
  | n + 1, i, k, h => by
    rw [wfP] at h
    rw [wfM]
    by_cases c : srt i = 2
    · rw [if_pos c] at h ⊢
      by_cases c2 : val i = 260
      · rw [if_pos c2] at h ⊢; exact ⟨h.1, wfP_M srt val n _ _ h.2⟩
      · rw [if_neg c2] at h ⊢; exact ⟨h.1, wfP_M srt val n _ _ h.2⟩
    · rw [if_neg c] at h ⊢
      by_cases c2 : srt i = 0
      · rw [if_pos c2] at h ⊢; exact wfP_M srt val n _ _ h
      · rw [if_neg c2] at h ⊢; exact ⟨h.1, wfP_M srt val n _ _ h.2⟩
theorem wfP_cat {srt val : Nat → Int32} {n2 j m q : Nat} : ∀ n i k, j = i + n → wfP srt val n i k m → wfP srt val n2 j m q → wfP srt val (n + n2) i k q
  | 0, i, k, e, h, h2 => by
    have : k = m := h
    rw [this, Nat.zero_add, show i = j by omega]; exact h2
  | n + 1, i, k, e, h, h2 => by
    rw [show n + 1 + n2 = (n + n2) + 1 by omega]
    rw [wfP] at h ⊢
    by_cases c : srt i = 2
    · rw [if_pos c] at h ⊢
      by_cases c2 : val i = 260
      · rw [if_pos c2] at h ⊢; exact ⟨h.1, wfP_cat n (i + 1) _ (by omega) h.2 h2⟩
      · rw [if_neg c2] at h ⊢; exact ⟨h.1, wfP_cat n (i + 1) _ (by omega) h.2 h2⟩
    · rw [if_neg c] at h ⊢
      by_cases c2 : srt i = 0
      · rw [if_pos c2] at h ⊢; exact wfP_cat n (i + 1) _ (by omega) h h2
      · rw [if_neg c2] at h ⊢; exact ⟨h.1, wfP_cat n (i + 1) _ (by omega) h.2 h2⟩
theorem wfP_E {srt val srt' val' : Nat → Int32} {m : Nat} : ∀ n i k, (∀ j, i ≤ j → j < i + n → srt' j = srt j ∧ val' j = val j) → wfP srt val n i k m → wfP srt' val' n i k m
  | 0, _, _, _, h => h
  | n + 1, i, k, e, h => by
    obtain ⟨e1, e2⟩ := e i (Nat.le_refl _) (by omega)
    have nx : ∀ k, wfP srt val n (i + 1) k m → wfP srt' val' n (i + 1) k m := fun k => wfP_E n (i + 1) k (fun j a b => e j (by omega) (by omega))
    rw [wfP] at h ⊢
    rw [e1, e2]
    by_cases c : srt i = 2
    · rw [if_pos c] at h ⊢
      by_cases c2 : val i = 260
      · rw [if_pos c2] at h ⊢; exact ⟨h.1, nx _ h.2⟩
      · rw [if_neg c2] at h ⊢; exact ⟨h.1, nx _ h.2⟩
    · rw [if_neg c] at h ⊢
      by_cases c2 : srt i = 0
      · rw [if_pos c2] at h ⊢; exact nx _ h
      · rw [if_neg c2] at h ⊢; exact ⟨h.1, nx _ h.2⟩
def lnA (A : tM) : Nat := (A 21 7).toNatClampNeg
/-- what follows no more belongs to a level -/
def nxL (L : Int32) (s : List Int32) (A : tM) (tok : Int32) : Prop := str tok = 0 ∨ tok = 14 ∨ str tok < L ∨ (str tok = 4 ∧ topS (stl 5 s A).1 = 4)
def lvI (h1 : zMem) (n : Nat) (B : Nat → Int32) (o : Nat) (σ : List Int32) (A : tM) (p : Nat) (h : zMem) : Prop := mok h1 n B p h ∧ kS A (zI h) ∧ wfF o σ A ∧ zI h 132 29 = nI o
/-- knots that came: those ahead stay, and bring r values more -/
def kpW (A A' : tM) (r : Nat) (h h' : zMem) : Prop := lnA A ≤ lnA A' ∧ (∀ j, j < 64 + lnA A → zI h' 147 j = zI h 147 j ∧ zI h' 148 j = zI h 148 j) ∧ ∀ m, wfP (fun k => zI h' 147 (64 + k)) (fun k => zI h' 148 (64 + k)) (lnA A' - lnA A) (lnA A) m (m + r)
def lvO (h1 : zMem) (n : Nat) (B : Nat → Int32) (o : Nat) (σ : List Int32) (A : tM) (p : Nat) (L N : Int32) (h : zMem) (τ : List Int32) (Ac : tM) (p' : Nat) (h' : zMem) : Prop :=
  mok h1 n B p' h' ∧ kS (apds τ Ac) (zI h') ∧ wfF o (τ ++ σ) Ac ∧ zI h' 132 29 = nI o ∧ (∀ x, x ∈ τ → ¬ str x < L) ∧ p < p' ∧ (∀ k, n - p < k → ∃ k', n - p' < k' ∧ fml B n k true o σ A p = fml B n k' false o (τ ++ σ) Ac p') ∧ nxL N (τ ++ σ) Ac (tkt B n p') ∧ kpW A (apds τ Ac) 1 h h'
def lvB (h1 : zMem) (n : Nat) (B : Nat → Int32) (o : Nat) (σ : List Int32) (A : tM) (p : Nat) (h' : zMem) : Prop := ∃ f pl, mbad h1 f pl h' ∧ ∀ k, n - p < k → fml B n k true o σ A p = .inl (f, pl)
def lvP (h1 : zMem) (n : Nat) (B : Nat → Int32) (o : Nat) (σ : List Int32) (A : tM) (p : Nat) (L : Int32) (h h' : zMem) : Prop := fmE h h' ∧ (lvB h1 n B o σ A p h' ∨ ∃ τ Ac p', lvO h1 n B o σ A p L L h τ Ac p' h')
def lvC (h1 : zMem) (n : Nat) (B : Nat → Int32) (o : Nat) (σ : List Int32) (A : tM) (p : Nat) (L N : Int32) (h h' : zMem) : Prop := fmE h h' ∧ (lvB h1 n B o σ A p h' ∨ ∃ τ Ac p', lvO h1 n B o σ A p L N h τ Ac p' h')
section SM
variable {G : zG} {d n p : Nat} {h1 h : zMem} {B : Nat → Int32}
theorem apds_ln : ∀ {τ : List Int32} {A : tM} {ln : Nat}, A 21 7 = nI ln → (apds τ A) 21 7 = nI (ln + τ.length) ∧ (apds τ A) 21 8 = A 21 8
  | [], A, ln, h => ⟨h, rfl⟩
  | x :: r, A, ln, h => by
    have e : (apd A x 0) 21 7 = nI (ln + 1) := by unfold apd; rw [zup_s, h, nI_1]
    have e8 : (apd A x 0) 21 8 = A 21 8 := by unfold apd; rw [zup_i _ _ _ (by decide), zup_ne _ _ (by decide), zup_ne _ _ (by decide)]
    obtain ⟨a, b⟩ := apds_ln (τ := r) (A := apd A x 0) e
    refine ⟨?_, b.trans e8⟩
    show (apds r (apd A x 0)) 21 7 = _
    rw [a, List.length_cons, show ln + 1 + r.length = ln + (r.length + 1) by omega]
theorem nop_len : ∀ {τ : List Int32}, (∀ x, x ∈ τ → ¬ str x < 1) → ∀ σ, nop (τ ++ σ) = τ.length + nop σ
  | [], _, σ => by simp
  | x :: r, h, σ => by
    have hx : x ≠ 32 := by rintro rfl; exact h 32 List.mem_cons_self (by decide)
    show nop (x :: (r ++ σ)) = _
    rw [nop, if_neg hx, nop_len (fun y hy => h y (List.mem_cons_of_mem _ hy)), List.length_cons]
    omega
theorem lt_1 {L x : Int32} (hL : ¬ L < 1) (h : ¬ x < L) : ¬ x < 1 := by
  rw [Int32.lt_iff_toInt_lt] at *
  omega
/-- a sign between two levels, or ahead of one: knot, the next token, the level, the sign behind it -/
theorem sim_body {R : zMem → Prop} {mY : zM} {D : Nat} (hG : gK G) (bs : mBs h1 n B) {o p' r : Nat} {σ : List Int32} {A A1 : tM} {LY : Int32} {tok code : Int32} {h2 : zMem}
    (q : mok h1 n B p' h2) (k : kS A1 (zI h2)) (e29 : zI h2 132 29 = nI o) {kn : Nat} (e8 : A1 21 8 = nI kn) (h64 : kn ≤ 64) (hp' : p ≤ p') (t37 : tkt B n p' ≠ 37)
    (hw : A1 21 8 < 64 → wfF o (tok :: σ) (addK A1)) (hLY : ¬ LY < 1) (hop : tok = opT 2 code) (t36 : tok ≠ 36) (t32 : tok ≠ 32) (hkv : kvOK 2 code) (hr : (code = 260 ∧ r = 0) ∨ (code ≠ 260 ∧ r = 1)) (kw : kpW A A1 r h h2) (fe : fmE h h2) {ln : Nat} (eL : A1 21 7 = nI ln) (hln : ln ≤ 64)
    (hst : A1 21 8 < 64 → ∀ k, n - p < k → ∃ k', n - tke B n p' < k' ∧ fml B n k true o σ A p = fml B n k' true o (tok :: σ) (addK A1) (tke B n p'))
    (hsf : ¬ A1 21 8 < 64 → ∀ k, n - p < k → fml B n k true o σ A p = .inl (2, tks B n p'))
    (hY : ∀ h3, A1 21 8 < 64 → lvI h1 n B o (tok :: σ) (addK A1) (tke B n p') h3 → ∃ Q2 : zMem → Prop, zConV G mY (D + 12) [.ref 132] h3 Q2 ∧ (∀ h4, Q2 h4 → zSh2 h4 ∧ lvP h1 n B o (tok :: σ) (addK A1) (tke B n p') LY h3 h4))
    (hYF : ∀ h3 f pl, mbad h1 f pl h3 → ∃ Q2 : zMem → Prop, zConV G mY (D + 12) [.ref 132] h3 Q2 ∧ (∀ h4, Q2 h4 → zSh2 h4 ∧ h4 = h3))
    (K1 : ∀ h5, fmE h h5 → lvB h1 n B o σ A p h5 → R h5)
    (K2 : ∀ h5 τ2 Ac2 p3, fmE h h5 → (∀ x, x ∈ τ2 → ¬ str x < LY) → (∀ L, ¬ LY < L → ¬ str tok < L → lvO h1 n B o σ A p L LY h (τ2 ++ [tok]) Ac2 p3 h5) → p' < p3 → R h5) :
    ∃ Q6 : zMem → Prop, zConV G mX10_knot (D + 12) [.ref 132] h2 Q6 ∧ (∀ h7, Q6 h7 → zSh2 h7 ∧ ∃ Q9 : zMem → Prop, zConV G mX10_goOn (D + 12) [.ref 132] h7 Q9 ∧ (∀ h10, Q9 h10 → zSh2 h10 ∧ ∃ Q12 : zMem → Prop, zConV G mY (D + 12) [.ref 132] h10 Q12 ∧ (∀ h13, Q12 h13 → zSh2 h13 ∧ ∃ Q15 : zMem → Prop, zConV G mX10_puts (D + 12) [.ref 132, .int 2, .int code] h13 Q15 ∧ (∀ h16, Q15 h16 → zSh2 h16 ∧ R h16)))) := by
  have lt8 : kn < 64 ↔ A1 21 8 < 64 := by
    rw [e8]
    exact ⟨fun z => nI_lt (b := 64) z (by decide), fun z => Nat.lt_of_not_le (fun y => absurd z (nI_nlt (b := 64) y (by omega)))⟩
  have hp'n := q.2.2.1
  have gt := tke_gt B hp'n t37
  refine m_knot (d := D + 11) bs q k e8 h64 (fun h7 c q7 k7 f7 g7 e7 v7 => ?_) (fun h7 c b7 t7 => ?_)
  · have c8 := lt8.mp c
    refine m_goOn (d := D) hG bs q7 (fun h10 q10 t10 => ?_)
    have i10 : lvI h1 n B o (tok :: σ) (addK A1) (tke B n p') h10 := ⟨q10, k7.tk t10, hw c8, by rw [t10.2 29 (by decide), e7, e29]⟩
    obtain ⟨Q2, z1, z2⟩ := hY h10 c8 i10
    refine ⟨Q2, z1, fun h13 z => ⟨(z2 h13 z).1, ?_⟩⟩
    obtain ⟨fY, oY⟩ := (z2 h13 z).2
    have fh13 : fmE h h13 := ((fe.trans f7).trans t10.fm).trans fY
    rcases oY with ⟨f, pl, b13, hf⟩ | ⟨τ2, Ac2, p3, o1, o2, o3, o4, o5, o6, o7, o8, o9⟩
    · refine m_putsF (d := D + 11) bs b13 (K1 h13 fh13 ⟨f, pl, b13, fun k hk => ?_⟩)
      obtain ⟨k', hk', e⟩ := hst c8 k hk
      rw [e]; exact hf k' hk'
    · obtain ⟨ln2, kn2, w1, w2, w3, w4, w5, w6, w7⟩ := id o3
      have nl := nop_len (τ := τ2) (fun x hx => lt_1 hLY (o5 x hx)) (tok :: σ)
      rw [nl, nop, if_neg t32] at w3
      obtain ⟨l2, _⟩ := apds_ln (τ := τ2) w1
      refine m_puts (d := D + 11) (x := tok) (z := 0) bs o1 o2 l2 (by omega) hop (fun z => absurd z t36) hkv (fun h16 q16 k16 f16 s16 v16 g16 e16 => ?_)
      refine K2 h16 τ2 Ac2 p3 (fh13.trans f16) o5 (fun L hL1 hL2 => ⟨q16, by rw [apds_app]; exact k16, by rw [List.append_assoc]; exact o3, e16.trans o4, fun x hx => ?_, by omega, fun k hk => ?_, by rw [List.append_assoc]; exact o8, ?_⟩) (by omega)
      · rcases List.mem_append.mp hx with hx | hx
        · have := o5 x hx
          intro z
          rw [Int32.lt_iff_toInt_lt] at *
          omega
        · rw [List.mem_singleton.mp hx]; exact hL2
      · obtain ⟨k', hk', e⟩ := hst c8 k hk
        obtain ⟨k2, hk2, e2⟩ := o7 k' hk'
        exact ⟨k2, hk2, by rw [e, e2, List.append_assoc]; rfl⟩
      · -- the knots
        obtain ⟨kw1, kw2, kw3⟩ := kw
        obtain ⟨y1, y2, y3⟩ := o9
        have lA1 : lnA A1 = ln := by unfold lnA; rw [eL, zcla (by omega)]
        have lAd : lnA (addK A1) = ln := by unfold lnA addK; rw [zup_i _ _ _ (by decide), eL, zcla (by omega)]
        have lA2 : lnA (apds τ2 Ac2) = ln2 + τ2.length := by unfold lnA; rw [l2, zcla (by omega)]
        have lA3 : lnA (apds (τ2 ++ [tok]) Ac2) = ln2 + τ2.length + 1 := by unfold lnA; rw [apds_app]; unfold apd; rw [zup_s, l2, nI_1, zcla (by omega)]
        rw [lAd, lA2] at y1 y3
        rw [lAd] at y2
        rw [lA1] at kw1 kw3
        refine ⟨by rw [lA3]; omega, fun j hj => ?_, fun m => ?_⟩
        · have a1 := kw2 j hj
          have a2 := g7 j
          have a3 := y2 j (by omega)
          have a4 := g16 j (by omega)
          rw [t10.1 147 (by decide), t10.1 148 (by decide)] at a3
          exact ⟨a4.1.trans (a3.1.trans (a2.1.trans a1.1)), a4.2.trans (a3.2.trans (a2.2.trans a1.2))⟩
        · rw [lA3, show ln2 + τ2.length + 1 - lnA A = (ln - lnA A) + ((ln2 + τ2.length - ln) + 1) by omega]
          refine wfP_cat (j := ln) (m := m + r) _ _ _ (by omega) (wfP_E _ _ _ (fun j a b => ?_) (kw3 m)) (wfP_cat (j := ln2 + τ2.length) (m := m + r + 1) _ _ _ (by omega) (wfP_E _ _ _ (fun j a b => ?_) (y3 (m + r))) ?_)
          · have a2 := g7 (64 + j)
            have a3 := y2 (64 + j) (by omega)
            have a4 := g16 (64 + j) (by omega)
            rw [t10.1 147 (by decide), t10.1 148 (by decide)] at a3
            exact ⟨a4.1.trans (a3.1.trans a2.1), a4.2.trans (a3.2.trans a2.2)⟩
          · exact g16 (64 + j) (by omega)
          · rw [wfP]
            show if zI h16 147 (64 + (ln2 + τ2.length)) = 2 then _ else _
            rw [s16, if_pos rfl]
            show if zI h16 148 (64 + (ln2 + τ2.length)) = 260 then _ else _
            rw [v16]
            rcases hr with ⟨rc, rr⟩ | ⟨rc, rr⟩
            · rw [if_pos rc, rr]; exact ⟨by omega, by show m + 0 + 1 = m + 1; omega⟩
            · rw [if_neg rc, rr]; exact ⟨by omega, by show m + 1 + 1 - 1 = m + 1; omega⟩
  · have c8 : ¬ A1 21 8 < 64 := fun z => c (lt8.mpr z)
    refine m_goOnF (d := D + 11) bs b7 ?_
    obtain ⟨Q2, z1, z2⟩ := hYF h7 _ _ b7
    refine ⟨Q2, z1, fun h13 z => ⟨(z2 h13 z).1, ?_⟩⟩
    rw [(z2 h13 z).2]
    exact m_putsF (d := D + 11) bs b7 (K1 h7 (fe.trans t7.fm) ⟨2, _, b7, hsf c8⟩)
end SM
