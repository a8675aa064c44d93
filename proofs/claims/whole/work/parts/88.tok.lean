/-! tokens of a text, and the class's scanner -/
theorem zsI_sI (h : zMem) (a i : Nat) (v w : Int32) : zsI (zsI h a i v) a i w = zsI h a i w := by
  have : zup (zup (zI h) a i v) a i w = zup (zI h) a i w := by
    funext c j
    unfold zup
    by_cases e : c = a
    · by_cases e2 : j = i
      · simp [e, e2]
      · simp [e, e2]
    · simp [e]
  show (h.1, h.2.1, (zup (zup (zI h) a i v) a i w, zL h)) = (h.1, h.2.1, (zup (zI h) a i w, zL h))
  rw [this]
theorem zup_self (I : Nat → Nat → Int32) (a i : Nat) : zup I a i (I a i) = I := by
  funext c j
  unfold zup
  by_cases e : c = a
  · by_cases e2 : j = i
    · simp [e, e2]
    · simp [e, e2]
  · simp [e]
theorem zsI_id {h : zMem} {a i : Nat} {v : Int32} (e : zI h a i = v) : zsI h a i v = h := by
  show (h.1, h.2.1, (zup (zI h) a i v, zL h)) = h
  rw [← e, zup_self]; rfl
abbrev isW (x : Int32) : Prop := x = 10 ∨ x = 32
abbrev isL (x : Int32) : Prop := ¬ x < 97 ∧ ¬ 122 < x
abbrev isD (x : Int32) : Prop := ¬ x < 48 ∧ ¬ 57 < x
/-- the end of a run of signs -/
def rnF (P : Int32 → Prop) [DecidablePred P] (B : Nat → Int32) (n : Nat) : Nat → Nat → Nat
  | 0, p => p
  | f + 1, p => if p < n ∧ P (B p) then rnF P B n f (p + 1) else p
def rnE (P : Int32 → Prop) [DecidablePred P] (B : Nat → Int32) (n p : Nat) : Nat := rnF P B n (n - p) p
theorem rnE_y {P : Int32 → Prop} [DecidablePred P] {B : Nat → Int32} {n p : Nat} (hp : p < n) (hP : P (B p)) : rnE P B n p = rnE P B n (p + 1) := by
  unfold rnE
  rw [show n - p = (n - (p + 1)) + 1 by omega, rnF, if_pos ⟨hp, hP⟩]
theorem rnE_n {P : Int32 → Prop} [DecidablePred P] {B : Nat → Int32} {n p : Nat} (q : ¬ (p < n ∧ P (B p))) : rnE P B n p = p := by
  unfold rnE
  cases e : n - p with
  | zero => rfl
  | succ k => rw [rnF, if_neg q]
theorem rnE_ge {P : Int32 → Prop} [DecidablePred P] {B : Nat → Int32} {n : Nat} : ∀ (k p : Nat), k = n - p → p ≤ rnE P B n p
  | 0, p, h => by rw [rnE_n (by omega)]; exact Nat.le_refl _
  | k + 1, p, h => by
    by_cases c : P (B p)
    · rw [rnE_y (by omega) c]; exact Nat.le_trans (Nat.le_succ _) (rnE_ge k (p + 1) (by omega))
    · rw [rnE_n (fun q => c q.2)]; exact Nat.le_refl _
theorem rnE_le {P : Int32 → Prop} [DecidablePred P] {B : Nat → Int32} {n : Nat} : ∀ (k p : Nat), k = n - p → p ≤ n → rnE P B n p ≤ n
  | 0, p, h, hp => by rw [rnE_n (by omega)]; exact hp
  | k + 1, p, h, hp => by
    by_cases c : P (B p)
    · rw [rnE_y (by omega) c]; exact rnE_le k (p + 1) (by omega) (by omega)
    · rw [rnE_n (fun q => c q.2)]; exact hp
theorem rnE_end {P : Int32 → Prop} [DecidablePred P] {B : Nat → Int32} {n : Nat} : ∀ (k p : Nat), k = n - p → p ≤ n → ¬ (rnE P B n p < n ∧ P (B (rnE P B n p)))
  | 0, p, h, hp => by rw [rnE_n (by omega)]; omega
  | k + 1, p, h, hp => by
    by_cases c : P (B p)
    · rw [rnE_y (by omega) c]; exact rnE_end k (p + 1) (by omega) (by omega)
    · rw [rnE_n (fun q => c q.2)]; exact fun q => c q.2
theorem rnE_all {P : Int32 → Prop} [DecidablePred P] {B : Nat → Int32} {n : Nat} : ∀ (k p : Nat), k = n - p → ∀ j, p ≤ j → j < rnE P B n p → P (B j)
  | 0, p, h => by rw [rnE_n (by omega)]; omega
  | k + 1, p, h => by
    by_cases c : P (B p)
    · rw [rnE_y (by omega) c]
      intro j h1 h2
      by_cases e : j = p
      · rw [e]; exact c
      · exact rnE_all k (p + 1) (by omega) j (by omega) h2
    · rw [rnE_n (fun q => c q.2)]; omega
/-- a number as it is read -/
def nbF (B : Nat → Int32) (n : Nat) : Nat → Nat → Int32 → Int32
  | 0, _, a => a
  | f + 1, p, a => if p < n ∧ isD (B p) then nbF B n f (p + 1) (if a * 10 + B p - 48 < 1000000 then a * 10 + B p - 48 else 1000000) else a
/-- letters as they are packed -/
def pkF (B : Nat → Int32) (n : Nat) : Nat → Nat → Int32 → Int32
  | 0, _, a => a
  | f + 1, p, a => if p < n ∧ isL (B p) then pkF B n f (p + 1) ((a <<< ((5 : Int32) &&& 31)) ||| (B p - 97 + 1)) else a
/-- the word that letters are; else a name -/
def wdF (W : Nat → Int32) (x : Int32) : Nat → Nat → Int32 → Int32
  | 0, _, a => a
  | f + 1, w, a => wdF W x f (w + 1) (if W w = x then nI w else a)
def sgnT (B : Nat → Int32) (n s : Nat) : Int32 :=
  if B s = 40 then 32 else if B s = 41 then 33 else if B s = 42 then 30 else if B s = 43 then 28 else if B s = 45 then 29 else if B s = 47 then 31 else if B s = 59 then 34 else if B s = 60 then (if s + 1 < n ∧ B (s + 1) = 61 then 23 else if s + 1 < n ∧ B (s + 1) = 62 then 25 else 22) else if B s = 61 then 24 else if B s = 62 then (if s + 1 < n ∧ B (s + 1) = 61 then 26 else 27) else 38
def sgnE (B : Nat → Int32) (n s : Nat) : Nat :=
  if B s = 60 then (if s + 1 < n ∧ B (s + 1) = 61 then s + 2 else if s + 1 < n ∧ B (s + 1) = 62 then s + 2 else s + 1) else if B s = 62 then (if s + 1 < n ∧ B (s + 1) = 61 then s + 2 else s + 1) else s + 1
/-- the token behind p: where it begins, what it is, where it ends, its letters, its number -/
def tks (B : Nat → Int32) (n p : Nat) : Nat := rnE isW B n p
def lvS (B : Nat → Int32) (n s : Nat) : Int32 := pkF B n (n - s) s 0 <<< ((5 * (6 - nI (rnE isL B n s - s))) &&& 31)
def tkl (B : Nat → Int32) (n p : Nat) : Int32 := lvS B n (tks B n p)
def tkn (B : Nat → Int32) (n p : Nat) : Int32 := nbF B n (n - tks B n p) (tks B n p) 0
def tkt (B : Nat → Int32) (n p : Nat) : Int32 := if tks B n p < n then (if isL (B (tks B n p)) then (if rnE isL B n (tks B n p) - tks B n p ≤ 6 then wdF wdT (tkl B n p) 22 0 35 else 38) else if isD (B (tks B n p)) then 36 else sgnT B n (tks B n p)) else 37
def tke (B : Nat → Int32) (n p : Nat) : Nat := if tks B n p < n then (if isL (B (tks B n p)) then rnE isL B n (tks B n p) else if isD (B (tks B n p)) then rnE isD B n (tks B n p) else sgnE B n (tks B n p)) else tks B n p
theorem sgnE_gt (B : Nat → Int32) {n s : Nat} (h : s < n) : s < sgnE B n s ∧ sgnE B n s ≤ n := by
  unfold sgnE
  split
  · split
    · omega
    · split <;> omega
  · split
    · split <;> omega
    · omega
theorem tks_le (B : Nat → Int32) {n p : Nat} (h : p ≤ n) : p ≤ tks B n p ∧ tks B n p ≤ n := ⟨rnE_ge _ p rfl, rnE_le _ p rfl h⟩
theorem tke_le (B : Nat → Int32) {n p : Nat} (h : p ≤ n) : tks B n p ≤ tke B n p ∧ tke B n p ≤ n := by
  have h1 := tks_le B h
  unfold tke
  split
  · rename_i c
    split
    · exact ⟨rnE_ge _ _ rfl, rnE_le _ _ rfl h1.2⟩
    · split
      · exact ⟨rnE_ge _ _ rfl, rnE_le _ _ rfl h1.2⟩
      · have := sgnE_gt B c; omega
  · omega
theorem tke_gt (B : Nat → Int32) {n p : Nat} (h : p ≤ n) (ht : tkt B n p ≠ 37) : p < tke B n p := by
  have h1 := tks_le B h
  unfold tkt at ht
  unfold tke
  by_cases c : tks B n p < n
  · rw [if_pos c] at ht ⊢
    split
    · rename_i c2
      rw [rnE_y c c2]
      have := rnE_ge (P := isL) (B := B) (n := n) _ (tks B n p + 1) rfl
      omega
    · split
      · rename_i c2
        rw [rnE_y c c2]
        have := rnE_ge (P := isD) (B := B) (n := n) _ (tks B n p + 1) rfl
        omega
      · have := sgnE_gt B c; omega
  · rw [if_neg c] at ht; exact absurd rfl ht
/-- the class's scanner stands at the token behind p -/
def scC (I : Nat → Nat → Int32) (n p : Nat) : Prop := I 3 2 = nI n ∧ I 3 3 = nI (tke (I 1) n p) ∧ I 3 4 = tkt (I 1) n p ∧ I 3 5 = nI (tks (I 1) n p) ∧ (tkt (I 1) n p = 35 → I 3 6 = tkl (I 1) n p) ∧ (tkt (I 1) n p = 36 → I 3 7 = tkn (I 1) n p)
section SC
variable {G : zG} {d t n : Nat} {h : zMem} {Q : zMem → Prop}
theorem X4_isLetter_ok (hS : zSh1 h t) (x : Int32) : zConI G mX4_isLetter d [.int x] h (fun v h' => (v = if isL x then 1 else 0) ∧ h' = h) := by
  refine cn_X4_isLetter (sg_X4_isLetter_0 hS ⟨fun c => ?_, fun c => ⟨fun c2 => ?_, fun c2 => ?_⟩⟩)
  · rw [if_neg (fun q => q.1 c)]; exact ⟨rfl, rfl⟩
  · rw [if_neg (fun q => q.2 c2)]; exact ⟨rfl, rfl⟩
  · rw [if_pos ⟨c, c2⟩]; exact ⟨rfl, rfl⟩
theorem X4_isDigit_ok (hS : zSh1 h t) (x : Int32) : zConI G mX4_isDigit d [.int x] h (fun v h' => (v = if isD x then 1 else 0) ∧ h' = h) := by
  refine cn_X4_isDigit (sg_X4_isDigit_0 hS ⟨fun c => ?_, fun c => ⟨fun c2 => ?_, fun c2 => ?_⟩⟩)
  · rw [if_neg (fun q => q.1 c)]; exact ⟨rfl, rfl⟩
  · rw [if_neg (fun q => q.2 c2)]; exact ⟨rfl, rfl⟩
  · rw [if_pos ⟨c, c2⟩]; exact ⟨rfl, rfl⟩
theorem sh_o1 (hS : zSh1 h t) : zO h 1 102 ∧ zLen h 1 = 700 := ⟨zcl1.o hS.1 1 102 rfl rfl rfl, zcl1.l hS.1 1 700 rfl rfl rfl⟩
theorem rw_words (x1 x2 : Int32) (hQ : Q (zsI h 3 4 (wdF (zI h 4) (zI h 3 6) 22 0 (zI h 3 4)))) (hS : zSh1 h t) : zg G mX4_readWord (d + 1) 98 [.ref 3, .int x1, .int x2, .int 0] [] h (zPV Q) := by
  have L : ∀ k w a, k + w = 22 → Q (zsI h 3 4 (wdF (zI h 4) (zI h 3 6) k w a)) → zg G mX4_readWord (d + 1) 98 [.ref 3, .int x1, .int x2, .int (nI w)] [] (zsI h 3 4 a) (zPV Q) := by
    intro k
    induction k with
    | zero =>
      intro w a hw q
      refine sg_X4_readWord_98 (hS.W ((zW.rf h).sI _ _ _)) ⟨fun _ => q, fun c => absurd (nI_le (by omega) (by omega)) c⟩
    | succ k ih =>
      intro w a hw q
      refine sg_X4_readWord_98 (hS.W ((zW.rf h).sI _ _ _)) ⟨fun c => absurd c (nI_ge (by omega) (by omega)), fun _ => ⟨zin_n (by omega) (by decide), fun c => ?_, fun c => ?_⟩⟩
      all_goals rw [zcla (show w < 2 ^ 31 by omega), zI_sI, zup_ne _ _ (by decide), zup_i _ _ _ (by decide)] at c
      · rw [wdF, if_neg c] at q
        rw [nI_1]
        exact ih (w + 1) a (by omega) q
      · rw [wdF, if_pos c] at q
        rw [nI_1, zsI_sI]
        exact ih (w + 1) (nI w) (by omega) q
  have := L 22 0 (zI h 3 4) (by decide) hQ
  rw [zsI_id rfl] at this
  exact this
set_option maxHeartbeats 1000000 in
theorem X4_readWord_ok {s : Nat} (hS : zSh1 h t) (hr : zR h 3 1 = some 1) (h2 : zI h 3 2 = nI n) (h3 : zI h 3 3 = nI s) (hs : s ≤ n) (hn : n ≤ 700) (hW : ∀ k, k < 22 → zI h 4 k = wdT k) : zConV G mX4_readWord (d + 1) [.ref 3] h (fun h' => zW h h' ∧ (∀ c, c ≠ 3 → zI h' c = zI h c) ∧ zI h' 3 2 = nI n ∧ zI h' 3 5 = zI h 3 5 ∧ zI h' 3 3 = nI (rnE isL (zI h 1) n s) ∧ zI h' 3 4 = (if rnE isL (zI h 1) n s - s ≤ 6 then wdF wdT (lvS (zI h 1) n s) 22 0 35 else 38) ∧ (rnE isL (zI h 1) n s - s ≤ 6 → zI h' 3 6 = lvS (zI h 1) n s)) := by
  obtain ⟨Q, hQ⟩ : ∃ Q : zMem → Prop, Q = (fun h' => zW h h' ∧ (∀ c, c ≠ 3 → zI h' c = zI h c) ∧ zI h' 3 2 = nI n ∧ zI h' 3 5 = zI h 3 5 ∧ zI h' 3 3 = nI (rnE isL (zI h 1) n s) ∧ zI h' 3 4 = (if rnE isL (zI h 1) n s - s ≤ 6 then wdF wdT (lvS (zI h 1) n s) 22 0 35 else 38) ∧ (rnE isL (zI h 1) n s - s ≤ 6 → zI h' 3 6 = lvS (zI h 1) n s)) := ⟨_, rfl⟩
  rw [← hQ]
  refine cn_X4_readWord (sg_X4_readWord_0 hS ?_)
  obtain ⟨e, he⟩ : ∃ e, e = rnE isL (zI h 1) n s := ⟨_, rfl⟩
  obtain ⟨X, hX⟩ : ∃ X, X = pkF (zI h 1) n (n - s) s 0 := ⟨_, rfl⟩
  have heL : s ≤ e := he ▸ rnE_ge _ s rfl
  have heN : e ≤ n := he ▸ rnE_le _ s rfl hs
  have hlv : lvS (zI h 1) n s = X <<< ((5 * (6 - nI (e - s))) &&& 31) := by unfold lvS; rw [← he, ← hX]
  have wdE : ∀ (x : Int32) k w a, k + w = 22 → wdF (zI h 4) x k w a = wdF wdT x k w a := by
    intro x k
    induction k with
    | zero => intro w a _; rfl
    | succ k ih =>
      intro w a hw
      rw [wdF, wdF, hW w (by omega), ih (w + 1) _ (by omega)]
  have fin : (nI (e - s) ≤ 6 → zg G mX4_readWord (d + 1) 98 [.ref 3, .int (nI (e - s)), .int X, .int 0] [] (zsI (zsI (zsI h 3 3 (nI e)) 3 6 (X <<< ((5 * (6 - nI (e - s))) &&& 31))) 3 4 35) (zPV Q)) ∧ (¬ nI (e - s) ≤ 6 → Q (zsI (zsI h 3 3 (nI e)) 3 4 38)) := by
    refine ⟨fun c => ?_, fun c => ?_⟩
    · have c' : e - s ≤ 6 := Nat.le_of_not_lt (fun q => absurd c (nI_ge (a := 6) q (by omega)))
      refine rw_words _ _ ?_ (hS.W ((((zW.rf h).sI _ _ _).sI _ _ _).sI _ _ _))
      rw [hQ, ← he, hlv, if_pos c']
      refine ⟨((((zW.rf h).sI _ _ _).sI _ _ _).sI _ _ _).sI _ _ _, fun c hc => ?_, ?_, ?_, ?_, ?_, fun _ => ?_⟩
      · simp only [zI_sI, zup_ne _ _ hc]
      · simp only [zI_sI, zup_i _ _ _ (show 2 ≠ 4 by decide), zup_i _ _ _ (show 2 ≠ 6 by decide), zup_i _ _ _ (show 2 ≠ 3 by decide)]; exact h2
      · simp only [zI_sI, zup_i _ _ _ (show 5 ≠ 4 by decide), zup_i _ _ _ (show 5 ≠ 6 by decide), zup_i _ _ _ (show 5 ≠ 3 by decide)]
      · simp only [zI_sI, zup_i _ _ _ (show 3 ≠ 4 by decide), zup_i _ _ _ (show 3 ≠ 6 by decide), zup_s]
      · simp only [zI_sI, zup_s, zup_i _ _ _ (show 6 ≠ 4 by decide), zup_ne _ _ (show 4 ≠ 3 by decide)]
        exact wdE _ _ _ _ rfl
      · simp only [zI_sI, zup_s, zup_i _ _ _ (show 6 ≠ 4 by decide)]
    · have c' : ¬ e - s ≤ 6 := fun q => c (nI_le (b := 6) q (by decide))
      rw [hQ, ← he, if_neg c']
      refine ⟨((zW.rf h).sI _ _ _).sI _ _ _, fun c hc => ?_, ?_, ?_, ?_, ?_, fun q => absurd q c'⟩
      · simp only [zI_sI, zup_ne _ _ hc]
      · simp only [zI_sI, zup_i _ _ _ (show 2 ≠ 4 by decide), zup_i _ _ _ (show 2 ≠ 3 by decide)]; exact h2
      · simp only [zI_sI, zup_i _ _ _ (show 5 ≠ 4 by decide), zup_i _ _ _ (show 5 ≠ 3 by decide)]
      · simp only [zI_sI, zup_i _ _ _ (show 3 ≠ 4 by decide), zup_s]
      · simp only [zI_sI, zup_s]
  have L : ∀ k p x, k = n - p → s ≤ p → p ≤ n → rnE isL (zI h 1) n p = e → pkF (zI h 1) n (n - p) p x = X → zg G mX4_readWord (d + 1) 4 [.ref 3, .int (nI (p - s)), .int x, zU] [] (zsI h 3 3 (nI p)) (zPV Q) := by
    intro k
    induction k with
    | zero =>
      intro p x hk h1 h2' he' hx
      rw [rnE_n (by omega)] at he'
      rw [show n - p = 0 by omega, pkF] at hx
      subst he' hx
      refine sg_X4_readWord_4 (hS.W ((zW.rf h).sI _ _ _)) ?_
      simp only [zI_sI, zup_s, zup_i _ _ _ (show 2 ≠ 3 by decide), h2]
      exact ⟨fun _ => fin, fun c => absurd (nI_le (by omega) (by omega)) c⟩
    | succ k ih =>
      intro p x hk h1 h2' he' hx
      have S := hS.W ((zW.rf h).sI 3 3 (nI p))
      refine sg_X4_readWord_4 S ?_
      simp only [zI_sI, zup_s, zup_i _ _ _ (show 2 ≠ 3 by decide), h2]
      refine ⟨fun c => absurd c (nI_ge (by omega) (by omega)), fun _ => ⟨1, hr, (sh_o1 S).1, by rw [(sh_o1 S).2]; exact zin_n (by omega) (by decide), _, X4_isLetter_ok S _, ?_⟩⟩
      rintro v h7 ⟨hv, rfl⟩
      rw [zcla (show p < 2 ^ 31 by omega), zup_ne _ _ (show 1 ≠ 3 by decide)] at hv
      refine ⟨S, ?_⟩
      by_cases c : isL (zI h 1 p)
      · rw [if_pos c] at hv
        refine ⟨fun q => absurd (hv.symm.trans q) (by decide), fun _ => ⟨1, hr, (sh_o1 S).1, ?_, ?_⟩⟩
        · simp only [zI_sI, zup_s]
          rw [(sh_o1 S).2]; exact zin_n (by omega) (by decide)
        · simp only [zI_sI, zup_s, zup_ne _ _ (show 1 ≠ 3 by decide)]
          rw [zcla (show p < 2 ^ 31 by omega), zsI_sI, nI_1, nI_1, show p - s + 1 = p + 1 - s by omega]
          refine ih (p + 1) _ (by omega) (by omega) (by omega) ?_ ?_
          · rw [← rnE_y (by omega) c]; exact he'
          · rw [show n - p = (n - (p + 1)) + 1 by omega, pkF, if_pos ⟨by omega, c⟩] at hx
            exact hx
      · rw [if_neg c] at hv
        refine ⟨fun _ => ?_, fun q => absurd hv q⟩
        rw [rnE_n (fun q => c q.2)] at he'
        rw [show n - p = (n - (p + 1)) + 1 by omega, pkF, if_neg (fun q => c q.2)] at hx
        subst he' hx
        exact fin
  have := L (n - s) s 0 rfl (Nat.le_refl _) hs he.symm hX.symm
  rw [zsI_id h3, Nat.sub_self] at this
  exact this
theorem X4_readNumber_ok {s : Nat} (hS : zSh1 h t) (hr : zR h 3 1 = some 1) (h2 : zI h 3 2 = nI n) (h3 : zI h 3 3 = nI s) (hs : s ≤ n) (hn : n ≤ 700) : zConV G mX4_readNumber (d + 1) [.ref 3] h (fun h' => zW h h' ∧ (∀ c, c ≠ 3 → zI h' c = zI h c) ∧ zI h' 3 2 = nI n ∧ zI h' 3 5 = zI h 3 5 ∧ zI h' 3 3 = nI (rnE isD (zI h 1) n s) ∧ zI h' 3 4 = 36 ∧ zI h' 3 7 = nbF (zI h 1) n (n - s) s 0) := by
  obtain ⟨Q, hQ⟩ : ∃ Q : zMem → Prop, Q = (fun h' => zW h h' ∧ (∀ c, c ≠ 3 → zI h' c = zI h c) ∧ zI h' 3 2 = nI n ∧ zI h' 3 5 = zI h 3 5 ∧ zI h' 3 3 = nI (rnE isD (zI h 1) n s) ∧ zI h' 3 4 = 36 ∧ zI h' 3 7 = nbF (zI h 1) n (n - s) s 0) := ⟨_, rfl⟩
  rw [← hQ]
  refine cn_X4_readNumber (sg_X4_readNumber_0 hS ?_)
  have fin : ∀ p x, rnE isD (zI h 1) n s = p → nbF (zI h 1) n (n - s) s 0 = x → Q (zsI (zsI (zsI h 3 7 x) 3 3 (nI p)) 3 4 36) := by
    intro p x e1 e2
    rw [hQ, e1, e2]
    refine ⟨(((zW.rf h).sI _ _ _).sI _ _ _).sI _ _ _, fun c hc => ?_, ?_, ?_, ?_, ?_, ?_⟩
    · simp only [zI_sI, zup_ne _ _ hc]
    · simp only [zI_sI, zup_i _ _ _ (show 2 ≠ 4 by decide), zup_i _ _ _ (show 2 ≠ 7 by decide), zup_i _ _ _ (show 2 ≠ 3 by decide)]; exact h2
    · simp only [zI_sI, zup_i _ _ _ (show 5 ≠ 4 by decide), zup_i _ _ _ (show 5 ≠ 7 by decide), zup_i _ _ _ (show 5 ≠ 3 by decide)]
    · simp only [zI_sI, zup_i _ _ _ (show 3 ≠ 4 by decide), zup_s]
    · simp only [zI_sI, zup_s]
    · simp only [zI_sI, zup_i _ _ _ (show 7 ≠ 4 by decide), zup_i _ _ _ (show 7 ≠ 3 by decide), zup_s]
  have sw : ∀ (p : Nat) (x y : Int32) (p' : Nat), zsI (zsI (zsI (zsI h 3 7 x) 3 3 (nI p)) 3 7 y) 3 3 (nI p') = zsI (zsI h 3 7 y) 3 3 (nI p') := by
    intro p x y p'
    have : zup (zup (zup (zup (zI h) 3 7 x) 3 3 (nI p)) 3 7 y) 3 3 (nI p') = zup (zup (zI h) 3 7 y) 3 3 (nI p') := by
      funext c j
      unfold zup
      by_cases e : c = 3
      · by_cases e2 : j = 3
        · simp [e, e2]
        · by_cases e3 : j = 7
          · simp [e, e3]
          · simp [e, e2, e3]
      · simp [e]
    show (h.1, h.2.1, (_, zL h)) = (h.1, h.2.1, (_, zL h))
    exact congrArg (fun z => (h.1, h.2.1, (z, zL h))) this
  have L : ∀ k p x, k = n - p → s ≤ p → p ≤ n → rnE isD (zI h 1) n p = rnE isD (zI h 1) n s → nbF (zI h 1) n (n - p) p x = nbF (zI h 1) n (n - s) s 0 → zg G mX4_readNumber (d + 1) 5 [.ref 3] [] (zsI (zsI h 3 7 x) 3 3 (nI p)) (zPV Q) := by
    intro k
    induction k with
    | zero =>
      intro p x hk h1 h2' he' hx
      rw [rnE_n (p := p) (by omega)] at he'
      rw [show n - p = 0 by omega, nbF] at hx
      refine sg_X4_readNumber_5 (hS.W (((zW.rf h).sI _ _ _).sI _ _ _)) ?_
      simp only [zI_sI, zup_s, zup_i _ _ _ (show 2 ≠ 3 by decide), zup_i _ _ _ (show 2 ≠ 7 by decide), h2]
      exact ⟨fun _ => fin _ _ he'.symm hx.symm, fun c => absurd (nI_le (by omega) (by omega)) c⟩
    | succ k ih =>
      intro p x hk h1 h2' he' hx
      have S := hS.W (((zW.rf h).sI 3 7 x).sI 3 3 (nI p))
      refine sg_X4_readNumber_5 S ?_
      simp only [zI_sI, zup_s, zup_i _ _ _ (show 2 ≠ 3 by decide), zup_i _ _ _ (show 2 ≠ 7 by decide), h2]
      refine ⟨fun c => absurd c (nI_ge (by omega) (by omega)), fun _ => ⟨1, hr, (sh_o1 S).1, by rw [(sh_o1 S).2]; exact zin_n (by omega) (by decide), _, X4_isDigit_ok S _, ?_⟩⟩
      rintro v h7 ⟨hv, rfl⟩
      rw [zcla (show p < 2 ^ 31 by omega), zup_ne _ _ (show 1 ≠ 3 by decide), zup_ne _ _ (show 1 ≠ 3 by decide)] at hv
      refine ⟨S, ?_⟩
      by_cases c : isD (zI h 1 p)
      · rw [if_pos c] at hv
        refine ⟨fun q => absurd (hv.symm.trans q) (by decide), fun _ => ⟨1, hr, (sh_o1 S).1, ?_, ?_⟩⟩
        · simp only [zI_sI, zup_s]
          rw [(sh_o1 S).2]; exact zin_n (by omega) (by decide)
        · simp only [zI_sI, zup_s, zup_ne _ _ (show 1 ≠ 3 by decide), zup_i _ _ _ (show 7 ≠ 3 by decide), zup_i _ _ _ (show 3 ≠ 7 by decide)]
          rw [zcla (show p < 2 ^ 31 by omega), nI_1, sw]
          refine ih (p + 1) _ (by omega) (by omega) (by omega) ?_ ?_
          · rw [← rnE_y (by omega) c]; exact he'
          · rw [show n - p = (n - (p + 1)) + 1 by omega, nbF, if_pos ⟨by omega, c⟩] at hx
            exact hx
      · rw [if_neg c] at hv
        refine ⟨fun _ => ?_, fun q => absurd hv q⟩
        rw [rnE_n (p := p) (fun q => c q.2)] at he'
        rw [show n - p = (n - (p + 1)) + 1 by omega, nbF, if_neg (fun q => c q.2)] at hx
        exact fin _ _ he'.symm hx.symm
  have := L (n - s) s 0 rfl (Nat.le_refl _) hs rfl rfl
  rw [show zsI (zsI h 3 7 0) 3 3 (nI s) = zsI h 3 7 0 from zsI_id (by rw [zI_sI, zup_i _ _ _ (by decide)]; exact h3)] at this
  exact this
end SC
