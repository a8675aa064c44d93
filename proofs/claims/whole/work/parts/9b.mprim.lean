/-! the model's reader: its small methods -/
def hfT (c : Nat) : Nat := [8, 6, 6, 8, 8, 48, 6, 6, 5, 5, 5, 3, 3, 64, 64].getD (c - 134) 0
/-- what a text may change before it is told: the other halves of the rows, and the reader's own numbers -/
def mfr (I1 I : Nat → Nat → Int32) : Prop := (∀ c, c ≠ 132 → (c < 134 ∨ 148 < c) → I c = I1 c) ∧ (∀ c j, 134 ≤ c → c ≤ 148 → j < hfT c → I c j = I1 c j) ∧ (∀ j, (j < 18 ∨ j = 20 ∨ (27 ≤ j ∧ j ≠ 29 ∧ j ≠ 30)) → I 132 j = I1 132 j) ∧ (I 132 25 = 0 → I 132 26 = -1)
def mX (h1 h : zMem) : Prop := zW h1 h ∧ mfr (zI h1) (zI h)
def mBs (h1 : zMem) (n : Nat) (B : Nat → Int32) : Prop := zSh2 h1 ∧ tpM (zI h1) B n
def mok (h1 : zMem) (n : Nat) (B : Nat → Int32) (p : Nat) (h : zMem) : Prop := mX h1 h ∧ scM (zI h) B n p ∧ p ≤ n ∧ zI h 132 25 = 0
def mbad (h1 : zMem) (f : Int32) (pl : Nat) (h : zMem) : Prop := mX h1 h ∧ zI h 132 25 = f ∧ f ≠ 0 ∧ zI h 132 26 = nI pl
theorem mX.up {h1 h : zMem} (q : mX h1 h) {c j : Nat} {v : Int32} (hc : (134 ≤ c ∧ c ≤ 148 ∧ hfT c ≤ j) ∨ c = 132 ∧ (j = 18 ∨ j = 19 ∨ (21 ≤ j ∧ j ≤ 24) ∨ j = 29 ∨ j = 30)) : mX h1 (zsI h c j v) := by
  obtain ⟨q1, q2, q3, q4, q5⟩ := q
  refine ⟨q1.sI _ _ _, fun c' a1 a2 => ?_, fun c' j' a1 a2 a3 => ?_, fun j' a1 => ?_, ?_⟩
  · rw [zI_sI, zup_ne _ _ (by omega)]; exact q2 c' a1 a2
  · rw [zI_sI]
    by_cases e : c' = c
    · subst e
      rcases hc with hc | hc
      · rw [zup_i _ _ _ (by omega)]; exact q3 c' j' a1 a2 a3
      · omega
    · rw [zup_ne _ _ e]; exact q3 c' j' a1 a2 a3
  · rw [zI_sI]
    by_cases e : c = 132
    · subst e
      rcases hc with hc | hc
      · omega
      · rw [zup_i _ _ _ (by omega)]; exact q4 j' a1
    · rw [zup_ne _ _ (Ne.symm e)]; exact q4 j' a1
  · rw [zI_sI]
    by_cases e : c = 132
    · subst e
      rcases hc with hc | hc
      · omega
      · rw [zup_i _ _ _ (by omega), zup_i _ _ _ (by omega)]; exact q5
    · rw [zup_ne _ _ (Ne.symm e)]; exact q5
theorem mX.wr {h1 h : zMem} (q : mX h1 h) {x v : Int32} (hx : x ≠ 0) : mX h1 (zsI (zsI h 132 25 x) 132 26 v) := by
  obtain ⟨q1, q2, q3, q4, q5⟩ := q
  refine ⟨(q1.sI _ _ _).sI _ _ _, fun c' a1 a2 => ?_, fun c' j' a1 a2 a3 => ?_, fun j' a1 => ?_, ?_⟩
  · rw [zI_sI, zup_ne _ _ a1, zI_sI, zup_ne _ _ a1]; exact q2 c' a1 a2
  · rw [zI_sI, zup_ne _ _ (by omega), zI_sI, zup_ne _ _ (by omega)]; exact q3 c' j' a1 a2 a3
  · rw [zI_sI, zup_i _ _ _ (by omega), zI_sI, zup_i _ _ _ (by omega)]; exact q4 j' a1
  · rw [zI_sI, zup_i _ _ _ (by decide), zI_sI, zup_s]; exact fun z => absurd z hx
section MP
variable {G : zG} {d n p : Nat} {h1 h : zMem} {B : Nat → Int32}
theorem mX.sh (b : mBs h1 n B) (q : mX h1 h) : zSh2 h := b.1.W q.1
theorem mX.tp (b : mBs h1 n B) (q : mX h1 h) : tpM (zI h) B n := ⟨fun k hk => by rw [q.2.1 133 (by decide) (by decide)]; exact b.2.1 k hk, b.2.2⟩
theorem mX.mt {h2 : zMem} (q : mX h1 h) (r : mtR h h2) : mX h1 h2 := by
  obtain ⟨q1, q2, q3, q4, q5⟩ := q
  exact ⟨q1.trans r.1, fun c a1 a2 => by rw [r.2.1 c a1]; exact q2 c a1 a2, fun c j a1 a2 a3 => by rw [r.2.1 c (by omega)]; exact q3 c j a1 a2 a3, fun j a1 => by rw [r.2.2 j (by omega)]; exact q4 j a1, by rw [r.2.2 25 (by decide), r.2.2 26 (by decide)]; exact q5⟩
/-- cells that a token leaves -/
def tkE (h h' : zMem) : Prop := (∀ c, c ≠ 132 → zI h' c = zI h c) ∧ ∀ j, j < 21 ∨ 27 ≤ j → zI h' 132 j = zI h 132 j
theorem tkE.rf (h : zMem) : tkE h h := ⟨fun _ _ => rfl, fun _ _ => rfl⟩
theorem tkE.trans {h h' h2 : zMem} (a : tkE h h') (b : tkE h' h2) : tkE h h2 := ⟨fun c x => (b.1 c x).trans (a.1 c x), fun j x => (b.2 j x).trans (a.2 j x)⟩
theorem m_token {Q : zMem → Prop} (hG : gK G) (b : mBs h1 n B) {h : zMem} (q : mX h1 h) (s : scM (zI h) B n p) (hp : p ≤ n) (f : zI h 132 25 = 0) (K : ∀ h', mok h1 n B (tke B n p) h' → tkE h h' → Q h') : ∃ Q2 : zMem → Prop, zConV G mX10_token (d + 11) [.ref 132] h Q2 ∧ (∀ h3, Q2 h3 → zSh2 h3 ∧ Q h3) := by
  have S := q.sh b
  have hp' := tke_mono (B := B) hp
  refine ⟨_, X10_token_ok hG S (q.tp b) s.1 s.2.1 hp'.2, ?_⟩
  rintro h3 ⟨r, s3⟩
  exact ⟨S.W r.1, K h3 ⟨q.mt r, s3, hp'.2, by rw [r.2.2 25 (by decide)]; exact f⟩ ⟨r.2.1, fun j hj => r.2.2 j (by omega)⟩⟩
theorem m_goOn {Q : zMem → Prop} (hG : gK G) (b : mBs h1 n B) (q : mok h1 n B p h) (K : ∀ h', mok h1 n B (tke B n p) h' → tkE h h' → Q h') : ∃ Q2 : zMem → Prop, zConV G mX10_goOn (d + 12) [.ref 132] h Q2 ∧ (∀ h3, Q2 h3 → zSh2 h3 ∧ Q h3) := by
  obtain ⟨q1, q2, q3, q4⟩ := q
  refine ⟨fun h3 => zSh2 h3 ∧ Q h3, cn_X10_goOn (sg_X10_goOn_0 (q1.sh b) ⟨fun z => absurd q4 z, fun _ => ?_⟩), fun _ x => x⟩
  exact m_token hG b q1 q2 q3 q4 (fun h' a e => ⟨a.1.sh b, K h' a e⟩)
theorem m_goOnF {Q : zMem → Prop} {f : Int32} {pl : Nat} (b : mBs h1 n B) (q : mbad h1 f pl h) (K : Q h) : ∃ Q2 : zMem → Prop, zConV G mX10_goOn (d + 1) [.ref 132] h Q2 ∧ (∀ h3, Q2 h3 → zSh2 h3 ∧ Q h3) := by
  refine ⟨fun h3 => zSh2 h3 ∧ Q h3, cn_X10_goOn (sg_X10_goOn_0 (q.1.sh b) ⟨fun _ => ⟨q.1.sh b, K⟩, fun z => absurd (q.2.1.symm.trans z) q.2.2.1⟩), fun _ x => x⟩
theorem m_wrong {Q : zMem → Prop} {x : Int32} (b : mBs h1 n B) (q : mok h1 n B p h) (hx : x ≠ 0) (K : ∀ h', mbad h1 x (tks B n p) h' → tkE h h' → Q h') : ∃ Q2 : zMem → Prop, zConV G mX10_wrong d [.ref 132, .int x] h Q2 ∧ (∀ h3, Q2 h3 → zSh2 h3 ∧ Q h3) := by
  obtain ⟨q1, q2, q3, q4⟩ := q
  refine ⟨fun h3 => zSh2 h3 ∧ Q h3, cn_X10_wrong (sg_X10_wrong_0 (q1.sh b) ⟨fun _ => ?_, fun z => absurd q4 z⟩), fun _ x => x⟩
  have m := q1.wr (x := x) (v := zI (zsI h 132 25 x) 132 22) hx
  refine ⟨m.sh b, K _ ⟨m, ?_, hx, ?_⟩ ⟨fun c hc => ?_, fun j hj => ?_⟩⟩
  · rw [zI_sI, zup_i _ _ _ (by decide), zI_sI, zup_s]
  · rw [zI_sI, zup_s, zI_sI, zup_i _ _ _ (by decide)]; exact q2.2.2.1
  · simp only [zI_sI, zup_ne _ _ hc]
  · simp only [zI_sI]; rw [zup_i _ _ _ (by omega), zup_i _ _ _ (by omega)]
theorem m_wrongF {Q : zMem → Prop} {f x : Int32} {pl : Nat} (b : mBs h1 n B) (q : mbad h1 f pl h) (K : Q h) : ∃ Q2 : zMem → Prop, zConV G mX10_wrong d [.ref 132, .int x] h Q2 ∧ (∀ h3, Q2 h3 → zSh2 h3 ∧ Q h3) :=
  ⟨fun h3 => zSh2 h3 ∧ Q h3, cn_X10_wrong (sg_X10_wrong_0 (q.1.sh b) ⟨fun z => absurd (q.2.1.symm.trans z) q.2.2.1, fun _ => ⟨q.1.sh b, K⟩⟩), fun _ x => x⟩
theorem tkR.w {tok l nm so va : Int32} (r : tkR tok l nm so va) {w : Nat} (hw : w < 22) : (so = 0 ∧ va = nI w) ↔ tok = nI w := by
  rcases r with ⟨w', a1, rfl, rfl, rfl⟩ | ⟨rfl, rfl, _⟩ | ⟨rfl, rfl, _⟩ | ⟨w', a1, a2, rfl, rfl, _⟩ | ⟨rfl, rfl⟩ | ⟨rfl, rfl⟩
  · exact ⟨fun z => z.2, fun z => ⟨rfl, z⟩⟩
  · exact ⟨fun z => absurd z.1 (by decide), fun z => absurd z.symm (nI_ne (b := 35) (by omega) (by decide) (by omega))⟩
  · exact ⟨fun z => absurd z.1 (by decide), fun z => absurd z.symm (nI_ne (b := 36) (by omega) (by decide) (by omega))⟩
  · exact ⟨fun z => absurd z.1 (by decide), fun z => absurd z (nI_ne (by omega) (by omega) (by omega))⟩
  · exact ⟨fun z => absurd z.1 (by decide), fun z => absurd z.symm (nI_ne (b := 37) (by omega) (by decide) (by omega))⟩
  · exact ⟨fun z => absurd z.1 (by decide), fun z => absurd z.symm (nI_ne (b := 38) (by omega) (by decide) (by omega))⟩
theorem sgV_inj : ∀ a b : Fin 13, sgV (22 + a.val) = sgV (22 + b.val) → a = b := by decide +kernel
theorem tkR.s {tok l nm so va : Int32} (r : tkR tok l nm so va) {w : Nat} (h1 : 22 ≤ w) (h2 : w ≤ 34) : (so = 3 ∧ va = sgV w) ↔ tok = nI w := by
  rcases r with ⟨w', a1, rfl, rfl, rfl⟩ | ⟨rfl, rfl, _⟩ | ⟨rfl, rfl, _⟩ | ⟨w', a1, a2, rfl, rfl, rfl⟩ | ⟨rfl, rfl⟩ | ⟨rfl, rfl⟩
  · exact ⟨fun z => absurd z.1 (by decide), fun z => absurd z (nI_ne (by omega) (by omega) (by omega))⟩
  · exact ⟨fun z => absurd z.1 (by decide), fun z => absurd z.symm (nI_ne (b := 35) (by omega) (by decide) (by omega))⟩
  · exact ⟨fun z => absurd z.1 (by decide), fun z => absurd z.symm (nI_ne (b := 36) (by omega) (by decide) (by omega))⟩
  · refine ⟨fun z => ?_, fun z => ⟨rfl, ?_⟩⟩
    · have := sgV_inj ⟨w' - 22, by omega⟩ ⟨w - 22, by omega⟩ (by rw [show 22 + (w' - 22) = w' by omega, show 22 + (w - 22) = w by omega]; exact z.2)
      have : w' - 22 = w - 22 := congrArg Fin.val this
      rw [show w' = w by omega]
    · rw [nI_inj (by omega) (by omega) z]
  · exact ⟨fun z => absurd z.1 (by decide), fun z => absurd z.symm (nI_ne (b := 37) (by omega) (by decide) (by omega))⟩
  · exact ⟨fun z => absurd z.1 (by decide), fun z => absurd z.symm (nI_ne (b := 38) (by omega) (by decide) (by omega))⟩
theorem tkR.o {tok l nm so va : Int32} (r : tkR tok l nm so va) : (so = 1 ↔ tok = 35) ∧ (so = 2 ↔ tok = 36) ∧ (so = 4 ↔ tok = 37) := by
  rcases r with ⟨w', a1, rfl, rfl, rfl⟩ | ⟨rfl, rfl, _⟩ | ⟨rfl, rfl, _⟩ | ⟨w', a1, a2, rfl, rfl, rfl⟩ | ⟨rfl, rfl⟩ | ⟨rfl, rfl⟩
  · exact ⟨⟨fun z => absurd z (by decide), fun z => absurd z (nI_ne (b := 35) (by omega) (by decide) (by omega))⟩, ⟨fun z => absurd z (by decide), fun z => absurd z (nI_ne (b := 36) (by omega) (by decide) (by omega))⟩, ⟨fun z => absurd z (by decide), fun z => absurd z (nI_ne (b := 37) (by omega) (by decide) (by omega))⟩⟩
  · decide
  · decide
  · exact ⟨⟨fun z => absurd z (by decide), fun z => absurd z (nI_ne (b := 35) (by omega) (by decide) (by omega))⟩, ⟨fun z => absurd z (by decide), fun z => absurd z (nI_ne (b := 36) (by omega) (by decide) (by omega))⟩, ⟨fun z => absurd z (by decide), fun z => absurd z (nI_ne (b := 37) (by omega) (by decide) (by omega))⟩⟩
  · decide
  · decide
theorem tkR.v {tok l nm so va : Int32} (r : tkR tok l nm so va) : (tok = 35 → va = l) ∧ (tok = 36 → nbR nm va) := by
  rcases r with ⟨w', a1, rfl, rfl, rfl⟩ | ⟨rfl, rfl, q⟩ | ⟨rfl, rfl, q⟩ | ⟨w', a1, a2, rfl, rfl, rfl⟩ | ⟨rfl, rfl⟩ | ⟨rfl, rfl⟩
  · exact ⟨fun z => absurd z (nI_ne (b := 35) (by omega) (by decide) (by omega)), fun z => absurd z (nI_ne (b := 36) (by omega) (by decide) (by omega))⟩
  · exact ⟨fun _ => q, fun z => absurd z (by decide)⟩
  · exact ⟨fun z => absurd z (by decide), fun _ => q⟩
  · exact ⟨fun z => absurd z (nI_ne (b := 35) (by omega) (by decide) (by omega)), fun z => absurd z (nI_ne (b := 36) (by omega) (by decide) (by omega))⟩
  · exact ⟨fun z => absurd z (by decide), fun z => absurd z (by decide)⟩
  · exact ⟨fun z => absurd z (by decide), fun z => absurd z (by decide)⟩
theorem m_isWord {Q : Int32 → zMem → Prop} (b : mBs h1 n B) (q : mok h1 n B p h) {w : Nat} (hw : w < 22) (K1 : tkt B n p = nI w → Q 1 h) (K0 : ¬ tkt B n p = nI w → Q 0 h) : ∃ Q2 : Int32 → zMem → Prop, zConI G mX10_isWord d [.ref 132, .int (nI w)] h Q2 ∧ (∀ v h3, Q2 v h3 → zSh2 h3 ∧ Q v h3) := by
  obtain ⟨q1, q2, q3, q4⟩ := q
  have S := q1.sh b
  have t := q2.2.2.2.w hw
  refine ⟨fun v h3 => zSh2 h3 ∧ Q v h3, cn_X10_isWord (sg_X10_isWord_0 S ⟨fun z => absurd q4 z, fun _ => ⟨fun c => ⟨S, K0 (fun z => c (t.mpr z).1)⟩, fun c => ⟨fun c2 => ⟨S, K0 (fun z => c2 (t.mpr z).2)⟩, fun c2 => ⟨S, K1 (t.mp ⟨c, c2⟩)⟩⟩⟩⟩), fun _ _ x => x⟩
theorem m_isSign {Q : Int32 → zMem → Prop} (b : mBs h1 n B) (q : mok h1 n B p h) {w : Nat} (hw : 22 ≤ w) (hw2 : w ≤ 34) {x : Int32} (hx : x = sgV w) (K1 : tkt B n p = nI w → Q 1 h) (K0 : ¬ tkt B n p = nI w → Q 0 h) : ∃ Q2 : Int32 → zMem → Prop, zConI G mX10_isSign d [.ref 132, .int x] h Q2 ∧ (∀ v h3, Q2 v h3 → zSh2 h3 ∧ Q v h3) := by
  obtain ⟨q1, q2, q3, q4⟩ := q
  have S := q1.sh b
  subst hx
  have t := q2.2.2.2.s hw hw2
  refine ⟨fun v h3 => zSh2 h3 ∧ Q v h3, cn_X10_isSign (sg_X10_isSign_0 S ⟨fun z => absurd q4 z, fun _ => ⟨fun c => ⟨S, K0 (fun z => c (t.mpr z).1)⟩, fun c => ⟨fun c2 => ⟨S, K0 (fun z => c2 (t.mpr z).2)⟩, fun c2 => ⟨S, K1 (t.mp ⟨c, c2⟩)⟩⟩⟩⟩), fun _ _ x => x⟩
theorem m_isWordF {Q : Int32 → zMem → Prop} {f x : Int32} {pl : Nat} (b : mBs h1 n B) (q : mbad h1 f pl h) (K : Q 0 h) : ∃ Q2 : Int32 → zMem → Prop, zConI G mX10_isWord d [.ref 132, .int x] h Q2 ∧ (∀ v h3, Q2 v h3 → zSh2 h3 ∧ Q v h3) :=
  ⟨fun v h3 => zSh2 h3 ∧ Q v h3, cn_X10_isWord (sg_X10_isWord_0 (q.1.sh b) ⟨fun _ => ⟨q.1.sh b, K⟩, fun z => absurd (q.2.1.symm.trans z) q.2.2.1⟩), fun _ _ x => x⟩
theorem m_isSignF {Q : Int32 → zMem → Prop} {f x : Int32} {pl : Nat} (b : mBs h1 n B) (q : mbad h1 f pl h) (K : Q 0 h) : ∃ Q2 : Int32 → zMem → Prop, zConI G mX10_isSign d [.ref 132, .int x] h Q2 ∧ (∀ v h3, Q2 v h3 → zSh2 h3 ∧ Q v h3) :=
  ⟨fun v h3 => zSh2 h3 ∧ Q v h3, cn_X10_isSign (sg_X10_isSign_0 (q.1.sh b) ⟨fun _ => ⟨q.1.sh b, K⟩, fun z => absurd (q.2.1.symm.trans z) q.2.2.1⟩), fun _ _ x => x⟩
theorem m_fresher {Q : Int32 → zMem → Prop} (S : zSh2 h) {j : Nat} (hj : j < 8) (K : Q (zI h 134 (8 + j)) h) : ∃ Q2 : Int32 → zMem → Prop, zConI G mX10_fresher d [.ref 132, .int (nI j)] h Q2 ∧ (∀ v h3, Q2 v h3 → zSh2 h3 ∧ Q v h3) := by
  refine ⟨fun v h3 => zSh2 h3 ∧ Q v h3, cn_X10_fresher (sg_X10_fresher_0 S ?_), fun _ _ x => x⟩
  have e : (8 : Int32) + nI j = nI (8 + j) := nI_add 8 j
  rw [e, zcla (show 8 + j < 2 ^ 31 by omega)]
  exact ⟨zin_n (by omega) (by decide), S, K⟩
theorem m_reads {Q : zMem → Prop} (S : zSh2 h) {j : Nat} {v : Int32} (hj : j < 8) (K : Q (zsI h 134 (8 + j) v)) : ∃ Q2 : zMem → Prop, zConV G mX10_reads d [.ref 132, .int (nI j), .int v] h Q2 ∧ (∀ h3, Q2 h3 → zSh2 h3 ∧ Q h3) := by
  refine ⟨fun h3 => zSh2 h3 ∧ Q h3, cn_X10_reads (sg_X10_reads_0 S ?_), fun _ x => x⟩
  have e : (8 : Int32) + nI j = nI (8 + j) := nI_add 8 j
  rw [e, zcla (show 8 + j < 2 ^ 31 by omega)]
  exact ⟨zin_n (by omega) (by decide), S.W ((zW.rf h).sI _ _ _), K⟩
/-- the knots on both sides -/
def kS (A : tM) (I : Nat → Nat → Int32) : Prop := I 134 15 = A 21 7 ∧ I 132 30 = A 21 8 ∧ ∀ k, k < (A 21 7).toNatClampNeg → A 22 k = opT (I 147 (64 + k)) (I 148 (64 + k)) ∧ (A 22 k = 36 → A 23 k = I 148 (64 + k)) ∧ kvOK (I 147 (64 + k)) (I 148 (64 + k))
theorem kS.tk {A : tM} {h' : zMem} (q : kS A (zI h)) (e : tkE h h') : kS A (zI h') := by
  unfold kS at *
  rw [e.1 134 (by decide), e.1 147 (by decide), e.1 148 (by decide), e.2 30 (by decide)]; exact q
theorem mok.up {c j : Nat} {v : Int32} (q : mok h1 n B p h) (hc : (134 ≤ c ∧ c ≤ 148 ∧ hfT c ≤ j) ∨ c = 132 ∧ (j = 18 ∨ j = 19 ∨ j = 29 ∨ j = 30)) : mok h1 n B p (zsI h c j v) := by
  obtain ⟨q1, q2, q3, q4⟩ := q
  refine ⟨q1.up (by omega), ?_, q3, ?_⟩
  · unfold scM at *
    by_cases e : c = 132
    · subst e
      rw [zI_sI, zup_i _ _ _ (by omega), zup_i _ _ _ (by omega), zup_i _ _ _ (by omega), zup_i _ _ _ (by omega), zup_i _ _ _ (by omega)]; exact q2
    · rw [zI_sI, zup_ne _ _ (Ne.symm e)]; exact q2
  · by_cases e : c = 132
    · subst e; rw [zI_sI, zup_i _ _ _ (by omega)]; exact q4
    · rw [zI_sI, zup_ne _ _ (Ne.symm e)]; exact q4
theorem mbad.up {c j : Nat} {v f : Int32} {pl : Nat} (q : mbad h1 f pl h) (hc : (134 ≤ c ∧ c ≤ 148 ∧ hfT c ≤ j) ∨ c = 132 ∧ (j = 18 ∨ j = 19 ∨ j = 29 ∨ j = 30)) : mbad h1 f pl (zsI h c j v) := by
  obtain ⟨q1, q2, q3, q4⟩ := q
  refine ⟨q1.up (by omega), ?_, q3, ?_⟩
  · by_cases e : c = 132
    · subst e; rw [zI_sI, zup_i _ _ _ (by omega)]; exact q2
    · rw [zI_sI, zup_ne _ _ (Ne.symm e)]; exact q2
  · by_cases e : c = 132
    · subst e; rw [zI_sI, zup_i _ _ _ (by omega)]; exact q4
    · rw [zI_sI, zup_ne _ _ (Ne.symm e)]; exact q4
/-- cells that a formula leaves -/
def fmE (h h' : zMem) : Prop := (∀ c, c ≠ 132 → c ≠ 134 → c ≠ 147 → c ≠ 148 → zI h' c = zI h c) ∧ (∀ j, j ≠ 15 → zI h' 134 j = zI h 134 j) ∧ ∀ j, j = 18 ∨ j = 19 → zI h' 132 j = zI h 132 j
theorem fmE.rf (h : zMem) : fmE h h := ⟨fun _ _ _ _ _ => rfl, fun _ _ => rfl, fun _ _ => rfl⟩
theorem fmE.trans {h h' h2 : zMem} (a : fmE h h') (b : fmE h' h2) : fmE h h2 := ⟨fun c x y z w => (b.1 c x y z w).trans (a.1 c x y z w), fun j x => (b.2.1 j x).trans (a.2.1 j x), fun j x => (b.2.2 j x).trans (a.2.2 j x)⟩
theorem tkE.fm {h' : zMem} (e : tkE h h') : fmE h h' := ⟨fun c x _ _ _ => e.1 c x, fun j _ => by rw [e.1 134 (by decide)], fun j x => e.2 j (by omega)⟩
theorem m_knot {Q : zMem → Prop} {A : tM} (b : mBs h1 n B) (q : mok h1 n B p h) (k : kS A (zI h)) {kn : Nat} (e8 : A 21 8 = nI kn) (h64 : kn ≤ 64) (K1 : ∀ h', kn < 64 → mok h1 n B p h' → kS (addK A) (zI h') → fmE h h' → (∀ j, zI h' 147 j = zI h 147 j ∧ zI h' 148 j = zI h 148 j) → zI h' 132 29 = zI h 132 29 → zI h' 132 24 = zI h 132 24 → Q h') (K2 : ∀ h', ¬ kn < 64 → mbad h1 2 (tks B n p) h' → tkE h h' → Q h') : ∃ Q2 : zMem → Prop, zConV G mX10_knot (d + 1) [.ref 132] h Q2 ∧ (∀ h3, Q2 h3 → zSh2 h3 ∧ Q h3) := by
  have S := q.1.sh b
  refine ⟨fun h3 => zSh2 h3 ∧ Q h3, cn_X10_knot (sg_X10_knot_0 S ⟨fun _ => ?_, fun z => absurd q.2.2.2 z⟩), fun _ x => x⟩
  have e30 : zI h 132 30 = nI kn := k.2.1.trans e8
  rw [e30, nI_1]
  refine ⟨fun c => ?_, fun c => ?_⟩
  · have c' : kn < 64 := by
      rcases Nat.lt_or_ge kn 64 with z | z
      · exact z
      · exact absurd (by rw [show kn = 64 by omega]; rfl) c
    have m := q.up (c := 132) (j := 30) (v := nI (kn + 1)) (by omega)
    refine ⟨m.1.sh b, K1 _ c' m ?_ ⟨fun c a1 a2 a3 a4 => ?_, fun j _ => ?_, fun j hj => ?_⟩ (fun j => ?_) ?_ ?_⟩
    · obtain ⟨k1, k2, k3⟩ := k
      refine ⟨?_, ?_, ?_⟩
      · rw [zI_sI, zup_ne _ _ (by decide)]; unfold addK; rw [zup_i _ _ _ (by decide)]; exact k1
      · rw [zI_sI, zup_s]; unfold addK; rw [zup_s, e8, nI_1]
      · rw [zI_sI, zup_ne _ _ (by decide), zup_ne _ _ (by decide)]; unfold addK
        rw [zup_i _ _ _ (by decide), zup_ne _ _ (by decide), zup_ne _ _ (by decide)]; exact k3
    · rw [zI_sI, zup_ne _ _ a1]
    · rw [zI_sI, zup_ne _ _ (by decide)]
    · rw [zI_sI, zup_i _ _ _ (by omega)]
    · rw [zI_sI, zup_ne _ _ (by decide), zup_ne _ _ (by decide)]; exact ⟨rfl, rfl⟩
    · rw [zI_sI, zup_i _ _ _ (by decide)]
    · rw [zI_sI, zup_i _ _ _ (by decide)]
  · have c' : ¬ kn < 64 := fun z => by
      have := nI_inj (b := 64) (by omega) (by decide) c
      omega
    exact m_wrong b q (by decide) (fun h' a e => ⟨a.1.sh b, K2 h' c' a e⟩)
theorem m_knotF {Q : zMem → Prop} {f : Int32} {pl : Nat} (b : mBs h1 n B) (q : mbad h1 f pl h) (K : Q h) : ∃ Q2 : zMem → Prop, zConV G mX10_knot (d + 1) [.ref 132] h Q2 ∧ (∀ h3, Q2 h3 → zSh2 h3 ∧ Q h3) :=
  ⟨fun h3 => zSh2 h3 ∧ Q h3, cn_X10_knot (sg_X10_knot_0 (q.1.sh b) ⟨fun z => absurd (q.2.1.symm.trans z) q.2.2.1, fun _ => ⟨q.1.sh b, K⟩⟩), fun _ x => x⟩
theorem m_putsF {Q : zMem → Prop} {f x y : Int32} {pl : Nat} (b : mBs h1 n B) (q : mbad h1 f pl h) (K : Q h) : ∃ Q2 : zMem → Prop, zConV G mX10_puts (d + 1) [.ref 132, .int x, .int y] h Q2 ∧ (∀ h3, Q2 h3 → zSh2 h3 ∧ Q h3) :=
  ⟨fun h3 => zSh2 h3 ∧ Q h3, cn_X10_puts (sg_X10_puts_0 (q.1.sh b) ⟨fun z => absurd (q.2.1.symm.trans z) q.2.2.1, fun _ => ⟨q.1.sh b, K⟩⟩), fun _ x => x⟩
set_option maxHeartbeats 1000000 in
theorem m_puts {Q : zMem → Prop} {A : tM} {so va x z : Int32} {ln : Nat} (b : mBs h1 n B) (q : mok h1 n B p h) (k : kS A (zI h)) (e7 : A 21 7 = nI ln) (h64 : ln < 64) (hx : x = opT so va) (hz : x = 36 → z = va) (hk : kvOK so va) (K : ∀ h', mok h1 n B p h' → kS (apd A x z) (zI h') → fmE h h' → zI h' 147 (64 + ln) = so → zI h' 148 (64 + ln) = va → (∀ j, j ≠ 64 + ln → zI h' 147 j = zI h 147 j ∧ zI h' 148 j = zI h 148 j) → zI h' 132 29 = zI h 132 29 → Q h') : ∃ Q2 : zMem → Prop, zConV G mX10_puts (d + 1) [.ref 132, .int so, .int va] h Q2 ∧ (∀ h3, Q2 h3 → zSh2 h3 ∧ Q h3) := by
  have S := q.1.sh b
  have e15 : zI h 134 15 = nI ln := k.1.trans e7
  have add : (64 : Int32) + nI ln = nI (64 + ln) := nI_add 64 ln
  refine ⟨fun h3 => zSh2 h3 ∧ Q h3, cn_X10_puts (sg_X10_puts_0 S ⟨fun _ => ?_, fun z => absurd q.2.2.2 z⟩), fun _ x => x⟩
  refine m_fresher S (j := 7) (by decide) ?_
  rw [e15, add, zcla (show 64 + ln < 2 ^ 31 by omega)]
  refine ⟨zin_n (by omega) (by decide), ?_⟩
  have q1 := q.up (c := 147) (j := 64 + ln) (v := so) (by unfold hfT; simp)
  refine m_fresher (q1.1.sh b) (j := 7) (by decide) ?_
  have f15 : zI (zsI h 147 (64 + ln) so) 134 (8 + 7) = nI ln := by rw [zI_sI, zup_ne _ _ (by decide)]; exact e15
  rw [f15, add, zcla (show 64 + ln < 2 ^ 31 by omega)]
  refine ⟨zin_n (by omega) (by decide), ?_⟩
  have q2 := q1.up (c := 148) (j := 64 + ln) (v := va) (by unfold hfT; simp)
  refine m_fresher (q2.1.sh b) (j := 7) (by decide) ?_
  have g15 : zI (zsI (zsI h 147 (64 + ln) so) 148 (64 + ln) va) 134 (8 + 7) = nI ln := by rw [zI_sI, zup_ne _ _ (by decide)]; exact f15
  rw [g15, nI_1]
  refine m_reads (q2.1.sh b) (j := 7) (by decide) ?_
  have q3 := q2.up (c := 134) (j := 15) (v := nI (ln + 1)) (by unfold hfT; simp)
  refine ⟨q3.1.sh b, K _ q3 ?_ ⟨fun c a1 a2 a3 a4 => ?_, fun j hj => ?_, fun j hj => ?_⟩ ?_ ?_ (fun j hj => ?_) ?_⟩
  · obtain ⟨k1, k2, k3⟩ := k
    have t1 : (apd A x z) 21 7 = nI (ln + 1) := by unfold apd; rw [zup_s, e7, nI_1]
    refine ⟨?_, ?_, fun i hi => ?_⟩
    · rw [t1]; simp only [zI_sI]; rw [zup_s]
    · unfold apd
      rw [zup_i _ _ _ (by decide), zup_ne _ _ (by decide), zup_ne _ _ (by decide)]
      simp only [zI_sI]
      rw [zup_ne _ _ (by decide), zup_ne _ _ (by decide), zup_ne _ _ (by decide)]; exact k2
    · rw [t1, zcla (show ln + 1 < 2 ^ 31 by omega)] at hi
      have a22 : (apd A x z) 22 i = zup A 22 ln x 22 i := by unfold apd; rw [e7, zcla (show ln < 2 ^ 31 by omega), zup_ne _ _ (by decide), zup_ne _ _ (by decide)]
      have a23 : (apd A x z) 23 i = zup (zup A 22 ln x) 23 ln z 23 i := by unfold apd; rw [e7, zcla (show ln < 2 ^ 31 by omega), zup_ne _ _ (by decide)]
      have b147 : zI (zsI (zsI (zsI h 147 (64 + ln) so) 148 (64 + ln) va) 134 15 (nI (ln + 1))) 147 (64 + i) = zup (zI h) 147 (64 + ln) so 147 (64 + i) := by
        simp only [zI_sI]; rw [zup_ne _ _ (by decide), zup_ne _ _ (by decide)]
      have b148 : zI (zsI (zsI (zsI h 147 (64 + ln) so) 148 (64 + ln) va) 134 15 (nI (ln + 1))) 148 (64 + i) = zup (zup (zI h) 147 (64 + ln) so) 148 (64 + ln) va 148 (64 + i) := by
        simp only [zI_sI]; rw [zup_ne _ _ (by decide)]
      rw [a22, a23]
      rw [show zI (zsI (zsI (zsI h 147 (64 + ln) so) 148 (64 + ln) va) 134 (8 + 7) (nI (ln + 1))) = zI (zsI (zsI (zsI h 147 (64 + ln) so) 148 (64 + ln) va) 134 15 (nI (ln + 1))) from rfl, b147, b148]
      by_cases e : i = ln
      · subst e
        rw [zup_s, zup_s, zup_s, zup_s]
        exact ⟨hx, hz, hk⟩
      · have n1 : zup A 22 ln x 22 i = A 22 i := zup_i _ _ _ e
        have n2 : zup (zup A 22 ln x) 23 ln z 23 i = A 23 i := by rw [zup_i _ _ _ e, zup_ne _ _ (show 23 ≠ 22 by decide)]
        have n3 : zup (zI h) 147 (64 + ln) so 147 (64 + i) = zI h 147 (64 + i) := zup_i _ _ _ (by omega)
        have n4 : zup (zup (zI h) 147 (64 + ln) so) 148 (64 + ln) va 148 (64 + i) = zI h 148 (64 + i) := by rw [zup_i _ _ _ (by omega), zup_ne _ _ (show 148 ≠ 147 by decide)]
        rw [n1, n2, n3, n4]
        exact k3 i (by rw [e7, zcla (show ln < 2 ^ 31 by omega)]; omega)
  · simp only [zI_sI]; rw [zup_ne _ _ a2, zup_ne _ _ a4, zup_ne _ _ a3]
  · simp only [zI_sI]; rw [zup_i _ _ _ hj, zup_ne _ _ (by decide), zup_ne _ _ (by decide)]
  · simp only [zI_sI]; rw [zup_ne _ _ (by decide), zup_ne _ _ (by decide), zup_ne _ _ (by decide)]
  · simp only [zI_sI]; rw [zup_ne _ _ (by decide), zup_ne _ _ (by decide), zup_s]
  · simp only [zI_sI]; rw [zup_ne _ _ (by decide), zup_s]
  · simp only [zI_sI]; rw [zup_ne _ _ (by decide), zup_ne _ _ (by decide), zup_i _ _ _ hj, zup_ne _ _ (by decide), zup_i _ _ _ hj, zup_ne _ _ (by decide)]; exact ⟨rfl, rfl⟩
  · simp only [zI_sI]; rw [zup_ne _ _ (by decide), zup_ne _ _ (by decide), zup_ne _ _ (by decide)]
end MP
