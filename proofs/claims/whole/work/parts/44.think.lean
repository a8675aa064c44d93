/-! a monk smells and thinks; the house votes -/
theorem bitsF_congr {f g : Nat → Int32} {p keen : Int32} : ∀ n, (∀ k, k < n → f k = g k) → bitsF f p keen n = bitsF g p keen n
  | 0, _ => rfl
  | n + 1, h => by
    unfold bitsF
    rw [h n (by omega), bitsF_congr n (fun k hk => h k (by omega))]
theorem smeltF_congr {f g : Nat → Int32} {p keen colds : Int32} {n : Nat} (h : ∀ k, k < n → f k = g k) : smeltF n f p keen colds = smeltF n g p keen colds := by
  unfold smeltF
  rw [bitsF_congr n h]
/-- which day he thinks, of those that are ok, from the one behind j on -/
def thkF (ok : Nat → Bool) (nd j : Nat) : Nat → Nat → Nat
  | 0, _ => (j + 1) % nd
  | n + 1, st => if ok ((j + st) % nd) then (j + st) % nd else thkF ok nd j n (st + 1)
theorem thkF_lt {ok : Nat → Bool} {nd j : Nat} (hnd : 0 < nd) : ∀ n st, thkF ok nd j n st < nd
  | 0, _ => Nat.mod_lt _ hnd
  | n + 1, st => by
    unfold thkF
    split
    · exact Nat.mod_lt _ hnd
    · exact thkF_lt hnd n (st + 1)
def smellV (I : Nat → Nat → Int32) (b ns m r : Nat) (keen : Int32) : Int32 := smeltF ns (I (b + 4 + 1 + r)) 100 keen (I (b + 12) m)
def thinkV (I : Nat → Nat → Int32) (b t ns nd m r j : Nat) (keen : Int32) : Int32 := if nd = 0 then I (b + 14) m else nI (thkF (fun day => decide (markF I b t ns m r day keen = smellV I b ns m r keen)) nd j nd 1)
def smellR (I I' : Nat → Nat → Int32) (b t ns nd m r j : Nat) (keen : Int32) : Prop := (∀ a, a ≠ b + 13 → a ≠ b + 14 → I' a = I a) ∧ (∀ k, k ≠ m → I' (b + 13) k = I (b + 13) k ∧ I' (b + 14) k = I (b + 14) k) ∧ I' (b + 13) m = smellV I b ns m r keen ∧ I' (b + 14) m = thinkV I b t ns nd m r j keen
set_option maxHeartbeats 8000000 in
theorem X5_smellAndThink_ok {G : zG} {d t b td : Nat} {h : zMem} (hS : zSh1 h t) (hb : isSt b) (ht : isTd td) {ns nd m r j : Nat} (hn : zI h (td + 1) 0 = nI ns) (h6 : ns ≤ 6) (hnd : zI h (td + 1) 1 = nI nd) (h8 : nd ≤ 8) (hm : m < 5) (hr : zI h (b + 11) m = nI r) (hr6 : r < 6) (hj : nd = 0 ∨ (zI h (b + 14) m = nI j ∧ j < nd)) (keen : Int32) :
    zConV G mX5_smellAndThink (d + 2) [.ref b, .ref td, .int (nI m), .int keen] h (fun h' => zW h h' ∧ smellR (zI h) (zI h') b td ns nd m r j keen) := by
  have dj := st_td hb ht
  refine cn_X5_smellAndThink (sg_X5_smellAndThink_0 hS hb ht ?_)
  have hrow := zS_srow hS hb 4 6 6 rfl rfl rfl (zin_n hr6 (by decide))
  rw [zcla (show r < 2 ^ 31 by omega)] at hrow
  rw [zcla (show m < 2 ^ 31 by omega), hr, zcla (show r < 2 ^ 31 by omega)]
  refine ⟨zin_n hm (by decide), zin_n hr6 (by decide), _, X7_smelt_ok hS ht hn h6 hrow.2.1 hrow.2.2 _ _ _, ?_⟩
  rintro v h4 ⟨hv, rfl⟩
  have hv : v = smellV (zI h4) b ns m r keen := hv
  refine ⟨hS, ?_⟩
  obtain ⟨h1, eh1⟩ : ∃ h1, h1 = zsI h4 (b + 13) m v := ⟨_, rfl⟩
  rw [← eh1]
  have hW1 : zW h4 h1 := by rw [eh1]; exact (zW.rf h4).sI _ _ _
  have hA : ∀ a, a ≠ b + 13 → zI h1 a = zI h4 a := fun a ha => by rw [eh1, zI_sI, zup_ne _ _ ha]
  have hM : zI h1 (b + 13) m = v := by rw [eh1, zI_sI, zup_s]
  have hO : ∀ k, k ≠ m → zI h1 (b + 13) k = zI h4 (b + 13) k := fun k hk => by rw [eh1, zI_sI, zup_i _ _ _ hk]
  rw [hA (td + 1) (by omega), hnd]
  have fin : ∀ w : Int32, w = thinkV (zI h4) b td ns nd m r j keen → (zW h4 (zsI h1 (b + 14) m w) ∧ smellR (zI h4) (zI (zsI h1 (b + 14) m w)) b td ns nd m r j keen) := by
    intro w hw
    refine ⟨hW1.sI _ _ _, fun a q1 q2 => ?_, fun k hk => ⟨?_, ?_⟩, ?_, ?_⟩
    · rw [zI_sI, zup_ne _ _ q2]; exact hA a q1
    · rw [zI_sI, zup_ne _ _ (by omega)]; exact hO k hk
    · rw [zI_sI, zup_i _ _ _ hk, hA (b + 14) (by omega)]
    · rw [zI_sI, zup_ne _ _ (by omega), hM, hv]
    · rw [zI_sI, zup_s, hw]
  rcases Nat.eq_zero_or_pos nd with h0 | hpos
  · refine sg_X5_smellAndThink_41 (hS.W hW1) hb ht ⟨fun _ => ⟨fun _ => ?_, fun c => absurd (by rw [h0]; decide) c⟩, fun c => absurd (by rw [h0]; decide) c⟩
    refine ⟨hW1, fun a q1 _ => hA a q1, fun k hk => ⟨hO k hk, by rw [hA (b + 14) (by omega)]⟩, hM.trans hv, ?_⟩
    rw [hA (b + 14) (by omega)]; unfold thinkV; rw [if_pos h0]
  · obtain ⟨hj1, hj2⟩ := hj.elim (fun e => absurd e (by omega)) id
    have loop : ∀ n st, n + st = nd + 1 → 1 ≤ st → thkF (fun day => decide (markF (zI h4) b td ns m r day keen = smellV (zI h4) b ns m r keen)) nd j n st = thkF (fun day => decide (markF (zI h4) b td ns m r day keen = smellV (zI h4) b ns m r keen)) nd j nd 1 →
        zg G mX5_smellAndThink (d + 2) 41 [.ref b, .ref td, .int (nI m), .int keen, .int (nI nd), .int (nI st), zU] [] h1 (zPV (fun h' => zW h4 h' ∧ smellR (zI h4) (zI h') b td ns nd m r j keen)) := by
      intro n
      induction n with
      | zero =>
        intro st hst h1st hT
        refine sg_X5_smellAndThink_41 (hS.W hW1) hb ht ⟨fun _ => ⟨fun c => absurd c (nI_nle hpos (by omega)), fun _ => ?_⟩, fun c => absurd (nI_lt (by omega) (by omega)) c⟩
        rw [zcla (show m < 2 ^ 31 by omega), hA (b + 14) (by omega), hj1, nI_1, pk_rem (by omega) hpos (by omega)]
        refine ⟨zin_n hm (by decide), nI_ne0 hpos (by omega), fin _ ?_⟩
        unfold thinkV
        rw [if_neg (by omega), ← hT]; rfl
      | succ n ih =>
        intro st hst h1st hT
        have hlt := Nat.mod_lt (j + st) hpos
        refine sg_X5_smellAndThink_41 (hS.W hW1) hb ht ?_
        simp only [zcla (show m < 2 ^ 31 by omega), hA (b + 14) (show b + 14 ≠ b + 13 by omega), hj1, nI_add, pk_rem (show j + st < 2 ^ 31 by omega) hpos (show nd < 2 ^ 31 by omega)]
        refine ⟨fun c => absurd c (nI_nlt (by omega) (by omega)), fun _ => ⟨zin_n hm (by decide), nI_ne0 hpos (by omega), _, X5_markOf_ok (hS.W hW1) hb ht (by rw [hA (td + 1) (by omega)]; exact hn) h6 hm (by omega) (by rw [hA (b + 11) (by omega)]; exact hr) hr6 keen, ?_⟩⟩
        rintro v8 h8' ⟨hv8, rfl⟩
        have e8 : v8 = markF (zI h4) b td ns m r ((j + st) % nd) keen := by
          rw [hv8]; unfold markF
          rw [hA (td + 9 + 1 + (j + st) % nd) (by omega), hA (b + 3) (by omega), hA (b + 12) (by omega)]
        rw [hM, hv, e8]
        refine ⟨hS.W hW1, fun c => ?_, fun c => fin _ ?_⟩
        · rw [nI_1]
          refine ih (st + 1) (by omega) (by omega) ?_
          rw [← hT]
          conv => rhs; unfold thkF
          rw [if_neg (by rw [decide_eq_true_eq]; exact c)]
        · unfold thinkV
          rw [if_neg (by omega), ← hT]
          unfold thkF
          rw [if_pos (by rw [decide_eq_true_eq]; exact c)]
    exact loop nd 1 (by omega) (by omega) rfl
/-- how many of the first m monks think day d (but the one who isn't there) -/
def cntF (th : Nat → Int32) (ab : Int32) (d : Nat) : Nat → Nat
  | 0 => 0
  | m + 1 => cntF th ab d m + (if nI m = ab then 0 else if th m = nI d then 1 else 0)
theorem cntF_le {th : Nat → Int32} {ab : Int32} {d : Nat} : ∀ m, cntF th ab d m ≤ m
  | 0 => Nat.le_refl _
  | m + 1 => by
    have := cntF_le (th := th) (ab := ab) (d := d) m
    unfold cntF
    split
    · omega
    · split <;> omega
def bstF (v : Nat → Nat) : Nat → Nat → Nat → Nat → Nat
  | 0, _, best, _ => best
  | n + 1, k, best, most => if v k ≤ most then bstF v n (k + 1) best most else bstF v n (k + 1) k (v k)
theorem bstF_lt {v : Nat → Nat} {N : Nat} : ∀ n k best most, n + k = N → best < N → bstF v n k best most < N
  | 0, _, _, _, _, hb => hb
  | n + 1, k, best, most, hk, hb => by
    unfold bstF
    split
    · exact bstF_lt n (k + 1) best most (by omega) hb
    · exact bstF_lt n (k + 1) k _ (by omega) (by omega)
def mostF (th : Nat → Int32) (ab : Int32) (nm nd today : Nat) : Nat := bstF (fun d => cntF th ab d nm) nd 0 today 0
set_option maxHeartbeats 8000000 in
theorem X5_mostThought_ok {G : zG} {d t b td : Nat} {h : zMem} (hS : zSh1 h t) (hb : isSt b) (ht : isTd td) {nd nm today : Nat} (hnd : zI h (td + 1) 1 = nI nd) (h8 : nd ≤ 8) (hnm : zI h (td + 1) 3 = nI nm) (h5 : nm ≤ 5) (hth : ∀ m, m < nm → ∃ j, j < nd ∧ zI h (b + 14) m = nI j) :
    zConI G mX5_mostThought d [.ref b, .ref td, .int (nI today)] h (fun v h' => v = nI (mostF (zI h (b + 14)) (zI h b 14) nm nd today) ∧ zW h h' ∧ ∀ a, a ≠ b + 16 → zI h' a = zI h a) := by
  have dj := st_td hb ht
  refine cn_X5_mostThought (sg_X5_mostThought_0 hS hb ht ?_)
  obtain ⟨Q, hQ⟩ : ∃ Q : Int32 → zMem → Prop, Q = (fun v h' => v = nI (mostF (zI h (b + 14)) (zI h b 14) nm nd today) ∧ zW h h' ∧ ∀ a, a ≠ b + 16 → zI h' a = zI h a) := ⟨_, rfl⟩
  rw [← hQ]
  have l3 : ∀ n k best most (h1 : zMem), n + k = nd → zW h h1 → (∀ a, a ≠ b + 16 → zI h1 a = zI h a) → (∀ d, d < 8 → zI h1 (b + 16) d = nI (cntF (zI h (b + 14)) (zI h b 14) d nm)) → most ≤ 5 → bstF (fun d => cntF (zI h (b + 14)) (zI h b 14) d nm) n k best most = mostF (zI h (b + 14)) (zI h b 14) nm nd today →
      zg G mX5_mostThought d 70 [.ref b, .ref td, .int (nI today), .int (nI best), .int (nI most), .int (nI k)] [] h1 (zPI Q) := by
    intro n
    induction n with
    | zero =>
      intro k best most h1 hk hW hA hV hm hB
      refine sg_X5_mostThought_70 (hS.W hW) hb ht ?_
      rw [hA (td + 1) (by omega), hnd, hQ]
      exact ⟨fun _ => ⟨by rw [← hB]; rfl, hW, hA⟩, fun c => absurd (nI_le (by omega) (by omega)) c⟩
    | succ n ih =>
      intro k best most h1 hk hW hA hV hm hB
      have hc := cntF_le (th := zI h (b + 14)) (ab := zI h b 14) (d := k) nm
      refine sg_X5_mostThought_70 (hS.W hW) hb ht ?_
      rw [hA (td + 1) (by omega), hnd, zcla (show k < 2 ^ 31 by omega), hV k (by omega), nI_1]
      refine ⟨fun c => absurd c (nI_ge (by omega) (by omega)), fun _ => ⟨zin_n (by omega) (by decide), fun c => ?_, fun c => ?_⟩⟩
      · have := (nI_leI (by omega) (by omega)).mp c
        refine ih (k + 1) best most h1 (by omega) hW hA hV hm ?_
        rw [← hB]; conv => rhs; unfold bstF
        rw [if_pos this]
      · have : ¬ cntF (zI h (b + 14)) (zI h b 14) k nm ≤ most := fun q => c (nI_le q (by omega))
        refine ih (k + 1) k _ h1 (by omega) hW hA hV (by omega) ?_
        rw [← hB]; conv => rhs; unfold bstF
        rw [if_neg this]
  have l2 : ∀ n m (h1 : zMem), n + m = nm → zW h h1 → (∀ a, a ≠ b + 16 → zI h1 a = zI h a) → (∀ d, d < 8 → zI h1 (b + 16) d = nI (cntF (zI h (b + 14)) (zI h b 14) d m)) →
      zg G mX5_mostThought d 23 [.ref b, .ref td, .int (nI today), .int (nI m), zU, zU] [] h1 (zPI Q) := by
    intro n
    induction n with
    | zero =>
      intro m h1 hk hW hA hV
      refine sg_X5_mostThought_23 (hS.W hW) hb ht ?_
      rw [hA (td + 1) (by omega), hnm]
      refine ⟨fun _ => l3 nd 0 today 0 h1 (by omega) hW hA ?_ (by omega) rfl, fun c => absurd (nI_le (by omega) (by omega)) c⟩
      rw [show nm = m by omega]; exact hV
    | succ n ih =>
      intro m h1 hk hW hA hV
      obtain ⟨j, hj1, hj2⟩ := hth m (by omega)
      refine sg_X5_mostThought_23 (hS.W hW) hb ht ?_
      rw [hA (td + 1) (by omega), hnm, hA b (by omega), zcla (show m < 2 ^ 31 by omega), hA (b + 14) (by omega), hj2, zcla (show j < 2 ^ 31 by omega), nI_1]
      refine ⟨fun c => absurd c (nI_ge (by omega) (by omega)), fun _ => ⟨fun c => ih (m + 1) h1 (by omega) hW hA (fun d hd => ?_), fun c => ⟨zin_n (by omega) (by decide), zin_n (by omega) (by decide), ih (m + 1) _ (by omega) (hW.sI _ _ _) (fun a ha => ?_) (fun d hd => ?_)⟩⟩⟩
      · rw [hV d hd]; conv => rhs; unfold cntF
        rw [if_pos c]; rfl
      · rw [zI_sI, zup_ne _ _ ha]; exact hA a ha
      · conv => rhs; unfold cntF
        rw [if_neg c, hj2]
        by_cases e : d = j
        · subst e
          rw [zI_sI, zup_s, hV d hd, nI_1, if_pos rfl]
        · rw [zI_sI, zup_i _ _ _ e, hV d hd, if_neg (fun q => e ((nI_eq (by omega) (by omega)).mp q).symm)]; rfl
  have l1 : ∀ n k (h1 : zMem), n + k = 8 → zW h h1 → (∀ a, a ≠ b + 16 → zI h1 a = zI h a) → (∀ d, d < k → zI h1 (b + 16) d = 0) →
      zg G mX5_mostThought d 2 [.ref b, .ref td, .int (nI today), .int (nI k), zU, zU] [] h1 (zPI Q) := by
    intro n
    induction n with
    | zero =>
      intro k h1 hk hW hA hV
      have : k = 8 := by omega
      subst this
      refine sg_X5_mostThought_2 (hS.W hW) hb ht ⟨fun _ => l2 nm 0 h1 (by omega) hW hA (fun d hd => hV d hd), fun c => absurd (show nI 8 ≤ nI 8 from nI_le (Nat.le_refl _) (by decide)) c⟩
    | succ n ih =>
      intro k h1 hk hW hA hV
      refine sg_X5_mostThought_2 (hS.W hW) hb ht ?_
      rw [zcla (show k < 2 ^ 31 by omega), nI_1]
      refine ⟨fun c => absurd (show nI 8 ≤ nI k from c) (nI_ge (by omega) (by decide)), fun _ => ⟨zin_n (by omega) (by decide), ih (k + 1) _ (by omega) (hW.sI _ _ _) (fun a ha => ?_) (fun d hd => ?_)⟩⟩
      · rw [zI_sI, zup_ne _ _ ha]; exact hA a ha
      · by_cases e : d = k
        · subst e; rw [zI_sI, zup_s]
        · rw [zI_sI, zup_i _ _ _ e]; exact hV d (by omega)
  exact l1 8 0 h (by omega) (zW.rf h) (fun _ _ => rfl) (fun d hd => absurd hd (by omega))
