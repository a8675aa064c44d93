/-- cells laid as the shape has them -/
def chk (L : List zC) (lo n : Nat) : Bool := (List.range n).all fun i => match L[i]? with
  | none => false
  | some c => c.1 == kK (lo + i) && c.2.1 == kL (lo + i) && (List.range 70).all fun j => kR (lo + i) j == none || c.2.2.2.1 j == kR (lo + i) j
theorem kR_len : kRs.all (fun l => decide (l.length ≤ 70)) = true := by decide +kernel
theorem kR_hi {a j : Nat} (hj : 70 ≤ j) : kR a j = none := by
  unfold kR
  rw [List.getD_eq_getElem?_getD (l := kRs)]
  cases e : kRs[a]? with
  | none => rfl
  | some l =>
    have h1 := List.all_eq_true.mp kR_len l (List.mem_of_getElem? e)
    have h2 : l.length ≤ 70 := of_decide_eq_true h1
    show l.getD j none = none
    rw [List.getD_eq_getElem?_getD, List.getElem?_eq_none (by omega)]
    rfl
theorem zcl1_app {h : zMem} {L : List zC} {lo n : Nat} (hz : zn h = lo) (hl : L.length = n) (hc : chk L lo n = true) : zcl1 (zapp h L) lo (lo + n) := by
  have key : ∀ a, lo ≤ a → a < lo + n → ∃ c, L[a - lo]? = some c ∧ c.1 = kK a ∧ c.2.1 = kL a ∧ ∀ j r, kR a j = some r → c.2.2.2.1 j = some r := fun a h1 h2 => by
    have q := List.all_eq_true.mp hc (a - lo) (List.mem_range.mpr (by omega))
    have hi : a - lo < L.length := by omega
    refine ⟨L[a - lo], List.getElem?_eq_getElem hi, ?_⟩
    rw [List.getElem?_eq_getElem hi, show lo + (a - lo) = a by omega] at q
    simp only [Bool.and_eq_true, beq_iff_eq, List.all_eq_true, List.mem_range, Bool.or_eq_true] at q
    refine ⟨q.1.1, q.1.2, fun j r hr => ?_⟩
    by_cases hj : j < 70
    · rcases q.2 j hj with e | e
      · rw [hr] at e; cases e
      · rw [e]; exact hr
    · rw [kR_hi (by omega)] at hr; cases hr
  refine ⟨by show lo + n ≤ zn h + L.length; omega, fun a h1 h2 => ?_, fun a j r h1 h2 hr => ?_⟩
  · obtain ⟨c, e, c1, c2, c3⟩ := key a h1 h2
    have ea : a = zn h + (a - lo) := by omega
    have k1 := zK_at (h := h) e
    have k2 := zLen_at (h := h) e
    rw [← ea] at k1 k2
    exact ⟨k1.trans c1, k2.trans c2⟩
  · obtain ⟨c, e, c1, c2, c3⟩ := key a h1 h2
    have ea : a = zn h + (a - lo) := by omega
    have k1 := zR_at (h := h) e
    rw [← ea] at k1
    rw [k1]; exact c3 j r hr
theorem zcl1.app {h : zMem} {L : List zC} {lo hi : Nat} (q : zcl1 h lo hi) : zcl1 (zapp h L) lo hi := by
  obtain ⟨q1, q2, q3⟩ := q
  refine ⟨by show hi ≤ zn h + L.length; omega, fun a h1 h2 => ?_, fun a j r h1 h2 hr => ?_⟩
  · have e1 : zK (zapp h L) a = zK h a := zsl_lo (by omega)
    have e2 : zLen (zapp h L) a = zLen h a := zsl_lo (by omega)
    rw [e1, e2]; exact q2 a h1 h2
  · have e1 : zR (zapp h L) a = zR h a := zsl_lo (by omega)
    rw [e1]; exact q3 a j r h1 h2 hr

def saL (n : Nat) : List zC := (zcR (zcR (zcR (zcR (zcR (zcR (zcR (zcR (zcR (zcR (zcR (zcR (zC0 8 0 14) 0 (some (n + 1))) 1 (some (n + 2))) 2 (some (n + 37))) 3 (some (n + 44))) 4 (some (n + 48))) 5 (some (n + 65))) 6 (some (n + 82))) 7 (some (n + 99))) 8 (some (n + 100))) 9 (some (n + 101))) 10 (some (n + 102))) 11 (some (n + 103))) :: ((zC0 102 700 700) :: (reL (n + 2) ++ (noL (n + 37) ++ (unL (n + 44) ++ (stL (n + 48) ++ (stL (n + 65) ++ (stL (n + 82) ++ (nuL (n + 99) ++ ((zC0 100 36 36) :: ((zC0 100 6 6) :: ((zC0 100 8 8) :: (tdL (n + 103) ++ ([])))))))))))))
theorem saL_len (n : Nat) : (saL n).length = 132 := by unfold saL; simp only [List.length_cons, List.length_append, List.length_nil, zmL_len, laL_len, noL_len, unL_len, stL_len, nuL_len, tdL_len, scL_len, reL_len]; try omega
theorem saL_sum (n : Nat) : ((saL n).map fun c => c.2.2.1).sum = 2203 := by unfold saL; simp only [List.map_cons, List.map_append, List.map_nil, List.sum_cons, List.sum_append, List.sum_nil, zmL_sum, zcR_s, zcI_s, zC0_s, laL_sum, noL_sum, unL_sum, stL_sum, nuL_sum, tdL_sum, scL_sum, reL_sum]; try omega
set_option maxRecDepth 100000 in
theorem saL_chk : chk (saL 0) 0 132 = true := by decide +kernel
theorem saL_sh {h : zMem} (h0 : zn h = 0) : zSh1 (zapp h (saL (zn h))) 103 := by
  have e : saL (zn h) = saL 0 := by rw [h0]
  rw [e]
  refine ⟨?_, Or.inr rfl, ?_, ?_⟩
  · have := zcl1_app (h := h) (lo := 0) h0 (saL_len 0) saL_chk
    exact this
  · have hc : (saL 0)[0]?.map (fun c => c.2.2.2.1 11) = some (some 103) := by decide +kernel
    cases e0 : (saL 0)[0]? with
    | none => rw [e0] at hc; cases hc
    | some c =>
      rw [e0] at hc
      have k := zR_at (h := h) e0
      rw [h0] at k
      have k : zR (zapp h (saL 0)) 0 = c.2.2.2.1 := k
      rw [k]
      exact Option.some.inj hc
  · have hc : (saL 0)[2]?.map (fun c => c.2.2.2.1 6) = some (some 8) := by decide +kernel
    cases e0 : (saL 0)[2]? with
    | none => rw [e0] at hc; cases hc
    | some c =>
      rw [e0] at hc
      have k := zR_at (h := h) e0
      rw [h0] at k
      have k : zR (zapp h (saL 0)) 2 = c.2.2.2.1 := k
      rw [k]
      exact Option.some.inj hc
set_option maxRecDepth 100000 in
theorem mk_X9 {G : zG} {d : Nat} (w : gW G) (hov : zOv G) (hns : zNs G) {h : zMem} (hx : zx h = 0) (h0 : zn h = 0) : zCon G mX9_init (d + 7) 131 2189 [.ref (zn h)] (zapp h [zC0 8 0 14]) (zPV fun h' => zW (zapp h (saL (zn h))) h' ∧ beginR (zI (zapp h (saL (zn h)))) (zI h') 48 103) := by
  have hn : zn h + 1 + 131 ≤ 1000000 := by omega
  refine zcon_intro (by decide +kernel) eX9_init (Nat.le_of_ble_eq_true rfl) (fun a ha => List.all_eq_true.mp (show ([.ref (zn h)] : List Value).all zcat1 = true from rfl) a ha) ?_
  show zGo G mX9_init (d + 7) (zn (zapp h [zC0 8 0 14]) + zx (zapp h [zC0 8 0 14]), zs (zapp h [zC0 8 0 14]), 131, 2189) 0 [.ref (zn h)] [] (zapp h [zC0 8 0 14]) _
  refine z_aload_n 0 rfl rfl ?_
  refine z_objInit 1 rfl ⟨ztb_t (zt1 _ (List.mem_of_getElem? (i := 28) rfl)) rfl, zoi⟩ (Nat.le_of_ble_eq_true rfl) (Nat.le_add_left _ _) ?_
  refine z_aload_n 2 rfl rfl ?_
  refine z_sipush (v := 700) 3 rfl (by decide) ?_
  refine z_newB 4 700 1 14 (by simp only [List.length_cons, List.length_append, List.length_nil, zmL_len, laL_len, noL_len, unL_len, stL_len, nuL_len, tdL_len, scL_len, reL_len]; try omega) (by simp only [List.map_cons, List.map_append, List.map_nil, List.sum_cons, List.sum_append, List.sum_nil, zmL_sum, zcR_s, zcI_s, zC0_s, laL_sum, noL_sum, unL_sum, stL_sum, nuL_sum, tdL_sum, scL_sum, reL_sum]; try omega) rfl (by decide) (by decide) hx (by omega) ⟨by show zn h + 1 + zx h + 1 ≤ zn h + 1 + zx h + 131; omega, by show zs h + 14 + 700 ≤ zs h + 14 + 2189; omega⟩ (by decide) ?_
  refine zgl (L' := (zC0 8 0 14) :: ((zC0 102 700 700) :: ([]))) (by simp only [List.cons_append, List.append_assoc, List.nil_append, List.append_nil]) ?_
  refine z_putA 5 rfl lX9_9 ⟨_, _, _, rfl, rfl, rfl⟩ rfl rfl rfl ?_
  refine z_aload_n 6 rfl rfl ?_
  refine z_make (N := 9) 7 2 714 (by simp only [List.length_cons, List.length_append, List.length_nil, zmL_len, laL_len, noL_len, unL_len, stL_len, nuL_len, tdL_len, scL_len, reL_len]; try omega) (by simp only [List.map_cons, List.map_append, List.map_nil, List.sum_cons, List.sum_append, List.sum_nil, zmL_sum, zcR_s, zcI_s, zC0_s, laL_sum, noL_sum, unL_sum, stL_sum, nuL_sum, tdL_sum, scL_sum, reL_sum]; try omega) rfl rfl rfl zc3 (by decide) ⟨ztb_t (zt1 _ (List.mem_of_getElem? (i := 31) rfl)) rfl, ztb_t (zt1 _ (List.mem_of_getElem? (i := 32) rfl)) rfl, ztb_t (zt1 _ (List.mem_of_getElem? (i := 2) rfl)) rfl⟩ fX3_init rfl rfl ⟨Or.inr ⟨"SmellAbbey", hns.1⟩, ztb_t (zt1 _ (List.mem_of_getElem? (i := 34) rfl)) rfl⟩ (Nat.le_of_ble_eq_true rfl) (by omega) hx (by omega) ⟨by show zn h + 2 + zx h + 35 ≤ zn h + 1 + zx h + 131; omega, by show zs h + 714 + 539 ≤ zs h + 14 + 2189; omega⟩ (mk_X3 (d := d + 0) w hov hns) ?_
  refine zgl (L' := (zcR (zC0 8 0 14) 0 (some (zn h + 1))) :: ((zC0 102 700 700) :: (reL (zn h + 2) ++ ([])))) (by simp only [List.cons_append, List.append_assoc, List.nil_append, List.append_nil]) ?_
  refine z_putA 10 rfl lX9_16 ⟨_, _, _, rfl, rfl, rfl⟩ rfl rfl rfl ?_
  refine z_aload_n 11 rfl rfl ?_
  refine z_make (N := 8) 12 37 1253 (by simp only [List.length_cons, List.length_append, List.length_nil, zmL_len, laL_len, noL_len, unL_len, stL_len, nuL_len, tdL_len, scL_len, reL_len]; try omega) (by simp only [List.map_cons, List.map_append, List.map_nil, List.sum_cons, List.sum_append, List.sum_nil, zmL_sum, zcR_s, zcI_s, zC0_s, laL_sum, noL_sum, unL_sum, stL_sum, nuL_sum, tdL_sum, scL_sum, reL_sum]; try omega) rfl rfl rfl zc1 (by decide) ⟨ztb_t (zt2 _ (List.mem_of_getElem? (i := 26) rfl)) rfl, ztb_t (zt2 _ (List.mem_of_getElem? (i := 27) rfl)) rfl, ztb_t (zt1 _ (List.mem_of_getElem? (i := 10) rfl)) rfl⟩ fX1_init rfl rfl ⟨Or.inr ⟨"SmellAbbey", hns.2.2.2.1⟩, ztb_t (zt2 _ (List.mem_of_getElem? (i := 29) rfl)) rfl⟩ (Nat.le_of_ble_eq_true rfl) (by omega) hx (by omega) ⟨by show zn h + 37 + zx h + 7 ≤ zn h + 1 + zx h + 131; omega, by show zs h + 1253 + 152 ≤ zs h + 14 + 2189; omega⟩ (mk_X1 (d := d + 5) hov hns) ?_
  refine zgl (L' := (zcR (zcR (zC0 8 0 14) 0 (some (zn h + 1))) 1 (some (zn h + 2))) :: ((zC0 102 700 700) :: (reL (zn h + 2) ++ (noL (zn h + 37) ++ ([]))))) (by simp only [List.cons_append, List.append_assoc, List.nil_append, List.append_nil]) ?_
  refine z_putA 15 rfl lX9_23 ⟨_, _, _, rfl, rfl, rfl⟩ rfl rfl rfl ?_
  refine z_aload_n 16 rfl rfl ?_
  refine z_make (N := 4) 17 44 1405 (by simp only [List.length_cons, List.length_append, List.length_nil, zmL_len, laL_len, noL_len, unL_len, stL_len, nuL_len, tdL_len, scL_len, reL_len]; try omega) (by simp only [List.map_cons, List.map_append, List.map_nil, List.sum_cons, List.sum_append, List.sum_nil, zmL_sum, zcR_s, zcI_s, zC0_s, laL_sum, noL_sum, unL_sum, stL_sum, nuL_sum, tdL_sum, scL_sum, reL_sum]; try omega) rfl rfl rfl zc7 (by decide) ⟨ztb_t (zt2 _ (List.mem_of_getElem? (i := 59) rfl)) rfl, ztb_t (zt2 _ (List.mem_of_getElem? (i := 60) rfl)) rfl, ztb_t (zt1 _ (List.mem_of_getElem? (i := 11) rfl)) rfl⟩ fX8_init rfl rfl ⟨Or.inr ⟨"SmellAbbey", hns.2.2.2.2.1⟩, ztb_t (zt2 _ (List.mem_of_getElem? (i := 62) rfl)) rfl⟩ (Nat.le_of_ble_eq_true rfl) (by omega) hx (by omega) ⟨by show zn h + 44 + zx h + 4 ≤ zn h + 1 + zx h + 131; omega, by show zs h + 1405 + 64 ≤ zs h + 14 + 2189; omega⟩ (mk_X8 (d := d + 5) hov hns) ?_
  refine zgl (L' := (zcR (zcR (zcR (zC0 8 0 14) 0 (some (zn h + 1))) 1 (some (zn h + 2))) 2 (some (zn h + 37))) :: ((zC0 102 700 700) :: (reL (zn h + 2) ++ (noL (zn h + 37) ++ (unL (zn h + 44) ++ ([])))))) (by simp only [List.cons_append, List.append_assoc, List.nil_append, List.append_nil]) ?_
  refine z_putA 20 rfl lX9_30 ⟨_, _, _, rfl, rfl, rfl⟩ rfl rfl rfl ?_
  refine z_aload_n 21 rfl rfl ?_
  refine z_make (N := 15) 22 48 1469 (by simp only [List.length_cons, List.length_append, List.length_nil, zmL_len, laL_len, noL_len, unL_len, stL_len, nuL_len, tdL_len, scL_len, reL_len]; try omega) (by simp only [List.map_cons, List.map_append, List.map_nil, List.sum_cons, List.sum_append, List.sum_nil, zmL_sum, zcR_s, zcI_s, zC0_s, laL_sum, noL_sum, unL_sum, stL_sum, nuL_sum, tdL_sum, scL_sum, reL_sum]; try omega) rfl rfl rfl zc5 (by decide) ⟨ztb_t (zt2 _ (List.mem_of_getElem? (i := 79) rfl)) rfl, ztb_t (zt2 _ (List.mem_of_getElem? (i := 80) rfl)) rfl, ztb_t (zt1 _ (List.mem_of_getElem? (i := 12) rfl)) rfl⟩ fX5_init rfl rfl ⟨Or.inr ⟨"SmellAbbey", hns.2.2.2.2.2.1⟩, ztb_t (zt2 _ (List.mem_of_getElem? (i := 82) rfl)) rfl⟩ (Nat.le_of_ble_eq_true rfl) (by omega) hx (by omega) ⟨by show zn h + 48 + zx h + 17 ≤ zn h + 1 + zx h + 131; omega, by show zs h + 1469 + 109 ≤ zs h + 14 + 2189; omega⟩ (mk_X5 (d := d + 5) hov hns) ?_
  refine zgl (L' := (zcR (zcR (zcR (zcR (zC0 8 0 14) 0 (some (zn h + 1))) 1 (some (zn h + 2))) 2 (some (zn h + 37))) 3 (some (zn h + 44))) :: ((zC0 102 700 700) :: (reL (zn h + 2) ++ (noL (zn h + 37) ++ (unL (zn h + 44) ++ (stL (zn h + 48) ++ ([]))))))) (by simp only [List.cons_append, List.append_assoc, List.nil_append, List.append_nil]) ?_
  refine z_putA 25 rfl lX9_37 ⟨_, _, _, rfl, rfl, rfl⟩ rfl rfl rfl ?_
  refine z_aload_n 26 rfl rfl ?_
  refine z_make (N := 15) 27 65 1578 (by simp only [List.length_cons, List.length_append, List.length_nil, zmL_len, laL_len, noL_len, unL_len, stL_len, nuL_len, tdL_len, scL_len, reL_len]; try omega) (by simp only [List.map_cons, List.map_append, List.map_nil, List.sum_cons, List.sum_append, List.sum_nil, zmL_sum, zcR_s, zcI_s, zC0_s, laL_sum, noL_sum, unL_sum, stL_sum, nuL_sum, tdL_sum, scL_sum, reL_sum]; try omega) rfl rfl rfl zc5 (by decide) ⟨ztb_t (zt2 _ (List.mem_of_getElem? (i := 79) rfl)) rfl, ztb_t (zt2 _ (List.mem_of_getElem? (i := 80) rfl)) rfl, ztb_t (zt1 _ (List.mem_of_getElem? (i := 12) rfl)) rfl⟩ fX5_init rfl rfl ⟨Or.inr ⟨"SmellAbbey", hns.2.2.2.2.2.1⟩, ztb_t (zt2 _ (List.mem_of_getElem? (i := 82) rfl)) rfl⟩ (Nat.le_of_ble_eq_true rfl) (by omega) hx (by omega) ⟨by show zn h + 65 + zx h + 17 ≤ zn h + 1 + zx h + 131; omega, by show zs h + 1578 + 109 ≤ zs h + 14 + 2189; omega⟩ (mk_X5 (d := d + 5) hov hns) ?_
  refine zgl (L' := (zcR (zcR (zcR (zcR (zcR (zC0 8 0 14) 0 (some (zn h + 1))) 1 (some (zn h + 2))) 2 (some (zn h + 37))) 3 (some (zn h + 44))) 4 (some (zn h + 48))) :: ((zC0 102 700 700) :: (reL (zn h + 2) ++ (noL (zn h + 37) ++ (unL (zn h + 44) ++ (stL (zn h + 48) ++ (stL (zn h + 65) ++ ([])))))))) (by simp only [List.cons_append, List.append_assoc, List.nil_append, List.append_nil]) ?_
  refine z_putA 30 rfl lX9_41 ⟨_, _, _, rfl, rfl, rfl⟩ rfl rfl rfl ?_
  refine z_aload_n 31 rfl rfl ?_
  refine z_make (N := 15) 32 82 1687 (by simp only [List.length_cons, List.length_append, List.length_nil, zmL_len, laL_len, noL_len, unL_len, stL_len, nuL_len, tdL_len, scL_len, reL_len]; try omega) (by simp only [List.map_cons, List.map_append, List.map_nil, List.sum_cons, List.sum_append, List.sum_nil, zmL_sum, zcR_s, zcI_s, zC0_s, laL_sum, noL_sum, unL_sum, stL_sum, nuL_sum, tdL_sum, scL_sum, reL_sum]; try omega) rfl rfl rfl zc5 (by decide) ⟨ztb_t (zt2 _ (List.mem_of_getElem? (i := 79) rfl)) rfl, ztb_t (zt2 _ (List.mem_of_getElem? (i := 80) rfl)) rfl, ztb_t (zt1 _ (List.mem_of_getElem? (i := 12) rfl)) rfl⟩ fX5_init rfl rfl ⟨Or.inr ⟨"SmellAbbey", hns.2.2.2.2.2.1⟩, ztb_t (zt2 _ (List.mem_of_getElem? (i := 82) rfl)) rfl⟩ (Nat.le_of_ble_eq_true rfl) (by omega) hx (by omega) ⟨by show zn h + 82 + zx h + 17 ≤ zn h + 1 + zx h + 131; omega, by show zs h + 1687 + 109 ≤ zs h + 14 + 2189; omega⟩ (mk_X5 (d := d + 5) hov hns) ?_
  refine zgl (L' := (zcR (zcR (zcR (zcR (zcR (zcR (zC0 8 0 14) 0 (some (zn h + 1))) 1 (some (zn h + 2))) 2 (some (zn h + 37))) 3 (some (zn h + 44))) 4 (some (zn h + 48))) 5 (some (zn h + 65))) :: ((zC0 102 700 700) :: (reL (zn h + 2) ++ (noL (zn h + 37) ++ (unL (zn h + 44) ++ (stL (zn h + 48) ++ (stL (zn h + 65) ++ (stL (zn h + 82) ++ ([]))))))))) (by simp only [List.cons_append, List.append_assoc, List.nil_append, List.append_nil]) ?_
  refine z_putA 35 rfl lX9_44 ⟨_, _, _, rfl, rfl, rfl⟩ rfl rfl rfl ?_
  refine z_aload_n 36 rfl rfl ?_
  refine z_make (N := 1) 37 99 1796 (by simp only [List.length_cons, List.length_append, List.length_nil, zmL_len, laL_len, noL_len, unL_len, stL_len, nuL_len, tdL_len, scL_len, reL_len]; try omega) (by simp only [List.map_cons, List.map_append, List.map_nil, List.sum_cons, List.sum_append, List.sum_nil, zmL_sum, zcR_s, zcI_s, zC0_s, laL_sum, noL_sum, unL_sum, stL_sum, nuL_sum, tdL_sum, scL_sum, reL_sum]; try omega) rfl rfl rfl zc2 (by decide) ⟨ztb_t (zt2 _ (List.mem_of_getElem? (i := 149) rfl)) rfl, ztb_t (zt2 _ (List.mem_of_getElem? (i := 150) rfl)) rfl, ztb_t (zt1 _ (List.mem_of_getElem? (i := 13) rfl)) rfl⟩ fX2_init rfl rfl ⟨Or.inr ⟨"SmellAbbey", hns.2.2.2.2.2.2.1⟩, ztb_t (zt2 _ (List.mem_of_getElem? (i := 152) rfl)) rfl⟩ (Nat.le_of_ble_eq_true rfl) (by omega) hx (by omega) ⟨by show zn h + 99 + zx h + 1 ≤ zn h + 1 + zx h + 131; omega, by show zs h + 1796 + 1 ≤ zs h + 14 + 2189; omega⟩ (mk_X2 (d := d + 5) hov hns) ?_
  refine zgl (L' := (zcR (zcR (zcR (zcR (zcR (zcR (zcR (zC0 8 0 14) 0 (some (zn h + 1))) 1 (some (zn h + 2))) 2 (some (zn h + 37))) 3 (some (zn h + 44))) 4 (some (zn h + 48))) 5 (some (zn h + 65))) 6 (some (zn h + 82))) :: ((zC0 102 700 700) :: (reL (zn h + 2) ++ (noL (zn h + 37) ++ (unL (zn h + 44) ++ (stL (zn h + 48) ++ (stL (zn h + 65) ++ (stL (zn h + 82) ++ (nuL (zn h + 99) ++ ([])))))))))) (by simp only [List.cons_append, List.append_assoc, List.nil_append, List.append_nil]) ?_
  refine z_putA 40 rfl lX9_50 ⟨_, _, _, rfl, rfl, rfl⟩ rfl rfl rfl ?_
  refine z_aload_n 41 rfl rfl ?_
  refine z_bipush (v := 36) 42 rfl (by decide) ?_
  refine z_newI 43 36 100 1797 (by simp only [List.length_cons, List.length_append, List.length_nil, zmL_len, laL_len, noL_len, unL_len, stL_len, nuL_len, tdL_len, scL_len, reL_len]; try omega) (by simp only [List.map_cons, List.map_append, List.map_nil, List.sum_cons, List.sum_append, List.sum_nil, zmL_sum, zcR_s, zcI_s, zC0_s, laL_sum, noL_sum, unL_sum, stL_sum, nuL_sum, tdL_sum, scL_sum, reL_sum]; try omega) rfl (by decide) (by decide) hx (by omega) ⟨by show zn h + 100 + zx h + 1 ≤ zn h + 1 + zx h + 131; omega, by show zs h + 1797 + 36 ≤ zs h + 14 + 2189; omega⟩ (by decide) ?_
  refine zgl (L' := (zcR (zcR (zcR (zcR (zcR (zcR (zcR (zcR (zC0 8 0 14) 0 (some (zn h + 1))) 1 (some (zn h + 2))) 2 (some (zn h + 37))) 3 (some (zn h + 44))) 4 (some (zn h + 48))) 5 (some (zn h + 65))) 6 (some (zn h + 82))) 7 (some (zn h + 99))) :: ((zC0 102 700 700) :: (reL (zn h + 2) ++ (noL (zn h + 37) ++ (unL (zn h + 44) ++ (stL (zn h + 48) ++ (stL (zn h + 65) ++ (stL (zn h + 82) ++ (nuL (zn h + 99) ++ ((zC0 100 36 36) :: ([]))))))))))) (by simp only [List.cons_append, List.append_assoc, List.nil_append, List.append_nil]) ?_
  refine z_putA 44 rfl lX9_54 ⟨_, _, _, rfl, rfl, rfl⟩ rfl rfl rfl ?_
  refine z_aload_n 45 rfl rfl ?_
  refine z_bipush (v := 6) 46 rfl (by decide) ?_
  refine z_newI 47 6 101 1833 (by simp only [List.length_cons, List.length_append, List.length_nil, zmL_len, laL_len, noL_len, unL_len, stL_len, nuL_len, tdL_len, scL_len, reL_len]; try omega) (by simp only [List.map_cons, List.map_append, List.map_nil, List.sum_cons, List.sum_append, List.sum_nil, zmL_sum, zcR_s, zcI_s, zC0_s, laL_sum, noL_sum, unL_sum, stL_sum, nuL_sum, tdL_sum, scL_sum, reL_sum]; try omega) rfl (by decide) (by decide) hx (by omega) ⟨by show zn h + 101 + zx h + 1 ≤ zn h + 1 + zx h + 131; omega, by show zs h + 1833 + 6 ≤ zs h + 14 + 2189; omega⟩ (by decide) ?_
  refine zgl (L' := (zcR (zcR (zcR (zcR (zcR (zcR (zcR (zcR (zcR (zC0 8 0 14) 0 (some (zn h + 1))) 1 (some (zn h + 2))) 2 (some (zn h + 37))) 3 (some (zn h + 44))) 4 (some (zn h + 48))) 5 (some (zn h + 65))) 6 (some (zn h + 82))) 7 (some (zn h + 99))) 8 (some (zn h + 100))) :: ((zC0 102 700 700) :: (reL (zn h + 2) ++ (noL (zn h + 37) ++ (unL (zn h + 44) ++ (stL (zn h + 48) ++ (stL (zn h + 65) ++ (stL (zn h + 82) ++ (nuL (zn h + 99) ++ ((zC0 100 36 36) :: ((zC0 100 6 6) :: ([])))))))))))) (by simp only [List.cons_append, List.append_assoc, List.nil_append, List.append_nil]) ?_
  refine z_putA 48 rfl lX9_58 ⟨_, _, _, rfl, rfl, rfl⟩ rfl rfl rfl ?_
  refine z_aload_n 49 rfl rfl ?_
  refine z_bipush (v := 8) 50 rfl (by decide) ?_
  refine z_newI 51 8 102 1839 (by simp only [List.length_cons, List.length_append, List.length_nil, zmL_len, laL_len, noL_len, unL_len, stL_len, nuL_len, tdL_len, scL_len, reL_len]; try omega) (by simp only [List.map_cons, List.map_append, List.map_nil, List.sum_cons, List.sum_append, List.sum_nil, zmL_sum, zcR_s, zcI_s, zC0_s, laL_sum, noL_sum, unL_sum, stL_sum, nuL_sum, tdL_sum, scL_sum, reL_sum]; try omega) rfl (by decide) (by decide) hx (by omega) ⟨by show zn h + 102 + zx h + 1 ≤ zn h + 1 + zx h + 131; omega, by show zs h + 1839 + 8 ≤ zs h + 14 + 2189; omega⟩ (by decide) ?_
  refine zgl (L' := (zcR (zcR (zcR (zcR (zcR (zcR (zcR (zcR (zcR (zcR (zC0 8 0 14) 0 (some (zn h + 1))) 1 (some (zn h + 2))) 2 (some (zn h + 37))) 3 (some (zn h + 44))) 4 (some (zn h + 48))) 5 (some (zn h + 65))) 6 (some (zn h + 82))) 7 (some (zn h + 99))) 8 (some (zn h + 100))) 9 (some (zn h + 101))) :: ((zC0 102 700 700) :: (reL (zn h + 2) ++ (noL (zn h + 37) ++ (unL (zn h + 44) ++ (stL (zn h + 48) ++ (stL (zn h + 65) ++ (stL (zn h + 82) ++ (nuL (zn h + 99) ++ ((zC0 100 36 36) :: ((zC0 100 6 6) :: ((zC0 100 8 8) :: ([]))))))))))))) (by simp only [List.cons_append, List.append_assoc, List.nil_append, List.append_nil]) ?_
  refine z_putA 52 rfl lX9_61 ⟨_, _, _, rfl, rfl, rfl⟩ rfl rfl rfl ?_
  refine z_aload_n 53 rfl rfl ?_
  refine z_make (N := 13) 54 103 1847 (by simp only [List.length_cons, List.length_append, List.length_nil, zmL_len, laL_len, noL_len, unL_len, stL_len, nuL_len, tdL_len, scL_len, reL_len]; try omega) (by simp only [List.map_cons, List.map_append, List.map_nil, List.sum_cons, List.sum_append, List.sum_nil, zmL_sum, zcR_s, zcI_s, zC0_s, laL_sum, noL_sum, unL_sum, stL_sum, nuL_sum, tdL_sum, scL_sum, reL_sum]; try omega) rfl rfl rfl zc6 (by decide) ⟨ztb_t (zt2 _ (List.mem_of_getElem? (i := 159) rfl)) rfl, ztb_t (zt1 _ (List.mem_of_getElem? (i := 124) rfl)) rfl, ztb_t (zt1 _ (List.mem_of_getElem? (i := 8) rfl)) rfl⟩ fX7_init rfl rfl ⟨Or.inr ⟨"SmellAbbey", hns.2.2.2.2.2.2.2⟩, ztb_t (zt1 _ (List.mem_of_getElem? (i := 126) rfl)) rfl⟩ (Nat.le_of_ble_eq_true rfl) (by omega) hx (by omega) ⟨by show zn h + 103 + zx h + 29 ≤ zn h + 1 + zx h + 131; omega, by show zs h + 1847 + 356 ≤ zs h + 14 + 2189; omega⟩ (mk_X7 (d := d + 4) hov hns) ?_
  refine zgl (L' := (zcR (zcR (zcR (zcR (zcR (zcR (zcR (zcR (zcR (zcR (zcR (zC0 8 0 14) 0 (some (zn h + 1))) 1 (some (zn h + 2))) 2 (some (zn h + 37))) 3 (some (zn h + 44))) 4 (some (zn h + 48))) 5 (some (zn h + 65))) 6 (some (zn h + 82))) 7 (some (zn h + 99))) 8 (some (zn h + 100))) 9 (some (zn h + 101))) 10 (some (zn h + 102))) :: ((zC0 102 700 700) :: (reL (zn h + 2) ++ (noL (zn h + 37) ++ (unL (zn h + 44) ++ (stL (zn h + 48) ++ (stL (zn h + 65) ++ (stL (zn h + 82) ++ (nuL (zn h + 99) ++ ((zC0 100 36 36) :: ((zC0 100 6 6) :: ((zC0 100 8 8) :: (tdL (zn h + 103) ++ ([])))))))))))))) (by simp only [List.cons_append, List.append_assoc, List.nil_append, List.append_nil]) ?_
  refine z_putR0 57 rfl lX9_67 ⟨_, _, _, rfl, rfl⟩ rfl rfl ?_
  refine zgl (L' := saL (zn h)) rfl ?_
  have S := saL_sh h0
  obtain ⟨hm, ehm⟩ : ∃ hm, hm = zapp h (saL (zn h)) := ⟨_, rfl⟩
  have cz : zn hm + zx hm = zn h + 132 + zx h ∧ zs hm = zs h + 2203 := by rw [ehm]; exact ⟨by rw [zn_app, zx_app, saL_len], by rw [zs_app, saL_sum]⟩
  rw [← ehm] at S ⊢
  rw [h0]
  refine z_aload_n 58 rfl rfl ?_
  refine z_getR 59 rfl lX9_37 rfl (S.1.o 0 8 rfl rfl rfl) (S.1.r 0 4 48 rfl rfl rfl) ?_
  refine z_aload_n 60 rfl rfl ?_
  refine z_getR 61 rfl lX9_67 rfl (S.1.o 0 8 rfl rfl rfl) S.2.2.1 ?_
  refine z_callV 62 1 [.ref 103] (d' := d + 1) (bc := 0) (bs := 0) rfl fX5_begin gX9_71 (S.1.o 48 5 rfl rfl rfl) ⟨_, rfl, rfl⟩ (by decide) rfl (Nat.le_of_ble_eq_true rfl) (by omega) ⟨?_, ?_⟩ (X5_begin_ok S (Or.inl rfl) (Or.inr rfl)) (fun r h' q c1 c2 => ?_)
  · rw [cz.1]; show zn h + 132 + zx h + 0 ≤ zn h + 1 + zx h + 131; omega
  · rw [cz.2]; show zs h + 2203 + 0 ≤ zs h + 14 + 2189; omega
  · obtain ⟨rfl, q⟩ := q
    refine z_vret 63 rfl rfl ⟨?_, ?_⟩ ⟨rfl, q⟩
    · rw [c1, cz.1]; show zn h + 132 + zx h + 0 = zn h + 1 + zx h + 131; omega
    · rw [c2, cz.2]; show zs h + 2203 + 0 = zs h + 14 + 2189; omega
