section ZB4
variable {G : zG} {μ : zM} {d : Nat} {b : zB} {pc : Nat} {lv st : List Value} {h : zMem} {P : Option Value → zMem → Prop}
theorem z_put (i : Nat) {index ci j a : Nat} {v : Value} {h' : zMem} (hi : μ.2.2.2.2[i]? = some (pc, .putfield index, 3)) (hf : zFL μ.1.cls index ci j) (hnf : zNF ci j) (ho : zO h a ci) (hn : narrow (zty ci j) (zrv G v) = zrv G v) (hfit : fits (zty ci j) (zrv G v) = true) (hn' : zn h' = zn h) (hx' : zx h' = zx h) (hs' : zs h' = zs h) (hK' : zK h' = zK h) (hv : zfv G h' a ci j = zrv G v) (hoj : ∀ i, i ≠ j → zfv G h' a ci i = zfv G h a ci i) (hok : ∀ k, k ≠ a → zcell G h' k = zcell G h k) (k : zGo G μ d b (pc + 3) lv st h' P) : zGo G μ d b pc lv (v :: .ref a :: st) h P := by
  intro p l e R s m args below meth c C H locs ls hR hl h1 h2
  obtain ⟨Cn, T, N, hC, hj, hlk⟩ := hf
  obtain ⟨_, _, _, hq, hfin⟩ := hnf
  cases hq.symm.trans hC.1
  have hsz : ∀ H1 : Heap, H1.size = H1.size := fun _ => rfl
  refine W.eq (g2 := F0 m pc ls (zrv G v :: .ref (zad G a) :: st.map (zrv G))) rfl ?_
  have hC2 := C.2.2.2.2.2.2.2.1.1
  obtain ⟨hap⟩ : True := trivial
  have hap := va_apart (own := μ.1.cls) C.2.2.2.2.2.2.1 hC.2.1 (zty ci) hC.2.2.1 hC.2.2.2.1 hC2 hC.1
  have he : (zw G h)[a]? = some (zad G a, .inr (ci, zfs G h a ci)) := by rw [zw_at ho.1, zcell_o ho.2 hC.2.2.2.2]
  obtain ⟨r, g1, cell, q1, q2, q3, q4⟩ := hR.1 a _ he
  have hr : r = (Cn, T, N) := Option.some.inj (g1.symm.trans hC.1)
  subst hr
  obtain ⟨hS, hfc, kC, hkC, hkind⟩ := hC2.1 ci _ hC.1
  obtain ⟨cf, kf, fi, f, hif, hsl⟩ := hS j hj
  have hlay := C.2.2.2.2.2.2.1 _ (hC.2.1 _ (u_in_lay hj))
  unfold u_lay at hlay
  rw [if_neg (by rw [hfin]; decide)] at hlay
  have hst := (u_facts hfc hkC (u_lays C.2.2.2.2.2.2.1 hC.2.1 hj) hif).1
  have h6 := u_store hfc hkC hkind hlay hif (hC.2.2.1 j hj) hn hfit
  have hD := zw_D (G := G) (h := h) hR.2.2.2
  refine W.putK C.1 C.2.1 (f := f) ⟨C.2.2.2.2.2.1, C.2.2.2.2.2.2.1 _ hlk, ⟨_, _, _, hif⟩, hst⟩ (by rw [q2]; exact h6) q1 q3 (by rw [hsl]; exact k2_hasslot (q4 j hj)) rfl rfl (zdg C hi) fun H' e1 e2 e3 => ?_
  rw [hsl] at e1 ⊢
  have hl2 : j < (zfs G h a ci).length := by rw [zfs_len, hC.n]; exact hj
  have hP1 : va_P (gD G) zcl ((zw G h).set a (zad G a, .inr (ci, (zfs G h a ci).set j (zrv G v)))) H' := hR.1.set hD he ⟨_, hC.1, t_OB.to (V := updV (vp_V (zfs G h a ci)) j (zrv G v)) ⟨_, e1, q2, q3, t_set q4 hap hj (zrv G v)⟩ (fun j' _ => vp_updV_set hl2 (zrv G v) j')⟩ e3
  have hR' : zRep G h' H' (locs ++ [⟨zad G a, gD G |>.2 ci j⟩]) := by
    refine hR.set ho.1 hn' hx' ?_ hok e2 hP1 (hR.2.1.put e2 e3 (hD.2 a _ he))
    rw [zcell_o (by rw [hK']; exact ho.2) hC.2.2.2.2, zfs_set (by rw [hC.n]; exact hj) hv hoj]
  have := k p l e R s m args below meth c C H' _ ls hR' hl (by omega) (by omega)
  rw [hn', hx', hs'] at this
  exact this
theorem z_putI (i : Nat) {index ci j a : Nat} {x : Int32} (hi : μ.2.2.2.2[i]? = some (pc, .putfield index, 3)) (hf : zFL μ.1.cls index ci j) (hnf : zNF ci j) (ht : zint (zty ci j) = true) (hn : narrow (zty ci j) (.int x) = .int x) (hfit : fits (zty ci j) (.int x) = true) (ho : zO h a ci) (k : zGo G μ d b (pc + 3) lv st (zsI h a j x) P) : zGo G μ d b pc lv (.int x :: .ref a :: st) h P := by
  refine z_put i hi hf hnf ho hn hfit (zn_sI ..) (zx_sI ..) (zs_sI ..) (zK_sI ..) (by rw [zfv_int ht, zI_sI, zup_s]; rfl) (fun j' hj' => ?_) (fun k' hk' => zcell_sI_ne hk') k
  simp only [zfv, zL_sI, zR_sI, zI_sI, zup_i _ _ _ hj']
theorem z_putL (i : Nat) {index ci j a : Nat} {x : Int64} (hi : μ.2.2.2.2[i]? = some (pc, .putfield index, 3)) (hf : zFL μ.1.cls index ci j) (hnf : zNF ci j) (ht : zty ci j = .long) (ho : zO h a ci) (k : zGo G μ d b (pc + 3) lv st (zsL h a j x) P) : zGo G μ d b pc lv (.long x :: .ref a :: st) h P := by
  refine z_put i hi hf hnf ho (by rw [ht]; rfl) (by rw [ht]; rfl) (zn_sL ..) (zx_sL ..) (zs_sL ..) (zK_sL ..) (by rw [zfv_long ht, zL_sL, zup_s]; rfl) (fun j' hj' => ?_) (fun k' hk' => zcell_sL_ne hk') k
  simp only [zfv, zI_sL, zR_sL, zL_sL, zup_i _ _ _ hj']
theorem z_putR (i : Nat) {index ci j a r : Nat} (hi : μ.2.2.2.2[i]? = some (pc, .putfield index, 3)) (hf : zFL μ.1.cls index ci j) (hnf : zNF ci j) (ht : zrefT (zty ci j) = true) (ho : zO h a ci) (k : zGo G μ d b (pc + 3) lv st (zsR h a j (some r)) P) : zGo G μ d b pc lv (.ref r :: .ref a :: st) h P := by
  refine z_put i hi hf hnf ho (by revert ht; cases zty ci j <;> simp [zrefT] <;> rfl) (by revert ht; cases zty ci j <;> simp [zrefT] <;> rfl) (zn_sR ..) (zx_sR ..) (zs_sR ..) (zK_sR ..) (by rw [zfv_ref ht, zR_sR, zup_s]; rfl) (fun j' hj' => ?_) (fun k' hk' => zcell_sR_ne hk') k
  simp only [zfv, zI_sR, zL_sR, zR_sR, zup_i _ _ _ hj']
-- arrays: reads
theorem z_iald (i : Nat) {a : Nat} {x : Int32} (hi : μ.2.2.2.2[i]? = some (pc, .iaload, 1)) (ho : zO h a 100) (hx : vp_in x (zLen h a)) (k : zGo G μ d b (pc + 1) lv (.int (zI h a x.toNatClampNeg) :: st) h P) : zGo G μ d b pc lv (.int x :: .ref a :: st) h P := by
  intro p l e R s m args below meth c C H locs ls hR hl h1 h2
  exact va_iald C.1 C.2.1 C.2.2.2.2.2.2.2.1.1 hR.1 a 0 (by rw [zw_at ho.1, zcell_i ho.2]) rfl hx (zdg C hi) (k p l e R s m args below meth c C H locs ls hR hl h1 h2)
theorem z_bald (i : Nat) {a : Nat} {x : Int32} (hi : μ.2.2.2.2[i]? = some (pc, .baload, 1)) (ho : zO h a 102) (hx : vp_in x (zLen h a)) (k : zGo G μ d b (pc + 1) lv (.int (zI h a x.toNatClampNeg) :: st) h P) : zGo G μ d b pc lv (.int x :: .ref a :: st) h P := by
  intro p l e R s m args below meth c C H locs ls hR hl h1 h2
  exact va_bald C.1 C.2.1 C.2.2.2.2.2.2.2.1.1 hR.1 a 2 (by rw [zw_at ho.1, zcell_b ho.2]) rfl hx (zdg C hi) (k p l e R s m args below meth c C H locs ls hR hl h1 h2)
theorem z_zald (i : Nat) {a : Nat} {x : Int32} (hi : μ.2.2.2.2[i]? = some (pc, .baload, 1)) (ho : zO h a 103) (hx : vp_in x (zLen h a)) (k : zGo G μ d b (pc + 1) lv (.int (zI h a x.toNatClampNeg) :: st) h P) : zGo G μ d b pc lv (.int x :: .ref a :: st) h P := by
  intro p l e R s m args below meth c C H locs ls hR hl h1 h2
  exact va_zald C.1 C.2.1 C.2.2.2.2.2.2.2.1.1 hR.1 a 3 (by rw [zw_at ho.1, zcell_z ho.2]) rfl hx (zdg C hi) (k p l e R s m args below meth c C H locs ls hR hl h1 h2)
theorem z_lald (i : Nat) {a : Nat} {x : Int32} (hi : μ.2.2.2.2[i]? = some (pc, .laload, 1)) (ho : zO h a 101) (hx : vp_in x (zLen h a)) (k : zGo G μ d b (pc + 1) lv (.long (zL h a x.toNatClampNeg) :: st) h P) : zGo G μ d b pc lv (.int x :: .ref a :: st) h P := by
  intro p l e R s m args below meth c C H locs ls hR hl h1 h2
  exact va_lald C.1 C.2.1 C.2.2.2.2.2.2.2.1.1 hR.1 a 1 (by rw [zw_at ho.1, zcell_l ho.2]) rfl hx (zdg C hi) (k p l e R s m args below meth c C H locs ls hR hl h1 h2)
theorem z_aald (i : Nat) {a r : Nat} {x : Int32} (hi : μ.2.2.2.2[i]? = some (pc, .aaload, 1)) (ho : zO h a 104) (hx : vp_in x (zLen h a)) (hr : zR h a x.toNatClampNeg = some r) (k : zGo G μ d b (pc + 1) lv (.ref r :: st) h P) : zGo G μ d b pc lv (.int x :: .ref a :: st) h P := by
  intro p l e R s m args below meth c C H locs ls hR hl h1 h2
  have hc := hR.1 a _ (zw_at ho.1)
  rw [zcell_q ho.2] at hc
  have hc : H[zad G a]? = some (arrV (gA G 4) (zLen h a) (fun j => va_rf ((zR h a j).map (zad G)))) := hc
  have hlt : x.toNatClampNeg < zLen h a := Nat.not_le.mp fun q => hx (Or.inr q)
  exact W.aald (v := .ref (zad G r)) (ty := .array .int) C.1 C.2.1 hc ((C.2.2.2.2.2.2.2.1.1.2 4 _ rfl).1 _ _) rfl (fun q => by cases q) (by rw [arrV_size]; exact hx) (by rw [arrV_read _ _ hlt, hr]; rfl) rfl rfl (zdg C hi) (k p l e R s m args below meth c C H locs ls hR hl h1 h2)
theorem z_alen (i : Nat) {a ka : Nat} (hi : μ.2.2.2.2[i]? = some (pc, .arraylength, 1)) (ho : zO h a ka) (hk : ka = 100 ∨ ka = 101 ∨ ka = 102 ∨ ka = 103 ∨ ka = 104) (k : zGo G μ d b (pc + 1) lv (.int (nI (zLen h a)) :: st) h P) : zGo G μ d b pc lv (.ref a :: st) h P := by
  intro p l e R s m args below meth c C H locs ls hR hl h1 h2
  rcases hk with rfl | rfl | rfl | rfl | rfl
  · exact va_alen (x := (zLen h a, .inl (zI h a))) C.1 C.2.1 C.2.2.2.2.2.2.2.1.1 hR.1 a 0 (by rw [zw_at ho.1, zcell_i ho.2]) rfl rfl (zdg C hi) (k p l e R s m args below meth c C H locs ls hR hl h1 h2)
  · exact va_alen (x := (zLen h a, .inr (.inl (zL h a)))) C.1 C.2.1 C.2.2.2.2.2.2.2.1.1 hR.1 a 1 (by rw [zw_at ho.1, zcell_l ho.2]) rfl rfl (zdg C hi) (k p l e R s m args below meth c C H locs ls hR hl h1 h2)
  · exact va_alen (x := (zLen h a, .inl (zI h a))) C.1 C.2.1 C.2.2.2.2.2.2.2.1.1 hR.1 a 2 (by rw [zw_at ho.1, zcell_b ho.2]) rfl rfl (zdg C hi) (k p l e R s m args below meth c C H locs ls hR hl h1 h2)
  · exact va_alen (x := (zLen h a, .inl (zI h a))) C.1 C.2.1 C.2.2.2.2.2.2.2.1.1 hR.1 a 3 (by rw [zw_at ho.1, zcell_z ho.2]) rfl rfl (zdg C hi) (k p l e R s m args below meth c C H locs ls hR hl h1 h2)
  · exact va_alen (x := (zLen h a, .inr (.inr (.inr (.inr (fun j => (zR h a j).map (zad G))))))) C.1 C.2.1 C.2.2.2.2.2.2.2.1.1 hR.1 a 4 (by rw [zw_at ho.1, zcell_q ho.2]) rfl rfl (zdg C hi) (k p l e R s m args below meth c C H locs ls hR hl h1 h2)
end ZB4
theorem zup_upd (f : Nat → Nat → Int32) (a i : Nat) (v : Int32) : zup f a i v a = upd (f a) i v := funext fun j => by simp [zup, upd]
theorem zup_updL (f : Nat → Nat → Int64) (a i : Nat) (v : Int64) : zup f a i v a = vp_updL (f a) i v := funext fun j => by simp [zup, vp_updL]
section ZB5
variable {G : zG} {μ : zM} {d : Nat} {b : zB} {pc : Nat} {lv st : List Value} {h : zMem} {P : Option Value → zMem → Prop}
theorem z_iast (i : Nat) {a : Nat} {x : Int32} {v : Int32} (hi : μ.2.2.2.2[i]? = some (pc, .iastore, 1)) (ho : zO h a 100) (hx : vp_in x (zLen h a)) (k : zGo G μ d b (pc + 1) lv st (zsI h a x.toNatClampNeg v) P) : zGo G μ d b pc lv (.int v :: .int x :: .ref a :: st) h P := by
  intro p l e R s m args below meth c C H locs ls hR hl h1 h2
  have he : (zw G h)[a]? = some (zad G a, .inl (gA G 0, zLen h a, .inl (zI h a))) := by rw [zw_at ho.1, zcell_i ho.2]
  have hD := zw_D (G := G) (h := h) hR.2.2.2
  refine W.iast C.1 C.2.1 (hR.1 a _ he) ((C.2.2.2.2.2.2.2.1.1.2 0 _ rfl).1 (zLen h a) (fun j => .int (zI h a j))) (fun q => by cases q) (by show ¬ (x < 0 ∨ (arrV _ _ _).slots.size ≤ _); rw [arrV_size]; exact hx) rfl rfl (zdg C hi) fun H1 e1 z oq => ?_
  have hP1 := hR.1.set hD he (e := zcell G (zsI h a x.toNatClampNeg v) a) (by
    rw [zcell_i (by exact ho.2)]
    show H1[zad G a]? = some (vp_cell _ _)
    rw [e1]
    dsimp only
    rw [vp_cell_i, vp_cell_i, arrV_store]
    congr 2
    funext q
    by_cases hq : q = x.toNatClampNeg
    · subst hq
      simp [updV, zI_sI, zup]
      try rfl
    · simp [updV, zI_sI, zup, hq]) oq
  exact k p l e R s m args below meth c C H1 _ ls (hR.set ho.1 rfl rfl rfl (fun j hj => zcell_sI_ne hj) z hP1 (hR.2.1.put z oq (hD.2 a _ he))) hl h1 h2
theorem z_bast (i : Nat) {a : Nat} {x : Int32} {v : Int32} (hi : μ.2.2.2.2[i]? = some (pc, .bastore, 1)) (ho : zO h a 102) (hx : vp_in x (zLen h a)) (k : zGo G μ d b (pc + 1) lv st (zsI h a x.toNatClampNeg (vp_nar .byte v)) P) : zGo G μ d b pc lv (.int v :: .int x :: .ref a :: st) h P := by
  intro p l e R s m args below meth c C H locs ls hR hl h1 h2
  have he : (zw G h)[a]? = some (zad G a, .inl (gA G 2, zLen h a, .inl (zI h a))) := by rw [zw_at ho.1, zcell_b ho.2]
  have hD := zw_D (G := G) (h := h) hR.2.2.2
  refine W.bast C.1 C.2.1 (hR.1 a _ he) ((C.2.2.2.2.2.2.2.1.1.2 2 _ rfl).1 (zLen h a) (fun j => .int (zI h a j))) (fun q => by cases q) (by show ¬ (x < 0 ∨ (arrV _ _ _).slots.size ≤ _); rw [arrV_size]; exact hx) rfl rfl (zdg C hi) fun H1 e1 z oq => ?_
  have hP1 := hR.1.set hD he (e := zcell G (zsI h a x.toNatClampNeg (vp_nar .byte v)) a) (by
    rw [zcell_b (by exact ho.2)]
    show H1[zad G a]? = some (vp_cell _ _)
    rw [e1]
    dsimp only
    rw [vp_cell_i, vp_cell_i, arrV_store]
    congr 2
    funext q
    by_cases hq : q = x.toNatClampNeg
    · subst hq
      simp [updV, zI_sI, zup, vp_nar]
      try rfl
    · simp [updV, zI_sI, zup, hq]) oq
  exact k p l e R s m args below meth c C H1 _ ls (hR.set ho.1 rfl rfl rfl (fun j hj => zcell_sI_ne hj) z hP1 (hR.2.1.put z oq (hD.2 a _ he))) hl h1 h2
theorem z_zast (i : Nat) {a : Nat} {x : Int32} {v : Int32} (hi : μ.2.2.2.2[i]? = some (pc, .bastore, 1)) (ho : zO h a 103) (hx : vp_in x (zLen h a)) (k : zGo G μ d b (pc + 1) lv st (zsI h a x.toNatClampNeg (vp_nar .boolean v)) P) : zGo G μ d b pc lv (.int v :: .int x :: .ref a :: st) h P := by
  intro p l e R s m args below meth c C H locs ls hR hl h1 h2
  have he : (zw G h)[a]? = some (zad G a, .inl (gA G 3, zLen h a, .inl (zI h a))) := by rw [zw_at ho.1, zcell_z ho.2]
  have hD := zw_D (G := G) (h := h) hR.2.2.2
  refine W.zast C.1 C.2.1 (hR.1 a _ he) ((C.2.2.2.2.2.2.2.1.1.2 3 _ rfl).1 (zLen h a) (fun j => .int (zI h a j))) (fun q => by cases q) (by show ¬ (x < 0 ∨ (arrV _ _ _).slots.size ≤ _); rw [arrV_size]; exact hx) rfl rfl (zdg C hi) fun H1 e1 z oq => ?_
  have hP1 := hR.1.set hD he (e := zcell G (zsI h a x.toNatClampNeg (vp_nar .boolean v)) a) (by
    rw [zcell_z (by exact ho.2)]
    show H1[zad G a]? = some (vp_cell _ _)
    rw [e1]
    dsimp only
    rw [vp_cell_i, vp_cell_i, arrV_store]
    congr 2
    funext q
    by_cases hq : q = x.toNatClampNeg
    · subst hq
      simp [updV, zI_sI, zup, vp_nar]
      try rfl
    · simp [updV, zI_sI, zup, hq]) oq
  exact k p l e R s m args below meth c C H1 _ ls (hR.set ho.1 rfl rfl rfl (fun j hj => zcell_sI_ne hj) z hP1 (hR.2.1.put z oq (hD.2 a _ he))) hl h1 h2
theorem z_last (i : Nat) {a : Nat} {x : Int32} {v : Int64} (hi : μ.2.2.2.2[i]? = some (pc, .lastore, 1)) (ho : zO h a 101) (hx : vp_in x (zLen h a)) (k : zGo G μ d b (pc + 1) lv st (zsL h a x.toNatClampNeg v) P) : zGo G μ d b pc lv (.long v :: .int x :: .ref a :: st) h P := by
  intro p l e R s m args below meth c C H locs ls hR hl h1 h2
  have he : (zw G h)[a]? = some (zad G a, .inl (gA G 1, zLen h a, .inr (.inl (zL h a)))) := by rw [zw_at ho.1, zcell_l ho.2]
  have hD := zw_D (G := G) (h := h) hR.2.2.2
  refine W.last C.1 C.2.1 (hR.1 a _ he) ((C.2.2.2.2.2.2.2.1.1.2 1 _ rfl).1 (zLen h a) (fun j => .long (zL h a j))) (fun q => by cases q) (by show ¬ (x < 0 ∨ (arrV _ _ _).slots.size ≤ _); rw [arrV_size]; exact hx) rfl rfl (zdg C hi) fun H1 e1 z oq => ?_
  have hP1 := hR.1.set hD he (e := zcell G (zsL h a x.toNatClampNeg v) a) (by
    rw [zcell_l (by exact ho.2)]
    show H1[zad G a]? = some (vp_cell _ _)
    rw [e1]
    dsimp only
    rw [vp_cell_l, vp_cell_l, arrV_store]
    congr 2
    funext q
    by_cases hq : q = x.toNatClampNeg
    · subst hq
      simp [updV, zL_sL, zup]
      try rfl
    · simp [updV, zL_sL, zup, hq]) oq
  exact k p l e R s m args below meth c C H1 _ ls (hR.set ho.1 rfl rfl rfl (fun j hj => zcell_sL_ne hj) z hP1 (hR.2.1.put z oq (hD.2 a _ he))) hl h1 h2
/-- how many cells and slots a method has made at its end -/
def zcnt (b : zB) (h : zMem) : Prop := zn h + zx h = b.1 + b.2.2.1 ∧ zs h = b.2.1 + b.2.2.2
theorem z_iret (i : Nat) {ty : FieldType} {v : Int32} (hi : μ.2.2.2.2[i]? = some (pc, .ireturn, 1)) (hr : μ.2.2.2.1 = some ty) (hn : narrow ty (.int v) = .int v) (hc : zcnt b h) (hp : P (some (.int v)) h) : zGo G μ d b pc lv [.int v] h P := by
  intro p l e R s m args below meth c C H locs ls hR hl h1 h2
  rw [show zn h + zx h - b.1 = b.2.2.1 by have := hc.1; omega, show zs h - b.2.1 = b.2.2.2 by have := hc.2; omega]
  exact W.zret C.1 C.2.1 (C.2.2.2.1.trans hr) hn (fun t ht _ => ⟨some (.int v), h, rfl, hp, by rw [ht]; exact hR.nil, hc.1, hc.2⟩) hR.2.1.2.2 (zdg C hi) C.2.2.2.2.1
theorem z_lret (i : Nat) {v : Int64} (hi : μ.2.2.2.2[i]? = some (pc, .lreturn, 1)) (hr : μ.2.2.2.1 = some .long) (hc : zcnt b h) (hp : P (some (.long v)) h) : zGo G μ d b pc lv [.long v] h P := by
  intro p l e R s m args below meth c C H locs ls hR hl h1 h2
  rw [show zn h + zx h - b.1 = b.2.2.1 by have := hc.1; omega, show zs h - b.2.1 = b.2.2.2 by have := hc.2; omega]
  exact W.lret C.1 C.2.1 (C.2.2.2.1.trans hr) (fun t ht _ => ⟨some (.long v), h, rfl, hp, by rw [ht]; exact hR.nil, hc.1, hc.2⟩) hR.2.1.2.2 (zdg C hi) C.2.2.2.2.1
theorem z_vret (i : Nat) (hi : μ.2.2.2.2[i]? = some (pc, .return_, 1)) (hr : μ.2.2.2.1 = none) (hc : zcnt b h) (hp : P none h) : zGo G μ d b pc lv [] h P := by
  intro p l e R s m args below meth c C H locs ls hR hl h1 h2
  rw [show zn h + zx h - b.1 = b.2.2.1 by have := hc.1; omega, show zs h - b.2.1 = b.2.2.2 by have := hc.2; omega]
  exact W.vret C.1 C.2.1 (C.2.2.2.1.trans hr) (fun t ht _ => ⟨none, h, rfl, hp, by rw [ht]; exact hR.nil, hc.1, hc.2⟩) hR.2.1.2.2 (zdg C hi) C.2.2.2.2.1
theorem z_aret (i : Nat) {a : Nat} {ty : FieldType} (hi : μ.2.2.2.2[i]? = some (pc, .areturn, 1)) (hr : μ.2.2.2.1 = some ty) (ht : (∃ n, ty = .object n) ∨ ∃ t, ty = .array t) (hc : zcnt b h) (hp : P (some (.ref a)) h) : zGo G μ d b pc lv [.ref a] h P := by
  intro p l e R s m args below meth c C H locs ls hR hl h1 h2
  rw [show zn h + zx h - b.1 = b.2.2.1 by have := hc.1; omega, show zs h - b.2.1 = b.2.2.2 by have := hc.2; omega]
  exact W.aret C.1 C.2.1 (C.2.2.2.1.trans hr) ht (Or.inr ⟨_, rfl⟩) (fun t ht _ => ⟨some (.ref a), h, rfl, hp, by rw [ht]; exact hR.nil, hc.1, hc.2⟩) hR.2.1.2.2 (zdg C hi) C.2.2.2.2.1
end ZB5
/-! calls -/
/-- what a call needs of the method called -/
def zMF (ν : zM) (n : Nat) : Prop := Cond.code ν.1 ν.2.1 ν.2.2.1 ν.2.2.2.1 ∈ ztb ∧ Cond.initialized ν.1.cls ∈ ztb ∧ (ν.1.cls ≠ "java/lang/invoke/MethodHandle" ∧ ν.1.cls ≠ "java/lang/invoke/VarHandle" ∧ (parseMethodDescriptor ν.1.desc).map (fun d => d.parameters.length) = some n) ∧ ν.2.2.1 ≤ 45
theorem ztb_GoodIn {w : Cond} (hw : w ∈ ztb) : GoodIn ztb (w :: ztb) := fun v hv => by
  have h1 : v ∈ ztb := by
    rcases List.mem_cons.mp hv with h | h
    · rw [h]; exact hw
    · exact h
  exact ⟨h1, good_of_word (ztb_good v h1)⟩
theorem zsum_cat (G : zG) (st : List Value) : ((st.map (zrv G)).map fun v => v.category).sum = (st.map fun v => v.category).sum := by
  rw [List.map_map]
  congr 1
  apply List.map_congr_left
  intro v _
  exact zrv_cat G v
section ZB6
variable {G : zG} {μ : zM} {d : Nat} {b : zB} {pc : Nat} {lv st : List Value} {h : zMem} {P : Option Value → zMem → Prop}
/-- behind a call -/
theorem z_run {ν : zM} {bc bs : Nat} {Q : Option Value → zMem → Prop} {aa : Array Value} {st0 : List Value} {p : Program} {l : zLc} {e : Env} {R : Room} {s : State} {m : MethodId} {args : Array Value} {below : List Frame} {meth : Method} {c : Code} (C : zCtx G μ d b p R s m args meth c) {H : Heap} {locs : List Loc} {ls : Array Slot} (hR : zRep G h H locs) (hl : zLv G ls μ.2.2.1 lv) (h1 : b.1 ≤ zn h + zx h) (h2 : b.2.1 ≤ zs h)
    (hr : va_Run p l.1 e R s m args below meth c H locs (zn h + zx h - b.1) (zs h - b.2.1) bc bs (F0 m pc ls st0) (st.map (zrv G)) (zQ G (zn h + zx h, zs h, bc, bs) Q aa) (zA G))
    (k : ∀ r h', Q r h' → zn h' + zx h' = zn h + zx h + bc → zs h' = zs h + bs → zGo G μ d b (pc + 3) lv (r.toList ++ st) h' P) :
    W p l.1 e R s m args below meth c H locs (zn h + zx h - b.1) (zs h - b.2.1) (MQ below (zQ G b P) args s b.2.2.1 b.2.2.2 (zA G)) (F0 m pc ls st0) := by
  intro T hT X
  obtain ⟨v, st₀, t, T', L, g0, X', hL, e1, e2, ⟨r, h', hv, hq, hRep, c1, c2⟩, st1⟩ := hr T hT X
  cases hv
  have c1 : zn h' + zx h' = zn h + zx h + bc := c1
  have c2 : zs h' = zs h + bs := c2
  have kk := k r h' hq c1 c2 p l e R s m args below meth c C T'.heap (locs ++ L) ls (by
    rw [e1]
    refine ⟨hRep.1, ⟨hRep.2.1.1, hRep.2.1.2.1, fun q hq => ?_⟩, hRep.2.2⟩
    rcases List.mem_append.mp hq with hq | hq
    · exact hR.2.1.2.2 q hq
    · exact hL q hq) hl (by omega) (by omega)
  rw [show zn h' + zx h' - b.1 = zn h + zx h - b.1 + bc by omega, show zs h' - b.2.1 = zs h - b.2.1 + bs by omega] at kk
  obtain ⟨t2, a1, b1⟩ := kk T' rfl X'
  refine ⟨t2, st1 t2 ?_, b1⟩
  have hst : (r.map (zrv G)).toList ++ st.map (zrv G) = (r.toList ++ st).map (zrv G) := by cases r <;> rfl
  show Steps p.tables e below (T'.setTop { F0 m pc ls st0 with pc := pc + 3, stack := (r.map (zrv G)).toList ++ st.map (zrv G) }) t2
  rw [hst]
  exact a1
theorem zPc_blind {as : List Value} : FrameBlind (fun a U => a = (as.map (zrv G)).toArray ∧ zRep G h U.heap [] ∧ zKK G U) := fun a U g mk q => ⟨q.1, q.2.1, q.2.2.calling⟩
theorem z_callV (i n : Nat) (as : List Value) {index : Nat} {ν : zM} {d' bc bs a ci : Nat} {Q : Option Value → zMem → Prop} (hi : μ.2.2.2.2[i]? = some (pc, .invokevirtual index, 3)) (hν : zMF ν n) (hlk : Cond.methodLink μ.1.cls index ν.1 ∈ ztb ∧ Cond.instanceMethod ν.1 ∈ ztb ∧ Cond.selects ν.1.cls ν.1 ν.1 ∈ ztb) (ho : zO h a ci) (hcl : ∃ q, zcl[ci]? = some q ∧ q.1 = ν.1.cls) (hci : ci < 100) (hn : as.length = n) (hw : (st.map fun v => v.category).sum ≤ 8) (hd : d' + 1 ≤ d) (hb : zn h + zx h + bc ≤ b.1 + b.2.2.1 ∧ zs h + bs ≤ b.2.1 + b.2.2.2) (K : zCon G ν d' bc bs (.ref a :: as) h Q)
    (k : ∀ r h', Q r h' → zn h' + zx h' = zn h + zx h + bc → zs h' = zs h + bs → zGo G μ d b (pc + 3) lv (r.toList ++ st) h' P) : zGo G μ d b pc lv (as.reverse ++ .ref a :: st) h P := by
  intro p l e R s m args below meth c C H locs ls hR hl h1 h2
  obtain ⟨q, hq1, hq2⟩ := hcl
  have hrm := C.2.2.2.2.2.2.2.2.2.2
  have hts := C.2.2.2.2.2.2.1
  have he : (zw G h)[a]? = some (zad G a, .inr (ci, zfs G h a ci)) := by rw [zw_at ho.1, zcell_o ho.2 hci]
  refine z_run (ν := ν) C hR hl h1 h2 (va_runV (As := as.map (zrv G)) (b := zad G a) (n := n) ⟨C.1, C.2.1, C.2.2.1, C.2.2.2.2.2.1, hts⟩ (K l) ⟨callB_of n hts (ztb_GoodIn hν.1) rfl rfl rfl (hts _ hν.2.1) (hts _ hlk.1) hν.2.2.1 ?_, hts _ hlk.2.1, hts _ hlk.2.2⟩ ⟨zPc_blind, ?_, fun U hU hW => ⟨rfl, by rw [hU]; exact hR.nil, zKK.warm hW C.2.2.2.2.2.2.2.1⟩⟩ rfl (by rw [List.length_map]; exact hn) hl.1 ?_ (lv_room (by rw [zsum_cat]; exact hw)) (zdg C hi) ?_) k
  · rw [hrm]
    have := hν.2.2.2
    exact ⟨hd, by show 8 + (ν.2.2.1 + 11) + 64 * d' ≤ 64 * d; omega⟩
  · obtain ⟨cell, g1, g2, g3⟩ := va_recv C.2.2.2.2.2.2.2.1.1 hR.1 hq1 he
    exact ⟨cell, g1, g2, by rw [← hq2]; exact g3⟩
  · simp [zrv]
  · rw [hrm]
    show zn h + zx h - b.1 + bc ≤ b.2.2.1 ∧ zs h - b.2.1 + bs ≤ b.2.2.2
    omega
theorem z_callS (i n : Nat) (as : List Value) {index : Nat} {ν : zM} {d' bc bs : Nat} {Q : Option Value → zMem → Prop} (hi : μ.2.2.2.2[i]? = some (pc, .invokestatic index, 3)) (hν : zMF ν n) (hlk : Cond.methodLink μ.1.cls index ν.1 ∈ ztb ∧ Cond.static ν.1 ∈ ztb) (hn : as.length = n) (hw : (st.map fun v => v.category).sum ≤ 8) (hd : d' + 1 ≤ d) (hb : zn h + zx h + bc ≤ b.1 + b.2.2.1 ∧ zs h + bs ≤ b.2.1 + b.2.2.2) (K : zCon G ν d' bc bs as h Q)
    (k : ∀ r h', Q r h' → zn h' + zx h' = zn h + zx h + bc → zs h' = zs h + bs → zGo G μ d b (pc + 3) lv (r.toList ++ st) h' P) : zGo G μ d b pc lv (as.reverse ++ st) h P := by
  intro p l e R s m args below meth c C H locs ls hR hl h1 h2
  have hrm := C.2.2.2.2.2.2.2.2.2.2
  have hts := C.2.2.2.2.2.2.1
  refine z_run (ν := ν) C hR hl h1 h2 (va_runS (As := as.map (zrv G)) (n := n) ⟨C.1, C.2.1, C.2.2.1, C.2.2.2.2.2.1, hts⟩ (K l) ⟨callB_of n hts (ztb_GoodIn hν.1) rfl rfl rfl (hts _ hν.2.1) (hts _ hlk.1) hν.2.2.1 ?_, hts _ hlk.2⟩ ⟨zPc_blind, fun U hU hW => ⟨rfl, by rw [hU]; exact hR.nil, zKK.warm hW C.2.2.2.2.2.2.2.1⟩⟩ rfl (by rw [List.length_map]; exact hn) hl.1 ?_ (lv_room (by rw [zsum_cat]; exact hw)) (zdg C hi) ?_) k
  · rw [hrm]
    have := hν.2.2.2
    exact ⟨hd, by show 8 + (ν.2.2.1 + 11) + 64 * d' ≤ 64 * d; omega⟩
  · simp
  · rw [hrm]
    show zn h + zx h - b.1 + bc ≤ b.2.2.1 ∧ zs h - b.2.1 + bs ≤ b.2.2.2
    omega
end ZB6
/-- the locals at a method's entry -/
def zent : Nat → List Value → List Value
  | n, [] => List.replicate n zU
  | n, .long v :: r => .long v :: zU :: zent (n - 2) r
  | n, v :: r => v :: zent (n - 1) r
def zcat1 (v : Value) : Bool := match v with
  | .long _ => true
  | .double _ => false
  | _ => true
theorem zent_args (G : zG) : ∀ (as : List Value) (n o : Nat) (i : Nat) (v : Value), (∀ a ∈ as, zcat1 a = true) → (zent n as)[i]? = some v → zisU v = false → (o + i, zrv G v) ∈ lv_args o (as.map (zrv G)) := by
  intro as
  induction as with
  | nil =>
    intro n o i v _ hi hu
    simp only [zent] at hi
    have := List.mem_of_getElem? hi
    rw [List.mem_replicate] at this
    rw [this.2] at hu
    cases hu
  | cons a r ih =>
    intro n o i v hc hi hu
    have hr : ∀ a ∈ r, zcat1 a = true := fun x hx => hc x (List.mem_cons_of_mem _ hx)
    have ha := hc a List.mem_cons_self
    have one : a.category = 1 → zent n (a :: r) = a :: zent (n - 1) r → (o + i, zrv G v) ∈ lv_args o ((a :: r).map (zrv G)) := by
      intro h1 h2
      rw [h2] at hi
      show _ ∈ (o, zrv G a) :: lv_args (if (zrv G a).category = 2 then o + 2 else o + 1) (r.map (zrv G))
      rw [zrv_cat, h1, if_neg (by decide)]
      cases i with
      | zero =>
        simp only [List.getElem?_cons_zero, Option.some.injEq] at hi
        subst hi
        exact List.mem_cons_self
      | succ i =>
        rw [List.getElem?_cons_succ] at hi
        have := ih (n - 1) (o + 1) i v hr hi hu
        rw [show o + 1 + i = o + (i + 1) by omega] at this
        exact List.mem_cons_of_mem _ this
    cases a with
    | long x =>
      simp only [zent] at hi
      show _ ∈ (o, zrv G (.long x)) :: lv_args (o + 2) (r.map (zrv G))
      match i, hi with
      | 0, hi =>
        simp only [List.getElem?_cons_zero, Option.some.injEq] at hi
        subst hi
        exact List.mem_cons_self
      | 1, hi =>
        simp only [List.getElem?_cons_succ, List.getElem?_cons_zero, Option.some.injEq] at hi
        subst hi
        cases hu
      | i + 2, hi =>
        simp only [List.getElem?_cons_succ] at hi
        have := ih (n - 2) (o + 2) i v hr hi hu
        rw [show o + 2 + i = o + (i + 2) by omega] at this
        exact List.mem_cons_of_mem _ this
    | double x => cases ha
    | int x => exact one rfl rfl
    | float x => exact one rfl rfl
    | null => exact one rfl rfl
    | ref x => exact one rfl rfl
    | retAddr x => exact one rfl rfl
def zwid (as : List Value) : Nat := (as.map fun v => v.category).sum
theorem zwid_sl (G : zG) (as : List Value) : (lg_sl (as.map (zrv G))).length = zwid as := by
  induction as with
  | nil => rfl
  | cons a r ih =>
    have : lg_sl ((a :: r).map (zrv G)) = (if (zrv G a).category = 2 then [.val (zrv G a), .second] else [.val (zrv G a)]) ++ lg_sl (r.map (zrv G)) := by simp [lg_sl]
    rw [this, List.length_append, ih, zrv_cat]
    show _ = a.category + zwid r
    rcases lv_cat a with e | e
    · rw [e]; simp
    · rw [e]; simp
theorem zcon_intro {G : zG} {μ : zM} {d bc bs : Nat} {as : List Value} {h : zMem} {P : Option Value → zMem → Prop} (hy : plainName μ.1.cls = true) (hdec : zdec μ) (hw : zwid as ≤ μ.2.2.1) (hcat : ∀ a ∈ as, zcat1 a = true) (k : zGo G μ d (zn h + zx h, zs h, bc, bs) 0 (zent μ.2.2.1 as) [] h P) : zCon G μ d bc bs as h P := by
  intro l
  refine Met.ofW (cc := μ.2.1) (maxL := μ.2.2.1) (ret := μ.2.2.2.1) hy rfl ?_
  intro p e s m args below meth c s₁ B hml hv
  obtain ⟨rfl, hR, hKK⟩ := hv
  have hts := atoms_spec (ws := Cond.code μ.1 μ.2.1 μ.2.2.1 μ.2.2.2.1 :: ztb) B.pre
  have C : zCtx G μ d (zn h + zx h, zs h, bc, bs) p (zroom d bc bs) s m (as.map (zrv G)).toArray meth c := ⟨B.exec, B.bytes, hml, B.returns, B.notSynchronized, findClass_of_methodNamed B.named, fun w hw => hts w (List.mem_cons_of_mem _ hw), hKK, fun hi => (name_of_methodNamed B.named B.method).1.trans hi, hdec, rfl⟩
  have hl := lv_entry (as.map (zrv G)) (n := μ.2.2.1) (by rw [zwid_sl]; exact hw)
  rw [lg_entry_eq]
  generalize (lg_sl (as.map (zrv G)) ++ List.replicate (μ.2.2.1 - (lg_sl (as.map (zrv G))).length) Slot.unset).toArray = ls at hl ⊢
  have kk := k p l e (zroom d bc bs) s m (as.map (zrv G)).toArray below meth c C s.heap [] ls hR ⟨hl.1, hl.2.1, fun i v hi hu => by
    have := zent_args G as μ.2.2.1 0 i v hcat hi hu
    rw [Nat.zero_add] at this
    exact hl.2.2 _ this⟩ (Nat.le_refl _) (Nat.le_refl _)
  dsimp only at kk
  rw [Nat.sub_self, Nat.sub_self] at kk
  exact kk
