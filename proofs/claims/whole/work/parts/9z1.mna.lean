/-- new int[N][K] -/
def zmL (n N K : Nat) : List zC := (104, N, N, (fun i => if i < N then some (n + 1 + i) else none), fun _ => 0) :: List.replicate N (zC0 100 K K)
theorem zmL_len (n N K : Nat) : (zmL n N K).length = N + 1 := by
  show (List.replicate N (zC0 100 K K)).length + 1 = N + 1
  rw [List.length_replicate]
theorem zrep_sum (K : Nat) : ∀ N, ((List.replicate N (zC0 100 K K)).map fun c => c.2.2.1).sum = N * K
  | 0 => by rw [Nat.zero_mul]; rfl
  | N + 1 => by
    have ih := zrep_sum K N
    rw [List.replicate_succ, List.map_cons, List.sum_cons, ih, Nat.succ_mul, Nat.add_comm]
    rfl
theorem zmL_sum (n N K : Nat) : ((zmL n N K).map fun c => c.2.2.1).sum = N + N * K := by
  unfold zmL
  rw [List.map_cons, List.sum_cons, zrep_sum]
theorem vr_outer (c : ClassId) (N h0 : Nat) : ∀ i : Nat, Jvm.Free.Multi.outerC c N h0 i = arrV c N (fun j => va_rf (if j < i then some (h0 + 1 + j) else none))
  | 0 => by
    show ({ cls := c, slots := Array.replicate N .null, vm := .none } : Cell) = _
    rw [arrV_new]
    refine congrArg (arrV c N) (funext fun j => ?_)
    simp [va_rf]
  | i + 1 => by
    show (Jvm.Free.Multi.outerC c N h0 i).setSlot i (.ref (h0 + 1 + i)) = _
    rw [vr_outer c N h0 i, arrV_store]
    refine congrArg (arrV c N) (funext fun j => ?_)
    by_cases e : j = i
    · subst e
      simp [updV, va_rf]
    · by_cases h : j < i
      · simp [updV, e, h, Nat.lt_succ_of_lt h]
      · simp [updV, e, h, show ¬ j < i + 1 by omega]
section ZN2
variable {G : zG} {μ : zM} {d : Nat} {b : zB} {pc : Nat} {lv st : List Value} {h : zMem} {P : Option Value → zMem → Prop}
theorem z_mna (i N K : Nat) {index : Nat} {n k0 : Int32} (hi : μ.2.2.2.2[i]? = some (pc, .multianewarray index 2, 4)) (hcl : Cond.classLink μ.1.cls index "[[I" ∈ ztb) (hov : ∀ U, gE G U → (Cond.arrayOver (.array .int)).before #[] U = true) (hn0 : ¬ n < 0) (hk0 : ¬ k0 < 0) (hN : n.toNatClampNeg = N) (hK0 : k0.toNatClampNeg = K) (hN2 : N ≤ 1000) (hK2 : K ≤ 1000) (hx : zx h = 0) (hn : zn h + (N + 1) ≤ 1000000) (hb : zn h + zx h + (N + 1) ≤ b.1 + b.2.2.1 ∧ zs h + (N + N * K) ≤ b.2.1 + b.2.2.2) (k : zGo G μ d b (pc + 4) lv (.ref (zn h) :: st) (zapp h (zmL (zn h) N K)) P) : zGo G μ d b pc lv (.int k0 :: .int n :: st) h P := by
  subst hN
  subst hK0
  intro p l e R s m args below meth c C0 H locs ls hR hl h1 h2
  have hts := C0.2.2.2.2.2.2.1
  have hrm := C0.2.2.2.2.2.2.2.2.2.2
  have hK := C0.2.2.2.2.2.2.2.1.1
  have hover : (Cond.arrayOver (.array .int)).before args s = true := over_moved (Vm.Alike.refl _) (hov s C0.2.2.2.2.2.2.2.1.2.1)
  have hA := hR.at hx (by omega)
  have harr : Cond.arrayClass .int ∈ ztb := ztb_t (zt1 _ (List.mem_of_getElem? (i := 122) rfl)) rfl
  have hsz := hR.2.2.1.1 hx
  intro T hT Xs
  obtain ⟨vm₁, cA, comp, -, fA, fC, hO, -, X', step⟩ := Xs.multianewarray2F C0.1 C0.2.2.2.2.2.1 (hts _ hcl) hover (hts _ harr) (g := F0 m pc ls (.int k0 :: .int n :: st.map (zrv G))) rfl (by rw [C0.2.1]; exact zdg C0 hi) rfl hn0 hk0 (by omega) (by show _ * 4 ≤ _; omega) (by omega) rfl rfl (by rw [hrm]; show zn h + zx h - b.1 + (1 + n.toNatClampNeg) ≤ b.2.2.1; omega) (by rw [hrm]; show zs h - b.2.1 + (n.toNatClampNeg + n.toNatClampNeg * k0.toNatClampNeg) ≤ b.2.2.2; omega)
  have ecA : cA = gA G 4 := Option.some.inj (fA.symm.trans (hK.2 4 _ rfl).2)
  have eco : comp = gA G 0 := Option.some.inj (fC.symm.trans (hK.2 0 _ rfl).2)
  subst ecA
  subst eco
  generalize hF : Jvm.Free.Multi.fill (T.setVm vm₁) (gA G 4) (gA G 0) n.toNatClampNeg k0.toNatClampNeg (defaultValue .int) n.toNatClampNeg = F at X' step
  have hTh : (T.setVm vm₁).heap = H := hT
  obtain ⟨f1, f2, -, -⟩ := Jvm.Free.Multi.fill_facts (T.setVm vm₁) (gA G 4) (gA G 0) n.toNatClampNeg k0.toNatClampNeg (defaultValue .int) n.toNatClampNeg
  rw [hF, hTh] at f1 f2
  have hold : ∀ x : Nat, x < H.size → F.heap[x]? = H[x]? := fun x hx => by
    have := Jvm.Free.Multi.fill_old (T.setVm vm₁) (gA G 4) (gA G 0) n.toNatClampNeg k0.toNatClampNeg (defaultValue .int) (a := x) (by rw [hTh]; exact hx) n.toNatClampNeg
    rw [hF, hTh] at this
    exact this
  have hrow : ∀ j : Nat, j < n.toNatClampNeg → F.heap[H.size + 1 + j]? = some (vp_cell (gA G 0) (k0.toNatClampNeg, .inl (fun _ => 0))) := fun j hj => by
    have := Jvm.Free.Multi.fill_inner (T.setVm vm₁) (gA G 4) (gA G 0) n.toNatClampNeg k0.toNatClampNeg (defaultValue .int) n.toNatClampNeg j hj
    rw [hF, hTh] at this
    rw [this]
    refine congrArg some ?_
    show ({ cls := gA G 0, slots := Array.replicate k0.toNatClampNeg (.int 0), vm := .none } : Cell) = _
    rw [arrV_new]
    rfl
  rw [vr_outer] at f2
  have hR1 : zRep G (zapp h (zmL (zn h) n.toNatClampNeg k0.toNatClampNeg)) F.heap locs := by
    refine hR.pushL hx (by rw [zmL_len]; omega) (by rw [zmL_len, f1]; omega) hold (fun i hi => ?_)
    rw [zmL_len] at hi
    cases i with
    | zero =>
      have hc : (zmL (zn h) n.toNatClampNeg k0.toNatClampNeg)[0]? = some (104, n.toNatClampNeg, n.toNatClampNeg, (fun i => if i < n.toNatClampNeg then some (zn h + 1 + i) else none), fun _ => 0) := rfl
      have e1 : zK (zapp h (zmL (zn h) n.toNatClampNeg k0.toNatClampNeg)) (zn h + 0) = 104 := zsl_at hc
      have e2 : zLen (zapp h (zmL (zn h) n.toNatClampNeg k0.toNatClampNeg)) (zn h + 0) = n.toNatClampNeg := zsl_at hc
      have e3 : zR (zapp h (zmL (zn h) n.toNatClampNeg k0.toNatClampNeg)) (zn h + 0) = (fun i => if i < n.toNatClampNeg then some (zn h + 1 + i) else none) := zsl_at hc
      rw [zcell_q e1, e2, e3]
      show F.heap[H.size]? = some (vp_cell _ _)
      rw [vp_cell_q, f2]
      refine congrArg some (congrArg (arrV _ _) (funext fun j => congrArg va_rf ?_))
      by_cases cj : j < n.toNatClampNeg
      · rw [if_pos cj]
        show _ = Option.map (zad G) (if j < n.toNatClampNeg then some (zn h + 1 + j) else none)
        rw [if_pos cj]
        show _ = some (zad G (zn h + 1 + j))
        rw [zad_lt (by omega), hsz]
        congr 1
        omega
      · rw [if_neg cj]
        show _ = Option.map (zad G) (if j < n.toNatClampNeg then some (zn h + 1 + j) else none)
        rw [if_neg cj]
        rfl
    | succ i =>
      have hi' : i < n.toNatClampNeg := by omega
      have hc : (zmL (zn h) n.toNatClampNeg k0.toNatClampNeg)[i + 1]? = some (zC0 100 k0.toNatClampNeg k0.toNatClampNeg) := by
        show (List.replicate n.toNatClampNeg (zC0 100 k0.toNatClampNeg k0.toNatClampNeg))[i]? = _
        rw [List.getElem?_replicate, if_pos hi']
      have e1 : zK (zapp h (zmL (zn h) n.toNatClampNeg k0.toNatClampNeg)) (zn h + (i + 1)) = 100 := zsl_at hc
      have e2 : zLen (zapp h (zmL (zn h) n.toNatClampNeg k0.toNatClampNeg)) (zn h + (i + 1)) = k0.toNatClampNeg := zsl_at hc
      have e3 : zI (zapp h (zmL (zn h) n.toNatClampNeg k0.toNatClampNeg)) (zn h + (i + 1)) = fun _ => 0 := zsl_at hc
      rw [zcell_i e1, e2, e3]
      show F.heap[H.size + (i + 1)]? = some (vp_cell _ _)
      rw [show H.size + (i + 1) = H.size + 1 + i by omega]
      exact hrow i hi'
  have kk := k p l e R s m args below meth c C0 F.heap locs ls hR1 hl (by show b.1 ≤ zn h + (zmL (zn h) n.toNatClampNeg k0.toNatClampNeg).length + zx h; omega) (by show b.2.1 ≤ zs h + _; omega)
  rw [show zn (zapp h (zmL (zn h) n.toNatClampNeg k0.toNatClampNeg)) + zx (zapp h (zmL (zn h) n.toNatClampNeg k0.toNatClampNeg)) - b.1 = zn h + zx h - b.1 + 1 + n.toNatClampNeg by show zn h + (zmL (zn h) n.toNatClampNeg k0.toNatClampNeg).length + zx h - b.1 = _; rw [zmL_len]; omega, show zs (zapp h (zmL (zn h) n.toNatClampNeg k0.toNatClampNeg)) - b.2.1 = zs h - b.2.1 + n.toNatClampNeg + n.toNatClampNeg * k0.toNatClampNeg by rw [zs_app, zmL_sum]; omega] at kk
  obtain ⟨t, a1, b1⟩ := kk F rfl X'
  refine ⟨t, step t ?_, b1⟩
  have e : T.heap.size = H.size := by rw [hT]
  rw [e]
  have e9 : (.ref (zn h) :: st).map (zrv G) = .ref H.size :: st.map (zrv G) := by
    show Value.ref (zad G (zn h)) :: _ = _
    rw [hA]
  rw [e9] at a1
  exact a1
/-- a final field, put in the constructor -/
theorem z_putRF (i : Nat) {index ci j a r : Nat} (hi : μ.2.2.2.2[i]? = some (pc, .putfield index, 3)) (hf : zFL μ.1.cls index ci j) (hfin : ∃ (C : String) (T : u_T) (N : Nat), zcl[ci]? = some (C, T, N) ∧ (T j).2.2.2 = true ∧ (T j).1 = μ.1.cls) (hin : μ.1.name = "<init>") (ht : zrefT (zty ci j) = true) (ho : zO h a ci) (k : zGo G μ d b (pc + 3) lv st (zsR h a j (some r)) P) : zGo G μ d b pc lv (.ref r :: .ref a :: st) h P := by
  intro p l e R s m args below meth c C0 H locs ls hR hl h1 h2
  obtain ⟨Cn, T, N, hC, hj, hlk⟩ := hf
  obtain ⟨C', T', N', hq, hfin, hdecl⟩ := hfin
  cases hq.symm.trans hC.1
  have he : (zw G h)[a]? = some (zad G a, .inr (ci, zfs G h a ci)) := by rw [zw_at ho.1, zcell_o ho.2 hC.2.2.2.2]
  have hD := zw_D (G := G) (h := h) hR.2.2.2
  have hn : narrow (zty ci j) (.ref (zad G r)) = .ref (zad G r) := by revert ht; cases zty ci j <;> simp [zrefT] <;> rfl
  have hfit : fits (zty ci j) (.ref (zad G r)) = true := by revert ht; cases zty ci j <;> simp [zrefT] <;> rfl
  have hmn : meth.name = "<init>" := C0.2.2.2.2.2.2.2.2.1 hin
  have hts := C0.2.2.2.2.2.2.1
  have hK := C0.2.2.2.2.2.2.2.1.1
  have hap := va_apart (own := μ.1.cls) hts hC.2.1 (zty ci) hC.2.2.1 hC.2.2.2.1 hK hC.1
  obtain ⟨r0, g1, cell, q1, q2, q3, q4⟩ := hR.1 a _ he
  have hr : r0 = (Cn, T, N) := Option.some.inj (g1.symm.trans hC.1)
  subst hr
  obtain ⟨hS, hfc, kC, hkC, hkind⟩ := hK.1 ci _ hC.1
  obtain ⟨cf, kf, fi, f, hif, hsl⟩ := hS j hj
  have hv : zfv G (zsR h a j (some r)) a ci j = .ref (zad G r) := by rw [zfv_ref ht, zR_sR, zup_s]; rfl
  have hoj : ∀ i, i ≠ j → zfv G (zsR h a j (some r)) a ci i = zfv G h a ci i := fun j' hj' => by simp only [zfv, zI_sR, zL_sR, zR_sR, zup_i _ _ _ hj']
  have hlay := hts _ (hC.2.1 _ (u_in_lay hj))
  unfold u_lay at hlay
  rw [if_pos hfin] at hlay
  have hst := (u_facts hfc hkC (u_lays hts hC.2.1 hj) hif).1
  have hcf : m.cls = cf := by
    obtain ⟨_, _, c', _, _, _, -, -, hf', -, -, -, hown2, -⟩ := Cond.laysFinal_spec hlay
    have e1 : c' = cf := by have := hif.symm.trans hf'; simp at this; exact this.1.symm
    rw [hdecl] at hown2
    rw [← e1]; exact Option.some.inj (C0.2.2.2.2.2.1.symm.trans hown2)
  have h6 := u_fits hfc hkC hkind (Or.inr hlay) hif (hC.2.2.1 j hj) hn hfit
  have hl2 : j < (zfs G h a ci).length := by rw [zfs_len, hC.n]; exact hj
  refine W.eq (g2 := F0 m pc ls (.ref (zad G r) :: .ref (zad G a) :: st.map (zrv G))) rfl ?_
  refine W.putFinK C0.1 C0.2.1 C0.2.2.2.2.2.1 (hts _ hlk) hif hst hcf hmn (by rw [q2]; exact h6) q1 q3 (by rw [hsl]; exact k2_hasslot (q4 j hj)) rfl rfl (zdg C0 hi) fun H' e1 e2 e3 => ?_
  rw [hsl] at e1 ⊢
  have hP1 : va_P (gD G) zcl ((zw G h).set a (zad G a, .inr (ci, (zfs G h a ci).set j (.ref (zad G r))))) H' := hR.1.set hD he ⟨_, hC.1, t_OB.to (V := updV (vp_V (zfs G h a ci)) j (.ref (zad G r))) ⟨_, e1, q2, q3, t_set q4 hap hj (.ref (zad G r))⟩ (fun j' _ => vp_updV_set hl2 (.ref (zad G r)) j')⟩ e3
  have hR1 : zRep G (zsR h a j (some r)) H' (locs ++ [⟨zad G a, gD G |>.2 ci j⟩]) := by
    refine hR.set ho.1 rfl rfl ?_ (fun k' hk' => zcell_sR_ne hk') e2 hP1 (hR.2.1.put e2 e3 (hD.2 a _ he))
    rw [zcell_o (by rw [zK_sR]; exact ho.2) hC.2.2.2.2, zfs_set (by rw [hC.n]; exact hj) hv hoj]
  exact k p l e R s m args below meth c C0 H' _ ls hR1 hl h1 h2
theorem z_objInit (i : Nat) {index a : Nat} (hi : μ.2.2.2.2[i]? = some (pc, .invokespecial index, 3)) (hlk : Cond.methodLink μ.1.cls index Lib.objectInit ∈ ztb ∧ Cond.instanceMethod Lib.objectInit ∈ ztb ∧ Cond.code Lib.objectInit ⟨#[0xb1]⟩ 1 none ∈ ztb) (hw : (st.map fun v => v.category).sum ≤ 8) (hd : 1 ≤ d) (k : zGo G μ d b (pc + 3) lv st h P) : zGo G μ d b pc lv (.ref a :: st) h P := by
  intro p l e R s m args below meth c C0 H locs ls hR hl h1 h2
  have hts := C0.2.2.2.2.2.2.1
  have hrm := C0.2.2.2.2.2.2.2.2.2.2
  exact W.objInit C0.1 C0.2.1 C0.2.2.2.2.2.1 (hts _ hlk.1) (hts _ hlk.2.1) (hts _ hlk.2.2) (g := F0 m pc ls (.ref (zad G a) :: st.map (zrv G))) rfl (hl.1.trans C0.2.2.1.symm) rfl (zdg C0 hi) (by rw [hrm]; exact hd) (by rw [hrm, zsum_cat]; show 2 * 0 + _ + 12 ≤ 64 * d; omega) (k p l e R s m args below meth c C0 H locs ls hR hl h1 h2)
/-- a constructor without arguments -/
theorem z_callI (i : Nat) {index : Nat} {ν : zM} {d' bc bs a : Nat} {Q : zMem → Prop} (hi : μ.2.2.2.2[i]? = some (pc, .invokespecial index, 3)) (hν : zMF ν 0) (hret : ν.2.2.2.1 = none) (hnm : ν.1.name = "<init>") (hlk : (Cond.methodLink μ.1.cls index ν.1 ∈ ztb ∨ ∃ host, ∀ U, gE G U → va_Nw (.methodLinkNest μ.1.cls index ν.1 host) U) ∧ Cond.instanceMethod ν.1 ∈ ztb) (hw : (st.map fun v => v.category).sum ≤ 8) (hd : d' + 1 ≤ d) (hb : zn h + zx h + bc ≤ b.1 + b.2.2.1 ∧ zs h + bs ≤ b.2.1 + b.2.2.2) (K : zCon G ν d' bc bs [.ref a] h (zPV Q))
    (k : ∀ h', Q h' → zn h' + zx h' = zn h + zx h + bc → zs h' = zs h + bs → zGo G μ d b (pc + 3) lv st h' P) : zGo G μ d b pc lv (.ref a :: st) h P := by
  intro p l e R s m args below meth c C H locs ls hR hl h1 h2
  have hrm := C.2.2.2.2.2.2.2.2.2.2
  have hts := C.2.2.2.2.2.2.1
  have hroom : (zroom d' bc bs).frames + 1 ≤ R.frames ∧ 8 + (ν.2.2.1 + 11) + (zroom d' bc bs).locals ≤ R.locals := by
    rw [hrm]
    have := hν.2.2.2
    exact ⟨hd, by show 8 + (ν.2.2.1 + 11) + 64 * d' ≤ 64 * d; omega⟩
  have hcs : zn h + zx h - b.1 + bc ≤ R.cells ∧ zs h - b.2.1 + bs ≤ R.slots := by
    rw [hrm]
    show zn h + zx h - b.1 + bc ≤ b.2.2.1 ∧ zs h - b.2.1 + bs ≤ b.2.2.2
    omega
  have hM := K l
  rw [hret] at hM
  have hcode : Cond.code ν.1 ν.2.1 ν.2.2.1 none ∈ ztb := by have := hν.1; rw [hret] at this; exact this
  have kk : ∀ r h', zPV Q r h' → zn h' + zx h' = zn h + zx h + bc → zs h' = zs h + bs → zGo G μ d b (pc + 3) lv (r.toList ++ st) h' P := fun r h' q c1 c2 => by
    obtain ⟨rfl, q⟩ := q
    exact k h' q c1 c2
  rcases hlk.1 with hl1 | ⟨host, hl1⟩
  · refine z_run (ν := ν) C hR hl h1 h2 (va_runI (As := []) (b := zad G a) (n := 0) ⟨C.1, C.2.1, C.2.2.1, C.2.2.2.2.2.1, hts⟩ hM ⟨callB_of 0 hts (ztb_GoodIn hcode) rfl rfl rfl (hts _ hν.2.1) (hts _ hl1) hν.2.2.1 hroom, hnm, hts _ hlk.2⟩ ⟨zPc_blind, fun U hU hW => ⟨rfl, by rw [hU]; exact hR.nil, zKK.warm hW C.2.2.2.2.2.2.2.1⟩⟩ rfl rfl hl.1 rfl (lv_room (by rw [zsum_cat]; exact hw)) (zdg C hi) hcs) kk
  · refine z_run (ν := ν) C hR hl h1 h2 (va_runIN (As := []) (b := zad G a) (n := 0) ⟨C.1, C.2.1, C.2.2.1, C.2.2.2.2.2.1, hts⟩ hM ⟨va_cnB 0 hts (ztb_GoodIn hcode) rfl rfl rfl (hl1 s C.2.2.2.2.2.2.2.1.2.1) (hts _ hν.2.1) hν.2.2.1 hroom, hnm, hts _ hlk.2⟩ ⟨zPc_blind, fun U hU hW => ⟨rfl, by rw [hU]; exact hR.nil, zKK.warm hW C.2.2.2.2.2.2.2.1⟩⟩ rfl rfl hl.1 rfl (lv_room (by rw [zsum_cat]; exact hw)) (zdg C hi) hcs) kk
end ZN2
