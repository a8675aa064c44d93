/-! new cells -/
/-- a new cell: kind, length, slots, references, ints -/
abbrev zC : Type := Nat × Nat × Nat × (Nat → Option Nat) × (Nat → Int32)
def zC0 (kd len sl : Nat) : zC := (kd, len, sl, fun _ => none, fun _ => 0)
def zsl {α : Type} (n : Nat) (f : Nat → α) (L : List zC) (g : zC → α) : Nat → α := fun a => if a < n then f a else match L[a - n]? with
  | some c => g c
  | none => f a
def zapp (h : zMem) (L : List zC) : zMem := ((zn h + L.length, zx h, zs h + (L.map fun c => c.2.2.1).sum), (zsl (zn h) (zK h) L (fun c => c.1), zsl (zn h) (zLen h) L (fun c => c.2.1), zsl (zn h) (zR h) L (fun c => c.2.2.2.1)), (zsl (zn h) (zI h) L (fun c => c.2.2.2.2), zsl (zn h) (zL h) L (fun _ => fun _ => 0)))
theorem zsl_lo {α : Type} {n : Nat} {f : Nat → α} {L : List zC} {g : zC → α} {a : Nat} (h : a < n) : zsl n f L g a = f a := if_pos h
theorem zsl_at {α : Type} {n : Nat} {f : Nat → α} {L : List zC} {g : zC → α} {i : Nat} {c : zC} (h : L[i]? = some c) : zsl n f L g (n + i) = g c := by
  unfold zsl
  rw [if_neg (by omega), Nat.add_sub_cancel_left, h]
theorem zsl_hi {α : Type} {n : Nat} {f : Nat → α} {L : List zC} {g : zC → α} {a : Nat} (h : n + L.length ≤ a) : zsl n f L g a = f a := by
  unfold zsl
  rw [if_neg (by omega), List.getElem?_eq_none (by omega)]
theorem zsl_nil {α : Type} (n : Nat) (f : Nat → α) (g : zC → α) : zsl n f [] g = f := funext fun a => by
  by_cases h : a < n
  · exact zsl_lo h
  · exact zsl_hi (by simp; omega)
theorem zsl_new {α : Type} {n : Nat} {f : Nat → α} {L : List zC} {g : zC → α} (c : zC) {v : α} (hv : g c = v) : zup1 (zsl n f L g) (n + L.length) v = zsl n f (L ++ [c]) g := by
  funext a
  unfold zup1
  by_cases e : a = n + L.length
  · subst e
    rw [if_pos rfl, zsl_at (c := c) (by rw [List.getElem?_append_right (Nat.le_refl _), Nat.sub_self]; rfl), hv]
  · rw [if_neg e]
    by_cases h1 : a < n
    · rw [zsl_lo h1, zsl_lo h1]
    · by_cases h2 : a < n + L.length
      · obtain ⟨i, rfl⟩ : ∃ i, a = n + i := ⟨a - n, by omega⟩
        have hi : i < L.length := by omega
        rw [zsl_at (List.getElem?_eq_getElem hi), zsl_at (c := L[i]) (by rw [List.getElem?_append_left hi, List.getElem?_eq_getElem hi])]
      · rw [zsl_hi (by omega), zsl_hi (by rw [List.length_append]; show n + (L.length + 1) ≤ a; omega)]
theorem zsl_set {α : Type} {n : Nat} {f : Nat → α} {L : List zC} {g : zC → α} {i : Nat} {c c' : zC} (h : L[i]? = some c) (e : g c' = g c) : zsl n f (L.set i c') g = zsl n f L g := by
  funext a
  have hi : i < L.length := (List.getElem?_eq_some_iff.mp h).1
  by_cases h1 : a < n
  · rw [zsl_lo h1, zsl_lo h1]
  · by_cases h2 : a < n + L.length
    · obtain ⟨j, rfl⟩ : ∃ j, a = n + j := ⟨a - n, by omega⟩
      by_cases ej : j = i
      · subst ej
        rw [zsl_at h, zsl_at (c := c') (List.getElem?_set_self hi), e]
      · have hj : j < L.length := by omega
        rw [zsl_at (List.getElem?_eq_getElem hj), zsl_at (c := L[j]) (by rw [List.getElem?_set_ne (Ne.symm ej), List.getElem?_eq_getElem hj])]
    · rw [zsl_hi (L := L.set i c') (by rw [List.length_set]; omega), zsl_hi (by omega)]
theorem zsl_up {β : Type} {n : Nat} {f : Nat → Nat → β} {L : List zC} {g : zC → Nat → β} {i j : Nat} {v : β} {c c' : zC} (h : L[i]? = some c) (e : g c' = fun k => if k = j then v else g c k) : zup (zsl n f L g) (n + i) j v = zsl n f (L.set i c') g := by
  funext a b
  have hi : i < L.length := (List.getElem?_eq_some_iff.mp h).1
  unfold zup
  by_cases ea : a = n + i
  · subst ea
    rw [if_pos rfl, zsl_at h, zsl_at (c := c') (List.getElem?_set_self hi), e]
  · rw [if_neg ea]
    by_cases h1 : a < n
    · rw [zsl_lo h1, zsl_lo h1]
    · by_cases h2 : a < n + L.length
      · obtain ⟨k, rfl⟩ : ∃ k, a = n + k := ⟨a - n, by omega⟩
        have hk : k < L.length := by omega
        rw [zsl_at (List.getElem?_eq_getElem hk), zsl_at (c := L[k]) (by rw [List.getElem?_set_ne (by omega), List.getElem?_eq_getElem hk])]
      · rw [zsl_hi (by omega), zsl_hi (by rw [List.length_set]; omega)]
theorem zsum_set {L : List zC} {i : Nat} {c c' : zC} (h : L[i]? = some c) (e : c'.2.2.1 = c.2.2.1) : ((L.set i c').map fun c => c.2.2.1) = L.map fun c => c.2.2.1 := by
  rw [List.map_set, e]
  apply List.ext_getElem?
  intro k
  by_cases ek : k = i
  · subst ek
    rw [List.getElem?_set_self (by rw [List.length_map]; exact (List.getElem?_eq_some_iff.mp h).1), List.getElem?_map, h]
    rfl
  · rw [List.getElem?_set_ne (Ne.symm ek)]
def zcR (c : zC) (j : Nat) (v : Option Nat) : zC := (c.1, c.2.1, c.2.2.1, fun k => if k = j then v else c.2.2.2.1 k, c.2.2.2.2)
def zcI (c : zC) (j : Nat) (v : Int32) : zC := (c.1, c.2.1, c.2.2.1, c.2.2.2.1, fun k => if k = j then v else c.2.2.2.2 k)
theorem zapp_new (h : zMem) (L : List zC) (kd len sl : Nat) : znew (zapp h L) kd len sl = zapp h (L ++ [zC0 kd len sl]) := by
  show ((zn h + L.length + 1, zx h, zs h + (L.map fun c => c.2.2.1).sum + sl), (zup1 (zsl (zn h) (zK h) L (fun c => c.1)) (zn h + L.length) kd, zup1 (zsl (zn h) (zLen h) L (fun c => c.2.1)) (zn h + L.length) len, zup1 (zsl (zn h) (zR h) L (fun c => c.2.2.2.1)) (zn h + L.length) (fun _ => none)), (zup1 (zsl (zn h) (zI h) L (fun c => c.2.2.2.2)) (zn h + L.length) (fun _ => 0), zup1 (zsl (zn h) (zL h) L (fun _ => fun _ => 0)) (zn h + L.length) (fun _ => 0))) = _
  rw [zsl_new (g := fun c => c.1) (v := kd) (zC0 kd len sl) rfl, zsl_new (g := fun c => c.2.1) (v := len) (zC0 kd len sl) rfl, zsl_new (g := fun c => c.2.2.2.1) (v := fun _ => none) (zC0 kd len sl) rfl, zsl_new (g := fun c => c.2.2.2.2) (v := fun _ => 0) (zC0 kd len sl) rfl, zsl_new (g := fun _ => fun _ => (0 : Int64)) (v := fun _ => 0) (zC0 kd len sl) rfl]
  unfold zapp
  rw [List.length_append, List.map_append, List.sum_append]
  show ((zn h + L.length + 1, zx h, zs h + (L.map fun c => c.2.2.1).sum + sl), _) = ((zn h + (L.length + 1), zx h, zs h + ((L.map fun c => c.2.2.1).sum + (sl + 0))), _)
  rw [Nat.add_zero, Nat.add_assoc, Nat.add_assoc]
  rfl
theorem zapp_sR {h : zMem} {L : List zC} {i j : Nat} {v : Option Nat} {c : zC} (e : L[i]? = some c) : zsR (zapp h L) (zn h + i) j v = zapp h (L.set i (zcR c j v)) := by
  show ((zn h + L.length, zx h, zs h + (L.map fun c => c.2.2.1).sum), (zsl (zn h) (zK h) L (fun c => c.1), zsl (zn h) (zLen h) L (fun c => c.2.1), zup (zsl (zn h) (zR h) L (fun c => c.2.2.2.1)) (zn h + i) j v), (zsl (zn h) (zI h) L (fun c => c.2.2.2.2), zsl (zn h) (zL h) L (fun _ => fun _ => 0))) = _
  rw [zsl_up (c' := zcR c j v) e rfl]
  unfold zapp
  rw [List.length_set, zsum_set (c' := zcR c j v) e rfl, zsl_set (c' := zcR c j v) (g := fun c => c.1) e rfl, zsl_set (c' := zcR c j v) (g := fun c => c.2.1) e rfl, zsl_set (c' := zcR c j v) (g := fun c => c.2.2.2.2) e rfl, zsl_set (c' := zcR c j v) (g := fun _ => fun _ => (0 : Int64)) e rfl]
theorem zapp_sI {h : zMem} {L : List zC} {i j : Nat} {v : Int32} {c : zC} (e : L[i]? = some c) : zsI (zapp h L) (zn h + i) j v = zapp h (L.set i (zcI c j v)) := by
  show ((zn h + L.length, zx h, zs h + (L.map fun c => c.2.2.1).sum), (zsl (zn h) (zK h) L (fun c => c.1), zsl (zn h) (zLen h) L (fun c => c.2.1), zsl (zn h) (zR h) L (fun c => c.2.2.2.1)), (zup (zsl (zn h) (zI h) L (fun c => c.2.2.2.2)) (zn h + i) j v, zsl (zn h) (zL h) L (fun _ => fun _ => 0))) = _
  rw [zsl_up (c' := zcI c j v) e rfl]
  unfold zapp
  rw [List.length_set, zsum_set (c' := zcI c j v) e rfl, zsl_set (c' := zcI c j v) (g := fun c => c.1) e rfl, zsl_set (c' := zcI c j v) (g := fun c => c.2.1) e rfl, zsl_set (c' := zcI c j v) (g := fun c => c.2.2.2.1) e rfl, zsl_set (c' := zcI c j v) (g := fun _ => fun _ => (0 : Int64)) e rfl]
theorem zsl_app {α : Type} (n : Nat) (f : Nat → α) (L M : List zC) (g : zC → α) : zsl (n + L.length) (zsl n f L g) M g = zsl n f (L ++ M) g := by
  funext a
  by_cases h1 : a < n
  · rw [zsl_lo (by omega), zsl_lo h1, zsl_lo h1]
  · by_cases h2 : a < n + L.length
    · obtain ⟨i, rfl⟩ : ∃ i, a = n + i := ⟨a - n, by omega⟩
      have hi : i < L.length := by omega
      rw [zsl_lo h2, zsl_at (List.getElem?_eq_getElem hi), zsl_at (c := L[i]) (by rw [List.getElem?_append_left hi, List.getElem?_eq_getElem hi])]
    · obtain ⟨i, rfl⟩ : ∃ i, a = n + L.length + i := ⟨a - (n + L.length), by omega⟩
      by_cases h3 : i < M.length
      · rw [zsl_at (List.getElem?_eq_getElem h3), Nat.add_assoc, zsl_at (c := M[i]) (by rw [List.getElem?_append_right (by omega), Nat.add_sub_cancel_left, List.getElem?_eq_getElem h3])]
      · rw [zsl_hi (by omega), zsl_hi (by omega), zsl_hi (by rw [List.length_append]; omega)]
theorem zapp_app (h : zMem) (L M : List zC) : zapp (zapp h L) M = zapp h (L ++ M) := by
  show ((zn h + L.length + M.length, zx h, zs h + (L.map fun c => c.2.2.1).sum + (M.map fun c => c.2.2.1).sum), (zsl (zn h + L.length) (zsl (zn h) (zK h) L (fun c => c.1)) M (fun c => c.1), zsl (zn h + L.length) (zsl (zn h) (zLen h) L (fun c => c.2.1)) M (fun c => c.2.1), zsl (zn h + L.length) (zsl (zn h) (zR h) L (fun c => c.2.2.2.1)) M (fun c => c.2.2.2.1)), (zsl (zn h + L.length) (zsl (zn h) (zI h) L (fun c => c.2.2.2.2)) M (fun c => c.2.2.2.2), zsl (zn h + L.length) (zsl (zn h) (zL h) L (fun _ => fun _ => 0)) M (fun _ => fun _ => 0))) = _
  rw [zsl_app, zsl_app, zsl_app, zsl_app, zsl_app]
  unfold zapp
  rw [List.length_append, List.map_append, List.sum_append, Nat.add_assoc, Nat.add_assoc]
theorem zapp_nil (h : zMem) : zapp h [] = h := by
  unfold zapp
  rw [zsl_nil, zsl_nil, zsl_nil, zsl_nil, zsl_nil]
  rfl
theorem zn_app (h : zMem) (L : List zC) : zn (zapp h L) = zn h + L.length := rfl
theorem zx_app (h : zMem) (L : List zC) : zx (zapp h L) = zx h := rfl
theorem zs_app (h : zMem) (L : List zC) : zs (zapp h L) = zs h + (L.map fun c => c.2.2.1).sum := rfl
theorem zcell_new {G : zG} {h : zMem} {kd len sl k : Nat} (hk : k ≠ zn h) : zcell G (znew h kd len sl) k = zcell G h k := by
  have e1 : zK (znew h kd len sl) k = zK h k := if_neg hk
  have e2 : zLen (znew h kd len sl) k = zLen h k := if_neg hk
  have e3 : zR (znew h kd len sl) k = zR h k := if_neg hk
  have e4 : zI (znew h kd len sl) k = zI h k := if_neg hk
  have e5 : zL (znew h kd len sl) k = zL h k := if_neg hk
  have e6 : ∀ ci, zfs G (znew h kd len sl) k ci = zfs G h k ci := fun ci => by
    unfold zfs
    apply List.map_congr_left
    intro j _
    unfold zfv
    rw [e3, e4, e5]
  unfold zcell
  rw [e1, e2, e3, e4, e5, e6]
theorem zw_new {G : zG} {h : zMem} {kd len sl : Nat} : zw G (znew h kd len sl) = zw G h ++ [(zad G (zn h), zcell G (znew h kd len sl) (zn h))] := by
  show (List.range (zn h + 1)).map (fun k => (zad G k, zcell G (znew h kd len sl) k)) = (List.range (zn h)).map (fun k => (zad G k, zcell G h k)) ++ _
  rw [List.range_succ, List.map_append]
  congr 1
  apply List.map_congr_left
  intro k hk
  rw [zcell_new (by have := List.mem_range.mp hk; omega)]
theorem zRep.push {G : zG} {h : zMem} {H H1 : Heap} {locs : List Loc} {kd len sl : Nat} (hR : zRep G h H locs) (hx : zx h = 0) (hn : zn h < 1000000) (hs : H1.size = H.size + 1) (ho : ∀ q, q < H.size → H1[q]? = H[q]?) (hc : va_at (gD G) zcl (zad G (zn h), zcell G (znew h kd len sl) (zn h)) H1) : zRep G (znew h kd len sl) H1 locs := by
  obtain ⟨r1, r2, ⟨r3, r4⟩, r5⟩ := hR
  have hk : ∀ (k : Nat) (x : Nat × va_E), (zw G h)[k]? = some x → H1[x.1]? = H[x.1]? := fun k x hx => ho x.1 ((r1 k x hx).lt)
  refine ⟨?_, ⟨Nat.le_trans r2.1 (by omega), fun x h1 h2 => (ho x (Nat.lt_of_lt_of_le h1 r2.1)).trans (r2.2.1 x h1 h2), r2.2.2⟩, ⟨fun _ => ?_, ?_⟩, by show zn h + 1 ≤ 1000000; omega⟩
  · rw [zw_new]
    refine (r1.kept hk).app (fun k x hx => ?_)
    have hz : k < 1 := (List.getElem?_eq_some_iff.mp hx).1
    rw [show k = 0 by omega] at hx
    cases hx
    exact hc
  · show H1.size = (gH G).size + (zn h + 1)
    rw [hs, r3 hx]; omega
  · show (gH G).size + (zn h + 1) ≤ H1.size
    rw [hs]; omega
theorem zRep.at {G : zG} {h : zMem} {H : Heap} {locs : List Loc} (hR : zRep G h H locs) (hx : zx h = 0) (hn : zn h < 1000000) : zad G (zn h) = H.size := by
  rw [zad_lt hn]; exact (hR.2.2.1.1 hx).symm
theorem zfs_V {G : zG} {h : zMem} {k ci j : Nat} (hj : j < zfn ci) : vp_V (zfs G h k ci) j = zfv G h k ci j := by
  unfold vp_V zfs
  simp [List.getD, hj]
def zokT : FieldType → Bool
  | .float => false
  | .double => false
  | _ => true
theorem zfv_0 {G : zG} {h : zMem} {kd len sl ci j : Nat} (ht : zokT (zty ci j) = true) : defaultValue (zty ci j) = zfv G (znew h kd len sl) (zn h) ci j := by
  have e3 : zR (znew h kd len sl) (zn h) = fun _ => none := if_pos rfl
  have e4 : zI (znew h kd len sl) (zn h) = fun _ => 0 := if_pos rfl
  have e5 : zL (znew h kd len sl) (zn h) = fun _ => 0 := if_pos rfl
  unfold zfv
  rw [e3, e4, e5]
  revert ht
  cases zty ci j <;> intro ht <;> first | rfl | cases ht
section ZN
variable {G : zG} {μ : zM} {d : Nat} {b : zB} {pc : Nat} {lv st : List Value} {h : zMem} {P : Option Value → zMem → Prop}
theorem z_new (i ci N : Nat) {index : Nat} {C : String} {T : u_T} (hi : μ.2.2.2.2[i]? = some (pc, .new index, 3)) (hC : zCF ci C T N) (hz : ∀ j, j < N → zokT (zty ci j) = true) (hw : Cond.classLink μ.1.cls index C ∈ ztb ∧ Cond.instantiable C N ∈ ztb ∧ Cond.initialized C ∈ ztb) (hx : zx h = 0) (hn : zn h < 1000000) (hb : zn h + zx h + 1 ≤ b.1 + b.2.2.1 ∧ zs h + N ≤ b.2.1 + b.2.2.2) (k : zGo G μ d b (pc + 3) lv (.ref (zn h) :: st) (znew h ci 0 N) P) : zGo G μ d b pc lv st h P := by
  intro p l e R s m args below meth c C0 H locs ls hR hl h1 h2
  have hts := C0.2.2.2.2.2.2.1
  have hrm := C0.2.2.2.2.2.2.2.2.2.2
  have hK := C0.2.2.2.2.2.2.2.1.1
  have hKn := hK.1 ci _ hC.1
  refine W.newcK C0.1 C0.2.1 C0.2.2.2.2.2.1 (hts _ hw.1) (hts _ hw.2.1) (hts _ hw.2.2) rfl (zdg C0 hi) (by rw [hrm]; show zn h + zx h - b.1 + 1 ≤ b.2.2.1; omega) (by rw [hrm]; show zs h - b.2.1 + N ≤ b.2.2.2; omega) hKn.2.1 rfl fun H1 kC hkC e1 z1 o1 => ?_
  have hA := hR.at hx hn
  have hR1 : zRep G (znew h ci 0 N) H1 locs := by
    refine hR.push hx hn z1 o1 ?_
    have hkd : zK (znew h ci 0 N) (zn h) = ci := if_pos rfl
    rw [zcell_o hkd hC.2.2.2.2, hA]
    refine ⟨_, hC.1, (u_born (zty ci) hts hC.2.1 hKn hkC e1 hC.2.2.1).to (fun j hj => ?_)⟩
    rw [zfs_V (by rw [hC.n]; exact hj)]
    exact zfv_0 (hz j hj)
  have kk := k p l e R s m args below meth c C0 H1 locs ls hR1 hl (by show b.1 ≤ zn h + 1 + zx h; omega) (by show b.2.1 ≤ zs h + N; omega)
  rw [show zn (znew h ci 0 N) + zx (znew h ci 0 N) - b.1 = zn h + zx h - b.1 + 1 by show zn h + 1 + zx h - b.1 = _; omega, show zs (znew h ci 0 N) - b.2.1 = zs h - b.2.1 + N by show zs h + N - b.2.1 = _; omega] at kk
  have e9 : (.ref (zn h) :: st).map (zrv G) = .ref H.size :: st.map (zrv G) := by
    show Value.ref (zad G (zn h)) :: _ = _
    rw [hA]
  rw [e9] at kk
  exact kk
theorem z_newa (i t0 kd N : Nat) {ty : FieldType} {atype : ArrayType} {n : Int32} {a0 : vp_A} (hi : μ.2.2.2.2[i]? = some (pc, .newarray atype, 2)) (hty : newarray.typeOf atype = ty) (harr : Cond.arrayClass ty ∈ ztb) (ht : (zTy G)[t0]? = some (gA G t0, ty)) (hra : ∀ (U : State) (cA : ClassId), va_RA U cA ty → U.vm.findClass ("[" ++ ty.toString) = some cA) (hcell : zcell G (znew h kd N N) (zn h) = .inl (gA G t0, a0)) (ha : vp_cell (gA G t0) a0 = arrV (gA G t0) N (fun _ => defaultValue ty)) (hn0 : ¬ n < 0) (hN : n.toNatClampNeg = N) (hbytes : N * componentBytes ty ≤ 536870912) (hx : zx h = 0) (hn : zn h < 1000000) (hb : zn h + zx h + 1 ≤ b.1 + b.2.2.1 ∧ zs h + N ≤ b.2.1 + b.2.2.2) (k : zGo G μ d b (pc + 2) lv (.ref (zn h) :: st) (znew h kd N N) P) : zGo G μ d b pc lv (.int n :: st) h P := by
  subst hty
  intro p l e R s m args below meth c C0 H locs ls hR hl h1 h2
  have hts := C0.2.2.2.2.2.2.1
  have hrm := C0.2.2.2.2.2.2.2.2.2.2
  have hK := C0.2.2.2.2.2.2.2.1.1
  have hA := hR.at hx hn
  refine va_newaK C0.1 C0.2.1 (hts _ harr) (g := F0 m pc ls (.int n :: st.map (zrv G))) rfl (zdg C0 hi) rfl hn0 hN hbytes (by rw [hrm]; show zn h + zx h - b.1 + 1 ≤ b.2.2.1; omega) (by rw [hrm]; show zs h - b.2.1 + N ≤ b.2.2.2; omega) rfl fun H1 cA e1 z1 o1 hAr hNm => ?_
  have hcA : cA = gA G t0 := by
    have := hra s (gA G t0) (hK.2 t0 _ ht).2
    exact Option.some.inj (hNm.symm.trans this)
  subst hcA
  have hR1 : zRep G (znew h kd N N) H1 locs := by
    refine hR.push hx hn z1 o1 ?_
    rw [hcell, hA]
    show H1[H.size]? = some (vp_cell _ _)
    rw [ha]
    exact e1
  have kk := k p l e R s m args below meth c C0 H1 locs ls hR1 hl (by show b.1 ≤ zn h + 1 + zx h; omega) (by show b.2.1 ≤ zs h + N; omega)
  rw [show zn (znew h kd N N) + zx (znew h kd N N) - b.1 = zn h + zx h - b.1 + 1 by show zn h + 1 + zx h - b.1 = _; omega, show zs (znew h kd N N) - b.2.1 = zs h - b.2.1 + N by show zs h + N - b.2.1 = _; omega] at kk
  have e9 : (.ref (zn h) :: st).map (zrv G) = .ref H.size :: st.map (zrv G) := by
    show Value.ref (zad G (zn h)) :: _ = _
    rw [hA]
  rw [e9] at kk
  exact kk
theorem z_bump (k0 n0 : Nat) (hk : 1 ≤ k0) (k : zGo G μ d b pc lv st ((zn h, zx h + k0, zs h + n0), h.2) P) : zGo G μ d b pc lv st h P := by
  intro p l e R s m args below meth c C0 H locs ls hR hl h1 h2
  obtain ⟨r1, r2, ⟨r3, r4⟩, r5⟩ := hR
  have hw : zw G ((zn h, zx h + k0, zs h + n0), h.2) = zw G h := rfl
  have kk := k p l e R s m args below meth c C0 H locs ls ⟨by rw [hw]; exact r1, r2, ⟨fun q => absurd q (by show zx h + k0 ≠ 0; omega), r4⟩, r5⟩ hl (by show b.1 ≤ zn h + (zx h + k0); omega) (by show b.2.1 ≤ zs h + n0; omega)
  refine W.widen ?_ ?_ kk
  · show zn h + zx h - b.1 ≤ zn h + (zx h + k0) - b.1; omega
  · show zs h - b.2.1 ≤ zs h + n0 - b.2.1; omega
theorem zRep.pushL {H H1 : Heap} {locs : List Loc} {L : List zC} (hR : zRep G h H locs) (hx : zx h = 0) (hn : zn h + L.length ≤ 1000000) (hs : H1.size = H.size + L.length) (ho : ∀ q, q < H.size → H1[q]? = H[q]?) (hc : ∀ i, i < L.length → va_at (gD G) zcl (H.size + i, zcell G (zapp h L) (zn h + i)) H1) : zRep G (zapp h L) H1 locs := by
  obtain ⟨r1, r2, ⟨r3, r4⟩, r5⟩ := hR
  have r3 := r3 hx
  refine ⟨fun k q hk => ?_, ⟨Nat.le_trans r2.1 (by omega), fun x h1 h2 => (ho x (Nat.lt_of_lt_of_le h1 r2.1)).trans (r2.2.1 x h1 h2), r2.2.2⟩, ⟨fun _ => ?_, ?_⟩, hn⟩
  · obtain ⟨hk1, rfl⟩ := zw_some hk
    by_cases c : k < zn h
    · have e : zcell G (zapp h L) k = zcell G h k := by
        have e1 : zK (zapp h L) k = zK h k := zsl_lo c
        have e2 : zLen (zapp h L) k = zLen h k := zsl_lo c
        have e3 : zR (zapp h L) k = zR h k := zsl_lo c
        have e4 : zI (zapp h L) k = zI h k := zsl_lo c
        have e5 : zL (zapp h L) k = zL h k := zsl_lo c
        have e6 : ∀ ci, zfs G (zapp h L) k ci = zfs G h k ci := fun ci => by
          unfold zfs
          apply List.map_congr_left
          intro j _
          unfold zfv
          rw [e3, e4, e5]
        unfold zcell
        rw [e1, e2, e3, e4, e5, e6]
      rw [e]
      exact (r1 k _ (zw_at c)).kept (ho _ ((r1 k _ (zw_at c)).lt))
    · have hk1 : k < zn h + L.length := hk1
      obtain ⟨i, rfl⟩ : ∃ i, k = zn h + i := ⟨k - zn h, by omega⟩
      rw [zad_lt (by omega), ← Nat.add_assoc, ← r3]
      exact hc i (by omega)
  · show H1.size = (gH G).size + (zn h + L.length)
    omega
  · show (gH G).size + (zn h + L.length) ≤ H1.size
    omega
end ZN
