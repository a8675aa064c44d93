/-! THE BASE: a typed memory (kinds, lengths, references, ints, longs) in place of the machine's heap, and zGo, the machine at a place of a method over such a memory. Rows z_.. : a row an instruction. -/
def zU : Value := .retAddr 0
abbrev zMem : Type := (Nat × Nat × Nat) × ((Nat → Nat) × (Nat → Nat) × (Nat → Nat → Option Nat)) × ((Nat → Nat → Int32) × (Nat → Nat → Int64))
def zn (h : zMem) : Nat := h.1.1
def zx (h : zMem) : Nat := h.1.2.1
def zs (h : zMem) : Nat := h.1.2.2
def zK (h : zMem) : Nat → Nat := h.2.1.1
def zLen (h : zMem) : Nat → Nat := h.2.1.2.1
def zR (h : zMem) : Nat → Nat → Option Nat := h.2.1.2.2
def zI (h : zMem) : Nat → Nat → Int32 := h.2.2.1
def zL (h : zMem) : Nat → Nat → Int64 := h.2.2.2
def zup {α : Type} (f : Nat → Nat → α) (a i : Nat) (v : α) : Nat → Nat → α := fun b j => if b = a then (if j = i then v else f b j) else f b j
def zsI (h : zMem) (a i : Nat) (v : Int32) : zMem := (h.1, h.2.1, (zup (zI h) a i v, zL h))
def zsL (h : zMem) (a i : Nat) (v : Int64) : zMem := (h.1, h.2.1, (zI h, zup (zL h) a i v))
def zsR (h : zMem) (a i : Nat) (v : Option Nat) : zMem := (h.1, (zK h, zLen h, zup (zR h) a i v), h.2.2)
/-- a new cell: kind, length, what its ints, longs and references are at first -/
def zup1 {α : Type} (f : Nat → α) (a : Nat) (v : α) : Nat → α := fun b => if b = a then v else f b
def znew (h : zMem) (kd len sl : Nat) : zMem := ((zn h + 1, zx h, zs h + sl), (zup1 (zK h) (zn h) kd, zup1 (zLen h) (zn h) len, zup1 (zR h) (zn h) (fun _ => none)), (zup1 (zI h) (zn h) (fun _ => 0), zup1 (zL h) (zn h) (fun _ => 0)))
theorem zn_sI (h : zMem) (a i : Nat) (v : Int32) : zn (zsI h a i v) = zn h := rfl
theorem zx_sI (h : zMem) (a i : Nat) (v : Int32) : zx (zsI h a i v) = zx h := rfl
theorem zs_sI (h : zMem) (a i : Nat) (v : Int32) : zs (zsI h a i v) = zs h := rfl
theorem zK_sI (h : zMem) (a i : Nat) (v : Int32) : zK (zsI h a i v) = zK h := rfl
theorem zLen_sI (h : zMem) (a i : Nat) (v : Int32) : zLen (zsI h a i v) = zLen h := rfl
theorem zR_sI (h : zMem) (a i : Nat) (v : Int32) : zR (zsI h a i v) = zR h := rfl
theorem zL_sI (h : zMem) (a i : Nat) (v : Int32) : zL (zsI h a i v) = zL h := rfl
theorem zI_sI (h : zMem) (a i : Nat) (v : Int32) : zI (zsI h a i v) = zup (zI h) a i v := rfl
theorem zn_sL (h : zMem) (a i : Nat) (v : Int64) : zn (zsL h a i v) = zn h := rfl
theorem zx_sL (h : zMem) (a i : Nat) (v : Int64) : zx (zsL h a i v) = zx h := rfl
theorem zs_sL (h : zMem) (a i : Nat) (v : Int64) : zs (zsL h a i v) = zs h := rfl
theorem zK_sL (h : zMem) (a i : Nat) (v : Int64) : zK (zsL h a i v) = zK h := rfl
theorem zLen_sL (h : zMem) (a i : Nat) (v : Int64) : zLen (zsL h a i v) = zLen h := rfl
theorem zR_sL (h : zMem) (a i : Nat) (v : Int64) : zR (zsL h a i v) = zR h := rfl
theorem zI_sL (h : zMem) (a i : Nat) (v : Int64) : zI (zsL h a i v) = zI h := rfl
theorem zL_sL (h : zMem) (a i : Nat) (v : Int64) : zL (zsL h a i v) = zup (zL h) a i v := rfl
theorem zn_sR (h : zMem) (a i : Nat) (v : Option Nat) : zn (zsR h a i v) = zn h := rfl
theorem zx_sR (h : zMem) (a i : Nat) (v : Option Nat) : zx (zsR h a i v) = zx h := rfl
theorem zs_sR (h : zMem) (a i : Nat) (v : Option Nat) : zs (zsR h a i v) = zs h := rfl
theorem zK_sR (h : zMem) (a i : Nat) (v : Option Nat) : zK (zsR h a i v) = zK h := rfl
theorem zLen_sR (h : zMem) (a i : Nat) (v : Option Nat) : zLen (zsR h a i v) = zLen h := rfl
theorem zR_sR (h : zMem) (a i : Nat) (v : Option Nat) : zR (zsR h a i v) = zup (zR h) a i v := rfl
theorem zI_sR (h : zMem) (a i : Nat) (v : Option Nat) : zI (zsR h a i v) = zI h := rfl
theorem zL_sR (h : zMem) (a i : Nat) (v : Option Nat) : zL (zsR h a i v) = zL h := rfl
theorem zup_s {α : Type} (f : Nat → Nat → α) (a i : Nat) (v : α) : zup f a i v a i = v := by simp [zup]
theorem zup_a {α : Type} (f : Nat → Nat → α) {a i : Nat} (v : α) {b : Nat} (j : Nat) (h : b ≠ a) : zup f a i v b j = f b j := by simp [zup, h]
theorem zup_i {α : Type} (f : Nat → Nat → α) {a i : Nat} (v : α) (b : Nat) {j : Nat} (h : j ≠ i) : zup f a i v b j = f b j := by simp [zup, h]
/-- the world that all is about: slots of the classes, array classes, addresses of what was there ahead, the heap at the start, what else is known of a state -/
abbrev zG : Type := va_G × (Nat → ClassId) × (Nat → Nat) × Heap × (State → Prop)
def gD (G : zG) : va_G := G.1
def gA (G : zG) : Nat → ClassId := G.2.1
def gX (G : zG) : Nat → Nat := G.2.2.1
def gH (G : zG) : Heap := G.2.2.2.1
def gE (G : zG) : State → Prop := G.2.2.2.2
def zad (G : zG) (k : Nat) : Nat := if k < 1000000 then (gH G).size + k else gX G (k - 1000000)
def zrv (G : zG) : Value → Value
  | .ref k => .ref (zad G k)
  | v => v
def zcl : List vw_C := vwCl
def zty : Nat → Nat → FieldType
  | 0 => tyX0
  | 1 => tyX1
  | 2 => tyX2
  | 3 => tyX3
  | 4 => tyX4
  | 5 => tyX5
  | 6 => tyX7
  | 7 => tyX8
  | 8 => tyX9
  | _ => tyX10
def zfn (ci : Nat) : Nat := match zcl[ci]? with
  | some q => q.2.2
  | none => 0
def zfv (G : zG) (h : zMem) (k ci j : Nat) : Value := match zty ci j with
  | .long => .long (zL h k j)
  | .object _ => va_rf ((zR h k j).map (zad G))
  | .array _ => va_rf ((zR h k j).map (zad G))
  | _ => .int (zI h k j)
def zfs (G : zG) (h : zMem) (k ci : Nat) : List Value := (List.range (zfn ci)).map (zfv G h k ci)
def zcell (G : zG) (h : zMem) (k : Nat) : va_E :=
  if zK h k = 100 then .inl (gA G 0, zLen h k, .inl (zI h k))
  else if zK h k = 101 then .inl (gA G 1, zLen h k, .inr (.inl (zL h k)))
  else if zK h k = 102 then .inl (gA G 2, zLen h k, .inl (zI h k))
  else if zK h k = 103 then .inl (gA G 3, zLen h k, .inl (zI h k))
  else if zK h k = 104 then .inl (gA G 4, zLen h k, .inr (.inr (.inr (.inr (fun j => (zR h k j).map (zad G))))))
  else .inr (zK h k, zfs G h k (zK h k))
def zw (G : zG) (h : zMem) : va_W := (List.range (zn h)).map (fun k => (zad G k, zcell G h k))
def zA (G : zG) : Nat → Prop := fun q => (gH G).size ≤ q
theorem zw_at {G : zG} {h : zMem} {k : Nat} (hk : k < zn h) : (zw G h)[k]? = some (zad G k, zcell G h k) := by simp [zw, hk]
theorem zw_some {G : zG} {h : zMem} {k : Nat} {q : Nat × va_E} (hq : (zw G h)[k]? = some q) : k < zn h ∧ q = (zad G k, zcell G h k) := by
  have hk : k < zn h := by
    have := (List.getElem?_eq_some_iff.mp hq).1
    simpa [zw] using this
  rw [zw_at hk] at hq
  exact ⟨hk, (Option.some.inj hq).symm⟩
theorem zad_lt {G : zG} {k : Nat} (h : k < 1000000) : zad G k = (gH G).size + k := if_pos h
theorem zw_D {G : zG} {h : zMem} (hn : zn h ≤ 1000000) : va_D (zA G) (zw G h) := by
  refine ⟨fun i j p q hi hj hpq => ?_, fun k q hk => ?_⟩
  · obtain ⟨h1, rfl⟩ := zw_some hi
    obtain ⟨h2, rfl⟩ := zw_some hj
    dsimp only at hpq
    rw [zad_lt (by omega), zad_lt (by omega)] at hpq
    omega
  · obtain ⟨h1, rfl⟩ := zw_some hk
    show (gH G).size ≤ zad G k
    rw [zad_lt (by omega)]
    omega
theorem zw_set {G : zG} {h h' : zMem} {k : Nat} {e : va_E} (hk : k < zn h) (hn : zn h' = zn h) (he : e = zcell G h' k) (ho : ∀ j, j ≠ k → zcell G h' j = zcell G h j) : (zw G h).set k (zad G k, e) = zw G h' := by
  subst he
  apply List.ext_getElem?
  intro j
  by_cases hj : j = k
  · subst hj
    rw [List.getElem?_set_self (by simp [zw]; exact hk), zw_at (by omega)]
  · rw [List.getElem?_set_ne (Ne.symm hj)]
    by_cases hl : j < zn h
    · rw [zw_at hl, zw_at (by omega), ho j hj]
    · rw [List.getElem?_eq_none (by simp [zw]; omega), List.getElem?_eq_none (by simp [zw]; omega)]
def zRep (G : zG) (h : zMem) (H : Heap) (locs : List Loc) : Prop := va_P (gD G) zcl (zw G h) H ∧ va_S (zA G) (gH G) H locs ∧ ((zx h = 0 → H.size = (gH G).size + zn h) ∧ (gH G).size + zn h ≤ H.size) ∧ zn h ≤ 1000000
def zTy (G : zG) : List (ClassId × FieldType) := [(gA G 0, .int), (gA G 1, .long), (gA G 2, .byte), (gA G 3, .boolean), (gA G 4, .array .int)]
def zKK (G : zG) (U : State) : Prop := va_K (gD G) zcl (zTy G) U ∧ (gE G U ∧ ∀ s V : State, (s.WarmedH V.vm ∨ s.vm = V.vm) → gE G s → gE G V)
/-- the words that every method is given -/
def ztb : List Cond := lw_tbl.filter goodWord
theorem ztb_in {w : Cond} (h : w ∈ lw_tbl) (hg : goodWord w = true) : w ∈ ztb := List.mem_filter.mpr ⟨h, hg⟩
theorem ztb_t {w : Cond} (h : w ∈ tables_1) (hg : goodWord w = true) : w ∈ ztb := ztb_in (List.mem_append_right _ h) hg
theorem ztb_good : ∀ w ∈ ztb, goodWord w = true := fun w h => (List.mem_filter.mp h).2
/-- a method: name, bytes, locals, return type, instructions -/
abbrev zM : Type := MethodName × ByteArray × Nat × Option FieldType × List (Nat × Instr × Nat)
def zroom (d bc bs : Nat) : Room := { frames := d, cells := bc, slots := bs, locals := 64 * d }
/-- cells and slots at the method's entry; how many it makes -/
abbrev zB : Type := Nat × Nat × Nat × Nat
def zdec (μ : zM) : Prop := ∀ q ∈ μ.2.2.2.2, decode μ.2.1 q.1 = .ok q.2
def zCtx (G : zG) (μ : zM) (d : Nat) (b : zB) (p : Program) (R : Room) (s : State) (m : MethodId) (args : Array Value) (meth : Method) (c : Code) : Prop :=
  p.tables.exec = Jvm.exec ∧ c.code = μ.2.1 ∧ c.maxLocals = μ.2.2.1 ∧ meth.sig.returnType = μ.2.2.2.1 ∧ meth.locks = false ∧ s.vm.findClass μ.1.cls = some m.cls ∧ (∀ w ∈ ztb, w.before args s = true) ∧ zKK G s ∧ (μ.1.name = "<init>" → meth.name = "<init>") ∧ zdec μ ∧ R = zroom d b.2.2.1 b.2.2.2
def zQ (G : zG) (b : zB) (Post : Option Value → zMem → Prop) : Array Value → State → Outcome → State → Prop := fun _ _ o t => ∃ (r : Option Value) (h' : zMem), o = .returned (r.map (zrv G)) ∧ Post r h' ∧ zRep G h' t.heap [] ∧ zn h' + zx h' = b.1 + b.2.2.1 ∧ zs h' = b.2.1 + b.2.2.2
def zisU (v : Value) : Bool := match v with
  | .retAddr _ => true
  | _ => false
def zLv (G : zG) (ls : Array Slot) (nL : Nat) (lv : List Value) : Prop := ls.size = nL ∧ lv_wf ls ∧ ∀ (i : Nat) (v : Value), lv[i]? = some v → zisU v = false → ls[i]? = some (.val (zrv G v))
/-- the launches that the claim speaks of -/
abbrev zLc : Type := { l : Launch // l.flags = flags0 }
/-- THE MACHINE at a place of a method: it comes to the method's end, with Post -/
def zGo (G : zG) (μ : zM) (d : Nat) (b : zB) (pc : Nat) (lv st : List Value) (h : zMem) (Post : Option Value → zMem → Prop) : Prop :=
  ∀ (p : Program) (l : zLc) (e : Env) (R : Room) (s : State) (m : MethodId) (args : Array Value) (below : List Frame) (meth : Method) (c : Code), zCtx G μ d b p R s m args meth c →
    ∀ (H : Heap) (locs : List Loc) (ls : Array Slot), zRep G h H locs → zLv G ls μ.2.2.1 lv → b.1 ≤ zn h + zx h → b.2.1 ≤ zs h →
      W p l.1 e R s m args below meth c H locs (zn h + zx h - b.1) (zs h - b.2.1) (MQ below (zQ G b Post) args s b.2.2.1 b.2.2.2 (zA G)) (F0 m pc ls (st.map (zrv G)))
/-- A METHOD'S CONTRACT: from these arguments and this memory it comes to its end with Post -/
def zCon (G : zG) (μ : zM) (d bc bs : Nat) (as : List Value) (h : zMem) (Post : Option Value → zMem → Prop) : Prop :=
  ∀ l : zLc, Met l.1 μ.1 (Cond.code μ.1 μ.2.1 μ.2.2.1 μ.2.2.2.1 :: ztb) (zroom d bc bs) (fun a U => a = (as.map (zrv G)).toArray ∧ zRep G h U.heap [] ∧ zKK G U) (zQ G (zn h + zx h, zs h, bc, bs) Post) bc bs (zA G)
section ZB
variable {G : zG} {μ : zM} {d : Nat} {b : zB} {pc : Nat} {lv st : List Value} {h : zMem} {P : Option Value → zMem → Prop}
theorem zdg {G : zG} {μ : zM} {d : Nat} {b : zB} {p : Program} {R : Room} {s : State} {m : MethodId} {args : Array Value} {meth : Method} {c : Code} (C : zCtx G μ d b p R s m args meth c) {i pc n : Nat} {x : Instr} (hi : μ.2.2.2.2[i]? = some (pc, x, n)) : decode μ.2.1 pc = .ok (x, n) := C.2.2.2.2.2.2.2.2.2.1 (pc, x, n) (List.mem_of_getElem? hi)
theorem zgo_eq {pc2 : Nat} {lv2 st2 : List Value} (h1 : pc = pc2) (h2 : lv = lv2) (h3 : st = st2) (k : zGo G μ d b pc2 lv2 st2 h P) : zGo G μ d b pc lv st h P := by subst h1; subst h2; subst h3; exact k
theorem zgo_mem {h2 : zMem} (h1 : h = h2) (k : zGo G μ d b pc lv st h2 P) : zGo G μ d b pc lv st h P := by subst h1; exact k
theorem zgo_post {P2 : Option Value → zMem → Prop} (k : zGo G μ d b pc lv st h P2) (hp : ∀ r h', P2 r h' → P r h') : zGo G μ d b pc lv st h P := by
  intro p l e R s m args below meth c C H locs ls hR hl h1 h2 T hT X
  obtain ⟨t, a1, o, b1, b2, ⟨r, h', q1, q2, q3⟩, b4⟩ := k p l e R s m args below meth c C H locs ls hR hl h1 h2 T hT X
  exact ⟨t, a1, o, b1, b2, ⟨r, h', q1, hp r h' q2, q3⟩, b4⟩
theorem z_iconst (i : Nat) {n : Int} {v : Int32} (hi : μ.2.2.2.2[i]? = some (pc, .iconst n, 1)) (hv : Int32.ofInt n = v) (k : zGo G μ d b (pc + 1) lv (.int v :: st) h P) : zGo G μ d b pc lv (st) h P := by
  intro p l e R s m args below meth c C H locs ls hR hl h1 h2
  exact lv_iconst C.1 C.2.1 (zdg C hi) hv (k p l e R s m args below meth c C H locs ls hR hl h1 h2)
theorem z_bipush (i : Nat) {n : Int} {v : Int32} (hi : μ.2.2.2.2[i]? = some (pc, .bipush n, 2)) (hv : (Int8.ofInt n).toInt32 = v) (k : zGo G μ d b (pc + 2) lv (.int v :: st) h P) : zGo G μ d b pc lv (st) h P := by
  intro p l e R s m args below meth c C H locs ls hR hl h1 h2
  exact lv_bipush C.1 C.2.1 (zdg C hi) hv (k p l e R s m args below meth c C H locs ls hR hl h1 h2)
theorem z_sipush (i : Nat) {n : Int} {v : Int32} (hi : μ.2.2.2.2[i]? = some (pc, .sipush n, 3)) (hv : (Int16.ofInt n).toInt32 = v) (k : zGo G μ d b (pc + 3) lv (.int v :: st) h P) : zGo G μ d b pc lv (st) h P := by
  intro p l e R s m args below meth c C H locs ls hR hl h1 h2
  exact lv_sipush C.1 C.2.1 (zdg C hi) hv (k p l e R s m args below meth c C H locs ls hR hl h1 h2)
theorem z_lconst (i : Nat) {n : Fin 2} {v : Int64} (hi : μ.2.2.2.2[i]? = some (pc, .lconst n, 1)) (hv : Int64.ofNat (n : Nat) = v) (k : zGo G μ d b (pc + 1) lv (.long v :: st) h P) : zGo G μ d b pc lv (st) h P := by
  intro p l e R s m args below meth c C H locs ls hR hl h1 h2
  exact lv_lconst C.1 C.2.1 (zdg C hi) hv (k p l e R s m args below meth c C H locs ls hR hl h1 h2)
theorem z_ldc (i : Nat) {index : Nat} {v : Int32} (hi : μ.2.2.2.2[i]? = some (pc, .ldc index, 2)) (hc : Cond.constant μ.1.cls index v ∈ ztb) (k : zGo G μ d b (pc + 2) lv (.int v :: st) h P) : zGo G μ d b pc lv (st) h P := by
  intro p l e R s m args below meth c C H locs ls hR hl h1 h2
  exact lv_ldc C.1 C.2.1 C.2.2.2.2.2.1 (C.2.2.2.2.2.2.1 _ hc) (zdg C hi) (k p l e R s m args below meth c C H locs ls hR hl h1 h2)
theorem z_ldcw (i : Nat) {index : Nat} {v : Int32} (hi : μ.2.2.2.2[i]? = some (pc, .ldc_w index, 3)) (hc : Cond.constant μ.1.cls index v ∈ ztb) (k : zGo G μ d b (pc + 3) lv (.int v :: st) h P) : zGo G μ d b pc lv (st) h P := by
  intro p l e R s m args below meth c C H locs ls hR hl h1 h2
  exact lv_ldcw C.1 C.2.1 C.2.2.2.2.2.1 (C.2.2.2.2.2.2.1 _ hc) (zdg C hi) (k p l e R s m args below meth c C H locs ls hR hl h1 h2)
theorem z_ldc2 (i : Nat) {index : Nat} {v : Int64} (hi : μ.2.2.2.2[i]? = some (pc, .ldc2_w index, 3)) (hc : Cond.constantLong μ.1.cls index v ∈ ztb) (k : zGo G μ d b (pc + 3) lv (.long v :: st) h P) : zGo G μ d b pc lv (st) h P := by
  intro p l e R s m args below meth c C H locs ls hR hl h1 h2
  exact lv_ldc2 C.1 C.2.1 C.2.2.2.2.2.1 (C.2.2.2.2.2.2.1 _ hc) (zdg C hi) (k p l e R s m args below meth c C H locs ls hR hl h1 h2)
theorem z_iload_n (i : Nat) {n : Fin 4} {x : Int32} (hi : μ.2.2.2.2[i]? = some (pc, .iload_n n, 1)) (hx : lv[(n : Nat)]? = some (.int x)) (k : zGo G μ d b (pc + 1) lv (.int x :: st) h P) : zGo G μ d b pc lv (st) h P := by
  intro p l e R s m args below meth c C H locs ls hR hl h1 h2
  exact lv_iload_n C.1 C.2.1 (zdg C hi) rfl (hl.2.2 _ _ hx rfl) (k p l e R s m args below meth c C H locs ls hR hl h1 h2)
theorem z_iload (i : Nat) {n : Nat} {x : Int32} (hi : μ.2.2.2.2[i]? = some (pc, .iload n, 2)) (hx : lv[n]? = some (.int x)) (k : zGo G μ d b (pc + 2) lv (.int x :: st) h P) : zGo G μ d b pc lv (st) h P := by
  intro p l e R s m args below meth c C H locs ls hR hl h1 h2
  exact lv_iload C.1 C.2.1 (zdg C hi) (hl.2.2 _ _ hx rfl) (k p l e R s m args below meth c C H locs ls hR hl h1 h2)
theorem z_lload_n (i : Nat) {n : Fin 4} {x : Int64} (hi : μ.2.2.2.2[i]? = some (pc, .lload_n n, 1)) (hx : lv[(n : Nat)]? = some (.long x)) (k : zGo G μ d b (pc + 1) lv (.long x :: st) h P) : zGo G μ d b pc lv (st) h P := by
  intro p l e R s m args below meth c C H locs ls hR hl h1 h2
  exact lv_lload_n C.1 C.2.1 (zdg C hi) rfl (hl.2.2 _ _ hx rfl) (k p l e R s m args below meth c C H locs ls hR hl h1 h2)
theorem z_lload (i : Nat) {n : Nat} {x : Int64} (hi : μ.2.2.2.2[i]? = some (pc, .lload n, 2)) (hx : lv[n]? = some (.long x)) (k : zGo G μ d b (pc + 2) lv (.long x :: st) h P) : zGo G μ d b pc lv (st) h P := by
  intro p l e R s m args below meth c C H locs ls hR hl h1 h2
  exact lv_lload C.1 C.2.1 (zdg C hi) (hl.2.2 _ _ hx rfl) (k p l e R s m args below meth c C H locs ls hR hl h1 h2)
theorem z_aload_n (i : Nat) {n : Fin 4} {x : Nat} (hi : μ.2.2.2.2[i]? = some (pc, .aload_n n, 1)) (hx : lv[(n : Nat)]? = some (.ref x)) (k : zGo G μ d b (pc + 1) lv (.ref x :: st) h P) : zGo G μ d b pc lv (st) h P := by
  intro p l e R s m args below meth c C H locs ls hR hl h1 h2
  exact lv_aload_n C.1 C.2.1 (zdg C hi) rfl (hl.2.2 _ _ hx rfl) (k p l e R s m args below meth c C H locs ls hR hl h1 h2)
theorem z_aload (i : Nat) {n : Nat} {x : Nat} (hi : μ.2.2.2.2[i]? = some (pc, .aload n, 2)) (hx : lv[n]? = some (.ref x)) (k : zGo G μ d b (pc + 2) lv (.ref x :: st) h P) : zGo G μ d b pc lv (st) h P := by
  intro p l e R s m args below meth c C H locs ls hR hl h1 h2
  exact lv_aload C.1 C.2.1 (zdg C hi) (hl.2.2 _ _ hx rfl) (k p l e R s m args below meth c C H locs ls hR hl h1 h2)
theorem z_iadd (i : Nat) {x y : Int32} (hi : μ.2.2.2.2[i]? = some (pc, .iadd, 1))  (k : zGo G μ d b (pc + 1) lv (.int (x + y) :: st) h P) : zGo G μ d b pc lv (.int y :: .int x :: st) h P := by
  intro p l e R s m args below meth c C H locs ls hR hl h1 h2
  exact lv_iadd C.1 C.2.1 (zdg C hi) (k p l e R s m args below meth c C H locs ls hR hl h1 h2)
theorem z_isub (i : Nat) {x y : Int32} (hi : μ.2.2.2.2[i]? = some (pc, .isub, 1))  (k : zGo G μ d b (pc + 1) lv (.int (x - y) :: st) h P) : zGo G μ d b pc lv (.int y :: .int x :: st) h P := by
  intro p l e R s m args below meth c C H locs ls hR hl h1 h2
  exact lv_isub C.1 C.2.1 (zdg C hi) (k p l e R s m args below meth c C H locs ls hR hl h1 h2)
theorem z_imul (i : Nat) {x y : Int32} (hi : μ.2.2.2.2[i]? = some (pc, .imul, 1))  (k : zGo G μ d b (pc + 1) lv (.int (x * y) :: st) h P) : zGo G μ d b pc lv (.int y :: .int x :: st) h P := by
  intro p l e R s m args below meth c C H locs ls hR hl h1 h2
  exact lv_imul C.1 C.2.1 (zdg C hi) (k p l e R s m args below meth c C H locs ls hR hl h1 h2)
theorem z_iand (i : Nat) {x y : Int32} (hi : μ.2.2.2.2[i]? = some (pc, .iand, 1))  (k : zGo G μ d b (pc + 1) lv (.int (x &&& y) :: st) h P) : zGo G μ d b pc lv (.int y :: .int x :: st) h P := by
  intro p l e R s m args below meth c C H locs ls hR hl h1 h2
  exact lv_iand C.1 C.2.1 (zdg C hi) (k p l e R s m args below meth c C H locs ls hR hl h1 h2)
theorem z_ior (i : Nat) {x y : Int32} (hi : μ.2.2.2.2[i]? = some (pc, .ior, 1))  (k : zGo G μ d b (pc + 1) lv (.int (x ||| y) :: st) h P) : zGo G μ d b pc lv (.int y :: .int x :: st) h P := by
  intro p l e R s m args below meth c C H locs ls hR hl h1 h2
  exact lv_ior C.1 C.2.1 (zdg C hi) (k p l e R s m args below meth c C H locs ls hR hl h1 h2)
theorem z_ixor (i : Nat) {x y : Int32} (hi : μ.2.2.2.2[i]? = some (pc, .ixor, 1))  (k : zGo G μ d b (pc + 1) lv (.int (x ^^^ y) :: st) h P) : zGo G μ d b pc lv (.int y :: .int x :: st) h P := by
  intro p l e R s m args below meth c C H locs ls hR hl h1 h2
  exact lv_ixor C.1 C.2.1 (zdg C hi) (k p l e R s m args below meth c C H locs ls hR hl h1 h2)
theorem z_ishl (i : Nat) {x y : Int32} (hi : μ.2.2.2.2[i]? = some (pc, .ishl, 1))  (k : zGo G μ d b (pc + 1) lv (.int (x <<< (y &&& 31)) :: st) h P) : zGo G μ d b pc lv (.int y :: .int x :: st) h P := by
  intro p l e R s m args below meth c C H locs ls hR hl h1 h2
  exact lv_ishl C.1 C.2.1 (zdg C hi) (k p l e R s m args below meth c C H locs ls hR hl h1 h2)
theorem z_ishr (i : Nat) {x y : Int32} (hi : μ.2.2.2.2[i]? = some (pc, .ishr, 1))  (k : zGo G μ d b (pc + 1) lv (.int (x >>> (y &&& 31)) :: st) h P) : zGo G μ d b pc lv (.int y :: .int x :: st) h P := by
  intro p l e R s m args below meth c C H locs ls hR hl h1 h2
  exact lv_ishr C.1 C.2.1 (zdg C hi) (k p l e R s m args below meth c C H locs ls hR hl h1 h2)
theorem z_idiv (i : Nat) {x y : Int32} (hi : μ.2.2.2.2[i]? = some (pc, .idiv, 1)) (hne : ¬ y = 0) (k : zGo G μ d b (pc + 1) lv (.int (x / y) :: st) h P) : zGo G μ d b pc lv (.int y :: .int x :: st) h P := by
  intro p l e R s m args below meth c C H locs ls hR hl h1 h2
  exact lv_idiv C.1 C.2.1 (zdg C hi) hne (k p l e R s m args below meth c C H locs ls hR hl h1 h2)
theorem z_irem (i : Nat) {x y : Int32} (hi : μ.2.2.2.2[i]? = some (pc, .irem, 1)) (hne : ¬ y = 0) (k : zGo G μ d b (pc + 1) lv (.int (x - x / y * y) :: st) h P) : zGo G μ d b pc lv (.int y :: .int x :: st) h P := by
  intro p l e R s m args below meth c C H locs ls hR hl h1 h2
  exact lv_irem C.1 C.2.1 (zdg C hi) hne (k p l e R s m args below meth c C H locs ls hR hl h1 h2)
theorem z_ladd (i : Nat) {x y : Int64} (hi : μ.2.2.2.2[i]? = some (pc, .ladd, 1))  (k : zGo G μ d b (pc + 1) lv (.long (x + y) :: st) h P) : zGo G μ d b pc lv (.long y :: .long x :: st) h P := by
  intro p l e R s m args below meth c C H locs ls hR hl h1 h2
  exact lv_ladd C.1 C.2.1 (zdg C hi) (k p l e R s m args below meth c C H locs ls hR hl h1 h2)
theorem z_lsub (i : Nat) {x y : Int64} (hi : μ.2.2.2.2[i]? = some (pc, .lsub, 1))  (k : zGo G μ d b (pc + 1) lv (.long (x - y) :: st) h P) : zGo G μ d b pc lv (.long y :: .long x :: st) h P := by
  intro p l e R s m args below meth c C H locs ls hR hl h1 h2
  exact lv_lsub C.1 C.2.1 (zdg C hi) (k p l e R s m args below meth c C H locs ls hR hl h1 h2)
theorem z_lmul (i : Nat) {x y : Int64} (hi : μ.2.2.2.2[i]? = some (pc, .lmul, 1))  (k : zGo G μ d b (pc + 1) lv (.long (x * y) :: st) h P) : zGo G μ d b pc lv (.long y :: .long x :: st) h P := by
  intro p l e R s m args below meth c C H locs ls hR hl h1 h2
  exact lv_lmul C.1 C.2.1 (zdg C hi) (k p l e R s m args below meth c C H locs ls hR hl h1 h2)
theorem z_land (i : Nat) {x y : Int64} (hi : μ.2.2.2.2[i]? = some (pc, .land, 1))  (k : zGo G μ d b (pc + 1) lv (.long (x &&& y) :: st) h P) : zGo G μ d b pc lv (.long y :: .long x :: st) h P := by
  intro p l e R s m args below meth c C H locs ls hR hl h1 h2
  exact lv_land C.1 C.2.1 (zdg C hi) (k p l e R s m args below meth c C H locs ls hR hl h1 h2)
theorem z_ldiv (i : Nat) {x y : Int64} (hi : μ.2.2.2.2[i]? = some (pc, .ldiv, 1)) (hne : ¬ y = 0) (k : zGo G μ d b (pc + 1) lv (.long (x / y) :: st) h P) : zGo G μ d b pc lv (.long y :: .long x :: st) h P := by
  intro p l e R s m args below meth c C H locs ls hR hl h1 h2
  exact lv_ldiv C.1 C.2.1 (zdg C hi) hne (k p l e R s m args below meth c C H locs ls hR hl h1 h2)
theorem z_lneg (i : Nat) {x : Int64} (hi : μ.2.2.2.2[i]? = some (pc, .lneg, 1))  (k : zGo G μ d b (pc + 1) lv (.long (-x) :: st) h P) : zGo G μ d b pc lv (.long x :: st) h P := by
  intro p l e R s m args below meth c C H locs ls hR hl h1 h2
  exact lv_lneg C.1 C.2.1 (zdg C hi) (k p l e R s m args below meth c C H locs ls hR hl h1 h2)
theorem z_ineg (i : Nat) {x : Int32} (hi : μ.2.2.2.2[i]? = some (pc, .ineg, 1))  (k : zGo G μ d b (pc + 1) lv (.int (-x) :: st) h P) : zGo G μ d b pc lv (.int x :: st) h P := by
  intro p l e R s m args below meth c C H locs ls hR hl h1 h2
  exact lv_ineg C.1 C.2.1 (zdg C hi) (k p l e R s m args below meth c C H locs ls hR hl h1 h2)
theorem z_i2l (i : Nat) {x : Int32} (hi : μ.2.2.2.2[i]? = some (pc, .i2l, 1))  (k : zGo G μ d b (pc + 1) lv (.long x.toInt64 :: st) h P) : zGo G μ d b pc lv (.int x :: st) h P := by
  intro p l e R s m args below meth c C H locs ls hR hl h1 h2
  exact lv_i2l C.1 C.2.1 (zdg C hi) rfl (k p l e R s m args below meth c C H locs ls hR hl h1 h2)
theorem z_l2i (i : Nat) {x : Int64} (hi : μ.2.2.2.2[i]? = some (pc, .l2i, 1))  (k : zGo G μ d b (pc + 1) lv (.int x.toInt32 :: st) h P) : zGo G μ d b pc lv (.long x :: st) h P := by
  intro p l e R s m args below meth c C H locs ls hR hl h1 h2
  exact lv_l2i C.1 C.2.1 (zdg C hi) rfl (k p l e R s m args below meth c C H locs ls hR hl h1 h2)
theorem z_i2b (i : Nat) {x : Int32} (hi : μ.2.2.2.2[i]? = some (pc, .i2b, 1))  (k : zGo G μ d b (pc + 1) lv (.int x.toInt8.toInt32 :: st) h P) : zGo G μ d b pc lv (.int x :: st) h P := by
  intro p l e R s m args below meth c C H locs ls hR hl h1 h2
  exact lv_i2b C.1 C.2.1 (zdg C hi) rfl (k p l e R s m args below meth c C H locs ls hR hl h1 h2)
theorem z_i2c (i : Nat) {x v : Int32} (hi : μ.2.2.2.2[i]? = some (pc, .i2c, 1)) (hv : (x.toUInt32 % 65536).toInt32 = v) (k : zGo G μ d b (pc + 1) lv (.int v :: st) h P) : zGo G μ d b pc lv (.int x :: st) h P := by
  intro p l e R s m args below meth c C H locs ls hR hl h1 h2
  exact lv_i2c C.1 C.2.1 (zdg C hi) hv (k p l e R s m args below meth c C H locs ls hR hl h1 h2)
theorem z_lcmp (i : Nat) {x y : Int64} (hi : μ.2.2.2.2[i]? = some (pc, .lcmp, 1))  (k : zGo G μ d b (pc + 1) lv (.int (lg_cmp x y) :: st) h P) : zGo G μ d b pc lv (.long y :: .long x :: st) h P := by
  intro p l e R s m args below meth c C H locs ls hR hl h1 h2
  exact W.lcmp C.1 C.2.1 (zdg C hi) (k p l e R s m args below meth c C H locs ls hR hl h1 h2)
theorem zrv_cat (G : zG) (v : Value) : (zrv G v).category = v.category := by cases v <;> rfl
theorem z_dup (i : Nat) {va : Value} (hi : μ.2.2.2.2[i]? = some (pc, .dup, 1)) (hva : va.category = 1) (k : zGo G μ d b (pc + 1) lv (va :: va :: st) h P) : zGo G μ d b pc lv (va :: st) h P := by
  intro p l e R s m args below meth c C H locs ls hR hl h1 h2
  exact lv_dup C.1 C.2.1 (zdg C hi) ((zrv_cat G _).trans hva) (k p l e R s m args below meth c C H locs ls hR hl h1 h2)
theorem z_dup2 (i : Nat) {va vb : Value} (hi : μ.2.2.2.2[i]? = some (pc, .dup2, 1)) (hva : va.category = 1) (hvb : vb.category = 1) (k : zGo G μ d b (pc + 1) lv (va :: vb :: va :: vb :: st) h P) : zGo G μ d b pc lv (va :: vb :: st) h P := by
  intro p l e R s m args below meth c C H locs ls hR hl h1 h2
  exact lv_dup2_11 C.1 C.2.1 (zdg C hi) ((zrv_cat G _).trans hva) ((zrv_cat G _).trans hvb) (k p l e R s m args below meth c C H locs ls hR hl h1 h2)
theorem z_pop (i : Nat) {va : Value} (hi : μ.2.2.2.2[i]? = some (pc, .pop, 1)) (hva : va.category = 1) (k : zGo G μ d b (pc + 1) lv (st) h P) : zGo G μ d b pc lv (va :: st) h P := by
  intro p l e R s m args below meth c C H locs ls hR hl h1 h2
  exact lv_pop C.1 C.2.1 (zdg C hi) ((zrv_cat G _).trans hva) (k p l e R s m args below meth c C H locs ls hR hl h1 h2)
theorem z_if_eq (i tgt : Nat) {off : Int} {x : Int32} (hi : μ.2.2.2.2[i]? = some (pc, .ifCond .eq off, 3)) (ht : (pc : Int) + off = (tgt : Int)) (k : (x = 0 → zGo G μ d b tgt lv st h P) ∧ (¬ x = 0 → zGo G μ d b (pc + 3) lv st h P)) : zGo G μ d b pc lv (.int x :: st) h P := by
  intro p l e R s m args below meth c C H locs ls hR hl h1 h2
  exact lv_if_eq C.1 C.2.1 (zdg C hi) ht (fun z => k.1 z p l e R s m args below meth c C H locs ls hR hl h1 h2) (fun z => k.2 z p l e R s m args below meth c C H locs ls hR hl h1 h2)
theorem z_if_ne (i tgt : Nat) {off : Int} {x : Int32} (hi : μ.2.2.2.2[i]? = some (pc, .ifCond .ne off, 3)) (ht : (pc : Int) + off = (tgt : Int)) (k : (¬ x = 0 → zGo G μ d b tgt lv st h P) ∧ (x = 0 → zGo G μ d b (pc + 3) lv st h P)) : zGo G μ d b pc lv (.int x :: st) h P := by
  intro p l e R s m args below meth c C H locs ls hR hl h1 h2
  exact lv_if_ne C.1 C.2.1 (zdg C hi) ht (fun z => k.1 z p l e R s m args below meth c C H locs ls hR hl h1 h2) (fun z => k.2 z p l e R s m args below meth c C H locs ls hR hl h1 h2)
theorem z_if_lt (i tgt : Nat) {off : Int} {x : Int32} (hi : μ.2.2.2.2[i]? = some (pc, .ifCond .lt off, 3)) (ht : (pc : Int) + off = (tgt : Int)) (k : (x < 0 → zGo G μ d b tgt lv st h P) ∧ (¬ x < 0 → zGo G μ d b (pc + 3) lv st h P)) : zGo G μ d b pc lv (.int x :: st) h P := by
  intro p l e R s m args below meth c C H locs ls hR hl h1 h2
  exact lv_if_lt C.1 C.2.1 (zdg C hi) ht (fun z => k.1 z p l e R s m args below meth c C H locs ls hR hl h1 h2) (fun z => k.2 z p l e R s m args below meth c C H locs ls hR hl h1 h2)
theorem z_if_ge (i tgt : Nat) {off : Int} {x : Int32} (hi : μ.2.2.2.2[i]? = some (pc, .ifCond .ge off, 3)) (ht : (pc : Int) + off = (tgt : Int)) (k : (0 ≤ x → zGo G μ d b tgt lv st h P) ∧ (¬ 0 ≤ x → zGo G μ d b (pc + 3) lv st h P)) : zGo G μ d b pc lv (.int x :: st) h P := by
  intro p l e R s m args below meth c C H locs ls hR hl h1 h2
  exact lv_if_ge C.1 C.2.1 (zdg C hi) ht (fun z => k.1 z p l e R s m args below meth c C H locs ls hR hl h1 h2) (fun z => k.2 z p l e R s m args below meth c C H locs ls hR hl h1 h2)
theorem z_if_gt (i tgt : Nat) {off : Int} {x : Int32} (hi : μ.2.2.2.2[i]? = some (pc, .ifCond .gt off, 3)) (ht : (pc : Int) + off = (tgt : Int)) (k : (0 < x → zGo G μ d b tgt lv st h P) ∧ (¬ 0 < x → zGo G μ d b (pc + 3) lv st h P)) : zGo G μ d b pc lv (.int x :: st) h P := by
  intro p l e R s m args below meth c C H locs ls hR hl h1 h2
  exact lv_if_gt C.1 C.2.1 (zdg C hi) ht (fun z => k.1 z p l e R s m args below meth c C H locs ls hR hl h1 h2) (fun z => k.2 z p l e R s m args below meth c C H locs ls hR hl h1 h2)
theorem z_if_le (i tgt : Nat) {off : Int} {x : Int32} (hi : μ.2.2.2.2[i]? = some (pc, .ifCond .le off, 3)) (ht : (pc : Int) + off = (tgt : Int)) (k : (x ≤ 0 → zGo G μ d b tgt lv st h P) ∧ (¬ x ≤ 0 → zGo G μ d b (pc + 3) lv st h P)) : zGo G μ d b pc lv (.int x :: st) h P := by
  intro p l e R s m args below meth c C H locs ls hR hl h1 h2
  exact lv_if_le C.1 C.2.1 (zdg C hi) ht (fun z => k.1 z p l e R s m args below meth c C H locs ls hR hl h1 h2) (fun z => k.2 z p l e R s m args below meth c C H locs ls hR hl h1 h2)
theorem z_icmp_eq (i tgt : Nat) {off : Int} {x y : Int32} (hi : μ.2.2.2.2[i]? = some (pc, .if_icmp .eq off, 3)) (ht : (pc : Int) + off = (tgt : Int)) (k : (x = y → zGo G μ d b tgt lv st h P) ∧ (¬ x = y → zGo G μ d b (pc + 3) lv st h P)) : zGo G μ d b pc lv (.int y :: .int x :: st) h P := by
  intro p l e R s m args below meth c C H locs ls hR hl h1 h2
  exact lv_icmp_eq C.1 C.2.1 (zdg C hi) ht (fun z => k.1 z p l e R s m args below meth c C H locs ls hR hl h1 h2) (fun z => k.2 z p l e R s m args below meth c C H locs ls hR hl h1 h2)
theorem z_icmp_ne (i tgt : Nat) {off : Int} {x y : Int32} (hi : μ.2.2.2.2[i]? = some (pc, .if_icmp .ne off, 3)) (ht : (pc : Int) + off = (tgt : Int)) (k : (¬ x = y → zGo G μ d b tgt lv st h P) ∧ (x = y → zGo G μ d b (pc + 3) lv st h P)) : zGo G μ d b pc lv (.int y :: .int x :: st) h P := by
  intro p l e R s m args below meth c C H locs ls hR hl h1 h2
  exact lv_icmp_ne C.1 C.2.1 (zdg C hi) ht (fun z => k.1 z p l e R s m args below meth c C H locs ls hR hl h1 h2) (fun z => k.2 z p l e R s m args below meth c C H locs ls hR hl h1 h2)
theorem z_icmp_lt (i tgt : Nat) {off : Int} {x y : Int32} (hi : μ.2.2.2.2[i]? = some (pc, .if_icmp .lt off, 3)) (ht : (pc : Int) + off = (tgt : Int)) (k : (x < y → zGo G μ d b tgt lv st h P) ∧ (¬ x < y → zGo G μ d b (pc + 3) lv st h P)) : zGo G μ d b pc lv (.int y :: .int x :: st) h P := by
  intro p l e R s m args below meth c C H locs ls hR hl h1 h2
  exact lv_icmp_lt C.1 C.2.1 (zdg C hi) ht (fun z => k.1 z p l e R s m args below meth c C H locs ls hR hl h1 h2) (fun z => k.2 z p l e R s m args below meth c C H locs ls hR hl h1 h2)
theorem z_icmp_ge (i tgt : Nat) {off : Int} {x y : Int32} (hi : μ.2.2.2.2[i]? = some (pc, .if_icmp .ge off, 3)) (ht : (pc : Int) + off = (tgt : Int)) (k : (y ≤ x → zGo G μ d b tgt lv st h P) ∧ (¬ y ≤ x → zGo G μ d b (pc + 3) lv st h P)) : zGo G μ d b pc lv (.int y :: .int x :: st) h P := by
  intro p l e R s m args below meth c C H locs ls hR hl h1 h2
  exact lv_icmp_ge C.1 C.2.1 (zdg C hi) ht (fun z => k.1 z p l e R s m args below meth c C H locs ls hR hl h1 h2) (fun z => k.2 z p l e R s m args below meth c C H locs ls hR hl h1 h2)
theorem z_icmp_gt (i tgt : Nat) {off : Int} {x y : Int32} (hi : μ.2.2.2.2[i]? = some (pc, .if_icmp .gt off, 3)) (ht : (pc : Int) + off = (tgt : Int)) (k : (y < x → zGo G μ d b tgt lv st h P) ∧ (¬ y < x → zGo G μ d b (pc + 3) lv st h P)) : zGo G μ d b pc lv (.int y :: .int x :: st) h P := by
  intro p l e R s m args below meth c C H locs ls hR hl h1 h2
  exact lv_icmp_gt C.1 C.2.1 (zdg C hi) ht (fun z => k.1 z p l e R s m args below meth c C H locs ls hR hl h1 h2) (fun z => k.2 z p l e R s m args below meth c C H locs ls hR hl h1 h2)
theorem z_icmp_le (i tgt : Nat) {off : Int} {x y : Int32} (hi : μ.2.2.2.2[i]? = some (pc, .if_icmp .le off, 3)) (ht : (pc : Int) + off = (tgt : Int)) (k : (x ≤ y → zGo G μ d b tgt lv st h P) ∧ (¬ x ≤ y → zGo G μ d b (pc + 3) lv st h P)) : zGo G μ d b pc lv (.int y :: .int x :: st) h P := by
  intro p l e R s m args below meth c C H locs ls hR hl h1 h2
  exact lv_icmp_le C.1 C.2.1 (zdg C hi) ht (fun z => k.1 z p l e R s m args below meth c C H locs ls hR hl h1 h2) (fun z => k.2 z p l e R s m args below meth c C H locs ls hR hl h1 h2)
theorem z_goto (i tgt : Nat) {off : Int} (hi : μ.2.2.2.2[i]? = some (pc, .goto off, 3)) (ht : (pc : Int) + off = (tgt : Int)) (k : zGo G μ d b tgt lv st h P) : zGo G μ d b pc lv st h P := by
  intro p l e R s m args below meth c C H locs ls hR hl h1 h2
  exact lv_goto C.1 C.2.1 (zdg C hi) ht (k p l e R s m args below meth c C H locs ls hR hl h1 h2)
theorem z_tableOut (i tgt : Nat) {dflt lo hi9 : Int} {offs : Array Int} {len : Nat} {x : Int32} (hi : μ.2.2.2.2[i]? = some (pc, .tableswitch dflt lo hi9 offs, len)) (ht : (pc : Int) + dflt = (tgt : Int)) (hx : x.toInt < lo ∨ hi9 < x.toInt) (k : zGo G μ d b tgt lv st h P) : zGo G μ d b pc lv (.int x :: st) h P := by
  intro p l e R s m args below meth c C H locs ls hR hl h1 h2
  exact lv_tableOut C.1 C.2.1 (zdg C hi) hx ht (k p l e R s m args below meth c C H locs ls hR hl h1 h2)
theorem z_tableIn (i tgt : Nat) {dflt lo hi9 off : Int} {offs : Array Int} {len : Nat} {x : Int32} (hi : μ.2.2.2.2[i]? = some (pc, .tableswitch dflt lo hi9 offs, len)) (v : Int) (hx : x.toInt = v) (hv1 : ¬ v < lo) (hv2 : ¬ hi9 < v) (ho : offs[(v - lo).toNat]? = some off) (ht : (pc : Int) + off = (tgt : Int)) (k : zGo G μ d b tgt lv st h P) : zGo G μ d b pc lv (.int x :: st) h P := by
  subst hx
  intro p l e R s m args below meth c C H locs ls hR hl h1 h2
  exact lv_tableIn C.1 C.2.1 (zdg C hi) hv1 hv2 ho ht (k p l e R s m args below meth c C H locs ls hR hl h1 h2)
theorem z_lookup (i tgt : Nat) {dflt off : Int} {ps : Array (Int × Int)} {len : Nat} {x : Int32} (hi : μ.2.2.2.2[i]? = some (pc, .lookupswitch dflt ps, len)) (hp : (ps.toList.zip (ps.toList.drop 1)).all (fun (a, next) => a.1 < next.1) = true) (ho : Op.lookupswitch.offset ps.toList dflt x.toInt = off) (ht : (pc : Int) + off = (tgt : Int)) (k : zGo G μ d b tgt lv st h P) : zGo G μ d b pc lv (.int x :: st) h P := by
  intro p l e R s m args below meth c C H locs ls hR hl h1 h2
  exact lv_lookup C.1 C.2.1 (zdg C hi) hp ho ht (k p l e R s m args below meth c C H locs ls hR hl h1 h2)
end ZB
theorem zRep.nil {G : zG} {h : zMem} {H : Heap} {locs : List Loc} (hR : zRep G h H locs) : zRep G h H [] := ⟨hR.1, ⟨hR.2.1.1, hR.2.1.2.1, fun _ h => nomatch h⟩, hR.2.2⟩
theorem zKK.calling {G : zG} {U : State} {g : JFrame} {mk : MethodId} {a : Array Value} (h : zKK G U) : zKK G (U.calling g mk a) := ⟨va_K.moved (u := U) (U := U.calling g mk a) (Vm.Alike.refl U.vm) h.1, h.2.2 U _ (Or.inr rfl) h.2.1, h.2.2⟩
theorem zKK.warm {G : zG} {s U : State} (hW : s.WarmedH U.vm) (h : zKK G s) : zKK G U := ⟨va_K.moved hW.alike h.1, h.2.2 s U (Or.inl hW) h.2.1, h.2.2⟩
/-- the locals as the kit lists them -/
def zas (G : zG) (lv : List Value) : List (Nat × Value) := (List.range lv.length).filterMap (fun j => match lv[j]? with
  | some v => if zisU v then none else some (j, zrv G v)
  | none => none)
theorem zas_mem {G : zG} {lv : List Value} {q : Nat × Value} : q ∈ zas G lv ↔ ∃ v, lv[q.1]? = some v ∧ zisU v = false ∧ q.2 = zrv G v := by
  unfold zas
  rw [List.mem_filterMap]
  constructor
  · rintro ⟨j, hj, hq⟩
    cases hv : lv[j]? with
    | none => rw [hv] at hq; cases hq
    | some v =>
      rw [hv] at hq
      dsimp only at hq
      cases hu : zisU v with
      | true => rw [hu] at hq; cases hq
      | false =>
        rw [hu] at hq
        simp only [Bool.false_eq_true, if_false, Option.some.injEq] at hq
        subst hq
        exact ⟨v, hv, hu, rfl⟩
  · rintro ⟨v, h1, h2, h3⟩
    refine ⟨q.1, List.mem_range.mpr (List.getElem?_eq_some_iff.mp h1).1, ?_⟩
    rw [h1]
    dsimp only
    rw [h2, if_neg (by decide), ← h3]
theorem zLv.has {G : zG} {ls : Array Slot} {nL : Nat} {lv : List Value} (h : zLv G ls nL lv) : lv_has ls nL (zas G lv) := ⟨h.1, h.2.1, fun q hq => by
  obtain ⟨v, h1, h2, h3⟩ := zas_mem.mp hq
  rw [h3]
  exact h.2.2 _ v h1 h2⟩
/-- no long stands right ahead of place i -/
def zfree (lv : List Value) (i : Nat) : Bool := match i with
  | 0 => true
  | k + 1 => match lv[k]? with
    | some (.long _) => false
    | some (.double _) => false
    | _ => true
theorem zfree_ne {lv : List Value} {i j : Nat} {w : Value} (hf : zfree lv i = true) (hj : j + 1 = i) (hw : lv[j]? = some w) : w.category ≠ 2 := by
  subst hj
  simp only [zfree, hw] at hf
  cases w <;> simp_all [Value.category]
theorem zLv.set1 {G : zG} {ls' : Array Slot} {nL i : Nat} {lv : List Value} {v : Value} (hf : zfree lv i = true) (h' : lv_has ls' nL ((i, zrv G v) :: (zas G lv).filter (fun q => !(q.1 == i) && !(q.1 + 1 == i && q.2.category == 2)))) : zLv G ls' nL (lv.set i v) := by
  refine ⟨h'.1, h'.2.1, fun j w hj hu => ?_⟩
  by_cases e : j = i
  · subst e
    have hl : j < lv.length := by
      have := (List.getElem?_eq_some_iff.mp hj).1
      simpa using this
    rw [List.getElem?_set_self hl] at hj
    cases hj
    exact h'.2.2 (j, zrv G v) List.mem_cons_self
  · rw [List.getElem?_set_ne (Ne.symm e)] at hj
    refine h'.2.2 (j, zrv G w) (List.mem_cons_of_mem _ (List.mem_filter.mpr ⟨zas_mem.mpr ⟨w, hj, hu, rfl⟩, ?_⟩))
    simp only [Bool.and_eq_true, Bool.not_eq_true', beq_eq_false_iff_ne, ne_eq, Bool.and_eq_false_iff, zrv_cat]
    refine ⟨e, ?_⟩
    by_cases e2 : j + 1 = i
    · exact Or.inr (zfree_ne hf e2 hj)
    · exact Or.inl e2
theorem zLv.set2 {G : zG} {ls' : Array Slot} {nL i : Nat} {lv : List Value} {v : Value} (hf : zfree lv i = true) (h' : lv_has ls' nL ((i, zrv G v) :: (zas G lv).filter (fun q => !(q.1 == i) && (!(q.1 == i + 1) && !(q.1 + 1 == i && q.2.category == 2))))) : zLv G ls' nL ((lv.set i v).set (i + 1) zU) := by
  refine ⟨h'.1, h'.2.1, fun j w hj hu => ?_⟩
  by_cases e1 : j = i + 1
  · subst e1
    have hl : i + 1 < (lv.set i v).length := by
      have := (List.getElem?_eq_some_iff.mp hj).1
      simpa using this
    rw [List.getElem?_set_self hl] at hj
    cases hj
    cases hu
  · rw [List.getElem?_set_ne (Ne.symm e1)] at hj
    by_cases e : j = i
    · subst e
      have hl : j < lv.length := by
        have := (List.getElem?_eq_some_iff.mp hj).1
        simpa using this
      rw [List.getElem?_set_self hl] at hj
      cases hj
      exact h'.2.2 (j, zrv G v) List.mem_cons_self
    · rw [List.getElem?_set_ne (Ne.symm e)] at hj
      refine h'.2.2 (j, zrv G w) (List.mem_cons_of_mem _ (List.mem_filter.mpr ⟨zas_mem.mpr ⟨w, hj, hu, rfl⟩, ?_⟩))
      simp only [Bool.and_eq_true, Bool.not_eq_true', beq_eq_false_iff_ne, ne_eq, Bool.and_eq_false_iff, zrv_cat]
      refine ⟨e, e1, ?_⟩
      by_cases e2 : j + 1 = i
      · exact Or.inr (zfree_ne hf e2 hj)
      · exact Or.inl e2
/-- fewer locals are known -/
theorem zLv.sub {G : zG} {ls : Array Slot} {nL : Nat} {lv lv2 : List Value} (h : zLv G ls nL lv) (hs : ∀ (i : Nat) (v : Value), lv2[i]? = some v → zisU v = false → lv[i]? = some v) : zLv G ls nL lv2 := ⟨h.1, h.2.1, fun i v hi hu => h.2.2 i v (hs i v hi hu) hu⟩
section ZB2
variable {G : zG} {μ : zM} {d : Nat} {b : zB} {pc : Nat} {lv st : List Value} {h : zMem} {P : Option Value → zMem → Prop}
theorem z_locals {lv2 : List Value} (hs : ∀ (i : Nat) (v : Value), lv2[i]? = some v → zisU v = false → lv[i]? = some v) (k : zGo G μ d b pc lv2 st h P) : zGo G μ d b pc lv st h P := by
  intro p l e R s m args below meth c C H locs ls hR hl h1 h2
  exact k p l e R s m args below meth c C H locs ls hR (hl.sub hs) h1 h2
theorem z_istore_n (i : Nat) {n : Fin 4} {x : Int32} (hi : μ.2.2.2.2[i]? = some (pc, .istore_n n, 1)) (hn : (n : Nat) < μ.2.2.1) (hf : zfree lv n = true) (k : zGo G μ d b (pc + 1) (lv.set n (.int x)) st h P) : zGo G μ d b pc lv (.int x :: st) h P := by
  intro p l e R s m args below meth c C H locs ls hR hl h1 h2
  exact lv_istore_n C.1 C.2.1 (zdg C hi) rfl hl.has hn rfl (fun ls' hl' => k p l e R s m args below meth c C H locs ls' hR (zLv.set1 hf hl') h1 h2)
theorem z_istore (i : Nat) {n : Nat} {x : Int32} (hi : μ.2.2.2.2[i]? = some (pc, .istore n, 2)) (hn : n < μ.2.2.1) (hf : zfree lv n = true) (k : zGo G μ d b (pc + 2) (lv.set n (.int x)) st h P) : zGo G μ d b pc lv (.int x :: st) h P := by
  intro p l e R s m args below meth c C H locs ls hR hl h1 h2
  exact lv_istore C.1 C.2.1 (zdg C hi) hl.has hn rfl (fun ls' hl' => k p l e R s m args below meth c C H locs ls' hR (zLv.set1 hf hl') h1 h2)
theorem z_astore_n (i : Nat) {n : Fin 4} {x : Nat} (hi : μ.2.2.2.2[i]? = some (pc, .astore_n n, 1)) (hn : (n : Nat) < μ.2.2.1) (hf : zfree lv n = true) (k : zGo G μ d b (pc + 1) (lv.set n (.ref x)) st h P) : zGo G μ d b pc lv (.ref x :: st) h P := by
  intro p l e R s m args below meth c C H locs ls hR hl h1 h2
  exact lv_astore_n C.1 C.2.1 (zdg C hi) rfl hl.has hn rfl (fun ls' hl' => k p l e R s m args below meth c C H locs ls' hR (zLv.set1 (v := .ref x) hf hl') h1 h2)
theorem z_astore (i : Nat) {n : Nat} {x : Nat} (hi : μ.2.2.2.2[i]? = some (pc, .astore n, 2)) (hn : n < μ.2.2.1) (hf : zfree lv n = true) (k : zGo G μ d b (pc + 2) (lv.set n (.ref x)) st h P) : zGo G μ d b pc lv (.ref x :: st) h P := by
  intro p l e R s m args below meth c C H locs ls hR hl h1 h2
  exact lv_astore C.1 C.2.1 (zdg C hi) hl.has hn rfl (fun ls' hl' => k p l e R s m args below meth c C H locs ls' hR (zLv.set1 (v := .ref x) hf hl') h1 h2)
theorem z_lstore_n (i : Nat) {n : Fin 4} {x : Int64} (hi : μ.2.2.2.2[i]? = some (pc, .lstore_n n, 1)) (hn : (n : Nat) + 1 < μ.2.2.1) (hf : zfree lv n = true) (k : zGo G μ d b (pc + 1) ((lv.set n (.long x)).set (n + 1) zU) st h P) : zGo G μ d b pc lv (.long x :: st) h P := by
  intro p l e R s m args below meth c C H locs ls hR hl h1 h2
  exact lv_lstore_n C.1 C.2.1 (zdg C hi) rfl hl.has hn rfl (fun ls' hl' => k p l e R s m args below meth c C H locs ls' hR (zLv.set2 hf hl') h1 h2)
theorem z_lstore (i : Nat) {n : Nat} {x : Int64} (hi : μ.2.2.2.2[i]? = some (pc, .lstore n, 2)) (hn : n + 1 < μ.2.2.1) (hf : zfree lv n = true) (k : zGo G μ d b (pc + 2) ((lv.set n (.long x)).set (n + 1) zU) st h P) : zGo G μ d b pc lv (.long x :: st) h P := by
  intro p l e R s m args below meth c C H locs ls hR hl h1 h2
  exact lv_lstore C.1 C.2.1 (zdg C hi) hl.has hn rfl (fun ls' hl' => k p l e R s m args below meth c C H locs ls' hR (zLv.set2 hf hl') h1 h2)
theorem z_iinc (i : Nat) {n : Nat} {cn : Int} {x v : Int32} (hi : μ.2.2.2.2[i]? = some (pc, .iinc n cn, 3)) (hx : lv[n]? = some (.int x)) (hv : Int32.ofInt cn = v) (hn : n < μ.2.2.1) (hf : zfree lv n = true) (k : zGo G μ d b (pc + 3) (lv.set n (.int (x + v))) st h P) : zGo G μ d b pc lv st h P := by
  intro p l e R s m args below meth c C H locs ls hR hl h1 h2
  obtain ⟨j, hj⟩ := List.getElem?_of_mem (zas_mem (G := G) (q := (n, .int x)).mpr ⟨.int x, hx, rfl, rfl⟩)
  exact lv_iinc C.1 C.2.1 (zdg C hi) hl.has hj (by rw [hv]) hn rfl (fun ls' hl' => k p l e R s m args below meth c C H locs ls' hR (zLv.set1 (v := .int (x + v)) hf hl') h1 h2)
end ZB2
/-! cells under a write -/
def zO (h : zMem) (a ci : Nat) : Prop := a < zn h ∧ zK h a = ci
theorem zO_sI (h : zMem) (a i : Nat) (v : Int32) (x c : Nat) : zO (zsI h a i v) x c = zO h x c := rfl
theorem zO_sL (h : zMem) (a i : Nat) (v : Int64) (x c : Nat) : zO (zsL h a i v) x c = zO h x c := rfl
theorem zO_sR (h : zMem) (a i : Nat) (v : Option Nat) (x c : Nat) : zO (zsR h a i v) x c = zO h x c := rfl
theorem zup_row {α : Type} (f : Nat → Nat → α) {a i : Nat} (v : α) {k : Nat} (h : k ≠ a) : zup f a i v k = f k := funext fun j => zup_a f v j h
theorem zcell_i {G : zG} {h : zMem} {a : Nat} (hk : zK h a = 100) : zcell G h a = .inl (gA G 0, zLen h a, .inl (zI h a)) := by unfold zcell; rw [if_pos hk]
theorem zcell_l {G : zG} {h : zMem} {a : Nat} (hk : zK h a = 101) : zcell G h a = .inl (gA G 1, zLen h a, .inr (.inl (zL h a))) := by unfold zcell; rw [if_neg (by omega), if_pos hk]
theorem zcell_b {G : zG} {h : zMem} {a : Nat} (hk : zK h a = 102) : zcell G h a = .inl (gA G 2, zLen h a, .inl (zI h a)) := by unfold zcell; rw [if_neg (by omega), if_neg (by omega), if_pos hk]
theorem zcell_z {G : zG} {h : zMem} {a : Nat} (hk : zK h a = 103) : zcell G h a = .inl (gA G 3, zLen h a, .inl (zI h a)) := by unfold zcell; rw [if_neg (by omega), if_neg (by omega), if_neg (by omega), if_pos hk]
theorem zcell_q {G : zG} {h : zMem} {a : Nat} (hk : zK h a = 104) : zcell G h a = .inl (gA G 4, zLen h a, .inr (.inr (.inr (.inr (fun j => (zR h a j).map (zad G)))))) := by unfold zcell; rw [if_neg (by omega), if_neg (by omega), if_neg (by omega), if_neg (by omega), if_pos hk]
theorem zcell_o {G : zG} {h : zMem} {a ci : Nat} (hk : zK h a = ci) (hc : ci < 100) : zcell G h a = .inr (ci, zfs G h a ci) := by unfold zcell; rw [if_neg (by omega), if_neg (by omega), if_neg (by omega), if_neg (by omega), if_neg (by omega), hk]
theorem zcell_sI_ne {G : zG} {h : zMem} {a i : Nat} {v : Int32} {k : Nat} (hk : k ≠ a) : zcell G (zsI h a i v) k = zcell G h k := by
  have e : zI (zsI h a i v) k = zI h k := zup_row _ _ hk
  simp only [zcell, zfs, zK_sI, zLen_sI, zL_sI, zR_sI, e]
  have e2 : zfv G (zsI h a i v) k (zK h k) = zfv G h k (zK h k) := by
    funext j
    simp only [zfv, zL_sI, zR_sI, e]
  rw [e2]
  try rfl
theorem zcell_sL_ne {G : zG} {h : zMem} {a i : Nat} {v : Int64} {k : Nat} (hk : k ≠ a) : zcell G (zsL h a i v) k = zcell G h k := by
  have e : zL (zsL h a i v) k = zL h k := zup_row _ _ hk
  simp only [zcell, zfs, zK_sL, zLen_sL, zI_sL, zR_sL, e]
  have e2 : zfv G (zsL h a i v) k (zK h k) = zfv G h k (zK h k) := by
    funext j
    simp only [zfv, zI_sL, zR_sL, e]
  rw [e2]
  try rfl
theorem zcell_sR_ne {G : zG} {h : zMem} {a i : Nat} {v : Option Nat} {k : Nat} (hk : k ≠ a) : zcell G (zsR h a i v) k = zcell G h k := by
  have e : zR (zsR h a i v) k = zR h k := zup_row _ _ hk
  simp only [zcell, zfs, zK_sR, zLen_sR, zI_sR, zL_sR, e]
  have e2 : zfv G (zsR h a i v) k (zK h k) = zfv G h k (zK h k) := by
    funext j
    simp only [zfv, zI_sR, zL_sR, e]
  rw [e2]
  try rfl
def zint (t : FieldType) : Bool := match t with
  | .long => false
  | .object _ => false
  | .array _ => false
  | _ => true
def zrefT (t : FieldType) : Bool := match t with
  | .object _ => true
  | .array _ => true
  | _ => false
theorem zfv_int {G : zG} {h : zMem} {k ci j : Nat} (ht : zint (zty ci j) = true) : zfv G h k ci j = .int (zI h k j) := by
  unfold zfv; revert ht; cases zty ci j <;> simp [zint]
theorem zfv_ref {G : zG} {h : zMem} {k ci j : Nat} (ht : zrefT (zty ci j) = true) : zfv G h k ci j = va_rf ((zR h k j).map (zad G)) := by
  unfold zfv; revert ht; cases zty ci j <;> simp [zrefT]
theorem zfv_long {G : zG} {h : zMem} {k ci j : Nat} (ht : zty ci j = .long) : zfv G h k ci j = .long (zL h k j) := by
  unfold zfv; rw [ht]
theorem zfs_at {G : zG} {h : zMem} {k ci j : Nat} (hj : j < zfn ci) : (zfs G h k ci)[j]? = some (zfv G h k ci j) := by simp [zfs, hj]
theorem zfs_len {G : zG} {h : zMem} {k ci : Nat} : (zfs G h k ci).length = zfn ci := by simp [zfs]
theorem zfs_set {G : zG} {h h' : zMem} {k ci j : Nat} {v : Value} (hj : j < zfn ci) (hv : zfv G h' k ci j = v) (ho : ∀ i, i ≠ j → zfv G h' k ci i = zfv G h k ci i) : (zfs G h k ci).set j v = zfs G h' k ci := by
  apply List.ext_getElem?
  intro i
  by_cases e : i = j
  · subst e
    rw [List.getElem?_set_self (by rw [zfs_len]; exact hj), zfs_at hj, hv]
  · rw [List.getElem?_set_ne (Ne.symm e)]
    by_cases hl : i < zfn ci
    · rw [zfs_at hl, zfs_at hl, ho i e]
    · rw [List.getElem?_eq_none (by rw [zfs_len]; omega), List.getElem?_eq_none (by rw [zfs_len]; omega)]
/-- a class of the list: its number of fields, words, types, names -/
def zCF (ci : Nat) (C : String) (T : u_T) (N : Nat) : Prop := zcl[ci]? = some (C, T, N) ∧ (∀ w ∈ u_ws C T N, w ∈ ztb) ∧ (∀ k, k < N → parseFieldDescriptor (T k).2.2.1 = some (zty ci k)) ∧ (∀ a, a < N → ∀ b, b < N → a ≠ b → (T a).2.1 ≠ (T b).2.1) ∧ ci < 100
theorem zCF.n {ci : Nat} {C : String} {T : u_T} {N : Nat} (h : zCF ci C T N) : zfn ci = N := by unfold zfn; rw [h.1]
/-- a field's link: of class ci the field j, by entry 'index' of the class 'own' -/
def zFL (own : String) (index ci j : Nat) : Prop := ∃ (C : String) (T : u_T) (N : Nat), zCF ci C T N ∧ j < N ∧ Cond.fieldLink own index (T j).1 (T j).2.1 (T j).2.2.1 ∈ ztb
/-- it isn't final -/
def zNF (ci j : Nat) : Prop := ∃ (C : String) (T : u_T) (N : Nat), zcl[ci]? = some (C, T, N) ∧ (T j).2.2.2 = false
section ZB3
variable {G : zG} {μ : zM} {d : Nat} {b : zB} {pc : Nat} {lv st : List Value} {h : zMem} {P : Option Value → zMem → Prop}
theorem z_get (i : Nat) {index ci j a : Nat} {v : Value} (hi : μ.2.2.2.2[i]? = some (pc, .getfield index, 3)) (hf : zFL μ.1.cls index ci j) (ho : zO h a ci) (hv : zfv G h a ci j = zrv G v) (k : zGo G μ d b (pc + 3) lv (v :: st) h P) : zGo G μ d b pc lv (.ref a :: st) h P := by
  intro p l e R s m args below meth c C H locs ls hR hl h1 h2
  obtain ⟨Cn, T, N, hC, hj, hlk⟩ := hf
  exact va_get (v := zrv G v) C.1 C.2.1 C.2.2.2.2.2.2.1 hC.2.1 C.2.2.2.2.2.1 C.2.2.2.2.2.2.2.1.1 hR.1 a (by rw [zw_at ho.1, zcell_o ho.2 hC.2.2.2.2]) hC.1 j hj (C.2.2.2.2.2.2.1 _ hlk) (fun _ h9 => h9) (by rw [zfs_at (by rw [hC.n]; exact hj), hv]) (zdg C hi) (k p l e R s m args below meth c C H locs ls hR hl h1 h2)
theorem z_getI (i : Nat) {index ci j a : Nat} (hi : μ.2.2.2.2[i]? = some (pc, .getfield index, 3)) (hf : zFL μ.1.cls index ci j) (ht : zint (zty ci j) = true) (ho : zO h a ci) (k : zGo G μ d b (pc + 3) lv (.int (zI h a j) :: st) h P) : zGo G μ d b pc lv (.ref a :: st) h P := z_get i hi hf ho (zfv_int ht) k
theorem z_getL (i : Nat) {index ci j a : Nat} (hi : μ.2.2.2.2[i]? = some (pc, .getfield index, 3)) (hf : zFL μ.1.cls index ci j) (ht : zty ci j = .long) (ho : zO h a ci) (k : zGo G μ d b (pc + 3) lv (.long (zL h a j) :: st) h P) : zGo G μ d b pc lv (.ref a :: st) h P := z_get i hi hf ho (zfv_long ht) k
theorem z_getR (i : Nat) {index ci j a : Nat} {r : Nat} (hi : μ.2.2.2.2[i]? = some (pc, .getfield index, 3)) (hf : zFL μ.1.cls index ci j) (ht : zrefT (zty ci j) = true) (ho : zO h a ci) (hr : zR h a j = some r) (k : zGo G μ d b (pc + 3) lv (.ref r :: st) h P) : zGo G μ d b pc lv (.ref a :: st) h P := z_get i hi hf ho (by rw [zfv_ref ht, hr]; rfl) k
theorem zRep.set {G : zG} {h h' : zMem} {H H1 : Heap} {locs locs1 : List Loc} {a : Nat} {e : va_E} (hR : zRep G h H locs) (ha : a < zn h) (hn : zn h' = zn h) (hx : zx h' = zx h) (he : e = zcell G h' a) (ho : ∀ j, j ≠ a → zcell G h' j = zcell G h j) (hsz : H1.size = H.size) (hP : va_P (gD G) zcl ((zw G h).set a (zad G a, e)) H1) (hS : va_S (zA G) (gH G) H1 locs1) : zRep G h' H1 locs1 := by
  rw [zw_set ha hn he ho] at hP
  exact ⟨hP, hS, by rw [hsz, hn, hx]; exact hR.2.2.1, by rw [hn]; exact hR.2.2.2⟩
end ZB3
