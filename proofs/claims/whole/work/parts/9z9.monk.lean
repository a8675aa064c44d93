/-! monk: it may throw -/
def eIO : String := "java/lang/IndexOutOfBoundsException"
def eNS : String := "java/util/NoSuchElementException"
def exN : List String := ["java/lang/RuntimeException", "java/lang/Exception"]
def ngL : List Cond := [.castable eIO eIO, .castable eNS eNS, .declares ⟨"java/lang/RuntimeException", "<init>", "()V"⟩, .declares ⟨"java/lang/RuntimeException", "<init>", "(Ljava/lang/String;)V"⟩, .declares ⟨"java/lang/Exception", "<init>", "()V"⟩, .declares ⟨"java/lang/Exception", "<init>", "(Ljava/lang/String;)V"⟩, .declares ⟨"java/lang/Throwable", "<init>", "()V"⟩, .declares ⟨"java/lang/Throwable", "<init>", "(Ljava/lang/String;)V"⟩, .privateMethod ⟨"java/lang/Throwable", "fillInStackTrace", "(I)Ljava/lang/Throwable;"⟩]
def gZ2 (X : Nat → Nat) (H : Heap) (U : State) : Prop := vk_R "SmellAbbey" 123 "no such monk" (X 5) U ∧ vk_R "SmellAbbey" 145 "no such what" (X 6) U ∧ vx_Zq Bundle.tN "UNASSIGNED_STACK" Bundle.steD (fun q => H.size ≤ q) U H ∧ vx_Zq Bundle.tN "SUPPRESSED_SENTINEL" Bundle.listD (fun q => H.size ≤ q) U H ∧ (∀ w ∈ ngL, va_Nw w U) ∧ va_Nc eNS eIO U
def gM (G : zG) : Prop := ∀ U, gE G U → gZ2 (gX G) (gH G) U
set_option maxRecDepth 100000 in
theorem atI_in : ∀ w ∈ (vx_atS "SmellAbbey" 125 eIO exN).filter goodWord, w ∈ lw_tbl := by decide +kernel
set_option maxRecDepth 100000 in
theorem atI_ng : ∀ w ∈ (vx_atS "SmellAbbey" 125 eIO exN).filter (fun w => !goodWord w), w ∈ ngL := by decide +kernel
set_option maxRecDepth 100000 in
theorem atN_ng : ∀ w ∈ (vx_atS "SmellAbbey" 147 eNS exN).filter (fun w => !goodWord w), w ∈ ngL := by decide +kernel
set_option maxRecDepth 100000 in
theorem atI_ot : ∀ w ∈ Cond.classLink "SmellAbbey" 121 eIO :: Cond.initialized eIO :: vx_atS "SmellAbbey" 125 eIO exN, vx_ot w = true := by decide +kernel
set_option maxRecDepth 100000 in
theorem atN_ot : ∀ w ∈ Cond.classLink "SmellAbbey" 143 eNS :: Cond.initialized eNS :: vx_atS "SmellAbbey" 147 eNS exN, vx_ot w = true := by decide +kernel
theorem ngL_ot : ∀ w ∈ ngL, w.onTables = true := by decide +kernel
def zbm (h : zMem) : zMem := ((zn h, zx h + 1, zs h + 6), h.2)
theorem zRep.bm {G : zG} {h : zMem} {H H1 : Heap} {locs : List Loc} (hR : zRep G h H locs) (hs : H.size ≤ H1.size) (ho : ∀ q, q < H.size → H1[q]? = H[q]?) : zRep G (zbm h) H1 locs := by
  obtain ⟨r1, r2, ⟨r3, r4⟩, r5⟩ := hR
  refine ⟨?_, ⟨Nat.le_trans r2.1 hs, fun x h1 h2 => (ho x (Nat.lt_of_lt_of_le h1 r2.1)).trans (r2.2.1 x h1 h2), r2.2.2⟩, ⟨fun q => absurd q (by show zx h + 1 ≠ 0; omega), Nat.le_trans r4 hs⟩, r5⟩
  show va_P (gD G) zcl (zw G h) H1
  exact r1.kept (fun k x hx => ho x.1 ((r1 k x hx).lt))
/-- what the class answers: 0 a monk and a thing of his; 1, 2 thrown -/
def mkK (nm : Nat) (x y : Int32) : Int32 := if x < 0 ∨ nI nm ≤ x then 1 else if y < 0 ∨ ¬ y ≤ 4 then 2 else 0
def mkV (I : Nat → Nat → Int32) (t : Nat) (x y : Int32) : Int32 := if y = 0 then I 59 x.toNatClampNeg else if y = 1 then I (t + 20) x.toNatClampNeg else if y = 2 then I 60 x.toNatClampNeg else if y = 3 then I 61 x.toNatClampNeg else I 62 x.toNatClampNeg
section MK
variable {G : zG} {d : Nat} {h : zMem}
theorem zvx_intro {l : zLc} {μ : zM} {d bc bs : Nat} {as : List Value} {Qc : Array Value → State → Outcome → State → Prop} {XC : String → State → State → Prop} (hy : plainName μ.1.cls = true) (hdec : zdec μ) (hw : zwid as ≤ μ.2.2.1) (hcat : as.all zcat1 = true)
    (k : ∀ (p : Program) (e : Env) (s : State) (m : MethodId) (args : Array Value) (below : List Frame) (meth : Method) (c : Code), zCtx G μ d (zn h + zx h, zs h, bc, bs) p (zroom d bc bs) s m args meth c → (∀ x ∈ c.exceptionTable.toList, False) → ∀ ls : Array Slot, zRep G h s.heap [] → zLv G ls μ.2.2.1 (zent μ.2.2.1 as) → W p l.1 e (zroom d bc bs) s m args below meth c s.heap [] 0 0 (vx_MQ below Qc XC args s bc bs (zA G)) (F0 m 0 ls [])) :
    vx_Met l.1 μ.1 (Cond.code μ.1 μ.2.1 μ.2.2.1 μ.2.2.2.1 :: ztb) (zroom d bc bs) (fun a U => a = (as.map (zrv G)).toArray ∧ zRep G h U.heap [] ∧ zKK G U) Qc XC bc bs (zA G) := by
  refine vx_ofW (cc := μ.2.1) (maxL := μ.2.2.1) (ret := μ.2.2.2.1) hy rfl ?_
  intro p e s m args below meth c s₁ B hml ht hv
  obtain ⟨rfl, hR, hKK⟩ := hv
  have hts := atoms_spec (ws := Cond.code μ.1 μ.2.1 μ.2.2.1 μ.2.2.2.1 :: ztb) B.pre
  have C : zCtx G μ d (zn h + zx h, zs h, bc, bs) p (zroom d bc bs) s m (as.map (zrv G)).toArray meth c := ⟨B.exec, B.bytes, hml, B.returns, B.notSynchronized, findClass_of_methodNamed B.named, fun w hw => hts w (List.mem_cons_of_mem _ hw), hKK, fun hi => (name_of_methodNamed B.named B.method).1.trans hi, hdec, rfl⟩
  have hl := lv_entry (as.map (zrv G)) (n := μ.2.2.1) (by rw [zwid_sl]; exact hw)
  rw [lg_entry_eq]
  generalize (lg_sl (as.map (zrv G)) ++ List.replicate (μ.2.2.1 - (lg_sl (as.map (zrv G))).length) Slot.unset).toArray = ls at hl ⊢
  exact k p e s m _ below meth c C ht ls hR ⟨hl.1, hl.2.1, fun i v hi hu => by
    have := zent_args G as μ.2.2.1 0 i v (fun a ha => List.all_eq_true.mp hcat a ha) hi hu
    rw [Nat.zero_add] at this
    exact hl.2.2 _ this⟩
theorem z_runQ {ν μ : zM} {b : zB} {pc : Nat} {st : List Value} {bc bs cells slots : Nat} {Q : Option Value → zMem → Prop} {aa : Array Value} {st0 : List Value} {p : Program} {l : zLc} {e : Env} {R : Room} {s : State} {m : MethodId} {args : Array Value} {below : List Frame} {meth : Method} {c : Code} {Q9 : State → Prop} {H : Heap} {locs : List Loc} {ls : Array Slot} (hR : zRep G h H locs)
    (hr : va_Run p l.1 e R s m args below meth c H locs cells slots bc bs (F0 m pc ls st0) (st.map (zrv G)) (zQ G (zn h + zx h, zs h, bc, bs) Q aa) (zA G))
    (k : ∀ r h', Q r h' → ∀ (H1 : Heap) (locs1 : List Loc), zRep G h' H1 locs1 → W p l.1 e R s m args below meth c H1 locs1 (cells + bc) (slots + bs) Q9 (F0 m (pc + 3) ls ((r.toList ++ st).map (zrv G)))) :
    W p l.1 e R s m args below meth c H locs cells slots Q9 (F0 m pc ls st0) := by
  intro T hT X
  obtain ⟨v, st₀, t, T', L, g0, X', hL, e1, e2, ⟨r, h', hv, hq, hRep, c1, c2⟩, st1⟩ := hr T hT X
  cases hv
  obtain ⟨t2, a1, b1⟩ := k r h' hq T'.heap (locs ++ L) (by
    rw [e1]
    refine ⟨hRep.1, ⟨hRep.2.1.1, hRep.2.1.2.1, fun q hq => ?_⟩, hRep.2.2⟩
    rcases List.mem_append.mp hq with hq | hq
    · exact hR.2.1.2.2 q hq
    · exact hL q hq) T' rfl X'
  refine ⟨t2, st1 t2 ?_, b1⟩
  have hst : (r.map (zrv G)).toList ++ st.map (zrv G) = (r.toList ++ st).map (zrv G) := by cases r <;> rfl
  show Steps p.tables e below (T'.setTop { F0 m pc ls st0 with pc := pc + 3, stack := (r.map (zrv G)).toList ++ st.map (zrv G) }) t2
  rw [hst]
  exact a1
/-- a throw of the class's own -/
theorem z_throw {μ : zM} {b : zB} {bc bs : Nat} {Qc : Array Value → State → Outcome → State → Prop} {XC : String → State → State → Prop} {p : Program} {l : zLc} {e : Env} {s : State} {m : MethodId} {args : Array Value} {below : List Frame} {meth : Method} {c : Code} (hG : gM G) (C : zCtx G μ (d + 10) b p (zroom (d + 10) 1 6) s m args meth c) (ho : μ.1.cls = "SmellAbbey") (ht : ∀ x ∈ c.exceptionTable.toList, False) {H : Heap} {locs : List Loc} {ls : Array Slot} (hR : zRep G h H locs) (hl : zLv G ls μ.2.2.1 ([] : List Value)) {cls text : String} {ik is ic sa pc : Nat}
    (hcl : Bundle.fit cls = true) (hk : Cond.classLink "SmellAbbey" ik cls ∈ ztb) (hini : Cond.initialized cls ∈ ztb) (hstr : vk_R "SmellAbbey" is text sa s) (h1 : ∀ w ∈ (vx_atS "SmellAbbey" ic cls exN).filter goodWord, w ∈ lw_tbl) (h2 : ∀ w ∈ (vx_atS "SmellAbbey" ic cls exN).filter (fun w => !goodWord w), w ∈ ngL) (h3 : ∀ w ∈ Cond.classLink "SmellAbbey" ik cls :: Cond.initialized cls :: vx_atS "SmellAbbey" ic cls exN, vx_ot w = true)
    (d0 : decode μ.2.1 pc = .ok (.new ik, 3)) (d3 : decode μ.2.1 (pc + 3) = .ok (.dup, 1)) (d4 : decode μ.2.1 (pc + 4) = .ok (.ldc is, 2)) (d6 : decode μ.2.1 (pc + 6) = .ok (.invokespecial ic, 3)) (d9 : decode μ.2.1 (pc + 9) = .ok (.athrow, 1))
    (hx : ∀ t : State, zRep G (zbm h) t.heap [] → XC cls s t) : W p l.1 e (zroom (d + 10) 1 6) s m args below meth c H locs 0 0 (vx_MQ below Qc XC args s 1 6 (zA G)) (F0 m pc ls []) := by
  have hts := C.2.2.2.2.2.2.1
  have hE := hG s C.2.2.2.2.2.2.2.1.2.1
  have hown : s.vm.findClass "SmellAbbey" = some m.cls := by rw [← ho]; exact C.2.2.2.2.2.1
  refine vx_throwS (names := exN) (mc := 1) (ms := 6) (A := zA G) (H0 := gH G) (rest := []) C.1 C.2.1 l.2 hown hcl (by decide) (hts _ hk) (hts _ hini) hstr (vx_hat (B := ngL) (fun w hw => hts w (ztb_in (h1 w hw) (List.mem_filter.mp hw).2)) h2 (fun w hw => va_Nw.use (ngL_ot w hw) (hE.2.2.2.2.1 w hw))) h3 hE.2.2.1 hE.2.2.2.1 hR.2.1 (hl.1.trans C.2.2.1.symm) d0 d3 d4 d6 d9 (fun x hx => (ht x hx).elim) (by show exN.length + 3 < d + 10; show 2 + 3 < d + 10; omega) (by show 0 + (13 * (2 + 1) + 43) ≤ 64 * (d + 10); omega) (by show 0 + 1 ≤ 1; decide) (by show 0 + 6 ≤ 6; decide) C.2.2.2.2.1 (fun t _ hs ho => hx t ?_) hR.2.1.2.2 (by decide) (by decide)
  exact (hR.nil).bm hs ho
end MK
