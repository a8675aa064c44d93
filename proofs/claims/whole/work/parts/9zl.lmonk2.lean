/-! the law's monk: it catches -/
theorem z_ofWH {l : Launch} {y : MethodName} {ws ws' : List Cond} {rm : Room} {Pc : Array Value → State → Prop} {Qc : Array Value → State → Outcome → State → Prop} {mc ms : Nat} {free : Addr → Prop} {cc : ByteArray} {maxL : Nat} {ret : Option FieldType} {hh : List (Nat × Nat × Nat × Nat)}
    (hy : plainName y.cls = true) (hw : ws = Cond.codeWith y cc maxL ret hh :: ws')
    (body : ∀ p e s m args below meth c s₁, BodyLoose p l y (headSpec ws rm) cc maxL ret e s m args below meth c s₁ → c.maxLocals = maxL → Pc args s →
      W p l e (headSpec ws rm).room s m args below meth c s.heap [] 0 0 (MQ below Qc args s mc ms free) (entryFrame m args maxL)) : Met l y ws rm Pc Qc mc ms free := by
  refine MetFree.of_bodyS (code := cc) (maxLocals := maxL) (ret := ret) hy ?_ ?_
  · intro args s m h hn
    obtain ⟨m9, meth, c, hn9, h1, h2, h3, h4, -, h5, h6, -⟩ := Cond.codeWith_spec (atoms_spec (ws := ws) h _ (by rw [hw]; exact List.mem_cons_self))
    cases hn.symm.trans hn9
    exact ⟨meth, c, h1, h2, h3, h4, h5, h6⟩
  · intro p e s m args below meth c s₁ B hml hP _
    have hh0 : s₁.heap = s.heap := by rw [B.state]; rfl
    obtain ⟨t, a1, o, b1, b2, b3⟩ := body p e s m args below meth c s₁ B hml hP s₁ hh0 (Stand.of_body B)
    exact ⟨t, o, a1, b1, b2, b3⟩
def hhL : List (Nat × Nat × Nat × Nat) := [(0, 10, 13, 13), (0, 10, 17, 15)]
def mLm : zM := (yL_monk, cL_monk, 5, (some FieldType.int), [(0, .aload_n 3, 1), (1, .iconst 0, 1), (2, .aload_n 0, 1), (3, .iload_n 1, 1), (4, .iload_n 2, 1), (5, .invokevirtual 7, 3), (8, .i2l, 1), (9, .lastore, 1), (10, .goto 11, 3), (13, .astore 4, 2), (15, .iconst 1, 1), (16, .ireturn, 1), (17, .astore 4, 2), (19, .iconst 2, 1), (20, .ireturn, 1), (21, .iconst 0, 1), (22, .ireturn, 1)])
set_option maxRecDepth 100000 in
theorem eLm : zdec mLm := by unfold zdec; decide +kernel
theorem gLm7 : Cond.methodLink "SmellAbbeyLaw" 7 yX9_monk ∈ ztb ∧ Cond.instanceMethod yX9_monk ∈ ztb ∧ Cond.selects yX9_monk.cls yX9_monk yX9_monk ∈ ztb := ⟨ztb_t (zt5 _ (List.mem_of_getElem? (i := 47) rfl)) rfl, ztb_t (zt5 _ (List.mem_of_getElem? (i := 48) rfl)) rfl, ztb_t (zt5 _ (List.mem_of_getElem? (i := 49) rfl)) rfl⟩
theorem x1_at : (tableOf hhL) = [(tableOf hhL)[0]'(by decide), (tableOf hhL)[1]'(by decide)] := rfl
section LMK
variable {G : zG} {d : Nat}
set_option maxHeartbeats 1000000 in
theorem lmK_of (hG : gM G) : lmK G := by
  intro d l h x y t ns nd nr nm dt u nn tp S1 S2 h174 hI
  refine z_ofWH (cc := cL_monk) (maxL := 5) (ret := some .int) (hh := hhL) (by decide +kernel) rfl ?_
  intro p e s m args below meth c s₁ B hml hv
  obtain ⟨rfl, hR, hKK⟩ := hv
  have hts0 := atoms_spec (ws := Cond.codeWith yL_monk cL_monk 5 (some .int) hhL :: ztb) B.pre
  have htab : c.exceptionTable.toList = tableOf hhL := vx_table (x := yL_monk) B (hts0 _ List.mem_cons_self)
  have hts : ∀ w ∈ ztb, w.before (([.ref 0, .int x, .int y, .ref 174] : List Value).map (zrv G)).toArray s = true := fun w hw => hts0 w (List.mem_cons_of_mem _ hw)
  have C : zCtx G mLm (d + 200) (zn h + zx h, zs h, 1, 6) p (zroom (d + 200) 1 6) s m (([.ref 0, .int x, .int y, .ref 174] : List Value).map (zrv G)).toArray meth c := ⟨B.exec, B.bytes, hml, B.returns, B.notSynchronized, findClass_of_methodNamed B.named, hts, hKK, fun hi => (name_of_methodNamed B.named B.method).1.trans hi, eLm, rfl⟩
  have hl0 := lv_entry (([.ref 0, .int x, .int y, .ref 174] : List Value).map (zrv G)) (n := 5) (by rw [zwid_sl]; exact Nat.le_of_ble_eq_true rfl)
  rw [lg_entry_eq]
  generalize (lg_sl (([.ref 0, .int x, .int y, .ref 174] : List Value).map (zrv G)) ++ List.replicate (5 - (lg_sl (([.ref 0, .int x, .int y, .ref 174] : List Value).map (zrv G))).length) Slot.unset).toArray = ls at hl0 ⊢
  have hl : zLv G ls 5 (zent 5 [.ref 0, .int x, .int y, .ref 174]) := ⟨hl0.1, hl0.2.1, fun i v hi hu => by
    have := zent_args G [.ref 0, .int x, .int y, .ref 174] 5 0 i v (fun a ha => List.all_eq_true.mp (show ([.ref 0, .int x, .int y, .ref 174] : List Value).all zcat1 = true from rfl) a ha) hi hu
    rw [Nat.zero_add] at this
    exact hl0.2.2 _ this⟩
  have hln : zLv G ls 5 ([] : List Value) := ⟨hl.1, hl.2.1, fun i v hi => nomatch hi⟩
  have hE := hG s hKK.2.1
  have hown : s.vm.findClass "SmellAbbeyLaw" = some m.cls := C.2.2.2.2.2.1
  refine lv_aload_n (x := zad G 174) C.1 C.2.1 (zdg C (i := 0) rfl) rfl (hl.2.2 3 (.ref 174) rfl rfl) ?_
  refine lv_iconst (v := 0) C.1 C.2.1 (zdg C (i := 1) rfl) (by decide) ?_
  refine lv_aload_n (x := zad G 0) C.1 C.2.1 (zdg C (i := 2) rfl) rfl (hl.2.2 0 (.ref 0) rfl rfl) ?_
  refine lv_iload_n (x := x) C.1 C.2.1 (zdg C (i := 3) rfl) rfl (hl.2.2 1 (.int x) rfl rfl) ?_
  refine lv_iload_n (x := y) C.1 C.2.1 (zdg C (i := 4) rfl) rfl (hl.2.2 2 (.int y) rfl rfl) ?_
  have ho : zO h 0 8 := zcl1.o S1.1 0 8 rfl rfl rfl
  have he : (zw G h)[0]? = some (zad G 0, .inr (8, zfs G h 0 8)) := by rw [zw_at ho.1, zcell_o ho.2 (by decide)]
  have run : vx_Run p l.1 e (zroom (d + 200) 1 6) s m (([.ref 0, .int x, .int y, .ref 174] : List Value).map (zrv G)).toArray below meth c s.heap [] 0 0 1 6 (F0 m 5 ls [.int y, .int x, .ref (zad G 0), .int 0, .ref (zad G 174)]) [.int 0, .ref (zad G 174)] (zQ G (zn h + zx h, zs h, 1, 6) (zPI fun v h' => h' = zbm h ∧ mkK nm x y = 0 ∧ v = mkV (zI h) t x y) #[.ref (zad G 0), .int x, .int y]) (mXx G h nm x y) (zA G) :=
    vx_runV (As := [.int x, .int y]) (b := zad G 0) (n := 2) ⟨C.1, C.2.1, C.2.2.1, C.2.2.2.2.2.1, hts⟩ (X9_monk_x (d := d + 189) hG S1 hI x y l) ⟨callB_of 2 hts (ztb_GoodIn fX9_monk.1) rfl rfl rfl (hts _ fX9_monk.2.1) (hts _ gLm7.1) fX9_monk.2.2.1 ⟨by show d + 189 + 10 + 1 ≤ d + 200; omega, by show 8 + (3 + 11) + 64 * (d + 189 + 10) ≤ 64 * (d + 200); omega⟩, hts _ gLm7.2.1, hts _ gLm7.2.2⟩ ⟨zPc_blind, by
      obtain ⟨cell, g1, g2, g3⟩ := va_recv hKK.1 hR.1 (show zcl[8]? = some _ from rfl) he
      exact ⟨cell, g1, g2, g3⟩, fun U hU hW => ⟨rfl, by rw [hU]; exact hR.nil, zKK.warm hW hKK⟩⟩ rfl rfl hl.1 rfl (Nat.le_of_ble_eq_true rfl) (zdg C (i := 5) rfl) ⟨Nat.le_refl _, Nat.le_refl _⟩
  intro T hT X
  rcases run T hT X with ⟨v, st₀, t', T', L, g0, X', hL, e1, e2, ⟨r, h', hv, ⟨v', rfl, eh, k0, ev⟩, hRep, c1, c2⟩, st1⟩ | ⟨q, st₀, t', T', L, E, ce, g0, X', hL, e1, e2, ⟨hk, hRep⟩, hce, hcv, hcl, st1⟩
  · cases hv
    subst eh
    have h174' : zO (zbm h) 174 101 ∧ zLen (zbm h) 174 = 1 := h174
    have go : zGo G mLm (d + 200) (zn h + zx h, zs h, 1, 6) 8 (zent 5 [.ref 0, .int x, .int y, .ref 174]) [.int v', .int 0, .ref 174] (zbm h) (zPI fun k h' => k = mkK nm x y ∧ (k = 0 → h' = zsL (zbm h) 174 0 (mkV (zI h) t x y).toInt64) ∧ (k ≠ 0 → h' = zbm h)) := by
      refine z_i2l 6 rfl ?_
      refine z_last 7 rfl h174'.1 (by rw [h174'.2]; exact zin_n (k := 0) (n := 1) (by decide) (by decide)) ?_
      refine z_goto 8 21 rfl (by decide) ?_
      refine z_iconst (v := 0) 15 rfl (by decide) ?_
      refine z_iret 16 rfl rfl rfl ⟨c1, c2⟩ ⟨_, rfl, k0.symm, fun _ => ?_, fun z => absurd rfl z⟩
      rw [ev]
      rfl
    have q := go p l e (zroom (d + 200) 1 6) s m _ below meth c C T'.heap ([] ++ L) ls (by
      rw [e1]
      refine ⟨hRep.1, ⟨hRep.2.1.1, hRep.2.1.2.1, fun q hq => ?_⟩, hRep.2.2⟩
      exact hL q hq) hl (by show zn h + zx h ≤ zn h + (zx h + 1); omega) (by show zs h ≤ zs h + 6; omega)
    rw [show zn (zbm h) + zx (zbm h) - (zn h + zx h, zs h, 1, 6).1 = 0 + 1 by show zn h + (zx h + 1) - (zn h + zx h) = 0 + 1; omega, show zs (zbm h) - (zn h + zx h, zs h, 1, 6).2.1 = 0 + 6 by show zs h + 6 - zs h = 0 + 6; omega] at q
    obtain ⟨t2, a1, b1⟩ := q T' rfl X'
    exact ⟨t2, st1 t2 a1, b1⟩
  · have hRep' : zRep G (zbm h) T'.heap ([] ++ L) := by
      rw [e1]
      exact ⟨hRep.1, ⟨hRep.2.1.1, hRep.2.1.2.1, fun q hq => hL q hq⟩, hRep.2.2⟩
    have fin : ∀ (pc i : Nat) (k : Int32) (n : Int), mLm.2.2.2.2[i]? = some (pc, .astore 4, 2) → mLm.2.2.2.2[i + 1]? = some (pc + 2, .iconst n, 1) → Int32.ofInt n = k → mLm.2.2.2.2[i + 2]? = some (pc + 2 + 1, .ireturn, 1) → k = mkK nm x y → k ≠ 0 → W p l.1 e (zroom (d + 200) 1 6) s m (([.ref 0, .int x, .int y, .ref 174] : List Value).map (zrv G)).toArray below meth c T'.heap ([] ++ L) (0 + 1) (0 + 6) (MQ below (zQ G (zn h + zx h, zs h, 1, 6) (zPI fun k h' => k = mkK nm x y ∧ (k = 0 → h' = zsL (zbm h) 174 0 (mkV (zI h) t x y).toInt64) ∧ (k ≠ 0 → h' = zbm h))) (([.ref 0, .int x, .int y, .ref 174] : List Value).map (zrv G)).toArray s 1 6 (zA G)) (F0 m pc ls [.ref q]) := fun pc i k n i0 i1 hn i2 hk1 hk0 => by
      refine lv_astore C.1 C.2.1 (zdg C i0) hln.has (show 4 < 5 by decide) rfl (fun ls' hl' => ?_)
      have go : zGo G mLm (d + 200) (zn h + zx h, zs h, 1, 6) (pc + 2) [] [] (zbm h) (zPI fun k h' => k = mkK nm x y ∧ (k = 0 → h' = zsL (zbm h) 174 0 (mkV (zI h) t x y).toInt64) ∧ (k ≠ 0 → h' = zbm h)) := by
        refine z_iconst (v := k) (i + 1) i1 hn ?_
        exact z_iret (i + 2) i2 rfl rfl ⟨by show zn h + (zx h + 1) = zn h + zx h + 1; omega, rfl⟩ ⟨_, rfl, hk1, fun z => absurd z hk0, fun _ => rfl⟩
      have q := go p l e (zroom (d + 200) 1 6) s m _ below meth c C T'.heap ([] ++ L) ls' hRep' ⟨hl'.1, hl'.2.1, fun i v hi => nomatch hi⟩ (by show zn h + zx h ≤ zn h + (zx h + 1); omega) (by show zs h ≤ zs h + 6; omega)
      rw [show zn (zbm h) + zx (zbm h) - (zn h + zx h, zs h, 1, 6).1 = 0 + 1 by show zn h + (zx h + 1) - (zn h + zx h) = 0 + 1; omega, show zs (zbm h) - (zn h + zx h, zs h, 1, 6).2.1 = 0 + 6 by show zs h + 6 - zs h = 0 + 6; omega] at q
      exact q
    rw [← e1] at hce
    rcases hk with ⟨hk, rfl⟩ | ⟨hk, rfl⟩
    · obtain ⟨t2, a1, b1⟩ := vx_catch (pc := 5) (ls := ls) (rest := [.int 0, .ref (zad G 174)]) (name := eIO) hown [] ((tableOf hhL)[0]'(by decide)) [(tableOf hhL)[1]'(by decide)] (htab.trans x1_at) (fun z hz => nomatch hz) rfl (by decide) (hts _ (ztb_t (zt5 _ (List.mem_of_getElem? (i := 45) rfl)) rfl)) (va_Nw.use (by decide) (hE.2.2.2.2.1 _ (by decide))) hce hcv hcl (fin 13 9 1 1 rfl rfl (by decide) rfl hk.symm (by decide)) T' rfl X'
      exact ⟨t2, st1.trans a1, b1⟩
    · obtain ⟨t2, a1, b1⟩ := vx_catch (pc := 5) (ls := ls) (rest := [.int 0, .ref (zad G 174)]) (name := eNS) hown [(tableOf hhL)[0]'(by decide)] ((tableOf hhL)[1]'(by decide)) [] (htab.trans x1_at) (fun z hz => by
        rcases List.mem_singleton.mp hz with rfl
        exact Or.inr ⟨by decide, eIO, hts _ (ztb_t (zt5 _ (List.mem_of_getElem? (i := 45) rfl)) rfl), hE.2.2.2.2.2⟩) rfl (by decide) (hts _ (ztb_t (zt5 _ (List.mem_of_getElem? (i := 46) rfl)) rfl)) (va_Nw.use (by decide) (hE.2.2.2.2.1 _ (by decide))) hce hcv hcl (fin 17 12 2 2 rfl rfl (by decide) rfl hk.symm (by decide)) T' rfl X'
      exact ⟨t2, st1.trans a1, b1⟩
end LMK
