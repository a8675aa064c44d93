/-! THE CLAIM OUT OF ONE WALK OF THE LAW'S BODY. Your part is whole_start (and what it stands on); all else here is the same for every law, but numbers. -/
def R_law : String := "SmellAbbeyLaw"
def lw_P (b : Addr) (xs : List Int32) (args : Array Value) (s : State) : Prop := args = #[.ref b] ∧ s.IntsAt b xs ∧ xs.length ≤ 3072 ∧ (Jvm.Cond.and given_1 narrow_1).before args s = true
def lw_Q (_ : Array Value) (s : State) (o : Outcome) (t : State) : Prop := o = .returned (some (.int 1)) ∧ Framed s o t [] 601024 7293034
def lw_Z (below : List Frame) (a : Array Value) (s : State) : State → Prop := fun t => ∃ o, t.status = .running ∧ Ended t below o ∧ lw_Q a s o t
/-- the law's own end, with 1 on the stack, nothing written that was there before, its room as the claim has it -/
theorem lw_ret {p : Program} {l : Launch} {e : Env} {s : State} {m : MethodId} {below : List Frame} {meth : Method} {c : Code} {b : Nat} (hx : p.tables.exec = Jvm.exec) (hb : c.code = code) (hr : meth.sig.returnType = ret) (hlocks : meth.locks = false) {pc : Nat} {H : Heap} {ls : Array Slot} (hdg : decode code pc = .ok (.ireturn, 1)) : W p l e room_1 s m #[Value.ref b] below meth c H [] 601024 7293034 (lw_Z below #[Value.ref b] s) (F0 m pc ls [.int 1]) := by
  intro T hT X
  obtain ⟨fs, hret, hrun, hended, hW, hframe⟩ := X.leave (v := some (.int 1)) (hlocks := hlocks) (fun h => by rw [hr] at h; cases h)
  have hmeth' : T.vm.method? m = some meth := X.method'
  refine ⟨T.setFrames fs, ?_, .returned (some (.int 1)), hrun, hended, rfl, ⟨_, rfl⟩, hW, hframe⟩
  jvm_step X.here [X.here.top, hx, hb, hdg, hmeth', hr, ret, narrow_b1]
  (try refine ⟨rfl, ?_⟩); (try refine ⟨rfl, ?_⟩)
  first | (intro acts; rw [hret _ acts rfl rfl rfl]) | rw [hret _ _ rfl rfl rfl]
  exact Steps.refl _
/-- what holds at the law's entry: the machine, the code, the tables' words (any of lw_tbl by 'hts w (by decide +kernel)'), the script of L ints xs at the cell b, what the Statement gives of the start (any of its parts by flat_of_before) -/
def lw_At (p : Program) (s : State) (m : MethodId) (meth : Method) (c : Code) (b L : Nat) (xs : Nat → Int32) : Prop :=
  p.tables.exec = Jvm.exec ∧ c.code = code ∧ meth.sig.returnType = ret ∧ c.maxLocals = 7 ∧ s.vm.findClass R_law = some m.cls ∧ (∀ w ∈ lw_tbl, w.before #[Value.ref b] s = true) ∧ va_X b L xs s s.heap ∧ b < s.heap.size ∧ meth.locks = false ∧ (Jvm.Cond.and given_1 narrow_1).before #[Value.ref b] s = true
/-- a smaller room is there too -/
theorem st_room {p : Program} {l : Launch} {e : Env} {R R' : Room} {s : State} {m : MethodId} {args : Array Value} {below : List Frame} {meth : Method} {c : Code} {T : State} {locs : List Loc} {cells slots : Nat} (X : Stand p l e R s m args below meth c T locs cells slots) (hf : R'.frames ≤ R.frames) (hl : R'.locals ≤ R.locals) (hc : R'.cells ≤ R.cells) (hs : R'.slots ≤ R.slots) : Stand p l e R' s m args below meth c T locs cells slots := by
  refine ⟨X.admits, X.cas, X.clock, X.frames, ?_, X.hears, X.method, X.code, X.here, X.tail, X.warmed, X.limits, X.bytes, X.same⟩
  have h := X.room
  simp only [State.hasRoom, Bool.and_eq_true, decide_eq_true_eq] at h ⊢
  obtain ⟨⟨⟨⟨h1, h2, h3, h4, h5, h6⟩, h7⟩, h8⟩, h9⟩ := h
  exact ⟨⟨⟨⟨by omega, by omega, by omega, by omega, by omega, h6⟩, by omega⟩, by omega⟩, h9⟩
def h00 : zMem := ((0, 0, 0), (fun _ => 0, fun _ => 0, fun _ _ => none), (fun _ _ => 0, fun _ _ => 0))
set_option maxHeartbeats 1000000 in
set_option maxRecDepth 100000 in
theorem whole_start {p : Program} {e : Env} {s : State} {m : MethodId} {below : List Frame} {meth : Method} {c : Code} (l : Launch) (hfl : l.flags = flags0) {b L : Nat} {xs : Nat → Int32} (hL : L ≤ 3072) (C0 : lw_At p s m meth c b L xs) : W p l e room_1 s m #[Value.ref b] below meth c s.heap [] 0 0 (lw_Z below #[Value.ref b] s) (entryFrame m ([Value.ref b] : List Value).toArray 7) := by
  obtain ⟨hx, hb, hr, hml, hown, hts, hX, hbl, hlocks, hgv⟩ := id C0
  obtain ⟨X, hX3, hE⟩ := w_start hts hgv hX hbl
  have kn : ∀ {ci : Nat} {C : String} {T : u_T} {N : Nat}, zCF ci C T N → (Cond.instantiable C N).before #[Value.ref b] s = true → ∃ (cC : ClassId) (iS : Nat → Nat), u_Kn s C T N cC iS := fun hC hi => u_known (ws := ztb) (fun w hw => hts w (List.mem_filter.mp hw).1) hC.2.1 hi
  obtain ⟨c0, i0, k0⟩ := kn zc0 (hts (.instantiable RX0 9) (by decide +kernel))
  obtain ⟨c1, i1, k1⟩ := kn zc1 (hts (.instantiable RX1 8) (by decide +kernel))
  obtain ⟨c2, i2, k2⟩ := kn zc2 (hts (.instantiable RX2 1) (by decide +kernel))
  obtain ⟨c3, i3, k3⟩ := kn zc3 (hts (.instantiable RX3 9) (by decide +kernel))
  obtain ⟨c4, i4, k4⟩ := kn zc4 (hts (.instantiable RX4 8) (by decide +kernel))
  obtain ⟨c5, i5, k5⟩ := kn zc5 (hts (.instantiable RX5 15) (by decide +kernel))
  obtain ⟨c6, i6, k6⟩ := kn zc6 (hts (.instantiable RX7 13) (by decide +kernel))
  obtain ⟨c7, i7, k7⟩ := kn zc7 (hts (.instantiable RX8 4) (by decide +kernel))
  obtain ⟨c8, i8, k8⟩ := kn zc8 (hts (.instantiable RX9 14) (by decide +kernel))
  obtain ⟨c9, i9, k9⟩ := kn zc9 (hts (.instantiable RX10 68) (by decide +kernel))
  obtain ⟨dC, dI, hKc⟩ : ∃ (dC : Nat → ClassId) (dI : Nat → Nat → Nat), ∀ (k : Nat) (q : vw_C), zcl[k]? = some q → u_Kn s q.1 q.2.1 q.2.2 (dC k) (dI k) := by
    refine ⟨fun k => match k with
    | 0 => c0
    | 1 => c1
    | 2 => c2
    | 3 => c3
    | 4 => c4
    | 5 => c5
    | 6 => c6
    | 7 => c7
    | 8 => c8
    | _ => c9, fun k => match k with
    | 0 => i0
    | 1 => i1
    | 2 => i2
    | 3 => i3
    | 4 => i4
    | 5 => i5
    | 6 => i6
    | 7 => i7
    | 8 => i8
    | _ => i9, ?_⟩
    intro k q hq
    match k, hq with
    | 0, hq => cases Option.some.inj (zc0.1.symm.trans hq); exact k0
    | 1, hq => cases Option.some.inj (zc1.1.symm.trans hq); exact k1
    | 2, hq => cases Option.some.inj (zc2.1.symm.trans hq); exact k2
    | 3, hq => cases Option.some.inj (zc3.1.symm.trans hq); exact k3
    | 4, hq => cases Option.some.inj (zc4.1.symm.trans hq); exact k4
    | 5, hq => cases Option.some.inj (zc5.1.symm.trans hq); exact k5
    | 6, hq => cases Option.some.inj (zc6.1.symm.trans hq); exact k6
    | 7, hq => cases Option.some.inj (zc7.1.symm.trans hq); exact k7
    | 8, hq => cases Option.some.inj (zc8.1.symm.trans hq); exact k8
    | 9, hq => cases Option.some.inj (zc9.1.symm.trans hq); exact k9
    | k + 10, hq => exact absurd hq (by simp [zcl, vwCl])
  obtain ⟨a0, A0⟩ := w_arr (fun C h => by cases h) (hts (.arrayClass .int) (by decide +kernel))
  obtain ⟨a1, A1⟩ := w_arr (fun C h => by cases h) (hts (.arrayClass .long) (by decide +kernel))
  obtain ⟨a2, A2⟩ := w_arr (fun C h => by cases h) (hts (.arrayClass .byte) (by decide +kernel))
  obtain ⟨a3, A3⟩ := w_arr (fun C h => by cases h) (hts (.arrayClass .boolean) (by decide +kernel))
  obtain ⟨a4, A4⟩ := w_over (hts (.arrayOver (.array .int)) (by decide +kernel))
  obtain ⟨G, hG⟩ : ∃ G : zG, G = ((dC, dI), (fun k => match k with
    | 0 => a0
    | 1 => a1
    | 2 => a2
    | 3 => a3
    | _ => a4), X, s.heap, gEd X s.heap b L xs) := ⟨_, rfl⟩
  have hKK : zKK G s := by
    subst hG
    refine ⟨⟨hKc, fun k q hk => ?_⟩, hE, gEd_moved⟩
    match k, hk with
    | 0, hk => cases Option.some.inj hk; exact A0
    | 1, hk => cases Option.some.inj hk; exact A1
    | 2, hk => cases Option.some.inj hk; exact A2
    | 3, hk => cases Option.some.inj hk; exact A3
    | 4, hk => cases Option.some.inj hk; exact A4
    | k + 5, hk => exact absurd hk (by simp [zTy])
  have hgE : ∀ U, gE G U → gEd X s.heap b L xs U := fun U h => by subst hG; exact h
  have hgX : gX G = X := by subst hG; rfl
  have hgH : gH G = s.heap := by subst hG; rfl
  have hW : gW G := fun U h => by rw [hgX, hgH]; exact (hgE U h).1
  have hM : gM G := fun U h => by rw [hgX, hgH]; exact (hgE U h).2.1
  have hov : zOv G := fun U h => (hgE U h).2.2.1
  have hns : zNs G := ⟨fun U h => (hgE U h).2.2.2.1 ("SmellAbbey", 15, mX3_init.1) (by decide), fun U h => (hgE U h).2.2.2.1 ("SmellAbbey$Reader", 27, mX7_init.1) (by decide), fun U h => (hgE U h).2.2.2.1 ("SmellAbbey$Told", 41, mX0_init.1) (by decide), fun U h => (hgE U h).2.2.2.1 ("SmellAbbey", 22, mX1_init.1) (by decide), fun U h => (hgE U h).2.2.2.1 ("SmellAbbey", 29, mX8_init.1) (by decide), fun U h => (hgE U h).2.2.2.1 ("SmellAbbey", 36, mX5_init.1) (by decide), fun U h => (hgE U h).2.2.2.1 ("SmellAbbey", 49, mX2_init.1) (by decide), fun U h => (hgE U h).2.2.2.1 ("SmellAbbey", 66, mX7_init.1) (by decide)⟩
  have hzb : zad G 1000003 = b := by
    have := zad_x G 3
    rw [hgX, hX3] at this
    exact this
  have hs : scr G L xs := fun U h => by
    rw [hzb]
    unfold zA
    rw [hgH]
    exact (hgE U h).2.2.2.2
  have C : zCtx G mL_law 1312 (0, 0, 601024, 7293034) p (zroom 1312 601024 7293034) s m #[Value.ref b] meth c := ⟨hx, hb, hml, hr, hlocks, hown, fun w hw => hts w (List.mem_filter.mp hw).1, hKK, fun h => absurd h (by decide), eL_law, rfl⟩
  have hRep : zRep G h00 s.heap [] := by
    refine ⟨fun k q h => ?_, ?_, ⟨fun _ => ?_, ?_⟩, by decide⟩
    · have e : zw G h00 = [] := rfl
      rw [e] at h
      simp at h
    · unfold zA
      rw [hgH]
      exact va_S.rf
    · rw [hgH]; rfl
    · rw [hgH]; exact Nat.le_refl _
  have hl := lv_entry ([.ref b]) (n := 7) (Nat.le_of_ble_eq_true rfl)
  rw [lg_entry_eq]
  generalize (lg_sl ([.ref b]) ++ List.replicate (7 - (lg_sl ([.ref b])).length) Slot.unset).toArray = ls at hl ⊢
  have hl : lv_has ls 7 [(0, .ref b)] := hl
  have hlv : zLv G ls 7 [.ref 1000003, zU, zU, zU, zU, zU, zU] := by
    refine ⟨hl.1, hl.2.1, fun i v hi hu => ?_⟩
    match i, hi with
    | 0, hi =>
      cases Option.some.inj hi
      show ls[0]? = some (.val (.ref (zad G 1000003)))
      rw [hzb]
      exact hl.2.2 (0, .ref b) List.mem_cons_self
    | 1, hi => cases Option.some.inj hi; cases hu
    | 2, hi => cases Option.some.inj hi; cases hu
    | 3, hi => cases Option.some.inj hi; cases hu
    | 4, hi => cases Option.some.inj hi; cases hu
    | 5, hi => cases Option.some.inj hi; cases hu
    | 6, hi => cases Option.some.inj hi; cases hu
    | k + 7, hi => exact absurd hi (by simp)
  have q := lw_go (G := G) (d := 1111) (b := (0, 0, 601024, 7293034)) (h := h00) (Q := fun v _ => v = 1) hW hov hns (lmK_of hM) hs hL ⟨by decide, by decide⟩ (fun _ => rfl) rfl rfl rfl p ⟨l, hfl⟩ e (zroom 1312 601024 7293034) s m #[Value.ref b] below meth c C s.heap [] ls hRep hlv (Nat.zero_le _) (Nat.zero_le _)
  intro T hT XS
  obtain ⟨t, s1, o, b1, b2, ⟨r, h', ho, ⟨v, rfl, rfl⟩, -⟩, Lc, hF, hz⟩ := q T hT (st_room XS (by decide) (by decide) (by decide) (by decide))
  refine ⟨t, s1, o, b1, b2, ho, hF.1, hF.2.1, hF.2.2.weaken (fun x hx hlt => ?_) (Nat.le_refl _) (Nat.le_refl _)⟩
  have := hz x hx
  unfold zA at this
  rw [hgH] at this
  exact absurd this (Nat.not_le.mpr hlt)
set_option maxHeartbeats 4000000 in
theorem lw_walk (l : Launch) (hfl : l.flags = flags0) (b : Addr) (xs : List Int32) : MetFree l x (headSpec (Jvm.Cond.code x code maxLocals ret :: tables_1) room_1) (lw_P b xs) (fun _ _ _ _ _ => True) lw_Q := by
  refine MetFree.of_bodyS (code := code) (maxLocals := maxLocals) (ret := ret) (by decide) ?_ ?_
  · intro args s m h hn
    obtain ⟨meth, c, h1, h2, h3, h4, h5, h6, -, -⟩ := Cond.code_spec hn (atoms_spec (ws := Jvm.Cond.code x code maxLocals ret :: tables_1) h _ List.mem_cons_self)
    exact ⟨meth, c, h1, h2, h3, h4, h5, h6⟩
  · intro p e s m args below meth c s₁ B hml0 hP _
    obtain ⟨rfl, hx, hbd, hgv⟩ := hP
    obtain ⟨scr, harrAt, hlist, hof, hsmall⟩ := hx
    obtain ⟨hcb, hkn, -, -⟩ := State.arrayAt?_spec harrAt
    have hown : s.vm.findClass R_law = some m.cls := findClass_of_methodNamed B.named
    have hts0 : ∀ c ∈ (Jvm.Cond.code x code maxLocals ret :: tables_1), c.before #[Value.ref b] s = true := atoms_spec (ws := Jvm.Cond.code x code maxLocals ret :: tables_1) B.pre
    have hts : ∀ w ∈ lw_tbl, w.before #[Value.ref b] s = true := k2_hts_sels lw_privs (fun w hw => hts0 w (List.mem_cons_of_mem _ hw)) lw_privs_ok
    have hml : c.maxLocals = 7 := B.maxLocals_eq (hts0 _ List.mem_cons_self)
    have X₀ : Stand p l e room_1 s m #[Value.ref b] below meth c s₁ [] 0 0 := Stand.of_body B
    have hh0 : s₁.heap = s.heap := by rw [B.state]; rfl
    have hsz : scr.slots.size = xs.length := by rw [← Array.length_toList, hlist, List.length_map]
    have hval : ∀ j : Nat, j < xs.length → scr.slots[j]? = some (.int (xs.getD j 0)) := fun j hj => by
      rw [← Array.getElem?_toList, hlist]
      simp [hj]
    have hbl : b < s.heap.size := (Array.getElem?_eq_some_iff.mp hcb).1
    have hX : va_X b xs.length (fun j => xs.getD j 0) s s.heap := ⟨scr, hcb, hof, hkn, hsz, hval⟩
    have K : W p l e room_1 s m #[Value.ref b] below meth c s₁.heap [] 0 0 (lw_Z below #[Value.ref b] s) (entryFrame m ([Value.ref b] : List Value).toArray 7) := by
      rw [hh0]
      exact whole_start l hfl hbd ⟨B.exec, B.bytes, B.returns, hml, hown, hts, hX, hbl, B.notSynchronized, hgv⟩
    obtain ⟨t, a1, o, b1, b2, b3⟩ := K s₁ rfl X₀
    exact ⟨t, o, a1, b1, b2, b3⟩
theorem lw_pre_spec {args : Array Value} {s : State} (h : (Jvm.Cond.and given_1 narrow_1).before args s = true) (hr : rest_1_c.before args s = true) : ∃ (b : Addr) (xs : List Int32), lw_P b xs args s := by
  have hs := flat_of_before _ h
  have hq := flat_of_before _ hr
  have hc : (Cond.count 1).before args s = true := hs _ (by decide +kernel)
  have harr : (Cond.arrayOf (.arg 0) .int).before args s = true := hs _ (by decide +kernel)
  have hle : (Cond.le (.length (.arg 0)) (.int 3072)).before args s = true := hs _ (by decide +kernel)
  have hlen : (Cond.isInt (.length (.arg 0))).before args s = true := hq _ (by decide +kernel)
  have hall : (Cond.all (.arg 0) (.isInt (.elem (.arg 0) (.index 0)))).before args s = true := hq _ (by decide +kernel)
  obtain ⟨b, xs, hb, hx⟩ := State.ints_of_pre rfl harr hlen hall
  have hsm : xs.length < 2 ^ 31 := hx.choose_spec.2.2.2
  have hev : (Term.length (.arg 0)).eval args s none [] s = some (.int xs.length.toInt32) := hx.length_eval hb
  have hv := Cond.le_ints hev (show (Term.int 3072).eval args s none [] s = some (.int 3072) from rfl)
  have hd : xs.length.toInt32 ≤ 3072 := by
    simpa [Cond.before, Cond.holds, hv] using hle
  have hN : xs.length ≤ 3072 := (Int32.ofNat_le_ofNat hsm (by decide)).mp (show Int32.ofNat xs.length ≤ Int32.ofNat 3072 from hd)
  exact ⟨b, xs, Cond.one_arg hc (show args[0]? = some (.ref b) from hb), hx, hN, h⟩
theorem lw_comes (l : Launch) (hfl : l.flags = flags0) : Comes l x (Jvm.Cond.code x code maxLocals ret :: tables_1) room_1 (fun tb e args s => Calls_1 tb e args s ∧ rest_1 tb e args s ∧ Pre_1 tb e args s)
    (fun _ _ args s o t => lw_Q args s o t) := by
  intro p e ha hc hk s m args below hf hfit hheap happ hpre
  obtain ⟨b, xs, hP⟩ := lw_pre_spec hpre.2.2 hpre.2.1
  obtain ⟨k, o, h1, h2, h3, hQ⟩ := lw_walk l hfl b xs p e ha hc hk s m args below hf ((Spec.applies_iff_loose hf).mp happ).1 hP trivial
  exact ⟨k, o, h1, h2, h3, hQ⟩
theorem lw_frame {s t : State} {o : Outcome} {args : Array Value} (h : Framed s o t [] 601024 7293034) :
    Framed s o t (fieldLocs frame_1_writes args s ++ arrayLocs frame_1_arrays args s ++ staticLocs frame_1_statics s) 601024 7293034 := h
theorem lw_limb (L : Cond) (hL : ∀ (args : Array Value) (s t : State), L.after args s (.returned (some (.int 1))) t = true) :
    ArmFor flags0 classFile x code maxLocals ret World_1 tables_1 room_1 Calls_1 rest_1 Pre_1
      (fun tb e a s o t => postC L tb e a s o t ∧ Framed s o t (fieldLocs frame_1_writes a s ++ arrayLocs frame_1_arrays a s ++ staticLocs frame_1_statics s) 601024 7293034) := by
  intro l hfl _ _ p e ha hc hk s m args below hf hfit hheap happ hpre
  obtain ⟨k, o, h1, h2, h3, rfl, hF⟩ := lw_comes l hfl p e ha hc hk s m args below hf hfit hheap happ hpre
  exact ⟨k, _, h1, h2, h3, hL args s _, lw_frame hF⟩
theorem i_vc : Claimed_1_1 ∧ Claimed_1_2 := ⟨lw_limb limb_1_1 (fun args s t => by simp [limb_1_1, Cond.after, Cond.holds, Cond.value]), lw_limb limb_1_2 (fun args s t => Cond.after_iff.mpr (by
  first | (rw [show limb_1_2 = Cond.eq .result (.int 1) from rfl, Cond.eq_ints (x := 1) (y := 1) rfl rfl]; simp; done) | (simp [limb_1_2, Cond.value, Term.eval]; done)))⟩
