/-! the law: its monk, its loop -/
/-- what is left of monk: the law's own method that catches -/
def lmK (G : zG) : Prop := ∀ (d : Nat) (l : zLc) (h : zMem) (x y : Int32) (t ns nd nr nm dt u nn tp : Nat), zSh1 h t → zSh2 h → (zO h 174 101 ∧ zLen h 174 = 1) → zInv (zI h) t ns nd nr nm dt u nn tp → Met l.1 yL_monk (Cond.codeWith yL_monk cL_monk 5 (some .int) [(0, 10, 13, 13), (0, 10, 17, 15)] :: ztb) (zroom (d + 200) 1 6) (fun a U => a = (([.ref 0, .int x, .int y, .ref 174] : List Value).map (zrv G)).toArray ∧ zRep G h U.heap [] ∧ zKK G U) (zQ G (zn h + zx h, zs h, 1, 6) (zPI fun k h' => k = mkK nm x y ∧ (k = 0 → h' = zsL (zbm h) 174 0 (mkV (zI h) t x y).toInt64) ∧ (k ≠ 0 → h' = zbm h))) 1 6 (zA G)
theorem gL_39 : Cond.methodLink mL_law.1.cls 39 yL_monk ∈ ztb ∧ Cond.static yL_monk ∈ ztb ∧ Cond.initialized yL_monk.cls ∈ ztb ∧ Cond.codeWith yL_monk cL_monk 5 (some .int) [(0, 10, 13, 13), (0, 10, 17, 15)] ∈ ztb := ⟨ztb_t (zt5 _ (List.mem_of_getElem? (i := 42) rfl)) rfl, ztb_t (zt5 _ (List.mem_of_getElem? (i := 43) rfl)) rfl, ztb_t (zt1 _ (List.mem_of_getElem? (i := 0) rfl)) rfl, ztb_t (zt5 _ (List.mem_of_getElem? (i := 44) rfl)) rfl⟩
section LM
variable {G : zG} {d N i : Nat} {b : zB} {h : zMem} {P : Option Value → zMem → Prop} {xs : Nat → Int32}
/-- the call of the law's monk -/
theorem z_cMonk {μ : zM} {pc : Nat} {lv st : List Value} {Q : Int32 → zMem → Prop} (j : Nat) {x y : Int32} {d : Nat} (hi : μ.2.2.2.2[j]? = some (pc, .invokestatic 39, 3)) (hμ : μ.1.cls = mL_law.1.cls) (hw : (st.map fun v => v.category).sum ≤ 8) (hb : zn h + zx h + 1 ≤ b.1 + b.2.2.1 ∧ zs h + 6 ≤ b.2.1 + b.2.2.2) (K : ∀ l : zLc, Met l.1 yL_monk (Cond.codeWith yL_monk cL_monk 5 (some .int) [(0, 10, 13, 13), (0, 10, 17, 15)] :: ztb) (zroom (d + 200) 1 6) (fun a U => a = (([.ref 0, .int x, .int y, .ref 174] : List Value).map (zrv G)).toArray ∧ zRep G h U.heap [] ∧ zKK G U) (zQ G (zn h + zx h, zs h, 1, 6) (zPI Q)) 1 6 (zA G)) (k : ∀ v h', Q v h' → zn h' + zx h' = zn h + zx h + 1 → zs h' = zs h + 6 → zGo G μ (d + 201) b (pc + 3) lv (.int v :: st) h' P) : zGo G μ (d + 201) b pc lv (.ref 174 :: .int y :: .int x :: .ref 0 :: st) h P := by
  intro p l e R s m args below meth c C H locs ls hR hl h1 h2
  have hrm := C.2.2.2.2.2.2.2.2.2.2
  have hts := C.2.2.2.2.2.2.1
  have hin : ∀ w ∈ va_wsS μ.1.cls 39 yL_monk (Cond.codeWith yL_monk cL_monk 5 (some .int) [(0, 10, 13, 13), (0, 10, 17, 15)] :: ztb), w ∈ ztb := fun w hw => by
    unfold va_wsS at hw
    rcases List.mem_append.mp hw with q | q
    · simp only [List.mem_cons, List.not_mem_nil, or_false] at q
      rcases q with rfl | rfl | rfl
      · rw [hμ]; exact gL_39.1
      · exact gL_39.2.1
      · exact gL_39.2.2.1
    · rcases List.mem_cons.mp q with rfl | q
      · exact gL_39.2.2.2
      · exact q
  refine z_run (ν := (yL_monk, cL_monk, 5, some .int, [])) (bc := 1) (bs := 6) (st := st) C hR hl h1 h2 (vx_runSW (As := ([.ref 0, .int x, .int y, .ref 174] : List Value).map (zrv G)) (n := 4) ⟨C.1, C.2.1, C.2.2.1, C.2.2.2.2.2.1, hts⟩ (K l) (vx_cwSW 4 hts (fun w hw => ⟨hin w hw, good_of_word (ztb_good w (hin w hw))⟩) rfl rfl rfl (by decide +kernel) ?_) ⟨zPc_blind, fun U hU hW => ⟨rfl, by rw [hU]; exact hR.nil, zKK.warm hW C.2.2.2.2.2.2.2.1⟩⟩ rfl rfl hl.1 rfl (lv_room (by rw [zsum_cat]; exact hw)) (zdg C hi) ?_) (fun r h' q c1 c2 => ?_)
  · rw [hrm]
    exact ⟨Nat.le_refl _, by show 8 + (5 + 11) + 64 * (d + 200) ≤ 64 * (d + 201); omega⟩
  · rw [hrm]
    show zn h + zx h - b.1 + 1 ≤ b.2.2.1 ∧ zs h - b.2.1 + 6 ≤ b.2.2.2
    omega
  · obtain ⟨v, rfl, q⟩ := q
    exact k v h' q c1 c2
/-- the model's monk answers as the class's -/
theorem X10_monk_ok {d : Nat} {t ns nd nr nm dt u nn tp : Nat} (S2 : zSh2 h) {J : Nat → Nat → Int32} (hJ : zI h = J) (hI : zInv J t ns nd nr nm dt u nn tp) (x y : Int32) : zConI G mX10_monk (d + 1) [.ref 132, .int x, .int y] h (fun v h' => h' = zsI h 132 0 (mkK nm x y) ∧ (mkK nm x y = 0 → v = mkV J t x y)) := by
  subst hJ
  obtain ⟨td, md, rl, -⟩ := hI.1
  have h5 : nm ≤ 5 := td.2.2.2.2.2.2.2.1
  have h134 : zI h 134 4 = nI nm := md.2.2.2.1
  refine cn_X10_monk (sg_X10_monk_0 S2 ?_)
  have fin : ∀ (kk : Int32), kk = mkK nm x y → (kk = 0 → (∃ j, j < nm ∧ x = nI j) ∧ ¬ y < 0 ∧ y ≤ 4) → zg G mX10_monk (d + 1) 27 [.ref 132, .int x, .int y] [.int kk, .ref 132] h (zPI fun v h' => h' = zsI h 132 0 (mkK nm x y) ∧ (mkK nm x y = 0 → v = mkV (zI h) t x y)) := fun kk ek ok => by
    subst ek
    refine sg_X10_monk_27 S2 ⟨zcl1.o S2 132 9 rfl rfl rfl, ?_⟩
    have e0 : zI (zsI h 132 0 (mkK nm x y)) 132 0 = mkK nm x y := by rw [zI_sI, zup_s]
    have er : ∀ c, c ≠ 132 → zI (zsI h 132 0 (mkK nm x y)) c = zI h c := fun c hc => by rw [zI_sI, zup_ne _ _ hc]
    rw [e0, er 159 (by decide), er 144 (by decide), er 160 (by decide), er 161 (by decide), er 162 (by decide)]
    refine ⟨fun z => ?_, fun z => ⟨rfl, fun q => absurd q z⟩⟩
    obtain ⟨⟨j, hj, rfl⟩, y0, y4⟩ := ok z
    have rel := hI.2.2.1.1.2.2.2.2.2.2.2.2 j hj
    rw [Nat.mul_zero, Nat.zero_add] at rel
    have nose := (rl.2.2.2.2.2.1 j hj).2
    rw [zcla (show j < 2 ^ 31 by omega)]
    have i5 : vp_in (nI j) 115 := zin_n (by omega) (by decide)
    have i10 : vp_in (nI j) 10 := zin_n (by omega) (by decide)
    unfold mkV
    rw [zcla (show j < 2 ^ 31 by omega)]
    refine ⟨fun c => ⟨i5, rfl, fun _ => ?_⟩, fun c => ⟨i10, rfl, fun _ => ?_⟩, fun c => ⟨i5, rfl, fun _ => ?_⟩, fun c => ⟨i5, rfl, fun _ => ?_⟩, fun c0 c1 c2 c3 => ⟨i5, rfl, fun _ => ?_⟩⟩
    · rw [if_pos c]; exact rel.1.symm
    · rw [if_neg (by rw [c]; decide), if_pos c]; exact nose.symm
    · rw [if_neg (by rw [c]; decide), if_neg (by rw [c]; decide), if_pos c]; exact rel.2.1.symm
    · rw [if_neg (by rw [c]; decide), if_neg (by rw [c]; decide), if_neg (by rw [c]; decide), if_pos c]; exact rel.2.2.1.symm
    · rw [if_neg c0, if_neg c1, if_neg c2, if_neg c3]; exact rel.2.2.2.symm
  rcases ix_or x (show nm < 2 ^ 31 by omega) with q | ⟨j, hj, rfl⟩
  · refine ⟨_, X10_isMonk_no S2 h134 q, ?_⟩
    rintro v h2 ⟨rfl, rfl⟩
    refine ⟨S2, fun c => absurd rfl c, fun _ => fin 1 ?_ (fun c => absurd c (by decide))⟩
    unfold mkK
    exact (if_pos q).symm
  · refine ⟨_, X10_isMonk_yes S2 h134 hj (by omega), ?_⟩
    rintro v h2 ⟨rfl, rfl⟩
    have nq : ¬ (nI j < 0 ∨ nI nm ≤ nI j) := fun q => q.elim (fun e => nI_pos (by omega) e) (fun e => nI_ge hj (by omega) e)
    refine ⟨S2, fun _ => ⟨fun c => fin 2 ?_ (fun c => absurd c (by decide)), fun c => ⟨fun c2 => fin 0 ?_ (fun _ => ⟨⟨j, hj, rfl⟩, c, c2⟩), fun c2 => fin 2 ?_ (fun c => absurd c (by decide))⟩⟩, fun c => absurd c (by decide)⟩
    · unfold mkK; rw [if_neg nq, if_pos (Or.inl c)]
    · unfold mkK; rw [if_neg nq, if_neg (fun q => q.elim c (fun e => e c2))]
    · unfold mkK; rw [if_neg nq, if_pos (Or.inr c2)]
theorem lc_4 (hMk : lmK G) (hOK : zOK h) (hs : scr G N xs) (hi : i + 6 ≤ N) (hN : N ≤ 3072) (hb : zn h + zx h + 1 ≤ b.1 + b.2.2.1 ∧ zs h + 6 ≤ b.2.1 + b.2.2.2) (K : ∀ h', zOK h' → zn h' + zx h' = zn h + zx h + 1 → zs h' = zs h + 6 → zGo G mL_law (d + 201) b 1594 [.ref 1000003, .ref 0, .ref 132, .ref 174, .int (nI i), zU, zU] [] h' P) : zGo G mL_law (d + 201) b 368 [.ref 1000003, .ref 0, .ref 132, .ref 174, .int (nI i), zU, zU] [] h P := by
  have hOK' := hOK
  obtain ⟨t, ns, nd, nr, nm, dt, u, nn, tp, S1, S2, h174, hI⟩ := hOK'
  refine z_aload_n 143 rfl rfl ?_
  refine z_arg 144 1 rfl rfl rfl (by decide) rfl rfl hs rfl rfl (by omega) (by omega) ?_
  refine z_arg 149 2 rfl rfl rfl (by decide) rfl rfl hs rfl rfl (by omega) (by omega) ?_
  refine z_aload_n 154 rfl rfl ?_
  refine z_cMonk 155 rfl rfl (Nat.le_of_ble_eq_true rfl) hb (fun l => hMk d l h (xs (i + 1)) (xs (i + 2)) t ns nd nr nm dt u nn tp S1 S2 h174 hI) (fun k h1 q c1 c2 => ?_)
  obtain ⟨ek, q0, q1⟩ := q
  have sh1 : zSh1 h1 t ∧ zSh2 h1 ∧ (zO h1 174 101 ∧ zLen h1 174 = 1) ∧ zI h1 = zI h ∧ (k = 0 → zL h1 174 0 = (mkV (zI h) t (xs (i + 1)) (xs (i + 2))).toInt64) := by
    by_cases k0 : k = 0
    · rw [q0 k0]
      exact ⟨S1, S2, h174, rfl, fun _ => zup_s (zL (zbm h)) 174 0 _⟩
    · rw [q1 k0]
      exact ⟨S1, S2, h174, rfl, fun z => absurd z k0⟩
  obtain ⟨s1, s2, o1, i1, lv1⟩ := sh1
  refine z_istore 156 rfl (by decide) rfl ?_
  refine z_aload_n 157 rfl rfl ?_
  refine z_arg 158 1 rfl rfl rfl (by decide) rfl rfl hs rfl rfl (by omega) (by omega) ?_
  refine z_arg 163 2 rfl rfl rfl (by decide) rfl rfl hs rfl rfl (by omega) (by omega) ?_
  refine z_callV 168 2 [.int (xs (i + 1)), .int (xs (i + 2))] (d' := d + 200) (bc := 0) (bs := 0) rfl fX10_monk gL_44 (zcl1.o s2 132 9 rfl rfl rfl) ⟨_, rfl, rfl⟩ (by decide) rfl (Nat.le_of_ble_eq_true rfl) (Nat.le_refl _) ⟨by omega, by omega⟩ (X10_monk_ok (d := d + 199) s2 i1 hI (xs (i + 1)) (xs (i + 2))) (fun r h2 q2 c3 c4 => ?_)
  obtain ⟨w, rfl, eh2, ew⟩ := q2
  have s2' : zSh2 h2 := by rw [eh2]; exact s2
  have e0 : zI h2 132 0 = k := by rw [eh2, zI_sI, zup_s, ek]
  refine z_istore 169 rfl (by decide) rfl ?_
  refine z_aload_n 170 rfl rfl ?_
  refine z_callV 171 0 [] (d' := d + 200) (bc := 0) (bs := 0) (Q := zPI fun v h' => v = zI h2 132 0 ∧ h' = h2) rfl fX10_thrown gL_45 (zcl1.o s2' 132 9 rfl rfl rfl) ⟨_, rfl, rfl⟩ (by decide) rfl (Nat.le_of_ble_eq_true rfl) (Nat.le_refl _) ⟨by omega, by omega⟩ (cn_X10_thrown (sg_X10_thrown_0 s2' ⟨rfl, rfl⟩)) (fun r h3 q3 c5 c6 => ?_)
  obtain ⟨v3, rfl, rfl, rfl⟩ := q3
  rw [e0]
  refine z_iload 172 rfl rfl ?_
  refine z_icmp_eq 173 416 rfl (by decide) ⟨fun _ => ?_, fun c => absurd rfl c⟩
  have ok3 : zOK h3 := by
    rw [eh2]
    refine ⟨t, ns, nd, nr, nm, dt, u, nn, tp, s1, s2, o1, zInv_j S1.2.1 hI ?_⟩
    rw [zI_sI, i1]
    exact (jE.rf _).up (by unfold jkP; omega)
  have fin : zGo G mL_law (d + 201) b 433 [.ref 1000003, .ref 0, .ref 132, .ref 174, .int (nI i), .int k, .int w] [] h3 P := by
    refine z_goto 187 1594 rfl (by decide) ?_
    refine z_drop 5 ?_
    refine z_drop 6 ?_
    exact K h3 ok3 (by omega) (by omega)
  refine z_iload 176 rfl rfl ?_
  refine z_if_ne 177 433 rfl (by decide) ⟨fun _ => fin, fun k0 => ?_⟩
  refine z_aload_n 178 rfl rfl ?_
  refine z_iconst (v := 0) 179 rfl (by decide) ?_
  have o3 : zO h3 174 101 ∧ zLen h3 174 = 1 := by rw [eh2]; exact o1
  refine z_lald 180 rfl o3.1 (by rw [o3.2]; exact zin_n (k := 0) (n := 1) (by decide) (by decide)) ?_
  have el : zL h3 174 (0 : Int32).toNatClampNeg = w.toInt64 := by
    rw [ew (by rw [← ek]; exact k0), eh2]
    exact lv1 k0
  rw [el]
  refine z_iload 181 rfl rfl ?_
  refine z_i2l 182 rfl ?_
  refine z_lcmp 183 rfl ?_
  exact z_if_eq 184 433 rfl (by decide) ⟨fun _ => fin, fun c => absurd (zcmp_self _) c⟩
end LM
