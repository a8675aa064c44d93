/-! the class's monk: it answers or throws -/
section MX
variable {G : zG} {d : Nat} {h : zMem}
theorem z_throwX {μ : zM} {b : zB} {Qc : Array Value → State → Outcome → State → Prop} {XC : String → State → State → Prop} {p : Program} {l : zLc} {e : Env} {s : State} {m : MethodId} {args : Array Value} {below : List Frame} {meth : Method} {c : Code} (hG : gM G) (C : zCtx G μ (d + 10) b p (zroom (d + 10) 1 6) s m args meth c) (ho : μ.1.cls = "SmellAbbey") (ht : ∀ x ∈ c.exceptionTable.toList, False) {H : Heap} {locs : List Loc} {ls : Array Slot} (hR : zRep G h H locs) (hl : zLv G ls μ.2.2.1 ([] : List Value)) {pc : Nat}
    (d0 : decode μ.2.1 pc = .ok (.new 143, 3)) (d3 : decode μ.2.1 (pc + 3) = .ok (.dup, 1)) (d4 : decode μ.2.1 (pc + 4) = .ok (.ldc 145, 2)) (d6 : decode μ.2.1 (pc + 6) = .ok (.invokespecial 147, 3)) (d9 : decode μ.2.1 (pc + 9) = .ok (.athrow, 1))
    (hx : ∀ t : State, zRep G (zbm h) t.heap [] → XC eNS s t) : W p l.1 e (zroom (d + 10) 1 6) s m args below meth c H locs 0 0 (vx_MQ below Qc XC args s 1 6 (zA G)) (F0 m pc ls []) := by
  have hts := C.2.2.2.2.2.2.1
  have hE := hG s C.2.2.2.2.2.2.2.1.2.1
  have hown : s.vm.findClass "SmellAbbey" = some m.cls := by rw [← ho]; exact C.2.2.2.2.2.1
  refine tx_throw (names := exN2) (mc := 1) (ms := 6) (A := zA G) (H0 := gH G) (rest := []) C.1 C.2.1 l.2 rNS0 rNS1 rNS2 rNS5 hown (by decide +kernel) (by decide +kernel) (by decide +kernel) (hts _ (ztb_t (zt5 _ (List.mem_of_getElem? (i := 117) rfl)) rfl)) (hts _ (ztb_t (zt1 _ (List.mem_of_getElem? (i := 21) rfl)) rfl)) hE.2.1 (vx_hat (B := ngL) (fun w hw => hts w (ztb_in (atX_in w hw) (List.mem_filter.mp hw).2)) atX_ng (fun w hw => va_Nw.use (ngL_ot w hw) (hE.2.2.2.2.1 w hw))) atX_ot hE.2.2.1 hE.2.2.2.1 hR.2.1 (hl.1.trans C.2.2.1.symm) d0 d3 d4 d6 d9 (fun x hx => (ht x hx).elim) (by show 1 + 4 < d + 10; omega) (by show 0 + (13 * (1 + 2) + 43) ≤ 64 * (d + 10); omega) (by show 0 + 1 ≤ 1; decide) (by show 0 + 6 ≤ 6; decide) C.2.2.2.2.1 (fun t _ hs ho => hx t ?_) hR.2.1.2.2 (by decide) (by decide)
  exact (hR.nil).bm hs ho
theorem m9_56 {t j : Nat} {y : Int32} {Q : Int32 → zMem → Prop} (S1 : zSh1 h t) (hj : j < 5) (hq : Q (zI h 59 j) (zbm h)) : zGo G mX9_monk d (zn h + zx h, zs h, 1, 6) 56 [.ref 0, .int (nI j), .int y] [] h (zPI Q) := by
  refine z_aload_n 12 rfl rfl ?_
  refine z_getR 13 rfl lX9_37 rfl (zcl1.o S1.1 0 8 rfl rfl rfl) (zcl1.r S1.1 0 4 48 rfl rfl rfl) ?_
  refine z_getR 14 rfl lX9_128 rfl (zcl1.o S1.1 48 5 rfl rfl rfl) (zcl1.r S1.1 48 4 59 rfl rfl rfl) ?_
  refine z_iload_n 15 rfl rfl ?_
  refine z_iald 16 rfl (zcl1.o S1.1 59 100 rfl rfl rfl) (zin (zcl1.l S1.1 59 5 rfl rfl rfl) (zin_n hj (by decide))) ?_
  rw [zcla (show j < 2 ^ 31 by omega)]
  refine z_bump 1 6 (by decide) ?_
  exact z_iret 17 rfl rfl rfl ⟨by show zn h + (zx h + 1) = zn h + zx h + 1; omega, rfl⟩ ⟨_, rfl, hq⟩
theorem m9_66 {t j : Nat} {y : Int32} {Q : Int32 → zMem → Prop} (S1 : zSh1 h t) (hj : j < 5) (hq : Q (zI h (t + 20) j) (zbm h)) : zGo G mX9_monk d (zn h + zx h, zs h, 1, 6) 66 [.ref 0, .int (nI j), .int y] [] h (zPI Q) := by
  refine z_aload_n 18 rfl rfl ?_
  refine z_getR 19 rfl lX9_67 rfl (zcl1.o S1.1 0 8 rfl rfl rfl) S1.2.2.1 ?_
  refine z_getR 20 rfl lX9_131 rfl (zS_to S1 S1.2.1 0 6 rfl rfl) (zS_tr S1 S1.2.1 0 7 20 rfl rfl rfl) ?_
  refine z_iload_n 21 rfl rfl ?_
  refine z_iald 22 rfl (zS_to S1 S1.2.1 20 100 rfl rfl) (zin (zS_tl S1 S1.2.1 20 5 rfl rfl) (zin_n hj (by decide))) ?_
  rw [zcla (show j < 2 ^ 31 by omega)]
  refine z_bump 1 6 (by decide) ?_
  exact z_iret 23 rfl rfl rfl ⟨by show zn h + (zx h + 1) = zn h + zx h + 1; omega, rfl⟩ ⟨_, rfl, hq⟩
theorem m9_76 {t j : Nat} {y : Int32} {Q : Int32 → zMem → Prop} (S1 : zSh1 h t) (hj : j < 5) (hq : Q (zI h 60 j) (zbm h)) : zGo G mX9_monk d (zn h + zx h, zs h, 1, 6) 76 [.ref 0, .int (nI j), .int y] [] h (zPI Q) := by
  refine z_aload_n 24 rfl rfl ?_
  refine z_getR 25 rfl lX9_37 rfl (zcl1.o S1.1 0 8 rfl rfl rfl) (zcl1.r S1.1 0 4 48 rfl rfl rfl) ?_
  refine z_getR 26 rfl lX9_134 rfl (zcl1.o S1.1 48 5 rfl rfl rfl) (zcl1.r S1.1 48 5 60 rfl rfl rfl) ?_
  refine z_iload_n 27 rfl rfl ?_
  refine z_iald 28 rfl (zcl1.o S1.1 60 100 rfl rfl rfl) (zin (zcl1.l S1.1 60 5 rfl rfl rfl) (zin_n hj (by decide))) ?_
  rw [zcla (show j < 2 ^ 31 by omega)]
  refine z_bump 1 6 (by decide) ?_
  exact z_iret 29 rfl rfl rfl ⟨by show zn h + (zx h + 1) = zn h + zx h + 1; omega, rfl⟩ ⟨_, rfl, hq⟩
theorem m9_86 {t j : Nat} {y : Int32} {Q : Int32 → zMem → Prop} (S1 : zSh1 h t) (hj : j < 5) (hq : Q (zI h 61 j) (zbm h)) : zGo G mX9_monk d (zn h + zx h, zs h, 1, 6) 86 [.ref 0, .int (nI j), .int y] [] h (zPI Q) := by
  refine z_aload_n 30 rfl rfl ?_
  refine z_getR 31 rfl lX9_37 rfl (zcl1.o S1.1 0 8 rfl rfl rfl) (zcl1.r S1.1 0 4 48 rfl rfl rfl) ?_
  refine z_getR 32 rfl lX9_137 rfl (zcl1.o S1.1 48 5 rfl rfl rfl) (zcl1.r S1.1 48 6 61 rfl rfl rfl) ?_
  refine z_iload_n 33 rfl rfl ?_
  refine z_iald 34 rfl (zcl1.o S1.1 61 100 rfl rfl rfl) (zin (zcl1.l S1.1 61 5 rfl rfl rfl) (zin_n hj (by decide))) ?_
  rw [zcla (show j < 2 ^ 31 by omega)]
  refine z_bump 1 6 (by decide) ?_
  exact z_iret 35 rfl rfl rfl ⟨by show zn h + (zx h + 1) = zn h + zx h + 1; omega, rfl⟩ ⟨_, rfl, hq⟩
theorem m9_96 {t j : Nat} {y : Int32} {Q : Int32 → zMem → Prop} (S1 : zSh1 h t) (hj : j < 5) (hq : Q (zI h 62 j) (zbm h)) : zGo G mX9_monk d (zn h + zx h, zs h, 1, 6) 96 [.ref 0, .int (nI j), .int y] [] h (zPI Q) := by
  refine z_aload_n 36 rfl rfl ?_
  refine z_getR 37 rfl lX9_37 rfl (zcl1.o S1.1 0 8 rfl rfl rfl) (zcl1.r S1.1 0 4 48 rfl rfl rfl) ?_
  refine z_getR 38 rfl lX9_140 rfl (zcl1.o S1.1 48 5 rfl rfl rfl) (zcl1.r S1.1 48 7 62 rfl rfl rfl) ?_
  refine z_iload_n 39 rfl rfl ?_
  refine z_iald 40 rfl (zcl1.o S1.1 62 100 rfl rfl rfl) (zin (zcl1.l S1.1 62 5 rfl rfl rfl) (zin_n hj (by decide))) ?_
  rw [zcla (show j < 2 ^ 31 by omega)]
  refine z_bump 1 6 (by decide) ?_
  exact z_iret 41 rfl rfl rfl ⟨by show zn h + (zx h + 1) = zn h + zx h + 1; omega, rfl⟩ ⟨_, rfl, hq⟩
/-- what is thrown, and how the heap stands then -/
def mXx (G : zG) (h : zMem) (nm : Nat) (x y : Int32) : String → State → State → Prop := fun E _ t => (mkK nm x y = 1 ∧ E = eIO ∨ mkK nm x y = 2 ∧ E = eNS) ∧ zRep G (zbm h) t.heap []
set_option maxHeartbeats 1000000 in
theorem X9_monk_x {t ns nd nr nm dt u nn tp : Nat} (hG : gM G) (S1 : zSh1 h t) (hI : zInv (zI h) t ns nd nr nm dt u nn tp) (x y : Int32) (l : zLc) : vx_Met l.1 yX9_monk (Cond.code yX9_monk cX9_monk 3 (some .int) :: ztb) (zroom (d + 10) 1 6) (fun a U => a = (([.ref 0, .int x, .int y] : List Value).map (zrv G)).toArray ∧ zRep G h U.heap [] ∧ zKK G U) (zQ G (zn h + zx h, zs h, 1, 6) (zPI fun v h' => h' = zbm h ∧ mkK nm x y = 0 ∧ v = mkV (zI h) t x y)) (mXx G h nm x y) 1 6 (zA G) := by
  obtain ⟨td, md, rl, -⟩ := hI.1
  have h5 : nm ≤ 5 := td.2.2.2.2.2.2.2.1
  have ht3 : zI h (t + 1) 3 = nI nm := td.2.2.2.1
  refine zvx_intro (μ := mX9_monk) (by decide +kernel) eX9_monk (Nat.le_of_ble_eq_true rfl) rfl ?_
  intro p e s m args below meth c C ht ls hR hl
  have hts := C.2.2.2.2.2.2.1
  have hln : zLv G ls 3 ([] : List Value) := ⟨hl.1, hl.2.1, fun i v hi => nomatch hi⟩
  refine lv_aload_n (x := zad G 0) C.1 C.2.1 (zdg C (i := 0) rfl) rfl (hl.2.2 0 (.ref 0) rfl rfl) ?_
  refine lv_iconst (v := 3) C.1 C.2.1 (zdg C (i := 1) rfl) (by decide) ?_
  refine lv_iload_n (x := x) C.1 C.2.1 (zdg C (i := 2) rfl) rfl (hl.2.2 1 (.int x) rfl rfl) ?_
  have call : ∀ Q : Int32 → zMem → Prop, zConI G mX9_has (d + 9) [.ref 0, .int 3, .int x] h Q → (∀ v h', Q v h' → ∀ (H1 : Heap) (locs1 : List Loc), zRep G h' H1 locs1 → W p l.1 e (zroom (d + 10) 1 6) s m args below meth c H1 locs1 0 0 (vx_MQ below (zQ G (zn h + zx h, zs h, 1, 6) (zPI fun v h' => h' = zbm h ∧ mkK nm x y = 0 ∧ v = mkV (zI h) t x y)) (mXx G h nm x y) args s 1 6 (zA G)) (F0 m 6 ls [.int v])) → W p l.1 e (zroom (d + 10) 1 6) s m args below meth c s.heap [] 0 0 (vx_MQ below (zQ G (zn h + zx h, zs h, 1, 6) (zPI fun v h' => h' = zbm h ∧ mkK nm x y = 0 ∧ v = mkV (zI h) t x y)) (mXx G h nm x y) args s 1 6 (zA G)) (F0 m 3 ls [.int x, .int 3, .ref (zad G 0)]) := fun Q K k => by
    have ho : zO h 0 8 := zcl1.o S1.1 0 8 rfl rfl rfl
    have he : (zw G h)[0]? = some (zad G 0, .inr (8, zfs G h 0 8)) := by rw [zw_at ho.1, zcell_o ho.2 (by decide)]
    refine z_runQ (ν := mX9_has) (μ := mX9_monk) (b := (0, 0, 0, 0)) (h := h) (bc := 0) (bs := 0) (st := []) (cells := 0) (slots := 0) hR (va_runV (As := [.int 3, .int x]) (b := zad G 0) (n := 2) ⟨C.1, C.2.1, C.2.2.1, C.2.2.2.2.2.1, hts⟩ (K l) ⟨callB_of 2 hts (ztb_GoodIn fX9_has.1) rfl rfl rfl (hts _ fX9_has.2.1) (hts _ gX9_117.1) fX9_has.2.2.1 ?_, hts _ gX9_117.2.1, hts _ gX9_117.2.2⟩ ⟨zPc_blind, ?_, fun U hU hW => ⟨rfl, by rw [hU]; exact hR.nil, zKK.warm hW C.2.2.2.2.2.2.2.1⟩⟩ rfl rfl hl.1 rfl (lv_room (by rw [zsum_cat]; exact Nat.zero_le _)) (zdg C (i := 3) rfl) ?_) (fun r h' q H1 locs1 hR1 => ?_)
    · exact ⟨Nat.le_refl _, by show 8 + (3 + 11) + 64 * (d + 9) ≤ 64 * (d + 10); omega⟩
    · obtain ⟨cell, g1, g2, g3⟩ := va_recv C.2.2.2.2.2.2.2.1.1 hR.1 (show zcl[8]? = some _ from rfl) he
      exact ⟨cell, g1, g2, g3⟩
    · exact ⟨Nat.zero_le _, Nat.zero_le _⟩
    · obtain ⟨v, rfl, q⟩ := q
      exact k v h' q H1 locs1 hR1
  have good : ∀ (pc : Nat) (H1 : Heap) (locs1 : List Loc), zRep G h H1 locs1 → zGo G mX9_monk (d + 10) (zn h + zx h, zs h, 1, 6) pc [.ref 0, .int x, .int y] [] h (zPI fun v h' => h' = zbm h ∧ mkK nm x y = 0 ∧ v = mkV (zI h) t x y) → W p l.1 e (zroom (d + 10) 1 6) s m args below meth c H1 locs1 0 0 (vx_MQ below (zQ G (zn h + zx h, zs h, 1, 6) (zPI fun v h' => h' = zbm h ∧ mkK nm x y = 0 ∧ v = mkV (zI h) t x y)) (mXx G h nm x y) args s 1 6 (zA G)) (F0 m pc ls []) := fun pc H1 locs1 hR1 k => by
    have q := k p l e (zroom (d + 10) 1 6) s m args below meth c C H1 locs1 ls hR1 hl (Nat.le_refl _) (Nat.le_refl _)
    rw [Nat.sub_self, Nat.sub_self] at q
    exact vx_ret q
  rcases ix_or x (show nm < 2 ^ 31 by omega) with q | ⟨j, hj, rfl⟩
  · refine call _ (X9_has_no S1 (k := 3) (by decide) ht3 q) ?_
    rintro v h' ⟨rfl, rfl⟩ H1 locs1 hR1
    refine lv_if_ne (tgt := 19) C.1 C.2.1 (zdg C (i := 4) rfl) (by decide) (fun z => absurd rfl z) (fun _ => ?_)
    refine z_throw (μ := mX9_monk) (bc := 0) (bs := 0) hG C rfl ht hR1 hln (by decide +kernel) (ztb_t (zt5 _ (List.mem_of_getElem? (i := 51) rfl)) rfl) (ztb_t (zt1 _ (List.mem_of_getElem? (i := 20) rfl)) rfl) (hG s C.2.2.2.2.2.2.2.1.2.1).1 atI_in atI_ng atI_ot (zdg C (i := 5) rfl) (zdg C (i := 6) rfl) (zdg C (i := 7) rfl) (zdg C (i := 8) rfl) (zdg C (i := 9) rfl) (fun t hr => ⟨Or.inl ⟨?_, rfl⟩, hr⟩)
    unfold mkK
    exact if_pos q
  · refine call _ (X9_has_yes S1 (k := 3) (by decide) ht3 hj (by omega)) ?_
    rintro v h' ⟨rfl, rfl⟩ H1 locs1 hR1
    have nq : ¬ (nI j < 0 ∨ nI nm ≤ nI j) := fun q => q.elim (fun e => nI_pos (by omega) e) (fun e => nI_ge hj (by omega) e)
    refine lv_if_ne (tgt := 19) C.1 C.2.1 (zdg C (i := 4) rfl) (by decide) (fun _ => ?_) (fun z => absurd z (by decide))
    refine lv_iload_n (x := y) C.1 C.2.1 (zdg C (i := 10) rfl) rfl (hl.2.2 2 (.int y) rfl rfl) ?_
    have k0 : ¬ y < 0 → y ≤ 4 → mkK nm (nI j) y = 0 := fun a b => by
      unfold mkK
      rw [if_neg nq, if_neg (fun q => q.elim a (fun e => e b))]
    have hj5 : j < 5 := by omega
    by_cases y0 : y < 0 ∨ ¬ y ≤ 4
    · refine lv_tableOut (tgt := 106) C.1 C.2.1 (zdg C (i := 11) rfl) ?_ (by decide) ?_
      · rcases y0 with z | z
        · exact Or.inl (by rw [Int32.lt_iff_toInt_lt] at z; exact z)
        · exact Or.inr (by rw [Int32.le_iff_toInt_le] at z; exact Int.not_le.mp z)
      · refine z_throwX (μ := mX9_monk) hG C rfl ht hR1 hln (zdg C (i := 42) rfl) (zdg C (i := 43) rfl) (zdg C (i := 44) rfl) (zdg C (i := 45) rfl) (zdg C (i := 46) rfl) (fun t hr => ⟨Or.inr ⟨?_, rfl⟩, hr⟩)
        unfold mkK
        rw [if_neg nq, if_pos y0]
    · have yn : ¬ y < 0 := fun z => y0 (Or.inl z)
      have y4 : y ≤ 4 := Decidable.byContradiction fun z => y0 (Or.inr z)
      have kk := k0 yn y4
      obtain ⟨i, hi, rfl⟩ : ∃ i, i < 5 ∧ y = nI i := by
        have a1 : 0 ≤ y.toInt := by rw [Int32.lt_iff_toInt_lt] at yn; exact Int.not_lt.mp yn
        have a2 : y.toInt ≤ 4 := by rw [Int32.le_iff_toInt_le] at y4; exact y4
        refine ⟨y.toInt.toNat, by omega, ?_⟩
        rw [← Int32.toInt_inj, nI_toInt (by omega)]
        omega
      have V : mkV (zI h') t (nI j) (nI i) = if nI i = 0 then zI h' 59 j else if nI i = 1 then zI h' (t + 20) j else if nI i = 2 then zI h' 60 j else if nI i = 3 then zI h' 61 j else zI h' 62 j := by
        unfold mkV
        rw [zcla (show j < 2 ^ 31 by omega)]
      rcases (show i = 0 ∨ i = 1 ∨ i = 2 ∨ i = 3 ∨ i = 4 by omega) with rfl | rfl | rfl | rfl | rfl
      · exact lv_tableIn (tgt := 56) (off := 36) C.1 C.2.1 (zdg C (i := 11) rfl) (by decide) (by decide) rfl (by decide) (good 56 H1 locs1 hR1 (m9_56 S1 hj5 ⟨rfl, kk, V.symm⟩))
      · exact lv_tableIn (tgt := 66) (off := 46) C.1 C.2.1 (zdg C (i := 11) rfl) (by decide) (by decide) rfl (by decide) (good 66 H1 locs1 hR1 (m9_66 S1 hj5 ⟨rfl, kk, V.symm⟩))
      · exact lv_tableIn (tgt := 76) (off := 56) C.1 C.2.1 (zdg C (i := 11) rfl) (by decide) (by decide) rfl (by decide) (good 76 H1 locs1 hR1 (m9_76 S1 hj5 ⟨rfl, kk, V.symm⟩))
      · exact lv_tableIn (tgt := 86) (off := 66) C.1 C.2.1 (zdg C (i := 11) rfl) (by decide) (by decide) rfl (by decide) (good 86 H1 locs1 hR1 (m9_86 S1 hj5 ⟨rfl, kk, V.symm⟩))
      · exact lv_tableIn (tgt := 96) (off := 76) C.1 C.2.1 (zdg C (i := 11) rfl) (by decide) (by decide) rfl (by decide) (good 96 H1 locs1 hR1 (m9_96 S1 hj5 ⟨rfl, kk, V.symm⟩))
end MX
