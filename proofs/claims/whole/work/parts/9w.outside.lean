/-! what lies outside of the cells: static rows, texts -/
def mstL : List Int32 := [6, 8, 6, 5]
def mst (j : Nat) : Int32 := mstL.getD j 0
def wchL : List Int32 := [115, 116, 117, 102, 102, 32, 100, 97, 121, 32, 109, 105, 120, 32, 114, 111, 111, 109, 32, 109, 111, 110, 107, 32, 108, 105, 110, 103, 101, 114, 32, 115, 101, 101, 100, 32, 108, 97, 119, 32, 102, 101, 97, 115, 116, 32, 97, 105, 114, 32, 107, 101, 101, 110, 32, 119, 111, 114, 116, 104, 32, 111, 114, 32, 97, 110, 100, 32, 110, 111, 116, 32, 109, 117, 99, 104, 32, 112, 97, 114, 116, 32, 108, 101, 102, 116, 32, 119, 105, 110, 100, 32, 100, 97, 116, 101, 32, 112, 108, 97, 99, 101, 32, 110, 111, 115, 101, 32]
def wch (j : Nat) : Int32 := wchL.getD j 0
def wdTx : String := "stuff day mix room monk linger seed law feast air keen worth or and not much part left wind date place nose "
/-- X 0: the row MOST; X 1, X 2: the words and their bytes; X 4: a formatter -/
def gZ (X : Nat → Nat) (H : Heap) (U : State) : Prop :=
  va_Z "SmellAbbey$Reader" "MOST" "[I" (.ref (X 0)) (fun q => H.size ≤ q) U H ∧ va_T .int (X 0) 4 (fun j => .int (mst j)) (fun q => H.size ≤ q) U H ∧
  vk_R "SmellAbbeyModel" 203 wdTx (X 1) U ∧ vk_R "SmellAbbey$Scanner" 19 wdTx (X 1) U ∧ va_O "java/lang/String" (X 1) (fun q => H.size ≤ q) U H ∧
  va_OF "java/lang/String" "coder" "B" (.int 0) (X 1) (fun q => H.size ≤ q) U H ∧ va_OF "java/lang/String" "value" "[B" (.ref (X 2)) (X 1) (fun q => H.size ≤ q) U H ∧
  va_T .byte (X 2) 108 (fun j => .int (wch j)) (fun q => H.size ≤ q) U H ∧ va_Z "java/lang/String" "COMPACT_STRINGS" "Z" (.int 1) (fun q => H.size ≤ q) U H ∧
  (va_Z "jdk/internal/util/Preconditions" "SIOOBE_FORMATTER" "Ljava/util/function/BiFunction;" .null (fun q => H.size ≤ q) U H ∨ va_Z "jdk/internal/util/Preconditions" "SIOOBE_FORMATTER" "Ljava/util/function/BiFunction;" (.ref (X 4)) (fun q => H.size ≤ q) U H)
def gW (G : zG) : Prop := ∀ U, gE G U → gZ (gX G) (gH G) U
theorem zad_x (G : zG) (k : Nat) : zad G (1000000 + k) = gX G k := by
  unfold zad
  rw [if_neg (by omega), Nat.add_sub_cancel_left]
section ZX
variable {G : zG} {μ : zM} {d : Nat} {b : zB} {pc : Nat} {lv st : List Value} {h : zMem} {P : Option Value → zMem → Prop}
theorem z_gets (i : Nat) {index : Nat} {C n t : String} {v : Value} (hi : μ.2.2.2.2[i]? = some (pc, .getstatic index, 3)) (hlk : Cond.fieldLink μ.1.cls index C n t ∈ ztb) (hZ : ∀ U, gE G U → va_Z C n t (zrv G v) (zA G) U (gH G)) (k : zGo G μ d b (pc + 3) lv (v :: st) h P) : zGo G μ d b pc lv st h P := by
  intro p l e R s m args below meth c C H locs ls hR hl h1 h2
  obtain ⟨cf, kf, fi, f, a, cell, g1, g2, g3, g4, g5, g6, g7, g8⟩ := hZ s C.2.2.2.2.2.2.2.1.2.1
  exact W.gets C.1 C.2.1 C.2.2.2.2.2.1 (C.2.2.2.2.2.2.1 _ hlk) g1 g2 g3 g4 (by rw [hR.2.1.2.1 a (Array.getElem?_eq_some_iff.mp g5).1 g8]; exact g5) (fun e => by rw [e] at g6; cases g6) g7 rfl (zdg C hi) (k p l e R s m args below meth c C H locs ls hR hl h1 h2)
theorem z_tiX (i : Nat) {a N : Nat} {f : Nat → Int32} {x : Int32} (hi : μ.2.2.2.2[i]? = some (pc, .iaload, 1)) (hT : ∀ U, gE G U → va_T .int (zad G a) N (fun j => .int (f j)) (zA G) U (gH G)) (hx : vp_in x N) (k : zGo G μ d b (pc + 1) lv (.int (f x.toNatClampNeg) :: st) h P) : zGo G μ d b pc lv (.int x :: .ref a :: st) h P := by
  intro p l e R s m args below meth c C H locs ls hR hl h1 h2
  obtain ⟨cell, g1, g2, g3, g4, g5, g6, g7⟩ := hT s C.2.2.2.2.2.2.2.1.2.1
  have hlt : x.toNatClampNeg < N := Nat.not_le.mp fun q => hx (Or.inr q)
  have hin' : ¬ (x < 0 ∨ cell.slots.size ≤ x.toNatClampNeg) := by
    intro q
    rcases q with q | q
    · exact hx (Or.inl q)
    · omega
  exact W.iald (v := .int (f x.toNatClampNeg)) C.1 C.2.1 (by rw [hR.2.1.2.1 _ (Array.getElem?_eq_some_iff.mp g1).1 g7]; exact g1) g2 g3 hin' (g6 _ hlt) rfl rfl (zdg C hi) (k p l e R s m args below meth c C H locs ls hR hl h1 h2)
theorem z_tbX (i : Nat) {a N : Nat} {f : Nat → Int32} {x : Int32} (hi : μ.2.2.2.2[i]? = some (pc, .baload, 1)) (hT : ∀ U, gE G U → va_T .byte (zad G a) N (fun j => .int (f j)) (zA G) U (gH G)) (hx : vp_in x N) (k : zGo G μ d b (pc + 1) lv (.int (f x.toNatClampNeg) :: st) h P) : zGo G μ d b pc lv (.int x :: .ref a :: st) h P := by
  intro p l e R s m args below meth c C H locs ls hR hl h1 h2
  obtain ⟨cell, g1, g2, g3, g4, g5, g6, g7⟩ := hT s C.2.2.2.2.2.2.2.1.2.1
  have hlt : x.toNatClampNeg < N := Nat.not_le.mp fun q => hx (Or.inr q)
  have hin' : ¬ (x < 0 ∨ cell.slots.size ≤ x.toNatClampNeg) := by
    intro q
    rcases q with q | q
    · exact hx (Or.inl q)
    · omega
  exact W.bald (v := .int (f x.toNatClampNeg)) C.1 C.2.1 (by rw [hR.2.1.2.1 _ (Array.getElem?_eq_some_iff.mp g1).1 g7]; exact g1) g2 g3 hin' (g6 _ hlt) rfl rfl (zdg C hi) (k p l e R s m args below meth c C H locs ls hR hl h1 h2)
theorem z_tlenX (i : Nat) {a N : Nat} {ty : FieldType} {f : Nat → Value} (hi : μ.2.2.2.2[i]? = some (pc, .arraylength, 1)) (hT : ∀ U, gE G U → va_T ty (zad G a) N f (zA G) U (gH G)) (k : zGo G μ d b (pc + 1) lv (.int (nI N) :: st) h P) : zGo G μ d b pc lv (.ref a :: st) h P := by
  intro p l e R s m args below meth c C H locs ls hR hl h1 h2
  obtain ⟨cell, g1, g2, g3, g4, g5, g6, g7⟩ := hT s C.2.2.2.2.2.2.2.1.2.1
  exact W.alen (n := Int32.ofNat N) C.1 C.2.1 (by rw [hR.2.1.2.1 _ (Array.getElem?_eq_some_iff.mp g1).1 g7]; exact g1) g2 g5 rfl rfl (zdg C hi) (k p l e R s m args below meth c C H locs ls hR hl h1 h2)
theorem z_getfX (i : Nat) {index a : Nat} {o n t : String} {v : Value} (hi : μ.2.2.2.2[i]? = some (pc, .getfield index, 3)) (hlk : Cond.fieldLink μ.1.cls index o n t ∈ ztb) (hE : ∀ U, gE G U → va_OF o n t (zrv G v) (zad G a) (zA G) U (gH G)) (k : zGo G μ d b (pc + 3) lv (v :: st) h P) : zGo G μ d b pc lv (.ref a :: st) h P := by
  intro p l e R s m args below meth c C H locs ls hR hl h1 h2
  obtain ⟨cf, kf, fi, f, cell, g1, g2, g3, g4, g5, g6⟩ := (hE s C.2.2.2.2.2.2.2.1.2.1).kept hR.2.1.2.1
  exact W.getf C.1 C.2.1 C.2.2.2.2.2.1 (C.2.2.2.2.2.2.1 _ hlk) g1 g2 g3 g4 (v := zrv G v) g5 rfl rfl (zdg C hi) (k p l e R s m args below meth c C H locs ls hR hl h1 h2)
theorem z_ldcX (i : Nat) {index a : Nat} {tx : String} (hi : μ.2.2.2.2[i]? = some (pc, .ldc index, 2)) (hE : ∀ U, gE G U → vk_R μ.1.cls index tx (zad G a) U) (k : zGo G μ d b (pc + 2) lv (.ref a :: st) h P) : zGo G μ d b pc lv st h P := by
  intro p l e R s m args below meth c C H locs ls hR hl h1 h2
  exact va_ldcS C.1 C.2.1 C.2.2.2.2.2.1 (hE s C.2.2.2.2.2.2.2.1.2.1) (zdg C hi) (k p l e R s m args below meth c C H locs ls hR hl h1 h2)
theorem z_callVX (i n : Nat) (as : List Value) {index : Nat} {ν : zM} {d' bc bs a : Nat} {Q : Option Value → zMem → Prop} (hi : μ.2.2.2.2[i]? = some (pc, .invokevirtual index, 3)) (hν : zMF ν n) (hlk : Cond.methodLink μ.1.cls index ν.1 ∈ ztb ∧ Cond.instanceMethod ν.1 ∈ ztb ∧ Cond.selects ν.1.cls ν.1 ν.1 ∈ ztb) (ho : ∀ U, gE G U → va_O ν.1.cls (zad G a) (zA G) U (gH G)) (hn : as.length = n) (hw : (st.map fun v => v.category).sum ≤ 8) (hd : d' + 1 ≤ d) (hb : zn h + zx h + bc ≤ b.1 + b.2.2.1 ∧ zs h + bs ≤ b.2.1 + b.2.2.2) (K : zCon G ν d' bc bs (.ref a :: as) h Q)
    (k : ∀ r h', Q r h' → zn h' + zx h' = zn h + zx h + bc → zs h' = zs h + bs → zGo G μ d b (pc + 3) lv (r.toList ++ st) h' P) : zGo G μ d b pc lv (as.reverse ++ .ref a :: st) h P := by
  intro p l e R s m args below meth c C H locs ls hR hl h1 h2
  have hrm := C.2.2.2.2.2.2.2.2.2.2
  have hts := C.2.2.2.2.2.2.1
  refine z_run (ν := ν) C hR hl h1 h2 (va_runV (As := as.map (zrv G)) (b := zad G a) (n := n) ⟨C.1, C.2.1, C.2.2.1, C.2.2.2.2.2.1, hts⟩ (K l) ⟨callB_of n hts (ztb_GoodIn hν.1) rfl rfl rfl (hts _ hν.2.1) (hts _ hlk.1) hν.2.2.1 ?_, hts _ hlk.2.1, hts _ hlk.2.2⟩ ⟨zPc_blind, ?_, fun U hU hW => ⟨rfl, by rw [hU]; exact hR.nil, zKK.warm hW C.2.2.2.2.2.2.2.1⟩⟩ rfl (by rw [List.length_map]; exact hn) hl.1 ?_ (lv_room (by rw [zsum_cat]; exact hw)) (zdg C hi) ?_) k
  · rw [hrm]
    have := hν.2.2.2
    exact ⟨hd, by show 8 + (ν.2.2.1 + 11) + 64 * d' ≤ 64 * d; omega⟩
  · obtain ⟨cell, g1, g2, g3, -⟩ := (ho s C.2.2.2.2.2.2.2.1.2.1).kept hR.2.1.2.1
    exact ⟨cell, g1, g2, g3⟩
  · simp [zrv]
  · rw [hrm]
    show zn h + zx h - b.1 + bc ≤ b.2.2.1 ∧ zs h - b.2.1 + bs ≤ b.2.2.2
    omega
theorem z_cXI0 (i : Nat) {index : Nat} {ν : zM} {a : Nat} {Q : Int32 → zMem → Prop} (hi : μ.2.2.2.2[i]? = some (pc, .invokevirtual index, 3)) (hb : b = (zn h + zx h, zs h, 0, 0)) (hν : zMF ν 0) (hlk : Cond.methodLink μ.1.cls index ν.1 ∈ ztb ∧ Cond.instanceMethod ν.1 ∈ ztb ∧ Cond.selects ν.1.cls ν.1 ν.1 ∈ ztb) (ho : ∀ U, gE G U → va_O ν.1.cls (zad G a) (zA G) U (gH G)) (hw : (st.map fun v => v.category).sum ≤ 8) (K : zConI G ν d [.ref a] h Q) (k : ∀ (v : Int32) (h' : zMem), Q v h' → zg G μ (d + 1) (pc + 3) lv (.int v :: st) h' P) : zGo G μ (d + 1) b pc lv (.ref a :: st) h P := by
  subst hb
  exact z_callVX i 0 [] hi hν hlk ho rfl hw (Nat.le_refl _) ⟨Nat.le_refl _, Nat.le_refl _⟩ K (fun r h' q c1 c2 => by
    obtain ⟨v, rfl, q⟩ := q
    exact zgo_cnt c1 c2 (k v h' q))
theorem z_cXI1 (i : Nat) {index : Nat} {ν : zM} {a : Nat} {v1 : Value} {Q : Int32 → zMem → Prop} (hi : μ.2.2.2.2[i]? = some (pc, .invokevirtual index, 3)) (hb : b = (zn h + zx h, zs h, 0, 0)) (hν : zMF ν 1) (hlk : Cond.methodLink μ.1.cls index ν.1 ∈ ztb ∧ Cond.instanceMethod ν.1 ∈ ztb ∧ Cond.selects ν.1.cls ν.1 ν.1 ∈ ztb) (ho : ∀ U, gE G U → va_O ν.1.cls (zad G a) (zA G) U (gH G)) (hw : (st.map fun v => v.category).sum ≤ 8) (K : zConI G ν d [.ref a, v1] h Q) (k : ∀ (v : Int32) (h' : zMem), Q v h' → zg G μ (d + 1) (pc + 3) lv (.int v :: st) h' P) : zGo G μ (d + 1) b pc lv (v1 :: .ref a :: st) h P := by
  subst hb
  exact z_callVX i 1 [v1] hi hν hlk ho rfl hw (Nat.le_refl _) ⟨Nat.le_refl _, Nat.le_refl _⟩ K (fun r h' q c1 c2 => by
    obtain ⟨v, rfl, q⟩ := q
    exact zgo_cnt c1 c2 (k v h' q))
end ZX
def mJ_len : zM := (yJ0_length_8abf5, cJ0_length_8abf5, 1, (some FieldType.int), [(0, .aload_n 0, 1), (1, .getfield 9, 3), (4, .arraylength, 1), (5, .aload_n 0, 1), (6, .invokevirtual 335, 3), (9, .ishr, 1), (10, .ireturn, 1)])
set_option maxRecDepth 100000 in
theorem eJ_len : zdec mJ_len := by unfold zdec; decide +kernel
theorem fJ_len : zMF mJ_len 0 := ⟨ztb_t (zt1 _ (List.mem_of_getElem? (i := 47) rfl)) rfl, ztb_t (zt1 _ (List.mem_of_getElem? (i := 4) rfl)) rfl, by decide +kernel, by decide⟩
def mJ_char : zM := (yJ0_charAt_5068e, cJ0_charAt_5068e, 2, (some FieldType.char), [(0, .aload_n 0, 1), (1, .invokevirtual 492, 3), (4, .ifCond .eq 12, 3), (7, .aload_n 0, 1), (8, .getfield 9, 3), (11, .iload_n 1, 1), (12, .invokestatic 495, 3), (15, .ireturn, 1), (16, .aload_n 0, 1), (17, .getfield 9, 3), (20, .iload_n 1, 1), (21, .invokestatic 498, 3), (24, .ireturn, 1)])
set_option maxRecDepth 100000 in
theorem eJ_char : zdec mJ_char := by unfold zdec; decide +kernel
theorem fJ_char : zMF mJ_char 1 := ⟨ztb_t (zt1 _ (List.mem_of_getElem? (i := 57) rfl)) rfl, ztb_t (zt1 _ (List.mem_of_getElem? (i := 4) rfl)) rfl, by decide +kernel, by decide⟩
def mJ_coder : zM := (yJ0_coder_7d493, cJ0_coder_7d493, 1, (some FieldType.byte), [(0, .getstatic 38, 3), (3, .ifCond .eq 10, 3), (6, .aload_n 0, 1), (7, .getfield 15, 3), (10, .goto 4, 3), (13, .iconst 1, 1), (14, .ireturn, 1)])
set_option maxRecDepth 100000 in
theorem eJ_coder : zdec mJ_coder := by unfold zdec; decide +kernel
theorem fJ_coder : zMF mJ_coder 0 := ⟨ztb_t (zt1 _ (List.mem_of_getElem? (i := 51) rfl)) rfl, ztb_t (zt1 _ (List.mem_of_getElem? (i := 4) rfl)) rfl, by decide +kernel, by decide⟩
def mJ_lat : zM := (yJ0_isLatin1_aae02, cJ0_isLatin1_aae02, 1, (some FieldType.boolean), [(0, .getstatic 38, 3), (3, .ifCond .eq 14, 3), (6, .aload_n 0, 1), (7, .getfield 15, 3), (10, .ifCond .ne 7, 3), (13, .iconst 1, 1), (14, .goto 4, 3), (17, .iconst 0, 1), (18, .ireturn, 1)])
set_option maxRecDepth 100000 in
theorem eJ_lat : zdec mJ_lat := by unfold zdec; decide +kernel
theorem fJ_lat : zMF mJ_lat 0 := ⟨ztb_t (zt1 _ (List.mem_of_getElem? (i := 61) rfl)) rfl, ztb_t (zt1 _ (List.mem_of_getElem? (i := 4) rfl)) rfl, by decide +kernel, by decide⟩
def mJ_chk : zM := (yJ0_checkIndex_df160, cJ0_checkIndex_df160, 2, none, [(0, .iload_n 0, 1), (1, .iload_n 1, 1), (2, .getstatic 1053, 3), (5, .invokestatic 1059, 3), (8, .pop, 1), (9, .return_, 1)])
set_option maxRecDepth 100000 in
theorem eJ_chk : zdec mJ_chk := by unfold zdec; decide +kernel
theorem fJ_chk : zMF mJ_chk 2 := ⟨ztb_t (zt1 _ (List.mem_of_getElem? (i := 67) rfl)) rfl, ztb_t (zt1 _ (List.mem_of_getElem? (i := 4) rfl)) rfl, by decide +kernel, by decide⟩
def mJ_lchar : zM := (yJ1_charAt_3b067, cJ1_charAt_3b067, 2, (some FieldType.char), [(0, .iload_n 1, 1), (1, .aload_n 0, 1), (2, .arraylength, 1), (3, .invokestatic 9, 3), (6, .aload_n 0, 1), (7, .iload_n 1, 1), (8, .baload, 1), (9, .sipush 255, 3), (12, .iand, 1), (13, .i2c, 1), (14, .ireturn, 1)])
set_option maxRecDepth 100000 in
theorem eJ_lchar : zdec mJ_lchar := by unfold zdec; decide +kernel
theorem fJ_lchar : zMF mJ_lchar 2 := ⟨ztb_t (zt1 _ (List.mem_of_getElem? (i := 64) rfl)) rfl, ztb_t (zt1 _ (List.mem_of_getElem? (i := 5) rfl)) rfl, by decide +kernel, by decide⟩
def mJ_pchk : zM := (yJ3_checkIndex_8e157, cJ3_checkIndex_8e157, 3, (some FieldType.int), [(0, .iload_n 0, 1), (1, .ifCond .lt 8, 3), (4, .iload_n 0, 1), (5, .iload_n 1, 1), (6, .if_icmp .lt 10, 3), (9, .aload_n 2, 1), (10, .iload_n 0, 1), (11, .iload_n 1, 1), (12, .invokestatic 95, 3), (15, .athrow, 1), (16, .iload_n 0, 1), (17, .ireturn, 1)])
set_option maxRecDepth 100000 in
theorem eJ_pchk : zdec mJ_pchk := by unfold zdec; decide +kernel
theorem fJ_pchk : zMF mJ_pchk 3 := ⟨ztb_t (zt1 _ (List.mem_of_getElem? (i := 72) rfl)) rfl, ztb_t (zt1 _ (List.mem_of_getElem? (i := 6) rfl)) rfl, by decide +kernel, by decide⟩
theorem gJ_coder : Cond.methodLink "java/lang/String" 335 mJ_coder.1 ∈ ztb ∧ Cond.instanceMethod mJ_coder.1 ∈ ztb ∧ Cond.selects mJ_coder.1.cls mJ_coder.1 mJ_coder.1 ∈ ztb := ⟨ztb_t (zt1 _ (List.mem_of_getElem? (i := 48) rfl)) rfl, ztb_t (zt1 _ (List.mem_of_getElem? (i := 49) rfl)) rfl, ztb_t (zt1 _ (List.mem_of_getElem? (i := 50) rfl)) rfl⟩
theorem gJ_lat : Cond.methodLink "java/lang/String" 492 mJ_lat.1 ∈ ztb ∧ Cond.instanceMethod mJ_lat.1 ∈ ztb ∧ Cond.selects mJ_lat.1.cls mJ_lat.1 mJ_lat.1 ∈ ztb := ⟨ztb_t (zt1 _ (List.mem_of_getElem? (i := 58) rfl)) rfl, ztb_t (zt1 _ (List.mem_of_getElem? (i := 59) rfl)) rfl, ztb_t (zt1 _ (List.mem_of_getElem? (i := 60) rfl)) rfl⟩
theorem gJ_lchar : Cond.methodLink "java/lang/String" 495 mJ_lchar.1 ∈ ztb ∧ Cond.static mJ_lchar.1 ∈ ztb := ⟨ztb_t (zt1 _ (List.mem_of_getElem? (i := 62) rfl)) rfl, ztb_t (zt1 _ (List.mem_of_getElem? (i := 63) rfl)) rfl⟩
theorem gJ_chk : Cond.methodLink "java/lang/StringLatin1" 9 mJ_chk.1 ∈ ztb ∧ Cond.static mJ_chk.1 ∈ ztb := ⟨ztb_t (zt1 _ (List.mem_of_getElem? (i := 65) rfl)) rfl, ztb_t (zt1 _ (List.mem_of_getElem? (i := 66) rfl)) rfl⟩
theorem gJ_pchk : Cond.methodLink "java/lang/String" 1059 mJ_pchk.1 ∈ ztb ∧ Cond.static mJ_pchk.1 ∈ ztb := ⟨ztb_t (zt1 _ (List.mem_of_getElem? (i := 70) rfl)) rfl, ztb_t (zt1 _ (List.mem_of_getElem? (i := 71) rfl)) rfl⟩
theorem gX10_205 : Cond.methodLink "SmellAbbeyModel" 205 mJ_len.1 ∈ ztb ∧ Cond.instanceMethod mJ_len.1 ∈ ztb ∧ Cond.selects mJ_len.1.cls mJ_len.1 mJ_len.1 ∈ ztb := ⟨ztb_t (zt6 _ (List.mem_of_getElem? (i := 144) rfl)) rfl, ztb_t (zt1 _ (List.mem_of_getElem? (i := 45) rfl)) rfl, ztb_t (zt1 _ (List.mem_of_getElem? (i := 46) rfl)) rfl⟩
theorem gX10_210 : Cond.methodLink "SmellAbbeyModel" 210 mJ_char.1 ∈ ztb ∧ Cond.instanceMethod mJ_char.1 ∈ ztb ∧ Cond.selects mJ_char.1.cls mJ_char.1 mJ_char.1 ∈ ztb := ⟨ztb_t (zt6 _ (List.mem_of_getElem? (i := 145) rfl)) rfl, ztb_t (zt1 _ (List.mem_of_getElem? (i := 55) rfl)) rfl, ztb_t (zt1 _ (List.mem_of_getElem? (i := 56) rfl)) rfl⟩
theorem gX4_21 : Cond.methodLink "SmellAbbey$Scanner" 21 mJ_len.1 ∈ ztb ∧ Cond.instanceMethod mJ_len.1 ∈ ztb ∧ Cond.selects mJ_len.1.cls mJ_len.1 mJ_len.1 ∈ ztb := ⟨ztb_t (zt1 _ (List.mem_of_getElem? (i := 44) rfl)) rfl, ztb_t (zt1 _ (List.mem_of_getElem? (i := 45) rfl)) rfl, ztb_t (zt1 _ (List.mem_of_getElem? (i := 46) rfl)) rfl⟩
theorem gX4_27 : Cond.methodLink "SmellAbbey$Scanner" 27 mJ_char.1 ∈ ztb ∧ Cond.instanceMethod mJ_char.1 ∈ ztb ∧ Cond.selects mJ_char.1.cls mJ_char.1 mJ_char.1 ∈ ztb := ⟨ztb_t (zt1 _ (List.mem_of_getElem? (i := 54) rfl)) rfl, ztb_t (zt1 _ (List.mem_of_getElem? (i := 55) rfl)) rfl, ztb_t (zt1 _ (List.mem_of_getElem? (i := 56) rfl)) rfl⟩
theorem lJ_38 : Cond.fieldLink "java/lang/String" 38 "java/lang/String" "COMPACT_STRINGS" "Z" ∈ ztb := ztb_t (zt1 _ (List.mem_of_getElem? (i := 52) rfl)) rfl
theorem lJ_1053 : Cond.fieldLink "java/lang/String" 1053 "jdk/internal/util/Preconditions" "SIOOBE_FORMATTER" "Ljava/util/function/BiFunction;" ∈ ztb := ztb_t (zt1 _ (List.mem_of_getElem? (i := 68) rfl)) rfl
theorem lJ_9 : Cond.fieldLink "java/lang/String" 9 "java/lang/String" "value" "[B" ∈ ztb := ztb_t (zt8 _ (List.mem_of_getElem? (i := 82) rfl)) rfl
theorem lJ_15 : Cond.fieldLink "java/lang/String" 15 "java/lang/String" "coder" "B" ∈ ztb := ztb_t (zt8 _ (List.mem_of_getElem? (i := 83) rfl)) rfl
theorem lX3_156 : Cond.fieldLink "SmellAbbey$Reader" 156 "SmellAbbey$Reader" "MOST" "[I" ∈ ztb := ztb_t (zt3 _ (List.mem_of_getElem? (i := 46) rfl)) rfl
section JS
variable {G : zG} {d : Nat} {h : zMem}
theorem gW.most (w : gW G) : (∀ U, gE G U → va_Z "SmellAbbey$Reader" "MOST" "[I" (zrv G (.ref 1000000)) (zA G) U (gH G)) ∧ ∀ U, gE G U → va_T .int (zad G 1000000) 4 (fun j => .int (mst j)) (zA G) U (gH G) := by
  have e : zad G 1000000 = gX G 0 := zad_x G 0
  refine ⟨fun U hU => ?_, fun U hU => ?_⟩
  · show va_Z _ _ _ (.ref (zad G 1000000)) _ _ _
    rw [e]; exact (w U hU).1
  · rw [e]; exact (w U hU).2.1
theorem gW.str (w : gW G) : (∀ U, gE G U → vk_R "SmellAbbeyModel" 203 wdTx (zad G 1000001) U) ∧ (∀ U, gE G U → vk_R "SmellAbbey$Scanner" 19 wdTx (zad G 1000001) U) ∧ (∀ U, gE G U → va_O "java/lang/String" (zad G 1000001) (zA G) U (gH G)) ∧ (∀ U, gE G U → va_OF "java/lang/String" "coder" "B" (zrv G (.int 0)) (zad G 1000001) (zA G) U (gH G)) ∧ (∀ U, gE G U → va_OF "java/lang/String" "value" "[B" (zrv G (.ref 1000002)) (zad G 1000001) (zA G) U (gH G)) ∧ (∀ U, gE G U → va_T .byte (zad G 1000002) 108 (fun j => .int (wch j)) (zA G) U (gH G)) ∧ ∀ U, gE G U → va_Z "java/lang/String" "COMPACT_STRINGS" "Z" (zrv G (.int 1)) (zA G) U (gH G) := by
  have e : zad G 1000001 = gX G 1 := zad_x G 1
  have e2 : zad G 1000002 = gX G 2 := zad_x G 2
  have e3 : zrv G (.ref 1000002) = .ref (gX G 2) := by show Value.ref (zad G 1000002) = _; rw [e2]
  rw [e, e2, e3]
  exact ⟨fun U hU => (w U hU).2.2.1, fun U hU => (w U hU).2.2.2.1, fun U hU => (w U hU).2.2.2.2.1, fun U hU => (w U hU).2.2.2.2.2.1, fun U hU => (w U hU).2.2.2.2.2.2.1, fun U hU => (w U hU).2.2.2.2.2.2.2.1, fun U hU => (w U hU).2.2.2.2.2.2.2.2.1⟩
theorem J_coder_ok (w : gW G) : zConI G mJ_coder d [.ref 1000001] h (fun v h' => v = 0 ∧ h' = h) := by
  refine zcon0 (by decide +kernel) eJ_coder (Nat.le_of_ble_eq_true rfl) rfl ?_
  show zg G mJ_coder d 0 [.ref 1000001] [] h _
  refine z_gets (v := .int 1) 0 rfl lJ_38 w.str.2.2.2.2.2.2 ?_
  refine z_if_eq 1 13 rfl (by decide) ⟨fun c => absurd c (by decide), fun _ => ?_⟩
  refine z_aload_n 2 rfl rfl ?_
  refine z_getfX (v := .int 0) 3 rfl lJ_15 w.str.2.2.2.1 ?_
  refine z_goto 4 14 rfl (by decide) ?_
  exact z_iret 6 rfl rfl rfl ⟨rfl, rfl⟩ ⟨_, rfl, rfl, rfl⟩
theorem J_lat_ok (w : gW G) : zConI G mJ_lat d [.ref 1000001] h (fun v h' => v = 1 ∧ h' = h) := by
  refine zcon0 (by decide +kernel) eJ_lat (Nat.le_of_ble_eq_true rfl) rfl ?_
  show zg G mJ_lat d 0 [.ref 1000001] [] h _
  refine z_gets (v := .int 1) 0 rfl lJ_38 w.str.2.2.2.2.2.2 ?_
  refine z_if_eq 1 17 rfl (by decide) ⟨fun c => absurd c (by decide), fun _ => ?_⟩
  refine z_aload_n 2 rfl rfl ?_
  refine z_getfX (v := .int 0) 3 rfl lJ_15 w.str.2.2.2.1 ?_
  refine z_if_ne 4 17 rfl (by decide) ⟨fun c => absurd rfl c, fun _ => ?_⟩
  refine z_iconst (v := 1) 5 rfl (by decide) ?_
  refine z_goto 6 18 rfl (by decide) ?_
  exact z_iret 8 rfl rfl rfl ⟨rfl, rfl⟩ ⟨_, rfl, rfl, rfl⟩
theorem J_pchk_ok {x y : Int32} {v : Value} (hv : v = .null ∨ ∃ a, v = .ref a) (h0 : ¬ x < 0) (h1 : x < y) : zConI G mJ_pchk d [.int x, .int y, v] h (fun v h' => v = x ∧ h' = h) := by
  have hw : zwid [.int x, .int y, v] ≤ mJ_pchk.2.2.1 := by rcases hv with rfl | ⟨a, rfl⟩ <;> exact Nat.le_of_ble_eq_true rfl
  have hc : ([.int x, .int y, v] : List Value).all zcat1 = true := by rcases hv with rfl | ⟨a, rfl⟩ <;> rfl
  have he : zent mJ_pchk.2.2.1 [.int x, .int y, v] = [.int x, .int y, v] := by rcases hv with rfl | ⟨a, rfl⟩ <;> rfl
  refine zcon0 (by decide +kernel) eJ_pchk hw hc ?_
  rw [he]
  refine z_iload_n 0 rfl rfl ?_
  refine z_if_lt 1 9 rfl (by decide) ⟨fun c => absurd c h0, fun _ => ?_⟩
  refine z_iload_n 2 rfl rfl ?_
  refine z_iload_n 3 rfl rfl ?_
  refine z_icmp_lt 4 16 rfl (by decide) ⟨fun _ => ?_, fun c => absurd h1 c⟩
  refine z_iload_n 10 rfl rfl ?_
  exact z_iret 11 rfl rfl rfl ⟨rfl, rfl⟩ ⟨_, rfl, rfl, rfl⟩
theorem J_chk_ok (w : gW G) {x y : Int32} (h0 : ¬ x < 0) (h1 : x < y) : zConV G mJ_chk (d + 1) [.int x, .int y] h (fun h' => h' = h) := by
  refine zcon0 (by decide +kernel) eJ_chk (Nat.le_of_ble_eq_true rfl) rfl ?_
  show zg G mJ_chk (d + 1) 0 [.int x, .int y] [] h _
  refine z_iload_n 0 rfl rfl ?_
  refine z_iload_n 1 rfl rfl ?_
  intro p l e R s m args below meth c C H locs ls hR hl a1 a2
  have key : ∀ v : Value, (v = .null ∨ ∃ a, v = .ref a) → va_Z "jdk/internal/util/Preconditions" "SIOOBE_FORMATTER" "Ljava/util/function/BiFunction;" (zrv G v) (zA G) s (gH G) → W p l.1 e R s m args below meth c H locs (zn h + zx h - (zn h + zx h)) (zs h - zs h) (MQ below (zQ G (zn h + zx h, zs h, 0, 0) (zPV fun h' => h' = h)) args s 0 0 (zA G)) (F0 m 2 ls (([.int y, .int x] : List Value).map (zrv G))) := by
    intro v hv hZ
    obtain ⟨cf, kf, fi, f, a, cell, g1, g2, g3, g4, g5, g6, g7, g8⟩ := hZ
    have kk : zg G mJ_chk (d + 1) 5 [.int x, .int y] [v, .int y, .int x] h (zPV fun h' => h' = h) := by
      refine z_cSI3 (ν := mJ_pchk) 3 rfl rfl fJ_pchk gJ_pchk (Nat.le_of_ble_eq_true rfl) (J_pchk_ok hv h0 h1) (fun r h' q => ?_)
      obtain ⟨rfl, rfl⟩ := q
      refine z_pop 4 rfl rfl ?_
      exact z_vret 5 rfl rfl ⟨rfl, rfl⟩ ⟨rfl, rfl⟩
    exact W.gets C.1 C.2.1 C.2.2.2.2.2.1 (C.2.2.2.2.2.2.1 _ lJ_1053) g1 g2 g3 g4 (by rw [hR.2.1.2.1 a (Array.getElem?_eq_some_iff.mp g5).1 g8]; exact g5) (fun e => by rw [e] at g6; cases g6) g7 rfl (zdg C (i := 2) rfl) (kk p l e R s m args below meth c C H locs ls hR hl a1 a2)
  rcases (w s C.2.2.2.2.2.2.2.1.2.1).2.2.2.2.2.2.2.2.2 with z | z
  · exact key .null (Or.inl rfl) z
  · exact key (.ref 1000004) (Or.inr ⟨_, rfl⟩) (by show va_Z _ _ _ (.ref (zad G 1000004)) _ _ _; rw [show zad G 1000004 = gX G 4 from zad_x G 4]; exact z)
theorem wch_chr : ∀ j : Fin 108, (((wch j.val &&& 255).toUInt32 % 65536).toInt32 = wch j.val) ∧ narrow .char (.int (wch j.val)) = .int (wch j.val) := by decide +kernel
theorem J_lchar_ok (w : gW G) {x : Nat} (hx : x < 108) : zConI G mJ_lchar (d + 2) [.ref 1000002, .int (nI x)] h (fun v h' => v = wch x ∧ h' = h) := by
  refine zcon0 (by decide +kernel) eJ_lchar (Nat.le_of_ble_eq_true rfl) rfl ?_
  show zg G mJ_lchar (d + 2) 0 [.ref 1000002, .int (nI x)] [] h _
  refine z_iload_n 0 rfl rfl ?_
  refine z_aload_n 1 rfl rfl ?_
  refine z_tlenX 2 rfl w.str.2.2.2.2.2.1 ?_
  refine z_cSV2 (ν := mJ_chk) 3 rfl rfl fJ_chk gJ_chk (Nat.le_of_ble_eq_true rfl) (J_chk_ok w (nI_pos (by omega)) (nI_lt hx (by decide))) (fun h' q => ?_)
  have q : h' = h := q
  subst q
  refine z_aload_n 4 rfl rfl ?_
  refine z_iload_n 5 rfl rfl ?_
  refine z_tbX 6 rfl w.str.2.2.2.2.2.1 (zin_n hx (by decide)) ?_
  rw [zcla (show x < 2 ^ 31 by omega)]
  refine z_sipush (v := 255) 7 rfl (by decide) ?_
  refine z_iand 8 rfl ?_
  have e := wch_chr ⟨x, hx⟩
  refine z_i2c 9 rfl e.1 ?_
  exact z_iret 10 rfl rfl e.2 ⟨rfl, rfl⟩ ⟨_, rfl, rfl, rfl⟩
theorem J_char_ok (w : gW G) {x : Nat} (hx : x < 108) : zConI G mJ_char (d + 3) [.ref 1000001, .int (nI x)] h (fun v h' => v = wch x ∧ h' = h) := by
  refine zcon0 (by decide +kernel) eJ_char (Nat.le_of_ble_eq_true rfl) rfl ?_
  show zg G mJ_char (d + 3) 0 [.ref 1000001, .int (nI x)] [] h _
  refine z_aload_n 0 rfl rfl ?_
  refine z_cXI0 (ν := mJ_lat) 1 rfl rfl fJ_lat gJ_lat w.str.2.2.1 (Nat.le_of_ble_eq_true rfl) (J_lat_ok w) (fun v h' q => ?_)
  obtain ⟨rfl, rfl⟩ := q
  refine z_if_eq 2 16 rfl (by decide) ⟨fun c => absurd c (by decide), fun _ => ?_⟩
  refine z_aload_n 3 rfl rfl ?_
  refine z_getfX (v := .ref 1000002) 4 rfl lJ_9 w.str.2.2.2.2.1 ?_
  refine z_iload_n 5 rfl rfl ?_
  refine z_cSI2 (ν := mJ_lchar) 6 rfl rfl fJ_lchar gJ_lchar (Nat.le_of_ble_eq_true rfl) (J_lchar_ok w hx) (fun v h' q => ?_)
  obtain ⟨rfl, rfl⟩ := q
  exact z_iret 7 rfl rfl (wch_chr ⟨x, hx⟩).2 ⟨rfl, rfl⟩ ⟨_, rfl, rfl, rfl⟩
theorem J_len_ok (w : gW G) : zConI G mJ_len (d + 1) [.ref 1000001] h (fun v h' => v = 108 ∧ h' = h) := by
  refine zcon0 (by decide +kernel) eJ_len (Nat.le_of_ble_eq_true rfl) rfl ?_
  show zg G mJ_len (d + 1) 0 [.ref 1000001] [] h _
  refine z_aload_n 0 rfl rfl ?_
  refine z_getfX (v := .ref 1000002) 1 rfl lJ_9 w.str.2.2.2.2.1 ?_
  refine z_tlenX 2 rfl w.str.2.2.2.2.2.1 ?_
  refine z_aload_n 3 rfl rfl ?_
  refine z_cXI0 (ν := mJ_coder) 4 rfl rfl fJ_coder gJ_coder w.str.2.2.1 (Nat.le_of_ble_eq_true rfl) (J_coder_ok w) (fun v h' q => ?_)
  obtain ⟨rfl, rfl⟩ := q
  refine z_ishr 5 rfl ?_
  exact z_iret 6 rfl rfl rfl ⟨rfl, rfl⟩ ⟨_, rfl, by decide, rfl⟩
end JS
section ZY
variable {G : zG} {μ : zM} {d : Nat} {b : zB} {pc : Nat} {lv st : List Value} {h : zMem} {P : Option Value → zMem → Prop}
/-- String.length and charAt of the words, as rows -/
theorem z_slen (i : Nat) {index : Nat} (hi : μ.2.2.2.2[i]? = some (pc, .invokevirtual index, 3)) (hb : b = (zn h + zx h, zs h, 0, 0)) (hlk : Cond.methodLink μ.1.cls index mJ_len.1 ∈ ztb ∧ Cond.instanceMethod mJ_len.1 ∈ ztb ∧ Cond.selects mJ_len.1.cls mJ_len.1 mJ_len.1 ∈ ztb) (w : gW G) (hw : (st.map fun v => v.category).sum ≤ 8) (k : zg G μ (d + 2) (pc + 3) lv (.int 108 :: st) h P) : zGo G μ (d + 2) b pc lv (.ref 1000001 :: st) h P :=
  z_cXI0 i hi hb fJ_len hlk w.str.2.2.1 hw (J_len_ok w) (fun v h' q => by obtain ⟨rfl, rfl⟩ := q; exact k)
theorem z_schar (i : Nat) {index : Nat} {x : Int32} (hi : μ.2.2.2.2[i]? = some (pc, .invokevirtual index, 3)) (hb : b = (zn h + zx h, zs h, 0, 0)) (hlk : Cond.methodLink μ.1.cls index mJ_char.1 ∈ ztb ∧ Cond.instanceMethod mJ_char.1 ∈ ztb ∧ Cond.selects mJ_char.1.cls mJ_char.1 mJ_char.1 ∈ ztb) (w : gW G) (hw : (st.map fun v => v.category).sum ≤ 8) {j : Nat} (hx : x = nI j) (hj : j < 108) (k : zg G μ (d + 4) (pc + 3) lv (.int (wch j) :: st) h P) : zGo G μ (d + 4) b pc lv (.int x :: .ref 1000001 :: st) h P := by
  subst hx
  exact z_cXI1 i hi hb fJ_char hlk w.str.2.2.1 hw (J_char_ok w hj) (fun v h' q => by obtain ⟨rfl, rfl⟩ := q; exact k)
end ZY
