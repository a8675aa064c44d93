def scW : List Nat := [0, 0, 0, 0, 0, 0, 1, 1, 1, 1, 2, 2, 2, 2, 3, 3, 3, 3, 3, 4, 4, 4, 4, 4, 5, 5, 5, 5, 5, 5, 5, 6, 6, 6, 6, 6, 7, 7, 7, 7, 8, 8, 8, 8, 8, 8, 9, 9, 9, 9, 10, 10, 10, 10, 10, 11, 11, 11, 11, 11, 11, 12, 12, 12, 13, 13, 13, 13, 14, 14, 14, 14, 15, 15, 15, 15, 15, 16, 16, 16, 16, 16, 17, 17, 17, 17, 17, 18, 18, 18, 18, 18, 19, 19, 19, 19, 19, 20, 20, 20, 20, 20, 20, 21, 21, 21, 21, 21, 22]
def scP : List Nat := [0, 19, 628, 20117, 643750, 20600006, 0, 4, 129, 4153, 0, 13, 425, 13624, 0, 18, 591, 18927, 605677, 0, 13, 431, 13806, 441803, 0, 12, 393, 12590, 402887, 12892389, 412556466, 0, 19, 613, 19621, 627876, 0, 12, 385, 12343, 0, 6, 197, 6305, 201779, 6456948, 0, 1, 41, 1330, 0, 11, 357, 11429, 365742, 0, 23, 751, 24050, 769620, 24627848, 0, 15, 498, 0, 1, 46, 1476, 0, 14, 463, 14836, 0, 13, 437, 13987, 447592, 0, 16, 513, 16434, 525908, 0, 12, 389, 12454, 398548, 0, 23, 745, 23854, 763332, 0, 4, 129, 4148, 132741, 0, 16, 524, 16769, 536611, 17171557, 0, 14, 463, 14835, 474725, 0]
def scN : List Nat := [0, 1, 2, 3, 4, 5, 0, 1, 2, 3, 0, 1, 2, 3, 0, 1, 2, 3, 4, 0, 1, 2, 3, 4, 0, 1, 2, 3, 4, 5, 6, 0, 1, 2, 3, 4, 0, 1, 2, 3, 0, 1, 2, 3, 4, 5, 0, 1, 2, 3, 0, 1, 2, 3, 4, 0, 1, 2, 3, 4, 5, 0, 1, 2, 0, 1, 2, 3, 0, 1, 2, 3, 0, 1, 2, 3, 4, 0, 1, 2, 3, 4, 0, 1, 2, 3, 4, 0, 1, 2, 3, 4, 0, 1, 2, 3, 4, 0, 1, 2, 3, 4, 5, 0, 1, 2, 3, 4, 0]
theorem zK_at {h : zMem} {L : List zC} {i : Nat} {c : zC} (e : L[i]? = some c) : zK (zapp h L) (zn h + i) = c.1 := zsl_at e
theorem zLen_at {h : zMem} {L : List zC} {i : Nat} {c : zC} (e : L[i]? = some c) : zLen (zapp h L) (zn h + i) = c.2.1 := zsl_at e
theorem zR_at {h : zMem} {L : List zC} {i : Nat} {c : zC} (e : L[i]? = some c) : zR (zapp h L) (zn h + i) = c.2.2.2.1 := zsl_at e
theorem zI_at {h : zMem} {L : List zC} {i : Nat} {c : zC} (e : L[i]? = some c) : zI (zapp h L) (zn h + i) = c.2.2.2.2 := zsl_at e
theorem sc_tab : ∀ i : Fin 108, (wch i.val = 32 → nI (scP.getD i.val 0) <<< (((5 : Int32) * (6 - nI (scN.getD i.val 0))) &&& 31) = wdT (scW.getD i.val 0) ∧ scW.getD (i.val + 1) 0 = scW.getD i.val 0 + 1 ∧ scP.getD (i.val + 1) 0 = 0 ∧ scN.getD (i.val + 1) 0 = 0) ∧ (wch i.val ≠ 32 → (nI (scP.getD i.val 0) <<< ((5 : Int32) &&& 31)) ||| (wch i.val - 97 + 1) = nI (scP.getD (i.val + 1) 0) ∧ scW.getD (i.val + 1) 0 = scW.getD i.val 0 ∧ scN.getD (i.val + 1) 0 = scN.getD i.val 0 + 1) ∧ scW.getD i.val 0 < 22 := by decide +kernel
/-- the words that are there ahead of word j -/
def scF (j : Nat) : Nat → Int32 := fun k => if k < j then wdT k else 0
def scL (n : Nat) : List zC := (zcR (zcR (zC0 4 0 8) 0 (some (n + 1))) 1 (some (n + 2))) :: ((100, 22, 22, fun _ => none, scF 22) :: ((zC0 102 0 0) :: ([])))
theorem scL_len (n : Nat) : (scL n).length = 3 := rfl
theorem scL_sum (n : Nat) : ((scL n).map fun c => c.2.2.1).sum = 30 := rfl
theorem scF_st (j : Nat) : (fun k => if k = j then wdT j else scF j k) = scF (j + 1) := funext fun k => by
  unfold scF
  by_cases e : k = j
  · subst e; rw [if_pos rfl, if_pos (by omega)]
  · rw [if_neg e]
    by_cases c : k < j
    · rw [if_pos c, if_pos (by omega)]
    · rw [if_neg c, if_neg (by omega)]
section ZS4
variable {G : zG} {μ : zM} {d : Nat} {b : zB} {pc : Nat} {lv st : List Value} {h : zMem} {P : Option Value → zMem → Prop}
theorem z_slenB (i : Nat) {index : Nat} (hi : μ.2.2.2.2[i]? = some (pc, .invokevirtual index, 3)) (hb : zn h + zx h ≤ b.1 + b.2.2.1 ∧ zs h ≤ b.2.1 + b.2.2.2) (hlk : Cond.methodLink μ.1.cls index mJ_len.1 ∈ ztb ∧ Cond.instanceMethod mJ_len.1 ∈ ztb ∧ Cond.selects mJ_len.1.cls mJ_len.1 mJ_len.1 ∈ ztb) (w : gW G) (hw : (st.map fun v => v.category).sum ≤ 8) (k : zGo G μ (d + 2) b (pc + 3) lv (.int 108 :: st) h P) : zGo G μ (d + 2) b pc lv (.ref 1000001 :: st) h P :=
  z_callVX i 0 [] hi fJ_len hlk w.str.2.2.1 rfl hw (Nat.le_refl _) (bc := 0) (bs := 0) hb (J_len_ok w) (fun r h' q c1 c2 => by
    obtain ⟨v, rfl, rfl, rfl⟩ := q
    exact k)
theorem z_scharB (i : Nat) {index : Nat} {x : Int32} (hi : μ.2.2.2.2[i]? = some (pc, .invokevirtual index, 3)) (hb : zn h + zx h ≤ b.1 + b.2.2.1 ∧ zs h ≤ b.2.1 + b.2.2.2) (hlk : Cond.methodLink μ.1.cls index mJ_char.1 ∈ ztb ∧ Cond.instanceMethod mJ_char.1 ∈ ztb ∧ Cond.selects mJ_char.1.cls mJ_char.1 mJ_char.1 ∈ ztb) (w : gW G) (hw : (st.map fun v => v.category).sum ≤ 8) {j : Nat} (hx : x = nI j) (hj : j < 108) (k : zGo G μ (d + 4) b (pc + 3) lv (.int (wch j) :: st) h P) : zGo G μ (d + 4) b pc lv (.int x :: .ref 1000001 :: st) h P := by
  subst hx
  exact z_callVX i 1 [.int (nI j)] hi fJ_char hlk w.str.2.2.1 rfl hw (Nat.le_refl _) (bc := 0) (bs := 0) hb (J_char_ok w hj) (fun r h' q c1 c2 => by
    obtain ⟨v, rfl, rfl, rfl⟩ := q
    exact k)
end ZS4

set_option maxRecDepth 100000 in
theorem mk_X4 {G : zG} {d : Nat} (w : gW G) : zMk G mX4_init 4 8 (d + 5) 2 22 scL := by
  intro h hx hn
  refine zcon_intro (by decide +kernel) eX4_init (Nat.le_of_ble_eq_true rfl) (fun a ha => List.all_eq_true.mp (show ([.ref (zn h)] : List Value).all zcat1 = true from rfl) a ha) ?_
  show zGo G mX4_init (d + 5) (zn (zapp h [zC0 4 0 8]) + zx (zapp h [zC0 4 0 8]), zs (zapp h [zC0 4 0 8]), 2, 22) 0 [.ref (zn h), zU, zU, zU, zU, zU] [] (zapp h [zC0 4 0 8]) _
  refine z_aload_n 0 rfl rfl ?_
  refine z_objInit 1 rfl ⟨ztb_t (zt1 _ (List.mem_of_getElem? (i := 42) rfl)) rfl, zoi⟩ (Nat.le_of_ble_eq_true rfl) (Nat.le_add_left _ _) ?_
  refine z_aload_n 2 rfl rfl ?_
  refine z_bipush (v := 22) 3 rfl (by decide) ?_
  refine z_newI 4 22 1 8 (by simp only [List.length_cons, List.length_append, List.length_nil, zmL_len, laL_len, noL_len, unL_len, stL_len, nuL_len, tdL_len]; try omega) (by simp only [List.map_cons, List.map_append, List.map_nil, List.sum_cons, List.sum_append, List.sum_nil, zmL_sum, zcR_s, zcI_s, zC0_s, laL_sum, noL_sum, unL_sum, stL_sum, nuL_sum, tdL_sum]; try omega) rfl (by decide) (by decide) hx (by omega) ⟨by show zn h + 1 + zx h + 1 ≤ zn h + 1 + zx h + 2; omega, by show zs h + 8 + 22 ≤ zs h + 8 + 22; omega⟩ (by decide) ?_
  refine zgl (L' := (zC0 4 0 8) :: ((zC0 100 22 22) :: ([]))) (by simp only [List.cons_append, List.append_assoc, List.nil_append, List.append_nil]) ?_
  refine z_putA 5 rfl lX4_9 ⟨_, _, _, rfl, rfl, rfl⟩ rfl rfl rfl ?_
  refine z_aload_n 6 rfl rfl ?_
  refine z_iconst (v := 0) 7 rfl (by decide) ?_
  refine z_newB 8 0 2 30 (by simp only [List.length_cons, List.length_append, List.length_nil, zmL_len, laL_len, noL_len, unL_len, stL_len, nuL_len, tdL_len]; try omega) (by simp only [List.map_cons, List.map_append, List.map_nil, List.sum_cons, List.sum_append, List.sum_nil, zmL_sum, zcR_s, zcI_s, zC0_s, laL_sum, noL_sum, unL_sum, stL_sum, nuL_sum, tdL_sum]; try omega) rfl (by decide) (by decide) hx (by omega) ⟨by show zn h + 2 + zx h + 1 ≤ zn h + 1 + zx h + 2; omega, by show zs h + 30 + 0 ≤ zs h + 8 + 22; omega⟩ (by decide) ?_
  refine zgl (L' := (zcR (zC0 4 0 8) 0 (some (zn h + 1))) :: ((zC0 100 22 22) :: ((zC0 102 0 0) :: ([])))) (by simp only [List.cons_append, List.append_assoc, List.nil_append, List.append_nil]) ?_
  refine z_putR0 9 rfl lX4_15 ⟨_, _, _, rfl, rfl⟩ rfl rfl ?_
  refine zgl (L' := (zcR (zcR (zC0 4 0 8) 0 (some (zn h + 1))) 1 (some (zn h + 2))) :: ((100, 22, 22, fun _ => none, scF 0) :: ((zC0 102 0 0) :: ([])))) rfl ?_
  refine z_iconst (v := 0) 10 rfl (by decide) ?_
  refine z_istore_n 11 rfl (by decide) rfl ?_
  refine z_iconst (v := 0) 12 rfl (by decide) ?_
  refine z_istore_n 13 rfl (by decide) rfl ?_
  refine z_iconst (v := 0) 14 rfl (by decide) ?_
  refine z_istore_n 15 rfl (by decide) rfl ?_
  refine z_iconst (v := 0) 16 rfl (by decide) ?_
  refine z_istore 17 rfl (by decide) rfl ?_
  obtain ⟨bb, hbb⟩ : ∃ bb : zB, bb = (zn (zapp h [zC0 4 0 8]) + zx (zapp h [zC0 4 0 8]), zs (zapp h [zC0 4 0 8]), 2, 22) := ⟨_, rfl⟩
  rw [← hbb]
  have bnd : ∀ f : Nat → Int32, zn (zapp h ((zcR (zcR (zC0 4 0 8) 0 (some (zn h + 1))) 1 (some (zn h + 2))) :: ((100, 22, 22, fun _ => none, f) :: ((zC0 102 0 0) :: ([]))))) + zx (zapp h ((zcR (zcR (zC0 4 0 8) 0 (some (zn h + 1))) 1 (some (zn h + 2))) :: ((100, 22, 22, fun _ => none, f) :: ((zC0 102 0 0) :: ([]))))) ≤ bb.1 + bb.2.2.1 ∧ zs (zapp h ((zcR (zcR (zC0 4 0 8) 0 (some (zn h + 1))) 1 (some (zn h + 2))) :: ((100, 22, 22, fun _ => none, f) :: ((zC0 102 0 0) :: ([]))))) ≤ bb.2.1 + bb.2.2.2 := fun f => by
    rw [hbb]
    exact ⟨by show zn h + 3 + zx h ≤ zn h + 1 + zx h + 2; omega, by show zs h + 30 ≤ zs h + 8 + 22; omega⟩
  have o0 : ∀ f : Nat → Int32, zO (zapp h ((zcR (zcR (zC0 4 0 8) 0 (some (zn h + 1))) 1 (some (zn h + 2))) :: ((100, 22, 22, fun _ => none, f) :: ((zC0 102 0 0) :: ([]))))) (zn h) 4 := fun f => zO_app rfl
  have r0 : ∀ f : Nat → Int32, zR (zapp h ((zcR (zcR (zC0 4 0 8) 0 (some (zn h + 1))) 1 (some (zn h + 2))) :: ((100, 22, 22, fun _ => none, f) :: ((zC0 102 0 0) :: ([]))))) (zn h) 0 = some (zn h + 1) := fun f => by
    have : zR (zapp h ((zcR (zcR (zC0 4 0 8) 0 (some (zn h + 1))) 1 (some (zn h + 2))) :: ((100, 22, 22, fun _ => none, f) :: ((zC0 102 0 0) :: ([]))))) (zn h + 0) = (zcR (zcR (zC0 4 0 8) 0 (some (zn h + 1))) 1 (some (zn h + 2))).2.2.2.1 := zsl_at rfl
    exact congrFun this 0
  have o1 : ∀ f : Nat → Int32, zO (zapp h ((zcR (zcR (zC0 4 0 8) 0 (some (zn h + 1))) 1 (some (zn h + 2))) :: ((100, 22, 22, fun _ => none, f) :: ((zC0 102 0 0) :: ([]))))) (zn h + 1) 100 := fun f => ⟨by show zn h + 1 < zn h + 3; omega, zK_at (i := 1) (c := (100, 22, 22, fun _ => none, f)) rfl⟩
  have l1 : ∀ f : Nat → Int32, zLen (zapp h ((zcR (zcR (zC0 4 0 8) 0 (some (zn h + 1))) 1 (some (zn h + 2))) :: ((100, 22, 22, fun _ => none, f) :: ((zC0 102 0 0) :: ([]))))) (zn h + 1) = 22 := fun f => zLen_at (i := 1) (c := (100, 22, 22, fun _ => none, f)) rfl
  have F : ∀ m i (x5 : Value), m + i = 108 → zGo G mX4_init (d + 5) bb 28 [.ref (zn h), .int (nI (scW.getD i 0)), .int (nI (scP.getD i 0)), .int (nI (scN.getD i 0)), .int (nI i), x5] [] (zapp h ((zcR (zcR (zC0 4 0 8) 0 (some (zn h + 1))) 1 (some (zn h + 2))) :: ((100, 22, 22, fun _ => none, scF (scW.getD i 0)) :: ((zC0 102 0 0) :: ([]))))) (zPV fun h' => h' = zapp h (scL (zn h))) := by
    intro m
    induction m with
    | zero =>
      intro i x5 hi
      have : i = 108 := by omega
      subst this
      refine z_iload 18 rfl rfl ?_
      refine z_ldcX (tx := wdTx) (a := 1000001) 19 rfl w.str.2.1 ?_
      refine z_slenB 20 rfl (bnd _) gX4_21 w (Nat.le_of_ble_eq_true rfl) ?_
      refine z_icmp_ge 21 108 rfl (by decide) ⟨fun _ => ?_, fun c => absurd (by decide) c⟩
      refine z_vret 64 rfl rfl ?_ ⟨rfl, rfl⟩
      rw [hbb]
      exact ⟨by show zn h + 3 + zx h = zn h + 1 + zx h + 2; omega, by show zs h + 30 = zs h + 8 + 22; omega⟩
    | succ m ih =>
      intro i x5 hi
      have hi8 : i < 108 := by omega
      obtain ⟨t1, t2, t3⟩ := sc_tab ⟨i, hi8⟩
      have t3 : scW.getD i 0 < 22 := t3
      refine z_iload 18 rfl rfl ?_
      refine z_ldcX (tx := wdTx) (a := 1000001) 19 rfl w.str.2.1 ?_
      refine z_slenB 20 rfl (bnd _) gX4_21 w (Nat.le_of_ble_eq_true rfl) ?_
      refine z_icmp_ge 21 108 rfl (by decide) ⟨fun c => absurd c (nI_ge (b := 108) (by omega) (by decide)), fun _ => ?_⟩
      refine z_iload_n 22 rfl rfl ?_
      refine z_aload_n 23 rfl rfl ?_
      refine z_getR 24 rfl lX4_9 rfl (o0 _) (r0 _) ?_
      refine z_alen 25 rfl (o1 _) (Or.inl rfl) ?_
      rw [l1]
      refine z_icmp_ge 26 108 rfl (by decide) ⟨fun c => absurd c (nI_ge t3 (by decide)), fun _ => ?_⟩
      refine z_ldcX (tx := wdTx) (a := 1000001) 27 rfl w.str.2.1 ?_
      refine z_iload 28 rfl rfl ?_
      refine z_scharB (d := d + 1) 29 rfl (bnd _) gX4_27 w (Nat.le_of_ble_eq_true rfl) rfl hi8 ?_
      refine z_istore 30 rfl (by decide) rfl ?_
      refine z_iload 31 rfl rfl ?_
      refine z_bipush (v := 32) 32 rfl (by decide) ?_
      refine z_icmp_ne 33 87 rfl (by decide) ⟨fun c => ?_, fun c => ?_⟩
      · obtain ⟨u1, u2, u3⟩ := t2 c
        have u1 : (nI (scP.getD i 0) <<< ((5 : Int32) &&& 31)) ||| (wch i - 97 + 1) = nI (scP.getD (i + 1) 0) := u1
        have u2 : scW.getD (i + 1) 0 = scW.getD i 0 := u2
        have u3 : scN.getD (i + 1) 0 = scN.getD i 0 + 1 := u3
        refine z_iload_n 51 rfl rfl ?_
        refine z_iconst (v := 5) 52 rfl (by decide) ?_
        refine z_ishl 53 rfl ?_
        refine z_iload 54 rfl rfl ?_
        refine z_bipush (v := 97) 55 rfl (by decide) ?_
        refine z_isub 56 rfl ?_
        refine z_iconst (v := 1) 57 rfl (by decide) ?_
        refine z_iadd 58 rfl ?_
        refine z_ior 59 rfl ?_
        rw [u1]
        refine z_istore_n 60 rfl (by decide) rfl ?_
        refine z_iinc (v := 1) 61 rfl rfl (by decide) (by decide) rfl ?_
        refine z_iinc (v := 1) 62 rfl rfl (by decide) (by decide) rfl ?_
        refine z_goto 63 28 rfl (by decide) ?_
        have ihh := ih (i + 1) (.int (wch i)) (by omega)
        rw [u2, u3] at ihh
        rw [nI_1, nI_1]
        exact ihh
      · obtain ⟨u1, u2, u3, u4⟩ := t1 c
        have u1 : nI (scP.getD i 0) <<< (((5 : Int32) * (6 - nI (scN.getD i 0))) &&& 31) = wdT (scW.getD i 0) := u1
        have u2 : scW.getD (i + 1) 0 = scW.getD i 0 + 1 := u2
        have u3 : scP.getD (i + 1) 0 = 0 := u3
        have u4 : scN.getD (i + 1) 0 = 0 := u4
        refine z_aload_n 34 rfl rfl ?_
        refine z_getR 35 rfl lX4_9 rfl (o0 _) (r0 _) ?_
        refine z_iload_n 36 rfl rfl ?_
        refine z_iload_n 37 rfl rfl ?_
        refine z_iconst (v := 5) 38 rfl (by decide) ?_
        refine z_bipush (v := 6) 39 rfl (by decide) ?_
        refine z_iload_n 40 rfl rfl ?_
        refine z_isub 41 rfl ?_
        refine z_imul 42 rfl ?_
        refine z_ishl 43 rfl ?_
        rw [u1]
        refine z_iast 44 rfl (o1 _) (by rw [l1]; exact zin_n t3 (by decide)) ?_
        rw [zcla (show scW.getD i 0 < 2 ^ 31 by omega)]
        refine zgo_mem (zapp_sI (i := 1) rfl) ?_
        refine z_iinc (v := 1) 45 rfl rfl (by decide) (by decide) rfl ?_
        refine z_iconst (v := 0) 46 rfl (by decide) ?_
        refine z_istore_n 47 rfl (by decide) rfl ?_
        refine z_iconst (v := 0) 48 rfl (by decide) ?_
        refine z_istore_n 49 rfl (by decide) rfl ?_
        refine z_goto 50 102 rfl (by decide) ?_
        refine z_iinc (v := 1) 62 rfl rfl (by decide) (by decide) rfl ?_
        refine z_goto 63 28 rfl (by decide) ?_
        have ihh := ih (i + 1) (.int (wch i)) (by omega)
        rw [u2, u3, u4] at ihh
        rw [nI_1, nI_1]
        have ef : (100, 22, 22, (fun _ => none), fun k => if k = scW.getD i 0 then wdT (scW.getD i 0) else scF (scW.getD i 0) k) = ((100, 22, 22, (fun _ => none), scF (scW.getD i 0 + 1)) : zC) := by rw [scF_st]
        refine zgl (L' := (zcR (zcR (zC0 4 0 8) 0 (some (zn h + 1))) 1 (some (zn h + 2))) :: ((100, 22, 22, fun _ => none, scF (scW.getD i 0 + 1)) :: ((zC0 102 0 0) :: ([])))) ?_ ihh
        show _ :: ((100, 22, 22, (fun _ => none), fun k => if k = scW.getD i 0 then wdT (scW.getD i 0) else scF (scW.getD i 0) k) :: _) = _
        rw [ef]
  exact F 108 0 zU rfl

