def reL (n : Nat) : List zC := (zcI (zcR (zcR (zcR (zcR (zC0 3 0 9) 0 (some (n + 1))) 1 (some (n + 4))) 2 (some (n + 5))) 6 (some (n + 6))) 8 (-1)) :: (scL (n + 1) ++ ((zC0 100 72 72) :: ((zC0 100 72 72) :: (tdL (n + 6) ++ ([])))))
theorem reL_len (n : Nat) : (reL n).length = 35 := by unfold reL; simp only [List.length_cons, List.length_append, List.length_nil, zmL_len, laL_len, noL_len, unL_len, stL_len, nuL_len, tdL_len, scL_len]; try omega
theorem reL_sum (n : Nat) : ((reL n).map fun c => c.2.2.1).sum = 539 := by unfold reL; simp only [List.map_cons, List.map_append, List.map_nil, List.sum_cons, List.sum_append, List.sum_nil, zmL_sum, zcR_s, zcI_s, zC0_s, laL_sum, noL_sum, unL_sum, stL_sum, nuL_sum, tdL_sum, scL_sum]; try omega
set_option maxRecDepth 100000 in
theorem mk_X3 {G : zG} {d : Nat} (w : gW G) (hov : zOv G) (hns : zNs G) : zMk G mX3_init 3 9 (d + 6) 34 530 reL := by
  intro h hx hn
  refine zcon_intro (by decide +kernel) eX3_init (Nat.le_of_ble_eq_true rfl) (fun a ha => List.all_eq_true.mp (show ([.ref (zn h)] : List Value).all zcat1 = true from rfl) a ha) ?_
  show zGo G mX3_init (d + 6) (zn (zapp h [zC0 3 0 9]) + zx (zapp h [zC0 3 0 9]), zs (zapp h [zC0 3 0 9]), 34, 530) 0 [.ref (zn h)] [] (zapp h [zC0 3 0 9]) _
  refine z_aload_n 0 rfl rfl ?_
  refine z_objInit 1 rfl ⟨ztb_t (zt1 _ (List.mem_of_getElem? (i := 36) rfl)) rfl, zoi⟩ (Nat.le_of_ble_eq_true rfl) (Nat.le_add_left _ _) ?_
  refine z_aload_n 2 rfl rfl ?_
  refine z_make (N := 8) 3 1 9 (by simp only [List.length_cons, List.length_append, List.length_nil, zmL_len, laL_len, noL_len, unL_len, stL_len, nuL_len, tdL_len, scL_len]; try omega) (by simp only [List.map_cons, List.map_append, List.map_nil, List.sum_cons, List.sum_append, List.sum_nil, zmL_sum, zcR_s, zcI_s, zC0_s, laL_sum, noL_sum, unL_sum, stL_sum, nuL_sum, tdL_sum, scL_sum]; try omega) rfl rfl rfl zc4 (by decide) ⟨ztb_t (zt1 _ (List.mem_of_getElem? (i := 37) rfl)) rfl, ztb_t (zt1 _ (List.mem_of_getElem? (i := 38) rfl)) rfl, ztb_t (zt1 _ (List.mem_of_getElem? (i := 3) rfl)) rfl⟩ fX4_init rfl rfl ⟨Or.inl (ztb_t (zt1 _ (List.mem_of_getElem? (i := 39) rfl)) rfl), ztb_t (zt1 _ (List.mem_of_getElem? (i := 40) rfl)) rfl⟩ (Nat.le_of_ble_eq_true rfl) (by omega) hx (by omega) ⟨by show zn h + 1 + zx h + 3 ≤ zn h + 1 + zx h + 34; omega, by show zs h + 9 + 30 ≤ zs h + 9 + 530; omega⟩ (mk_X4 (d := d + 0) w) ?_
  refine zgl (L' := (zC0 3 0 9) :: (scL (zn h + 1) ++ ([]))) (by simp only [List.cons_append, List.append_assoc, List.nil_append, List.append_nil]) ?_
  refine z_putA 6 rfl lX3_12 ⟨_, _, _, rfl, rfl, rfl⟩ rfl rfl rfl ?_
  refine z_aload_n 7 rfl rfl ?_
  refine z_bipush (v := 72) 8 rfl (by decide) ?_
  refine z_newI 9 72 4 39 (by simp only [List.length_cons, List.length_append, List.length_nil, zmL_len, laL_len, noL_len, unL_len, stL_len, nuL_len, tdL_len, scL_len]; try omega) (by simp only [List.map_cons, List.map_append, List.map_nil, List.sum_cons, List.sum_append, List.sum_nil, zmL_sum, zcR_s, zcI_s, zC0_s, laL_sum, noL_sum, unL_sum, stL_sum, nuL_sum, tdL_sum, scL_sum]; try omega) rfl (by decide) (by decide) hx (by omega) ⟨by show zn h + 4 + zx h + 1 ≤ zn h + 1 + zx h + 34; omega, by show zs h + 39 + 72 ≤ zs h + 9 + 530; omega⟩ (by decide) ?_
  refine zgl (L' := (zcR (zC0 3 0 9) 0 (some (zn h + 1))) :: (scL (zn h + 1) ++ ((zC0 100 72 72) :: ([])))) (by simp only [List.cons_append, List.append_assoc, List.nil_append, List.append_nil]) ?_
  refine z_putA 10 rfl lX3_18 ⟨_, _, _, rfl, rfl, rfl⟩ rfl rfl rfl ?_
  refine z_aload_n 11 rfl rfl ?_
  refine z_bipush (v := 72) 12 rfl (by decide) ?_
  refine z_newI 13 72 5 111 (by simp only [List.length_cons, List.length_append, List.length_nil, zmL_len, laL_len, noL_len, unL_len, stL_len, nuL_len, tdL_len, scL_len]; try omega) (by simp only [List.map_cons, List.map_append, List.map_nil, List.sum_cons, List.sum_append, List.sum_nil, zmL_sum, zcR_s, zcI_s, zC0_s, laL_sum, noL_sum, unL_sum, stL_sum, nuL_sum, tdL_sum, scL_sum]; try omega) rfl (by decide) (by decide) hx (by omega) ⟨by show zn h + 5 + zx h + 1 ≤ zn h + 1 + zx h + 34; omega, by show zs h + 111 + 72 ≤ zs h + 9 + 530; omega⟩ (by decide) ?_
  refine zgl (L' := (zcR (zcR (zC0 3 0 9) 0 (some (zn h + 1))) 1 (some (zn h + 4))) :: (scL (zn h + 1) ++ ((zC0 100 72 72) :: ((zC0 100 72 72) :: ([]))))) (by simp only [List.cons_append, List.append_assoc, List.nil_append, List.append_nil]) ?_
  refine z_putA 14 rfl lX3_22 ⟨_, _, _, rfl, rfl, rfl⟩ rfl rfl rfl ?_
  refine z_aload_n 15 rfl rfl ?_
  refine z_make (N := 13) 16 6 183 (by simp only [List.length_cons, List.length_append, List.length_nil, zmL_len, laL_len, noL_len, unL_len, stL_len, nuL_len, tdL_len, scL_len]; try omega) (by simp only [List.map_cons, List.map_append, List.map_nil, List.sum_cons, List.sum_append, List.sum_nil, zmL_sum, zcR_s, zcI_s, zC0_s, laL_sum, noL_sum, unL_sum, stL_sum, nuL_sum, tdL_sum, scL_sum]; try omega) rfl rfl rfl zc6 (by decide) ⟨ztb_t (zt1 _ (List.mem_of_getElem? (i := 123) rfl)) rfl, ztb_t (zt1 _ (List.mem_of_getElem? (i := 124) rfl)) rfl, ztb_t (zt1 _ (List.mem_of_getElem? (i := 8) rfl)) rfl⟩ fX7_init rfl rfl ⟨Or.inr ⟨"SmellAbbey", hns.2.1⟩, ztb_t (zt1 _ (List.mem_of_getElem? (i := 126) rfl)) rfl⟩ (Nat.le_of_ble_eq_true rfl) (by omega) hx (by omega) ⟨by show zn h + 6 + zx h + 29 ≤ zn h + 1 + zx h + 34; omega, by show zs h + 183 + 356 ≤ zs h + 9 + 530; omega⟩ (mk_X7 (d := d + 3) hov hns) ?_
  refine zgl (L' := (zcR (zcR (zcR (zC0 3 0 9) 0 (some (zn h + 1))) 1 (some (zn h + 4))) 2 (some (zn h + 5))) :: (scL (zn h + 1) ++ ((zC0 100 72 72) :: ((zC0 100 72 72) :: (tdL (zn h + 6) ++ ([])))))) (by simp only [List.cons_append, List.append_assoc, List.nil_append, List.append_nil]) ?_
  refine z_putR0 19 rfl lX3_28 ⟨_, _, _, rfl, rfl⟩ rfl rfl ?_
  refine z_aload_n 20 rfl rfl ?_
  refine z_iconst (v := -1) 21 rfl (by decide) ?_
  refine z_putI0 22 rfl lX3_32 ⟨_, _, _, rfl, rfl⟩ rfl rfl rfl rfl ?_
  refine zgl (L' := reL (zn h)) rfl ?_
  exact z_vret 23 rfl rfl ⟨by rw [zn_app, zx_app, reL_len]; show _ = zn h + 1 + zx h + 34; omega, by rw [zs_app, reL_sum]; show _ = zs h + 9 + 530; omega⟩ ⟨rfl, rfl⟩
