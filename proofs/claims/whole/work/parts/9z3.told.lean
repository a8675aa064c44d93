def tdL (n : Nat) : List zC := (zcR (zcR (zcR (zcR (zcR (zcR (zcR (zcR (zcR (zC0 6 0 13) 0 (some (n + 1))) 1 (some (n + 2))) 2 (some (n + 7))) 3 (some (n + 8))) 4 (some (n + 9))) 5 (some (n + 18))) 6 (some (n + 19))) 7 (some (n + 20))) 8 (some (n + 21))) :: ((zC0 100 4 4) :: (zmL (n + 2) 4 8 ++ ((zC0 100 6 6) :: ((zC0 103 8 8) :: (zmL (n + 9) 8 6 ++ ((zC0 100 6 6) :: ((zC0 100 5 5) :: ((zC0 100 5 5) :: (laL (n + 21) ++ ([]))))))))))
theorem tdL_len (n : Nat) : (tdL n).length = 29 := by unfold tdL; simp only [List.length_cons, List.length_append, List.length_nil, zmL_len, laL_len, noL_len, unL_len, stL_len, nuL_len]; try omega
theorem tdL_sum (n : Nat) : ((tdL n).map fun c => c.2.2.1).sum = 356 := by unfold tdL; simp only [List.map_cons, List.map_append, List.map_nil, List.sum_cons, List.sum_append, List.sum_nil, zmL_sum, zcR_s, zcI_s, zC0_s, laL_sum, noL_sum, unL_sum, stL_sum, nuL_sum]; try omega
set_option maxRecDepth 100000 in
theorem mk_X7 {G : zG} {d : Nat} (hov : zOv G) (hns : zNs G) : zMk G mX7_init 6 13 (d + 2) 28 343 tdL := by
  intro h hx hn
  refine zcon_intro (by decide +kernel) eX7_init (Nat.le_of_ble_eq_true rfl) (fun a ha => List.all_eq_true.mp (show ([.ref (zn h)] : List Value).all zcat1 = true from rfl) a ha) ?_
  show zGo G mX7_init (d + 2) (zn (zapp h [zC0 6 0 13]) + zx (zapp h [zC0 6 0 13]), zs (zapp h [zC0 6 0 13]), 28, 343) 0 [.ref (zn h)] [] (zapp h [zC0 6 0 13]) _
  refine z_aload_n 0 rfl rfl ?_
  refine z_objInit 1 rfl ⟨ztb_t (zt1 _ (List.mem_of_getElem? (i := 128) rfl)) rfl, zoi⟩ (Nat.le_of_ble_eq_true rfl) (Nat.le_add_left _ _) ?_
  refine z_aload_n 2 rfl rfl ?_
  refine z_iconst (v := 4) 3 rfl (by decide) ?_
  refine z_newI 4 4 1 13 (by simp only [List.length_cons, List.length_append, List.length_nil, zmL_len, laL_len, noL_len, unL_len, stL_len, nuL_len]; try omega) (by simp only [List.map_cons, List.map_append, List.map_nil, List.sum_cons, List.sum_append, List.sum_nil, zmL_sum, zcR_s, zcI_s, zC0_s, laL_sum, noL_sum, unL_sum, stL_sum, nuL_sum]; try omega) rfl (by decide) (by decide) hx (by omega) ⟨by show zn h + 1 + zx h + 1 ≤ zn h + 1 + zx h + 28; omega, by show zs h + 13 + 4 ≤ zs h + 13 + 343; omega⟩ (by decide) ?_
  refine zgl (L' := (zC0 6 0 13) :: ((zC0 100 4 4) :: ([]))) (by simp only [List.cons_append, List.append_assoc, List.nil_append, List.append_nil]) ?_
  refine z_putA 5 rfl lX7_9 ⟨_, _, _, rfl, rfl, rfl⟩ rfl rfl rfl ?_
  refine z_aload_n 6 rfl rfl ?_
  refine z_iconst (v := 4) 7 rfl (by decide) ?_
  refine z_bipush (v := 8) 8 rfl (by decide) ?_
  refine z_mnaL 9 4 8 2 17 (by simp only [List.length_cons, List.length_append, List.length_nil, zmL_len, laL_len, noL_len, unL_len, stL_len, nuL_len]; try omega) (by simp only [List.map_cons, List.map_append, List.map_nil, List.sum_cons, List.sum_append, List.sum_nil, zmL_sum, zcR_s, zcI_s, zC0_s, laL_sum, noL_sum, unL_sum, stL_sum, nuL_sum]; try omega) rfl (ztb_t (zt1 _ (List.mem_of_getElem? (i := 129) rfl)) rfl) hov (by decide) (by decide) (by decide) (by decide) (by decide) (by decide) hx (by omega) ⟨by show zn h + 2 + zx h + 5 ≤ zn h + 1 + zx h + 28; omega, by show zs h + 17 + 36 ≤ zs h + 13 + 343; omega⟩ ?_
  refine zgl (L' := (zcR (zC0 6 0 13) 0 (some (zn h + 1))) :: ((zC0 100 4 4) :: (zmL (zn h + 2) 4 8 ++ ([])))) (by simp only [List.cons_append, List.append_assoc, List.nil_append, List.append_nil]) ?_
  refine z_putA 10 rfl lX7_17 ⟨_, _, _, rfl, rfl, rfl⟩ rfl rfl rfl ?_
  refine z_aload_n 11 rfl rfl ?_
  refine z_bipush (v := 6) 12 rfl (by decide) ?_
  refine z_newI 13 6 7 53 (by simp only [List.length_cons, List.length_append, List.length_nil, zmL_len, laL_len, noL_len, unL_len, stL_len, nuL_len]; try omega) (by simp only [List.map_cons, List.map_append, List.map_nil, List.sum_cons, List.sum_append, List.sum_nil, zmL_sum, zcR_s, zcI_s, zC0_s, laL_sum, noL_sum, unL_sum, stL_sum, nuL_sum]; try omega) rfl (by decide) (by decide) hx (by omega) ⟨by show zn h + 7 + zx h + 1 ≤ zn h + 1 + zx h + 28; omega, by show zs h + 53 + 6 ≤ zs h + 13 + 343; omega⟩ (by decide) ?_
  refine zgl (L' := (zcR (zcR (zC0 6 0 13) 0 (some (zn h + 1))) 1 (some (zn h + 2))) :: ((zC0 100 4 4) :: (zmL (zn h + 2) 4 8 ++ ((zC0 100 6 6) :: ([]))))) (by simp only [List.cons_append, List.append_assoc, List.nil_append, List.append_nil]) ?_
  refine z_putA 14 rfl lX7_20 ⟨_, _, _, rfl, rfl, rfl⟩ rfl rfl rfl ?_
  refine z_aload_n 15 rfl rfl ?_
  refine z_bipush (v := 8) 16 rfl (by decide) ?_
  refine z_newZ 17 8 8 59 (by simp only [List.length_cons, List.length_append, List.length_nil, zmL_len, laL_len, noL_len, unL_len, stL_len, nuL_len]; try omega) (by simp only [List.map_cons, List.map_append, List.map_nil, List.sum_cons, List.sum_append, List.sum_nil, zmL_sum, zcR_s, zcI_s, zC0_s, laL_sum, noL_sum, unL_sum, stL_sum, nuL_sum]; try omega) rfl (by decide) (by decide) hx (by omega) ⟨by show zn h + 8 + zx h + 1 ≤ zn h + 1 + zx h + 28; omega, by show zs h + 59 + 8 ≤ zs h + 13 + 343; omega⟩ (by decide) ?_
  refine zgl (L' := (zcR (zcR (zcR (zC0 6 0 13) 0 (some (zn h + 1))) 1 (some (zn h + 2))) 2 (some (zn h + 7))) :: ((zC0 100 4 4) :: (zmL (zn h + 2) 4 8 ++ ((zC0 100 6 6) :: ((zC0 103 8 8) :: ([])))))) (by simp only [List.cons_append, List.append_assoc, List.nil_append, List.append_nil]) ?_
  refine z_putA 18 rfl lX7_23 ⟨_, _, _, rfl, rfl, rfl⟩ rfl rfl rfl ?_
  refine z_aload_n 19 rfl rfl ?_
  refine z_bipush (v := 8) 20 rfl (by decide) ?_
  refine z_bipush (v := 6) 21 rfl (by decide) ?_
  refine z_mnaL 22 8 6 9 67 (by simp only [List.length_cons, List.length_append, List.length_nil, zmL_len, laL_len, noL_len, unL_len, stL_len, nuL_len]; try omega) (by simp only [List.map_cons, List.map_append, List.map_nil, List.sum_cons, List.sum_append, List.sum_nil, zmL_sum, zcR_s, zcI_s, zC0_s, laL_sum, noL_sum, unL_sum, stL_sum, nuL_sum]; try omega) rfl (ztb_t (zt1 _ (List.mem_of_getElem? (i := 129) rfl)) rfl) hov (by decide) (by decide) (by decide) (by decide) (by decide) (by decide) hx (by omega) ⟨by show zn h + 9 + zx h + 9 ≤ zn h + 1 + zx h + 28; omega, by show zs h + 67 + 56 ≤ zs h + 13 + 343; omega⟩ ?_
  refine zgl (L' := (zcR (zcR (zcR (zcR (zC0 6 0 13) 0 (some (zn h + 1))) 1 (some (zn h + 2))) 2 (some (zn h + 7))) 3 (some (zn h + 8))) :: ((zC0 100 4 4) :: (zmL (zn h + 2) 4 8 ++ ((zC0 100 6 6) :: ((zC0 103 8 8) :: (zmL (zn h + 9) 8 6 ++ ([]))))))) (by simp only [List.cons_append, List.append_assoc, List.nil_append, List.append_nil]) ?_
  refine z_putA 23 rfl lX7_27 ⟨_, _, _, rfl, rfl, rfl⟩ rfl rfl rfl ?_
  refine z_aload_n 24 rfl rfl ?_
  refine z_bipush (v := 6) 25 rfl (by decide) ?_
  refine z_newI 26 6 18 123 (by simp only [List.length_cons, List.length_append, List.length_nil, zmL_len, laL_len, noL_len, unL_len, stL_len, nuL_len]; try omega) (by simp only [List.map_cons, List.map_append, List.map_nil, List.sum_cons, List.sum_append, List.sum_nil, zmL_sum, zcR_s, zcI_s, zC0_s, laL_sum, noL_sum, unL_sum, stL_sum, nuL_sum]; try omega) rfl (by decide) (by decide) hx (by omega) ⟨by show zn h + 18 + zx h + 1 ≤ zn h + 1 + zx h + 28; omega, by show zs h + 123 + 6 ≤ zs h + 13 + 343; omega⟩ (by decide) ?_
  refine zgl (L' := (zcR (zcR (zcR (zcR (zcR (zC0 6 0 13) 0 (some (zn h + 1))) 1 (some (zn h + 2))) 2 (some (zn h + 7))) 3 (some (zn h + 8))) 4 (some (zn h + 9))) :: ((zC0 100 4 4) :: (zmL (zn h + 2) 4 8 ++ ((zC0 100 6 6) :: ((zC0 103 8 8) :: (zmL (zn h + 9) 8 6 ++ ((zC0 100 6 6) :: ([])))))))) (by simp only [List.cons_append, List.append_assoc, List.nil_append, List.append_nil]) ?_
  refine z_putA 27 rfl lX7_30 ⟨_, _, _, rfl, rfl, rfl⟩ rfl rfl rfl ?_
  refine z_aload_n 28 rfl rfl ?_
  refine z_iconst (v := 5) 29 rfl (by decide) ?_
  refine z_newI 30 5 19 129 (by simp only [List.length_cons, List.length_append, List.length_nil, zmL_len, laL_len, noL_len, unL_len, stL_len, nuL_len]; try omega) (by simp only [List.map_cons, List.map_append, List.map_nil, List.sum_cons, List.sum_append, List.sum_nil, zmL_sum, zcR_s, zcI_s, zC0_s, laL_sum, noL_sum, unL_sum, stL_sum, nuL_sum]; try omega) rfl (by decide) (by decide) hx (by omega) ⟨by show zn h + 19 + zx h + 1 ≤ zn h + 1 + zx h + 28; omega, by show zs h + 129 + 5 ≤ zs h + 13 + 343; omega⟩ (by decide) ?_
  refine zgl (L' := (zcR (zcR (zcR (zcR (zcR (zcR (zC0 6 0 13) 0 (some (zn h + 1))) 1 (some (zn h + 2))) 2 (some (zn h + 7))) 3 (some (zn h + 8))) 4 (some (zn h + 9))) 5 (some (zn h + 18))) :: ((zC0 100 4 4) :: (zmL (zn h + 2) 4 8 ++ ((zC0 100 6 6) :: ((zC0 103 8 8) :: (zmL (zn h + 9) 8 6 ++ ((zC0 100 6 6) :: ((zC0 100 5 5) :: ([]))))))))) (by simp only [List.cons_append, List.append_assoc, List.nil_append, List.append_nil]) ?_
  refine z_putA 31 rfl lX7_33 ⟨_, _, _, rfl, rfl, rfl⟩ rfl rfl rfl ?_
  refine z_aload_n 32 rfl rfl ?_
  refine z_iconst (v := 5) 33 rfl (by decide) ?_
  refine z_newI 34 5 20 134 (by simp only [List.length_cons, List.length_append, List.length_nil, zmL_len, laL_len, noL_len, unL_len, stL_len, nuL_len]; try omega) (by simp only [List.map_cons, List.map_append, List.map_nil, List.sum_cons, List.sum_append, List.sum_nil, zmL_sum, zcR_s, zcI_s, zC0_s, laL_sum, noL_sum, unL_sum, stL_sum, nuL_sum]; try omega) rfl (by decide) (by decide) hx (by omega) ⟨by show zn h + 20 + zx h + 1 ≤ zn h + 1 + zx h + 28; omega, by show zs h + 134 + 5 ≤ zs h + 13 + 343; omega⟩ (by decide) ?_
  refine zgl (L' := (zcR (zcR (zcR (zcR (zcR (zcR (zcR (zC0 6 0 13) 0 (some (zn h + 1))) 1 (some (zn h + 2))) 2 (some (zn h + 7))) 3 (some (zn h + 8))) 4 (some (zn h + 9))) 5 (some (zn h + 18))) 6 (some (zn h + 19))) :: ((zC0 100 4 4) :: (zmL (zn h + 2) 4 8 ++ ((zC0 100 6 6) :: ((zC0 103 8 8) :: (zmL (zn h + 9) 8 6 ++ ((zC0 100 6 6) :: ((zC0 100 5 5) :: ((zC0 100 5 5) :: ([])))))))))) (by simp only [List.cons_append, List.append_assoc, List.nil_append, List.append_nil]) ?_
  refine z_putA 35 rfl lX7_36 ⟨_, _, _, rfl, rfl, rfl⟩ rfl rfl rfl ?_
  refine z_aload_n 36 rfl rfl ?_
  refine z_make (N := 9) 37 21 139 (by simp only [List.length_cons, List.length_append, List.length_nil, zmL_len, laL_len, noL_len, unL_len, stL_len, nuL_len]; try omega) (by simp only [List.map_cons, List.map_append, List.map_nil, List.sum_cons, List.sum_append, List.sum_nil, zmL_sum, zcR_s, zcI_s, zC0_s, laL_sum, noL_sum, unL_sum, stL_sum, nuL_sum]; try omega) rfl rfl rfl zc0 (by decide) ⟨ztb_t (zt1 _ (List.mem_of_getElem? (i := 131) rfl)) rfl, ztb_t (zt1 _ (List.mem_of_getElem? (i := 132) rfl)) rfl, ztb_t (zt1 _ (List.mem_of_getElem? (i := 9) rfl)) rfl⟩ fX0_init rfl rfl ⟨Or.inr ⟨"SmellAbbey", hns.2.2.1⟩, ztb_t (zt1 _ (List.mem_of_getElem? (i := 134) rfl)) rfl⟩ (Nat.le_of_ble_eq_true rfl) (by omega) hx (by omega) ⟨by show zn h + 21 + zx h + 8 ≤ zn h + 1 + zx h + 28; omega, by show zs h + 139 + 217 ≤ zs h + 13 + 343; omega⟩ (mk_X0 (d := d + 0) hov hns) ?_
  refine zgl (L' := (zcR (zcR (zcR (zcR (zcR (zcR (zcR (zcR (zC0 6 0 13) 0 (some (zn h + 1))) 1 (some (zn h + 2))) 2 (some (zn h + 7))) 3 (some (zn h + 8))) 4 (some (zn h + 9))) 5 (some (zn h + 18))) 6 (some (zn h + 19))) 7 (some (zn h + 20))) :: ((zC0 100 4 4) :: (zmL (zn h + 2) 4 8 ++ ((zC0 100 6 6) :: ((zC0 103 8 8) :: (zmL (zn h + 9) 8 6 ++ ((zC0 100 6 6) :: ((zC0 100 5 5) :: ((zC0 100 5 5) :: (laL (zn h + 21) ++ ([]))))))))))) (by simp only [List.cons_append, List.append_assoc, List.nil_append, List.append_nil]) ?_
  refine z_putA 40 rfl lX7_42 ⟨_, _, _, rfl, rfl, rfl⟩ rfl rfl rfl ?_
  refine zgl (L' := tdL (zn h)) rfl ?_
  exact z_vret 41 rfl rfl ⟨by rw [zn_app, zx_app, tdL_len]; show _ = zn h + 1 + zx h + 28; omega, by rw [zs_app, tdL_sum]; show _ = zs h + 13 + 343; omega⟩ ⟨rfl, rfl⟩
