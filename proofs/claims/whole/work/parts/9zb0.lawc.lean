section LC
variable {G : zG} {d N i : Nat} {b : zB} {h : zMem} {P : Option Value → zMem → Prop} {xs : Nat → Int32}
set_option maxRecDepth 100000 in
theorem lc_0 (hOK : zOK h) (hs : scr G N xs) (hi : i + 6 ≤ N) (hN : N ≤ 3072) (hb : zn h + zx h ≤ b.1 + b.2.2.1 ∧ zs h ≤ b.2.1 + b.2.2.2) (K : ∀ h', zOK h' → zn h' + zx h' = zn h + zx h → zs h' = zs h → zGo G mL_law (d + 201) b 1594 [.ref 1000003, .ref 0, .ref 132, .ref 174, .int (nI i), zU, zU] [] h' P) : zGo G mL_law (d + 201) b 208 [.ref 1000003, .ref 0, .ref 132, .ref 174, .int (nI i), zU, zU] [] h P := by
  have bs0 := hOK.bs
  refine z_aload_n 25 rfl rfl ?_
  refine z_arg 26 1 rfl rfl rfl (by decide) rfl rfl hs rfl rfl (by omega) (by omega) ?_
  refine z_arg 31 2 rfl rfl rfl (by decide) rfl rfl hs rfl rfl (by omega) (by omega) ?_
  refine z_arg 36 3 rfl rfl rfl (by decide) rfl rfl hs rfl rfl (by omega) (by omega) ?_
  refine z_arg 41 4 rfl rfl rfl (by decide) rfl rfl hs rfl rfl (by omega) (by omega) ?_
  refine z_arg 46 5 rfl rfl rfl (by decide) rfl rfl hs rfl rfl (by omega) (by omega) ?_
  obtain ⟨K1, L1, hc, hm⟩ := zpx (pr_feed (d := d) hOK (xs (i + 1)) (xs (i + 2)) (xs (i + 3)) (xs (i + 4)) (xs (i + 5)))
  refine z_callV 51 5 [.int (xs (i + 1)), .int (xs (i + 2)), .int (xs (i + 3)), .int (xs (i + 4)), .int (xs (i + 5))] (d' := d + 200) (bc := 0) (bs := 0) rfl fX9_feed gL_21 (bs0.o8) ⟨_, rfl, rfl⟩ (by decide) rfl (Nat.le_of_ble_eq_true rfl) (Nat.le_refl _) hb hc (fun r h1 q c1 c2 => ?_)
  obtain ⟨v, rfl, q⟩ := q
  obtain ⟨bs1, cm, ok⟩ := hm v h1 q
  refine z_aload_n 52 rfl rfl ?_
  refine z_arg 53 1 rfl rfl rfl (by decide) rfl rfl hs rfl rfl (by omega) (by omega) ?_
  refine z_arg 58 2 rfl rfl rfl (by decide) rfl rfl hs rfl rfl (by omega) (by omega) ?_
  refine z_arg 63 3 rfl rfl rfl (by decide) rfl rfl hs rfl rfl (by omega) (by omega) ?_
  refine z_arg 68 4 rfl rfl rfl (by decide) rfl rfl hs rfl rfl (by omega) (by omega) ?_
  refine z_arg 73 5 rfl rfl rfl (by decide) rfl rfl hs rfl rfl (by omega) (by omega) ?_
  refine z_callV 78 5 [.int (xs (i + 1)), .int (xs (i + 2)), .int (xs (i + 3)), .int (xs (i + 4)), .int (xs (i + 5))] (d' := d + 200) (bc := 0) (bs := 0) rfl fX10_feed gL_25 (bs1.o9) ⟨_, rfl, rfl⟩ (by decide) rfl (Nat.le_of_ble_eq_true rfl) (Nat.le_refl _) ⟨by omega, by omega⟩ cm (fun r h2 q2 c3 c4 => ?_)
  obtain ⟨w, rfl, ew, q2⟩ := q2
  subst ew
  exact z_icmp_eq 79 1594 rfl (by decide) ⟨fun _ => K h2 (ok h2 q2) (by omega) (by omega), fun c => absurd rfl c⟩
set_option maxRecDepth 100000 in
theorem lc_1 (hK : gK G) (hOK : zOK h) (hs : scr G N xs) (hi : i + 6 ≤ N) (hN : N ≤ 3072) (hb : zn h + zx h ≤ b.1 + b.2.2.1 ∧ zs h ≤ b.2.1 + b.2.2.2) (K : ∀ h', zOK h' → zn h' + zx h' = zn h + zx h → zs h' = zs h → zGo G mL_law (d + 201) b 1594 [.ref 1000003, .ref 0, .ref 132, .ref 174, .int (nI i), zU, zU] [] h' P) : zGo G mL_law (d + 201) b 281 [.ref 1000003, .ref 0, .ref 132, .ref 174, .int (nI i), zU, zU] [] h P := by
  have bs0 := hOK.bs
  refine z_aload_n 82 rfl rfl ?_
  refine z_arg 83 1 rfl rfl rfl (by decide) rfl rfl hs rfl rfl (by omega) (by omega) ?_
  obtain ⟨K1, L1, hc, hm⟩ := pr_text (d := d) hK hOK (xs (i + 1))
  refine z_callV 88 1 [.int (xs (i + 1))] (d' := d + 200) (bc := 0) (bs := 0) rfl fX9_text gL_26 (bs0.o8) ⟨_, rfl, rfl⟩ (by decide) rfl (Nat.le_of_ble_eq_true rfl) (Nat.le_refl _) hb hc (fun r h1 q c1 c2 => ?_)
  obtain ⟨v, rfl, q⟩ := q
  obtain ⟨bs1, cm, ok⟩ := hm v h1 q
  refine z_aload_n 89 rfl rfl ?_
  refine z_arg 90 1 rfl rfl rfl (by decide) rfl rfl hs rfl rfl (by omega) (by omega) ?_
  refine z_callV 95 1 [.int (xs (i + 1))] (d' := d + 200) (bc := 0) (bs := 0) rfl fX10_text gL_30 (bs1.o9) ⟨_, rfl, rfl⟩ (by decide) rfl (Nat.le_of_ble_eq_true rfl) (Nat.le_refl _) ⟨by omega, by omega⟩ cm (fun r h2 q2 c3 c4 => ?_)
  obtain ⟨w, rfl, ew, q2⟩ := q2
  subst ew
  exact z_icmp_eq 96 1594 rfl (by decide) ⟨fun _ => K h2 (ok h2 q2) (by omega) (by omega), fun c => absurd rfl c⟩
set_option maxRecDepth 100000 in
theorem lc_2 (hOK : zOK h) (hs : scr G N xs) (hi : i + 6 ≤ N) (hN : N ≤ 3072) (hb : zn h + zx h ≤ b.1 + b.2.2.1 ∧ zs h ≤ b.2.1 + b.2.2.2) (K : ∀ h', zOK h' → zn h' + zx h' = zn h + zx h → zs h' = zs h → zGo G mL_law (d + 201) b 1594 [.ref 1000003, .ref 0, .ref 132, .ref 174, .int (nI i), zU, zU] [] h' P) : zGo G mL_law (d + 201) b 306 [.ref 1000003, .ref 0, .ref 132, .ref 174, .int (nI i), zU, zU] [] h P := by
  have bs0 := hOK.bs
  refine z_aload_n 99 rfl rfl ?_
  refine z_arg 100 1 rfl rfl rfl (by decide) rfl rfl hs rfl rfl (by omega) (by omega) ?_
  obtain ⟨K1, L1, hc, hm⟩ := zpx (pr_fault (d := d) hOK (xs (i + 1)))
  refine z_callV 105 1 [.int (xs (i + 1))] (d' := d + 200) (bc := 0) (bs := 0) rfl fX9_fault gL_31 (bs0.o8) ⟨_, rfl, rfl⟩ (by decide) rfl (Nat.le_of_ble_eq_true rfl) (Nat.le_refl _) hb hc (fun r h1 q c1 c2 => ?_)
  obtain ⟨v, rfl, q⟩ := q
  obtain ⟨bs1, cm, ok⟩ := hm v h1 q
  refine z_aload_n 106 rfl rfl ?_
  refine z_arg 107 1 rfl rfl rfl (by decide) rfl rfl hs rfl rfl (by omega) (by omega) ?_
  refine z_callV 112 1 [.int (xs (i + 1))] (d' := d + 200) (bc := 0) (bs := 0) rfl fX10_fault gL_34 (bs1.o9) ⟨_, rfl, rfl⟩ (by decide) rfl (Nat.le_of_ble_eq_true rfl) (Nat.le_refl _) ⟨by omega, by omega⟩ cm (fun r h2 q2 c3 c4 => ?_)
  obtain ⟨w, rfl, ew, q2⟩ := q2
  subst ew
  exact z_icmp_eq 113 1594 rfl (by decide) ⟨fun _ => K h2 (ok h2 q2) (by omega) (by omega), fun c => absurd rfl c⟩
set_option maxRecDepth 100000 in
theorem lc_3 (hOK : zOK h) (hs : scr G N xs) (hi : i + 6 ≤ N) (hN : N ≤ 3072) (hb : zn h + zx h ≤ b.1 + b.2.2.1 ∧ zs h ≤ b.2.1 + b.2.2.2) (K : ∀ h', zOK h' → zn h' + zx h' = zn h + zx h → zs h' = zs h → zGo G mL_law (d + 201) b 1594 [.ref 1000003, .ref 0, .ref 132, .ref 174, .int (nI i), zU, zU] [] h' P) : zGo G mL_law (d + 201) b 331 [.ref 1000003, .ref 0, .ref 132, .ref 174, .int (nI i), zU, zU] [] h P := by
  have bs0 := hOK.bs
  refine z_aload_n 116 rfl rfl ?_
  refine z_arg 117 1 rfl rfl rfl (by decide) rfl rfl hs rfl rfl (by omega) (by omega) ?_
  refine z_arg 122 2 rfl rfl rfl (by decide) rfl rfl hs rfl rfl (by omega) (by omega) ?_
  obtain ⟨K1, L1, hc, hm⟩ := zpx (pr_named (d := d) hOK (xs (i + 1)) (xs (i + 2)))
  refine z_callV 127 2 [.int (xs (i + 1)), .int (xs (i + 2))] (d' := d + 200) (bc := 0) (bs := 0) rfl fX9_named gL_35 (bs0.o8) ⟨_, rfl, rfl⟩ (by decide) rfl (Nat.le_of_ble_eq_true rfl) (Nat.le_refl _) hb hc (fun r h1 q c1 c2 => ?_)
  obtain ⟨v, rfl, q⟩ := q
  obtain ⟨bs1, cm, ok⟩ := hm v h1 q
  refine z_aload_n 128 rfl rfl ?_
  refine z_arg 129 1 rfl rfl rfl (by decide) rfl rfl hs rfl rfl (by omega) (by omega) ?_
  refine z_arg 134 2 rfl rfl rfl (by decide) rfl rfl hs rfl rfl (by omega) (by omega) ?_
  refine z_callV 139 2 [.int (xs (i + 1)), .int (xs (i + 2))] (d' := d + 200) (bc := 0) (bs := 0) rfl fX10_named gL_38 (bs1.o9) ⟨_, rfl, rfl⟩ (by decide) rfl (Nat.le_of_ble_eq_true rfl) (Nat.le_refl _) ⟨by omega, by omega⟩ cm (fun r h2 q2 c3 c4 => ?_)
  obtain ⟨w, rfl, ew, q2⟩ := q2
  subst ew
  exact z_icmp_eq 140 1594 rfl (by decide) ⟨fun _ => K h2 (ok h2 q2) (by omega) (by omega), fun c => absurd rfl c⟩
set_option maxRecDepth 100000 in
theorem lc_5 (hOK : zOK h) (hs : scr G N xs) (hi : i + 6 ≤ N) (hN : N ≤ 3072) (hb : zn h + zx h ≤ b.1 + b.2.2.1 ∧ zs h ≤ b.2.1 + b.2.2.2) (K : ∀ h', zOK h' → zn h' + zx h' = zn h + zx h → zs h' = zs h → zGo G mL_law (d + 201) b 1594 [.ref 1000003, .ref 0, .ref 132, .ref 174, .int (nI i), zU, zU] [] h' P) : zGo G mL_law (d + 201) b 436 [.ref 1000003, .ref 0, .ref 132, .ref 174, .int (nI i), zU, zU] [] h P := by
  have bs0 := hOK.bs
  refine z_aload_n 188 rfl rfl ?_
  refine z_arg 189 1 rfl rfl rfl (by decide) rfl rfl hs rfl rfl (by omega) (by omega) ?_
  refine z_arg 194 2 rfl rfl rfl (by decide) rfl rfl hs rfl rfl (by omega) (by omega) ?_
  obtain ⟨K1, L1, hc, hm⟩ := zpx (pr_stuff (d := d) hOK (xs (i + 1)) (xs (i + 2)))
  refine z_callV 199 2 [.int (xs (i + 1)), .int (xs (i + 2))] (d' := d + 200) (bc := 0) (bs := 0) rfl fX9_stuff gL_49 (bs0.o8) ⟨_, rfl, rfl⟩ (by decide) rfl (Nat.le_of_ble_eq_true rfl) (Nat.le_refl _) hb hc (fun r h1 q c1 c2 => ?_)
  obtain ⟨v, rfl, q⟩ := q
  obtain ⟨bs1, cm, ok⟩ := hm v h1 q
  refine z_aload_n 200 rfl rfl ?_
  refine z_arg 201 1 rfl rfl rfl (by decide) rfl rfl hs rfl rfl (by omega) (by omega) ?_
  refine z_arg 206 2 rfl rfl rfl (by decide) rfl rfl hs rfl rfl (by omega) (by omega) ?_
  refine z_callV 211 2 [.int (xs (i + 1)), .int (xs (i + 2))] (d' := d + 200) (bc := 0) (bs := 0) rfl fX10_stuff gL_52 (bs1.o9) ⟨_, rfl, rfl⟩ (by decide) rfl (Nat.le_of_ble_eq_true rfl) (Nat.le_refl _) ⟨by omega, by omega⟩ cm (fun r h2 q2 c3 c4 => ?_)
  obtain ⟨w, rfl, ew, q2⟩ := q2
  subst ew
  exact z_icmp_eq 212 1594 rfl (by decide) ⟨fun _ => K h2 (ok h2 q2) (by omega) (by omega), fun c => absurd rfl c⟩
set_option maxRecDepth 100000 in
theorem lc_6 (hOK : zOK h) (hs : scr G N xs) (hi : i + 6 ≤ N) (hN : N ≤ 3072) (hb : zn h + zx h ≤ b.1 + b.2.2.1 ∧ zs h ≤ b.2.1 + b.2.2.2) (K : ∀ h', zOK h' → zn h' + zx h' = zn h + zx h → zs h' = zs h → zGo G mL_law (d + 201) b 1594 [.ref 1000003, .ref 0, .ref 132, .ref 174, .int (nI i), zU, zU] [] h' P) : zGo G mL_law (d + 201) b 473 [.ref 1000003, .ref 0, .ref 132, .ref 174, .int (nI i), zU, zU] [] h P := by
  have bs0 := hOK.bs
  refine z_aload_n 215 rfl rfl ?_
  refine z_arg 216 1 rfl rfl rfl (by decide) rfl rfl hs rfl rfl (by omega) (by omega) ?_
  refine z_arg 221 2 rfl rfl rfl (by decide) rfl rfl hs rfl rfl (by omega) (by omega) ?_
  obtain ⟨K1, L1, hc, hm⟩ := zpx (pr_mix (d := d) hOK (xs (i + 1)) (xs (i + 2)))
  refine z_callV 226 2 [.int (xs (i + 1)), .int (xs (i + 2))] (d' := d + 200) (bc := 0) (bs := 0) rfl fX9_mix gL_53 (bs0.o8) ⟨_, rfl, rfl⟩ (by decide) rfl (Nat.le_of_ble_eq_true rfl) (Nat.le_refl _) hb hc (fun r h1 q c1 c2 => ?_)
  obtain ⟨v, rfl, q⟩ := q
  obtain ⟨bs1, cm, ok⟩ := hm v h1 q
  refine z_aload_n 227 rfl rfl ?_
  refine z_arg 228 1 rfl rfl rfl (by decide) rfl rfl hs rfl rfl (by omega) (by omega) ?_
  refine z_arg 233 2 rfl rfl rfl (by decide) rfl rfl hs rfl rfl (by omega) (by omega) ?_
  refine z_callV 238 2 [.int (xs (i + 1)), .int (xs (i + 2))] (d' := d + 200) (bc := 0) (bs := 0) rfl fX10_mix gL_56 (bs1.o9) ⟨_, rfl, rfl⟩ (by decide) rfl (Nat.le_of_ble_eq_true rfl) (Nat.le_refl _) ⟨by omega, by omega⟩ cm (fun r h2 q2 c3 c4 => ?_)
  obtain ⟨w, rfl, ew, q2⟩ := q2
  subst ew
  exact z_icmp_eq 239 1594 rfl (by decide) ⟨fun _ => K h2 (ok h2 q2) (by omega) (by omega), fun c => absurd rfl c⟩
set_option maxRecDepth 100000 in
theorem lc_7 (hOK : zOK h) (hs : scr G N xs) (hi : i + 6 ≤ N) (hN : N ≤ 3072) (hb : zn h + zx h ≤ b.1 + b.2.2.1 ∧ zs h ≤ b.2.1 + b.2.2.2) (K : ∀ h', zOK h' → zn h' + zx h' = zn h + zx h → zs h' = zs h → zGo G mL_law (d + 201) b 1594 [.ref 1000003, .ref 0, .ref 132, .ref 174, .int (nI i), zU, zU] [] h' P) : zGo G mL_law (d + 201) b 510 [.ref 1000003, .ref 0, .ref 132, .ref 174, .int (nI i), zU, zU] [] h P := by
  have bs0 := hOK.bs
  refine z_aload_n 242 rfl rfl ?_
  refine z_arg 243 1 rfl rfl rfl (by decide) rfl rfl hs rfl rfl (by omega) (by omega) ?_
  obtain ⟨K1, L1, hc, hm⟩ := zpx (pr_feast (d := d) hOK (xs (i + 1)))
  refine z_callV 248 1 [.int (xs (i + 1))] (d' := d + 200) (bc := 0) (bs := 0) rfl fX9_feast gL_57 (bs0.o8) ⟨_, rfl, rfl⟩ (by decide) rfl (Nat.le_of_ble_eq_true rfl) (Nat.le_refl _) hb hc (fun r h1 q c1 c2 => ?_)
  obtain ⟨v, rfl, q⟩ := q
  obtain ⟨bs1, cm, ok⟩ := hm v h1 q
  refine z_aload_n 249 rfl rfl ?_
  refine z_arg 250 1 rfl rfl rfl (by decide) rfl rfl hs rfl rfl (by omega) (by omega) ?_
  refine z_callV 255 1 [.int (xs (i + 1))] (d' := d + 200) (bc := 0) (bs := 0) rfl fX10_feast gL_60 (bs1.o9) ⟨_, rfl, rfl⟩ (by decide) rfl (Nat.le_of_ble_eq_true rfl) (Nat.le_refl _) ⟨by omega, by omega⟩ cm (fun r h2 q2 c3 c4 => ?_)
  obtain ⟨w, rfl, ew, q2⟩ := q2
  subst ew
  exact z_icmp_eq 256 1594 rfl (by decide) ⟨fun _ => K h2 (ok h2 q2) (by omega) (by omega), fun c => absurd rfl c⟩
set_option maxRecDepth 100000 in
theorem lc_8 (hOK : zOK h) (hs : scr G N xs) (hi : i + 6 ≤ N) (hN : N ≤ 3072) (hb : zn h + zx h ≤ b.1 + b.2.2.1 ∧ zs h ≤ b.2.1 + b.2.2.2) (K : ∀ h', zOK h' → zn h' + zx h' = zn h + zx h → zs h' = zs h → zGo G mL_law (d + 201) b 1594 [.ref 1000003, .ref 0, .ref 132, .ref 174, .int (nI i), zU, zU] [] h' P) : zGo G mL_law (d + 201) b 535 [.ref 1000003, .ref 0, .ref 132, .ref 174, .int (nI i), zU, zU] [] h P := by
  have bs0 := hOK.bs
  refine z_aload_n 259 rfl rfl ?_
  refine z_arg 260 1 rfl rfl rfl (by decide) rfl rfl hs rfl rfl (by omega) (by omega) ?_
  refine z_arg 265 2 rfl rfl rfl (by decide) rfl rfl hs rfl rfl (by omega) (by omega) ?_
  obtain ⟨K1, L1, hc, hm⟩ := zpx (pr_air (d := d) hOK (xs (i + 1)) (xs (i + 2)))
  refine z_callV 270 2 [.int (xs (i + 1)), .int (xs (i + 2))] (d' := d + 200) (bc := 0) (bs := 0) rfl fX9_air gL_61 (bs0.o8) ⟨_, rfl, rfl⟩ (by decide) rfl (Nat.le_of_ble_eq_true rfl) (Nat.le_refl _) hb hc (fun r h1 q c1 c2 => ?_)
  obtain ⟨v, rfl, q⟩ := q
  obtain ⟨bs1, cm, ok⟩ := hm v h1 q
  refine z_aload_n 271 rfl rfl ?_
  refine z_arg 272 1 rfl rfl rfl (by decide) rfl rfl hs rfl rfl (by omega) (by omega) ?_
  refine z_arg 277 2 rfl rfl rfl (by decide) rfl rfl hs rfl rfl (by omega) (by omega) ?_
  refine z_callV 282 2 [.int (xs (i + 1)), .int (xs (i + 2))] (d' := d + 200) (bc := 0) (bs := 0) rfl fX10_air gL_64 (bs1.o9) ⟨_, rfl, rfl⟩ (by decide) rfl (Nat.le_of_ble_eq_true rfl) (Nat.le_refl _) ⟨by omega, by omega⟩ cm (fun r h2 q2 c3 c4 => ?_)
  obtain ⟨w, rfl, ew, q2⟩ := q2
  subst ew
  exact z_icmp_eq 283 1594 rfl (by decide) ⟨fun _ => K h2 (ok h2 q2) (by omega) (by omega), fun c => absurd rfl c⟩
set_option maxRecDepth 100000 in
theorem lc_9 (hOK : zOK h) (hs : scr G N xs) (hi : i + 6 ≤ N) (hN : N ≤ 3072) (hb : zn h + zx h ≤ b.1 + b.2.2.1 ∧ zs h ≤ b.2.1 + b.2.2.2) (K : ∀ h', zOK h' → zn h' + zx h' = zn h + zx h → zs h' = zs h → zGo G mL_law (d + 201) b 1594 [.ref 1000003, .ref 0, .ref 132, .ref 174, .int (nI i), zU, zU] [] h' P) : zGo G mL_law (d + 201) b 572 [.ref 1000003, .ref 0, .ref 132, .ref 174, .int (nI i), zU, zU] [] h P := by
  have bs0 := hOK.bs
  refine z_aload_n 286 rfl rfl ?_
  refine z_arg 287 1 rfl rfl rfl (by decide) rfl rfl hs rfl rfl (by omega) (by omega) ?_
  refine z_arg 292 2 rfl rfl rfl (by decide) rfl rfl hs rfl rfl (by omega) (by omega) ?_
  obtain ⟨K1, L1, hc, hm⟩ := zpx (pr_mark (d := d) hOK (xs (i + 1)) (xs (i + 2)))
  refine z_callV 297 2 [.int (xs (i + 1)), .int (xs (i + 2))] (d' := d + 200) (bc := 0) (bs := 0) rfl fX9_mark gL_65 (bs0.o8) ⟨_, rfl, rfl⟩ (by decide) rfl (Nat.le_of_ble_eq_true rfl) (Nat.le_refl _) hb hc (fun r h1 q c1 c2 => ?_)
  obtain ⟨v, rfl, q⟩ := q
  obtain ⟨bs1, cm, ok⟩ := hm v h1 q
  refine z_aload_n 298 rfl rfl ?_
  refine z_arg 299 1 rfl rfl rfl (by decide) rfl rfl hs rfl rfl (by omega) (by omega) ?_
  refine z_arg 304 2 rfl rfl rfl (by decide) rfl rfl hs rfl rfl (by omega) (by omega) ?_
  refine z_callV 309 2 [.int (xs (i + 1)), .int (xs (i + 2))] (d' := d + 200) (bc := 0) (bs := 0) rfl fX10_mark gL_68 (bs1.o9) ⟨_, rfl, rfl⟩ (by decide) rfl (Nat.le_of_ble_eq_true rfl) (Nat.le_refl _) ⟨by omega, by omega⟩ cm (fun r h2 q2 c3 c4 => ?_)
  obtain ⟨w, rfl, ew, q2⟩ := q2
  subst ew
  exact z_icmp_eq 310 1594 rfl (by decide) ⟨fun _ => K h2 (ok h2 q2) (by omega) (by omega), fun c => absurd rfl c⟩
set_option maxRecDepth 100000 in
theorem lc_10 (hOK : zOK h) (hs : scr G N xs) (hi : i + 6 ≤ N) (hN : N ≤ 3072) (hb : zn h + zx h ≤ b.1 + b.2.2.1 ∧ zs h ≤ b.2.1 + b.2.2.2) (K : ∀ h', zOK h' → zn h' + zx h' = zn h + zx h → zs h' = zs h → zGo G mL_law (d + 201) b 1594 [.ref 1000003, .ref 0, .ref 132, .ref 174, .int (nI i), zU, zU] [] h' P) : zGo G mL_law (d + 201) b 609 [.ref 1000003, .ref 0, .ref 132, .ref 174, .int (nI i), zU, zU] [] h P := by
  have bs0 := hOK.bs
  refine z_aload_n 313 rfl rfl ?_
  refine z_arg 314 1 rfl rfl rfl (by decide) rfl rfl hs rfl rfl (by omega) (by omega) ?_
  refine z_arg 319 2 rfl rfl rfl (by decide) rfl rfl hs rfl rfl (by omega) (by omega) ?_
  refine z_arg 324 3 rfl rfl rfl (by decide) rfl rfl hs rfl rfl (by omega) (by omega) ?_
  obtain ⟨Rv, K1, L1, hc, hm⟩ := pr_law (d := d) hOK (xs (i + 1)) (xs (i + 2)) (xs (i + 3))
  refine z_callV 329 3 [.int (xs (i + 1)), .int (xs (i + 2)), .int (xs (i + 3))] (d' := d + 200) (bc := 0) (bs := 0) rfl fX9_law gL_69 (bs0.o8) ⟨_, rfl, rfl⟩ (by decide) rfl (Nat.le_of_ble_eq_true rfl) (Nat.le_refl _) hb hc (fun r h1 q c1 c2 => ?_)
  obtain ⟨v, rfl, rfl, q⟩ := q
  obtain ⟨bs1, cm, ok⟩ := hm h1 q
  refine z_aload_n 330 rfl rfl ?_
  refine z_arg 331 1 rfl rfl rfl (by decide) rfl rfl hs rfl rfl (by omega) (by omega) ?_
  refine z_arg 336 2 rfl rfl rfl (by decide) rfl rfl hs rfl rfl (by omega) (by omega) ?_
  refine z_arg 341 3 rfl rfl rfl (by decide) rfl rfl hs rfl rfl (by omega) (by omega) ?_
  refine z_callV 346 3 [.int (xs (i + 1)), .int (xs (i + 2)), .int (xs (i + 3))] (d' := d + 200) (bc := 0) (bs := 0) rfl fX10_law gL_73 (bs1.o9) ⟨_, rfl, rfl⟩ (by decide) rfl (Nat.le_of_ble_eq_true rfl) (Nat.le_refl _) ⟨by omega, by omega⟩ cm (fun r h2 q2 c3 c4 => ?_)
  obtain ⟨w, rfl, ew, q2⟩ := q2
  subst ew
  refine z_lcmp 347 rfl ?_
  exact z_if_eq 348 1594 rfl (by decide) ⟨fun _ => K h2 (ok h2 q2) (by omega) (by omega), fun c => absurd (zcmp_self _) c⟩
set_option maxRecDepth 100000 in
theorem lc_11 (hOK : zOK h) (hs : scr G N xs) (hi : i + 6 ≤ N) (hN : N ≤ 3072) (hb : zn h + zx h ≤ b.1 + b.2.2.1 ∧ zs h ≤ b.2.1 + b.2.2.2) (K : ∀ h', zOK h' → zn h' + zx h' = zn h + zx h → zs h' = zs h → zGo G mL_law (d + 201) b 1594 [.ref 1000003, .ref 0, .ref 132, .ref 174, .int (nI i), zU, zU] [] h' P) : zGo G mL_law (d + 201) b 659 [.ref 1000003, .ref 0, .ref 132, .ref 174, .int (nI i), zU, zU] [] h P := by
  have bs0 := hOK.bs
  by_cases cb : xs (i + 3) = 0
  · refine z_aload_n 351 rfl rfl ?_
    refine z_arg 352 1 rfl rfl rfl (by decide) rfl rfl hs rfl rfl (by omega) (by omega) ?_
    refine z_arg 357 2 rfl rfl rfl (by decide) rfl rfl hs rfl rfl (by omega) (by omega) ?_
    refine z_arg 362 3 rfl rfl rfl (by decide) rfl rfl hs rfl rfl (by omega) (by omega) ?_
    refine z_if_eq 367 685 rfl (by decide) ⟨fun _ => ?_, fun c => absurd cb c⟩
    refine z_iconst (v := 0) 370 rfl (by decide) ?_
    obtain ⟨K1, L1, hc, hm⟩ := zpx (pr_cold (d := d) hOK (xs (i + 1)) (xs (i + 2)) ((0 : Int32)) (by decide))
    refine z_callV 371 3 [.int (xs (i + 1)), .int (xs (i + 2)), .int ((0 : Int32))] (d' := d + 200) (bc := 0) (bs := 0) rfl fX9_cold gL_74 (bs0.o8) ⟨_, rfl, rfl⟩ (by decide) rfl (Nat.le_of_ble_eq_true rfl) (Nat.le_refl _) hb hc (fun r h1 q c1 c2 => ?_)
    obtain ⟨v, rfl, q⟩ := q
    obtain ⟨bs1, cm, ok⟩ := hm v h1 q
    refine z_aload_n 372 rfl rfl ?_
    refine z_arg 373 1 rfl rfl rfl (by decide) rfl rfl hs rfl rfl (by omega) (by omega) ?_
    refine z_arg 378 2 rfl rfl rfl (by decide) rfl rfl hs rfl rfl (by omega) (by omega) ?_
    refine z_arg 383 3 rfl rfl rfl (by decide) rfl rfl hs rfl rfl (by omega) (by omega) ?_
    refine z_if_eq 388 715 rfl (by decide) ⟨fun _ => ?_, fun c => absurd cb c⟩
    refine z_iconst (v := 0) 391 rfl (by decide) ?_
    refine z_callV 392 3 [.int (xs (i + 1)), .int (xs (i + 2)), .int ((0 : Int32))] (d' := d + 200) (bc := 0) (bs := 0) rfl fX10_cold gL_78 (bs1.o9) ⟨_, rfl, rfl⟩ (by decide) rfl (Nat.le_of_ble_eq_true rfl) (Nat.le_refl _) ⟨by omega, by omega⟩ cm (fun r h2 q2 c3 c4 => ?_)
    obtain ⟨w, rfl, ew, q2⟩ := q2
    subst ew
    exact z_icmp_eq 393 1594 rfl (by decide) ⟨fun _ => K h2 (ok h2 q2) (by omega) (by omega), fun c => absurd rfl c⟩
  · refine z_aload_n 351 rfl rfl ?_
    refine z_arg 352 1 rfl rfl rfl (by decide) rfl rfl hs rfl rfl (by omega) (by omega) ?_
    refine z_arg 357 2 rfl rfl rfl (by decide) rfl rfl hs rfl rfl (by omega) (by omega) ?_
    refine z_arg 362 3 rfl rfl rfl (by decide) rfl rfl hs rfl rfl (by omega) (by omega) ?_
    refine z_if_eq 367 685 rfl (by decide) ⟨fun c => absurd c cb, fun _ => ?_⟩
    refine z_iconst (v := 1) 368 rfl (by decide) ?_
    refine z_goto 369 686 rfl (by decide) ?_
    obtain ⟨K1, L1, hc, hm⟩ := zpx (pr_cold (d := d) hOK (xs (i + 1)) (xs (i + 2)) ((1 : Int32)) (by decide))
    refine z_callV 371 3 [.int (xs (i + 1)), .int (xs (i + 2)), .int ((1 : Int32))] (d' := d + 200) (bc := 0) (bs := 0) rfl fX9_cold gL_74 (bs0.o8) ⟨_, rfl, rfl⟩ (by decide) rfl (Nat.le_of_ble_eq_true rfl) (Nat.le_refl _) hb hc (fun r h1 q c1 c2 => ?_)
    obtain ⟨v, rfl, q⟩ := q
    obtain ⟨bs1, cm, ok⟩ := hm v h1 q
    refine z_aload_n 372 rfl rfl ?_
    refine z_arg 373 1 rfl rfl rfl (by decide) rfl rfl hs rfl rfl (by omega) (by omega) ?_
    refine z_arg 378 2 rfl rfl rfl (by decide) rfl rfl hs rfl rfl (by omega) (by omega) ?_
    refine z_arg 383 3 rfl rfl rfl (by decide) rfl rfl hs rfl rfl (by omega) (by omega) ?_
    refine z_if_eq 388 715 rfl (by decide) ⟨fun c => absurd c cb, fun _ => ?_⟩
    refine z_iconst (v := 1) 389 rfl (by decide) ?_
    refine z_goto 390 716 rfl (by decide) ?_
    refine z_callV 392 3 [.int (xs (i + 1)), .int (xs (i + 2)), .int ((1 : Int32))] (d' := d + 200) (bc := 0) (bs := 0) rfl fX10_cold gL_78 (bs1.o9) ⟨_, rfl, rfl⟩ (by decide) rfl (Nat.le_of_ble_eq_true rfl) (Nat.le_refl _) ⟨by omega, by omega⟩ cm (fun r h2 q2 c3 c4 => ?_)
    obtain ⟨w, rfl, ew, q2⟩ := q2
    subst ew
    exact z_icmp_eq 393 1594 rfl (by decide) ⟨fun _ => K h2 (ok h2 q2) (by omega) (by omega), fun c => absurd rfl c⟩
set_option maxRecDepth 100000 in
theorem lc_12 (hOK : zOK h) (hs : scr G N xs) (hi : i + 6 ≤ N) (hN : N ≤ 3072) (hb : zn h + zx h ≤ b.1 + b.2.2.1 ∧ zs h ≤ b.2.1 + b.2.2.2) (K : ∀ h', zOK h' → zn h' + zx h' = zn h + zx h → zs h' = zs h → zGo G mL_law (d + 201) b 1594 [.ref 1000003, .ref 0, .ref 132, .ref 174, .int (nI i), zU, zU] [] h' P) : zGo G mL_law (d + 201) b 724 [.ref 1000003, .ref 0, .ref 132, .ref 174, .int (nI i), zU, zU] [] h P := by
  have bs0 := hOK.bs
  refine z_aload_n 396 rfl rfl ?_
  refine z_arg 397 1 rfl rfl rfl (by decide) rfl rfl hs rfl rfl (by omega) (by omega) ?_
  refine z_arg 402 2 rfl rfl rfl (by decide) rfl rfl hs rfl rfl (by omega) (by omega) ?_
  obtain ⟨K1, L1, hc, hm⟩ := zpx (pr_wind (d := d) hOK (xs (i + 1)) (xs (i + 2)))
  refine z_callV 407 2 [.int (xs (i + 1)), .int (xs (i + 2))] (d' := d + 200) (bc := 0) (bs := 0) rfl fX9_wind gL_79 (bs0.o8) ⟨_, rfl, rfl⟩ (by decide) rfl (Nat.le_of_ble_eq_true rfl) (Nat.le_refl _) hb hc (fun r h1 q c1 c2 => ?_)
  obtain ⟨v, rfl, q⟩ := q
  obtain ⟨bs1, cm, ok⟩ := hm v h1 q
  refine z_aload_n 408 rfl rfl ?_
  refine z_arg 409 1 rfl rfl rfl (by decide) rfl rfl hs rfl rfl (by omega) (by omega) ?_
  refine z_arg 414 2 rfl rfl rfl (by decide) rfl rfl hs rfl rfl (by omega) (by omega) ?_
  refine z_callV 419 2 [.int (xs (i + 1)), .int (xs (i + 2))] (d' := d + 200) (bc := 0) (bs := 0) rfl fX10_wind gL_83 (bs1.o9) ⟨_, rfl, rfl⟩ (by decide) rfl (Nat.le_of_ble_eq_true rfl) (Nat.le_refl _) ⟨by omega, by omega⟩ cm (fun r h2 q2 c3 c4 => ?_)
  obtain ⟨w, rfl, ew, q2⟩ := q2
  subst ew
  exact z_icmp_eq 420 1594 rfl (by decide) ⟨fun _ => K h2 (ok h2 q2) (by omega) (by omega), fun c => absurd rfl c⟩
set_option maxRecDepth 100000 in
theorem lc_13 (hOK : zOK h) (hs : scr G N xs) (hi : i + 6 ≤ N) (hN : N ≤ 3072) (hb : zn h + zx h ≤ b.1 + b.2.2.1 ∧ zs h ≤ b.2.1 + b.2.2.2) (K : ∀ h', zOK h' → zn h' + zx h' = zn h + zx h → zs h' = zs h → zGo G mL_law (d + 201) b 1594 [.ref 1000003, .ref 0, .ref 132, .ref 174, .int (nI i), zU, zU] [] h' P) : zGo G mL_law (d + 201) b 761 [.ref 1000003, .ref 0, .ref 132, .ref 174, .int (nI i), zU, zU] [] h P := by
  have bs0 := hOK.bs
  refine z_aload_n 423 rfl rfl ?_
  refine z_arg 424 1 rfl rfl rfl (by decide) rfl rfl hs rfl rfl (by omega) (by omega) ?_
  refine z_arg 429 2 rfl rfl rfl (by decide) rfl rfl hs rfl rfl (by omega) (by omega) ?_
  obtain ⟨K1, L1, hc, hm⟩ := zpx (pr_buy (d := d) hOK (xs (i + 1)) (xs (i + 2)))
  refine z_callV 434 2 [.int (xs (i + 1)), .int (xs (i + 2))] (d' := d + 200) (bc := 0) (bs := 0) rfl fX9_buy gL_84 (bs0.o8) ⟨_, rfl, rfl⟩ (by decide) rfl (Nat.le_of_ble_eq_true rfl) (Nat.le_refl _) hb hc (fun r h1 q c1 c2 => ?_)
  obtain ⟨v, rfl, q⟩ := q
  obtain ⟨bs1, cm, ok⟩ := hm v h1 q
  refine z_aload_n 435 rfl rfl ?_
  refine z_arg 436 1 rfl rfl rfl (by decide) rfl rfl hs rfl rfl (by omega) (by omega) ?_
  refine z_arg 441 2 rfl rfl rfl (by decide) rfl rfl hs rfl rfl (by omega) (by omega) ?_
  refine z_callV 446 2 [.int (xs (i + 1)), .int (xs (i + 2))] (d' := d + 200) (bc := 0) (bs := 0) rfl fX10_buy gL_87 (bs1.o9) ⟨_, rfl, rfl⟩ (by decide) rfl (Nat.le_of_ble_eq_true rfl) (Nat.le_refl _) ⟨by omega, by omega⟩ cm (fun r h2 q2 c3 c4 => ?_)
  obtain ⟨w, rfl, ew, q2⟩ := q2
  subst ew
  exact z_icmp_eq 447 1594 rfl (by decide) ⟨fun _ => K h2 (ok h2 q2) (by omega) (by omega), fun c => absurd rfl c⟩
end LC
