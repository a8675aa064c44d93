section LC
variable {G : zG} {d N i : Nat} {b : zB} {h : zMem} {P : Option Value → zMem → Prop} {xs : Nat → Int32}
set_option maxRecDepth 100000 in
theorem lc_14 (hOK : zOK h) (hs : scr G N xs) (hi : i + 6 ≤ N) (hN : N ≤ 3072) (hb : zn h + zx h ≤ b.1 + b.2.2.1 ∧ zs h ≤ b.2.1 + b.2.2.2) (K : ∀ h', zOK h' → zn h' + zx h' = zn h + zx h → zs h' = zs h → zGo G mL_law (d + 201) b 1594 [.ref 1000003, .ref 0, .ref 132, .ref 174, .int (nI i), zU, zU] [] h' P) : zGo G mL_law (d + 201) b 798 [.ref 1000003, .ref 0, .ref 132, .ref 174, .int (nI i), zU, zU] [] h P := by
  have bs0 := hOK.bs
  refine z_aload_n 450 rfl rfl ?_
  refine z_arg 451 1 rfl rfl rfl (by decide) rfl rfl hs rfl rfl (by omega) (by omega) ?_
  refine z_arg 456 2 rfl rfl rfl (by decide) rfl rfl hs rfl rfl (by omega) (by omega) ?_
  obtain ⟨K1, L1, hc, hm⟩ := zpx (pr_goes (d := d) hOK (xs (i + 1)) (xs (i + 2)))
  refine z_callV 461 2 [.int (xs (i + 1)), .int (xs (i + 2))] (d' := d + 200) (bc := 0) (bs := 0) rfl fX9_goes gL_88 (bs0.o8) ⟨_, rfl, rfl⟩ (by decide) rfl (Nat.le_of_ble_eq_true rfl) (Nat.le_refl _) hb hc (fun r h1 q c1 c2 => ?_)
  obtain ⟨v, rfl, q⟩ := q
  obtain ⟨bs1, cm, ok⟩ := hm v h1 q
  refine z_aload_n 462 rfl rfl ?_
  refine z_arg 463 1 rfl rfl rfl (by decide) rfl rfl hs rfl rfl (by omega) (by omega) ?_
  refine z_arg 468 2 rfl rfl rfl (by decide) rfl rfl hs rfl rfl (by omega) (by omega) ?_
  refine z_callV 473 2 [.int (xs (i + 1)), .int (xs (i + 2))] (d' := d + 200) (bc := 0) (bs := 0) rfl fX10_goes gL_91 (bs1.o9) ⟨_, rfl, rfl⟩ (by decide) rfl (Nat.le_of_ble_eq_true rfl) (Nat.le_refl _) ⟨by omega, by omega⟩ cm (fun r h2 q2 c3 c4 => ?_)
  obtain ⟨w, rfl, ew, q2⟩ := q2
  subst ew
  exact z_icmp_eq 474 1594 rfl (by decide) ⟨fun _ => K h2 (ok h2 q2) (by omega) (by omega), fun c => absurd rfl c⟩
set_option maxRecDepth 100000 in
theorem lc_15 (hOK : zOK h) (hs : scr G N xs) (hi : i + 6 ≤ N) (hN : N ≤ 3072) (hb : zn h + zx h ≤ b.1 + b.2.2.1 ∧ zs h ≤ b.2.1 + b.2.2.2) (K : ∀ h', zOK h' → zn h' + zx h' = zn h + zx h → zs h' = zs h → zGo G mL_law (d + 201) b 1594 [.ref 1000003, .ref 0, .ref 132, .ref 174, .int (nI i), zU, zU] [] h' P) : zGo G mL_law (d + 201) b 835 [.ref 1000003, .ref 0, .ref 132, .ref 174, .int (nI i), zU, zU] [] h P := by
  have bs0 := hOK.bs
  refine z_aload_n 477 rfl rfl ?_
  refine z_arg 478 1 rfl rfl rfl (by decide) rfl rfl hs rfl rfl (by omega) (by omega) ?_
  obtain ⟨K1, L1, hc, hm⟩ := pr_go (d := d) hOK (xs (i + 1))
  refine z_callV 483 1 [.int (xs (i + 1))] (d' := d + 200) (bc := 0) (bs := 0) rfl fX9_go gL_92 (bs0.o8) ⟨_, rfl, rfl⟩ (by decide) rfl (Nat.le_of_ble_eq_true rfl) (Nat.le_refl _) hb hc (fun r h1 q c1 c2 => ?_)
  obtain ⟨v, rfl, q⟩ := q
  obtain ⟨bs1, cm, ok⟩ := hm v h1 q
  refine z_aload_n 484 rfl rfl ?_
  refine z_arg 485 1 rfl rfl rfl (by decide) rfl rfl hs rfl rfl (by omega) (by omega) ?_
  refine z_callV 490 1 [.int (xs (i + 1))] (d' := d + 200) (bc := 0) (bs := 0) rfl fX10_go gL_95 (bs1.o9) ⟨_, rfl, rfl⟩ (by decide) rfl (Nat.le_of_ble_eq_true rfl) (Nat.le_refl _) ⟨by omega, by omega⟩ cm (fun r h2 q2 c3 c4 => ?_)
  obtain ⟨w, rfl, ew, q2⟩ := q2
  subst ew
  exact z_icmp_eq 491 1594 rfl (by decide) ⟨fun _ => K h2 (ok h2 q2) (by omega) (by omega), fun c => absurd rfl c⟩
set_option maxRecDepth 100000 in
theorem lc_16 (hOK : zOK h) (hs : scr G N xs) (hi : i + 6 ≤ N) (hN : N ≤ 3072) (hb : zn h + zx h ≤ b.1 + b.2.2.1 ∧ zs h ≤ b.2.1 + b.2.2.2) (K : ∀ h', zOK h' → zn h' + zx h' = zn h + zx h → zs h' = zs h → zGo G mL_law (d + 201) b 1594 [.ref 1000003, .ref 0, .ref 132, .ref 174, .int (nI i), zU, zU] [] h' P) : zGo G mL_law (d + 201) b 860 [.ref 1000003, .ref 0, .ref 132, .ref 174, .int (nI i), zU, zU] [] h P := by
  have bs0 := hOK.bs
  refine z_aload_n 494 rfl rfl ?_
  refine z_arg 495 1 rfl rfl rfl (by decide) rfl rfl hs rfl rfl (by omega) (by omega) ?_
  obtain ⟨K1, L1, hc, hm⟩ := zpx (pr_mixedUp (d := d) hOK (xs (i + 1)))
  refine z_callV 500 1 [.int (xs (i + 1))] (d' := d + 200) (bc := 0) (bs := 0) rfl fX9_mixedUp gL_96 (bs0.o8) ⟨_, rfl, rfl⟩ (by decide) rfl (Nat.le_of_ble_eq_true rfl) (Nat.le_refl _) hb hc (fun r h1 q c1 c2 => ?_)
  obtain ⟨v, rfl, q⟩ := q
  obtain ⟨bs1, cm, ok⟩ := hm v h1 q
  refine z_aload_n 501 rfl rfl ?_
  refine z_arg 502 1 rfl rfl rfl (by decide) rfl rfl hs rfl rfl (by omega) (by omega) ?_
  refine z_callV 507 1 [.int (xs (i + 1))] (d' := d + 200) (bc := 0) (bs := 0) rfl fX10_mixedUp gL_99 (bs1.o9) ⟨_, rfl, rfl⟩ (by decide) rfl (Nat.le_of_ble_eq_true rfl) (Nat.le_refl _) ⟨by omega, by omega⟩ cm (fun r h2 q2 c3 c4 => ?_)
  obtain ⟨w, rfl, ew, q2⟩ := q2
  subst ew
  exact z_icmp_eq 508 1594 rfl (by decide) ⟨fun _ => K h2 (ok h2 q2) (by omega) (by omega), fun c => absurd rfl c⟩
set_option maxRecDepth 100000 in
theorem lc_17 (hOK : zOK h) (hs : scr G N xs) (hi : i + 6 ≤ N) (hN : N ≤ 3072) (hb : zn h + zx h ≤ b.1 + b.2.2.1 ∧ zs h ≤ b.2.1 + b.2.2.2) (K : ∀ h', zOK h' → zn h' + zx h' = zn h + zx h → zs h' = zs h → zGo G mL_law (d + 201) b 1594 [.ref 1000003, .ref 0, .ref 132, .ref 174, .int (nI i), zU, zU] [] h' P) : zGo G mL_law (d + 201) b 885 [.ref 1000003, .ref 0, .ref 132, .ref 174, .int (nI i), zU, zU] [] h P := by
  have bs0 := hOK.bs
  refine z_aload_n 511 rfl rfl ?_
  refine z_arg 512 1 rfl rfl rfl (by decide) rfl rfl hs rfl rfl (by omega) (by omega) ?_
  refine z_arg 517 2 rfl rfl rfl (by decide) rfl rfl hs rfl rfl (by omega) (by omega) ?_
  obtain ⟨K1, L1, hc, hm⟩ := zpx (pr_pair (d := d) hOK (xs (i + 1)) (xs (i + 2)))
  refine z_callV 522 2 [.int (xs (i + 1)), .int (xs (i + 2))] (d' := d + 200) (bc := 0) (bs := 0) rfl fX9_pair gL_100 (bs0.o8) ⟨_, rfl, rfl⟩ (by decide) rfl (Nat.le_of_ble_eq_true rfl) (Nat.le_refl _) hb hc (fun r h1 q c1 c2 => ?_)
  obtain ⟨v, rfl, q⟩ := q
  obtain ⟨bs1, cm, ok⟩ := hm v h1 q
  refine z_aload_n 523 rfl rfl ?_
  refine z_arg 524 1 rfl rfl rfl (by decide) rfl rfl hs rfl rfl (by omega) (by omega) ?_
  refine z_arg 529 2 rfl rfl rfl (by decide) rfl rfl hs rfl rfl (by omega) (by omega) ?_
  refine z_callV 534 2 [.int (xs (i + 1)), .int (xs (i + 2))] (d' := d + 200) (bc := 0) (bs := 0) rfl fX10_pair gL_103 (bs1.o9) ⟨_, rfl, rfl⟩ (by decide) rfl (Nat.le_of_ble_eq_true rfl) (Nat.le_refl _) ⟨by omega, by omega⟩ cm (fun r h2 q2 c3 c4 => ?_)
  obtain ⟨w, rfl, ew, q2⟩ := q2
  subst ew
  exact z_icmp_eq 535 1594 rfl (by decide) ⟨fun _ => K h2 (ok h2 q2) (by omega) (by omega), fun c => absurd rfl c⟩
set_option maxRecDepth 100000 in
theorem lc_18 (hOK : zOK h) (hs : scr G N xs) (hi : i + 6 ≤ N) (hN : N ≤ 3072) (hb : zn h + zx h ≤ b.1 + b.2.2.1 ∧ zs h ≤ b.2.1 + b.2.2.2) (K : ∀ h', zOK h' → zn h' + zx h' = zn h + zx h → zs h' = zs h → zGo G mL_law (d + 201) b 1594 [.ref 1000003, .ref 0, .ref 132, .ref 174, .int (nI i), zU, zU] [] h' P) : zGo G mL_law (d + 201) b 922 [.ref 1000003, .ref 0, .ref 132, .ref 174, .int (nI i), zU, zU] [] h P := by
  have bs0 := hOK.bs
  refine z_aload_n 538 rfl rfl ?_
  refine z_arg 539 1 rfl rfl rfl (by decide) rfl rfl hs rfl rfl (by omega) (by omega) ?_
  refine z_arg 544 2 rfl rfl rfl (by decide) rfl rfl hs rfl rfl (by omega) (by omega) ?_
  refine z_arg 549 3 rfl rfl rfl (by decide) rfl rfl hs rfl rfl (by omega) (by omega) ?_
  refine z_arg 554 4 rfl rfl rfl (by decide) rfl rfl hs rfl rfl (by omega) (by omega) ?_
  obtain ⟨K1, L1, hc, hm⟩ := zpx (pr_mending (d := d) hOK (xs (i + 1)) (xs (i + 2)) (xs (i + 3)) (xs (i + 4)))
  refine z_callV 559 4 [.int (xs (i + 1)), .int (xs (i + 2)), .int (xs (i + 3)), .int (xs (i + 4))] (d' := d + 200) (bc := 0) (bs := 0) rfl fX9_mending gL_104 (bs0.o8) ⟨_, rfl, rfl⟩ (by decide) rfl (Nat.le_of_ble_eq_true rfl) (Nat.le_refl _) hb hc (fun r h1 q c1 c2 => ?_)
  obtain ⟨v, rfl, q⟩ := q
  obtain ⟨bs1, cm, ok⟩ := hm v h1 q
  refine z_aload_n 560 rfl rfl ?_
  refine z_arg 561 1 rfl rfl rfl (by decide) rfl rfl hs rfl rfl (by omega) (by omega) ?_
  refine z_arg 566 2 rfl rfl rfl (by decide) rfl rfl hs rfl rfl (by omega) (by omega) ?_
  refine z_arg 571 3 rfl rfl rfl (by decide) rfl rfl hs rfl rfl (by omega) (by omega) ?_
  refine z_arg 576 4 rfl rfl rfl (by decide) rfl rfl hs rfl rfl (by omega) (by omega) ?_
  refine z_callV 581 4 [.int (xs (i + 1)), .int (xs (i + 2)), .int (xs (i + 3)), .int (xs (i + 4))] (d' := d + 200) (bc := 0) (bs := 0) rfl fX10_mending gL_108 (bs1.o9) ⟨_, rfl, rfl⟩ (by decide) rfl (Nat.le_of_ble_eq_true rfl) (Nat.le_refl _) ⟨by omega, by omega⟩ cm (fun r h2 q2 c3 c4 => ?_)
  obtain ⟨w, rfl, ew, q2⟩ := q2
  subst ew
  exact z_icmp_eq 582 1594 rfl (by decide) ⟨fun _ => K h2 (ok h2 q2) (by omega) (by omega), fun c => absurd rfl c⟩
set_option maxRecDepth 100000 in
theorem lc_19 (hOK : zOK h) (hs : scr G N xs) (hi : i + 6 ≤ N) (hN : N ≤ 3072) (hb : zn h + zx h ≤ b.1 + b.2.2.1 ∧ zs h ≤ b.2.1 + b.2.2.2) (K : ∀ h', zOK h' → zn h' + zx h' = zn h + zx h → zs h' = zs h → zGo G mL_law (d + 201) b 1594 [.ref 1000003, .ref 0, .ref 132, .ref 174, .int (nI i), zU, zU] [] h' P) : zGo G mL_law (d + 201) b 983 [.ref 1000003, .ref 0, .ref 132, .ref 174, .int (nI i), zU, zU] [] h P := by
  have bs0 := hOK.bs
  refine z_aload_n 585 rfl rfl ?_
  refine z_arg 586 1 rfl rfl rfl (by decide) rfl rfl hs rfl rfl (by omega) (by omega) ?_
  refine z_arg 591 2 rfl rfl rfl (by decide) rfl rfl hs rfl rfl (by omega) (by omega) ?_
  obtain ⟨K1, L1, hc, hm⟩ := zpx (pr_placeTo (d := d) hOK (xs (i + 1)) (xs (i + 2)))
  refine z_callV 596 2 [.int (xs (i + 1)), .int (xs (i + 2))] (d' := d + 200) (bc := 0) (bs := 0) rfl fX9_placeTo gL_109 (bs0.o8) ⟨_, rfl, rfl⟩ (by decide) rfl (Nat.le_of_ble_eq_true rfl) (Nat.le_refl _) hb hc (fun r h1 q c1 c2 => ?_)
  obtain ⟨v, rfl, q⟩ := q
  obtain ⟨bs1, cm, ok⟩ := hm v h1 q
  refine z_aload_n 597 rfl rfl ?_
  refine z_arg 598 1 rfl rfl rfl (by decide) rfl rfl hs rfl rfl (by omega) (by omega) ?_
  refine z_arg 603 2 rfl rfl rfl (by decide) rfl rfl hs rfl rfl (by omega) (by omega) ?_
  refine z_callV 608 2 [.int (xs (i + 1)), .int (xs (i + 2))] (d' := d + 200) (bc := 0) (bs := 0) rfl fX10_placeTo gL_112 (bs1.o9) ⟨_, rfl, rfl⟩ (by decide) rfl (Nat.le_of_ble_eq_true rfl) (Nat.le_refl _) ⟨by omega, by omega⟩ cm (fun r h2 q2 c3 c4 => ?_)
  obtain ⟨w, rfl, ew, q2⟩ := q2
  subst ew
  exact z_icmp_eq 609 1594 rfl (by decide) ⟨fun _ => K h2 (ok h2 q2) (by omega) (by omega), fun c => absurd rfl c⟩
set_option maxRecDepth 100000 in
theorem lc_20 (hOK : zOK h) (hs : scr G N xs) (hi : i + 6 ≤ N) (hN : N ≤ 3072) (hb : zn h + zx h ≤ b.1 + b.2.2.1 ∧ zs h ≤ b.2.1 + b.2.2.2) (K : ∀ h', zOK h' → zn h' + zx h' = zn h + zx h → zs h' = zs h → zGo G mL_law (d + 201) b 1594 [.ref 1000003, .ref 0, .ref 132, .ref 174, .int (nI i), zU, zU] [] h' P) : zGo G mL_law (d + 201) b 1020 [.ref 1000003, .ref 0, .ref 132, .ref 174, .int (nI i), zU, zU] [] h P := by
  have bs0 := hOK.bs
  refine z_aload_n 612 rfl rfl ?_
  refine z_arg 613 1 rfl rfl rfl (by decide) rfl rfl hs rfl rfl (by omega) (by omega) ?_
  obtain ⟨K1, L1, hc, hm⟩ := zpx (pr_lasts (d := d) hOK (xs (i + 1)))
  refine z_callV 618 1 [.int (xs (i + 1))] (d' := d + 200) (bc := 0) (bs := 0) rfl fX9_lasts gL_113 (bs0.o8) ⟨_, rfl, rfl⟩ (by decide) rfl (Nat.le_of_ble_eq_true rfl) (Nat.le_refl _) hb hc (fun r h1 q c1 c2 => ?_)
  obtain ⟨v, rfl, q⟩ := q
  obtain ⟨bs1, cm, ok⟩ := hm v h1 q
  refine z_aload_n 619 rfl rfl ?_
  refine z_arg 620 1 rfl rfl rfl (by decide) rfl rfl hs rfl rfl (by omega) (by omega) ?_
  refine z_callV 625 1 [.int (xs (i + 1))] (d' := d + 200) (bc := 0) (bs := 0) rfl fX10_lasts gL_116 (bs1.o9) ⟨_, rfl, rfl⟩ (by decide) rfl (Nat.le_of_ble_eq_true rfl) (Nat.le_refl _) ⟨by omega, by omega⟩ cm (fun r h2 q2 c3 c4 => ?_)
  obtain ⟨w, rfl, ew, q2⟩ := q2
  subst ew
  exact z_icmp_eq 626 1594 rfl (by decide) ⟨fun _ => K h2 (ok h2 q2) (by omega) (by omega), fun c => absurd rfl c⟩
set_option maxRecDepth 100000 in
theorem lc_21 (hOK : zOK h) (hs : scr G N xs) (hi : i + 6 ≤ N) (hN : N ≤ 3072) (hb : zn h + zx h ≤ b.1 + b.2.2.1 ∧ zs h ≤ b.2.1 + b.2.2.2) (K : ∀ h', zOK h' → zn h' + zx h' = zn h + zx h → zs h' = zs h → zGo G mL_law (d + 201) b 1594 [.ref 1000003, .ref 0, .ref 132, .ref 174, .int (nI i), zU, zU] [] h' P) : zGo G mL_law (d + 201) b 1045 [.ref 1000003, .ref 0, .ref 132, .ref 174, .int (nI i), zU, zU] [] h P := by
  have bs0 := hOK.bs
  refine z_aload_n 629 rfl rfl ?_
  refine z_arg 630 1 rfl rfl rfl (by decide) rfl rfl hs rfl rfl (by omega) (by omega) ?_
  refine z_arg 635 2 rfl rfl rfl (by decide) rfl rfl hs rfl rfl (by omega) (by omega) ?_
  obtain ⟨K1, L1, hc, hm⟩ := zpx (pr_needs (d := d) hOK (xs (i + 1)) (xs (i + 2)))
  refine z_callV 640 2 [.int (xs (i + 1)), .int (xs (i + 2))] (d' := d + 200) (bc := 0) (bs := 0) rfl fX9_needs gL_117 (bs0.o8) ⟨_, rfl, rfl⟩ (by decide) rfl (Nat.le_of_ble_eq_true rfl) (Nat.le_refl _) hb hc (fun r h1 q c1 c2 => ?_)
  obtain ⟨v, rfl, q⟩ := q
  obtain ⟨bs1, cm, ok⟩ := hm v h1 q
  refine z_aload_n 641 rfl rfl ?_
  refine z_arg 642 1 rfl rfl rfl (by decide) rfl rfl hs rfl rfl (by omega) (by omega) ?_
  refine z_arg 647 2 rfl rfl rfl (by decide) rfl rfl hs rfl rfl (by omega) (by omega) ?_
  refine z_callV 652 2 [.int (xs (i + 1)), .int (xs (i + 2))] (d' := d + 200) (bc := 0) (bs := 0) rfl fX10_needs gL_120 (bs1.o9) ⟨_, rfl, rfl⟩ (by decide) rfl (Nat.le_of_ble_eq_true rfl) (Nat.le_refl _) ⟨by omega, by omega⟩ cm (fun r h2 q2 c3 c4 => ?_)
  obtain ⟨w, rfl, ew, q2⟩ := q2
  subst ew
  exact z_icmp_eq 653 1594 rfl (by decide) ⟨fun _ => K h2 (ok h2 q2) (by omega) (by omega), fun c => absurd rfl c⟩
set_option maxRecDepth 100000 in
theorem lc_22 (hOK : zOK h) (hs : scr G N xs) (hi : i + 6 ≤ N) (hN : N ≤ 3072) (hb : zn h + zx h ≤ b.1 + b.2.2.1 ∧ zs h ≤ b.2.1 + b.2.2.2) (K : ∀ h', zOK h' → zn h' + zx h' = zn h + zx h → zs h' = zs h → zGo G mL_law (d + 201) b 1594 [.ref 1000003, .ref 0, .ref 132, .ref 174, .int (nI i), zU, zU] [] h' P) : zGo G mL_law (d + 201) b 1082 [.ref 1000003, .ref 0, .ref 132, .ref 174, .int (nI i), zU, zU] [] h P := by
  have bs0 := hOK.bs
  refine z_aload_n 656 rfl rfl ?_
  refine z_arg 657 1 rfl rfl rfl (by decide) rfl rfl hs rfl rfl (by omega) (by omega) ?_
  obtain ⟨K1, L1, hc, hm⟩ := zpx (pr_dearest (d := d) hOK (xs (i + 1)))
  refine z_callV 662 1 [.int (xs (i + 1))] (d' := d + 200) (bc := 0) (bs := 0) rfl fX9_dearest gL_121 (bs0.o8) ⟨_, rfl, rfl⟩ (by decide) rfl (Nat.le_of_ble_eq_true rfl) (Nat.le_refl _) hb hc (fun r h1 q c1 c2 => ?_)
  obtain ⟨v, rfl, q⟩ := q
  obtain ⟨bs1, cm, ok⟩ := hm v h1 q
  refine z_aload_n 663 rfl rfl ?_
  refine z_arg 664 1 rfl rfl rfl (by decide) rfl rfl hs rfl rfl (by omega) (by omega) ?_
  refine z_callV 669 1 [.int (xs (i + 1))] (d' := d + 200) (bc := 0) (bs := 0) rfl fX10_dearest gL_124 (bs1.o9) ⟨_, rfl, rfl⟩ (by decide) rfl (Nat.le_of_ble_eq_true rfl) (Nat.le_refl _) ⟨by omega, by omega⟩ cm (fun r h2 q2 c3 c4 => ?_)
  obtain ⟨w, rfl, ew, q2⟩ := q2
  subst ew
  exact z_icmp_eq 670 1594 rfl (by decide) ⟨fun _ => K h2 (ok h2 q2) (by omega) (by omega), fun c => absurd rfl c⟩
set_option maxRecDepth 100000 in
theorem lc_23 (hOK : zOK h) (hs : scr G N xs) (hi : i + 6 ≤ N) (hN : N ≤ 3072) (hb : zn h + zx h ≤ b.1 + b.2.2.1 ∧ zs h ≤ b.2.1 + b.2.2.2) (K : ∀ h', zOK h' → zn h' + zx h' = zn h + zx h → zs h' = zs h → zGo G mL_law (d + 201) b 1594 [.ref 1000003, .ref 0, .ref 132, .ref 174, .int (nI i), zU, zU] [] h' P) : zGo G mL_law (d + 201) b 1107 [.ref 1000003, .ref 0, .ref 132, .ref 174, .int (nI i), zU, zU] [] h P := by
  have bs0 := hOK.bs
  refine z_aload_n 673 rfl rfl ?_
  refine z_arg 674 1 rfl rfl rfl (by decide) rfl rfl hs rfl rfl (by omega) (by omega) ?_
  refine z_arg 679 2 rfl rfl rfl (by decide) rfl rfl hs rfl rfl (by omega) (by omega) ?_
  obtain ⟨K1, L1, hc, hm⟩ := zpx (pr_inPlace (d := d) hOK (xs (i + 1)) (xs (i + 2)))
  refine z_callV 684 2 [.int (xs (i + 1)), .int (xs (i + 2))] (d' := d + 200) (bc := 0) (bs := 0) rfl fX9_inPlace gL_125 (bs0.o8) ⟨_, rfl, rfl⟩ (by decide) rfl (Nat.le_of_ble_eq_true rfl) (Nat.le_refl _) hb hc (fun r h1 q c1 c2 => ?_)
  obtain ⟨v, rfl, q⟩ := q
  obtain ⟨bs1, cm, ok⟩ := hm v h1 q
  refine z_aload_n 685 rfl rfl ?_
  refine z_arg 686 1 rfl rfl rfl (by decide) rfl rfl hs rfl rfl (by omega) (by omega) ?_
  refine z_arg 691 2 rfl rfl rfl (by decide) rfl rfl hs rfl rfl (by omega) (by omega) ?_
  refine z_callV 696 2 [.int (xs (i + 1)), .int (xs (i + 2))] (d' := d + 200) (bc := 0) (bs := 0) rfl fX10_inPlace gL_128 (bs1.o9) ⟨_, rfl, rfl⟩ (by decide) rfl (Nat.le_of_ble_eq_true rfl) (Nat.le_refl _) ⟨by omega, by omega⟩ cm (fun r h2 q2 c3 c4 => ?_)
  obtain ⟨w, rfl, ew, q2⟩ := q2
  subst ew
  exact z_icmp_eq 697 1594 rfl (by decide) ⟨fun _ => K h2 (ok h2 q2) (by omega) (by omega), fun c => absurd rfl c⟩
set_option maxRecDepth 100000 in
theorem lc_24 (hOK : zOK h) (hs : scr G N xs) (hi : i + 6 ≤ N) (hN : N ≤ 3072) (hb : zn h + zx h ≤ b.1 + b.2.2.1 ∧ zs h ≤ b.2.1 + b.2.2.2) (K : ∀ h', zOK h' → zn h' + zx h' = zn h + zx h → zs h' = zs h → zGo G mL_law (d + 201) b 1594 [.ref 1000003, .ref 0, .ref 132, .ref 174, .int (nI i), zU, zU] [] h' P) : zGo G mL_law (d + 201) b 1144 [.ref 1000003, .ref 0, .ref 132, .ref 174, .int (nI i), zU, zU] [] h P := by
  have bs0 := hOK.bs
  refine z_aload_n 700 rfl rfl ?_
  refine z_arg 701 1 rfl rfl rfl (by decide) rfl rfl hs rfl rfl (by omega) (by omega) ?_
  refine z_arg 706 2 rfl rfl rfl (by decide) rfl rfl hs rfl rfl (by omega) (by omega) ?_
  refine z_arg 711 3 rfl rfl rfl (by decide) rfl rfl hs rfl rfl (by omega) (by omega) ?_
  obtain ⟨K1, L1, hc, hm⟩ := zpx (pr_letter (d := d) hOK (xs (i + 1)) (xs (i + 2)) (xs (i + 3)))
  refine z_callV 716 3 [.int (xs (i + 1)), .int (xs (i + 2)), .int (xs (i + 3))] (d' := d + 200) (bc := 0) (bs := 0) rfl fX9_letter gL_129 (bs0.o8) ⟨_, rfl, rfl⟩ (by decide) rfl (Nat.le_of_ble_eq_true rfl) (Nat.le_refl _) hb hc (fun r h1 q c1 c2 => ?_)
  obtain ⟨v, rfl, q⟩ := q
  obtain ⟨bs1, cm, ok⟩ := hm v h1 q
  refine z_aload_n 717 rfl rfl ?_
  refine z_arg 718 1 rfl rfl rfl (by decide) rfl rfl hs rfl rfl (by omega) (by omega) ?_
  refine z_arg 723 2 rfl rfl rfl (by decide) rfl rfl hs rfl rfl (by omega) (by omega) ?_
  refine z_arg 728 3 rfl rfl rfl (by decide) rfl rfl hs rfl rfl (by omega) (by omega) ?_
  refine z_callV 733 3 [.int (xs (i + 1)), .int (xs (i + 2)), .int (xs (i + 3))] (d' := d + 200) (bc := 0) (bs := 0) rfl fX10_letter gL_133 (bs1.o9) ⟨_, rfl, rfl⟩ (by decide) rfl (Nat.le_of_ble_eq_true rfl) (Nat.le_refl _) ⟨by omega, by omega⟩ cm (fun r h2 q2 c3 c4 => ?_)
  obtain ⟨w, rfl, ew, q2⟩ := q2
  subst ew
  exact z_icmp_eq 734 1594 rfl (by decide) ⟨fun _ => K h2 (ok h2 q2) (by omega) (by omega), fun c => absurd rfl c⟩
set_option maxRecDepth 100000 in
theorem lc_25 (hOK : zOK h) (hs : scr G N xs) (hi : i + 6 ≤ N) (hN : N ≤ 3072) (hb : zn h + zx h ≤ b.1 + b.2.2.1 ∧ zs h ≤ b.2.1 + b.2.2.2) (K : ∀ h', zOK h' → zn h' + zx h' = zn h + zx h → zs h' = zs h → zGo G mL_law (d + 201) b 1594 [.ref 1000003, .ref 0, .ref 132, .ref 174, .int (nI i), zU, zU] [] h' P) : zGo G mL_law (d + 201) b 1193 [.ref 1000003, .ref 0, .ref 132, .ref 174, .int (nI i), zU, zU] [] h P := by
  have bs0 := hOK.bs
  refine z_aload_n 737 rfl rfl ?_
  refine z_arg 738 1 rfl rfl rfl (by decide) rfl rfl hs rfl rfl (by omega) (by omega) ?_
  obtain ⟨K1, L1, hc, hm⟩ := pr_firstWrong (d := d) hOK (xs (i + 1))
  refine z_callV 743 1 [.int (xs (i + 1))] (d' := d + 200) (bc := 0) (bs := 0) rfl fX9_firstWrong gL_134 (bs0.o8) ⟨_, rfl, rfl⟩ (by decide) rfl (Nat.le_of_ble_eq_true rfl) (Nat.le_refl _) hb hc (fun r h1 q c1 c2 => ?_)
  obtain ⟨v, rfl, q⟩ := q
  obtain ⟨bs1, cm, ok⟩ := hm v h1 q
  refine z_aload_n 744 rfl rfl ?_
  refine z_arg 745 1 rfl rfl rfl (by decide) rfl rfl hs rfl rfl (by omega) (by omega) ?_
  refine z_callV 750 1 [.int (xs (i + 1))] (d' := d + 200) (bc := 0) (bs := 0) rfl fX10_firstWrong gL_137 (bs1.o9) ⟨_, rfl, rfl⟩ (by decide) rfl (Nat.le_of_ble_eq_true rfl) (Nat.le_refl _) ⟨by omega, by omega⟩ cm (fun r h2 q2 c3 c4 => ?_)
  obtain ⟨w, rfl, ew, q2⟩ := q2
  subst ew
  exact z_icmp_eq 751 1594 rfl (by decide) ⟨fun _ => K h2 (ok h2 q2) (by omega) (by omega), fun c => absurd rfl c⟩
set_option maxRecDepth 100000 in
theorem lc_26 (hOK : zOK h) (hs : scr G N xs) (hi : i + 6 ≤ N) (hN : N ≤ 3072) (hb : zn h + zx h ≤ b.1 + b.2.2.1 ∧ zs h ≤ b.2.1 + b.2.2.2) (K : ∀ h', zOK h' → zn h' + zx h' = zn h + zx h → zs h' = zs h → zGo G mL_law (d + 201) b 1594 [.ref 1000003, .ref 0, .ref 132, .ref 174, .int (nI i), zU, zU] [] h' P) : zGo G mL_law (d + 201) b 1218 [.ref 1000003, .ref 0, .ref 132, .ref 174, .int (nI i), zU, zU] [] h P := by
  have bs0 := hOK.bs
  refine z_aload_n 754 rfl rfl ?_
  refine z_arg 755 1 rfl rfl rfl (by decide) rfl rfl hs rfl rfl (by omega) (by omega) ?_
  obtain ⟨K1, L1, hc, hm⟩ := pr_rests (d := d) hOK (xs (i + 1))
  refine z_callV 760 1 [.int (xs (i + 1))] (d' := d + 200) (bc := 0) (bs := 0) rfl fX9_rests gL_138 (bs0.o8) ⟨_, rfl, rfl⟩ (by decide) rfl (Nat.le_of_ble_eq_true rfl) (Nat.le_refl _) hb hc (fun r h1 q c1 c2 => ?_)
  obtain ⟨v, rfl, q⟩ := q
  obtain ⟨bs1, cm, ok⟩ := hm v h1 q
  refine z_aload_n 761 rfl rfl ?_
  refine z_arg 762 1 rfl rfl rfl (by decide) rfl rfl hs rfl rfl (by omega) (by omega) ?_
  refine z_callV 767 1 [.int (xs (i + 1))] (d' := d + 200) (bc := 0) (bs := 0) rfl fX10_rests gL_141 (bs1.o9) ⟨_, rfl, rfl⟩ (by decide) rfl (Nat.le_of_ble_eq_true rfl) (Nat.le_refl _) ⟨by omega, by omega⟩ cm (fun r h2 q2 c3 c4 => ?_)
  obtain ⟨w, rfl, ew, q2⟩ := q2
  subst ew
  exact z_icmp_eq 768 1594 rfl (by decide) ⟨fun _ => K h2 (ok h2 q2) (by omega) (by omega), fun c => absurd rfl c⟩
end LC
