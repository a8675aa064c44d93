section LC
variable {G : zG} {d N i : Nat} {b : zB} {h : zMem} {P : Option Value → zMem → Prop} {xs : Nat → Int32}
set_option maxRecDepth 100000 in
theorem lc_27 (hOK : zOK h) (hs : scr G N xs) (hi : i + 6 ≤ N) (hN : N ≤ 3072) (hb : zn h + zx h ≤ b.1 + b.2.2.1 ∧ zs h ≤ b.2.1 + b.2.2.2) (K : ∀ h', zOK h' → zn h' + zx h' = zn h + zx h → zs h' = zs h → zGo G mL_law (d + 201) b 1594 [.ref 1000003, .ref 0, .ref 132, .ref 174, .int (nI i), zU, zU] [] h' P) : zGo G mL_law (d + 201) b 1243 [.ref 1000003, .ref 0, .ref 132, .ref 174, .int (nI i), zU, zU] [] h P := by
  have bs0 := hOK.bs
  refine z_aload_n 771 rfl rfl ?_
  refine z_arg 772 1 rfl rfl rfl (by decide) rfl rfl hs rfl rfl (by omega) (by omega) ?_
  refine z_arg 777 2 rfl rfl rfl (by decide) rfl rfl hs rfl rfl (by omega) (by omega) ?_
  obtain ⟨K1, L1, hc, hm⟩ := pr_rest (d := d) hOK (xs (i + 1)) (xs (i + 2))
  refine z_callV 782 2 [.int (xs (i + 1)), .int (xs (i + 2))] (d' := d + 200) (bc := 0) (bs := 0) rfl fX9_rest gL_142 (bs0.o8) ⟨_, rfl, rfl⟩ (by decide) rfl (Nat.le_of_ble_eq_true rfl) (Nat.le_refl _) hb hc (fun r h1 q c1 c2 => ?_)
  obtain ⟨v, rfl, q⟩ := q
  obtain ⟨bs1, cm, ok⟩ := hm v h1 q
  refine z_aload_n 783 rfl rfl ?_
  refine z_arg 784 1 rfl rfl rfl (by decide) rfl rfl hs rfl rfl (by omega) (by omega) ?_
  refine z_arg 789 2 rfl rfl rfl (by decide) rfl rfl hs rfl rfl (by omega) (by omega) ?_
  refine z_callV 794 2 [.int (xs (i + 1)), .int (xs (i + 2))] (d' := d + 200) (bc := 0) (bs := 0) rfl fX10_rest gL_145 (bs1.o9) ⟨_, rfl, rfl⟩ (by decide) rfl (Nat.le_of_ble_eq_true rfl) (Nat.le_refl _) ⟨by omega, by omega⟩ cm (fun r h2 q2 c3 c4 => ?_)
  obtain ⟨w, rfl, ew, q2⟩ := q2
  subst ew
  exact z_icmp_eq 795 1594 rfl (by decide) ⟨fun _ => K h2 (ok h2 q2) (by omega) (by omega), fun c => absurd rfl c⟩
set_option maxRecDepth 100000 in
theorem lc_28 (hOK : zOK h) (hs : scr G N xs) (hi : i + 6 ≤ N) (hN : N ≤ 3072) (hb : zn h + zx h ≤ b.1 + b.2.2.1 ∧ zs h ≤ b.2.1 + b.2.2.2) (K : ∀ h', zOK h' → zn h' + zx h' = zn h + zx h → zs h' = zs h → zGo G mL_law (d + 201) b 1594 [.ref 1000003, .ref 0, .ref 132, .ref 174, .int (nI i), zU, zU] [] h' P) : zGo G mL_law (d + 201) b 1280 [.ref 1000003, .ref 0, .ref 132, .ref 174, .int (nI i), zU, zU] [] h P := by
  have bs0 := hOK.bs
  by_cases cb : xs (i + 4) = 0
  · refine z_aload_n 798 rfl rfl ?_
    refine z_arg 799 1 rfl rfl rfl (by decide) rfl rfl hs rfl rfl (by omega) (by omega) ?_
    refine z_arg 804 2 rfl rfl rfl (by decide) rfl rfl hs rfl rfl (by omega) (by omega) ?_
    refine z_arg 809 3 rfl rfl rfl (by decide) rfl rfl hs rfl rfl (by omega) (by omega) ?_
    refine z_arg 814 4 rfl rfl rfl (by decide) rfl rfl hs rfl rfl (by omega) (by omega) ?_
    refine z_if_eq 819 1312 rfl (by decide) ⟨fun _ => ?_, fun c => absurd cb c⟩
    refine z_iconst (v := 0) 822 rfl (by decide) ?_
    obtain ⟨K1, L1, hc, hm⟩ := zpx (pr_note (d := d) hOK (xs (i + 1)) (xs (i + 2)) (xs (i + 3)) ((0 : Int32)) (by decide))
    refine z_callV 823 4 [.int (xs (i + 1)), .int (xs (i + 2)), .int (xs (i + 3)), .int ((0 : Int32))] (d' := d + 200) (bc := 0) (bs := 0) rfl fX9_note gL_146 (bs0.o8) ⟨_, rfl, rfl⟩ (by decide) rfl (Nat.le_of_ble_eq_true rfl) (Nat.le_refl _) hb hc (fun r h1 q c1 c2 => ?_)
    obtain ⟨v, rfl, q⟩ := q
    obtain ⟨bs1, cm, ok⟩ := hm v h1 q
    refine z_aload_n 824 rfl rfl ?_
    refine z_arg 825 1 rfl rfl rfl (by decide) rfl rfl hs rfl rfl (by omega) (by omega) ?_
    refine z_arg 830 2 rfl rfl rfl (by decide) rfl rfl hs rfl rfl (by omega) (by omega) ?_
    refine z_arg 835 3 rfl rfl rfl (by decide) rfl rfl hs rfl rfl (by omega) (by omega) ?_
    refine z_arg 840 4 rfl rfl rfl (by decide) rfl rfl hs rfl rfl (by omega) (by omega) ?_
    refine z_if_eq 845 1348 rfl (by decide) ⟨fun _ => ?_, fun c => absurd cb c⟩
    refine z_iconst (v := 0) 848 rfl (by decide) ?_
    refine z_callV 849 4 [.int (xs (i + 1)), .int (xs (i + 2)), .int (xs (i + 3)), .int ((0 : Int32))] (d' := d + 200) (bc := 0) (bs := 0) rfl fX10_note gL_150 (bs1.o9) ⟨_, rfl, rfl⟩ (by decide) rfl (Nat.le_of_ble_eq_true rfl) (Nat.le_refl _) ⟨by omega, by omega⟩ cm (fun r h2 q2 c3 c4 => ?_)
    obtain ⟨w, rfl, ew, q2⟩ := q2
    subst ew
    exact z_icmp_eq 850 1594 rfl (by decide) ⟨fun _ => K h2 (ok h2 q2) (by omega) (by omega), fun c => absurd rfl c⟩
  · refine z_aload_n 798 rfl rfl ?_
    refine z_arg 799 1 rfl rfl rfl (by decide) rfl rfl hs rfl rfl (by omega) (by omega) ?_
    refine z_arg 804 2 rfl rfl rfl (by decide) rfl rfl hs rfl rfl (by omega) (by omega) ?_
    refine z_arg 809 3 rfl rfl rfl (by decide) rfl rfl hs rfl rfl (by omega) (by omega) ?_
    refine z_arg 814 4 rfl rfl rfl (by decide) rfl rfl hs rfl rfl (by omega) (by omega) ?_
    refine z_if_eq 819 1312 rfl (by decide) ⟨fun c => absurd c cb, fun _ => ?_⟩
    refine z_iconst (v := 1) 820 rfl (by decide) ?_
    refine z_goto 821 1313 rfl (by decide) ?_
    obtain ⟨K1, L1, hc, hm⟩ := zpx (pr_note (d := d) hOK (xs (i + 1)) (xs (i + 2)) (xs (i + 3)) ((1 : Int32)) (by decide))
    refine z_callV 823 4 [.int (xs (i + 1)), .int (xs (i + 2)), .int (xs (i + 3)), .int ((1 : Int32))] (d' := d + 200) (bc := 0) (bs := 0) rfl fX9_note gL_146 (bs0.o8) ⟨_, rfl, rfl⟩ (by decide) rfl (Nat.le_of_ble_eq_true rfl) (Nat.le_refl _) hb hc (fun r h1 q c1 c2 => ?_)
    obtain ⟨v, rfl, q⟩ := q
    obtain ⟨bs1, cm, ok⟩ := hm v h1 q
    refine z_aload_n 824 rfl rfl ?_
    refine z_arg 825 1 rfl rfl rfl (by decide) rfl rfl hs rfl rfl (by omega) (by omega) ?_
    refine z_arg 830 2 rfl rfl rfl (by decide) rfl rfl hs rfl rfl (by omega) (by omega) ?_
    refine z_arg 835 3 rfl rfl rfl (by decide) rfl rfl hs rfl rfl (by omega) (by omega) ?_
    refine z_arg 840 4 rfl rfl rfl (by decide) rfl rfl hs rfl rfl (by omega) (by omega) ?_
    refine z_if_eq 845 1348 rfl (by decide) ⟨fun c => absurd c cb, fun _ => ?_⟩
    refine z_iconst (v := 1) 846 rfl (by decide) ?_
    refine z_goto 847 1349 rfl (by decide) ?_
    refine z_callV 849 4 [.int (xs (i + 1)), .int (xs (i + 2)), .int (xs (i + 3)), .int ((1 : Int32))] (d' := d + 200) (bc := 0) (bs := 0) rfl fX10_note gL_150 (bs1.o9) ⟨_, rfl, rfl⟩ (by decide) rfl (Nat.le_of_ble_eq_true rfl) (Nat.le_refl _) ⟨by omega, by omega⟩ cm (fun r h2 q2 c3 c4 => ?_)
    obtain ⟨w, rfl, ew, q2⟩ := q2
    subst ew
    exact z_icmp_eq 850 1594 rfl (by decide) ⟨fun _ => K h2 (ok h2 q2) (by omega) (by omega), fun c => absurd rfl c⟩
set_option maxRecDepth 100000 in
theorem lc_29 (hOK : zOK h) (hs : scr G N xs) (hi : i + 6 ≤ N) (hN : N ≤ 3072) (hb : zn h + zx h ≤ b.1 + b.2.2.1 ∧ zs h ≤ b.2.1 + b.2.2.2) (K : ∀ h', zOK h' → zn h' + zx h' = zn h + zx h → zs h' = zs h → zGo G mL_law (d + 201) b 1594 [.ref 1000003, .ref 0, .ref 132, .ref 174, .int (nI i), zU, zU] [] h' P) : zGo G mL_law (d + 201) b 1357 [.ref 1000003, .ref 0, .ref 132, .ref 174, .int (nI i), zU, zU] [] h P := by
  have bs0 := hOK.bs
  refine z_aload_n 853 rfl rfl ?_
  refine z_arg 854 1 rfl rfl rfl (by decide) rfl rfl hs rfl rfl (by omega) (by omega) ?_
  obtain ⟨K1, L1, hc, hm⟩ := zpx (pr_out (d := d) hOK (xs (i + 1)))
  refine z_callV 859 1 [.int (xs (i + 1))] (d' := d + 200) (bc := 0) (bs := 0) rfl fX9_out gL_151 (bs0.o8) ⟨_, rfl, rfl⟩ (by decide) rfl (Nat.le_of_ble_eq_true rfl) (Nat.le_refl _) hb hc (fun r h1 q c1 c2 => ?_)
  obtain ⟨v, rfl, q⟩ := q
  obtain ⟨bs1, cm, ok⟩ := hm v h1 q
  refine z_aload_n 860 rfl rfl ?_
  refine z_arg 861 1 rfl rfl rfl (by decide) rfl rfl hs rfl rfl (by omega) (by omega) ?_
  refine z_callV 866 1 [.int (xs (i + 1))] (d' := d + 200) (bc := 0) (bs := 0) rfl fX10_out gL_154 (bs1.o9) ⟨_, rfl, rfl⟩ (by decide) rfl (Nat.le_of_ble_eq_true rfl) (Nat.le_refl _) ⟨by omega, by omega⟩ cm (fun r h2 q2 c3 c4 => ?_)
  obtain ⟨w, rfl, ew, q2⟩ := q2
  subst ew
  exact z_icmp_eq 867 1594 rfl (by decide) ⟨fun _ => K h2 (ok h2 q2) (by omega) (by omega), fun c => absurd rfl c⟩
set_option maxRecDepth 100000 in
theorem lc_30 (hOK : zOK h) (hs : scr G N xs) (hi : i + 6 ≤ N) (hN : N ≤ 3072) (hb : zn h + zx h ≤ b.1 + b.2.2.1 ∧ zs h ≤ b.2.1 + b.2.2.2) (K : ∀ h', zOK h' → zn h' + zx h' = zn h + zx h → zs h' = zs h → zGo G mL_law (d + 201) b 1594 [.ref 1000003, .ref 0, .ref 132, .ref 174, .int (nI i), zU, zU] [] h' P) : zGo G mL_law (d + 201) b 1382 [.ref 1000003, .ref 0, .ref 132, .ref 174, .int (nI i), zU, zU] [] h P := by
  have bs0 := hOK.bs
  refine z_aload_n 870 rfl rfl ?_
  refine z_arg 871 1 rfl rfl rfl (by decide) rfl rfl hs rfl rfl (by omega) (by omega) ?_
  obtain ⟨K1, L1, hc, hm⟩ := zpx (pr_known (d := d) hOK (xs (i + 1)))
  refine z_callV 876 1 [.int (xs (i + 1))] (d' := d + 200) (bc := 0) (bs := 0) rfl fX9_known gL_155 (bs0.o8) ⟨_, rfl, rfl⟩ (by decide) rfl (Nat.le_of_ble_eq_true rfl) (Nat.le_refl _) hb hc (fun r h1 q c1 c2 => ?_)
  obtain ⟨v, rfl, q⟩ := q
  obtain ⟨bs1, cm, ok⟩ := hm v h1 q
  refine z_aload_n 877 rfl rfl ?_
  refine z_arg 878 1 rfl rfl rfl (by decide) rfl rfl hs rfl rfl (by omega) (by omega) ?_
  refine z_callV 883 1 [.int (xs (i + 1))] (d' := d + 200) (bc := 0) (bs := 0) rfl fX10_known gL_159 (bs1.o9) ⟨_, rfl, rfl⟩ (by decide) rfl (Nat.le_of_ble_eq_true rfl) (Nat.le_refl _) ⟨by omega, by omega⟩ cm (fun r h2 q2 c3 c4 => ?_)
  obtain ⟨w, rfl, ew, q2⟩ := q2
  subst ew
  exact z_icmp_eq 884 1594 rfl (by decide) ⟨fun _ => K h2 (ok h2 q2) (by omega) (by omega), fun c => absurd rfl c⟩
set_option maxRecDepth 100000 in
theorem lc_31 (hOK : zOK h) (hs : scr G N xs) (hi : i + 6 ≤ N) (hN : N ≤ 3072) (hb : zn h + zx h ≤ b.1 + b.2.2.1 ∧ zs h ≤ b.2.1 + b.2.2.2) (K : ∀ h', zOK h' → zn h' + zx h' = zn h + zx h → zs h' = zs h → zGo G mL_law (d + 201) b 1594 [.ref 1000003, .ref 0, .ref 132, .ref 174, .int (nI i), zU, zU] [] h' P) : zGo G mL_law (d + 201) b 1407 [.ref 1000003, .ref 0, .ref 132, .ref 174, .int (nI i), zU, zU] [] h P := by
  have bs0 := hOK.bs
  refine z_aload_n 887 rfl rfl ?_
  refine z_arg 888 1 rfl rfl rfl (by decide) rfl rfl hs rfl rfl (by omega) (by omega) ?_
  obtain ⟨K1, L1, hc, hm⟩ := pr_colds (d := d) hOK (xs (i + 1))
  refine z_callV 893 1 [.int (xs (i + 1))] (d' := d + 200) (bc := 0) (bs := 0) rfl fX9_colds gL_160 (bs0.o8) ⟨_, rfl, rfl⟩ (by decide) rfl (Nat.le_of_ble_eq_true rfl) (Nat.le_refl _) hb hc (fun r h1 q c1 c2 => ?_)
  obtain ⟨v, rfl, q⟩ := q
  obtain ⟨bs1, cm, ok⟩ := hm v h1 q
  refine z_aload_n 894 rfl rfl ?_
  refine z_arg 895 1 rfl rfl rfl (by decide) rfl rfl hs rfl rfl (by omega) (by omega) ?_
  refine z_callV 900 1 [.int (xs (i + 1))] (d' := d + 200) (bc := 0) (bs := 0) rfl fX10_colds gL_163 (bs1.o9) ⟨_, rfl, rfl⟩ (by decide) rfl (Nat.le_of_ble_eq_true rfl) (Nat.le_refl _) ⟨by omega, by omega⟩ cm (fun r h2 q2 c3 c4 => ?_)
  obtain ⟨w, rfl, ew, q2⟩ := q2
  subst ew
  exact z_icmp_eq 901 1594 rfl (by decide) ⟨fun _ => K h2 (ok h2 q2) (by omega) (by omega), fun c => absurd rfl c⟩
set_option maxRecDepth 100000 in
theorem lc_32 (hOK : zOK h) (hs : scr G N xs) (hi : i + 6 ≤ N) (hN : N ≤ 3072) (hb : zn h + zx h ≤ b.1 + b.2.2.1 ∧ zs h ≤ b.2.1 + b.2.2.2) (K : ∀ h', zOK h' → zn h' + zx h' = zn h + zx h → zs h' = zs h → zGo G mL_law (d + 201) b 1594 [.ref 1000003, .ref 0, .ref 132, .ref 174, .int (nI i), zU, zU] [] h' P) : zGo G mL_law (d + 201) b 1432 [.ref 1000003, .ref 0, .ref 132, .ref 174, .int (nI i), zU, zU] [] h P := by
  have bs0 := hOK.bs
  refine z_aload_n 904 rfl rfl ?_
  refine z_arg 905 1 rfl rfl rfl (by decide) rfl rfl hs rfl rfl (by omega) (by omega) ?_
  refine z_arg 910 2 rfl rfl rfl (by decide) rfl rfl hs rfl rfl (by omega) (by omega) ?_
  refine z_arg 915 3 rfl rfl rfl (by decide) rfl rfl hs rfl rfl (by omega) (by omega) ?_
  obtain ⟨K1, L1, hc, hm⟩ := pr_chance (d := d) hOK (xs (i + 1)) (xs (i + 2)) (xs (i + 3))
  refine z_callV 920 3 [.int (xs (i + 1)), .int (xs (i + 2)), .int (xs (i + 3))] (d' := d + 200) (bc := 0) (bs := 0) rfl fX9_chance gL_164 (bs0.o8) ⟨_, rfl, rfl⟩ (by decide) rfl (Nat.le_of_ble_eq_true rfl) (Nat.le_refl _) hb hc (fun r h1 q c1 c2 => ?_)
  obtain ⟨v, rfl, q⟩ := q
  obtain ⟨bs1, cm, ok⟩ := hm v h1 q
  refine z_aload_n 921 rfl rfl ?_
  refine z_arg 922 1 rfl rfl rfl (by decide) rfl rfl hs rfl rfl (by omega) (by omega) ?_
  refine z_arg 927 2 rfl rfl rfl (by decide) rfl rfl hs rfl rfl (by omega) (by omega) ?_
  refine z_arg 932 3 rfl rfl rfl (by decide) rfl rfl hs rfl rfl (by omega) (by omega) ?_
  refine z_callV 937 3 [.int (xs (i + 1)), .int (xs (i + 2)), .int (xs (i + 3))] (d' := d + 200) (bc := 0) (bs := 0) rfl fX10_chance gL_167 (bs1.o9) ⟨_, rfl, rfl⟩ (by decide) rfl (Nat.le_of_ble_eq_true rfl) (Nat.le_refl _) ⟨by omega, by omega⟩ cm (fun r h2 q2 c3 c4 => ?_)
  obtain ⟨w, rfl, ew, q2⟩ := q2
  subst ew
  exact z_icmp_eq 938 1594 rfl (by decide) ⟨fun _ => K h2 (ok h2 q2) (by omega) (by omega), fun c => absurd rfl c⟩
set_option maxRecDepth 100000 in
theorem lc_33 (hOK : zOK h) (hs : scr G N xs) (hi : i + 6 ≤ N) (hN : N ≤ 3072) (hb : zn h + zx h ≤ b.1 + b.2.2.1 ∧ zs h ≤ b.2.1 + b.2.2.2) (K : ∀ h', zOK h' → zn h' + zx h' = zn h + zx h → zs h' = zs h → zGo G mL_law (d + 201) b 1594 [.ref 1000003, .ref 0, .ref 132, .ref 174, .int (nI i), zU, zU] [] h' P) : zGo G mL_law (d + 201) b 1481 [.ref 1000003, .ref 0, .ref 132, .ref 174, .int (nI i), zU, zU] [] h P := by
  have bs0 := hOK.bs
  refine z_aload_n 941 rfl rfl ?_
  refine z_arg 942 1 rfl rfl rfl (by decide) rfl rfl hs rfl rfl (by omega) (by omega) ?_
  refine z_arg 947 2 rfl rfl rfl (by decide) rfl rfl hs rfl rfl (by omega) (by omega) ?_
  refine z_arg 952 3 rfl rfl rfl (by decide) rfl rfl hs rfl rfl (by omega) (by omega) ?_
  obtain ⟨K1, L1, hc, hm⟩ := pr_tried (d := d) hOK (xs (i + 1)) (xs (i + 2)) (xs (i + 3))
  refine z_callV 957 3 [.int (xs (i + 1)), .int (xs (i + 2)), .int (xs (i + 3))] (d' := d + 200) (bc := 0) (bs := 0) rfl fX9_tried gL_168 (bs0.o8) ⟨_, rfl, rfl⟩ (by decide) rfl (Nat.le_of_ble_eq_true rfl) (Nat.le_refl _) hb hc (fun r h1 q c1 c2 => ?_)
  obtain ⟨v, rfl, q⟩ := q
  obtain ⟨bs1, cm, ok⟩ := hm v h1 q
  refine z_aload_n 958 rfl rfl ?_
  refine z_arg 959 1 rfl rfl rfl (by decide) rfl rfl hs rfl rfl (by omega) (by omega) ?_
  refine z_arg 964 2 rfl rfl rfl (by decide) rfl rfl hs rfl rfl (by omega) (by omega) ?_
  refine z_arg 969 3 rfl rfl rfl (by decide) rfl rfl hs rfl rfl (by omega) (by omega) ?_
  refine z_callV 974 3 [.int (xs (i + 1)), .int (xs (i + 2)), .int (xs (i + 3))] (d' := d + 200) (bc := 0) (bs := 0) rfl fX10_tried gL_171 (bs1.o9) ⟨_, rfl, rfl⟩ (by decide) rfl (Nat.le_of_ble_eq_true rfl) (Nat.le_refl _) ⟨by omega, by omega⟩ cm (fun r h2 q2 c3 c4 => ?_)
  obtain ⟨w, rfl, ew, q2⟩ := q2
  subst ew
  exact z_icmp_eq 975 1594 rfl (by decide) ⟨fun _ => K h2 (ok h2 q2) (by omega) (by omega), fun c => absurd rfl c⟩
set_option maxRecDepth 100000 in
theorem lc_34 (hOK : zOK h) (hs : scr G N xs) (hi : i + 6 ≤ N) (hN : N ≤ 3072) (hb : zn h + zx h ≤ b.1 + b.2.2.1 ∧ zs h ≤ b.2.1 + b.2.2.2) (K : ∀ h', zOK h' → zn h' + zx h' = zn h + zx h → zs h' = zs h → zGo G mL_law (d + 201) b 1594 [.ref 1000003, .ref 0, .ref 132, .ref 174, .int (nI i), zU, zU] [] h' P) : zGo G mL_law (d + 201) b 1530 [.ref 1000003, .ref 0, .ref 132, .ref 174, .int (nI i), zU, zU] [] h P := by
  have bs0 := hOK.bs
  refine z_aload_n 978 rfl rfl ?_
  obtain ⟨K1, L1, hc, hm⟩ := zpx (pr_undo (d := d) hOK )
  refine z_callV 979 0 [] (d' := d + 200) (bc := 0) (bs := 0) rfl fX9_undo gL_172 (bs0.o8) ⟨_, rfl, rfl⟩ (by decide) rfl (Nat.le_of_ble_eq_true rfl) (Nat.le_refl _) hb hc (fun r h1 q c1 c2 => ?_)
  obtain ⟨v, rfl, q⟩ := q
  obtain ⟨bs1, cm, ok⟩ := hm v h1 q
  refine z_aload_n 980 rfl rfl ?_
  refine z_callV 981 0 [] (d' := d + 200) (bc := 0) (bs := 0) rfl fX10_undo gL_175 (bs1.o9) ⟨_, rfl, rfl⟩ (by decide) rfl (Nat.le_of_ble_eq_true rfl) (Nat.le_refl _) ⟨by omega, by omega⟩ cm (fun r h2 q2 c3 c4 => ?_)
  obtain ⟨w, rfl, ew, q2⟩ := q2
  subst ew
  exact z_icmp_eq 982 1594 rfl (by decide) ⟨fun _ => K h2 (ok h2 q2) (by omega) (by omega), fun c => absurd rfl c⟩
set_option maxRecDepth 100000 in
theorem lc_35 (hOK : zOK h) (hs : scr G N xs) (hi : i + 6 ≤ N) (hN : N ≤ 3072) (hb : zn h + zx h ≤ b.1 + b.2.2.1 ∧ zs h ≤ b.2.1 + b.2.2.2) (K : ∀ h', zOK h' → zn h' + zx h' = zn h + zx h → zs h' = zs h → zGo G mL_law (d + 201) b 1594 [.ref 1000003, .ref 0, .ref 132, .ref 174, .int (nI i), zU, zU] [] h' P) : zGo G mL_law (d + 201) b 1543 [.ref 1000003, .ref 0, .ref 132, .ref 174, .int (nI i), zU, zU] [] h P := by
  have bs0 := hOK.bs
  refine z_aload_n 985 rfl rfl ?_
  obtain ⟨K1, L1, hc, hm⟩ := zpx (pr_keep (d := d) hOK )
  refine z_callV 986 0 [] (d' := d + 200) (bc := 0) (bs := 0) rfl fX9_keep gL_176 (bs0.o8) ⟨_, rfl, rfl⟩ (by decide) rfl (Nat.le_of_ble_eq_true rfl) (Nat.le_refl _) hb hc (fun r h1 q c1 c2 => ?_)
  obtain ⟨v, rfl, q⟩ := q
  obtain ⟨bs1, cm, ok⟩ := hm v h1 q
  refine z_aload_n 987 rfl rfl ?_
  refine z_callV 988 0 [] (d' := d + 200) (bc := 0) (bs := 0) rfl fX10_keep gL_179 (bs1.o9) ⟨_, rfl, rfl⟩ (by decide) rfl (Nat.le_of_ble_eq_true rfl) (Nat.le_refl _) ⟨by omega, by omega⟩ cm (fun r h2 q2 c3 c4 => ?_)
  obtain ⟨w, rfl, ew, q2⟩ := q2
  subst ew
  exact z_icmp_eq 989 1594 rfl (by decide) ⟨fun _ => K h2 (ok h2 q2) (by omega) (by omega), fun c => absurd rfl c⟩
set_option maxRecDepth 100000 in
theorem lc_36 (hOK : zOK h) (hs : scr G N xs) (hi : i + 6 ≤ N) (hN : N ≤ 3072) (hb : zn h + zx h ≤ b.1 + b.2.2.1 ∧ zs h ≤ b.2.1 + b.2.2.2) (K : ∀ h', zOK h' → zn h' + zx h' = zn h + zx h → zs h' = zs h → zGo G mL_law (d + 201) b 1594 [.ref 1000003, .ref 0, .ref 132, .ref 174, .int (nI i), zU, zU] [] h' P) : zGo G mL_law (d + 201) b 1556 [.ref 1000003, .ref 0, .ref 132, .ref 174, .int (nI i), zU, zU] [] h P := by
  have bs0 := hOK.bs
  refine z_aload_n 992 rfl rfl ?_
  obtain ⟨K1, L1, hc, hm⟩ := zpx (pr_back (d := d) hOK )
  refine z_callV 993 0 [] (d' := d + 200) (bc := 0) (bs := 0) rfl fX9_back gL_180 (bs0.o8) ⟨_, rfl, rfl⟩ (by decide) rfl (Nat.le_of_ble_eq_true rfl) (Nat.le_refl _) hb hc (fun r h1 q c1 c2 => ?_)
  obtain ⟨v, rfl, q⟩ := q
  obtain ⟨bs1, cm, ok⟩ := hm v h1 q
  refine z_aload_n 994 rfl rfl ?_
  refine z_callV 995 0 [] (d' := d + 200) (bc := 0) (bs := 0) rfl fX10_back gL_183 (bs1.o9) ⟨_, rfl, rfl⟩ (by decide) rfl (Nat.le_of_ble_eq_true rfl) (Nat.le_refl _) ⟨by omega, by omega⟩ cm (fun r h2 q2 c3 c4 => ?_)
  obtain ⟨w, rfl, ew, q2⟩ := q2
  subst ew
  exact z_icmp_eq 996 1594 rfl (by decide) ⟨fun _ => K h2 (ok h2 q2) (by omega) (by omega), fun c => absurd rfl c⟩
set_option maxRecDepth 100000 in
theorem lc_37 (hOK : zOK h) (hs : scr G N xs) (hi : i + 6 ≤ N) (hN : N ≤ 3072) (hb : zn h + zx h ≤ b.1 + b.2.2.1 ∧ zs h ≤ b.2.1 + b.2.2.2) (K : ∀ h', zOK h' → zn h' + zx h' = zn h + zx h → zs h' = zs h → zGo G mL_law (d + 201) b 1594 [.ref 1000003, .ref 0, .ref 132, .ref 174, .int (nI i), zU, zU] [] h' P) : zGo G mL_law (d + 201) b 1569 [.ref 1000003, .ref 0, .ref 132, .ref 174, .int (nI i), zU, zU] [] h P := by
  have bs0 := hOK.bs
  refine z_aload_n 999 rfl rfl ?_
  refine z_arg 1000 1 rfl rfl rfl (by decide) rfl rfl hs rfl rfl (by omega) (by omega) ?_
  obtain ⟨K1, L1, hc, hm⟩ := zpx (pr_count (d := d) hOK (xs (i + 1)))
  refine z_callV 1005 1 [.int (xs (i + 1))] (d' := d + 200) (bc := 0) (bs := 0) rfl fX9_count gL_184 (bs0.o8) ⟨_, rfl, rfl⟩ (by decide) rfl (Nat.le_of_ble_eq_true rfl) (Nat.le_refl _) hb hc (fun r h1 q c1 c2 => ?_)
  obtain ⟨v, rfl, q⟩ := q
  obtain ⟨bs1, cm, ok⟩ := hm v h1 q
  refine z_aload_n 1006 rfl rfl ?_
  refine z_arg 1007 1 rfl rfl rfl (by decide) rfl rfl hs rfl rfl (by omega) (by omega) ?_
  refine z_callV 1012 1 [.int (xs (i + 1))] (d' := d + 200) (bc := 0) (bs := 0) rfl fX10_count gL_187 (bs1.o9) ⟨_, rfl, rfl⟩ (by decide) rfl (Nat.le_of_ble_eq_true rfl) (Nat.le_refl _) ⟨by omega, by omega⟩ cm (fun r h2 q2 c3 c4 => ?_)
  obtain ⟨w, rfl, ew, q2⟩ := q2
  subst ew
  exact z_icmp_eq 1013 1594 rfl (by decide) ⟨fun _ => K h2 (ok h2 q2) (by omega) (by omega), fun c => absurd rfl c⟩
end LC
