section LL
variable {G : zG} {d N i : Nat} {b : zB} {h : zMem} {xs : Nat → Int32}
set_option maxRecDepth 100000 in
theorem lw_sw {P : Option Value → zMem → Prop} (hK : gK G) (hMk : lmK G) (hOK : zOK h) (hs : scr G N xs) (hi : i + 6 ≤ N) (hN : N ≤ 3072) (hb : zn h + zx h + 1 ≤ b.1 + b.2.2.1 ∧ zs h + 6 ≤ b.2.1 + b.2.2.2) (K : ∀ h', zOK h' → zn h' + zx h' ≤ zn h + zx h + 1 → zs h' ≤ zs h + 6 → b.1 ≤ zn h' + zx h' ∨ True → zGo G mL_law (d + 201) b 1594 [.ref 1000003, .ref 0, .ref 132, .ref 174, .int (nI i), zU, zU] [] h' P) : zGo G mL_law (d + 201) b 33 [.ref 1000003, .ref 0, .ref 132, .ref 174, .int (nI i), zU, zU] [] h P := by
  refine z_aload_n 19 rfl rfl ?_
  refine z_iload 20 rfl rfl ?_
  refine z_tiX 21 rfl hs (zin_n (by omega) (by omega)) ?_
  rw [zcla (show i < 2 ^ 31 by omega)]
  refine z_bipush (v := 63) 22 rfl (by decide) ?_
  refine z_iand 23 rfl ?_
  obtain ⟨j, hj, ej⟩ := pk_andE (xs i) (m := 63) 6 (by decide)
  rw [ej]
  have hb' : zn h + zx h ≤ b.1 + b.2.2.1 ∧ zs h ≤ b.2.1 + b.2.2.2 := ⟨by omega, by omega⟩
  have K' : ∀ h', zOK h' → zn h' + zx h' = zn h + zx h → zs h' = zs h → zGo G mL_law (d + 201) b 1594 [.ref 1000003, .ref 0, .ref 132, .ref 174, .int (nI i), zU, zU] [] h' P := fun h' o c1 c2 => K h' o (by omega) (by omega) (Or.inr trivial)
  by_cases c38 : j < 38
  · have cs : j = 0 ∨ j = 1 ∨ j = 2 ∨ j = 3 ∨ j = 4 ∨ j = 5 ∨ j = 6 ∨ j = 7 ∨ j = 8 ∨ j = 9 ∨ j = 10 ∨ j = 11 ∨ j = 12 ∨ j = 13 ∨ j = 14 ∨ j = 15 ∨ j = 16 ∨ j = 17 ∨ j = 18 ∨ j = 19 ∨ j = 20 ∨ j = 21 ∨ j = 22 ∨ j = 23 ∨ j = 24 ∨ j = 25 ∨ j = 26 ∨ j = 27 ∨ j = 28 ∨ j = 29 ∨ j = 30 ∨ j = 31 ∨ j = 32 ∨ j = 33 ∨ j = 34 ∨ j = 35 ∨ j = 36 ∨ j = 37 := by omega
    rcases cs with rfl | rfl | rfl | rfl | rfl | rfl | rfl | rfl | rfl | rfl | rfl | rfl | rfl | rfl | rfl | rfl | rfl | rfl | rfl | rfl | rfl | rfl | rfl | rfl | rfl | rfl | rfl | rfl | rfl | rfl | rfl | rfl | rfl | rfl | rfl | rfl | rfl | rfl
    · exact z_tableIn 24 208 rfl 0 (by decide) (by decide) (by decide) rfl (by decide) (lc_0 hOK hs hi hN hb' K')
    · exact z_tableIn 24 281 rfl 1 (by decide) (by decide) (by decide) rfl (by decide) (lc_1 hK hOK hs hi hN hb' K')
    · exact z_tableIn 24 306 rfl 2 (by decide) (by decide) (by decide) rfl (by decide) (lc_2 hOK hs hi hN hb' K')
    · exact z_tableIn 24 331 rfl 3 (by decide) (by decide) (by decide) rfl (by decide) (lc_3 hOK hs hi hN hb' K')
    · exact z_tableIn 24 368 rfl 4 (by decide) (by decide) (by decide) rfl (by decide) (lc_4 hMk hOK hs hi hN hb (fun h' o c1 c2 => K h' o (by omega) (by omega) (Or.inr trivial)))
    · exact z_tableIn 24 436 rfl 5 (by decide) (by decide) (by decide) rfl (by decide) (lc_5 hOK hs hi hN hb' K')
    · exact z_tableIn 24 473 rfl 6 (by decide) (by decide) (by decide) rfl (by decide) (lc_6 hOK hs hi hN hb' K')
    · exact z_tableIn 24 510 rfl 7 (by decide) (by decide) (by decide) rfl (by decide) (lc_7 hOK hs hi hN hb' K')
    · exact z_tableIn 24 535 rfl 8 (by decide) (by decide) (by decide) rfl (by decide) (lc_8 hOK hs hi hN hb' K')
    · exact z_tableIn 24 572 rfl 9 (by decide) (by decide) (by decide) rfl (by decide) (lc_9 hOK hs hi hN hb' K')
    · exact z_tableIn 24 609 rfl 10 (by decide) (by decide) (by decide) rfl (by decide) (lc_10 hOK hs hi hN hb' K')
    · exact z_tableIn 24 659 rfl 11 (by decide) (by decide) (by decide) rfl (by decide) (lc_11 hOK hs hi hN hb' K')
    · exact z_tableIn 24 724 rfl 12 (by decide) (by decide) (by decide) rfl (by decide) (lc_12 hOK hs hi hN hb' K')
    · exact z_tableIn 24 761 rfl 13 (by decide) (by decide) (by decide) rfl (by decide) (lc_13 hOK hs hi hN hb' K')
    · exact z_tableIn 24 798 rfl 14 (by decide) (by decide) (by decide) rfl (by decide) (lc_14 hOK hs hi hN hb' K')
    · exact z_tableIn 24 835 rfl 15 (by decide) (by decide) (by decide) rfl (by decide) (lc_15 hOK hs hi hN hb' K')
    · exact z_tableIn 24 860 rfl 16 (by decide) (by decide) (by decide) rfl (by decide) (lc_16 hOK hs hi hN hb' K')
    · exact z_tableIn 24 885 rfl 17 (by decide) (by decide) (by decide) rfl (by decide) (lc_17 hOK hs hi hN hb' K')
    · exact z_tableIn 24 922 rfl 18 (by decide) (by decide) (by decide) rfl (by decide) (lc_18 hOK hs hi hN hb' K')
    · exact z_tableIn 24 983 rfl 19 (by decide) (by decide) (by decide) rfl (by decide) (lc_19 hOK hs hi hN hb' K')
    · exact z_tableIn 24 1020 rfl 20 (by decide) (by decide) (by decide) rfl (by decide) (lc_20 hOK hs hi hN hb' K')
    · exact z_tableIn 24 1045 rfl 21 (by decide) (by decide) (by decide) rfl (by decide) (lc_21 hOK hs hi hN hb' K')
    · exact z_tableIn 24 1082 rfl 22 (by decide) (by decide) (by decide) rfl (by decide) (lc_22 hOK hs hi hN hb' K')
    · exact z_tableIn 24 1107 rfl 23 (by decide) (by decide) (by decide) rfl (by decide) (lc_23 hOK hs hi hN hb' K')
    · exact z_tableIn 24 1144 rfl 24 (by decide) (by decide) (by decide) rfl (by decide) (lc_24 hOK hs hi hN hb' K')
    · exact z_tableIn 24 1193 rfl 25 (by decide) (by decide) (by decide) rfl (by decide) (lc_25 hOK hs hi hN hb' K')
    · exact z_tableIn 24 1218 rfl 26 (by decide) (by decide) (by decide) rfl (by decide) (lc_26 hOK hs hi hN hb' K')
    · exact z_tableIn 24 1243 rfl 27 (by decide) (by decide) (by decide) rfl (by decide) (lc_27 hOK hs hi hN hb' K')
    · exact z_tableIn 24 1280 rfl 28 (by decide) (by decide) (by decide) rfl (by decide) (lc_28 hOK hs hi hN hb' K')
    · exact z_tableIn 24 1357 rfl 29 (by decide) (by decide) (by decide) rfl (by decide) (lc_29 hOK hs hi hN hb' K')
    · exact z_tableIn 24 1382 rfl 30 (by decide) (by decide) (by decide) rfl (by decide) (lc_30 hOK hs hi hN hb' K')
    · exact z_tableIn 24 1407 rfl 31 (by decide) (by decide) (by decide) rfl (by decide) (lc_31 hOK hs hi hN hb' K')
    · exact z_tableIn 24 1432 rfl 32 (by decide) (by decide) (by decide) rfl (by decide) (lc_32 hOK hs hi hN hb' K')
    · exact z_tableIn 24 1481 rfl 33 (by decide) (by decide) (by decide) rfl (by decide) (lc_33 hOK hs hi hN hb' K')
    · exact z_tableIn 24 1530 rfl 34 (by decide) (by decide) (by decide) rfl (by decide) (lc_34 hOK hs hi hN hb' K')
    · exact z_tableIn 24 1543 rfl 35 (by decide) (by decide) (by decide) rfl (by decide) (lc_35 hOK hs hi hN hb' K')
    · exact z_tableIn 24 1556 rfl 36 (by decide) (by decide) (by decide) rfl (by decide) (lc_36 hOK hs hi hN hb' K')
    · exact z_tableIn 24 1569 rfl 37 (by decide) (by decide) (by decide) rfl (by decide) (lc_37 hOK hs hi hN hb' K')
  · exact z_tableOut 24 1594 rfl (by decide) (Or.inr (by rw [nI_toInt (by omega)]; omega)) (K' h hOK rfl rfl)
set_option maxRecDepth 100000 in
theorem lw_end {Q : Int32 → zMem → Prop} (hc : zn h + zx h < b.1 + b.2.2.1 ∧ zs h ≤ b.2.1 + b.2.2.2) (hq : ∀ h', Q 1 h') {lv : List Value} : zGo G mL_law (d + 201) b 1600 lv [] h (zPI Q) := by
  refine z_iconst (v := 1) 1018 rfl (by decide) ?_
  refine z_bump (b.1 + b.2.2.1 - (zn h + zx h)) (b.2.1 + b.2.2.2 - zs h) (by omega) ?_
  refine z_iret 1019 rfl rfl rfl ⟨?_, ?_⟩ ⟨_, rfl, hq _⟩
  · show zn h + (zx h + (b.1 + b.2.2.1 - (zn h + zx h))) = b.1 + b.2.2.1; omega
  · show zs h + (b.2.1 + b.2.2.2 - zs h) = b.2.1 + b.2.2.2; omega
set_option maxRecDepth 100000 in
theorem lw_loop {Q : Int32 → zMem → Prop} (hK : gK G) (hMk : lmK G) (hs : scr G N xs) (hN : N ≤ 3072) (hbb : 10000 ≤ b.1 + b.2.2.1 ∧ 50000 ≤ b.2.1 + b.2.2.2) (hq : ∀ h', Q 1 h') : ∀ m i (h : zMem), N - i = m → i ≤ N → zOK h → zn h + zx h ≤ 200 + i → zs h ≤ 10000 + 6 * i → zGo G mL_law (d + 201) b 23 [.ref 1000003, .ref 0, .ref 132, .ref 174, .int (nI i), zU, zU] [] h (zPI Q) := by
  intro m
  induction m using Nat.strongRecOn with
  | _ m ih =>
    intro i h hm hi hOK c1 c2
    refine z_iload 13 rfl rfl ?_
    refine z_aload_n 14 rfl rfl ?_
    refine z_tlenX 15 rfl hs ?_
    refine z_bipush (v := 6) 16 rfl (by decide) ?_
    refine z_isub 17 rfl ?_
    by_cases c6 : i + 6 ≤ N
    · have e6 : nI N - 6 = nI (N - 6) := by
        have : nI N = nI (N - 6) + 6 := by
          show nI N = nI (N - 6) + nI 6
          rw [nI_add, Nat.sub_add_cancel (by omega)]
        rw [this, Int32.add_sub_cancel]
      rw [e6]
      refine z_icmp_gt 18 1600 rfl (by decide) ⟨fun c => absurd c (nI_nlt (by omega) (by omega)), fun _ => ?_⟩
      refine lw_sw hK hMk hOK hs c6 hN ⟨by omega, by omega⟩ (fun h' o d1 d2 _ => ?_)
      refine z_iinc (v := 6) 1016 rfl rfl (by decide) (by decide) rfl ?_
      refine z_goto 1017 23 rfl (by decide) ?_
      have e : nI i + 6 = nI (i + 6) := nI_add i 6
      rw [e]
      exact ih (N - (i + 6)) (by omega) (i + 6) h' rfl c6 o (by omega) (by omega)
    · refine z_icmp_gt 18 1600 rfl (by decide) ⟨fun _ => lw_end ⟨by omega, by omega⟩ hq, fun c => absurd ?_ c⟩
      rw [Int32.lt_iff_toInt_lt]
      by_cases n6 : 6 ≤ N
      · have e6 : nI N - 6 = nI (N - 6) := by
          have : nI N = nI (N - 6) + 6 := by
            show nI N = nI (N - 6) + nI 6
            rw [nI_add, Nat.sub_add_cancel (by omega)]
          rw [this, Int32.add_sub_cancel]
        rw [e6, nI_toInt (by omega), nI_toInt (by omega)]
        omega
      · rw [nI_toInt (show i < 2 ^ 31 by omega)]
        have ng : (nI N - 6).toInt < 0 := by
          rcases (show N = 0 ∨ N = 1 ∨ N = 2 ∨ N = 3 ∨ N = 4 ∨ N = 5 by omega) with rfl | rfl | rfl | rfl | rfl | rfl <;> decide
        omega
end LL
