/-! what holds at the law's entry -/
section FA
variable {s : State} {b L : Nat} {xs : Nat → Int32}
def tmM : Term := .static "SmellAbbey$Reader" "MOST" "[I"
def tmW : Term := .string "SmellAbbeyModel" 203
set_option maxRecDepth 100000 in
theorem mst_in : ∀ j, j < 4 → Cond.eq (.elem tmM (.int (Int32.ofNat j))) (.int (mst j)) ∈ flatC (Jvm.Cond.and given_1 narrow_1) := by decide +kernel
set_option maxRecDepth 100000 in
theorem wch_l : ((flatC (Jvm.Cond.and given_1 narrow_1)).drop 191).take 108 = (List.range 108).map fun j => Cond.eq (.elem (.field tmW "java/lang/String" "value" "[B") (.int (Int32.ofNat j))) (.int (wchL.getD j 0)) := by decide +kernel
theorem wch_in (j : Nat) (hj : j < 108) : Cond.eq (.elem (.field tmW "java/lang/String" "value" "[B") (.int (Int32.ofNat j))) (.int (wchL.getD j 0)) ∈ flatC (Jvm.Cond.and given_1 narrow_1) := List.mem_of_mem_drop (List.mem_of_mem_take (by rw [wch_l]; exact List.mem_map.mpr ⟨j, List.mem_range.mpr hj, rfl⟩))
set_option maxRecDepth 100000 in
theorem w_start (hts : ∀ w ∈ lw_tbl, w.before #[Value.ref b] s = true) (hgv : (Jvm.Cond.and given_1 narrow_1).before #[Value.ref b] s = true) (hX : va_X b L xs s s.heap) (hbl : b < s.heap.size) : ∃ X : Nat → Nat, X 3 = b ∧ gEd X s.heap b L xs s := by
  have hs := flat_of_before _ hgv
  have hA : ∀ a : Nat, a < s.heap.size → ¬ (fun q => s.heap.size ≤ q) a := fun a h => Nat.not_le.mpr h
  obtain ⟨t0, e0, T0⟩ := va_Tof (tm := tmM) (ty := .int) (N := 4) (f := fun j => .int (mst j)) (A := fun q => s.heap.size ≤ q) (by decide) (hs _ (by decide +kernel)) (va_eqt (hs _ (by decide +kernel))) (fun j hj => va_eqt (hs _ (mst_in j hj))) hA
  have Z0 : va_Z "SmellAbbey$Reader" "MOST" "[I" (.ref t0) (fun q => s.heap.size ≤ q) s s.heap := va_Zof (hts _ (by decide +kernel)) (hts _ (by decide +kernel)) e0 hA
  obtain ⟨adK, adV, ⟨S1, -⟩, eK⟩ := vk_Sof (args := #[Value.ref b]) (s := s) (N := 1) (tm := fun _ => tmW) (len := [108]) (byt := [wchL]) (A := fun q => s.heap.size ≤ q) (fun i hi => by
      have : i = 0 := by omega
      subst this
      decide) (fun _ _ => hs _ (by decide +kernel)) (fun _ _ => hs _ (by decide +kernel)) (fun _ _ => hs _ (by decide +kernel)) (fun i hi => by
      have : i = 0 := by omega
      subst this
      exact hs _ (by decide +kernel)) (fun i hi j hj => by
      have : i = 0 := by omega
      subst this
      exact hs _ (wch_in j hj)) (fun i j hi hj hne => absurd (show i = j by omega) hne) hA
  obtain ⟨O1, F1, F2, T1⟩ := S1 0 (by decide)
  have e1 := eK 0 (by decide)
  have e2 : (Term.string "SmellAbbey$Scanner" 19).eval #[Value.ref b] s none [] s = some (.ref (adK 0)) := va_eqv (hs (.eq (.string "SmellAbbey$Scanner" 19) tmW) (by decide +kernel)) e1
  have ZC : va_Z "java/lang/String" "COMPACT_STRINGS" "Z" (.int 1) (fun q => s.heap.size ≤ q) s s.heap := va_Zof (hts _ (by decide +kernel)) (hts _ (by decide +kernel)) (va_eqt (hs _ (by decide +kernel))) hA
  obtain ⟨x4, Z4⟩ : ∃ x4 : Nat, va_Z "jdk/internal/util/Preconditions" "SIOOBE_FORMATTER" "Ljava/util/function/BiFunction;" .null (fun q => s.heap.size ≤ q) s s.heap ∨ va_Z "jdk/internal/util/Preconditions" "SIOOBE_FORMATTER" "Ljava/util/function/BiFunction;" (.ref x4) (fun q => s.heap.size ≤ q) s s.heap := by
    rcases (vx_Zqof (A := fun q => s.heap.size ≤ q) (hts (.laysStatic "jdk/internal/util/Preconditions" "SIOOBE_FORMATTER" "Ljava/util/function/BiFunction;") (by decide +kernel)) (hts _ (by decide +kernel)) (hs _ (by decide +kernel)) hA).1 with q | ⟨t, q⟩
    · exact ⟨0, Or.inl q⟩
    · exact ⟨t, Or.inr q⟩
  obtain ⟨a5, -, -, -, e5, -⟩ := Cond.exactly_spec (args := #[Value.ref b]) (first := s) (o := none) (s := s) (idx := []) (t := .string "SmellAbbey" 123) (cls := "java/lang/String") (hs _ (by decide +kernel))
  obtain ⟨a6, -, -, -, e6, -⟩ := Cond.exactly_spec (args := #[Value.ref b]) (first := s) (o := none) (s := s) (idx := []) (t := .string "SmellAbbey" 145) (cls := "java/lang/String") (hs _ (by decide +kernel))
  refine ⟨fun k => match k with
    | 0 => t0
    | 1 => adK 0
    | 2 => adV 0
    | 3 => b
    | 4 => x4
    | 5 => a5
    | _ => a6, rfl, ⟨Z0, T0, vk_R.of (hts _ (by decide +kernel)) e1, vk_R.of (hts _ (by decide +kernel)) e2, O1, F1, F2, T1, ZC, Z4⟩, ⟨vk_R.of (hts _ (by decide +kernel)) e5, vk_R.of (hts _ (by decide +kernel)) e6, vx_Zqof (hts _ (by decide +kernel)) (hts _ (by decide +kernel)) (hs _ (by decide +kernel)) hA, vx_Zqof (hts _ (by decide +kernel)) (hts _ (by decide +kernel)) (hs _ (by decide +kernel)) hA, fun w hw => va_Nw.of (ngL_ot w hw) (hts w (ngL_in w hw)), va_Nc.of (hs _ (by decide +kernel))⟩, over_moved (Vm.Alike.refl _) (hts (.arrayOver (.array .int)) (by decide +kernel)), fun q hq => va_Nw.of rfl (hts _ (nsQ_in q hq)), ?_⟩
  obtain ⟨scr, h1, h2, h3, h4, h5⟩ := hX
  exact ⟨scr, h1, h2, h3, by omega, by rw [h4], h5, Nat.not_le.mpr hbl⟩
end FA
