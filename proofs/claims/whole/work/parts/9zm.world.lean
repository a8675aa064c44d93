/-! the world of the claim -/
def nsQ : List (String × Nat × MethodName) := [("SmellAbbey", 15, mX3_init.1), ("SmellAbbey$Reader", 27, mX7_init.1), ("SmellAbbey$Told", 41, mX0_init.1), ("SmellAbbey", 22, mX1_init.1), ("SmellAbbey", 29, mX8_init.1), ("SmellAbbey", 36, mX5_init.1), ("SmellAbbey", 49, mX2_init.1), ("SmellAbbey", 66, mX7_init.1)]
def gEd (X : Nat → Nat) (H : Heap) (b L : Nat) (xs : Nat → Int32) (U : State) : Prop :=
  gZ X H U ∧ gZ2 X H U ∧ (Cond.arrayOver (.array .int)).before #[] U = true ∧ (∀ q ∈ nsQ, va_Nw (.methodLinkNest q.1 q.2.1 q.2.2 "SmellAbbey") U) ∧ va_T .int b L (fun j => .int (xs j)) (fun q => H.size ≤ q) U H
theorem gEd_warm {X : Nat → Nat} {H : Heap} {b L : Nat} {xs : Nat → Int32} {s V : State} (hW : s.WarmedH V.vm) (h : gEd X H b L xs s) : gEd X H b L xs V := by
  obtain ⟨⟨z1, z2, z3, z4, z5, z6, z7, z8, z9, z10⟩, ⟨y1, y2, y3, y4, y5, y6⟩, ho, hn, ht⟩ := h
  have ha := hW.alike
  refine ⟨⟨va_Z.moved ha z1, va_T.moved ha z2, vk_R.warm hW z3, vk_R.warm hW z4, va_O.moved ha z5, va_OF.moved ha z6, va_OF.moved ha z7, va_T.moved ha z8, va_Z.moved ha z9, z10.elim (fun q => Or.inl (va_Z.moved ha q)) (fun q => Or.inr (va_Z.moved ha q))⟩, ⟨vk_R.warm hW y1, vk_R.warm hW y2, vx_Zq.moved ha y3, vx_Zq.moved ha y4, ?_, va_Nc.moved ha y6⟩, over_moved ha ho, fun q hq => va_Nw.warmM hW (hn q hq), va_T.moved ha ht⟩
  intro w hw
  have hw' := hw
  simp only [ngL, List.mem_cons, List.not_mem_nil, or_false] at hw'
  rcases hw' with rfl | rfl | rfl | rfl | rfl | rfl | rfl | rfl | rfl
  · exact va_Nw.warmC hW (y5 _ hw)
  · exact va_Nw.warmC hW (y5 _ hw)
  · exact va_Nw.warmD hW (y5 _ hw)
  · exact va_Nw.warmD hW (y5 _ hw)
  · exact va_Nw.warmD hW (y5 _ hw)
  · exact va_Nw.warmD hW (y5 _ hw)
  · exact va_Nw.warmD hW (y5 _ hw)
  · exact va_Nw.warmD hW (y5 _ hw)
  · exact Cond.privateMethod_warm hW (y5 _ hw)
theorem gEd_moved {X : Nat → Nat} {H : Heap} {b L : Nat} {xs : Nat → Int32} (s V : State) (hW : s.WarmedH V.vm ∨ s.vm = V.vm) (h : gEd X H b L xs s) : gEd X H b L xs V := by
  rcases hW with hW | hv
  · exact gEd_warm hW h
  · have hW := State.WarmedH.refl s
    rw [hv] at hW
    exact gEd_warm hW h
set_option maxRecDepth 100000 in
theorem ngL_in : ∀ w ∈ ngL, w ∈ lw_tbl := by decide +kernel
set_option maxRecDepth 100000 in
theorem nsQ_in : ∀ q ∈ nsQ, Cond.methodLinkNest q.1 q.2.1 q.2.2 "SmellAbbey" ∈ lw_tbl := by decide +kernel
theorem w_arr {s : State} {args : Array Value} {ty : FieldType} (hp : ∀ C, ty ≠ .object C) (h : (Cond.arrayClass ty).before args s = true) : ∃ cA : ClassId, ArrOfT s cA ty ∧ va_RA s cA ty := by
  obtain ⟨c, k, comp, h1, h2, h3⟩ := Cond.arrayClass_spec h
  refine ⟨c, fun n z => ⟨fun k h => (by cases h), k, h2, comp, h3⟩, ?_⟩
  cases ty with
  | object C => exact absurd rfl (hp C)
  | _ => exact h1
theorem w_over {s : State} {args : Array Value} (h : (Cond.arrayOver (.array .int)).before args s = true) : ∃ cA : ClassId, ArrOfT s cA (.array .int) ∧ va_RA s cA (.array .int) := by
  obtain ⟨comp, c, k, h1, h2, h3, h4⟩ := Cond.arrayOver_specA h
  exact ⟨c, fun n z => ⟨fun k h => (by cases h), k, h2, comp, h3⟩, h4⟩
