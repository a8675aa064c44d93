/-! Math.max, min, abs: calls that are rows -/
section ZM
variable {G : zG} {μ : zM} {d : Nat} {b : zB} {pc : Nat} {lv st : List Value} {h : zMem} {P : Option Value → zMem → Prop}
theorem zw_mmax : Cond.static Lib.Math.max.name ∈ ztb ∧ Cond.initialized "java/lang/Math" ∈ ztb ∧ Cond.code Lib.Math.max.name Lib.Math.max.code 2 (some .int) ∈ ztb := ⟨ztb_t (zt4 _ (List.mem_of_getElem? (i := 98) rfl)) rfl, ztb_t (zt1 _ (List.mem_of_getElem? (i := 15) rfl)) rfl, ztb_t (zt4 _ (List.mem_of_getElem? (i := 99) rfl)) rfl⟩
theorem zw_mmin : Cond.static Lib.Math.min.name ∈ ztb ∧ Cond.initialized "java/lang/Math" ∈ ztb ∧ Cond.code Lib.Math.min.name Lib.Math.min.code 2 (some .int) ∈ ztb := ⟨ztb_t (zt3 _ (List.mem_of_getElem? (i := 1) rfl)) rfl, ztb_t (zt1 _ (List.mem_of_getElem? (i := 15) rfl)) rfl, ztb_t (zt3 _ (List.mem_of_getElem? (i := 2) rfl)) rfl⟩
theorem zw_lmax : Cond.static Lib.MathLoose.max_long.x ∈ ztb ∧ Cond.initialized "java/lang/Math" ∈ ztb ∧ Cond.code Lib.MathLoose.max_long.x Lib.MathLoose.max_long.code 4 (some .long) ∈ ztb := ⟨ztb_t (zt3 _ (List.mem_of_getElem? (i := 207) rfl)) rfl, ztb_t (zt1 _ (List.mem_of_getElem? (i := 15) rfl)) rfl, ztb_t (zt3 _ (List.mem_of_getElem? (i := 208) rfl)) rfl⟩
theorem zw_lmin : Cond.static Lib.MathLoose.min_long.x ∈ ztb ∧ Cond.initialized "java/lang/Math" ∈ ztb ∧ Cond.code Lib.MathLoose.min_long.x Lib.MathLoose.min_long.code 4 (some .long) ∈ ztb := ⟨ztb_t (zt3 _ (List.mem_of_getElem? (i := 204) rfl)) rfl, ztb_t (zt1 _ (List.mem_of_getElem? (i := 15) rfl)) rfl, ztb_t (zt3 _ (List.mem_of_getElem? (i := 205) rfl)) rfl⟩
theorem zw_labs : Cond.static Lib.MathLoose.abs_long.x ∈ ztb ∧ Cond.initialized "java/lang/Math" ∈ ztb ∧ Cond.code Lib.MathLoose.abs_long.x Lib.MathLoose.abs_long.code 2 (some .long) ∈ ztb := ⟨ztb_t (zt7 _ (List.mem_of_getElem? (i := 60) rfl)) rfl, ztb_t (zt1 _ (List.mem_of_getElem? (i := 15) rfl)) rfl, ztb_t (zt7 _ (List.mem_of_getElem? (i := 61) rfl)) rfl⟩
theorem z_mmax (i : Nat) {index : Nat} {x y : Int32} (hi : μ.2.2.2.2[i]? = some (pc, .invokestatic index, 3)) (hb : b = (zn h + zx h, zs h, 0, 0)) (hlk : Cond.methodLink μ.1.cls index Lib.Math.max.name ∈ ztb) (hw : (st.map fun v => v.category).sum ≤ 8) (k : zg G μ (d + 1) (pc + 3) lv (.int (if x < y then y else x) :: st) h P) : zGo G μ (d + 1) b pc lv (.int y :: .int x :: st) h P := by
  subst hb
  intro p l e R s m args below meth c C H locs ls hR hl h1 h2
  have hts := C.2.2.2.2.2.2.1
  have hrm := C.2.2.2.2.2.2.2.2.2.2
  have hcs : zn h + zx h - (zn h + zx h, zs h, 0, 0).1 ≤ R.cells ∧ zs h - (zn h + zx h, zs h, 0, 0).2.1 ≤ R.slots := by
    rw [Nat.sub_self, Nat.sub_self]
    exact ⟨Nat.zero_le _, Nat.zero_le _⟩
  exact va_mmax C.1 C.2.1 (C.2.2.1.trans hl.1.symm) C.2.2.2.2.2.1 (hts _ hlk) (hts _ zw_mmax.1) (hts _ zw_mmax.2.1) (hts _ zw_mmax.2.2) (by rw [hrm]; show 1 ≤ d + 1; omega) (by rw [hrm, zsum_cat]; show _ + 13 ≤ 64 * (d + 1); omega) hcs.1 hcs.2 (zdg C hi) (k p l e R s m args below meth c C H locs ls hR hl h1 h2)
theorem z_mmin (i : Nat) {index : Nat} {x y : Int32} (hi : μ.2.2.2.2[i]? = some (pc, .invokestatic index, 3)) (hb : b = (zn h + zx h, zs h, 0, 0)) (hlk : Cond.methodLink μ.1.cls index Lib.Math.min.name ∈ ztb) (hw : (st.map fun v => v.category).sum ≤ 8) (k : zg G μ (d + 1) (pc + 3) lv (.int (if y < x then y else x) :: st) h P) : zGo G μ (d + 1) b pc lv (.int y :: .int x :: st) h P := by
  subst hb
  intro p l e R s m args below meth c C H locs ls hR hl h1 h2
  have hts := C.2.2.2.2.2.2.1
  have hrm := C.2.2.2.2.2.2.2.2.2.2
  have hcs : zn h + zx h - (zn h + zx h, zs h, 0, 0).1 ≤ R.cells ∧ zs h - (zn h + zx h, zs h, 0, 0).2.1 ≤ R.slots := by
    rw [Nat.sub_self, Nat.sub_self]
    exact ⟨Nat.zero_le _, Nat.zero_le _⟩
  exact va_mmin C.1 C.2.1 (C.2.2.1.trans hl.1.symm) C.2.2.2.2.2.1 (hts _ hlk) (hts _ zw_mmin.1) (hts _ zw_mmin.2.1) (hts _ zw_mmin.2.2) (by rw [hrm]; show 1 ≤ d + 1; omega) (by rw [hrm, zsum_cat]; show _ + 13 ≤ 64 * (d + 1); omega) hcs.1 hcs.2 (zdg C hi) (k p l e R s m args below meth c C H locs ls hR hl h1 h2)
theorem z_lmax (i : Nat) {index : Nat} {x y : Int64} (hi : μ.2.2.2.2[i]? = some (pc, .invokestatic index, 3)) (hb : b = (zn h + zx h, zs h, 0, 0)) (hlk : Cond.methodLink μ.1.cls index Lib.MathLoose.max_long.x ∈ ztb) (hw : (st.map fun v => v.category).sum ≤ 8) (k : zg G μ (d + 1) (pc + 3) lv (.long (if y < x then x else y) :: st) h P) : zGo G μ (d + 1) b pc lv (.long y :: .long x :: st) h P := by
  subst hb
  intro p l e R s m args below meth c C H locs ls hR hl h1 h2
  have hts := C.2.2.2.2.2.2.1
  have hrm := C.2.2.2.2.2.2.2.2.2.2
  have hcs : zn h + zx h - (zn h + zx h, zs h, 0, 0).1 ≤ R.cells ∧ zs h - (zn h + zx h, zs h, 0, 0).2.1 ≤ R.slots := by
    rw [Nat.sub_self, Nat.sub_self]
    exact ⟨Nat.zero_le _, Nat.zero_le _⟩
  intro T hT X
  obtain ⟨vm', X', st1⟩ := X.mathMaxLH C.1 C.2.2.2.2.2.1 (hts _ hlk) (hts _ zw_lmax.1) (hts _ zw_lmax.2.1) (hts _ zw_lmax.2.2) (g := F0 m pc ls (.long y :: .long x :: st.map (zrv G))) rfl (hl.1.trans C.2.2.1.symm) (a := x) (b := y) (rest := st.map (zrv G)) rfl (by rw [C.2.1]; exact zdg C hi) (by rw [hrm]; show 1 ≤ d + 1; omega) (by rw [hrm, zsum_cat]; show 2 * 0 + _ + 15 ≤ 64 * (d + 1); omega) hcs.1 hcs.2
  obtain ⟨t, a1, b1⟩ := k p l e R s m args below meth c C H locs ls hR hl h1 h2 (T.setVm vm') hT X'
  exact ⟨t, st1 t a1, b1⟩
theorem z_lmin (i : Nat) {index : Nat} {x y : Int64} (hi : μ.2.2.2.2[i]? = some (pc, .invokestatic index, 3)) (hb : b = (zn h + zx h, zs h, 0, 0)) (hlk : Cond.methodLink μ.1.cls index Lib.MathLoose.min_long.x ∈ ztb) (hw : (st.map fun v => v.category).sum ≤ 8) (k : zg G μ (d + 1) (pc + 3) lv (.long (if y < x then y else x) :: st) h P) : zGo G μ (d + 1) b pc lv (.long y :: .long x :: st) h P := by
  subst hb
  intro p l e R s m args below meth c C H locs ls hR hl h1 h2
  have hts := C.2.2.2.2.2.2.1
  have hrm := C.2.2.2.2.2.2.2.2.2.2
  have hcs : zn h + zx h - (zn h + zx h, zs h, 0, 0).1 ≤ R.cells ∧ zs h - (zn h + zx h, zs h, 0, 0).2.1 ≤ R.slots := by
    rw [Nat.sub_self, Nat.sub_self]
    exact ⟨Nat.zero_le _, Nat.zero_le _⟩
  intro T hT X
  obtain ⟨vm', X', st1⟩ := X.mathMinLH C.1 C.2.2.2.2.2.1 (hts _ hlk) (hts _ zw_lmin.1) (hts _ zw_lmin.2.1) (hts _ zw_lmin.2.2) (g := F0 m pc ls (.long y :: .long x :: st.map (zrv G))) rfl (hl.1.trans C.2.2.1.symm) (a := x) (b := y) (rest := st.map (zrv G)) rfl (by rw [C.2.1]; exact zdg C hi) (by rw [hrm]; show 1 ≤ d + 1; omega) (by rw [hrm, zsum_cat]; show 2 * 0 + _ + 15 ≤ 64 * (d + 1); omega) hcs.1 hcs.2
  obtain ⟨t, a1, b1⟩ := k p l e R s m args below meth c C H locs ls hR hl h1 h2 (T.setVm vm') hT X'
  exact ⟨t, st1 t a1, b1⟩
theorem z_labs (i : Nat) {index : Nat} {x : Int64} (hi : μ.2.2.2.2[i]? = some (pc, .invokestatic index, 3)) (hb : b = (zn h + zx h, zs h, 0, 0)) (hlk : Cond.methodLink μ.1.cls index Lib.MathLoose.abs_long.x ∈ ztb) (hw : (st.map fun v => v.category).sum ≤ 8) (k : zg G μ (d + 1) (pc + 3) lv (.long (if 0 < x then x else if x = 0 then x else -x) :: st) h P) : zGo G μ (d + 1) b pc lv (.long x :: st) h P := by
  subst hb
  intro p l e R s m args below meth c C H locs ls hR hl h1 h2
  have hts := C.2.2.2.2.2.2.1
  have hrm := C.2.2.2.2.2.2.2.2.2.2
  have hcs : zn h + zx h - (zn h + zx h, zs h, 0, 0).1 ≤ R.cells ∧ zs h - (zn h + zx h, zs h, 0, 0).2.1 ≤ R.slots := by
    rw [Nat.sub_self, Nat.sub_self]
    exact ⟨Nat.zero_le _, Nat.zero_le _⟩
  intro T hT X
  have hcode := hts _ zw_labs.2.2
  obtain ⟨v, vm', X', ⟨first, t, hpost⟩, hstep⟩ := X.staticByContractHK C.1 C.2.2.2.2.2.1 (hts _ hlk) (hts _ zw_labs.1) (hts _ zw_labs.2.1) hcode (by decide) (Lib.MathLoose.abs_long.meetsLoose l) rfl rfl rfl rfl
    (fun args' first o s₂ h => by
      cases o with
      | returned r => exact ⟨r, rfl⟩
      | threw y =>
        exfalso
        simp only [Lib.MathLoose.abs_long.spec, Cond.after, Cond.holds, Cond.value] at h
        generalize Term.eval args' first (some (Outcome.threw y)) [] s₂ (Term.arg 0) = e0 at h
        rcases e0 with _ | v0
        all_goals first | (cases v0 <;> simp at h) | simp at h
        all_goals (revert h; repeat' split) <;> simp_all)
    (g := F0 m pc ls (.long x :: st.map (zrv G))) rfl (hl.1.trans C.2.2.1.symm) (argsL := [.long x]) (rest := st.map (zrv G))
    (fun sig hs => by
      have h : parseMethodDescriptor "(J)J" = some { parameters := [.long], returnType := some .long } := by decide +kernel
      rw [show Lib.MathLoose.abs_long.x.desc = "(J)J" from rfl, h] at hs
      rw [← Option.some.inj hs]; rfl)
    rfl (by rw [C.2.1]; exact zdg C hi)
    (fun vm' hW => by
      simp only [Lib.MathLoose.abs_long.spec, Cond.before_and, Bool.and_eq_true]
      refine ⟨?_, rfl, rfl⟩
      have q := hcode
      rw [← Cond.code_setVm hW.alike] at q
      simp only [Cond.before, Cond.holds, Cond.value, State.methodNamed?, State.vm_setVm] at q ⊢
      exact q)
    (by rw [hrm]; show 0 + 1 ≤ d + 1; omega) (by rw [hrm, zsum_cat]; show 2 * 0 + _ + (2 + 11) + 0 ≤ 64 * (d + 1); omega) hcs.1 hcs.2
  obtain ⟨t2, a1, b1⟩ := k p l e R s m args below meth c C H locs ls hR hl h1 h2 (T.setVm vm') hT X'
  refine ⟨t2, hstep t2 ?_, b1⟩
  have hv : v = some (.long (if 0 < x then x else if x = 0 then x else -x)) := by
    have hneg : Unary.lneg.apply (Value.long x) = some (.long (-x)) := rfl
    clear hstep a1 b1
    revert hpost
    by_cases q1 : 0 < x
    · rcases v with _ | w
      · simp [Lib.MathLoose.abs_long.spec, Cond.after, Cond.holds, Cond.value, Term.eval, q1]
      · cases w <;> simp [Lib.MathLoose.abs_long.spec, Cond.after, Cond.holds, Cond.value, Term.eval, q1]
        rename_i z
        by_cases e9 : z = x <;> simp [e9]
    · by_cases q2 : x = 0
      · subst q2
        rcases v with _ | w
        · simp [Lib.MathLoose.abs_long.spec, Cond.after, Cond.holds, Cond.value, Term.eval]
        · cases w <;> simp [Lib.MathLoose.abs_long.spec, Cond.after, Cond.holds, Cond.value, Term.eval]
          rename_i z
          by_cases e9 : z = 0 <;> simp [e9]
      · rcases v with _ | w
        · simp [Lib.MathLoose.abs_long.spec, Cond.after, Cond.holds, Cond.value, Term.eval, q1, q2, hneg]
        · cases w <;> simp [Lib.MathLoose.abs_long.spec, Cond.after, Cond.holds, Cond.value, Term.eval, q1, q2, hneg]
  rw [hv]
  exact a1
end ZM
theorem gmX9_211 : Cond.methodLink "SmellAbbey" 211 Lib.Math.max.name ∈ ztb := ztb_t (zt4 _ (List.mem_of_getElem? (i := 97) rfl)) rfl
theorem gmX1_46 : Cond.methodLink "SmellAbbey$Notes" 46 Lib.Math.max.name ∈ ztb := ztb_t (zt4 _ (List.mem_of_getElem? (i := 222) rfl)) rfl
theorem gmX4_31 : Cond.methodLink "SmellAbbey$Scanner" 31 Lib.Math.min.name ∈ ztb := ztb_t (zt3 _ (List.mem_of_getElem? (i := 0) rfl)) rfl
theorem gmX5_99 : Cond.methodLink "SmellAbbey$State" 99 Lib.Math.min.name ∈ ztb := ztb_t (zt4 _ (List.mem_of_getElem? (i := 56) rfl)) rfl
theorem gmX5_161 : Cond.methodLink "SmellAbbey$State" 161 Lib.MathLoose.min_long.x ∈ ztb := ztb_t (zt3 _ (List.mem_of_getElem? (i := 203) rfl)) rfl
theorem gmX5_164 : Cond.methodLink "SmellAbbey$State" 164 Lib.MathLoose.max_long.x ∈ ztb := ztb_t (zt3 _ (List.mem_of_getElem? (i := 206) rfl)) rfl
theorem gmX10_333 : Cond.methodLink "SmellAbbeyModel" 333 Lib.MathLoose.abs_long.x ∈ ztb := ztb_t (zt7 _ (List.mem_of_getElem? (i := 59) rfl)) rfl
theorem gmX10_361 : Cond.methodLink "SmellAbbeyModel" 361 Lib.MathLoose.min_long.x ∈ ztb := ztb_t (zt7 _ (List.mem_of_getElem? (i := 64) rfl)) rfl
theorem gmX10_365 : Cond.methodLink "SmellAbbeyModel" 365 Lib.MathLoose.max_long.x ∈ ztb := ztb_t (zt7 _ (List.mem_of_getElem? (i := 65) rfl)) rfl
theorem gmX10_395 : Cond.methodLink "SmellAbbeyModel" 395 Lib.Math.min.name ∈ ztb := ztb_t (zt7 _ (List.mem_of_getElem? (i := 159) rfl)) rfl
theorem gmX10_449 : Cond.methodLink "SmellAbbeyModel" 449 Lib.Math.max.name ∈ ztb := ztb_t (zt7 _ (List.mem_of_getElem? (i := 196) rfl)) rfl
