/-! typed ends, and calls by them; methods that make nothing -/
abbrev zg (G : zG) (μ : zM) (d pc : Nat) (lv st : List Value) (h : zMem) (P : Option Value → zMem → Prop) : Prop := zGo G μ d (zn h + zx h, zs h, 0, 0) pc lv st h P
def zPI (Q : Int32 → zMem → Prop) : Option Value → zMem → Prop := fun r h => ∃ v, r = some (.int v) ∧ Q v h
def zPL (Q : Int64 → zMem → Prop) : Option Value → zMem → Prop := fun r h => ∃ v, r = some (.long v) ∧ Q v h
def zPV (Q : zMem → Prop) : Option Value → zMem → Prop := fun r h => r = none ∧ Q h
def zPR (Q : Nat → zMem → Prop) : Option Value → zMem → Prop := fun r h => ∃ v, r = some (.ref v) ∧ Q v h
def zConI (G : zG) (μ : zM) (d : Nat) (as : List Value) (h : zMem) (Q : Int32 → zMem → Prop) : Prop := zCon G μ d 0 0 as h (zPI Q)
def zConL (G : zG) (μ : zM) (d : Nat) (as : List Value) (h : zMem) (Q : Int64 → zMem → Prop) : Prop := zCon G μ d 0 0 as h (zPL Q)
def zConV (G : zG) (μ : zM) (d : Nat) (as : List Value) (h : zMem) (Q : zMem → Prop) : Prop := zCon G μ d 0 0 as h (zPV Q)
def zConR (G : zG) (μ : zM) (d : Nat) (as : List Value) (h : zMem) (Q : Nat → zMem → Prop) : Prop := zCon G μ d 0 0 as h (zPR Q)
theorem zcon0 {G : zG} {μ : zM} {d : Nat} {as : List Value} {h : zMem} {P : Option Value → zMem → Prop} (hy : plainName μ.1.cls = true) (hdec : zdec μ) (hw : zwid as ≤ μ.2.2.1) (hcat : as.all zcat1 = true) (k : zg G μ d 0 (zent μ.2.2.1 as) [] h P) : zCon G μ d 0 0 as h P := zcon_intro hy hdec hw (fun a ha => List.all_eq_true.mp hcat a ha) k
theorem zgo_cnt {G : zG} {μ : zM} {d pc : Nat} {lv st : List Value} {h h' : zMem} {P : Option Value → zMem → Prop} (c1 : zn h' + zx h' = zn h + zx h + 0) (c2 : zs h' = zs h + 0) (k : zg G μ d pc lv st h' P) : zGo G μ d (zn h + zx h, zs h, 0, 0) pc lv st h' P := by
  have e1 : zn h' + zx h' = zn h + zx h := c1
  have e2 : zs h' = zs h := c2
  rw [← e1, ← e2]
  exact k
theorem z_drop {G : zG} {μ : zM} {d : Nat} {b : zB} {pc : Nat} {lv st : List Value} {h : zMem} {P : Option Value → zMem → Prop} (j : Nat) (k : zGo G μ d b pc (lv.set j zU) st h P) : zGo G μ d b pc lv st h P := by
  refine z_locals (fun i v hi hu => ?_) k
  by_cases e : i = j
  · subst e
    have hl : i < lv.length := by
      have := (List.getElem?_eq_some_iff.mp hi).1
      simpa using this
    rw [List.getElem?_set_self hl] at hi
    cases hi
    cases hu
  · rwa [List.getElem?_set_ne (Ne.symm e)] at hi
theorem zbool_n {v : Int32} (h : v = 0 ∨ v = 1) : narrow .boolean (.int v) = .int v := by rcases h with rfl | rfl <;> rfl
theorem zbool_f {v : Int32} (h : v = 0 ∨ v = 1) : fits .boolean (.int v) = true := by rcases h with rfl | rfl <;> rfl
theorem z_tableD {G : zG} {μ : zM} {d : Nat} {b : zB} {pc : Nat} {lv st : List Value} {h : zMem} {P : Option Value → zMem → Prop} (i tgt : Nat) {dflt lo hi9 : Int} {offs : Array Int} {len : Nat} {x : Int32} (hi : μ.2.2.2.2[i]? = some (pc, .tableswitch dflt lo hi9 offs, len)) (ht : (pc : Int) + dflt = (tgt : Int)) (hx : ¬ x.toInt < lo → ¬ hi9 < x.toInt → offs[(x.toInt - lo).toNat]? = some dflt) (k : zGo G μ d b tgt lv st h P) : zGo G μ d b pc lv (.int x :: st) h P := by
  by_cases h1 : x.toInt < lo
  · exact z_tableOut i tgt hi ht (Or.inl h1) k
  · by_cases h2 : hi9 < x.toInt
    · exact z_tableOut i tgt hi ht (Or.inr h2) k
    · exact z_tableIn i tgt hi x.toInt rfl h1 h2 (hx h1 h2) ht k
section ZB7
variable {G : zG} {μ : zM} {d : Nat} {b : zB} {pc : Nat} {lv st : List Value} {h : zMem} {P : Option Value → zMem → Prop}
theorem z_cVI0 (i : Nat) {index : Nat} {ν : zM} {a ci : Nat} {Q : Int32 → zMem → Prop} (hi : μ.2.2.2.2[i]? = some (pc, .invokevirtual index, 3)) (hb : b = (zn h + zx h, zs h, 0, 0)) (hν : zMF ν 0) (hlk : Cond.methodLink μ.1.cls index ν.1 ∈ ztb ∧ Cond.instanceMethod ν.1 ∈ ztb ∧ Cond.selects ν.1.cls ν.1 ν.1 ∈ ztb) (hcl : ∃ q, zcl[ci]? = some q ∧ q.1 = ν.1.cls) (hci : ci < 100) (ho : zO h a ci) (hw : (st.map fun v => v.category).sum ≤ 8) (K : zConI G ν d [.ref a] h Q) (k : ∀ (v : Int32) (h' : zMem), Q v h' → zg G μ (d + 1) (pc + 3) lv (.int v :: st) h' P) : zGo G μ (d + 1) b pc lv (.ref a :: st) h P := by
  subst hb
  exact z_callV i 0 [] hi hν hlk ho hcl hci rfl hw (Nat.le_refl _) ⟨Nat.le_refl _, Nat.le_refl _⟩ K (fun r h' q c1 c2 => by
    obtain ⟨v, rfl, q⟩ := q
    exact zgo_cnt c1 c2 (k v h' q))
theorem z_cVL0 (i : Nat) {index : Nat} {ν : zM} {a ci : Nat} {Q : Int64 → zMem → Prop} (hi : μ.2.2.2.2[i]? = some (pc, .invokevirtual index, 3)) (hb : b = (zn h + zx h, zs h, 0, 0)) (hν : zMF ν 0) (hlk : Cond.methodLink μ.1.cls index ν.1 ∈ ztb ∧ Cond.instanceMethod ν.1 ∈ ztb ∧ Cond.selects ν.1.cls ν.1 ν.1 ∈ ztb) (hcl : ∃ q, zcl[ci]? = some q ∧ q.1 = ν.1.cls) (hci : ci < 100) (ho : zO h a ci) (hw : (st.map fun v => v.category).sum ≤ 8) (K : zConL G ν d [.ref a] h Q) (k : ∀ (v : Int64) (h' : zMem), Q v h' → zg G μ (d + 1) (pc + 3) lv (.long v :: st) h' P) : zGo G μ (d + 1) b pc lv (.ref a :: st) h P := by
  subst hb
  exact z_callV i 0 [] hi hν hlk ho hcl hci rfl hw (Nat.le_refl _) ⟨Nat.le_refl _, Nat.le_refl _⟩ K (fun r h' q c1 c2 => by
    obtain ⟨v, rfl, q⟩ := q
    exact zgo_cnt c1 c2 (k v h' q))
theorem z_cVV0 (i : Nat) {index : Nat} {ν : zM} {a ci : Nat} {Q : zMem → Prop} (hi : μ.2.2.2.2[i]? = some (pc, .invokevirtual index, 3)) (hb : b = (zn h + zx h, zs h, 0, 0)) (hν : zMF ν 0) (hlk : Cond.methodLink μ.1.cls index ν.1 ∈ ztb ∧ Cond.instanceMethod ν.1 ∈ ztb ∧ Cond.selects ν.1.cls ν.1 ν.1 ∈ ztb) (hcl : ∃ q, zcl[ci]? = some q ∧ q.1 = ν.1.cls) (hci : ci < 100) (ho : zO h a ci) (hw : (st.map fun v => v.category).sum ≤ 8) (K : zConV G ν d [.ref a] h Q) (k : ∀ (h' : zMem), Q h' → zg G μ (d + 1) (pc + 3) lv (st) h' P) : zGo G μ (d + 1) b pc lv (.ref a :: st) h P := by
  subst hb
  exact z_callV i 0 [] hi hν hlk ho hcl hci rfl hw (Nat.le_refl _) ⟨Nat.le_refl _, Nat.le_refl _⟩ K (fun r h' q c1 c2 => by
    obtain ⟨rfl, q⟩ := q
    exact zgo_cnt c1 c2 (k h' q))
theorem z_cVR0 (i : Nat) {index : Nat} {ν : zM} {a ci : Nat} {Q : Nat → zMem → Prop} (hi : μ.2.2.2.2[i]? = some (pc, .invokevirtual index, 3)) (hb : b = (zn h + zx h, zs h, 0, 0)) (hν : zMF ν 0) (hlk : Cond.methodLink μ.1.cls index ν.1 ∈ ztb ∧ Cond.instanceMethod ν.1 ∈ ztb ∧ Cond.selects ν.1.cls ν.1 ν.1 ∈ ztb) (hcl : ∃ q, zcl[ci]? = some q ∧ q.1 = ν.1.cls) (hci : ci < 100) (ho : zO h a ci) (hw : (st.map fun v => v.category).sum ≤ 8) (K : zConR G ν d [.ref a] h Q) (k : ∀ (v : Nat) (h' : zMem), Q v h' → zg G μ (d + 1) (pc + 3) lv (.ref v :: st) h' P) : zGo G μ (d + 1) b pc lv (.ref a :: st) h P := by
  subst hb
  exact z_callV i 0 [] hi hν hlk ho hcl hci rfl hw (Nat.le_refl _) ⟨Nat.le_refl _, Nat.le_refl _⟩ K (fun r h' q c1 c2 => by
    obtain ⟨v, rfl, q⟩ := q
    exact zgo_cnt c1 c2 (k v h' q))
theorem z_cVI1 (i : Nat) {index : Nat} {ν : zM} {a ci : Nat} {v1 : Value} {Q : Int32 → zMem → Prop} (hi : μ.2.2.2.2[i]? = some (pc, .invokevirtual index, 3)) (hb : b = (zn h + zx h, zs h, 0, 0)) (hν : zMF ν 1) (hlk : Cond.methodLink μ.1.cls index ν.1 ∈ ztb ∧ Cond.instanceMethod ν.1 ∈ ztb ∧ Cond.selects ν.1.cls ν.1 ν.1 ∈ ztb) (hcl : ∃ q, zcl[ci]? = some q ∧ q.1 = ν.1.cls) (hci : ci < 100) (ho : zO h a ci) (hw : (st.map fun v => v.category).sum ≤ 8) (K : zConI G ν d [.ref a, v1] h Q) (k : ∀ (v : Int32) (h' : zMem), Q v h' → zg G μ (d + 1) (pc + 3) lv (.int v :: st) h' P) : zGo G μ (d + 1) b pc lv (v1 :: .ref a :: st) h P := by
  subst hb
  exact z_callV i 1 [v1] hi hν hlk ho hcl hci rfl hw (Nat.le_refl _) ⟨Nat.le_refl _, Nat.le_refl _⟩ K (fun r h' q c1 c2 => by
    obtain ⟨v, rfl, q⟩ := q
    exact zgo_cnt c1 c2 (k v h' q))
theorem z_cSI1 (i : Nat) {index : Nat} {ν : zM} {v1 : Value} {Q : Int32 → zMem → Prop} (hi : μ.2.2.2.2[i]? = some (pc, .invokestatic index, 3)) (hb : b = (zn h + zx h, zs h, 0, 0)) (hν : zMF ν 1) (hlk : Cond.methodLink μ.1.cls index ν.1 ∈ ztb ∧ Cond.static ν.1 ∈ ztb) (hw : (st.map fun v => v.category).sum ≤ 8) (K : zConI G ν d [v1] h Q) (k : ∀ (v : Int32) (h' : zMem), Q v h' → zg G μ (d + 1) (pc + 3) lv (.int v :: st) h' P) : zGo G μ (d + 1) b pc lv (v1 :: st) h P := by
  subst hb
  exact z_callS i 1 [v1] hi hν hlk rfl hw (Nat.le_refl _) ⟨Nat.le_refl _, Nat.le_refl _⟩ K (fun r h' q c1 c2 => by
    obtain ⟨v, rfl, q⟩ := q
    exact zgo_cnt c1 c2 (k v h' q))
theorem z_cVL1 (i : Nat) {index : Nat} {ν : zM} {a ci : Nat} {v1 : Value} {Q : Int64 → zMem → Prop} (hi : μ.2.2.2.2[i]? = some (pc, .invokevirtual index, 3)) (hb : b = (zn h + zx h, zs h, 0, 0)) (hν : zMF ν 1) (hlk : Cond.methodLink μ.1.cls index ν.1 ∈ ztb ∧ Cond.instanceMethod ν.1 ∈ ztb ∧ Cond.selects ν.1.cls ν.1 ν.1 ∈ ztb) (hcl : ∃ q, zcl[ci]? = some q ∧ q.1 = ν.1.cls) (hci : ci < 100) (ho : zO h a ci) (hw : (st.map fun v => v.category).sum ≤ 8) (K : zConL G ν d [.ref a, v1] h Q) (k : ∀ (v : Int64) (h' : zMem), Q v h' → zg G μ (d + 1) (pc + 3) lv (.long v :: st) h' P) : zGo G μ (d + 1) b pc lv (v1 :: .ref a :: st) h P := by
  subst hb
  exact z_callV i 1 [v1] hi hν hlk ho hcl hci rfl hw (Nat.le_refl _) ⟨Nat.le_refl _, Nat.le_refl _⟩ K (fun r h' q c1 c2 => by
    obtain ⟨v, rfl, q⟩ := q
    exact zgo_cnt c1 c2 (k v h' q))
theorem z_cSL1 (i : Nat) {index : Nat} {ν : zM} {v1 : Value} {Q : Int64 → zMem → Prop} (hi : μ.2.2.2.2[i]? = some (pc, .invokestatic index, 3)) (hb : b = (zn h + zx h, zs h, 0, 0)) (hν : zMF ν 1) (hlk : Cond.methodLink μ.1.cls index ν.1 ∈ ztb ∧ Cond.static ν.1 ∈ ztb) (hw : (st.map fun v => v.category).sum ≤ 8) (K : zConL G ν d [v1] h Q) (k : ∀ (v : Int64) (h' : zMem), Q v h' → zg G μ (d + 1) (pc + 3) lv (.long v :: st) h' P) : zGo G μ (d + 1) b pc lv (v1 :: st) h P := by
  subst hb
  exact z_callS i 1 [v1] hi hν hlk rfl hw (Nat.le_refl _) ⟨Nat.le_refl _, Nat.le_refl _⟩ K (fun r h' q c1 c2 => by
    obtain ⟨v, rfl, q⟩ := q
    exact zgo_cnt c1 c2 (k v h' q))
theorem z_cVV1 (i : Nat) {index : Nat} {ν : zM} {a ci : Nat} {v1 : Value} {Q : zMem → Prop} (hi : μ.2.2.2.2[i]? = some (pc, .invokevirtual index, 3)) (hb : b = (zn h + zx h, zs h, 0, 0)) (hν : zMF ν 1) (hlk : Cond.methodLink μ.1.cls index ν.1 ∈ ztb ∧ Cond.instanceMethod ν.1 ∈ ztb ∧ Cond.selects ν.1.cls ν.1 ν.1 ∈ ztb) (hcl : ∃ q, zcl[ci]? = some q ∧ q.1 = ν.1.cls) (hci : ci < 100) (ho : zO h a ci) (hw : (st.map fun v => v.category).sum ≤ 8) (K : zConV G ν d [.ref a, v1] h Q) (k : ∀ (h' : zMem), Q h' → zg G μ (d + 1) (pc + 3) lv (st) h' P) : zGo G μ (d + 1) b pc lv (v1 :: .ref a :: st) h P := by
  subst hb
  exact z_callV i 1 [v1] hi hν hlk ho hcl hci rfl hw (Nat.le_refl _) ⟨Nat.le_refl _, Nat.le_refl _⟩ K (fun r h' q c1 c2 => by
    obtain ⟨rfl, q⟩ := q
    exact zgo_cnt c1 c2 (k h' q))
theorem z_cSV1 (i : Nat) {index : Nat} {ν : zM} {v1 : Value} {Q : zMem → Prop} (hi : μ.2.2.2.2[i]? = some (pc, .invokestatic index, 3)) (hb : b = (zn h + zx h, zs h, 0, 0)) (hν : zMF ν 1) (hlk : Cond.methodLink μ.1.cls index ν.1 ∈ ztb ∧ Cond.static ν.1 ∈ ztb) (hw : (st.map fun v => v.category).sum ≤ 8) (K : zConV G ν d [v1] h Q) (k : ∀ (h' : zMem), Q h' → zg G μ (d + 1) (pc + 3) lv (st) h' P) : zGo G μ (d + 1) b pc lv (v1 :: st) h P := by
  subst hb
  exact z_callS i 1 [v1] hi hν hlk rfl hw (Nat.le_refl _) ⟨Nat.le_refl _, Nat.le_refl _⟩ K (fun r h' q c1 c2 => by
    obtain ⟨rfl, q⟩ := q
    exact zgo_cnt c1 c2 (k h' q))
theorem z_cVR1 (i : Nat) {index : Nat} {ν : zM} {a ci : Nat} {v1 : Value} {Q : Nat → zMem → Prop} (hi : μ.2.2.2.2[i]? = some (pc, .invokevirtual index, 3)) (hb : b = (zn h + zx h, zs h, 0, 0)) (hν : zMF ν 1) (hlk : Cond.methodLink μ.1.cls index ν.1 ∈ ztb ∧ Cond.instanceMethod ν.1 ∈ ztb ∧ Cond.selects ν.1.cls ν.1 ν.1 ∈ ztb) (hcl : ∃ q, zcl[ci]? = some q ∧ q.1 = ν.1.cls) (hci : ci < 100) (ho : zO h a ci) (hw : (st.map fun v => v.category).sum ≤ 8) (K : zConR G ν d [.ref a, v1] h Q) (k : ∀ (v : Nat) (h' : zMem), Q v h' → zg G μ (d + 1) (pc + 3) lv (.ref v :: st) h' P) : zGo G μ (d + 1) b pc lv (v1 :: .ref a :: st) h P := by
  subst hb
  exact z_callV i 1 [v1] hi hν hlk ho hcl hci rfl hw (Nat.le_refl _) ⟨Nat.le_refl _, Nat.le_refl _⟩ K (fun r h' q c1 c2 => by
    obtain ⟨v, rfl, q⟩ := q
    exact zgo_cnt c1 c2 (k v h' q))
theorem z_cSR1 (i : Nat) {index : Nat} {ν : zM} {v1 : Value} {Q : Nat → zMem → Prop} (hi : μ.2.2.2.2[i]? = some (pc, .invokestatic index, 3)) (hb : b = (zn h + zx h, zs h, 0, 0)) (hν : zMF ν 1) (hlk : Cond.methodLink μ.1.cls index ν.1 ∈ ztb ∧ Cond.static ν.1 ∈ ztb) (hw : (st.map fun v => v.category).sum ≤ 8) (K : zConR G ν d [v1] h Q) (k : ∀ (v : Nat) (h' : zMem), Q v h' → zg G μ (d + 1) (pc + 3) lv (.ref v :: st) h' P) : zGo G μ (d + 1) b pc lv (v1 :: st) h P := by
  subst hb
  exact z_callS i 1 [v1] hi hν hlk rfl hw (Nat.le_refl _) ⟨Nat.le_refl _, Nat.le_refl _⟩ K (fun r h' q c1 c2 => by
    obtain ⟨v, rfl, q⟩ := q
    exact zgo_cnt c1 c2 (k v h' q))
theorem z_cVI2 (i : Nat) {index : Nat} {ν : zM} {a ci : Nat} {v1 v2 : Value} {Q : Int32 → zMem → Prop} (hi : μ.2.2.2.2[i]? = some (pc, .invokevirtual index, 3)) (hb : b = (zn h + zx h, zs h, 0, 0)) (hν : zMF ν 2) (hlk : Cond.methodLink μ.1.cls index ν.1 ∈ ztb ∧ Cond.instanceMethod ν.1 ∈ ztb ∧ Cond.selects ν.1.cls ν.1 ν.1 ∈ ztb) (hcl : ∃ q, zcl[ci]? = some q ∧ q.1 = ν.1.cls) (hci : ci < 100) (ho : zO h a ci) (hw : (st.map fun v => v.category).sum ≤ 8) (K : zConI G ν d [.ref a, v1, v2] h Q) (k : ∀ (v : Int32) (h' : zMem), Q v h' → zg G μ (d + 1) (pc + 3) lv (.int v :: st) h' P) : zGo G μ (d + 1) b pc lv (v2 :: v1 :: .ref a :: st) h P := by
  subst hb
  exact z_callV i 2 [v1, v2] hi hν hlk ho hcl hci rfl hw (Nat.le_refl _) ⟨Nat.le_refl _, Nat.le_refl _⟩ K (fun r h' q c1 c2 => by
    obtain ⟨v, rfl, q⟩ := q
    exact zgo_cnt c1 c2 (k v h' q))
theorem z_cSI2 (i : Nat) {index : Nat} {ν : zM} {v1 v2 : Value} {Q : Int32 → zMem → Prop} (hi : μ.2.2.2.2[i]? = some (pc, .invokestatic index, 3)) (hb : b = (zn h + zx h, zs h, 0, 0)) (hν : zMF ν 2) (hlk : Cond.methodLink μ.1.cls index ν.1 ∈ ztb ∧ Cond.static ν.1 ∈ ztb) (hw : (st.map fun v => v.category).sum ≤ 8) (K : zConI G ν d [v1, v2] h Q) (k : ∀ (v : Int32) (h' : zMem), Q v h' → zg G μ (d + 1) (pc + 3) lv (.int v :: st) h' P) : zGo G μ (d + 1) b pc lv (v2 :: v1 :: st) h P := by
  subst hb
  exact z_callS i 2 [v1, v2] hi hν hlk rfl hw (Nat.le_refl _) ⟨Nat.le_refl _, Nat.le_refl _⟩ K (fun r h' q c1 c2 => by
    obtain ⟨v, rfl, q⟩ := q
    exact zgo_cnt c1 c2 (k v h' q))
theorem z_cVL2 (i : Nat) {index : Nat} {ν : zM} {a ci : Nat} {v1 v2 : Value} {Q : Int64 → zMem → Prop} (hi : μ.2.2.2.2[i]? = some (pc, .invokevirtual index, 3)) (hb : b = (zn h + zx h, zs h, 0, 0)) (hν : zMF ν 2) (hlk : Cond.methodLink μ.1.cls index ν.1 ∈ ztb ∧ Cond.instanceMethod ν.1 ∈ ztb ∧ Cond.selects ν.1.cls ν.1 ν.1 ∈ ztb) (hcl : ∃ q, zcl[ci]? = some q ∧ q.1 = ν.1.cls) (hci : ci < 100) (ho : zO h a ci) (hw : (st.map fun v => v.category).sum ≤ 8) (K : zConL G ν d [.ref a, v1, v2] h Q) (k : ∀ (v : Int64) (h' : zMem), Q v h' → zg G μ (d + 1) (pc + 3) lv (.long v :: st) h' P) : zGo G μ (d + 1) b pc lv (v2 :: v1 :: .ref a :: st) h P := by
  subst hb
  exact z_callV i 2 [v1, v2] hi hν hlk ho hcl hci rfl hw (Nat.le_refl _) ⟨Nat.le_refl _, Nat.le_refl _⟩ K (fun r h' q c1 c2 => by
    obtain ⟨v, rfl, q⟩ := q
    exact zgo_cnt c1 c2 (k v h' q))
theorem z_cSL2 (i : Nat) {index : Nat} {ν : zM} {v1 v2 : Value} {Q : Int64 → zMem → Prop} (hi : μ.2.2.2.2[i]? = some (pc, .invokestatic index, 3)) (hb : b = (zn h + zx h, zs h, 0, 0)) (hν : zMF ν 2) (hlk : Cond.methodLink μ.1.cls index ν.1 ∈ ztb ∧ Cond.static ν.1 ∈ ztb) (hw : (st.map fun v => v.category).sum ≤ 8) (K : zConL G ν d [v1, v2] h Q) (k : ∀ (v : Int64) (h' : zMem), Q v h' → zg G μ (d + 1) (pc + 3) lv (.long v :: st) h' P) : zGo G μ (d + 1) b pc lv (v2 :: v1 :: st) h P := by
  subst hb
  exact z_callS i 2 [v1, v2] hi hν hlk rfl hw (Nat.le_refl _) ⟨Nat.le_refl _, Nat.le_refl _⟩ K (fun r h' q c1 c2 => by
    obtain ⟨v, rfl, q⟩ := q
    exact zgo_cnt c1 c2 (k v h' q))
theorem z_cVV2 (i : Nat) {index : Nat} {ν : zM} {a ci : Nat} {v1 v2 : Value} {Q : zMem → Prop} (hi : μ.2.2.2.2[i]? = some (pc, .invokevirtual index, 3)) (hb : b = (zn h + zx h, zs h, 0, 0)) (hν : zMF ν 2) (hlk : Cond.methodLink μ.1.cls index ν.1 ∈ ztb ∧ Cond.instanceMethod ν.1 ∈ ztb ∧ Cond.selects ν.1.cls ν.1 ν.1 ∈ ztb) (hcl : ∃ q, zcl[ci]? = some q ∧ q.1 = ν.1.cls) (hci : ci < 100) (ho : zO h a ci) (hw : (st.map fun v => v.category).sum ≤ 8) (K : zConV G ν d [.ref a, v1, v2] h Q) (k : ∀ (h' : zMem), Q h' → zg G μ (d + 1) (pc + 3) lv (st) h' P) : zGo G μ (d + 1) b pc lv (v2 :: v1 :: .ref a :: st) h P := by
  subst hb
  exact z_callV i 2 [v1, v2] hi hν hlk ho hcl hci rfl hw (Nat.le_refl _) ⟨Nat.le_refl _, Nat.le_refl _⟩ K (fun r h' q c1 c2 => by
    obtain ⟨rfl, q⟩ := q
    exact zgo_cnt c1 c2 (k h' q))
theorem z_cSV2 (i : Nat) {index : Nat} {ν : zM} {v1 v2 : Value} {Q : zMem → Prop} (hi : μ.2.2.2.2[i]? = some (pc, .invokestatic index, 3)) (hb : b = (zn h + zx h, zs h, 0, 0)) (hν : zMF ν 2) (hlk : Cond.methodLink μ.1.cls index ν.1 ∈ ztb ∧ Cond.static ν.1 ∈ ztb) (hw : (st.map fun v => v.category).sum ≤ 8) (K : zConV G ν d [v1, v2] h Q) (k : ∀ (h' : zMem), Q h' → zg G μ (d + 1) (pc + 3) lv (st) h' P) : zGo G μ (d + 1) b pc lv (v2 :: v1 :: st) h P := by
  subst hb
  exact z_callS i 2 [v1, v2] hi hν hlk rfl hw (Nat.le_refl _) ⟨Nat.le_refl _, Nat.le_refl _⟩ K (fun r h' q c1 c2 => by
    obtain ⟨rfl, q⟩ := q
    exact zgo_cnt c1 c2 (k h' q))
theorem z_cVR2 (i : Nat) {index : Nat} {ν : zM} {a ci : Nat} {v1 v2 : Value} {Q : Nat → zMem → Prop} (hi : μ.2.2.2.2[i]? = some (pc, .invokevirtual index, 3)) (hb : b = (zn h + zx h, zs h, 0, 0)) (hν : zMF ν 2) (hlk : Cond.methodLink μ.1.cls index ν.1 ∈ ztb ∧ Cond.instanceMethod ν.1 ∈ ztb ∧ Cond.selects ν.1.cls ν.1 ν.1 ∈ ztb) (hcl : ∃ q, zcl[ci]? = some q ∧ q.1 = ν.1.cls) (hci : ci < 100) (ho : zO h a ci) (hw : (st.map fun v => v.category).sum ≤ 8) (K : zConR G ν d [.ref a, v1, v2] h Q) (k : ∀ (v : Nat) (h' : zMem), Q v h' → zg G μ (d + 1) (pc + 3) lv (.ref v :: st) h' P) : zGo G μ (d + 1) b pc lv (v2 :: v1 :: .ref a :: st) h P := by
  subst hb
  exact z_callV i 2 [v1, v2] hi hν hlk ho hcl hci rfl hw (Nat.le_refl _) ⟨Nat.le_refl _, Nat.le_refl _⟩ K (fun r h' q c1 c2 => by
    obtain ⟨v, rfl, q⟩ := q
    exact zgo_cnt c1 c2 (k v h' q))
theorem z_cSR2 (i : Nat) {index : Nat} {ν : zM} {v1 v2 : Value} {Q : Nat → zMem → Prop} (hi : μ.2.2.2.2[i]? = some (pc, .invokestatic index, 3)) (hb : b = (zn h + zx h, zs h, 0, 0)) (hν : zMF ν 2) (hlk : Cond.methodLink μ.1.cls index ν.1 ∈ ztb ∧ Cond.static ν.1 ∈ ztb) (hw : (st.map fun v => v.category).sum ≤ 8) (K : zConR G ν d [v1, v2] h Q) (k : ∀ (v : Nat) (h' : zMem), Q v h' → zg G μ (d + 1) (pc + 3) lv (.ref v :: st) h' P) : zGo G μ (d + 1) b pc lv (v2 :: v1 :: st) h P := by
  subst hb
  exact z_callS i 2 [v1, v2] hi hν hlk rfl hw (Nat.le_refl _) ⟨Nat.le_refl _, Nat.le_refl _⟩ K (fun r h' q c1 c2 => by
    obtain ⟨v, rfl, q⟩ := q
    exact zgo_cnt c1 c2 (k v h' q))
theorem z_cVI3 (i : Nat) {index : Nat} {ν : zM} {a ci : Nat} {v1 v2 v3 : Value} {Q : Int32 → zMem → Prop} (hi : μ.2.2.2.2[i]? = some (pc, .invokevirtual index, 3)) (hb : b = (zn h + zx h, zs h, 0, 0)) (hν : zMF ν 3) (hlk : Cond.methodLink μ.1.cls index ν.1 ∈ ztb ∧ Cond.instanceMethod ν.1 ∈ ztb ∧ Cond.selects ν.1.cls ν.1 ν.1 ∈ ztb) (hcl : ∃ q, zcl[ci]? = some q ∧ q.1 = ν.1.cls) (hci : ci < 100) (ho : zO h a ci) (hw : (st.map fun v => v.category).sum ≤ 8) (K : zConI G ν d [.ref a, v1, v2, v3] h Q) (k : ∀ (v : Int32) (h' : zMem), Q v h' → zg G μ (d + 1) (pc + 3) lv (.int v :: st) h' P) : zGo G μ (d + 1) b pc lv (v3 :: v2 :: v1 :: .ref a :: st) h P := by
  subst hb
  exact z_callV i 3 [v1, v2, v3] hi hν hlk ho hcl hci rfl hw (Nat.le_refl _) ⟨Nat.le_refl _, Nat.le_refl _⟩ K (fun r h' q c1 c2 => by
    obtain ⟨v, rfl, q⟩ := q
    exact zgo_cnt c1 c2 (k v h' q))
theorem z_cSI3 (i : Nat) {index : Nat} {ν : zM} {v1 v2 v3 : Value} {Q : Int32 → zMem → Prop} (hi : μ.2.2.2.2[i]? = some (pc, .invokestatic index, 3)) (hb : b = (zn h + zx h, zs h, 0, 0)) (hν : zMF ν 3) (hlk : Cond.methodLink μ.1.cls index ν.1 ∈ ztb ∧ Cond.static ν.1 ∈ ztb) (hw : (st.map fun v => v.category).sum ≤ 8) (K : zConI G ν d [v1, v2, v3] h Q) (k : ∀ (v : Int32) (h' : zMem), Q v h' → zg G μ (d + 1) (pc + 3) lv (.int v :: st) h' P) : zGo G μ (d + 1) b pc lv (v3 :: v2 :: v1 :: st) h P := by
  subst hb
  exact z_callS i 3 [v1, v2, v3] hi hν hlk rfl hw (Nat.le_refl _) ⟨Nat.le_refl _, Nat.le_refl _⟩ K (fun r h' q c1 c2 => by
    obtain ⟨v, rfl, q⟩ := q
    exact zgo_cnt c1 c2 (k v h' q))
theorem z_cVL3 (i : Nat) {index : Nat} {ν : zM} {a ci : Nat} {v1 v2 v3 : Value} {Q : Int64 → zMem → Prop} (hi : μ.2.2.2.2[i]? = some (pc, .invokevirtual index, 3)) (hb : b = (zn h + zx h, zs h, 0, 0)) (hν : zMF ν 3) (hlk : Cond.methodLink μ.1.cls index ν.1 ∈ ztb ∧ Cond.instanceMethod ν.1 ∈ ztb ∧ Cond.selects ν.1.cls ν.1 ν.1 ∈ ztb) (hcl : ∃ q, zcl[ci]? = some q ∧ q.1 = ν.1.cls) (hci : ci < 100) (ho : zO h a ci) (hw : (st.map fun v => v.category).sum ≤ 8) (K : zConL G ν d [.ref a, v1, v2, v3] h Q) (k : ∀ (v : Int64) (h' : zMem), Q v h' → zg G μ (d + 1) (pc + 3) lv (.long v :: st) h' P) : zGo G μ (d + 1) b pc lv (v3 :: v2 :: v1 :: .ref a :: st) h P := by
  subst hb
  exact z_callV i 3 [v1, v2, v3] hi hν hlk ho hcl hci rfl hw (Nat.le_refl _) ⟨Nat.le_refl _, Nat.le_refl _⟩ K (fun r h' q c1 c2 => by
    obtain ⟨v, rfl, q⟩ := q
    exact zgo_cnt c1 c2 (k v h' q))
theorem z_cSL3 (i : Nat) {index : Nat} {ν : zM} {v1 v2 v3 : Value} {Q : Int64 → zMem → Prop} (hi : μ.2.2.2.2[i]? = some (pc, .invokestatic index, 3)) (hb : b = (zn h + zx h, zs h, 0, 0)) (hν : zMF ν 3) (hlk : Cond.methodLink μ.1.cls index ν.1 ∈ ztb ∧ Cond.static ν.1 ∈ ztb) (hw : (st.map fun v => v.category).sum ≤ 8) (K : zConL G ν d [v1, v2, v3] h Q) (k : ∀ (v : Int64) (h' : zMem), Q v h' → zg G μ (d + 1) (pc + 3) lv (.long v :: st) h' P) : zGo G μ (d + 1) b pc lv (v3 :: v2 :: v1 :: st) h P := by
  subst hb
  exact z_callS i 3 [v1, v2, v3] hi hν hlk rfl hw (Nat.le_refl _) ⟨Nat.le_refl _, Nat.le_refl _⟩ K (fun r h' q c1 c2 => by
    obtain ⟨v, rfl, q⟩ := q
    exact zgo_cnt c1 c2 (k v h' q))
theorem z_cVV3 (i : Nat) {index : Nat} {ν : zM} {a ci : Nat} {v1 v2 v3 : Value} {Q : zMem → Prop} (hi : μ.2.2.2.2[i]? = some (pc, .invokevirtual index, 3)) (hb : b = (zn h + zx h, zs h, 0, 0)) (hν : zMF ν 3) (hlk : Cond.methodLink μ.1.cls index ν.1 ∈ ztb ∧ Cond.instanceMethod ν.1 ∈ ztb ∧ Cond.selects ν.1.cls ν.1 ν.1 ∈ ztb) (hcl : ∃ q, zcl[ci]? = some q ∧ q.1 = ν.1.cls) (hci : ci < 100) (ho : zO h a ci) (hw : (st.map fun v => v.category).sum ≤ 8) (K : zConV G ν d [.ref a, v1, v2, v3] h Q) (k : ∀ (h' : zMem), Q h' → zg G μ (d + 1) (pc + 3) lv (st) h' P) : zGo G μ (d + 1) b pc lv (v3 :: v2 :: v1 :: .ref a :: st) h P := by
  subst hb
  exact z_callV i 3 [v1, v2, v3] hi hν hlk ho hcl hci rfl hw (Nat.le_refl _) ⟨Nat.le_refl _, Nat.le_refl _⟩ K (fun r h' q c1 c2 => by
    obtain ⟨rfl, q⟩ := q
    exact zgo_cnt c1 c2 (k h' q))
theorem z_cSV3 (i : Nat) {index : Nat} {ν : zM} {v1 v2 v3 : Value} {Q : zMem → Prop} (hi : μ.2.2.2.2[i]? = some (pc, .invokestatic index, 3)) (hb : b = (zn h + zx h, zs h, 0, 0)) (hν : zMF ν 3) (hlk : Cond.methodLink μ.1.cls index ν.1 ∈ ztb ∧ Cond.static ν.1 ∈ ztb) (hw : (st.map fun v => v.category).sum ≤ 8) (K : zConV G ν d [v1, v2, v3] h Q) (k : ∀ (h' : zMem), Q h' → zg G μ (d + 1) (pc + 3) lv (st) h' P) : zGo G μ (d + 1) b pc lv (v3 :: v2 :: v1 :: st) h P := by
  subst hb
  exact z_callS i 3 [v1, v2, v3] hi hν hlk rfl hw (Nat.le_refl _) ⟨Nat.le_refl _, Nat.le_refl _⟩ K (fun r h' q c1 c2 => by
    obtain ⟨rfl, q⟩ := q
    exact zgo_cnt c1 c2 (k h' q))
theorem z_cVR3 (i : Nat) {index : Nat} {ν : zM} {a ci : Nat} {v1 v2 v3 : Value} {Q : Nat → zMem → Prop} (hi : μ.2.2.2.2[i]? = some (pc, .invokevirtual index, 3)) (hb : b = (zn h + zx h, zs h, 0, 0)) (hν : zMF ν 3) (hlk : Cond.methodLink μ.1.cls index ν.1 ∈ ztb ∧ Cond.instanceMethod ν.1 ∈ ztb ∧ Cond.selects ν.1.cls ν.1 ν.1 ∈ ztb) (hcl : ∃ q, zcl[ci]? = some q ∧ q.1 = ν.1.cls) (hci : ci < 100) (ho : zO h a ci) (hw : (st.map fun v => v.category).sum ≤ 8) (K : zConR G ν d [.ref a, v1, v2, v3] h Q) (k : ∀ (v : Nat) (h' : zMem), Q v h' → zg G μ (d + 1) (pc + 3) lv (.ref v :: st) h' P) : zGo G μ (d + 1) b pc lv (v3 :: v2 :: v1 :: .ref a :: st) h P := by
  subst hb
  exact z_callV i 3 [v1, v2, v3] hi hν hlk ho hcl hci rfl hw (Nat.le_refl _) ⟨Nat.le_refl _, Nat.le_refl _⟩ K (fun r h' q c1 c2 => by
    obtain ⟨v, rfl, q⟩ := q
    exact zgo_cnt c1 c2 (k v h' q))
theorem z_cSR3 (i : Nat) {index : Nat} {ν : zM} {v1 v2 v3 : Value} {Q : Nat → zMem → Prop} (hi : μ.2.2.2.2[i]? = some (pc, .invokestatic index, 3)) (hb : b = (zn h + zx h, zs h, 0, 0)) (hν : zMF ν 3) (hlk : Cond.methodLink μ.1.cls index ν.1 ∈ ztb ∧ Cond.static ν.1 ∈ ztb) (hw : (st.map fun v => v.category).sum ≤ 8) (K : zConR G ν d [v1, v2, v3] h Q) (k : ∀ (v : Nat) (h' : zMem), Q v h' → zg G μ (d + 1) (pc + 3) lv (.ref v :: st) h' P) : zGo G μ (d + 1) b pc lv (v3 :: v2 :: v1 :: st) h P := by
  subst hb
  exact z_callS i 3 [v1, v2, v3] hi hν hlk rfl hw (Nat.le_refl _) ⟨Nat.le_refl _, Nat.le_refl _⟩ K (fun r h' q c1 c2 => by
    obtain ⟨v, rfl, q⟩ := q
    exact zgo_cnt c1 c2 (k v h' q))
theorem z_cVI4 (i : Nat) {index : Nat} {ν : zM} {a ci : Nat} {v1 v2 v3 v4 : Value} {Q : Int32 → zMem → Prop} (hi : μ.2.2.2.2[i]? = some (pc, .invokevirtual index, 3)) (hb : b = (zn h + zx h, zs h, 0, 0)) (hν : zMF ν 4) (hlk : Cond.methodLink μ.1.cls index ν.1 ∈ ztb ∧ Cond.instanceMethod ν.1 ∈ ztb ∧ Cond.selects ν.1.cls ν.1 ν.1 ∈ ztb) (hcl : ∃ q, zcl[ci]? = some q ∧ q.1 = ν.1.cls) (hci : ci < 100) (ho : zO h a ci) (hw : (st.map fun v => v.category).sum ≤ 8) (K : zConI G ν d [.ref a, v1, v2, v3, v4] h Q) (k : ∀ (v : Int32) (h' : zMem), Q v h' → zg G μ (d + 1) (pc + 3) lv (.int v :: st) h' P) : zGo G μ (d + 1) b pc lv (v4 :: v3 :: v2 :: v1 :: .ref a :: st) h P := by
  subst hb
  exact z_callV i 4 [v1, v2, v3, v4] hi hν hlk ho hcl hci rfl hw (Nat.le_refl _) ⟨Nat.le_refl _, Nat.le_refl _⟩ K (fun r h' q c1 c2 => by
    obtain ⟨v, rfl, q⟩ := q
    exact zgo_cnt c1 c2 (k v h' q))
theorem z_cSI4 (i : Nat) {index : Nat} {ν : zM} {v1 v2 v3 v4 : Value} {Q : Int32 → zMem → Prop} (hi : μ.2.2.2.2[i]? = some (pc, .invokestatic index, 3)) (hb : b = (zn h + zx h, zs h, 0, 0)) (hν : zMF ν 4) (hlk : Cond.methodLink μ.1.cls index ν.1 ∈ ztb ∧ Cond.static ν.1 ∈ ztb) (hw : (st.map fun v => v.category).sum ≤ 8) (K : zConI G ν d [v1, v2, v3, v4] h Q) (k : ∀ (v : Int32) (h' : zMem), Q v h' → zg G μ (d + 1) (pc + 3) lv (.int v :: st) h' P) : zGo G μ (d + 1) b pc lv (v4 :: v3 :: v2 :: v1 :: st) h P := by
  subst hb
  exact z_callS i 4 [v1, v2, v3, v4] hi hν hlk rfl hw (Nat.le_refl _) ⟨Nat.le_refl _, Nat.le_refl _⟩ K (fun r h' q c1 c2 => by
    obtain ⟨v, rfl, q⟩ := q
    exact zgo_cnt c1 c2 (k v h' q))
theorem z_cVL4 (i : Nat) {index : Nat} {ν : zM} {a ci : Nat} {v1 v2 v3 v4 : Value} {Q : Int64 → zMem → Prop} (hi : μ.2.2.2.2[i]? = some (pc, .invokevirtual index, 3)) (hb : b = (zn h + zx h, zs h, 0, 0)) (hν : zMF ν 4) (hlk : Cond.methodLink μ.1.cls index ν.1 ∈ ztb ∧ Cond.instanceMethod ν.1 ∈ ztb ∧ Cond.selects ν.1.cls ν.1 ν.1 ∈ ztb) (hcl : ∃ q, zcl[ci]? = some q ∧ q.1 = ν.1.cls) (hci : ci < 100) (ho : zO h a ci) (hw : (st.map fun v => v.category).sum ≤ 8) (K : zConL G ν d [.ref a, v1, v2, v3, v4] h Q) (k : ∀ (v : Int64) (h' : zMem), Q v h' → zg G μ (d + 1) (pc + 3) lv (.long v :: st) h' P) : zGo G μ (d + 1) b pc lv (v4 :: v3 :: v2 :: v1 :: .ref a :: st) h P := by
  subst hb
  exact z_callV i 4 [v1, v2, v3, v4] hi hν hlk ho hcl hci rfl hw (Nat.le_refl _) ⟨Nat.le_refl _, Nat.le_refl _⟩ K (fun r h' q c1 c2 => by
    obtain ⟨v, rfl, q⟩ := q
    exact zgo_cnt c1 c2 (k v h' q))
theorem z_cSL4 (i : Nat) {index : Nat} {ν : zM} {v1 v2 v3 v4 : Value} {Q : Int64 → zMem → Prop} (hi : μ.2.2.2.2[i]? = some (pc, .invokestatic index, 3)) (hb : b = (zn h + zx h, zs h, 0, 0)) (hν : zMF ν 4) (hlk : Cond.methodLink μ.1.cls index ν.1 ∈ ztb ∧ Cond.static ν.1 ∈ ztb) (hw : (st.map fun v => v.category).sum ≤ 8) (K : zConL G ν d [v1, v2, v3, v4] h Q) (k : ∀ (v : Int64) (h' : zMem), Q v h' → zg G μ (d + 1) (pc + 3) lv (.long v :: st) h' P) : zGo G μ (d + 1) b pc lv (v4 :: v3 :: v2 :: v1 :: st) h P := by
  subst hb
  exact z_callS i 4 [v1, v2, v3, v4] hi hν hlk rfl hw (Nat.le_refl _) ⟨Nat.le_refl _, Nat.le_refl _⟩ K (fun r h' q c1 c2 => by
    obtain ⟨v, rfl, q⟩ := q
    exact zgo_cnt c1 c2 (k v h' q))
theorem z_cVV4 (i : Nat) {index : Nat} {ν : zM} {a ci : Nat} {v1 v2 v3 v4 : Value} {Q : zMem → Prop} (hi : μ.2.2.2.2[i]? = some (pc, .invokevirtual index, 3)) (hb : b = (zn h + zx h, zs h, 0, 0)) (hν : zMF ν 4) (hlk : Cond.methodLink μ.1.cls index ν.1 ∈ ztb ∧ Cond.instanceMethod ν.1 ∈ ztb ∧ Cond.selects ν.1.cls ν.1 ν.1 ∈ ztb) (hcl : ∃ q, zcl[ci]? = some q ∧ q.1 = ν.1.cls) (hci : ci < 100) (ho : zO h a ci) (hw : (st.map fun v => v.category).sum ≤ 8) (K : zConV G ν d [.ref a, v1, v2, v3, v4] h Q) (k : ∀ (h' : zMem), Q h' → zg G μ (d + 1) (pc + 3) lv (st) h' P) : zGo G μ (d + 1) b pc lv (v4 :: v3 :: v2 :: v1 :: .ref a :: st) h P := by
  subst hb
  exact z_callV i 4 [v1, v2, v3, v4] hi hν hlk ho hcl hci rfl hw (Nat.le_refl _) ⟨Nat.le_refl _, Nat.le_refl _⟩ K (fun r h' q c1 c2 => by
    obtain ⟨rfl, q⟩ := q
    exact zgo_cnt c1 c2 (k h' q))
theorem z_cSV4 (i : Nat) {index : Nat} {ν : zM} {v1 v2 v3 v4 : Value} {Q : zMem → Prop} (hi : μ.2.2.2.2[i]? = some (pc, .invokestatic index, 3)) (hb : b = (zn h + zx h, zs h, 0, 0)) (hν : zMF ν 4) (hlk : Cond.methodLink μ.1.cls index ν.1 ∈ ztb ∧ Cond.static ν.1 ∈ ztb) (hw : (st.map fun v => v.category).sum ≤ 8) (K : zConV G ν d [v1, v2, v3, v4] h Q) (k : ∀ (h' : zMem), Q h' → zg G μ (d + 1) (pc + 3) lv (st) h' P) : zGo G μ (d + 1) b pc lv (v4 :: v3 :: v2 :: v1 :: st) h P := by
  subst hb
  exact z_callS i 4 [v1, v2, v3, v4] hi hν hlk rfl hw (Nat.le_refl _) ⟨Nat.le_refl _, Nat.le_refl _⟩ K (fun r h' q c1 c2 => by
    obtain ⟨rfl, q⟩ := q
    exact zgo_cnt c1 c2 (k h' q))
theorem z_cVR4 (i : Nat) {index : Nat} {ν : zM} {a ci : Nat} {v1 v2 v3 v4 : Value} {Q : Nat → zMem → Prop} (hi : μ.2.2.2.2[i]? = some (pc, .invokevirtual index, 3)) (hb : b = (zn h + zx h, zs h, 0, 0)) (hν : zMF ν 4) (hlk : Cond.methodLink μ.1.cls index ν.1 ∈ ztb ∧ Cond.instanceMethod ν.1 ∈ ztb ∧ Cond.selects ν.1.cls ν.1 ν.1 ∈ ztb) (hcl : ∃ q, zcl[ci]? = some q ∧ q.1 = ν.1.cls) (hci : ci < 100) (ho : zO h a ci) (hw : (st.map fun v => v.category).sum ≤ 8) (K : zConR G ν d [.ref a, v1, v2, v3, v4] h Q) (k : ∀ (v : Nat) (h' : zMem), Q v h' → zg G μ (d + 1) (pc + 3) lv (.ref v :: st) h' P) : zGo G μ (d + 1) b pc lv (v4 :: v3 :: v2 :: v1 :: .ref a :: st) h P := by
  subst hb
  exact z_callV i 4 [v1, v2, v3, v4] hi hν hlk ho hcl hci rfl hw (Nat.le_refl _) ⟨Nat.le_refl _, Nat.le_refl _⟩ K (fun r h' q c1 c2 => by
    obtain ⟨v, rfl, q⟩ := q
    exact zgo_cnt c1 c2 (k v h' q))
theorem z_cSR4 (i : Nat) {index : Nat} {ν : zM} {v1 v2 v3 v4 : Value} {Q : Nat → zMem → Prop} (hi : μ.2.2.2.2[i]? = some (pc, .invokestatic index, 3)) (hb : b = (zn h + zx h, zs h, 0, 0)) (hν : zMF ν 4) (hlk : Cond.methodLink μ.1.cls index ν.1 ∈ ztb ∧ Cond.static ν.1 ∈ ztb) (hw : (st.map fun v => v.category).sum ≤ 8) (K : zConR G ν d [v1, v2, v3, v4] h Q) (k : ∀ (v : Nat) (h' : zMem), Q v h' → zg G μ (d + 1) (pc + 3) lv (.ref v :: st) h' P) : zGo G μ (d + 1) b pc lv (v4 :: v3 :: v2 :: v1 :: st) h P := by
  subst hb
  exact z_callS i 4 [v1, v2, v3, v4] hi hν hlk rfl hw (Nat.le_refl _) ⟨Nat.le_refl _, Nat.le_refl _⟩ K (fun r h' q c1 c2 => by
    obtain ⟨v, rfl, q⟩ := q
    exact zgo_cnt c1 c2 (k v h' q))
theorem z_cVI5 (i : Nat) {index : Nat} {ν : zM} {a ci : Nat} {v1 v2 v3 v4 v5 : Value} {Q : Int32 → zMem → Prop} (hi : μ.2.2.2.2[i]? = some (pc, .invokevirtual index, 3)) (hb : b = (zn h + zx h, zs h, 0, 0)) (hν : zMF ν 5) (hlk : Cond.methodLink μ.1.cls index ν.1 ∈ ztb ∧ Cond.instanceMethod ν.1 ∈ ztb ∧ Cond.selects ν.1.cls ν.1 ν.1 ∈ ztb) (hcl : ∃ q, zcl[ci]? = some q ∧ q.1 = ν.1.cls) (hci : ci < 100) (ho : zO h a ci) (hw : (st.map fun v => v.category).sum ≤ 8) (K : zConI G ν d [.ref a, v1, v2, v3, v4, v5] h Q) (k : ∀ (v : Int32) (h' : zMem), Q v h' → zg G μ (d + 1) (pc + 3) lv (.int v :: st) h' P) : zGo G μ (d + 1) b pc lv (v5 :: v4 :: v3 :: v2 :: v1 :: .ref a :: st) h P := by
  subst hb
  exact z_callV i 5 [v1, v2, v3, v4, v5] hi hν hlk ho hcl hci rfl hw (Nat.le_refl _) ⟨Nat.le_refl _, Nat.le_refl _⟩ K (fun r h' q c1 c2 => by
    obtain ⟨v, rfl, q⟩ := q
    exact zgo_cnt c1 c2 (k v h' q))
theorem z_cSI5 (i : Nat) {index : Nat} {ν : zM} {v1 v2 v3 v4 v5 : Value} {Q : Int32 → zMem → Prop} (hi : μ.2.2.2.2[i]? = some (pc, .invokestatic index, 3)) (hb : b = (zn h + zx h, zs h, 0, 0)) (hν : zMF ν 5) (hlk : Cond.methodLink μ.1.cls index ν.1 ∈ ztb ∧ Cond.static ν.1 ∈ ztb) (hw : (st.map fun v => v.category).sum ≤ 8) (K : zConI G ν d [v1, v2, v3, v4, v5] h Q) (k : ∀ (v : Int32) (h' : zMem), Q v h' → zg G μ (d + 1) (pc + 3) lv (.int v :: st) h' P) : zGo G μ (d + 1) b pc lv (v5 :: v4 :: v3 :: v2 :: v1 :: st) h P := by
  subst hb
  exact z_callS i 5 [v1, v2, v3, v4, v5] hi hν hlk rfl hw (Nat.le_refl _) ⟨Nat.le_refl _, Nat.le_refl _⟩ K (fun r h' q c1 c2 => by
    obtain ⟨v, rfl, q⟩ := q
    exact zgo_cnt c1 c2 (k v h' q))
theorem z_cVL5 (i : Nat) {index : Nat} {ν : zM} {a ci : Nat} {v1 v2 v3 v4 v5 : Value} {Q : Int64 → zMem → Prop} (hi : μ.2.2.2.2[i]? = some (pc, .invokevirtual index, 3)) (hb : b = (zn h + zx h, zs h, 0, 0)) (hν : zMF ν 5) (hlk : Cond.methodLink μ.1.cls index ν.1 ∈ ztb ∧ Cond.instanceMethod ν.1 ∈ ztb ∧ Cond.selects ν.1.cls ν.1 ν.1 ∈ ztb) (hcl : ∃ q, zcl[ci]? = some q ∧ q.1 = ν.1.cls) (hci : ci < 100) (ho : zO h a ci) (hw : (st.map fun v => v.category).sum ≤ 8) (K : zConL G ν d [.ref a, v1, v2, v3, v4, v5] h Q) (k : ∀ (v : Int64) (h' : zMem), Q v h' → zg G μ (d + 1) (pc + 3) lv (.long v :: st) h' P) : zGo G μ (d + 1) b pc lv (v5 :: v4 :: v3 :: v2 :: v1 :: .ref a :: st) h P := by
  subst hb
  exact z_callV i 5 [v1, v2, v3, v4, v5] hi hν hlk ho hcl hci rfl hw (Nat.le_refl _) ⟨Nat.le_refl _, Nat.le_refl _⟩ K (fun r h' q c1 c2 => by
    obtain ⟨v, rfl, q⟩ := q
    exact zgo_cnt c1 c2 (k v h' q))
theorem z_cSL5 (i : Nat) {index : Nat} {ν : zM} {v1 v2 v3 v4 v5 : Value} {Q : Int64 → zMem → Prop} (hi : μ.2.2.2.2[i]? = some (pc, .invokestatic index, 3)) (hb : b = (zn h + zx h, zs h, 0, 0)) (hν : zMF ν 5) (hlk : Cond.methodLink μ.1.cls index ν.1 ∈ ztb ∧ Cond.static ν.1 ∈ ztb) (hw : (st.map fun v => v.category).sum ≤ 8) (K : zConL G ν d [v1, v2, v3, v4, v5] h Q) (k : ∀ (v : Int64) (h' : zMem), Q v h' → zg G μ (d + 1) (pc + 3) lv (.long v :: st) h' P) : zGo G μ (d + 1) b pc lv (v5 :: v4 :: v3 :: v2 :: v1 :: st) h P := by
  subst hb
  exact z_callS i 5 [v1, v2, v3, v4, v5] hi hν hlk rfl hw (Nat.le_refl _) ⟨Nat.le_refl _, Nat.le_refl _⟩ K (fun r h' q c1 c2 => by
    obtain ⟨v, rfl, q⟩ := q
    exact zgo_cnt c1 c2 (k v h' q))
theorem z_cVV5 (i : Nat) {index : Nat} {ν : zM} {a ci : Nat} {v1 v2 v3 v4 v5 : Value} {Q : zMem → Prop} (hi : μ.2.2.2.2[i]? = some (pc, .invokevirtual index, 3)) (hb : b = (zn h + zx h, zs h, 0, 0)) (hν : zMF ν 5) (hlk : Cond.methodLink μ.1.cls index ν.1 ∈ ztb ∧ Cond.instanceMethod ν.1 ∈ ztb ∧ Cond.selects ν.1.cls ν.1 ν.1 ∈ ztb) (hcl : ∃ q, zcl[ci]? = some q ∧ q.1 = ν.1.cls) (hci : ci < 100) (ho : zO h a ci) (hw : (st.map fun v => v.category).sum ≤ 8) (K : zConV G ν d [.ref a, v1, v2, v3, v4, v5] h Q) (k : ∀ (h' : zMem), Q h' → zg G μ (d + 1) (pc + 3) lv (st) h' P) : zGo G μ (d + 1) b pc lv (v5 :: v4 :: v3 :: v2 :: v1 :: .ref a :: st) h P := by
  subst hb
  exact z_callV i 5 [v1, v2, v3, v4, v5] hi hν hlk ho hcl hci rfl hw (Nat.le_refl _) ⟨Nat.le_refl _, Nat.le_refl _⟩ K (fun r h' q c1 c2 => by
    obtain ⟨rfl, q⟩ := q
    exact zgo_cnt c1 c2 (k h' q))
theorem z_cSV5 (i : Nat) {index : Nat} {ν : zM} {v1 v2 v3 v4 v5 : Value} {Q : zMem → Prop} (hi : μ.2.2.2.2[i]? = some (pc, .invokestatic index, 3)) (hb : b = (zn h + zx h, zs h, 0, 0)) (hν : zMF ν 5) (hlk : Cond.methodLink μ.1.cls index ν.1 ∈ ztb ∧ Cond.static ν.1 ∈ ztb) (hw : (st.map fun v => v.category).sum ≤ 8) (K : zConV G ν d [v1, v2, v3, v4, v5] h Q) (k : ∀ (h' : zMem), Q h' → zg G μ (d + 1) (pc + 3) lv (st) h' P) : zGo G μ (d + 1) b pc lv (v5 :: v4 :: v3 :: v2 :: v1 :: st) h P := by
  subst hb
  exact z_callS i 5 [v1, v2, v3, v4, v5] hi hν hlk rfl hw (Nat.le_refl _) ⟨Nat.le_refl _, Nat.le_refl _⟩ K (fun r h' q c1 c2 => by
    obtain ⟨rfl, q⟩ := q
    exact zgo_cnt c1 c2 (k h' q))
theorem z_cVR5 (i : Nat) {index : Nat} {ν : zM} {a ci : Nat} {v1 v2 v3 v4 v5 : Value} {Q : Nat → zMem → Prop} (hi : μ.2.2.2.2[i]? = some (pc, .invokevirtual index, 3)) (hb : b = (zn h + zx h, zs h, 0, 0)) (hν : zMF ν 5) (hlk : Cond.methodLink μ.1.cls index ν.1 ∈ ztb ∧ Cond.instanceMethod ν.1 ∈ ztb ∧ Cond.selects ν.1.cls ν.1 ν.1 ∈ ztb) (hcl : ∃ q, zcl[ci]? = some q ∧ q.1 = ν.1.cls) (hci : ci < 100) (ho : zO h a ci) (hw : (st.map fun v => v.category).sum ≤ 8) (K : zConR G ν d [.ref a, v1, v2, v3, v4, v5] h Q) (k : ∀ (v : Nat) (h' : zMem), Q v h' → zg G μ (d + 1) (pc + 3) lv (.ref v :: st) h' P) : zGo G μ (d + 1) b pc lv (v5 :: v4 :: v3 :: v2 :: v1 :: .ref a :: st) h P := by
  subst hb
  exact z_callV i 5 [v1, v2, v3, v4, v5] hi hν hlk ho hcl hci rfl hw (Nat.le_refl _) ⟨Nat.le_refl _, Nat.le_refl _⟩ K (fun r h' q c1 c2 => by
    obtain ⟨v, rfl, q⟩ := q
    exact zgo_cnt c1 c2 (k v h' q))
theorem z_cSR5 (i : Nat) {index : Nat} {ν : zM} {v1 v2 v3 v4 v5 : Value} {Q : Nat → zMem → Prop} (hi : μ.2.2.2.2[i]? = some (pc, .invokestatic index, 3)) (hb : b = (zn h + zx h, zs h, 0, 0)) (hν : zMF ν 5) (hlk : Cond.methodLink μ.1.cls index ν.1 ∈ ztb ∧ Cond.static ν.1 ∈ ztb) (hw : (st.map fun v => v.category).sum ≤ 8) (K : zConR G ν d [v1, v2, v3, v4, v5] h Q) (k : ∀ (v : Nat) (h' : zMem), Q v h' → zg G μ (d + 1) (pc + 3) lv (.ref v :: st) h' P) : zGo G μ (d + 1) b pc lv (v5 :: v4 :: v3 :: v2 :: v1 :: st) h P := by
  subst hb
  exact z_callS i 5 [v1, v2, v3, v4, v5] hi hν hlk rfl hw (Nat.le_refl _) ⟨Nat.le_refl _, Nat.le_refl _⟩ K (fun r h' q c1 c2 => by
    obtain ⟨v, rfl, q⟩ := q
    exact zgo_cnt c1 c2 (k v h' q))
theorem z_cVI6 (i : Nat) {index : Nat} {ν : zM} {a ci : Nat} {v1 v2 v3 v4 v5 v6 : Value} {Q : Int32 → zMem → Prop} (hi : μ.2.2.2.2[i]? = some (pc, .invokevirtual index, 3)) (hb : b = (zn h + zx h, zs h, 0, 0)) (hν : zMF ν 6) (hlk : Cond.methodLink μ.1.cls index ν.1 ∈ ztb ∧ Cond.instanceMethod ν.1 ∈ ztb ∧ Cond.selects ν.1.cls ν.1 ν.1 ∈ ztb) (hcl : ∃ q, zcl[ci]? = some q ∧ q.1 = ν.1.cls) (hci : ci < 100) (ho : zO h a ci) (hw : (st.map fun v => v.category).sum ≤ 8) (K : zConI G ν d [.ref a, v1, v2, v3, v4, v5, v6] h Q) (k : ∀ (v : Int32) (h' : zMem), Q v h' → zg G μ (d + 1) (pc + 3) lv (.int v :: st) h' P) : zGo G μ (d + 1) b pc lv (v6 :: v5 :: v4 :: v3 :: v2 :: v1 :: .ref a :: st) h P := by
  subst hb
  exact z_callV i 6 [v1, v2, v3, v4, v5, v6] hi hν hlk ho hcl hci rfl hw (Nat.le_refl _) ⟨Nat.le_refl _, Nat.le_refl _⟩ K (fun r h' q c1 c2 => by
    obtain ⟨v, rfl, q⟩ := q
    exact zgo_cnt c1 c2 (k v h' q))
theorem z_cSI6 (i : Nat) {index : Nat} {ν : zM} {v1 v2 v3 v4 v5 v6 : Value} {Q : Int32 → zMem → Prop} (hi : μ.2.2.2.2[i]? = some (pc, .invokestatic index, 3)) (hb : b = (zn h + zx h, zs h, 0, 0)) (hν : zMF ν 6) (hlk : Cond.methodLink μ.1.cls index ν.1 ∈ ztb ∧ Cond.static ν.1 ∈ ztb) (hw : (st.map fun v => v.category).sum ≤ 8) (K : zConI G ν d [v1, v2, v3, v4, v5, v6] h Q) (k : ∀ (v : Int32) (h' : zMem), Q v h' → zg G μ (d + 1) (pc + 3) lv (.int v :: st) h' P) : zGo G μ (d + 1) b pc lv (v6 :: v5 :: v4 :: v3 :: v2 :: v1 :: st) h P := by
  subst hb
  exact z_callS i 6 [v1, v2, v3, v4, v5, v6] hi hν hlk rfl hw (Nat.le_refl _) ⟨Nat.le_refl _, Nat.le_refl _⟩ K (fun r h' q c1 c2 => by
    obtain ⟨v, rfl, q⟩ := q
    exact zgo_cnt c1 c2 (k v h' q))
theorem z_cVL6 (i : Nat) {index : Nat} {ν : zM} {a ci : Nat} {v1 v2 v3 v4 v5 v6 : Value} {Q : Int64 → zMem → Prop} (hi : μ.2.2.2.2[i]? = some (pc, .invokevirtual index, 3)) (hb : b = (zn h + zx h, zs h, 0, 0)) (hν : zMF ν 6) (hlk : Cond.methodLink μ.1.cls index ν.1 ∈ ztb ∧ Cond.instanceMethod ν.1 ∈ ztb ∧ Cond.selects ν.1.cls ν.1 ν.1 ∈ ztb) (hcl : ∃ q, zcl[ci]? = some q ∧ q.1 = ν.1.cls) (hci : ci < 100) (ho : zO h a ci) (hw : (st.map fun v => v.category).sum ≤ 8) (K : zConL G ν d [.ref a, v1, v2, v3, v4, v5, v6] h Q) (k : ∀ (v : Int64) (h' : zMem), Q v h' → zg G μ (d + 1) (pc + 3) lv (.long v :: st) h' P) : zGo G μ (d + 1) b pc lv (v6 :: v5 :: v4 :: v3 :: v2 :: v1 :: .ref a :: st) h P := by
  subst hb
  exact z_callV i 6 [v1, v2, v3, v4, v5, v6] hi hν hlk ho hcl hci rfl hw (Nat.le_refl _) ⟨Nat.le_refl _, Nat.le_refl _⟩ K (fun r h' q c1 c2 => by
    obtain ⟨v, rfl, q⟩ := q
    exact zgo_cnt c1 c2 (k v h' q))
theorem z_cSL6 (i : Nat) {index : Nat} {ν : zM} {v1 v2 v3 v4 v5 v6 : Value} {Q : Int64 → zMem → Prop} (hi : μ.2.2.2.2[i]? = some (pc, .invokestatic index, 3)) (hb : b = (zn h + zx h, zs h, 0, 0)) (hν : zMF ν 6) (hlk : Cond.methodLink μ.1.cls index ν.1 ∈ ztb ∧ Cond.static ν.1 ∈ ztb) (hw : (st.map fun v => v.category).sum ≤ 8) (K : zConL G ν d [v1, v2, v3, v4, v5, v6] h Q) (k : ∀ (v : Int64) (h' : zMem), Q v h' → zg G μ (d + 1) (pc + 3) lv (.long v :: st) h' P) : zGo G μ (d + 1) b pc lv (v6 :: v5 :: v4 :: v3 :: v2 :: v1 :: st) h P := by
  subst hb
  exact z_callS i 6 [v1, v2, v3, v4, v5, v6] hi hν hlk rfl hw (Nat.le_refl _) ⟨Nat.le_refl _, Nat.le_refl _⟩ K (fun r h' q c1 c2 => by
    obtain ⟨v, rfl, q⟩ := q
    exact zgo_cnt c1 c2 (k v h' q))
theorem z_cVV6 (i : Nat) {index : Nat} {ν : zM} {a ci : Nat} {v1 v2 v3 v4 v5 v6 : Value} {Q : zMem → Prop} (hi : μ.2.2.2.2[i]? = some (pc, .invokevirtual index, 3)) (hb : b = (zn h + zx h, zs h, 0, 0)) (hν : zMF ν 6) (hlk : Cond.methodLink μ.1.cls index ν.1 ∈ ztb ∧ Cond.instanceMethod ν.1 ∈ ztb ∧ Cond.selects ν.1.cls ν.1 ν.1 ∈ ztb) (hcl : ∃ q, zcl[ci]? = some q ∧ q.1 = ν.1.cls) (hci : ci < 100) (ho : zO h a ci) (hw : (st.map fun v => v.category).sum ≤ 8) (K : zConV G ν d [.ref a, v1, v2, v3, v4, v5, v6] h Q) (k : ∀ (h' : zMem), Q h' → zg G μ (d + 1) (pc + 3) lv (st) h' P) : zGo G μ (d + 1) b pc lv (v6 :: v5 :: v4 :: v3 :: v2 :: v1 :: .ref a :: st) h P := by
  subst hb
  exact z_callV i 6 [v1, v2, v3, v4, v5, v6] hi hν hlk ho hcl hci rfl hw (Nat.le_refl _) ⟨Nat.le_refl _, Nat.le_refl _⟩ K (fun r h' q c1 c2 => by
    obtain ⟨rfl, q⟩ := q
    exact zgo_cnt c1 c2 (k h' q))
theorem z_cSV6 (i : Nat) {index : Nat} {ν : zM} {v1 v2 v3 v4 v5 v6 : Value} {Q : zMem → Prop} (hi : μ.2.2.2.2[i]? = some (pc, .invokestatic index, 3)) (hb : b = (zn h + zx h, zs h, 0, 0)) (hν : zMF ν 6) (hlk : Cond.methodLink μ.1.cls index ν.1 ∈ ztb ∧ Cond.static ν.1 ∈ ztb) (hw : (st.map fun v => v.category).sum ≤ 8) (K : zConV G ν d [v1, v2, v3, v4, v5, v6] h Q) (k : ∀ (h' : zMem), Q h' → zg G μ (d + 1) (pc + 3) lv (st) h' P) : zGo G μ (d + 1) b pc lv (v6 :: v5 :: v4 :: v3 :: v2 :: v1 :: st) h P := by
  subst hb
  exact z_callS i 6 [v1, v2, v3, v4, v5, v6] hi hν hlk rfl hw (Nat.le_refl _) ⟨Nat.le_refl _, Nat.le_refl _⟩ K (fun r h' q c1 c2 => by
    obtain ⟨rfl, q⟩ := q
    exact zgo_cnt c1 c2 (k h' q))
theorem z_cVR6 (i : Nat) {index : Nat} {ν : zM} {a ci : Nat} {v1 v2 v3 v4 v5 v6 : Value} {Q : Nat → zMem → Prop} (hi : μ.2.2.2.2[i]? = some (pc, .invokevirtual index, 3)) (hb : b = (zn h + zx h, zs h, 0, 0)) (hν : zMF ν 6) (hlk : Cond.methodLink μ.1.cls index ν.1 ∈ ztb ∧ Cond.instanceMethod ν.1 ∈ ztb ∧ Cond.selects ν.1.cls ν.1 ν.1 ∈ ztb) (hcl : ∃ q, zcl[ci]? = some q ∧ q.1 = ν.1.cls) (hci : ci < 100) (ho : zO h a ci) (hw : (st.map fun v => v.category).sum ≤ 8) (K : zConR G ν d [.ref a, v1, v2, v3, v4, v5, v6] h Q) (k : ∀ (v : Nat) (h' : zMem), Q v h' → zg G μ (d + 1) (pc + 3) lv (.ref v :: st) h' P) : zGo G μ (d + 1) b pc lv (v6 :: v5 :: v4 :: v3 :: v2 :: v1 :: .ref a :: st) h P := by
  subst hb
  exact z_callV i 6 [v1, v2, v3, v4, v5, v6] hi hν hlk ho hcl hci rfl hw (Nat.le_refl _) ⟨Nat.le_refl _, Nat.le_refl _⟩ K (fun r h' q c1 c2 => by
    obtain ⟨v, rfl, q⟩ := q
    exact zgo_cnt c1 c2 (k v h' q))
theorem z_cSR6 (i : Nat) {index : Nat} {ν : zM} {v1 v2 v3 v4 v5 v6 : Value} {Q : Nat → zMem → Prop} (hi : μ.2.2.2.2[i]? = some (pc, .invokestatic index, 3)) (hb : b = (zn h + zx h, zs h, 0, 0)) (hν : zMF ν 6) (hlk : Cond.methodLink μ.1.cls index ν.1 ∈ ztb ∧ Cond.static ν.1 ∈ ztb) (hw : (st.map fun v => v.category).sum ≤ 8) (K : zConR G ν d [v1, v2, v3, v4, v5, v6] h Q) (k : ∀ (v : Nat) (h' : zMem), Q v h' → zg G μ (d + 1) (pc + 3) lv (.ref v :: st) h' P) : zGo G μ (d + 1) b pc lv (v6 :: v5 :: v4 :: v3 :: v2 :: v1 :: st) h P := by
  subst hb
  exact z_callS i 6 [v1, v2, v3, v4, v5, v6] hi hν hlk rfl hw (Nat.le_refl _) ⟨Nat.le_refl _, Nat.le_refl _⟩ K (fun r h' q c1 c2 => by
    obtain ⟨v, rfl, q⟩ := q
    exact zgo_cnt c1 c2 (k v h' q))
theorem z_cVI7 (i : Nat) {index : Nat} {ν : zM} {a ci : Nat} {v1 v2 v3 v4 v5 v6 v7 : Value} {Q : Int32 → zMem → Prop} (hi : μ.2.2.2.2[i]? = some (pc, .invokevirtual index, 3)) (hb : b = (zn h + zx h, zs h, 0, 0)) (hν : zMF ν 7) (hlk : Cond.methodLink μ.1.cls index ν.1 ∈ ztb ∧ Cond.instanceMethod ν.1 ∈ ztb ∧ Cond.selects ν.1.cls ν.1 ν.1 ∈ ztb) (hcl : ∃ q, zcl[ci]? = some q ∧ q.1 = ν.1.cls) (hci : ci < 100) (ho : zO h a ci) (hw : (st.map fun v => v.category).sum ≤ 8) (K : zConI G ν d [.ref a, v1, v2, v3, v4, v5, v6, v7] h Q) (k : ∀ (v : Int32) (h' : zMem), Q v h' → zg G μ (d + 1) (pc + 3) lv (.int v :: st) h' P) : zGo G μ (d + 1) b pc lv (v7 :: v6 :: v5 :: v4 :: v3 :: v2 :: v1 :: .ref a :: st) h P := by
  subst hb
  exact z_callV i 7 [v1, v2, v3, v4, v5, v6, v7] hi hν hlk ho hcl hci rfl hw (Nat.le_refl _) ⟨Nat.le_refl _, Nat.le_refl _⟩ K (fun r h' q c1 c2 => by
    obtain ⟨v, rfl, q⟩ := q
    exact zgo_cnt c1 c2 (k v h' q))
theorem z_cSI7 (i : Nat) {index : Nat} {ν : zM} {v1 v2 v3 v4 v5 v6 v7 : Value} {Q : Int32 → zMem → Prop} (hi : μ.2.2.2.2[i]? = some (pc, .invokestatic index, 3)) (hb : b = (zn h + zx h, zs h, 0, 0)) (hν : zMF ν 7) (hlk : Cond.methodLink μ.1.cls index ν.1 ∈ ztb ∧ Cond.static ν.1 ∈ ztb) (hw : (st.map fun v => v.category).sum ≤ 8) (K : zConI G ν d [v1, v2, v3, v4, v5, v6, v7] h Q) (k : ∀ (v : Int32) (h' : zMem), Q v h' → zg G μ (d + 1) (pc + 3) lv (.int v :: st) h' P) : zGo G μ (d + 1) b pc lv (v7 :: v6 :: v5 :: v4 :: v3 :: v2 :: v1 :: st) h P := by
  subst hb
  exact z_callS i 7 [v1, v2, v3, v4, v5, v6, v7] hi hν hlk rfl hw (Nat.le_refl _) ⟨Nat.le_refl _, Nat.le_refl _⟩ K (fun r h' q c1 c2 => by
    obtain ⟨v, rfl, q⟩ := q
    exact zgo_cnt c1 c2 (k v h' q))
theorem z_cVL7 (i : Nat) {index : Nat} {ν : zM} {a ci : Nat} {v1 v2 v3 v4 v5 v6 v7 : Value} {Q : Int64 → zMem → Prop} (hi : μ.2.2.2.2[i]? = some (pc, .invokevirtual index, 3)) (hb : b = (zn h + zx h, zs h, 0, 0)) (hν : zMF ν 7) (hlk : Cond.methodLink μ.1.cls index ν.1 ∈ ztb ∧ Cond.instanceMethod ν.1 ∈ ztb ∧ Cond.selects ν.1.cls ν.1 ν.1 ∈ ztb) (hcl : ∃ q, zcl[ci]? = some q ∧ q.1 = ν.1.cls) (hci : ci < 100) (ho : zO h a ci) (hw : (st.map fun v => v.category).sum ≤ 8) (K : zConL G ν d [.ref a, v1, v2, v3, v4, v5, v6, v7] h Q) (k : ∀ (v : Int64) (h' : zMem), Q v h' → zg G μ (d + 1) (pc + 3) lv (.long v :: st) h' P) : zGo G μ (d + 1) b pc lv (v7 :: v6 :: v5 :: v4 :: v3 :: v2 :: v1 :: .ref a :: st) h P := by
  subst hb
  exact z_callV i 7 [v1, v2, v3, v4, v5, v6, v7] hi hν hlk ho hcl hci rfl hw (Nat.le_refl _) ⟨Nat.le_refl _, Nat.le_refl _⟩ K (fun r h' q c1 c2 => by
    obtain ⟨v, rfl, q⟩ := q
    exact zgo_cnt c1 c2 (k v h' q))
theorem z_cSL7 (i : Nat) {index : Nat} {ν : zM} {v1 v2 v3 v4 v5 v6 v7 : Value} {Q : Int64 → zMem → Prop} (hi : μ.2.2.2.2[i]? = some (pc, .invokestatic index, 3)) (hb : b = (zn h + zx h, zs h, 0, 0)) (hν : zMF ν 7) (hlk : Cond.methodLink μ.1.cls index ν.1 ∈ ztb ∧ Cond.static ν.1 ∈ ztb) (hw : (st.map fun v => v.category).sum ≤ 8) (K : zConL G ν d [v1, v2, v3, v4, v5, v6, v7] h Q) (k : ∀ (v : Int64) (h' : zMem), Q v h' → zg G μ (d + 1) (pc + 3) lv (.long v :: st) h' P) : zGo G μ (d + 1) b pc lv (v7 :: v6 :: v5 :: v4 :: v3 :: v2 :: v1 :: st) h P := by
  subst hb
  exact z_callS i 7 [v1, v2, v3, v4, v5, v6, v7] hi hν hlk rfl hw (Nat.le_refl _) ⟨Nat.le_refl _, Nat.le_refl _⟩ K (fun r h' q c1 c2 => by
    obtain ⟨v, rfl, q⟩ := q
    exact zgo_cnt c1 c2 (k v h' q))
theorem z_cVV7 (i : Nat) {index : Nat} {ν : zM} {a ci : Nat} {v1 v2 v3 v4 v5 v6 v7 : Value} {Q : zMem → Prop} (hi : μ.2.2.2.2[i]? = some (pc, .invokevirtual index, 3)) (hb : b = (zn h + zx h, zs h, 0, 0)) (hν : zMF ν 7) (hlk : Cond.methodLink μ.1.cls index ν.1 ∈ ztb ∧ Cond.instanceMethod ν.1 ∈ ztb ∧ Cond.selects ν.1.cls ν.1 ν.1 ∈ ztb) (hcl : ∃ q, zcl[ci]? = some q ∧ q.1 = ν.1.cls) (hci : ci < 100) (ho : zO h a ci) (hw : (st.map fun v => v.category).sum ≤ 8) (K : zConV G ν d [.ref a, v1, v2, v3, v4, v5, v6, v7] h Q) (k : ∀ (h' : zMem), Q h' → zg G μ (d + 1) (pc + 3) lv (st) h' P) : zGo G μ (d + 1) b pc lv (v7 :: v6 :: v5 :: v4 :: v3 :: v2 :: v1 :: .ref a :: st) h P := by
  subst hb
  exact z_callV i 7 [v1, v2, v3, v4, v5, v6, v7] hi hν hlk ho hcl hci rfl hw (Nat.le_refl _) ⟨Nat.le_refl _, Nat.le_refl _⟩ K (fun r h' q c1 c2 => by
    obtain ⟨rfl, q⟩ := q
    exact zgo_cnt c1 c2 (k h' q))
theorem z_cSV7 (i : Nat) {index : Nat} {ν : zM} {v1 v2 v3 v4 v5 v6 v7 : Value} {Q : zMem → Prop} (hi : μ.2.2.2.2[i]? = some (pc, .invokestatic index, 3)) (hb : b = (zn h + zx h, zs h, 0, 0)) (hν : zMF ν 7) (hlk : Cond.methodLink μ.1.cls index ν.1 ∈ ztb ∧ Cond.static ν.1 ∈ ztb) (hw : (st.map fun v => v.category).sum ≤ 8) (K : zConV G ν d [v1, v2, v3, v4, v5, v6, v7] h Q) (k : ∀ (h' : zMem), Q h' → zg G μ (d + 1) (pc + 3) lv (st) h' P) : zGo G μ (d + 1) b pc lv (v7 :: v6 :: v5 :: v4 :: v3 :: v2 :: v1 :: st) h P := by
  subst hb
  exact z_callS i 7 [v1, v2, v3, v4, v5, v6, v7] hi hν hlk rfl hw (Nat.le_refl _) ⟨Nat.le_refl _, Nat.le_refl _⟩ K (fun r h' q c1 c2 => by
    obtain ⟨rfl, q⟩ := q
    exact zgo_cnt c1 c2 (k h' q))
theorem z_cVR7 (i : Nat) {index : Nat} {ν : zM} {a ci : Nat} {v1 v2 v3 v4 v5 v6 v7 : Value} {Q : Nat → zMem → Prop} (hi : μ.2.2.2.2[i]? = some (pc, .invokevirtual index, 3)) (hb : b = (zn h + zx h, zs h, 0, 0)) (hν : zMF ν 7) (hlk : Cond.methodLink μ.1.cls index ν.1 ∈ ztb ∧ Cond.instanceMethod ν.1 ∈ ztb ∧ Cond.selects ν.1.cls ν.1 ν.1 ∈ ztb) (hcl : ∃ q, zcl[ci]? = some q ∧ q.1 = ν.1.cls) (hci : ci < 100) (ho : zO h a ci) (hw : (st.map fun v => v.category).sum ≤ 8) (K : zConR G ν d [.ref a, v1, v2, v3, v4, v5, v6, v7] h Q) (k : ∀ (v : Nat) (h' : zMem), Q v h' → zg G μ (d + 1) (pc + 3) lv (.ref v :: st) h' P) : zGo G μ (d + 1) b pc lv (v7 :: v6 :: v5 :: v4 :: v3 :: v2 :: v1 :: .ref a :: st) h P := by
  subst hb
  exact z_callV i 7 [v1, v2, v3, v4, v5, v6, v7] hi hν hlk ho hcl hci rfl hw (Nat.le_refl _) ⟨Nat.le_refl _, Nat.le_refl _⟩ K (fun r h' q c1 c2 => by
    obtain ⟨v, rfl, q⟩ := q
    exact zgo_cnt c1 c2 (k v h' q))
theorem z_cSR7 (i : Nat) {index : Nat} {ν : zM} {v1 v2 v3 v4 v5 v6 v7 : Value} {Q : Nat → zMem → Prop} (hi : μ.2.2.2.2[i]? = some (pc, .invokestatic index, 3)) (hb : b = (zn h + zx h, zs h, 0, 0)) (hν : zMF ν 7) (hlk : Cond.methodLink μ.1.cls index ν.1 ∈ ztb ∧ Cond.static ν.1 ∈ ztb) (hw : (st.map fun v => v.category).sum ≤ 8) (K : zConR G ν d [v1, v2, v3, v4, v5, v6, v7] h Q) (k : ∀ (v : Nat) (h' : zMem), Q v h' → zg G μ (d + 1) (pc + 3) lv (.ref v :: st) h' P) : zGo G μ (d + 1) b pc lv (v7 :: v6 :: v5 :: v4 :: v3 :: v2 :: v1 :: st) h P := by
  subst hb
  exact z_callS i 7 [v1, v2, v3, v4, v5, v6, v7] hi hν hlk rfl hw (Nat.le_refl _) ⟨Nat.le_refl _, Nat.le_refl _⟩ K (fun r h' q c1 c2 => by
    obtain ⟨v, rfl, q⟩ := q
    exact zgo_cnt c1 c2 (k v h' q))
end ZB7
/-! System.arraycopy of ints -/
def zcp (h : zMem) (src sp dst dp n : Nat) : zMem := (h.1, h.2.1, ((fun a j => if a = dst then va_cpy (zI h src) (zI h dst) sp dp n j else zI h a j), zL h))
def zcpok (sp dp n : Int32) (n0 n1 : Nat) : Prop := ¬ sp < 0 ∧ ¬ dp < 0 ∧ ¬ n < 0 ∧ sp.toNatClampNeg + n.toNatClampNeg ≤ n0 ∧ dp.toNatClampNeg + n.toNatClampNeg ≤ n1
theorem zcell_cp_ne {G : zG} {h : zMem} {src sp dst dp n k : Nat} (hk : k ≠ dst) : zcell G (zcp h src sp dst dp n) k = zcell G h k := by
  have e : zI (zcp h src sp dst dp n) k = zI h k := funext fun j => if_neg hk
  have e2 : zfv G (zcp h src sp dst dp n) k (zK h k) = zfv G h k (zK h k) := by
    funext j
    show (match zty (zK h k) j with
      | .long => Value.long (zL h k j)
      | .object _ => va_rf ((zR h k j).map (zad G))
      | .array _ => va_rf ((zR h k j).map (zad G))
      | _ => .int (zI (zcp h src sp dst dp n) k j)) = _
    rw [e]
    rfl
  show (if zK h k = 100 then (Sum.inl (gA G 0, zLen h k, .inl (zI (zcp h src sp dst dp n) k)) : va_E)
    else if zK h k = 101 then .inl (gA G 1, zLen h k, .inr (.inl (zL h k)))
    else if zK h k = 102 then .inl (gA G 2, zLen h k, .inl (zI (zcp h src sp dst dp n) k))
    else if zK h k = 103 then .inl (gA G 3, zLen h k, .inl (zI (zcp h src sp dst dp n) k))
    else if zK h k = 104 then .inl (gA G 4, zLen h k, .inr (.inr (.inr (.inr (fun j => (zR h k j).map (zad G))))))
    else .inr (zK h k, (List.range (zfn (zK h k))).map (zfv G (zcp h src sp dst dp n) k (zK h k)))) = _
  rw [e, e2]
  rfl
theorem z_acopy {G : zG} {μ : zM} {d : Nat} {b : zB} {pc : Nat} {lv st : List Value} {h : zMem} {P : Option Value → zMem → Prop} (i : Nat) {index src dst : Nat} {sp dp n : Int32} (hi : μ.2.2.2.2[i]? = some (pc, .invokestatic index, 3)) (hlk : Cond.methodLink μ.1.cls index arraycopyName ∈ ztb ∧ Cond.static arraycopyName ∈ ztb ∧ Cond.native arraycopyName ∈ ztb ∧ Cond.initialized "java/lang/System" ∈ ztb) (o1 : zO h src 100) (o2 : zO h dst 100) (hok : zcpok sp dp n (zLen h src) (zLen h dst)) (hw : (st.map fun v => v.category).sum ≤ 8)
    (k : zGo G μ (d + 1) b (pc + 3) lv st (zcp h src sp.toNatClampNeg dst dp.toNatClampNeg n.toNatClampNeg) P) : zGo G μ (d + 1) b pc lv (.int n :: .int dp :: .ref dst :: .int sp :: .ref src :: st) h P := by
  intro p l e R s m args below meth c C H locs ls hR hl h1 h2
  have hts := C.2.2.2.2.2.2.1
  have hK := C.2.2.2.2.2.2.2.1.1
  have hrm := C.2.2.2.2.2.2.2.2.2.2
  have he0 : (zw G h)[src]? = some (zad G src, .inl (gA G 0, zLen h src, .inl (zI h src))) := by rw [zw_at o1.1, zcell_i o1.2]
  have he1 : (zw G h)[dst]? = some (zad G dst, .inl (gA G 0, zLen h dst, .inl (zI h dst))) := by rw [zw_at o2.1, zcell_i o2.2]
  have hD := zw_D (G := G) (h := h) hR.2.2.2
  have hc0 : H[zad G src]? = some (arrV (gA G 0) (zLen h src) (fun j => .int (zI h src j))) := hR.1 src _ he0
  have hc1 : H[zad G dst]? = some (arrV (gA G 0) (zLen h dst) (fun j => .int (zI h dst j))) := hR.1 dst _ he1
  have nn : ∀ z : Int32, ¬ z < 0 → z.toInt = (z.toNatClampNeg : Int) := by
    intro z hz
    have hz0 : (0 : Int) ≤ z.toInt := by simpa using Int32.le_iff_toInt_le.mp (Int32.not_lt.mp hz)
    show z.toInt = ((z.toInt.toNat : Nat) : Int)
    omega
  obtain ⟨g1, g2, g3, g4, g5⟩ := hok
  intro T hT X
  obtain ⟨-, k0, hk0, cm0, hkk0⟩ := (hK.2 0 _ rfl).1 (zLen h src) (fun j => .int (zI h src j))
  obtain ⟨-, k1, hk1, cm1, hkk1⟩ := (hK.2 0 _ rfl).1 (zLen h dst) (fun j => .int (zI h dst j))
  obtain ⟨vm', X', step⟩ := X.arraycopy C.1 C.2.2.2.2.2.1 (hts _ hlk.1) (hts _ hlk.2.2.1) (hts _ hlk.2.1) (hts _ hlk.2.2.2) (src := zad G src) (dst := zad G dst) (cs := arrV (gA G 0) (zLen h src) (fun j => .int (zI h src j))) (cd := arrV (gA G 0) (zLen h dst) (fun j => .int (zI h dst j))) (srcPos := sp) (destPos := dp) (n := n) (by rw [hT]; exact hc0) (by rw [hT]; exact hc1)
    (fun _ h => by cases h) (fun _ h => by cases h) (fun h => by cases h) (fun h => by cases h) hk0 hk1 hkk0 hkk1 rfl g1 g2 g3
    (by rw [nn sp g1, nn n g3, arrV_size]; omega)
    (by rw [nn dp g2, nn n g3, arrV_size]; omega)
    (fun vm₁ _ i hi => by
      have e : (arrV (gA G 0) (zLen h src) (fun j => .int (zI h src j))).slots.getD (sp.toNatClampNeg + i) .null = .int (zI h src (sp.toNatClampNeg + i)) := by
        rw [Array.getD_eq_getD_getElem?, arrV_read _ _ (by omega)]
        rfl
      exact ⟨by rw [e]; rfl, by rw [e]; exact trivial⟩)
    (g := F0 m pc ls (.int n :: .int dp :: .ref (zad G dst) :: .int sp :: .ref (zad G src) :: st.map (zrv G))) rfl (by rw [C.2.2.1]; exact hl.1) (rest := st.map (zrv G)) rfl (by rw [C.2.1]; exact zdg C hi) (by rw [hrm]; show 1 ≤ d + 1; omega) (by
      rw [hrm, zsum_cat]
      show 2 * 0 + (st.map fun v => v.category).sum + (nativeFrameWords "java/lang/System" "arraycopy" 5 + 11) ≤ 64 * (d + 1)
      have : nativeFrameWords "java/lang/System" "arraycopy" 5 ≤ 44 := by decide
      omega)
  have e1 : copied (arrV (gA G 0) (zLen h src) (fun j => .int (zI h src j))) (arrV (gA G 0) (zLen h dst) (fun j => .int (zI h dst j))) sp dp n = arrV (gA G 0) (zLen h dst) (fun j => .int (va_cpy (zI h src) (zI h dst) sp.toNatClampNeg dp.toNatClampNeg n.toNatClampNeg j)) := va_copied (fun z => .int z) (gA G 0) (gA G 0) (zI h src) (zI h dst) g4
  rw [e1] at X' step
  have hlt : zad G dst < H.size := (Array.getElem?_eq_some_iff.mp hc1).1
  have oq : ∀ q : Nat, q ≠ zad G dst → (H.setIfInBounds (zad G dst) (arrV (gA G 0) (zLen h dst) (fun j => .int (va_cpy (zI h src) (zI h dst) sp.toNatClampNeg dp.toNatClampNeg n.toNatClampNeg j))))[q]? = H[q]? := fun q hq => by simp [Array.getElem?_setIfInBounds, Ne.symm hq]
  have hcell : zcell G (zcp h src sp.toNatClampNeg dst dp.toNatClampNeg n.toNatClampNeg) dst = .inl (gA G 0, zLen h dst, .inl (va_cpy (zI h src) (zI h dst) sp.toNatClampNeg dp.toNatClampNeg n.toNatClampNeg)) := by
    rw [zcell_i (show zK (zcp h src sp.toNatClampNeg dst dp.toNatClampNeg n.toNatClampNeg) dst = 100 from o2.2)]
    have : zI (zcp h src sp.toNatClampNeg dst dp.toNatClampNeg n.toNatClampNeg) dst = va_cpy (zI h src) (zI h dst) sp.toNatClampNeg dp.toNatClampNeg n.toNatClampNeg := funext fun j => if_pos rfl
    rw [this]
    rfl
  have hP1 := hR.1.set hD he1 (e := zcell G (zcp h src sp.toNatClampNeg dst dp.toNatClampNeg n.toNatClampNeg) dst) (H1 := H.setIfInBounds (zad G dst) (arrV (gA G 0) (zLen h dst) (fun j => .int (va_cpy (zI h src) (zI h dst) sp.toNatClampNeg dp.toNatClampNeg n.toNatClampNeg j)))) (by
    rw [hcell]
    show (H.setIfInBounds (zad G dst) _)[zad G dst]? = some _
    simp [Array.getElem?_setIfInBounds, hlt]
    rfl) oq
  obtain ⟨t, a1, b1⟩ := k p l e R s m args below meth c C _ _ ls (hR.set (locs1 := _) o2.1 rfl rfl rfl (fun j hj => zcell_cp_ne hj) (by simp) hP1 ⟨by simp; exact hR.2.1.1, fun q g1 g2 => by
      rw [oq q (fun e => g2 (by rw [e]; exact hD.2 dst _ he1))]
      exact hR.2.1.2.1 q g1 g2, fun q hq => by
      rcases List.mem_append.mp hq with h | h
      · exact hR.2.1.2.2 q h
      · obtain ⟨z, -, hz⟩ := List.mem_map.mp h
        rw [← hz]
        exact hD.2 dst _ he1⟩) hl h1 h2 _ (by rw [← hT]; rfl) X'
  exact ⟨t, step t a1, b1⟩
theorem z_acopy_c {G : zG} {μ : zM} {d : Nat} {b : zB} {pc : Nat} {lv st : List Value} {h : zMem} {P : Option Value → zMem → Prop} (i n1 n2 n3 : Nat) {index src dst : Nat} {sp dp n : Int32} (hi : μ.2.2.2.2[i]? = some (pc, .invokestatic index, 3)) (hlk : Cond.methodLink μ.1.cls index arraycopyName ∈ ztb ∧ Cond.static arraycopyName ∈ ztb ∧ Cond.native arraycopyName ∈ ztb ∧ Cond.initialized "java/lang/System" ∈ ztb) (o1 : zO h src 100) (o2 : zO h dst 100) (hok : zcpok sp dp n (zLen h src) (zLen h dst)) (hw : (st.map fun v => v.category).sum ≤ 8) (e1 : sp.toNatClampNeg = n1) (e2 : dp.toNatClampNeg = n2) (e3 : n.toNatClampNeg = n3)
    (k : zGo G μ (d + 1) b (pc + 3) lv st (zcp h src n1 dst n2 n3) P) : zGo G μ (d + 1) b pc lv (.int n :: .int dp :: .ref dst :: .int sp :: .ref src :: st) h P := by
  subst e1; subst e2; subst e3
  exact z_acopy i hi hlk o1 o2 hok hw k
theorem zcpok_of {h : zMem} {src dst n0 n1 : Nat} {sp dp n : Int32} (e0 : zLen h src = n0) (e1 : zLen h dst = n1) (o : ¬ sp < 0 ∧ ¬ dp < 0 ∧ ¬ n < 0 ∧ sp.toNatClampNeg + n.toNatClampNeg ≤ n0 ∧ dp.toNatClampNeg + n.toNatClampNeg ≤ n1) : zcpok sp dp n (zLen h src) (zLen h dst) := by rw [e0, e1]; exact o
theorem gacX5 : Cond.methodLink "SmellAbbey$State" 71 arraycopyName ∈ ztb ∧ Cond.static arraycopyName ∈ ztb ∧ Cond.native arraycopyName ∈ ztb ∧ Cond.initialized "java/lang/System" ∈ ztb := ⟨ztb_t (zt4 _ (List.mem_of_getElem? (i := 120) rfl)) rfl, ztb_t (zt4 _ (List.mem_of_getElem? (i := 121) rfl)) rfl, ztb_t (zt4 _ (List.mem_of_getElem? (i := 122) rfl)) rfl, ztb_t (zt1 _ (List.mem_of_getElem? (i := 22) rfl)) rfl⟩
theorem gacX9 : Cond.methodLink "SmellAbbey" 243 arraycopyName ∈ ztb ∧ Cond.static arraycopyName ∈ ztb ∧ Cond.native arraycopyName ∈ ztb ∧ Cond.initialized "java/lang/System" ∈ ztb := ⟨ztb_t (zt4 _ (List.mem_of_getElem? (i := 145) rfl)) rfl, ztb_t (zt4 _ (List.mem_of_getElem? (i := 121) rfl)) rfl, ztb_t (zt4 _ (List.mem_of_getElem? (i := 122) rfl)) rfl, ztb_t (zt1 _ (List.mem_of_getElem? (i := 22) rfl)) rfl⟩
