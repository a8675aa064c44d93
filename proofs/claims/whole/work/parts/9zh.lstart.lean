/-! the law's start -/
section LST
variable {G : zG} {d : Nat} {b : zB} {h : zMem} {P : Option Value → zMem → Prop} {lv st : List Value} {pc : Nat} {μ : zM}
theorem z_makeQ {ν : zM} {ci N d' bc bs index index2 : Nat} {C : String} {T : u_T} {Q : zMem → Prop} (i : Nat) (hi : μ.2.2.2.2[i]? = some (pc, .new index, 3)) (hi2 : μ.2.2.2.2[i + 1]? = some (pc + 3, .dup, 1)) (hi3 : μ.2.2.2.2[i + 2]? = some (pc + 3 + 1, .invokespecial index2, 3)) (hC : zCF ci C T N) (hz : ∀ j, j < N → zokT (zty ci j) = true) (hw : Cond.classLink μ.1.cls index C ∈ ztb ∧ Cond.instantiable C N ∈ ztb ∧ Cond.initialized C ∈ ztb) (hν : zMF ν 0) (hret : ν.2.2.2.1 = none) (hnm : ν.1.name = "<init>") (hlk : (Cond.methodLink μ.1.cls index2 ν.1 ∈ ztb ∨ ∃ host, ∀ U, gE G U → va_Nw (.methodLinkNest μ.1.cls index2 ν.1 host) U) ∧ Cond.instanceMethod ν.1 ∈ ztb) (hw8 : ((Value.ref 0 :: st).map fun v => v.category).sum ≤ 8) (hd : d' + 1 ≤ d) (hx : zx h = 0) (hn : zn h < 1000000) (hb : zn h + zx h + (bc + 1) ≤ b.1 + b.2.2.1 ∧ zs h + (N + bs) ≤ b.2.1 + b.2.2.2) (K : zCon G ν d' bc bs [.ref (zn h)] (zapp h [zC0 ci 0 N]) (zPV Q)) (k : ∀ h', Q h' → zn h' + zx h' = zn h + 1 + zx h + bc → zs h' = zs h + N + bs → zGo G μ d b (pc + 3 + 1 + 3) lv (.ref (zn h) :: st) h' P) : zGo G μ d b pc lv st h P := by
  refine z_new i ci N hi hC hz hw hx hn ⟨by omega, by omega⟩ ?_
  refine z_dup (i + 1) hi2 rfl ?_
  have e : znew h ci 0 N = zapp h [zC0 ci 0 N] := by
    have := zapp_new h [] ci 0 N
    rw [zapp_nil] at this
    exact this
  refine zgo_mem e ?_
  refine z_callI (i + 2) hi3 hν hret hnm hlk hw8 hd ⟨?_, ?_⟩ K (fun h' q c1 c2 => k h' q c1 ?_)
  · show zn h + 1 + zx h + bc ≤ _; omega
  · show zs h + (N + 0) + bs ≤ _; omega
  · have c2 : zs h' = zs h + (N + 0) + bs := c2
    omega
set_option maxRecDepth 100000 in
theorem lw_go {Q : Int32 → zMem → Prop} {N : Nat} {xs : Nat → Int32} (hW : gW G) (hov : zOv G) (hns : zNs G) (hMk : lmK G) (hs : scr G N xs) (hN : N ≤ 3072) (hbb : 10000 ≤ b.1 + b.2.2.1 ∧ 50000 ≤ b.2.1 + b.2.2.2) (hq : ∀ h', Q 1 h') (h0 : zn h = 0) (hx : zx h = 0) (hs0 : zs h = 0) : zGo G mL_law (d + 201) b 0 [.ref 1000003, zU, zU, zU, zU, zU, zU] [] h (zPI Q) := by
  refine z_makeQ (d' := d + 7) (bc := 131) (bs := 2189) 0 rfl rfl rfl zc8 (by decide) ⟨ztb_t (zt1 _ (List.mem_of_getElem? (i := 23) rfl)) rfl, ztb_t (zt1 _ (List.mem_of_getElem? (i := 24) rfl)) rfl, ztb_t (zt1 _ (List.mem_of_getElem? (i := 1) rfl)) rfl⟩ fX9_init rfl rfl ⟨Or.inl (ztb_t (zt1 _ (List.mem_of_getElem? (i := 25) rfl)) rfl), ztb_t (zt1 _ (List.mem_of_getElem? (i := 26) rfl)) rfl⟩ (Nat.le_of_ble_eq_true rfl) (by omega) hx (by omega) ⟨by omega, by omega⟩ (mk_X9 (d := d) hW hov hns hx h0) (fun h1 q1 c1 c2 => ?_)
  obtain ⟨w1, b1⟩ := q1
  have n1 : zn h1 = 132 := by
    have : zn h1 = zn (zapp h (saL (zn h))) := congrArg (fun q : Nat × Nat × Nat => q.1) w1.1.1
    rw [this, zn_app, saL_len, h0]
  have x1 : zx h1 = 0 := by omega
  rw [h0]
  refine z_astore_n 3 rfl (by decide) rfl ?_
  refine z_makeQ (d' := d + 3) (bc := 41) (bs := 3178) 4 rfl rfl rfl zc9 (by decide) ⟨ztb_t (zt5 _ (List.mem_of_getElem? (i := 133) rfl)) rfl, ztb_t (zt5 _ (List.mem_of_getElem? (i := 134) rfl)) rfl, ztb_t (zt1 _ (List.mem_of_getElem? (i := 14) rfl)) rfl⟩ fX10_init rfl rfl ⟨Or.inl (ztb_t (zt5 _ (List.mem_of_getElem? (i := 135) rfl)) rfl), ztb_t (zt5 _ (List.mem_of_getElem? (i := 136) rfl)) rfl⟩ (Nat.le_of_ble_eq_true rfl) (by omega) x1 (by omega) ⟨by omega, by omega⟩ (mk_X10 (d := d) x1 n1) (fun h2 q2 c3 c4 => ?_)
  obtain ⟨w2, s2⟩ := q2
  have n2 : zn h2 = 174 := by
    have : zn h2 = zn (zapp h1 (moL (zn h1))) := congrArg (fun q : Nat × Nat × Nat => q.1) w2.1.1
    rw [this, zn_app, moL_len, n1]
  have x2 : zx h2 = 0 := by omega
  rw [n1]
  refine z_astore_n 7 rfl (by decide) rfl ?_
  refine z_iconst (v := 1) 8 rfl (by decide) ?_
  refine zgo_mem (zapp_nil h2).symm ?_
  refine z_newL 9 1 0 0 rfl rfl rfl (by decide) (by decide) x2 (by omega) ⟨by omega, by omega⟩ (by decide) ?_
  show zGo G mL_law (d + 201) b 19 _ (.ref (zn h2 + 0) :: []) (zapp h2 [zC0 101 1 1]) _
  rw [n2]
  refine z_astore_n 10 rfl (by decide) rfl ?_
  refine z_iconst (v := 0) 11 rfl (by decide) ?_
  refine z_istore 12 rfl (by decide) rfl ?_
  exact lw_loop (gK_of hW) hMk hs hN hbb hq N 0 _ rfl (Nat.zero_le _) (st_ok h0 w1 b1 w2 s2) (by show zn h2 + 1 + zx h2 ≤ _; omega) (by show zs h2 + (1 + 0) ≤ _; omega)
end LST
