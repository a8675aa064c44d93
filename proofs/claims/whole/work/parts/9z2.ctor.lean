/-! constructors -/
def zOv (G : zG) : Prop := ∀ U, gE G U → (Cond.arrayOver (.array .int)).before #[] U = true
def nsR (own : String) (i : Nat) (y : MethodName) (G : zG) : Prop := ∀ U, gE G U → va_Nw (.methodLinkNest own i y "SmellAbbey") U
def zNs (G : zG) : Prop := nsR "SmellAbbey" 15 mX3_init.1 G ∧ nsR "SmellAbbey$Reader" 27 mX7_init.1 G ∧ nsR "SmellAbbey$Told" 41 mX0_init.1 G ∧ nsR "SmellAbbey" 22 mX1_init.1 G ∧ nsR "SmellAbbey" 29 mX8_init.1 G ∧ nsR "SmellAbbey" 36 mX5_init.1 G ∧ nsR "SmellAbbey" 49 mX2_init.1 G ∧ nsR "SmellAbbey" 66 mX7_init.1 G
/-- a constructor: from the new cell to the cells that it makes -/
def zMk (G : zG) (ν : zM) (ci N d bc bs : Nat) (BL : Nat → List zC) : Prop := ∀ h : zMem, zx h = 0 → zn h + 1 + bc ≤ 1000000 → zCon G ν d bc bs [.ref (zn h)] (zapp h [zC0 ci 0 N]) (zPV fun h' => h' = zapp h (BL (zn h)))
theorem zoi : Cond.instanceMethod Lib.objectInit ∈ ztb ∧ Cond.code Lib.objectInit ⟨#[0xb1]⟩ 1 none ∈ ztb := ⟨ztb_t (zt1 _ (List.mem_of_getElem? (i := 29) rfl)) rfl, ztb_t (zt1 _ (List.mem_of_getElem? (i := 30) rfl)) rfl⟩
theorem zcR_s (c : zC) (j : Nat) (v : Option Nat) : (zcR c j v).2.2.1 = c.2.2.1 := rfl
theorem zcI_s (c : zC) (j : Nat) (v : Int32) : (zcI c j v).2.2.1 = c.2.2.1 := rfl
theorem zC0_s (a b c : Nat) : (zC0 a b c).2.2.1 = c := rfl
section ZL3
variable {G : zG} {μ : zM} {d : Nat} {b : zB} {pc : Nat} {lv st : List Value} {h : zMem} {P : Option Value → zMem → Prop} {L : List zC}
theorem zgl {L' : List zC} (e : L = L') (k : zGo G μ d b pc lv st (zapp h L') P) : zGo G μ d b pc lv st (zapp h L) P := by subst e; exact k
theorem zO_app {c : zC} {T : List zC} {ci : Nat} (hc : c.1 = ci) : zO (zapp h (c :: T)) (zn h) ci := by
  refine ⟨by show zn h < zn h + (T.length + 1); omega, ?_⟩
  have : zK (zapp h (c :: T)) (zn h + 0) = c.1 := zsl_at rfl
  exact this.trans hc
theorem z_putA (i : Nat) {index ci j r : Nat} {c : zC} {T : List zC} (hi : μ.2.2.2.2[i]? = some (pc, .putfield index, 3)) (hf : zFL μ.1.cls index ci j) (hfin : ∃ (C : String) (T : u_T) (N : Nat), zcl[ci]? = some (C, T, N) ∧ (T j).2.2.2 = true ∧ (T j).1 = μ.1.cls) (hin : μ.1.name = "<init>") (ht : zrefT (zty ci j) = true) (hc : c.1 = ci) (k : zGo G μ d b (pc + 3) lv st (zapp h (zcR c j (some r) :: T)) P) : zGo G μ d b pc lv (.ref r :: .ref (zn h) :: st) (zapp h (c :: T)) P := by
  refine z_putRF i hi hf hfin hin ht (zO_app hc) ?_
  have e : zsR (zapp h (c :: T)) (zn h + 0) j (some r) = zapp h ((c :: T).set 0 (zcR c j (some r))) := zapp_sR rfl
  exact zgo_mem e k
theorem z_putR0 (i : Nat) {index ci j r : Nat} {c : zC} {T : List zC} (hi : μ.2.2.2.2[i]? = some (pc, .putfield index, 3)) (hf : zFL μ.1.cls index ci j) (hnf : zNF ci j) (ht : zrefT (zty ci j) = true) (hc : c.1 = ci) (k : zGo G μ d b (pc + 3) lv st (zapp h (zcR c j (some r) :: T)) P) : zGo G μ d b pc lv (.ref r :: .ref (zn h) :: st) (zapp h (c :: T)) P := by
  refine z_putR i hi hf hnf ht (zO_app hc) ?_
  have e : zsR (zapp h (c :: T)) (zn h + 0) j (some r) = zapp h ((c :: T).set 0 (zcR c j (some r))) := zapp_sR rfl
  exact zgo_mem e k
theorem z_putI0 (i : Nat) {index ci j : Nat} {x : Int32} {c : zC} {T : List zC} (hi : μ.2.2.2.2[i]? = some (pc, .putfield index, 3)) (hf : zFL μ.1.cls index ci j) (hnf : zNF ci j) (ht : zint (zty ci j) = true) (hn : narrow (zty ci j) (.int x) = .int x) (hfit : fits (zty ci j) (.int x) = true) (hc : c.1 = ci) (k : zGo G μ d b (pc + 3) lv st (zapp h (zcI c j x :: T)) P) : zGo G μ d b pc lv (.int x :: .ref (zn h) :: st) (zapp h (c :: T)) P := by
  refine z_putI i hi hf hnf ht hn hfit (zO_app hc) ?_
  have e : zsI (zapp h (c :: T)) (zn h + 0) j x = zapp h ((c :: T).set 0 (zcI c j x)) := zapp_sI rfl
  exact zgo_mem e k
theorem z_newI (i N c0 s0 : Nat) (hL : L.length = c0) (hS : (L.map fun c => c.2.2.1).sum = s0) {n : Int32} (hi : μ.2.2.2.2[i]? = some (pc, .newarray .int, 2)) (hn0 : ¬ n < 0) (hN : n.toNatClampNeg = N) (hx : zx h = 0) (hn : zn h + c0 + 1 ≤ 1000000) (hb : zn h + c0 + zx h + 1 ≤ b.1 + b.2.2.1 ∧ zs h + s0 + N ≤ b.2.1 + b.2.2.2) (hby : N * 4 ≤ 536870912) (k : zGo G μ d b (pc + 2) lv (.ref (zn h + c0) :: st) (zapp h (L ++ [zC0 100 N N])) P) : zGo G μ d b pc lv (.int n :: st) (zapp h L) P := by
  subst hL
  subst hS
  have e1 : zK (znew (zapp h L) 100 N N) (zn (zapp h L)) = 100 := if_pos rfl
  have e2 : zLen (znew (zapp h L) 100 N N) (zn (zapp h L)) = N := if_pos rfl
  have e3 : zI (znew (zapp h L) 100 N N) (zn (zapp h L)) = fun _ => 0 := if_pos rfl
  exact z_newa i 0 100 N (ty := .int) (a0 := (N, .inl (fun _ => 0))) hi rfl (ztb_t (zt1 _ (List.mem_of_getElem? (i := 122) rfl)) rfl) rfl (fun _ _ q => q) (by rw [zcell_i e1, e2, e3]) rfl hn0 hN hby hx (by show zn h + L.length < 1000000; omega) hb (zgo_mem (zapp_new _ _ _ _ _) k)
theorem z_newL (i N c0 s0 : Nat) (hL : L.length = c0) (hS : (L.map fun c => c.2.2.1).sum = s0) {n : Int32} (hi : μ.2.2.2.2[i]? = some (pc, .newarray .long, 2)) (hn0 : ¬ n < 0) (hN : n.toNatClampNeg = N) (hx : zx h = 0) (hn : zn h + c0 + 1 ≤ 1000000) (hb : zn h + c0 + zx h + 1 ≤ b.1 + b.2.2.1 ∧ zs h + s0 + N ≤ b.2.1 + b.2.2.2) (hby : N * 8 ≤ 536870912) (k : zGo G μ d b (pc + 2) lv (.ref (zn h + c0) :: st) (zapp h (L ++ [zC0 101 N N])) P) : zGo G μ d b pc lv (.int n :: st) (zapp h L) P := by
  subst hL
  subst hS
  have e1 : zK (znew (zapp h L) 101 N N) (zn (zapp h L)) = 101 := if_pos rfl
  have e2 : zLen (znew (zapp h L) 101 N N) (zn (zapp h L)) = N := if_pos rfl
  have e3 : zL (znew (zapp h L) 101 N N) (zn (zapp h L)) = fun _ => 0 := if_pos rfl
  exact z_newa i 1 101 N (ty := .long) (a0 := (N, .inr (.inl (fun _ => 0)))) hi rfl (ztb_t (zt1 _ (List.mem_of_getElem? (i := 167) rfl)) rfl) rfl (fun _ _ q => q) (by rw [zcell_l e1, e2, e3]) rfl hn0 hN hby hx (by show zn h + L.length < 1000000; omega) hb (zgo_mem (zapp_new _ _ _ _ _) k)
theorem z_newB (i N c0 s0 : Nat) (hL : L.length = c0) (hS : (L.map fun c => c.2.2.1).sum = s0) {n : Int32} (hi : μ.2.2.2.2[i]? = some (pc, .newarray .byte, 2)) (hn0 : ¬ n < 0) (hN : n.toNatClampNeg = N) (hx : zx h = 0) (hn : zn h + c0 + 1 ≤ 1000000) (hb : zn h + c0 + zx h + 1 ≤ b.1 + b.2.2.1 ∧ zs h + s0 + N ≤ b.2.1 + b.2.2.2) (hby : N * 1 ≤ 536870912) (k : zGo G μ d b (pc + 2) lv (.ref (zn h + c0) :: st) (zapp h (L ++ [zC0 102 N N])) P) : zGo G μ d b pc lv (.int n :: st) (zapp h L) P := by
  subst hL
  subst hS
  have e1 : zK (znew (zapp h L) 102 N N) (zn (zapp h L)) = 102 := if_pos rfl
  have e2 : zLen (znew (zapp h L) 102 N N) (zn (zapp h L)) = N := if_pos rfl
  have e3 : zI (znew (zapp h L) 102 N N) (zn (zapp h L)) = fun _ => 0 := if_pos rfl
  exact z_newa i 2 102 N (ty := .byte) (a0 := (N, .inl (fun _ => 0))) hi rfl (ztb_t (zt1 _ (List.mem_of_getElem? (i := 121) rfl)) rfl) rfl (fun _ _ q => q) (by rw [zcell_b e1, e2, e3]) rfl hn0 hN hby hx (by show zn h + L.length < 1000000; omega) hb (zgo_mem (zapp_new _ _ _ _ _) k)
theorem z_newZ (i N c0 s0 : Nat) (hL : L.length = c0) (hS : (L.map fun c => c.2.2.1).sum = s0) {n : Int32} (hi : μ.2.2.2.2[i]? = some (pc, .newarray .boolean, 2)) (hn0 : ¬ n < 0) (hN : n.toNatClampNeg = N) (hx : zx h = 0) (hn : zn h + c0 + 1 ≤ 1000000) (hb : zn h + c0 + zx h + 1 ≤ b.1 + b.2.2.1 ∧ zs h + s0 + N ≤ b.2.1 + b.2.2.2) (hby : N * 1 ≤ 536870912) (k : zGo G μ d b (pc + 2) lv (.ref (zn h + c0) :: st) (zapp h (L ++ [zC0 103 N N])) P) : zGo G μ d b pc lv (.int n :: st) (zapp h L) P := by
  subst hL
  subst hS
  have e1 : zK (znew (zapp h L) 103 N N) (zn (zapp h L)) = 103 := if_pos rfl
  have e2 : zLen (znew (zapp h L) 103 N N) (zn (zapp h L)) = N := if_pos rfl
  have e3 : zI (znew (zapp h L) 103 N N) (zn (zapp h L)) = fun _ => 0 := if_pos rfl
  exact z_newa i 3 103 N (ty := .boolean) (a0 := (N, .inl (fun _ => 0))) hi rfl (ztb_t (zt1 _ (List.mem_of_getElem? (i := 166) rfl)) rfl) rfl (fun _ _ q => q) (by rw [zcell_z e1, e2, e3]) rfl hn0 hN hby hx (by show zn h + L.length < 1000000; omega) hb (zgo_mem (zapp_new _ _ _ _ _) k)
theorem z_mnaL (i N K c0 s0 : Nat) (hL : L.length = c0) (hS : (L.map fun c => c.2.2.1).sum = s0) {index : Nat} {n k0 : Int32} (hi : μ.2.2.2.2[i]? = some (pc, .multianewarray index 2, 4)) (hcl : Cond.classLink μ.1.cls index "[[I" ∈ ztb) (hov : zOv G) (hn0 : ¬ n < 0) (hk0 : ¬ k0 < 0) (hN : n.toNatClampNeg = N) (hK0 : k0.toNatClampNeg = K) (hN2 : N ≤ 1000) (hK2 : K ≤ 1000) (hx : zx h = 0) (hn : zn h + c0 + (N + 1) ≤ 1000000) (hb : zn h + c0 + zx h + (N + 1) ≤ b.1 + b.2.2.1 ∧ zs h + s0 + (N + N * K) ≤ b.2.1 + b.2.2.2) (k : zGo G μ d b (pc + 4) lv (.ref (zn h + c0) :: st) (zapp h (L ++ zmL (zn h + c0) N K)) P) : zGo G μ d b pc lv (.int k0 :: .int n :: st) (zapp h L) P := by
  subst hL
  subst hS
  exact z_mna i N K hi hcl hov hn0 hk0 hN hK0 hN2 hK2 hx hn hb (zgo_mem (zapp_app _ _ _) k)
theorem z_make {ν : zM} {ci N d' bc bs index index2 : Nat} {C : String} {T : u_T} {BL : Nat → List zC} (i c0 s0 : Nat) (hL : L.length = c0) (hS : (L.map fun c => c.2.2.1).sum = s0) (hi : μ.2.2.2.2[i]? = some (pc, .new index, 3)) (hi2 : μ.2.2.2.2[i + 1]? = some (pc + 3, .dup, 1)) (hi3 : μ.2.2.2.2[i + 2]? = some (pc + 3 + 1, .invokespecial index2, 3)) (hC : zCF ci C T N) (hz : ∀ j, j < N → zokT (zty ci j) = true) (hw : Cond.classLink μ.1.cls index C ∈ ztb ∧ Cond.instantiable C N ∈ ztb ∧ Cond.initialized C ∈ ztb) (hν : zMF ν 0) (hret : ν.2.2.2.1 = none) (hnm : ν.1.name = "<init>") (hlk : (Cond.methodLink μ.1.cls index2 ν.1 ∈ ztb ∨ ∃ host, ∀ U, gE G U → va_Nw (.methodLinkNest μ.1.cls index2 ν.1 host) U) ∧ Cond.instanceMethod ν.1 ∈ ztb) (hw8 : ((Value.ref 0 :: st).map fun v => v.category).sum ≤ 8) (hd : d' + 1 ≤ d) (hx : zx h = 0) (hn : zn h + c0 + (bc + 1) ≤ 1000000) (hb : zn h + c0 + zx h + (bc + 1) ≤ b.1 + b.2.2.1 ∧ zs h + s0 + (N + bs) ≤ b.2.1 + b.2.2.2) (K : zMk G ν ci N d' bc bs BL) (k : zGo G μ d b (pc + 3 + 1 + 3) lv (.ref (zn h + c0) :: st) (zapp h (L ++ BL (zn h + c0))) P) : zGo G μ d b pc lv st (zapp h L) P := by
  subst hL
  subst hS
  refine z_new i ci N hi hC hz hw hx (by show zn h + L.length < 1000000; omega) ⟨by show zn h + L.length + zx h + 1 ≤ _; omega, by show zs h + (L.map fun c => c.2.2.1).sum + N ≤ _; omega⟩ ?_
  refine z_dup (i + 1) hi2 rfl ?_
  have e : znew (zapp h L) ci 0 N = zapp (zapp h L) [zC0 ci 0 N] := by
    have := zapp_new (zapp h L) [] ci 0 N
    rw [zapp_nil] at this
    exact this
  refine zgo_mem e ?_
  refine z_callI (i + 2) hi3 hν hret hnm hlk hw8 hd ⟨?_, ?_⟩ (K (zapp h L) hx (by show zn h + L.length + 1 + bc ≤ 1000000; omega)) (fun h' q c1 c2 => ?_)
  · show zn h + L.length + 1 + zx h + bc ≤ _; omega
  · show zs h + (L.map fun c => c.2.2.1).sum + (N + 0) + bs ≤ _; omega
  · subst q
    exact zgo_mem (zapp_app _ _ _) k
end ZL3

def laL (n : Nat) : List zC := (zcR (zcR (zcR (zcR (zcR (zcR (zcR (zC0 0 0 9) 0 (some (n + 1))) 1 (some (n + 2))) 2 (some (n + 3))) 3 (some (n + 4))) 4 (some (n + 5))) 5 (some (n + 6))) 6 (some (n + 7))) :: ((zC0 100 64 64) :: ((zC0 100 64 64) :: ((zC0 100 3 3) :: ((zC0 100 3 3) :: ((zC0 103 3 3) :: ((zC0 101 7 7) :: ((zC0 101 64 64) :: ([]))))))))
theorem laL_len (n : Nat) : (laL n).length = 8 := by unfold laL; simp only [List.length_cons, List.length_append, List.length_nil, zmL_len]; try omega
theorem laL_sum (n : Nat) : ((laL n).map fun c => c.2.2.1).sum = 217 := by unfold laL; simp only [List.map_cons, List.map_append, List.map_nil, List.sum_cons, List.sum_append, List.sum_nil, zmL_sum, zcR_s, zcI_s, zC0_s]; try omega
set_option maxRecDepth 100000 in
theorem mk_X0 {G : zG} {d : Nat} (hov : zOv G) (hns : zNs G) : zMk G mX0_init 0 9 (d + 1) 7 208 laL := by
  intro h hx hn
  refine zcon_intro (by decide +kernel) eX0_init (Nat.le_of_ble_eq_true rfl) (fun a ha => List.all_eq_true.mp (show ([.ref (zn h)] : List Value).all zcat1 = true from rfl) a ha) ?_
  show zGo G mX0_init (d + 1) (zn (zapp h [zC0 0 0 9]) + zx (zapp h [zC0 0 0 9]), zs (zapp h [zC0 0 0 9]), 7, 208) 0 [.ref (zn h)] [] (zapp h [zC0 0 0 9]) _
  refine z_aload_n 0 rfl rfl ?_
  refine z_objInit 1 rfl ⟨ztb_t (zt1 _ (List.mem_of_getElem? (i := 136) rfl)) rfl, zoi⟩ (Nat.le_of_ble_eq_true rfl) (Nat.le_add_left _ _) ?_
  refine z_aload_n 2 rfl rfl ?_
  refine z_bipush (v := 64) 3 rfl (by decide) ?_
  refine z_newI 4 64 1 9 (by simp only [List.length_cons, List.length_append, List.length_nil, zmL_len]; try omega) (by simp only [List.map_cons, List.map_append, List.map_nil, List.sum_cons, List.sum_append, List.sum_nil, zmL_sum, zcR_s, zcI_s, zC0_s]; try omega) rfl (by decide) (by decide) hx (by omega) ⟨by show zn h + 1 + zx h + 1 ≤ zn h + 1 + zx h + 7; omega, by show zs h + 9 + 64 ≤ zs h + 9 + 208; omega⟩ (by decide) ?_
  refine zgl (L' := (zC0 0 0 9) :: ((zC0 100 64 64) :: ([]))) (by simp only [List.cons_append, List.append_assoc, List.nil_append, List.append_nil]) ?_
  refine z_putA 5 rfl lX0_9 ⟨_, _, _, rfl, rfl, rfl⟩ rfl rfl rfl ?_
  refine z_aload_n 6 rfl rfl ?_
  refine z_bipush (v := 64) 7 rfl (by decide) ?_
  refine z_newI 8 64 2 73 (by simp only [List.length_cons, List.length_append, List.length_nil, zmL_len]; try omega) (by simp only [List.map_cons, List.map_append, List.map_nil, List.sum_cons, List.sum_append, List.sum_nil, zmL_sum, zcR_s, zcI_s, zC0_s]; try omega) rfl (by decide) (by decide) hx (by omega) ⟨by show zn h + 2 + zx h + 1 ≤ zn h + 1 + zx h + 7; omega, by show zs h + 73 + 64 ≤ zs h + 9 + 208; omega⟩ (by decide) ?_
  refine zgl (L' := (zcR (zC0 0 0 9) 0 (some (zn h + 1))) :: ((zC0 100 64 64) :: ((zC0 100 64 64) :: ([])))) (by simp only [List.cons_append, List.append_assoc, List.nil_append, List.append_nil]) ?_
  refine z_putA 9 rfl lX0_15 ⟨_, _, _, rfl, rfl, rfl⟩ rfl rfl rfl ?_
  refine z_aload_n 10 rfl rfl ?_
  refine z_iconst (v := 3) 11 rfl (by decide) ?_
  refine z_newI 12 3 3 137 (by simp only [List.length_cons, List.length_append, List.length_nil, zmL_len]; try omega) (by simp only [List.map_cons, List.map_append, List.map_nil, List.sum_cons, List.sum_append, List.sum_nil, zmL_sum, zcR_s, zcI_s, zC0_s]; try omega) rfl (by decide) (by decide) hx (by omega) ⟨by show zn h + 3 + zx h + 1 ≤ zn h + 1 + zx h + 7; omega, by show zs h + 137 + 3 ≤ zs h + 9 + 208; omega⟩ (by decide) ?_
  refine zgl (L' := (zcR (zcR (zC0 0 0 9) 0 (some (zn h + 1))) 1 (some (zn h + 2))) :: ((zC0 100 64 64) :: ((zC0 100 64 64) :: ((zC0 100 3 3) :: ([]))))) (by simp only [List.cons_append, List.append_assoc, List.nil_append, List.append_nil]) ?_
  refine z_putA 13 rfl lX0_18 ⟨_, _, _, rfl, rfl, rfl⟩ rfl rfl rfl ?_
  refine z_aload_n 14 rfl rfl ?_
  refine z_iconst (v := 3) 15 rfl (by decide) ?_
  refine z_newI 16 3 4 140 (by simp only [List.length_cons, List.length_append, List.length_nil, zmL_len]; try omega) (by simp only [List.map_cons, List.map_append, List.map_nil, List.sum_cons, List.sum_append, List.sum_nil, zmL_sum, zcR_s, zcI_s, zC0_s]; try omega) rfl (by decide) (by decide) hx (by omega) ⟨by show zn h + 4 + zx h + 1 ≤ zn h + 1 + zx h + 7; omega, by show zs h + 140 + 3 ≤ zs h + 9 + 208; omega⟩ (by decide) ?_
  refine zgl (L' := (zcR (zcR (zcR (zC0 0 0 9) 0 (some (zn h + 1))) 1 (some (zn h + 2))) 2 (some (zn h + 3))) :: ((zC0 100 64 64) :: ((zC0 100 64 64) :: ((zC0 100 3 3) :: ((zC0 100 3 3) :: ([])))))) (by simp only [List.cons_append, List.append_assoc, List.nil_append, List.append_nil]) ?_
  refine z_putA 17 rfl lX0_21 ⟨_, _, _, rfl, rfl, rfl⟩ rfl rfl rfl ?_
  refine z_aload_n 18 rfl rfl ?_
  refine z_iconst (v := 3) 19 rfl (by decide) ?_
  refine z_newZ 20 3 5 143 (by simp only [List.length_cons, List.length_append, List.length_nil, zmL_len]; try omega) (by simp only [List.map_cons, List.map_append, List.map_nil, List.sum_cons, List.sum_append, List.sum_nil, zmL_sum, zcR_s, zcI_s, zC0_s]; try omega) rfl (by decide) (by decide) hx (by omega) ⟨by show zn h + 5 + zx h + 1 ≤ zn h + 1 + zx h + 7; omega, by show zs h + 143 + 3 ≤ zs h + 9 + 208; omega⟩ (by decide) ?_
  refine zgl (L' := (zcR (zcR (zcR (zcR (zC0 0 0 9) 0 (some (zn h + 1))) 1 (some (zn h + 2))) 2 (some (zn h + 3))) 3 (some (zn h + 4))) :: ((zC0 100 64 64) :: ((zC0 100 64 64) :: ((zC0 100 3 3) :: ((zC0 100 3 3) :: ((zC0 103 3 3) :: ([]))))))) (by simp only [List.cons_append, List.append_assoc, List.nil_append, List.append_nil]) ?_
  refine z_putA 21 rfl lX0_24 ⟨_, _, _, rfl, rfl, rfl⟩ rfl rfl rfl ?_
  refine z_aload_n 22 rfl rfl ?_
  refine z_bipush (v := 7) 23 rfl (by decide) ?_
  refine z_newL 24 7 6 146 (by simp only [List.length_cons, List.length_append, List.length_nil, zmL_len]; try omega) (by simp only [List.map_cons, List.map_append, List.map_nil, List.sum_cons, List.sum_append, List.sum_nil, zmL_sum, zcR_s, zcI_s, zC0_s]; try omega) rfl (by decide) (by decide) hx (by omega) ⟨by show zn h + 6 + zx h + 1 ≤ zn h + 1 + zx h + 7; omega, by show zs h + 146 + 7 ≤ zs h + 9 + 208; omega⟩ (by decide) ?_
  refine zgl (L' := (zcR (zcR (zcR (zcR (zcR (zC0 0 0 9) 0 (some (zn h + 1))) 1 (some (zn h + 2))) 2 (some (zn h + 3))) 3 (some (zn h + 4))) 4 (some (zn h + 5))) :: ((zC0 100 64 64) :: ((zC0 100 64 64) :: ((zC0 100 3 3) :: ((zC0 100 3 3) :: ((zC0 103 3 3) :: ((zC0 101 7 7) :: ([])))))))) (by simp only [List.cons_append, List.append_assoc, List.nil_append, List.append_nil]) ?_
  refine z_putA 25 rfl lX0_30 ⟨_, _, _, rfl, rfl, rfl⟩ rfl rfl rfl ?_
  refine z_aload_n 26 rfl rfl ?_
  refine z_bipush (v := 64) 27 rfl (by decide) ?_
  refine z_newL 28 64 7 153 (by simp only [List.length_cons, List.length_append, List.length_nil, zmL_len]; try omega) (by simp only [List.map_cons, List.map_append, List.map_nil, List.sum_cons, List.sum_append, List.sum_nil, zmL_sum, zcR_s, zcI_s, zC0_s]; try omega) rfl (by decide) (by decide) hx (by omega) ⟨by show zn h + 7 + zx h + 1 ≤ zn h + 1 + zx h + 7; omega, by show zs h + 153 + 64 ≤ zs h + 9 + 208; omega⟩ (by decide) ?_
  refine zgl (L' := (zcR (zcR (zcR (zcR (zcR (zcR (zC0 0 0 9) 0 (some (zn h + 1))) 1 (some (zn h + 2))) 2 (some (zn h + 3))) 3 (some (zn h + 4))) 4 (some (zn h + 5))) 5 (some (zn h + 6))) :: ((zC0 100 64 64) :: ((zC0 100 64 64) :: ((zC0 100 3 3) :: ((zC0 100 3 3) :: ((zC0 103 3 3) :: ((zC0 101 7 7) :: ((zC0 101 64 64) :: ([]))))))))) (by simp only [List.cons_append, List.append_assoc, List.nil_append, List.append_nil]) ?_
  refine z_putA 29 rfl lX0_34 ⟨_, _, _, rfl, rfl, rfl⟩ rfl rfl rfl ?_
  refine zgl (L' := laL (zn h)) rfl ?_
  exact z_vret 30 rfl rfl ⟨by rw [zn_app, zx_app, laL_len]; show _ = zn h + 1 + zx h + 7; omega, by rw [zs_app, laL_sum]; show _ = zs h + 9 + 208; omega⟩ ⟨rfl, rfl⟩
def noL (n : Nat) : List zC := (zcI (zcR (zcR (zcR (zcR (zcR (zcR (zC0 1 0 8) 0 (some (n + 1))) 1 (some (n + 2))) 2 (some (n + 3))) 3 (some (n + 4))) 4 (some (n + 5))) 5 (some (n + 6))) 7 (-1)) :: ((zC0 100 24 24) :: ((zC0 100 24 24) :: ((zC0 100 24 24) :: ((zC0 103 24 24) :: ((zC0 100 24 24) :: ((zC0 103 24 24) :: ([])))))))
theorem noL_len (n : Nat) : (noL n).length = 7 := by unfold noL; simp only [List.length_cons, List.length_append, List.length_nil, zmL_len, laL_len]; try omega
theorem noL_sum (n : Nat) : ((noL n).map fun c => c.2.2.1).sum = 152 := by unfold noL; simp only [List.map_cons, List.map_append, List.map_nil, List.sum_cons, List.sum_append, List.sum_nil, zmL_sum, zcR_s, zcI_s, zC0_s, laL_sum]; try omega
set_option maxRecDepth 100000 in
theorem mk_X1 {G : zG} {d : Nat} (hov : zOv G) (hns : zNs G) : zMk G mX1_init 1 8 (d + 1) 6 144 noL := by
  intro h hx hn
  refine zcon_intro (by decide +kernel) eX1_init (Nat.le_of_ble_eq_true rfl) (fun a ha => List.all_eq_true.mp (show ([.ref (zn h)] : List Value).all zcat1 = true from rfl) a ha) ?_
  show zGo G mX1_init (d + 1) (zn (zapp h [zC0 1 0 8]) + zx (zapp h [zC0 1 0 8]), zs (zapp h [zC0 1 0 8]), 6, 144) 0 [.ref (zn h)] [] (zapp h [zC0 1 0 8]) _
  refine z_aload_n 0 rfl rfl ?_
  refine z_objInit 1 rfl ⟨ztb_t (zt2 _ (List.mem_of_getElem? (i := 31) rfl)) rfl, zoi⟩ (Nat.le_of_ble_eq_true rfl) (Nat.le_add_left _ _) ?_
  refine z_aload_n 2 rfl rfl ?_
  refine z_bipush (v := 24) 3 rfl (by decide) ?_
  refine z_newI 4 24 1 8 (by simp only [List.length_cons, List.length_append, List.length_nil, zmL_len, laL_len]; try omega) (by simp only [List.map_cons, List.map_append, List.map_nil, List.sum_cons, List.sum_append, List.sum_nil, zmL_sum, zcR_s, zcI_s, zC0_s, laL_sum]; try omega) rfl (by decide) (by decide) hx (by omega) ⟨by show zn h + 1 + zx h + 1 ≤ zn h + 1 + zx h + 6; omega, by show zs h + 8 + 24 ≤ zs h + 8 + 144; omega⟩ (by decide) ?_
  refine zgl (L' := (zC0 1 0 8) :: ((zC0 100 24 24) :: ([]))) (by simp only [List.cons_append, List.append_assoc, List.nil_append, List.append_nil]) ?_
  refine z_putA 5 rfl lX1_9 ⟨_, _, _, rfl, rfl, rfl⟩ rfl rfl rfl ?_
  refine z_aload_n 6 rfl rfl ?_
  refine z_bipush (v := 24) 7 rfl (by decide) ?_
  refine z_newI 8 24 2 32 (by simp only [List.length_cons, List.length_append, List.length_nil, zmL_len, laL_len]; try omega) (by simp only [List.map_cons, List.map_append, List.map_nil, List.sum_cons, List.sum_append, List.sum_nil, zmL_sum, zcR_s, zcI_s, zC0_s, laL_sum]; try omega) rfl (by decide) (by decide) hx (by omega) ⟨by show zn h + 2 + zx h + 1 ≤ zn h + 1 + zx h + 6; omega, by show zs h + 32 + 24 ≤ zs h + 8 + 144; omega⟩ (by decide) ?_
  refine zgl (L' := (zcR (zC0 1 0 8) 0 (some (zn h + 1))) :: ((zC0 100 24 24) :: ((zC0 100 24 24) :: ([])))) (by simp only [List.cons_append, List.append_assoc, List.nil_append, List.append_nil]) ?_
  refine z_putA 9 rfl lX1_15 ⟨_, _, _, rfl, rfl, rfl⟩ rfl rfl rfl ?_
  refine z_aload_n 10 rfl rfl ?_
  refine z_bipush (v := 24) 11 rfl (by decide) ?_
  refine z_newI 12 24 3 56 (by simp only [List.length_cons, List.length_append, List.length_nil, zmL_len, laL_len]; try omega) (by simp only [List.map_cons, List.map_append, List.map_nil, List.sum_cons, List.sum_append, List.sum_nil, zmL_sum, zcR_s, zcI_s, zC0_s, laL_sum]; try omega) rfl (by decide) (by decide) hx (by omega) ⟨by show zn h + 3 + zx h + 1 ≤ zn h + 1 + zx h + 6; omega, by show zs h + 56 + 24 ≤ zs h + 8 + 144; omega⟩ (by decide) ?_
  refine zgl (L' := (zcR (zcR (zC0 1 0 8) 0 (some (zn h + 1))) 1 (some (zn h + 2))) :: ((zC0 100 24 24) :: ((zC0 100 24 24) :: ((zC0 100 24 24) :: ([]))))) (by simp only [List.cons_append, List.append_assoc, List.nil_append, List.append_nil]) ?_
  refine z_putA 13 rfl lX1_18 ⟨_, _, _, rfl, rfl, rfl⟩ rfl rfl rfl ?_
  refine z_aload_n 14 rfl rfl ?_
  refine z_bipush (v := 24) 15 rfl (by decide) ?_
  refine z_newZ 16 24 4 80 (by simp only [List.length_cons, List.length_append, List.length_nil, zmL_len, laL_len]; try omega) (by simp only [List.map_cons, List.map_append, List.map_nil, List.sum_cons, List.sum_append, List.sum_nil, zmL_sum, zcR_s, zcI_s, zC0_s, laL_sum]; try omega) rfl (by decide) (by decide) hx (by omega) ⟨by show zn h + 4 + zx h + 1 ≤ zn h + 1 + zx h + 6; omega, by show zs h + 80 + 24 ≤ zs h + 8 + 144; omega⟩ (by decide) ?_
  refine zgl (L' := (zcR (zcR (zcR (zC0 1 0 8) 0 (some (zn h + 1))) 1 (some (zn h + 2))) 2 (some (zn h + 3))) :: ((zC0 100 24 24) :: ((zC0 100 24 24) :: ((zC0 100 24 24) :: ((zC0 103 24 24) :: ([])))))) (by simp only [List.cons_append, List.append_assoc, List.nil_append, List.append_nil]) ?_
  refine z_putA 17 rfl lX1_21 ⟨_, _, _, rfl, rfl, rfl⟩ rfl rfl rfl ?_
  refine z_aload_n 18 rfl rfl ?_
  refine z_bipush (v := 24) 19 rfl (by decide) ?_
  refine z_newI 20 24 5 104 (by simp only [List.length_cons, List.length_append, List.length_nil, zmL_len, laL_len]; try omega) (by simp only [List.map_cons, List.map_append, List.map_nil, List.sum_cons, List.sum_append, List.sum_nil, zmL_sum, zcR_s, zcI_s, zC0_s, laL_sum]; try omega) rfl (by decide) (by decide) hx (by omega) ⟨by show zn h + 5 + zx h + 1 ≤ zn h + 1 + zx h + 6; omega, by show zs h + 104 + 24 ≤ zs h + 8 + 144; omega⟩ (by decide) ?_
  refine zgl (L' := (zcR (zcR (zcR (zcR (zC0 1 0 8) 0 (some (zn h + 1))) 1 (some (zn h + 2))) 2 (some (zn h + 3))) 3 (some (zn h + 4))) :: ((zC0 100 24 24) :: ((zC0 100 24 24) :: ((zC0 100 24 24) :: ((zC0 103 24 24) :: ((zC0 100 24 24) :: ([]))))))) (by simp only [List.cons_append, List.append_assoc, List.nil_append, List.append_nil]) ?_
  refine z_putA 21 rfl lX1_25 ⟨_, _, _, rfl, rfl, rfl⟩ rfl rfl rfl ?_
  refine z_aload_n 22 rfl rfl ?_
  refine z_bipush (v := 24) 23 rfl (by decide) ?_
  refine z_newZ 24 24 6 128 (by simp only [List.length_cons, List.length_append, List.length_nil, zmL_len, laL_len]; try omega) (by simp only [List.map_cons, List.map_append, List.map_nil, List.sum_cons, List.sum_append, List.sum_nil, zmL_sum, zcR_s, zcI_s, zC0_s, laL_sum]; try omega) rfl (by decide) (by decide) hx (by omega) ⟨by show zn h + 6 + zx h + 1 ≤ zn h + 1 + zx h + 6; omega, by show zs h + 128 + 24 ≤ zs h + 8 + 144; omega⟩ (by decide) ?_
  refine zgl (L' := (zcR (zcR (zcR (zcR (zcR (zC0 1 0 8) 0 (some (zn h + 1))) 1 (some (zn h + 2))) 2 (some (zn h + 3))) 3 (some (zn h + 4))) 4 (some (zn h + 5))) :: ((zC0 100 24 24) :: ((zC0 100 24 24) :: ((zC0 100 24 24) :: ((zC0 103 24 24) :: ((zC0 100 24 24) :: ((zC0 103 24 24) :: ([])))))))) (by simp only [List.cons_append, List.append_assoc, List.nil_append, List.append_nil]) ?_
  refine z_putA 25 rfl lX1_28 ⟨_, _, _, rfl, rfl, rfl⟩ rfl rfl rfl ?_
  refine z_aload_n 26 rfl rfl ?_
  refine z_iconst (v := -1) 27 rfl (by decide) ?_
  refine z_putI0 28 rfl lX1_31 ⟨_, _, _, rfl, rfl⟩ rfl rfl rfl rfl ?_
  refine zgl (L' := noL (zn h)) rfl ?_
  exact z_vret 29 rfl rfl ⟨by rw [zn_app, zx_app, noL_len]; show _ = zn h + 1 + zx h + 6; omega, by rw [zs_app, noL_sum]; show _ = zs h + 8 + 144; omega⟩ ⟨rfl, rfl⟩
def unL (n : Nat) : List zC := (zcR (zcR (zcR (zC0 7 0 4) 0 (some (n + 1))) 1 (some (n + 2))) 2 (some (n + 3))) :: ((zC0 100 20 20) :: ((zC0 100 20 20) :: ((zC0 100 20 20) :: ([]))))
theorem unL_len (n : Nat) : (unL n).length = 4 := by unfold unL; simp only [List.length_cons, List.length_append, List.length_nil, zmL_len, laL_len, noL_len]; try omega
theorem unL_sum (n : Nat) : ((unL n).map fun c => c.2.2.1).sum = 64 := by unfold unL; simp only [List.map_cons, List.map_append, List.map_nil, List.sum_cons, List.sum_append, List.sum_nil, zmL_sum, zcR_s, zcI_s, zC0_s, laL_sum, noL_sum]; try omega
set_option maxRecDepth 100000 in
theorem mk_X8 {G : zG} {d : Nat} (hov : zOv G) (hns : zNs G) : zMk G mX8_init 7 4 (d + 1) 3 60 unL := by
  intro h hx hn
  refine zcon_intro (by decide +kernel) eX8_init (Nat.le_of_ble_eq_true rfl) (fun a ha => List.all_eq_true.mp (show ([.ref (zn h)] : List Value).all zcat1 = true from rfl) a ha) ?_
  show zGo G mX8_init (d + 1) (zn (zapp h [zC0 7 0 4]) + zx (zapp h [zC0 7 0 4]), zs (zapp h [zC0 7 0 4]), 3, 60) 0 [.ref (zn h)] [] (zapp h [zC0 7 0 4]) _
  refine z_aload_n 0 rfl rfl ?_
  refine z_objInit 1 rfl ⟨ztb_t (zt2 _ (List.mem_of_getElem? (i := 64) rfl)) rfl, zoi⟩ (Nat.le_of_ble_eq_true rfl) (Nat.le_add_left _ _) ?_
  refine z_aload_n 2 rfl rfl ?_
  refine z_bipush (v := 20) 3 rfl (by decide) ?_
  refine z_newI 4 20 1 4 (by simp only [List.length_cons, List.length_append, List.length_nil, zmL_len, laL_len, noL_len]; try omega) (by simp only [List.map_cons, List.map_append, List.map_nil, List.sum_cons, List.sum_append, List.sum_nil, zmL_sum, zcR_s, zcI_s, zC0_s, laL_sum, noL_sum]; try omega) rfl (by decide) (by decide) hx (by omega) ⟨by show zn h + 1 + zx h + 1 ≤ zn h + 1 + zx h + 3; omega, by show zs h + 4 + 20 ≤ zs h + 4 + 60; omega⟩ (by decide) ?_
  refine zgl (L' := (zC0 7 0 4) :: ((zC0 100 20 20) :: ([]))) (by simp only [List.cons_append, List.append_assoc, List.nil_append, List.append_nil]) ?_
  refine z_putA 5 rfl lX8_9 ⟨_, _, _, rfl, rfl, rfl⟩ rfl rfl rfl ?_
  refine z_aload_n 6 rfl rfl ?_
  refine z_bipush (v := 20) 7 rfl (by decide) ?_
  refine z_newI 8 20 2 24 (by simp only [List.length_cons, List.length_append, List.length_nil, zmL_len, laL_len, noL_len]; try omega) (by simp only [List.map_cons, List.map_append, List.map_nil, List.sum_cons, List.sum_append, List.sum_nil, zmL_sum, zcR_s, zcI_s, zC0_s, laL_sum, noL_sum]; try omega) rfl (by decide) (by decide) hx (by omega) ⟨by show zn h + 2 + zx h + 1 ≤ zn h + 1 + zx h + 3; omega, by show zs h + 24 + 20 ≤ zs h + 4 + 60; omega⟩ (by decide) ?_
  refine zgl (L' := (zcR (zC0 7 0 4) 0 (some (zn h + 1))) :: ((zC0 100 20 20) :: ((zC0 100 20 20) :: ([])))) (by simp only [List.cons_append, List.append_assoc, List.nil_append, List.append_nil]) ?_
  refine z_putA 9 rfl lX8_15 ⟨_, _, _, rfl, rfl, rfl⟩ rfl rfl rfl ?_
  refine z_aload_n 10 rfl rfl ?_
  refine z_bipush (v := 20) 11 rfl (by decide) ?_
  refine z_newI 12 20 3 44 (by simp only [List.length_cons, List.length_append, List.length_nil, zmL_len, laL_len, noL_len]; try omega) (by simp only [List.map_cons, List.map_append, List.map_nil, List.sum_cons, List.sum_append, List.sum_nil, zmL_sum, zcR_s, zcI_s, zC0_s, laL_sum, noL_sum]; try omega) rfl (by decide) (by decide) hx (by omega) ⟨by show zn h + 3 + zx h + 1 ≤ zn h + 1 + zx h + 3; omega, by show zs h + 44 + 20 ≤ zs h + 4 + 60; omega⟩ (by decide) ?_
  refine zgl (L' := (zcR (zcR (zC0 7 0 4) 0 (some (zn h + 1))) 1 (some (zn h + 2))) :: ((zC0 100 20 20) :: ((zC0 100 20 20) :: ((zC0 100 20 20) :: ([]))))) (by simp only [List.cons_append, List.append_assoc, List.nil_append, List.append_nil]) ?_
  refine z_putA 13 rfl lX8_18 ⟨_, _, _, rfl, rfl, rfl⟩ rfl rfl rfl ?_
  refine zgl (L' := unL (zn h)) rfl ?_
  exact z_vret 14 rfl rfl ⟨by rw [zn_app, zx_app, unL_len]; show _ = zn h + 1 + zx h + 3; omega, by rw [zs_app, unL_sum]; show _ = zs h + 4 + 60; omega⟩ ⟨rfl, rfl⟩
def stL (n : Nat) : List zC := (zcR (zcR (zcR (zcR (zcR (zcR (zcR (zcR (zcR (zcR (zC0 5 0 15) 0 (some (n + 1))) 1 (some (n + 2))) 2 (some (n + 3))) 3 (some (n + 4))) 4 (some (n + 11))) 5 (some (n + 12))) 6 (some (n + 13))) 7 (some (n + 14))) 8 (some (n + 15))) 9 (some (n + 16))) :: ((zC0 100 6 6) :: ((zC0 100 6 6) :: ((zC0 100 6 6) :: (zmL (n + 4) 6 6 ++ ((zC0 100 5 5) :: ((zC0 100 5 5) :: ((zC0 100 5 5) :: ((zC0 100 5 5) :: ((zC0 100 6 6) :: ((zC0 100 8 8) :: ([])))))))))))
theorem stL_len (n : Nat) : (stL n).length = 17 := by unfold stL; simp only [List.length_cons, List.length_append, List.length_nil, zmL_len, laL_len, noL_len, unL_len]; try omega
theorem stL_sum (n : Nat) : ((stL n).map fun c => c.2.2.1).sum = 109 := by unfold stL; simp only [List.map_cons, List.map_append, List.map_nil, List.sum_cons, List.sum_append, List.sum_nil, zmL_sum, zcR_s, zcI_s, zC0_s, laL_sum, noL_sum, unL_sum]; try omega
set_option maxRecDepth 100000 in
theorem mk_X5 {G : zG} {d : Nat} (hov : zOv G) (hns : zNs G) : zMk G mX5_init 5 15 (d + 1) 16 94 stL := by
  intro h hx hn
  refine zcon_intro (by decide +kernel) eX5_init (Nat.le_of_ble_eq_true rfl) (fun a ha => List.all_eq_true.mp (show ([.ref (zn h)] : List Value).all zcat1 = true from rfl) a ha) ?_
  show zGo G mX5_init (d + 1) (zn (zapp h [zC0 5 0 15]) + zx (zapp h [zC0 5 0 15]), zs (zapp h [zC0 5 0 15]), 16, 94) 0 [.ref (zn h)] [] (zapp h [zC0 5 0 15]) _
  refine z_aload_n 0 rfl rfl ?_
  refine z_objInit 1 rfl ⟨ztb_t (zt2 _ (List.mem_of_getElem? (i := 84) rfl)) rfl, zoi⟩ (Nat.le_of_ble_eq_true rfl) (Nat.le_add_left _ _) ?_
  refine z_aload_n 2 rfl rfl ?_
  refine z_bipush (v := 6) 3 rfl (by decide) ?_
  refine z_newI 4 6 1 15 (by simp only [List.length_cons, List.length_append, List.length_nil, zmL_len, laL_len, noL_len, unL_len]; try omega) (by simp only [List.map_cons, List.map_append, List.map_nil, List.sum_cons, List.sum_append, List.sum_nil, zmL_sum, zcR_s, zcI_s, zC0_s, laL_sum, noL_sum, unL_sum]; try omega) rfl (by decide) (by decide) hx (by omega) ⟨by show zn h + 1 + zx h + 1 ≤ zn h + 1 + zx h + 16; omega, by show zs h + 15 + 6 ≤ zs h + 15 + 94; omega⟩ (by decide) ?_
  refine zgl (L' := (zC0 5 0 15) :: ((zC0 100 6 6) :: ([]))) (by simp only [List.cons_append, List.append_assoc, List.nil_append, List.append_nil]) ?_
  refine z_putA 5 rfl lX5_9 ⟨_, _, _, rfl, rfl, rfl⟩ rfl rfl rfl ?_
  refine z_aload_n 6 rfl rfl ?_
  refine z_bipush (v := 6) 7 rfl (by decide) ?_
  refine z_newI 8 6 2 21 (by simp only [List.length_cons, List.length_append, List.length_nil, zmL_len, laL_len, noL_len, unL_len]; try omega) (by simp only [List.map_cons, List.map_append, List.map_nil, List.sum_cons, List.sum_append, List.sum_nil, zmL_sum, zcR_s, zcI_s, zC0_s, laL_sum, noL_sum, unL_sum]; try omega) rfl (by decide) (by decide) hx (by omega) ⟨by show zn h + 2 + zx h + 1 ≤ zn h + 1 + zx h + 16; omega, by show zs h + 21 + 6 ≤ zs h + 15 + 94; omega⟩ (by decide) ?_
  refine zgl (L' := (zcR (zC0 5 0 15) 0 (some (zn h + 1))) :: ((zC0 100 6 6) :: ((zC0 100 6 6) :: ([])))) (by simp only [List.cons_append, List.append_assoc, List.nil_append, List.append_nil]) ?_
  refine z_putA 9 rfl lX5_15 ⟨_, _, _, rfl, rfl, rfl⟩ rfl rfl rfl ?_
  refine z_aload_n 10 rfl rfl ?_
  refine z_bipush (v := 6) 11 rfl (by decide) ?_
  refine z_newI 12 6 3 27 (by simp only [List.length_cons, List.length_append, List.length_nil, zmL_len, laL_len, noL_len, unL_len]; try omega) (by simp only [List.map_cons, List.map_append, List.map_nil, List.sum_cons, List.sum_append, List.sum_nil, zmL_sum, zcR_s, zcI_s, zC0_s, laL_sum, noL_sum, unL_sum]; try omega) rfl (by decide) (by decide) hx (by omega) ⟨by show zn h + 3 + zx h + 1 ≤ zn h + 1 + zx h + 16; omega, by show zs h + 27 + 6 ≤ zs h + 15 + 94; omega⟩ (by decide) ?_
  refine zgl (L' := (zcR (zcR (zC0 5 0 15) 0 (some (zn h + 1))) 1 (some (zn h + 2))) :: ((zC0 100 6 6) :: ((zC0 100 6 6) :: ((zC0 100 6 6) :: ([]))))) (by simp only [List.cons_append, List.append_assoc, List.nil_append, List.append_nil]) ?_
  refine z_putA 13 rfl lX5_18 ⟨_, _, _, rfl, rfl, rfl⟩ rfl rfl rfl ?_
  refine z_aload_n 14 rfl rfl ?_
  refine z_bipush (v := 6) 15 rfl (by decide) ?_
  refine z_bipush (v := 6) 16 rfl (by decide) ?_
  refine z_mnaL 17 6 6 4 33 (by simp only [List.length_cons, List.length_append, List.length_nil, zmL_len, laL_len, noL_len, unL_len]; try omega) (by simp only [List.map_cons, List.map_append, List.map_nil, List.sum_cons, List.sum_append, List.sum_nil, zmL_sum, zcR_s, zcI_s, zC0_s, laL_sum, noL_sum, unL_sum]; try omega) rfl (ztb_t (zt2 _ (List.mem_of_getElem? (i := 85) rfl)) rfl) hov (by decide) (by decide) (by decide) (by decide) (by decide) (by decide) hx (by omega) ⟨by show zn h + 4 + zx h + 7 ≤ zn h + 1 + zx h + 16; omega, by show zs h + 33 + 42 ≤ zs h + 15 + 94; omega⟩ ?_
  refine zgl (L' := (zcR (zcR (zcR (zC0 5 0 15) 0 (some (zn h + 1))) 1 (some (zn h + 2))) 2 (some (zn h + 3))) :: ((zC0 100 6 6) :: ((zC0 100 6 6) :: ((zC0 100 6 6) :: (zmL (zn h + 4) 6 6 ++ ([])))))) (by simp only [List.cons_append, List.append_assoc, List.nil_append, List.append_nil]) ?_
  refine z_putA 18 rfl lX5_23 ⟨_, _, _, rfl, rfl, rfl⟩ rfl rfl rfl ?_
  refine z_aload_n 19 rfl rfl ?_
  refine z_iconst (v := 5) 20 rfl (by decide) ?_
  refine z_newI 21 5 11 75 (by simp only [List.length_cons, List.length_append, List.length_nil, zmL_len, laL_len, noL_len, unL_len]; try omega) (by simp only [List.map_cons, List.map_append, List.map_nil, List.sum_cons, List.sum_append, List.sum_nil, zmL_sum, zcR_s, zcI_s, zC0_s, laL_sum, noL_sum, unL_sum]; try omega) rfl (by decide) (by decide) hx (by omega) ⟨by show zn h + 11 + zx h + 1 ≤ zn h + 1 + zx h + 16; omega, by show zs h + 75 + 5 ≤ zs h + 15 + 94; omega⟩ (by decide) ?_
  refine zgl (L' := (zcR (zcR (zcR (zcR (zC0 5 0 15) 0 (some (zn h + 1))) 1 (some (zn h + 2))) 2 (some (zn h + 3))) 3 (some (zn h + 4))) :: ((zC0 100 6 6) :: ((zC0 100 6 6) :: ((zC0 100 6 6) :: (zmL (zn h + 4) 6 6 ++ ((zC0 100 5 5) :: ([]))))))) (by simp only [List.cons_append, List.append_assoc, List.nil_append, List.append_nil]) ?_
  refine z_putA 22 rfl lX5_26 ⟨_, _, _, rfl, rfl, rfl⟩ rfl rfl rfl ?_
  refine z_aload_n 23 rfl rfl ?_
  refine z_iconst (v := 5) 24 rfl (by decide) ?_
  refine z_newI 25 5 12 80 (by simp only [List.length_cons, List.length_append, List.length_nil, zmL_len, laL_len, noL_len, unL_len]; try omega) (by simp only [List.map_cons, List.map_append, List.map_nil, List.sum_cons, List.sum_append, List.sum_nil, zmL_sum, zcR_s, zcI_s, zC0_s, laL_sum, noL_sum, unL_sum]; try omega) rfl (by decide) (by decide) hx (by omega) ⟨by show zn h + 12 + zx h + 1 ≤ zn h + 1 + zx h + 16; omega, by show zs h + 80 + 5 ≤ zs h + 15 + 94; omega⟩ (by decide) ?_
  refine zgl (L' := (zcR (zcR (zcR (zcR (zcR (zC0 5 0 15) 0 (some (zn h + 1))) 1 (some (zn h + 2))) 2 (some (zn h + 3))) 3 (some (zn h + 4))) 4 (some (zn h + 11))) :: ((zC0 100 6 6) :: ((zC0 100 6 6) :: ((zC0 100 6 6) :: (zmL (zn h + 4) 6 6 ++ ((zC0 100 5 5) :: ((zC0 100 5 5) :: ([])))))))) (by simp only [List.cons_append, List.append_assoc, List.nil_append, List.append_nil]) ?_
  refine z_putA 26 rfl lX5_29 ⟨_, _, _, rfl, rfl, rfl⟩ rfl rfl rfl ?_
  refine z_aload_n 27 rfl rfl ?_
  refine z_iconst (v := 5) 28 rfl (by decide) ?_
  refine z_newI 29 5 13 85 (by simp only [List.length_cons, List.length_append, List.length_nil, zmL_len, laL_len, noL_len, unL_len]; try omega) (by simp only [List.map_cons, List.map_append, List.map_nil, List.sum_cons, List.sum_append, List.sum_nil, zmL_sum, zcR_s, zcI_s, zC0_s, laL_sum, noL_sum, unL_sum]; try omega) rfl (by decide) (by decide) hx (by omega) ⟨by show zn h + 13 + zx h + 1 ≤ zn h + 1 + zx h + 16; omega, by show zs h + 85 + 5 ≤ zs h + 15 + 94; omega⟩ (by decide) ?_
  refine zgl (L' := (zcR (zcR (zcR (zcR (zcR (zcR (zC0 5 0 15) 0 (some (zn h + 1))) 1 (some (zn h + 2))) 2 (some (zn h + 3))) 3 (some (zn h + 4))) 4 (some (zn h + 11))) 5 (some (zn h + 12))) :: ((zC0 100 6 6) :: ((zC0 100 6 6) :: ((zC0 100 6 6) :: (zmL (zn h + 4) 6 6 ++ ((zC0 100 5 5) :: ((zC0 100 5 5) :: ((zC0 100 5 5) :: ([]))))))))) (by simp only [List.cons_append, List.append_assoc, List.nil_append, List.append_nil]) ?_
  refine z_putA 30 rfl lX5_32 ⟨_, _, _, rfl, rfl, rfl⟩ rfl rfl rfl ?_
  refine z_aload_n 31 rfl rfl ?_
  refine z_iconst (v := 5) 32 rfl (by decide) ?_
  refine z_newI 33 5 14 90 (by simp only [List.length_cons, List.length_append, List.length_nil, zmL_len, laL_len, noL_len, unL_len]; try omega) (by simp only [List.map_cons, List.map_append, List.map_nil, List.sum_cons, List.sum_append, List.sum_nil, zmL_sum, zcR_s, zcI_s, zC0_s, laL_sum, noL_sum, unL_sum]; try omega) rfl (by decide) (by decide) hx (by omega) ⟨by show zn h + 14 + zx h + 1 ≤ zn h + 1 + zx h + 16; omega, by show zs h + 90 + 5 ≤ zs h + 15 + 94; omega⟩ (by decide) ?_
  refine zgl (L' := (zcR (zcR (zcR (zcR (zcR (zcR (zcR (zC0 5 0 15) 0 (some (zn h + 1))) 1 (some (zn h + 2))) 2 (some (zn h + 3))) 3 (some (zn h + 4))) 4 (some (zn h + 11))) 5 (some (zn h + 12))) 6 (some (zn h + 13))) :: ((zC0 100 6 6) :: ((zC0 100 6 6) :: ((zC0 100 6 6) :: (zmL (zn h + 4) 6 6 ++ ((zC0 100 5 5) :: ((zC0 100 5 5) :: ((zC0 100 5 5) :: ((zC0 100 5 5) :: ([])))))))))) (by simp only [List.cons_append, List.append_assoc, List.nil_append, List.append_nil]) ?_
  refine z_putA 34 rfl lX5_35 ⟨_, _, _, rfl, rfl, rfl⟩ rfl rfl rfl ?_
  refine z_aload_n 35 rfl rfl ?_
  refine z_bipush (v := 6) 36 rfl (by decide) ?_
  refine z_newI 37 6 15 95 (by simp only [List.length_cons, List.length_append, List.length_nil, zmL_len, laL_len, noL_len, unL_len]; try omega) (by simp only [List.map_cons, List.map_append, List.map_nil, List.sum_cons, List.sum_append, List.sum_nil, zmL_sum, zcR_s, zcI_s, zC0_s, laL_sum, noL_sum, unL_sum]; try omega) rfl (by decide) (by decide) hx (by omega) ⟨by show zn h + 15 + zx h + 1 ≤ zn h + 1 + zx h + 16; omega, by show zs h + 95 + 6 ≤ zs h + 15 + 94; omega⟩ (by decide) ?_
  refine zgl (L' := (zcR (zcR (zcR (zcR (zcR (zcR (zcR (zcR (zC0 5 0 15) 0 (some (zn h + 1))) 1 (some (zn h + 2))) 2 (some (zn h + 3))) 3 (some (zn h + 4))) 4 (some (zn h + 11))) 5 (some (zn h + 12))) 6 (some (zn h + 13))) 7 (some (zn h + 14))) :: ((zC0 100 6 6) :: ((zC0 100 6 6) :: ((zC0 100 6 6) :: (zmL (zn h + 4) 6 6 ++ ((zC0 100 5 5) :: ((zC0 100 5 5) :: ((zC0 100 5 5) :: ((zC0 100 5 5) :: ((zC0 100 6 6) :: ([]))))))))))) (by simp only [List.cons_append, List.append_assoc, List.nil_append, List.append_nil]) ?_
  refine z_putA 38 rfl lX5_38 ⟨_, _, _, rfl, rfl, rfl⟩ rfl rfl rfl ?_
  refine z_aload_n 39 rfl rfl ?_
  refine z_bipush (v := 8) 40 rfl (by decide) ?_
  refine z_newI 41 8 16 101 (by simp only [List.length_cons, List.length_append, List.length_nil, zmL_len, laL_len, noL_len, unL_len]; try omega) (by simp only [List.map_cons, List.map_append, List.map_nil, List.sum_cons, List.sum_append, List.sum_nil, zmL_sum, zcR_s, zcI_s, zC0_s, laL_sum, noL_sum, unL_sum]; try omega) rfl (by decide) (by decide) hx (by omega) ⟨by show zn h + 16 + zx h + 1 ≤ zn h + 1 + zx h + 16; omega, by show zs h + 101 + 8 ≤ zs h + 15 + 94; omega⟩ (by decide) ?_
  refine zgl (L' := (zcR (zcR (zcR (zcR (zcR (zcR (zcR (zcR (zcR (zC0 5 0 15) 0 (some (zn h + 1))) 1 (some (zn h + 2))) 2 (some (zn h + 3))) 3 (some (zn h + 4))) 4 (some (zn h + 11))) 5 (some (zn h + 12))) 6 (some (zn h + 13))) 7 (some (zn h + 14))) 8 (some (zn h + 15))) :: ((zC0 100 6 6) :: ((zC0 100 6 6) :: ((zC0 100 6 6) :: (zmL (zn h + 4) 6 6 ++ ((zC0 100 5 5) :: ((zC0 100 5 5) :: ((zC0 100 5 5) :: ((zC0 100 5 5) :: ((zC0 100 6 6) :: ((zC0 100 8 8) :: ([])))))))))))) (by simp only [List.cons_append, List.append_assoc, List.nil_append, List.append_nil]) ?_
  refine z_putA 42 rfl lX5_41 ⟨_, _, _, rfl, rfl, rfl⟩ rfl rfl rfl ?_
  refine zgl (L' := stL (zn h)) rfl ?_
  exact z_vret 43 rfl rfl ⟨by rw [zn_app, zx_app, stL_len]; show _ = zn h + 1 + zx h + 16; omega, by rw [zs_app, stL_sum]; show _ = zs h + 15 + 94; omega⟩ ⟨rfl, rfl⟩
def nuL (n : Nat) : List zC := (zC0 2 0 1) :: ([])
theorem nuL_len (n : Nat) : (nuL n).length = 1 := by unfold nuL; simp only [List.length_cons, List.length_append, List.length_nil, zmL_len, laL_len, noL_len, unL_len, stL_len]; try omega
theorem nuL_sum (n : Nat) : ((nuL n).map fun c => c.2.2.1).sum = 1 := by unfold nuL; simp only [List.map_cons, List.map_append, List.map_nil, List.sum_cons, List.sum_append, List.sum_nil, zmL_sum, zcR_s, zcI_s, zC0_s, laL_sum, noL_sum, unL_sum, stL_sum]; try omega
set_option maxRecDepth 100000 in
theorem mk_X2 {G : zG} {d : Nat} (hov : zOv G) (hns : zNs G) : zMk G mX2_init 2 1 (d + 1) 0 0 nuL := by
  intro h hx hn
  refine zcon_intro (by decide +kernel) eX2_init (Nat.le_of_ble_eq_true rfl) (fun a ha => List.all_eq_true.mp (show ([.ref (zn h)] : List Value).all zcat1 = true from rfl) a ha) ?_
  show zGo G mX2_init (d + 1) (zn (zapp h [zC0 2 0 1]) + zx (zapp h [zC0 2 0 1]), zs (zapp h [zC0 2 0 1]), 0, 0) 0 [.ref (zn h)] [] (zapp h [zC0 2 0 1]) _
  refine z_aload_n 0 rfl rfl ?_
  refine z_objInit 1 rfl ⟨ztb_t (zt2 _ (List.mem_of_getElem? (i := 154) rfl)) rfl, zoi⟩ (Nat.le_of_ble_eq_true rfl) (Nat.le_add_left _ _) ?_
  refine zgl (L' := nuL (zn h)) rfl ?_
  exact z_vret 2 rfl rfl ⟨by rw [zn_app, zx_app, nuL_len]; show _ = zn h + 1 + zx h + 0; omega, by rw [zs_app, nuL_sum]; show _ = zs h + 1 + 0; omega⟩ ⟨rfl, rfl⟩
