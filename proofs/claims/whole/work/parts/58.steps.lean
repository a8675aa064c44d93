/-! class cells of one memory, model cells of another: mornings one by one -/
def mg (C N : Nat → Nat → Int32) : Nat → Nat → Int32 := fun c => if c < 132 then C c else N c
theorem mg_lo {C N : Nat → Nat → Int32} {c : Nat} (h : c < 132) : mg C N c = C c := if_pos h
theorem mg_hi {C N : Nat → Nat → Int32} {c : Nat} (h : 132 ≤ c) : mg C N c = N c := if_neg (by omega)
theorem mg_self (I : Nat → Nat → Int32) : mg I I = I := by
  funext c; unfold mg; split <;> rfl
theorem mg_cut (C N : Nat → Nat → Int32) : cut (mg C N) = cut N := cutE (fun c hc => mg_hi hc)
def clE (C J : Nat → Nat → Int32) : Prop := ∀ c, c < 132 → J c = C c
theorem mg_clE (C N : Nat → Nat → Int32) : clE C (mg C N) := fun _ h => mg_lo h
theorem lawV_cl {C J : Nat → Nat → Int32} (h : clE C J) {l r : Nat} (hl : l + 6 ≤ 132) (nm : Nat → Int64) : lawV J l r nm = lawV C l r nm := lawV_congr (fun k hk => h _ (by omega))
theorem takeF_cl {C J : Nat → Nat → Int32} (h : clE C J) {b t nd dt s : Nat} (hb : b + 17 ≤ 132) (ht : t + 29 ≤ 132) (h8 : nd ≤ 8) : takeF J b t nd dt s = takeF C b t nd dt s := by
  have e : mixOn J t nd dt s = mixOn C t nd dt s := by
    unfold mixOn
    by_cases c : nd = 0
    · rw [if_pos c, if_pos c]
    · rw [if_neg c, if_neg c, h (t + 9 + 1 + dt % nd) (by have := Nat.mod_lt dt (show 0 < nd by omega); omega)]
  unfold takeF
  rw [e, h (b + 1) (by omega)]
theorem airG_cl {C J : Nat → Nat → Int32} (h : clE C J) {b t p s : Nat} {mx : Int32} (hb : b + 17 ≤ 132) (ht : t + 29 ≤ 132) (hp : p < 6) : airG J b t p s mx = airG C b t p s mx :=
  airG_congr (h b (by omega)) (h _ (by omega)) (h _ (by omega)) (by rw [h _ (by omega)]) (fun k hk => h _ (by omega))
theorem keenF_cl {C J : Nat → Nat → Int32} (h : clE C J) {b t m p : Nat} (hb : b + 17 ≤ 132) (ht : t + 29 ≤ 132) : keenF J b t m p = keenF C b t m p :=
  keenF_congr (h b (by omega)) (h _ (by omega)) (fun k hk => h _ (by omega))
theorem markF_cl {C J : Nat → Nat → Int32} (h : clE C J) {b t ns m r day : Nat} {keen : Int32} (hb : b + 17 ≤ 132) (ht : t + 29 ≤ 132) (hd : day < 8) : markF J b t ns m r day keen = markF C b t ns m r day keen := by
  unfold markF
  rw [h (t + 9 + 1 + day) (by omega), h (b + 3) (by omega), h (b + 12) (by omega)]
theorem smM_cl {C J : Nat → Nat → Int32} (h : clE C J) {b t ns nd dt m : Nat} (hb : b + 17 ≤ 132) (ht : t + 29 ≤ 132) (h8 : nd ≤ 8) (hr : roomN C b m < 6) : smM J b t ns nd dt m = smM C b t ns nd dt m := by
  have e : roomN J b m = roomN C b m := by unfold roomN; rw [h (b + 11) (by omega)]
  unfold smM keenM
  rw [e, keenF_cl h hb ht, h (b + 12) (by omega)]
  exact smeltF_congr (fun s _ => by rw [takeF_cl h hb ht h8]; exact airG_cl h hb ht hr)
theorem thM_cl {C J : Nat → Nat → Int32} (h : clE C J) {b t ns nd dt m : Nat} (hb : b + 17 ≤ 132) (ht : t + 29 ≤ 132) (h8 : nd ≤ 8) (hr : roomN C b m < 6) : thM J b t ns nd dt m = thM C b t ns nd dt m := by
  have e : roomN J b m = roomN C b m := by unfold roomN; rw [h (b + 11) (by omega)]
  unfold thM
  by_cases c : nd = 0
  · rw [if_pos c, if_pos c, h (b + 14) (by omega)]
  · rw [if_neg c, if_neg c, smM_cl h hb ht h8 hr, h (b + 14) (by omega)]
    congr 1
    unfold keenM
    rw [e, keenF_cl h hb ht]
    exact thkF_congr (by omega) (fun day hday => by rw [markF_cl h hb ht (by omega)]) _ _
set_option maxHeartbeats 1000000 in
theorem mornR_mg {C C' : Nat → Nat → Int32} (N : Nat → Nat → Int32) {b t ns nd nr nm dt : Nat} (hb : b + 17 ≤ 132) (ht : t + 29 ≤ 132) (h6 : nr ≤ 6) (h8 : nd ≤ 8) (hrm : ∀ m, m < nm → ∃ r, r < nr ∧ C (b + 11) m = nI r) (hM : mornR C C' b t ns nd nr nm dt) : mornR (mg C N) (mg C' N) b t ns nd nr nm dt := by
  have h := mg_clE C N
  have h' := mg_clE C' N
  have hr : ∀ m, m < nm → roomN C b m < 6 := fun m hm => by
    obtain ⟨r, hr, er⟩ := hrm m hm
    unfold roomN; rw [er, zcla (by omega)]; omega
  have emo : ∀ today, mostF (thM (mg C N) b t ns nd dt) (C b 14) nm nd today = mostF (thM C b t ns nd dt) (C b 14) nm nd today := fun today => mostF_congr (fun m hm => thM_cl h hb ht h8 (hr m hm))
  obtain ⟨m1, m2, m3, m4, m5, m6, m7, m8, m9, m10, m11, m12⟩ := hM
  unfold mornR
  rw [h (b + 3) (by omega), h' (b + 3) (by omega), h (b + 11) (by omega), h' (b + 11) (by omega), h (b + 12) (by omega), h' (b + 12) (by omega), h (b + 1) (by omega), h' (b + 1) (by omega), h' (b + 2) (by omega), h' (b + 13) (by omega), h' (b + 14) (by omega), h b (by omega), h' b (by omega), h (t + 8) (by omega)]
  refine ⟨fun a ha => ?_, m2, m3, m4, fun s hs => ?_, m6, fun p s hp hs => ?_, fun m hm => ?_, m9, m10, m11, fun q => ?_⟩
  · by_cases c : a < 132
    · rw [h a c, h' a c]; exact m1 a ha
    · rw [mg_hi (by omega), mg_hi (by omega)]
  · rw [takeF_cl h hb ht h8]; exact m5 s hs
  · rw [h' (b + 4 + 1 + p) (by omega), takeF_cl h hb ht h8, airG_cl h hb ht (by omega)]; exact m7 p s hp hs
  · rw [smM_cl h hb ht h8 (hr m hm), thM_cl h hb ht h8 (hr m hm)]; exact m8 m hm
  · rw [emo]; exact m12 q
theorem passR_mg {N N' : Nat → Nat → Int32} (C : Nat → Nat → Int32) {a ns nd nr nm dt : Nat} (h : passR N N' a ns nd nr nm dt) : passR (mg C N) (mg C N') a ns nd nr nm dt := by
  have ce := mg_cut C N
  have ar : ∀ p s, arN (mg C N) a nd dt p s = arN N a nd dt p s := fun p s => by rw [arN_cut, ce, ← arN_cut]
  have sm : ∀ m, smN (mg C N) a ns nd dt m = smN N a ns nd dt m := fun m => by rw [smN_cut, ce, ← smN_cut]
  have th : ∀ m, thN (mg C N) a ns nd dt m = thN N a ns nd dt m := fun m => by rw [thN_cut, ce, ← thN_cut]
  have mo : moN (mg C N) a ns nd nm dt = moN N a ns nd nm dt := by rw [moN_cut, ce, ← moN_cut]
  have sto : ∀ s, stM (mg C N) a nd dt s = stM N a nd dt s := fun s => by rw [stM_cut, ce, ← stM_cut]
  obtain ⟨r1, r2, r3, r4, r5, r6, r7, r8, r9, r10, r11, r12, r13⟩ := h
  unfold passR
  have hi : ∀ c, 132 ≤ c → mg C N c = N c := fun c hc => mg_hi hc
  have hi' : ∀ c, 132 ≤ c → mg C N' c = N' c := fun c hc => mg_hi hc
  rw [hi 132 (by decide), hi' 132 (by decide), hi 151 (by decide), hi' 151 (by decide), hi 152 (by decide), hi' 152 (by decide), hi 153 (by decide), hi' 153 (by decide), hi 154 (by decide), hi' 154 (by decide), hi 156 (by decide), hi' 156 (by decide), hi 157 (by decide), hi' 157 (by decide), hi 158 (by decide), hi' 158 (by decide), hi 161 (by decide), hi' 161 (by decide), hi 162 (by decide), hi' 162 (by decide), hi 138 (by decide), mo]
  refine ⟨fun c x1 x2 x3 x4 x5 x6 x7 x8 x9 x10 x11 x12 => ?_, r2, r3, r4, r5, r6, r7, fun s hs => ?_, r9, fun p s hp hs => ?_, fun m hm => ?_, r12, r13⟩
  · by_cases c' : c < 132
    · rw [mg_lo c', mg_lo c']
    · rw [mg_hi (by omega), mg_hi (by omega)]; exact r1 c x1 x2 x3 x4 x5 x6 x7 x8 x9 x10 x11 x12
  · rw [sto]; exact r8 s hs
  · rw [ar]; exact r10 p s hp hs
  · rw [sm, th]; exact r11 m hm
/-- class state and model abbey alike, without a trial's changes -/
def relS (I : Nat → Nat → Int32) (b a ns nr nm : Nat) : Prop := I b 10 = I 151 a ∧ I b 11 = I 152 a ∧ I b 12 = I 153 a ∧ I b 13 = I 154 a ∧ I b 14 = -1 ∧ (∀ s, s < ns → I (b + 1) s = I 156 (6 * a + s) ∧ I (b + 2) s = I 157 (6 * a + s)) ∧ (∀ p, p < nr → I (b + 3) p = I 141 p) ∧ (∀ p s, p < nr → s < ns → I (b + 4 + 1 + p) s = I 158 (36 * a + 6 * p + s)) ∧ (∀ m, m < nm → I (b + 11) m = I 159 (5 * a + m) ∧ I (b + 12) m = I 160 (5 * a + m) ∧ I (b + 13) m = I 161 (5 * a + m) ∧ I (b + 14) m = I 162 (5 * a + m))
theorem mix_eq {I : Nat → Nat → Int32} {t ns nd nr nm dt s : Nat} (hT : rlT I t ns nd nr nm) (hpl : pln I) (h8 : nd ≤ 8) (hs : s < ns) : mixOn I t nd dt s = mN I nd dt s := by
  unfold mixOn mN
  by_cases c : nd = 0
  · rw [if_pos c, if_pos c]
  · have hlt := Nat.mod_lt dt (show 0 < nd by omega)
    rw [if_neg c, if_neg c, mxM_pln hpl (by omega)]
    exact hT.2.2.2.1 _ s hlt hs
theorem relS_pre {I : Nat → Nat → Int32} {b t a ns nd nr nm : Nat} (dt : Nat) (hT : rlT I t ns nd nr nm) (hpl : pln I) (h0 : I 132 48 = 0) (h8 : nd ≤ 8) (h : relS I b a ns nr nm) : preS I b t a ns nd nr nm dt := by
  obtain ⟨s1, s2, s3, s4, s5, s6, s7, s8, s9⟩ := h
  refine ⟨s1, s2, s3, s4, ?_, fun s hs => ?_, fun s hs => (s6 s hs).2, fun p hp => ?_, fun p s hp hs => ?_, fun m hm => ⟨(s9 m hm).1, ?_, (s9 m hm).2.2.2⟩⟩
  · rw [s5]; unfold abM; rw [h0]; rfl
  · unfold takeF tkM
    rw [h0, if_neg (show ¬ (0 : Int32) = 4 by decide), mix_eq hT hpl h8 hs, (s6 s hs).1]
  · rw [s7 p hp]; unfold ptM; rw [h0]; rfl
  · rw [s8 p s hp hs]; unfold leM; rw [h0]; rfl
  · rw [(s9 m hm).2.1]; unfold cdM; rw [h0]; rfl
theorem post_relS {I I2 : Nat → Nat → Int32} {b a ns nd nr nm dt : Nat} (hb : b + 17 ≤ 132) (h0 : I 132 48 = 0) (h : relS I b a ns nr nm) (hP : postS I I2 b a ns nd nr nm dt) (hF : frS I I2 b a) : relS I2 b a ns nr nm := by
  obtain ⟨s1, s2, s3, s4, s5, s6, s7, s8, s9⟩ := h
  obtain ⟨p1, p2, p3, p4, p5, p6, p7, p8, p9, p10, p11, p12, p13⟩ := hP
  have c : ∀ c, c = 141 ∨ c = 159 ∨ c = 160 → I2 c = I c := fun c hc => hF.1 c (by omega) (by omega) (by omega) (by omega) (by omega) (by omega) (by omega) (by omega) (by omega) (by omega) (by omega) (by omega) (by omega)
  refine ⟨p1, p2, p3, p4, by rw [p5, s5], fun s hs => ⟨?_, ?_⟩, fun p hp => ?_, p8, fun m hm => ⟨?_, ?_, (p11 m hm).1, (p11 m hm).2⟩⟩
  · rw [(p12 s hs).1, (p12 s hs).2, (s6 s hs).1]; unfold stM; rw [h0, if_neg (by decide)]
  · rw [(p6 s hs).1, (p6 s hs).2]
  · rw [p7, c 141 (by decide)]; exact s7 p hp
  · rw [p9, c 159 (by decide)]; exact (s9 m hm).1
  · rw [p10, c 160 (by decide)]; exact (s9 m hm).2.1
theorem mdOK_E {I I' : Nat → Nat → Int32} {ns nd nr nm : Nat} (h : mdOK I ns nd nr nm) (h1 : ∀ c, c = 134 ∨ c = 139 ∨ c = 141 ∨ c = 144 ∨ c = 145 ∨ c = 146 ∨ c = 147 ∨ c = 148 → I' c = I c) (h2 : ∀ k, k ≠ 33 → I' 132 k = I 132 k) : mdOK I' ns nd nr nm := by
  obtain ⟨a1, a2, a3, a4, a5, a6, a7, a8, a9, a10, a11, a12, a13, a14⟩ := h
  refine ⟨?_, ?_, ?_, ?_, a5, a6, a7, a8, mlOK_E a9 (h1 145 (by decide)) (h1 146 (by decide)) (h1 147 (by decide)) (h1 148 (by decide)), ?_, ?_, fun dy s x y => ?_, ?_, ?_⟩
  · rw [h1 134 (by decide)]; exact a1
  · rw [h1 134 (by decide)]; exact a2
  · rw [h1 134 (by decide)]; exact a3
  · rw [h1 134 (by decide)]; exact a4
  · unfold plOK; rw [h2 50 (by decide)]; exact a10
  · rw [h1 144 (by decide)]; exact a11
  · rw [mxM_K h2 (h1 139 (by decide))]; exact a12 dy s x y
  · rw [h1 134 (by decide)]; exact a13
  · rw [h1 141 (by decide)]; exact a14
theorem passR_md {I I' : Nat → Nat → Int32} {a ns nd nr nm dt : Nat} (h : mdOK I ns nd nr nm) (q : passR I I' a ns nd nr nm dt) : mdOK I' ns nd nr nm := mdOK_E h (fun c hc => q.1 c (by omega) (by omega) (by omega) (by omega) (by omega) (by omega) (by omega) (by omega) (by omega) (by omega) (by omega) (by omega)) q.2.1
theorem passR_ab {I I' : Nat → Nat → Int32} {a ns nd nr nm dt : Nat} (hM : mdOK I ns nd nr nm) (hA : abOK I a ns nd nr nm dt) (hd : dt ≤ 20000) (q : passR I I' a ns nd nr nm dt) : abOK I' a ns nd nr nm (dt + 1) := by
  have hB := fun p s => arN_B (p := p) (s := s) hM hA hd
  obtain ⟨r1, r2, r3, r4, r5, r6, r7, r8, r9, r10, r11, r12, r13⟩ := q
  obtain ⟨-, -, -, -, h6, h8, -, -, -, -, -, hmx, -, -⟩ := hM
  obtain ⟨a1, a2, a3, a4, a5, a6⟩ := hA
  refine ⟨?_, fun m hm h0 => ?_, ?_, fun s hs => ⟨0, by omega, ?_⟩, fun p s hp hs => ?_, fun s hs => ?_⟩
  · rw [r1 159 (by decide) (by decide) (by decide) (by decide) (by decide) (by decide) (by decide) (by decide) (by decide) (by decide) (by decide) (by decide)]; exact a1
  · rw [(r11 m hm).2]; unfold thN; rw [if_neg (by omega)]; exact ⟨_, thkF_lt h0 _ _, rfl⟩
  · rw [r7, a3, nI_1]
  · rw [r9 s (by omega)]; rfl
  · rw [r10 p s hp hs]; exact hB p s hp hs
  · obtain ⟨o, o1, eo⟩ := a6 s hs
    rw [r8 s hs]
    unfold stM
    by_cases c : I 132 48 = 4
    · rw [if_pos c]; exact ⟨o, o1, eo⟩
    · rw [if_neg c]
      unfold tkM
      rw [if_neg c, eo]
      obtain ⟨n, n1, en⟩ : ∃ n, n ≤ 198 ∧ mN I nd dt s = nI n := by
        unfold mN
        by_cases c : nd = 0
        · rw [if_pos c]; exact ⟨0, by omega, rfl⟩
        · rw [if_neg c]; exact hmx _ s (Nat.mod_lt _ (by omega)) hs
      rw [en]
      by_cases c2 : nI o < nI n
      · rw [if_pos c2, pk_sub (Nat.le_refl _)]; exact ⟨_, by omega, rfl⟩
      · have : n ≤ o := Nat.le_of_not_lt (fun q => c2 ((nI_ltI (by omega) (by omega)).mpr q))
        rw [if_neg c2, pk_sub this]; exact ⟨_, by omega, rfl⟩
