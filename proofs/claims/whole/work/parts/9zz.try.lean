theorem tB1 : False := @Stand.ctorMessageOn
theorem tB2 : False := @Stand.ctorThrowOnS
theorem tB3 : False := @PassC.LinksS
theorem tB4 : False := @PassC.mk
theorem tB5 (P : PassC) (pl : Platform) (s : State) (h : P.LinksS pl s) : False := by
  unfold PassC.LinksS at h
  exact h
theorem tB6 (P : PassC) : False := by
  cases P
  exact 0
theorem tB7 (X : String) : Bundle.passSAtoms X "B" 7 Bundle.six = [] := by
  unfold Bundle.passSAtoms
  rfl
theorem tB8 : False := @Bundle.passS_links
theorem tB9 : False := @Stand.ctorMessage
theorem tB10 : False := @Stand.ctorS
theorem tB11 : False := @Stand.initChainS
theorem tB12 : Bundle.six = ⟨#[]⟩ := by
  unfold Bundle.six
  rfl
