/-- new int[N][K] -/
def zmL (n N K : Nat) : List zC := (104, N, N, (fun i => if i < N then some (n + 1 + i) else none), fun _ => 0) :: List.replicate N (zC0 100 K K)
theorem zmL_len (n N K : Nat) : (zmL n N K).length = N + 1 := by
  show (List.replicate N (zC0 100 K K)).length + 1 = N + 1
  rw [List.length_replicate]
theorem zrep_sum (K : Nat) : ∀ N, ((List.replicate N (zC0 100 K K)).map fun c => c.2.2.1).sum = N * K
  | 0 => by rw [Nat.zero_mul]; rfl
  | N + 1 => by
    have ih := zrep_sum K N
    rw [List.replicate_succ, List.map_cons, List.sum_cons, ih, Nat.succ_mul, Nat.add_comm]
    rfl
theorem zmL_sum (n N K : Nat) : ((zmL n N K).map fun c => c.2.2.1).sum = N + N * K := by
  unfold zmL
  rw [List.map_cons, List.sum_cons, zrep_sum]
