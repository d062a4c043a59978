/-! HOW MANY COINS one holds: the class counts, the reference takes the bits of a set. -/
def ppB (n k : Nat) : Bool := decide (k < 2 ^ n → popc (k ||| 2 ^ n) = popc k + 1)
theorem pp_all : (List.range 10).all (fun n => (List.range 1024).all (fun k => ppB n k)) = true := by decide +kernel
theorem popc_or {n k : Nat} (hn : n < 10) (hk : k < 2 ^ n) : popc (k ||| 2 ^ n) = popc k + 1 := by
  have h1 := List.all_eq_true.mp pp_all n (List.mem_range.mpr hn)
  have hp : 2 ^ n ≤ 2 ^ 10 := Nat.pow_le_pow_right (by omega) (by omega)
  have h2 := List.all_eq_true.mp h1 k (List.mem_range.mpr (by omega))
  exact (of_decide_eq_true h2) hk
theorem purse_eq {s : Nat → Int32} {p : Int32} : ∀ n, n ≤ 8 → ∃ k, k < 2 ^ n ∧ acc (fH s p) n = nI k ∧ acc (fC s p) n = nI (popc k) := by
  intro n
  induction n with
  | zero => intro _; exact ⟨0, by omega, rfl, rfl⟩
  | succ n ih =>
    intro hn
    obtain ⟨k, hk, e1, e2⟩ := ih (by omega)
    have h2 : 2 ^ (n + 1) = 2 * 2 ^ n := by rw [Nat.pow_succ]; omega
    by_cases g : s (8 + 6 * n + 1) = p
    · refine ⟨k ||| 2 ^ n, Nat.or_lt_two_pow (by omega) (by omega), ?_, ?_⟩
      · rw [acc_s, fH, if_pos g, e1, sh_1 n (by omega), nI_or]
      · rw [acc_s, fC, if_pos g, e2, nI_1, popc_or (by omega) hk]
    · exact ⟨k, by omega, by rw [acc_s, fH, if_neg g, e1], by rw [acc_s, fC, if_neg g, e2]⟩
