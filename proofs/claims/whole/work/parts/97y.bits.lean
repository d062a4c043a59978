/-! ONE BIT of a set, on both sides. -/
theorem hb_u : ∀ p, p < 32 → (((nI p).toUInt32 &&& Int32.toUInt32 31).toBitVec % 32).toNat = p := by decide +kernel
theorem hb_s : ∀ p, p < 32 → ((nI p &&& 31).toBitVec.smod 32).toNat = p := by decide +kernel
theorem hb_1 (n : Nat) (h : n < 2 ^ 31) : nI n &&& 1 = nI (n % 2) := by
  have := pk_andN (n := n) (by omega) (m := 1) 1 (by decide)
  simpa using this
theorem hb_t (b p : Nat) : b.testBit p = decide (b / 2 ^ p % 2 = 1) := by
  rw [Nat.testBit_eq_decide_div_mod_eq]
theorem has_e {b p : Nat} (hb : b < 2 ^ 31) (hp : p < 32) : (((nI b).toUInt32 >>> ((nI p).toUInt32 &&& Int32.toUInt32 31)).toInt32) &&& 1 = nI (b / 2 ^ p % 2) := by
  rw [pk_ushrN (by omega) _ p (hb_u p hp), hb_1 _ (Nat.lt_of_le_of_lt (Nat.div_le_self _ _) hb)]
theorem isOf_e {b p : Nat} (hb : b < 2 ^ 31) (hp : p < 32) : ((nI b) >>> ((nI p) &&& 31)) &&& 1 = nI (b / 2 ^ p % 2) := by
  rw [pk_shrN hb _ p (hb_s p hp), hb_1 _ (Nat.lt_of_le_of_lt (Nat.div_le_self _ _) hb)]
theorem bit_1 {b p : Nat} (h : ¬ nI (b / 2 ^ p % 2) = 0) : b.testBit p = true := by
  rw [hb_t]
  rcases Nat.mod_two_eq_zero_or_one (b / 2 ^ p) with q | q
  · rw [q] at h; exact absurd rfl h
  · exact decide_eq_true q
theorem bit_0 {b p : Nat} (h : nI (b / 2 ^ p % 2) = 0) : ¬ b.testBit p = true := by
  rw [hb_t]
  rcases Nat.mod_two_eq_zero_or_one (b / 2 ^ p) with q | q
  · rw [q]; decide
  · rw [q] at h; exact absurd h (by decide)
theorem bit_1' {b p : Nat} (h : nI (b / 2 ^ p % 2) = 1) : b.testBit p = true := bit_1 fun q => by rw [q] at h; exact absurd h (by decide)
theorem bit_0' {b p : Nat} (h : ¬ nI (b / 2 ^ p % 2) = 1) : ¬ b.testBit p = true := by
  rw [hb_t]
  rcases Nat.mod_two_eq_zero_or_one (b / 2 ^ p) with q | q
  · rw [q]; decide
  · rw [q] at h; exact absurd rfl h
theorem s_has {x : Nat × (Nat → Int32)} {d : Nat} {I : Nat → Nat → Int32} {J : Nat → Nat → Int64} {R : Nat → Nat → Option Nat} {G : zG} {b p : Nat} (hb : b < 2 ^ 31) (hp : p < 32) : zRn x d 98 [.int (nI b), .int (nI p)] (I, J, R, G) (some (.int (bI (b.testBit p = true)))) (I, J, R, G) := by
  show zOk x d 98 0 [.int (nI b), .int (nI p)] [] _ _
  refine k_iload f98_0 rfl ?_
  refine k_iload f98_1 rfl ?_
  refine k_iushr f98_2 ?_
  refine k_iconst (v := 1) f98_3 rfl ?_
  refine k_iand f98_4 ?_
  rw [has_e hb hp]
  refine k_if_eq f98_5 (fun g0 => ?_) (fun g0 => ?_)
  · refine k_iconst (v := 0) f98_12 rfl ?_
    exact k_iret f98_13 (by decide) ⟨bI_f (bit_0 g0), rfl⟩
  · refine k_iconst (v := 1) f98_8 rfl ?_
    refine k_goto f98_9 ?_
    exact k_iret f98_13 (by decide) ⟨bI_t (bit_1 g0), rfl⟩
theorem s_isOf {x : Nat × (Nat → Int32)} {d : Nat} {I : Nat → Nat → Int32} {J : Nat → Nat → Int64} {R : Nat → Nat → Option Nat} {G : zG} {b p : Nat} (hb : b < 2 ^ 31) (hp : p < 32) : zRn x d 111 [.int (nI b), .int (nI p)] (I, J, R, G) (some (.int (bI (b.testBit p = true)))) (I, J, R, G) := by
  show zOk x d 111 0 [.int (nI b), .int (nI p)] [] _ _
  refine k_iload f111_0 rfl ?_
  refine k_iload f111_1 rfl ?_
  refine k_ishr f111_2 ?_
  refine k_iconst (v := 1) f111_3 rfl ?_
  refine k_iand f111_4 ?_
  rw [isOf_e hb hp]
  refine k_iconst (v := 1) f111_5 rfl ?_
  refine k_ic_ne f111_6 (fun g0 => ?_) (fun g0 => ?_)
  · refine k_iconst (v := 0) f111_13 rfl ?_
    exact k_iret f111_14 (by decide) ⟨bI_f (bit_0' g0), rfl⟩
  · refine k_iconst (v := 1) f111_9 rfl ?_
    refine k_goto f111_10 ?_
    exact k_iret f111_14 (by decide) ⟨bI_t (bit_1' (Classical.not_not.mp g0)), rfl⟩
