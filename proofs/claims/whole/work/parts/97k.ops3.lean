/-! PAIRS: coin, meeting, person, count. -/
theorem ad_0 (a : Int32) : a + 0 = a := by simp
theorem sw3 (a : Int32) : (a < 0 ∨ 2 < a) ∨ a = 0 ∨ a = 1 ∨ a = 2 := by
  rcases pk_ix a (n := 3) (by omega) with h | h | ⟨j, hj, e⟩
  · exact Or.inl (Or.inl h)
  · exact Or.inl (Or.inr (Int32.lt_of_lt_of_le (by decide) h))
  · match j, hj with
    | 0, _ => exact Or.inr (Or.inl e)
    | 1, _ => exact Or.inr (Or.inr (Or.inl e))
    | 2, _ => exact Or.inr (Or.inr (Or.inr e))
theorem sw7 (a : Int32) : (a < 0 ∨ 6 < a) ∨ a = 0 ∨ a = 1 ∨ a = 2 ∨ a = 3 ∨ a = 4 ∨ a = 5 ∨ a = 6 := by
  rcases pk_ix a (n := 7) (by omega) with h | h | ⟨j, hj, e⟩
  · exact Or.inl (Or.inl h)
  · exact Or.inl (Or.inr (Int32.lt_of_lt_of_le (by decide) h))
  · match j, hj with
    | 0, _ => exact Or.inr (Or.inl e)
    | 1, _ => exact Or.inr (Or.inr (Or.inl e))
    | 2, _ => exact Or.inr (Or.inr (Or.inr (Or.inl e)))
    | 3, _ => exact Or.inr (Or.inr (Or.inr (Or.inr (Or.inl e))))
    | 4, _ => exact Or.inr (Or.inr (Or.inr (Or.inr (Or.inr (Or.inl e)))))
    | 5, _ => exact Or.inr (Or.inr (Or.inr (Or.inr (Or.inr (Or.inr (Or.inl e))))))
    | 6, _ => exact Or.inr (Or.inr (Or.inr (Or.inr (Or.inr (Or.inr (Or.inr e))))))
theorem sw12 (a : Int32) : (a < 0 ∨ 11 < a) ∨ a = 0 ∨ a = 1 ∨ a = 2 ∨ a = 3 ∨ a = 4 ∨ a = 5 ∨ a = 6 ∨ a = 7 ∨ a = 8 ∨ a = 9 ∨ a = 10 ∨ a = 11 := by
  rcases pk_ix a (n := 12) (by omega) with h | h | ⟨j, hj, e⟩
  · exact Or.inl (Or.inl h)
  · exact Or.inl (Or.inr (Int32.lt_of_lt_of_le (by decide) h))
  · subst e
    match j, hj with
    | 0, _ => decide
    | 1, _ => decide
    | 2, _ => decide
    | 3, _ => decide
    | 4, _ => decide
    | 5, _ => decide
    | 6, _ => decide
    | 7, _ => decide
    | 8, _ => decide
    | 9, _ => decide
    | 10, _ => decide
    | 11, _ => decide
theorem sw_o {a b : Int32} {n : Int} (hb : b.toInt = n) (h : a < 0 ∨ b < a) : a.toInt < 0 ∨ n < a.toInt := by
  rw [Int32.lt_iff_toInt_lt, Int32.lt_iff_toInt_lt, hb] at h
  exact h
theorem rg2_1 {v : Int32} (h : Rg v 2) (g : ¬ v = 0) : v = 1 := by
  obtain ⟨k, hk, e, -⟩ := h.ex
  subst e
  match k, hk with
  | 0, _ => exact absurd rfl g
  | 1, _ => rfl
theorem in_pred {a v : Int32} {b : Nat} (h : Rg a b) (hb : b ≤ 2 ^ 31) : (¬ v < 0 ∧ ¬ a - 1 < v) ↔ (¬ v < 0 ∧ ¬ a ≤ v) := by
  refine and_congr_right fun hv => not_congr ?_
  obtain ⟨k, hk, e⟩ := nI_of hv
  obtain ⟨n, hn, e2, -⟩ := h.ex
  subst e; subst e2
  match n, hn with
  | 0, _ => exact ⟨fun _ => nI_pos' hk, fun _ => Int32.lt_of_lt_of_le (by decide) (nI_pos' hk)⟩
  | n + 1, hn => rw [nI_pred, nI_ltI (by omega) hk, nI_leI (by omega) hk]; omega
theorem told_ne {v : Int32} (g : 0 ≤ v) : ¬ v = -1 := fun h => by rw [h] at g; exact absurd g (by decide)
theorem told_eq {v : Int32} (h : v = -1 ∨ Rg v 2) (g : ¬ 0 ≤ v) : v = -1 := by
  rcases h with h | h
  · exact h
  · obtain ⟨k, hk, e, -⟩ := h.ex
    exact absurd (e ▸ nI_pos' (by omega)) g
theorem sh_1 : ∀ c, c < 32 → (1 : Int32) <<< (nI c &&& 31) = nI (2 ^ c) := by decide +kernel
theorem acc_bits {f : Nat → Int32 → Int32} (hf : ∀ c a, f c a = a ∨ f c a = a ||| ((1 : Int32) <<< (nI c &&& 31))) : ∀ n, n ≤ 31 → ∃ k, k < 2 ^ n ∧ acc f n = nI k := by
  intro n
  induction n with
  | zero => intro _; exact ⟨0, by omega, rfl⟩
  | succ n ih =>
    intro hn
    obtain ⟨k, hk, e⟩ := ih (by omega)
    have h2 : 2 ^ (n + 1) = 2 * 2 ^ n := by rw [Nat.pow_succ]; omega
    rcases hf n (acc f n) with h | h
    · exact ⟨k, by omega, by rw [acc_s, h, e]⟩
    · refine ⟨k ||| 2 ^ n, Nat.or_lt_two_pow (by omega) (by omega), ?_⟩
      rw [acc_s, h, e, sh_1 n (by omega), nI_or]
theorem fV_or (s : Nat → Int32) (c : Nat) (a : Int32) : fV s c a = a ∨ fV s c a = a ||| ((1 : Int32) <<< (nI c &&& 31)) := by
  unfold fV
  split
  · exact Or.inl rfl
  · exact Or.inr rfl
theorem fH_or (s : Nat → Int32) (p : Int32) (c : Nat) (a : Int32) : fH s p c a = a ∨ fH s p c a = a ||| ((1 : Int32) <<< (nI c &&& 31)) := by
  unfold fH
  split
  · exact Or.inr rfl
  · exact Or.inl rfl
theorem op_coin {x : Nat × (Nat → Int32)} (coin what : Int32) : Op Inv x 76 162 [.int coin, .int what] := by
  refine Op.of2 fun j I J R G hj hI => ?_
  have hS : Sh G := hI.1
  have hR : Rs R := hI.2.1
  have hT1 : Rg (I 9 1) 401 := hI.2.2.2.2.1.1
  have hT2 : I 51 1 = I 9 1 := hI.2.2.2.2.1.2.1
  have hN1 : Rg (I 0 4) 7 := hI.2.2.2.2.2.1.1
  have hN2 : I 51 2 = I 0 4 := hI.2.2.2.2.2.1.2.1
  have hN3 : ∀ t, t < cl (I 0 4) → ∃ r, R 16 t = some r ∧ RuR I R G t r := hI.2.2.2.2.2.1.2.2
  obtain ⟨pl, hst⟩ : ∃ pl, StR I R G 17 pl (I 62) := hI.2.2.2.2.2.2.1
  have hO : SOk (I 62) (cl (I 0 4)) := hI.2.2.2.2.2.2.2.1
  by_cases hP : ¬ coin < 0 ∧ ¬ I 62 1 ≤ coin
  · obtain ⟨c, hc, rfl⟩ := ix_of hO.2.1 (by omega) hP
    have hc8 : c < 8 := Nat.lt_of_lt_of_le hc (Nat.le_of_lt_succ hO.2.1.2)
    have cn : CnV I (17 + 2 + c) (I 62) c := hst.2.2.2.2.2.2.2.2 c hc
    have co : CoinOk (I 62) c := hO.2.2.2.2.2.2.2.1 c hc
    have cz := (hst.1.2.2.2 c hc8).2
    rcases sw7 what with ho | rfl | rfl | rfl | rfl | rfl | rfl | rfl
    · show zOk x 399 76 0 [.ref 0, .int (nI c), .int (what), zU] [] _ _
      refine k_aload f76_0 rfl ?_
      refine k_iload f76_1 rfl ?_
      refine e_v (as := [.int (nI c)]) (rest := []) f76_2 hS.o0 rfl rfl rfl (s_hasCoin hR hS hst) ?_
      refine k_bne f76_5 (fun _ => ?_) (fun h_ => absurd (hP) h_)
      refine k_aload f76_10 rfl ?_
      refine k_getr (q := 17) f76_11 hS.o0 rfl hR.r0_5 ?_
      refine k_getr (q := 18) f76_14 hS.o17 rfl hR.r17_5 ?_
      refine k_iload f76_17 rfl ?_
      refine k_aar (k := c) (q := 17 + 2 + c) f76_18 hS.a18 rfl rfl (by omega) (by decide) (hst.1.2.2.2 c hc8).1 ?_
      refine k_astore (L' := [.ref 0, .int (nI c), .int (what), .ref (17 + 2 + c)]) f76_19 rfl rfl ?_
      refine k_iload f76_20 rfl ?_
      refine k_tsout f76_21 (sw_o (b := 6) (by decide) ho) ?_
      refine k_iconst (v := (-1)) f76_119 rfl ?_
      refine k_iret f76_120 rfl ⟨_, rfl, ?_⟩
      show zOk x 399 162 0 [.ref 51, .int (nI c), .int (what)] [] _ _
      refine k_aload f162_0 rfl ?_
      refine k_iload f162_1 rfl ?_
      refine e_v (as := [.int (nI c)]) (rest := []) f162_2 hS.o51 rfl rfl rfl (s_isCoin (w := I 62 1) hR hS rfl) ?_
      refine k_beq f162_5 (fun h_ => absurd (hP) h_) (fun _ => ?_)
      refine k_iload f162_8 rfl ?_
      refine k_i2l f162_9 ?_
      refine k_lconst (v := 0) f162_10 rfl ?_
      refine k_lconst (v := 6) f162_11 rfl ?_
      refine e_s (as := [.long (6), .long (0), .long ((what).toInt64)]) (rest := []) f162_14 rfl rfl rfl (s_in (0) (6) rfl rfl) ?_
      refine k_bne f162_17 (fun h_ => absurd h_ (fun h => ho.elim h.1 h.2)) (fun _ => ?_)
      refine k_iconst (v := (-1)) f162_20 rfl ?_
      refine k_iret f162_21 rfl ⟨rfl, ?_⟩
      exact inv_q hI (by omega) Kq.rfl KS.rfl
    · show zOk x 399 76 0 [.ref 0, .int (nI c), .int (0), zU] [] _ _
      refine k_aload f76_0 rfl ?_
      refine k_iload f76_1 rfl ?_
      refine e_v (as := [.int (nI c)]) (rest := []) f76_2 hS.o0 rfl rfl rfl (s_hasCoin hR hS hst) ?_
      refine k_bne f76_5 (fun _ => ?_) (fun h_ => absurd (hP) h_)
      refine k_aload f76_10 rfl ?_
      refine k_getr (q := 17) f76_11 hS.o0 rfl hR.r0_5 ?_
      refine k_getr (q := 18) f76_14 hS.o17 rfl hR.r17_5 ?_
      refine k_iload f76_17 rfl ?_
      refine k_aar (k := c) (q := 17 + 2 + c) f76_18 hS.a18 rfl rfl (by omega) (by decide) (hst.1.2.2.2 c hc8).1 ?_
      refine k_astore (L' := [.ref 0, .int (nI c), .int (0), .ref (17 + 2 + c)]) f76_19 rfl rfl ?_
      refine k_iload f76_20 rfl ?_
      refine k_tsin (t := 64) f76_21 (by decide) (by decide) rfl rfl ?_
      refine k_aload f76_64 rfl ?_
      refine k_gI (w := I 62 (8 + 6 * c)) f76_65 (hst.1.2.2.2 c hc8).2 rfl cn.1 ?_
      refine k_iret f76_68 rfl ⟨_, rfl, ?_⟩
      show zOk x 399 162 0 [.ref 51, .int (nI c), .int (0)] [] _ _
      refine k_aload f162_0 rfl ?_
      refine k_iload f162_1 rfl ?_
      refine e_v (as := [.int (nI c)]) (rest := []) f162_2 hS.o51 rfl rfl rfl (s_isCoin (w := I 62 1) hR hS rfl) ?_
      refine k_beq f162_5 (fun h_ => absurd (hP) h_) (fun _ => ?_)
      refine k_iload f162_8 rfl ?_
      refine k_i2l f162_9 ?_
      refine k_lconst (v := 0) f162_10 rfl ?_
      refine k_lconst (v := 6) f162_11 rfl ?_
      refine e_s (as := [.long (6), .long (0), .long ((0 : Int32).toInt64)]) (rest := []) f162_14 rfl rfl rfl (s_in (0) (6) rfl rfl) ?_
      refine k_bne f162_17 (fun _ => ?_) (fun h_ => absurd (by decide) h_)
      refine k_iload f162_22 rfl ?_
      refine k_iconst (v := 5) f162_23 rfl ?_
      refine k_ic_ge f162_24 (fun h_ => absurd h_ (by decide)) (fun _ => ?_)
      refine k_aload f162_27 rfl ?_
      refine k_iload f162_28 rfl ?_
      refine k_iload f162_29 rfl ?_
      refine e_v (as := [.int (0), .int (nI c)]) (rest := []) f162_30 hS.o51 rfl rfl rfl (s_coinOf (c := c) (k := 0) (v := I 62 (8 + 6 * c)) hR hS (by omega) rfl) ?_
      refine k_goto f162_33 ?_
      refine k_iret f162_63 rfl ⟨rfl, ?_⟩
      exact inv_q hI (by omega) Kq.rfl KS.rfl
    · show zOk x 399 76 0 [.ref 0, .int (nI c), .int (1), zU] [] _ _
      refine k_aload f76_0 rfl ?_
      refine k_iload f76_1 rfl ?_
      refine e_v (as := [.int (nI c)]) (rest := []) f76_2 hS.o0 rfl rfl rfl (s_hasCoin hR hS hst) ?_
      refine k_bne f76_5 (fun _ => ?_) (fun h_ => absurd (hP) h_)
      refine k_aload f76_10 rfl ?_
      refine k_getr (q := 17) f76_11 hS.o0 rfl hR.r0_5 ?_
      refine k_getr (q := 18) f76_14 hS.o17 rfl hR.r17_5 ?_
      refine k_iload f76_17 rfl ?_
      refine k_aar (k := c) (q := 17 + 2 + c) f76_18 hS.a18 rfl rfl (by omega) (by decide) (hst.1.2.2.2 c hc8).1 ?_
      refine k_astore (L' := [.ref 0, .int (nI c), .int (1), .ref (17 + 2 + c)]) f76_19 rfl rfl ?_
      refine k_iload f76_20 rfl ?_
      refine k_tsin (t := 69) f76_21 (by decide) (by decide) rfl rfl ?_
      refine k_aload f76_69 rfl ?_
      refine k_gI (w := I 62 (8 + 6 * c + 1)) f76_70 (hst.1.2.2.2 c hc8).2 rfl cn.2.1 ?_
      refine k_iret f76_73 rfl ⟨_, rfl, ?_⟩
      show zOk x 399 162 0 [.ref 51, .int (nI c), .int (1)] [] _ _
      refine k_aload f162_0 rfl ?_
      refine k_iload f162_1 rfl ?_
      refine e_v (as := [.int (nI c)]) (rest := []) f162_2 hS.o51 rfl rfl rfl (s_isCoin (w := I 62 1) hR hS rfl) ?_
      refine k_beq f162_5 (fun h_ => absurd (hP) h_) (fun _ => ?_)
      refine k_iload f162_8 rfl ?_
      refine k_i2l f162_9 ?_
      refine k_lconst (v := 0) f162_10 rfl ?_
      refine k_lconst (v := 6) f162_11 rfl ?_
      refine e_s (as := [.long (6), .long (0), .long ((1 : Int32).toInt64)]) (rest := []) f162_14 rfl rfl rfl (s_in (0) (6) rfl rfl) ?_
      refine k_bne f162_17 (fun _ => ?_) (fun h_ => absurd (by decide) h_)
      refine k_iload f162_22 rfl ?_
      refine k_iconst (v := 5) f162_23 rfl ?_
      refine k_ic_ge f162_24 (fun h_ => absurd h_ (by decide)) (fun _ => ?_)
      refine k_aload f162_27 rfl ?_
      refine k_iload f162_28 rfl ?_
      refine k_iload f162_29 rfl ?_
      refine e_v (as := [.int (1), .int (nI c)]) (rest := []) f162_30 hS.o51 rfl rfl rfl (s_coinOf (c := c) (k := 1) (v := I 62 (8 + 6 * c + 1)) hR hS (by omega) rfl) ?_
      refine k_goto f162_33 ?_
      refine k_iret f162_63 rfl ⟨rfl, ?_⟩
      exact inv_q hI (by omega) Kq.rfl KS.rfl
    · show zOk x 399 76 0 [.ref 0, .int (nI c), .int (2), zU] [] _ _
      refine k_aload f76_0 rfl ?_
      refine k_iload f76_1 rfl ?_
      refine e_v (as := [.int (nI c)]) (rest := []) f76_2 hS.o0 rfl rfl rfl (s_hasCoin hR hS hst) ?_
      refine k_bne f76_5 (fun _ => ?_) (fun h_ => absurd (hP) h_)
      refine k_aload f76_10 rfl ?_
      refine k_getr (q := 17) f76_11 hS.o0 rfl hR.r0_5 ?_
      refine k_getr (q := 18) f76_14 hS.o17 rfl hR.r17_5 ?_
      refine k_iload f76_17 rfl ?_
      refine k_aar (k := c) (q := 17 + 2 + c) f76_18 hS.a18 rfl rfl (by omega) (by decide) (hst.1.2.2.2 c hc8).1 ?_
      refine k_astore (L' := [.ref 0, .int (nI c), .int (2), .ref (17 + 2 + c)]) f76_19 rfl rfl ?_
      refine k_iload f76_20 rfl ?_
      refine k_tsin (t := 74) f76_21 (by decide) (by decide) rfl rfl ?_
      refine k_aload f76_74 rfl ?_
      refine k_gI (w := I 62 (8 + 6 * c + 2)) f76_75 (hst.1.2.2.2 c hc8).2 rfl cn.2.2.1 ?_
      refine k_iret f76_78 rfl ⟨_, rfl, ?_⟩
      show zOk x 399 162 0 [.ref 51, .int (nI c), .int (2)] [] _ _
      refine k_aload f162_0 rfl ?_
      refine k_iload f162_1 rfl ?_
      refine e_v (as := [.int (nI c)]) (rest := []) f162_2 hS.o51 rfl rfl rfl (s_isCoin (w := I 62 1) hR hS rfl) ?_
      refine k_beq f162_5 (fun h_ => absurd (hP) h_) (fun _ => ?_)
      refine k_iload f162_8 rfl ?_
      refine k_i2l f162_9 ?_
      refine k_lconst (v := 0) f162_10 rfl ?_
      refine k_lconst (v := 6) f162_11 rfl ?_
      refine e_s (as := [.long (6), .long (0), .long ((2 : Int32).toInt64)]) (rest := []) f162_14 rfl rfl rfl (s_in (0) (6) rfl rfl) ?_
      refine k_bne f162_17 (fun _ => ?_) (fun h_ => absurd (by decide) h_)
      refine k_iload f162_22 rfl ?_
      refine k_iconst (v := 5) f162_23 rfl ?_
      refine k_ic_ge f162_24 (fun h_ => absurd h_ (by decide)) (fun _ => ?_)
      refine k_aload f162_27 rfl ?_
      refine k_iload f162_28 rfl ?_
      refine k_iload f162_29 rfl ?_
      refine e_v (as := [.int (2), .int (nI c)]) (rest := []) f162_30 hS.o51 rfl rfl rfl (s_coinOf (c := c) (k := 2) (v := I 62 (8 + 6 * c + 2)) hR hS (by omega) rfl) ?_
      refine k_goto f162_33 ?_
      refine k_iret f162_63 rfl ⟨rfl, ?_⟩
      exact inv_q hI (by omega) Kq.rfl KS.rfl
    · show zOk x 399 76 0 [.ref 0, .int (nI c), .int (3), zU] [] _ _
      refine k_aload f76_0 rfl ?_
      refine k_iload f76_1 rfl ?_
      refine e_v (as := [.int (nI c)]) (rest := []) f76_2 hS.o0 rfl rfl rfl (s_hasCoin hR hS hst) ?_
      refine k_bne f76_5 (fun _ => ?_) (fun h_ => absurd (hP) h_)
      refine k_aload f76_10 rfl ?_
      refine k_getr (q := 17) f76_11 hS.o0 rfl hR.r0_5 ?_
      refine k_getr (q := 18) f76_14 hS.o17 rfl hR.r17_5 ?_
      refine k_iload f76_17 rfl ?_
      refine k_aar (k := c) (q := 17 + 2 + c) f76_18 hS.a18 rfl rfl (by omega) (by decide) (hst.1.2.2.2 c hc8).1 ?_
      refine k_astore (L' := [.ref 0, .int (nI c), .int (3), .ref (17 + 2 + c)]) f76_19 rfl rfl ?_
      refine k_iload f76_20 rfl ?_
      refine k_tsin (t := 79) f76_21 (by decide) (by decide) rfl rfl ?_
      refine k_aload f76_79 rfl ?_
      refine k_gI (w := I 62 (8 + 6 * c + 3)) f76_80 (hst.1.2.2.2 c hc8).2 rfl cn.2.2.2.1 ?_
      refine k_iret f76_83 rfl ⟨_, rfl, ?_⟩
      show zOk x 399 162 0 [.ref 51, .int (nI c), .int (3)] [] _ _
      refine k_aload f162_0 rfl ?_
      refine k_iload f162_1 rfl ?_
      refine e_v (as := [.int (nI c)]) (rest := []) f162_2 hS.o51 rfl rfl rfl (s_isCoin (w := I 62 1) hR hS rfl) ?_
      refine k_beq f162_5 (fun h_ => absurd (hP) h_) (fun _ => ?_)
      refine k_iload f162_8 rfl ?_
      refine k_i2l f162_9 ?_
      refine k_lconst (v := 0) f162_10 rfl ?_
      refine k_lconst (v := 6) f162_11 rfl ?_
      refine e_s (as := [.long (6), .long (0), .long ((3 : Int32).toInt64)]) (rest := []) f162_14 rfl rfl rfl (s_in (0) (6) rfl rfl) ?_
      refine k_bne f162_17 (fun _ => ?_) (fun h_ => absurd (by decide) h_)
      refine k_iload f162_22 rfl ?_
      refine k_iconst (v := 5) f162_23 rfl ?_
      refine k_ic_ge f162_24 (fun h_ => absurd h_ (by decide)) (fun _ => ?_)
      refine k_aload f162_27 rfl ?_
      refine k_iload f162_28 rfl ?_
      refine k_iload f162_29 rfl ?_
      refine e_v (as := [.int (3), .int (nI c)]) (rest := []) f162_30 hS.o51 rfl rfl rfl (s_coinOf (c := c) (k := 3) (v := I 62 (8 + 6 * c + 3)) hR hS (by omega) rfl) ?_
      refine k_goto f162_33 ?_
      refine k_iret f162_63 rfl ⟨rfl, ?_⟩
      exact inv_q hI (by omega) Kq.rfl KS.rfl
    · show zOk x 399 76 0 [.ref 0, .int (nI c), .int (4), zU] [] _ _
      refine k_aload f76_0 rfl ?_
      refine k_iload f76_1 rfl ?_
      refine e_v (as := [.int (nI c)]) (rest := []) f76_2 hS.o0 rfl rfl rfl (s_hasCoin hR hS hst) ?_
      refine k_bne f76_5 (fun _ => ?_) (fun h_ => absurd (hP) h_)
      refine k_aload f76_10 rfl ?_
      refine k_getr (q := 17) f76_11 hS.o0 rfl hR.r0_5 ?_
      refine k_getr (q := 18) f76_14 hS.o17 rfl hR.r17_5 ?_
      refine k_iload f76_17 rfl ?_
      refine k_aar (k := c) (q := 17 + 2 + c) f76_18 hS.a18 rfl rfl (by omega) (by decide) (hst.1.2.2.2 c hc8).1 ?_
      refine k_astore (L' := [.ref 0, .int (nI c), .int (4), .ref (17 + 2 + c)]) f76_19 rfl rfl ?_
      refine k_iload f76_20 rfl ?_
      refine k_tsin (t := 84) f76_21 (by decide) (by decide) rfl rfl ?_
      refine k_aload f76_84 rfl ?_
      refine k_gI (w := I 62 (8 + 6 * c + 4)) f76_85 (hst.1.2.2.2 c hc8).2 rfl cn.2.2.2.2.1 ?_
      refine k_if_eq f76_88 (fun g0 => ?_) (fun g0 => ?_)
      · refine k_iconst (v := 0) f76_95 rfl ?_
        refine k_iret f76_96 rfl ⟨_, rfl, ?_⟩
        show zOk x 399 162 0 [.ref 51, .int (nI c), .int (4)] [] _ _
        refine k_aload f162_0 rfl ?_
        refine k_iload f162_1 rfl ?_
        refine e_v (as := [.int (nI c)]) (rest := []) f162_2 hS.o51 rfl rfl rfl (s_isCoin (w := I 62 1) hR hS rfl) ?_
        refine k_beq f162_5 (fun h_ => absurd (hP) h_) (fun _ => ?_)
        refine k_iload f162_8 rfl ?_
        refine k_i2l f162_9 ?_
        refine k_lconst (v := 0) f162_10 rfl ?_
        refine k_lconst (v := 6) f162_11 rfl ?_
        refine e_s (as := [.long (6), .long (0), .long ((4 : Int32).toInt64)]) (rest := []) f162_14 rfl rfl rfl (s_in (0) (6) rfl rfl) ?_
        refine k_bne f162_17 (fun _ => ?_) (fun h_ => absurd (by decide) h_)
        refine k_iload f162_22 rfl ?_
        refine k_iconst (v := 5) f162_23 rfl ?_
        refine k_ic_ge f162_24 (fun h_ => absurd h_ (by decide)) (fun _ => ?_)
        refine k_aload f162_27 rfl ?_
        refine k_iload f162_28 rfl ?_
        refine k_iload f162_29 rfl ?_
        refine e_v (as := [.int (4), .int (nI c)]) (rest := []) f162_30 hS.o51 rfl rfl rfl (s_coinOf (c := c) (k := 4) (v := I 62 (8 + 6 * c + 4)) hR hS (by omega) rfl) ?_
        refine k_goto f162_33 ?_
        refine k_iret f162_63 rfl ⟨congrArg (fun t => some (Value.int t)) g0, ?_⟩
        exact inv_q hI (by omega) Kq.rfl KS.rfl
      · refine k_iconst (v := 1) f76_91 rfl ?_
        refine k_goto f76_92 ?_
        refine k_iret f76_96 rfl ⟨_, rfl, ?_⟩
        show zOk x 399 162 0 [.ref 51, .int (nI c), .int (4)] [] _ _
        refine k_aload f162_0 rfl ?_
        refine k_iload f162_1 rfl ?_
        refine e_v (as := [.int (nI c)]) (rest := []) f162_2 hS.o51 rfl rfl rfl (s_isCoin (w := I 62 1) hR hS rfl) ?_
        refine k_beq f162_5 (fun h_ => absurd (hP) h_) (fun _ => ?_)
        refine k_iload f162_8 rfl ?_
        refine k_i2l f162_9 ?_
        refine k_lconst (v := 0) f162_10 rfl ?_
        refine k_lconst (v := 6) f162_11 rfl ?_
        refine e_s (as := [.long (6), .long (0), .long ((4 : Int32).toInt64)]) (rest := []) f162_14 rfl rfl rfl (s_in (0) (6) rfl rfl) ?_
        refine k_bne f162_17 (fun _ => ?_) (fun h_ => absurd (by decide) h_)
        refine k_iload f162_22 rfl ?_
        refine k_iconst (v := 5) f162_23 rfl ?_
        refine k_ic_ge f162_24 (fun h_ => absurd h_ (by decide)) (fun _ => ?_)
        refine k_aload f162_27 rfl ?_
        refine k_iload f162_28 rfl ?_
        refine k_iload f162_29 rfl ?_
        refine e_v (as := [.int (4), .int (nI c)]) (rest := []) f162_30 hS.o51 rfl rfl rfl (s_coinOf (c := c) (k := 4) (v := I 62 (8 + 6 * c + 4)) hR hS (by omega) rfl) ?_
        refine k_goto f162_33 ?_
        refine k_iret f162_63 rfl ⟨congrArg (fun t => some (Value.int t)) (rg2_1 co.2.2.2.2.1 g0), ?_⟩
        exact inv_q hI (by omega) Kq.rfl KS.rfl
    · show zOk x 399 76 0 [.ref 0, .int (nI c), .int (5), zU] [] _ _
      refine k_aload f76_0 rfl ?_
      refine k_iload f76_1 rfl ?_
      refine e_v (as := [.int (nI c)]) (rest := []) f76_2 hS.o0 rfl rfl rfl (s_hasCoin hR hS hst) ?_
      refine k_bne f76_5 (fun _ => ?_) (fun h_ => absurd (hP) h_)
      refine k_aload f76_10 rfl ?_
      refine k_getr (q := 17) f76_11 hS.o0 rfl hR.r0_5 ?_
      refine k_getr (q := 18) f76_14 hS.o17 rfl hR.r17_5 ?_
      refine k_iload f76_17 rfl ?_
      refine k_aar (k := c) (q := 17 + 2 + c) f76_18 hS.a18 rfl rfl (by omega) (by decide) (hst.1.2.2.2 c hc8).1 ?_
      refine k_astore (L' := [.ref 0, .int (nI c), .int (5), .ref (17 + 2 + c)]) f76_19 rfl rfl ?_
      refine k_iload f76_20 rfl ?_
      refine k_tsin (t := 97) f76_21 (by decide) (by decide) rfl rfl ?_
      refine k_aload f76_97 rfl ?_
      refine k_getr (q := 17) f76_98 hS.o0 rfl hR.r0_5 ?_
      refine k_aload f76_101 rfl ?_
      refine e_v (as := [.ref (17 + 2 + c)]) (rest := []) f76_102 hS.o17 rfl rfl rfl (s_isVoidC (st := 17) hst cn cz) ?_
      refine k_beq f76_105 (fun g0 => ?_) (fun g0 => ?_)
      · refine k_iconst (v := 0) f76_112 rfl ?_
        refine k_iret f76_113 rfl ⟨_, rfl, ?_⟩
        show zOk x 399 162 0 [.ref 51, .int (nI c), .int (5)] [] _ _
        refine k_aload f162_0 rfl ?_
        refine k_iload f162_1 rfl ?_
        refine e_v (as := [.int (nI c)]) (rest := []) f162_2 hS.o51 rfl rfl rfl (s_isCoin (w := I 62 1) hR hS rfl) ?_
        refine k_beq f162_5 (fun h_ => absurd (hP) h_) (fun _ => ?_)
        refine k_iload f162_8 rfl ?_
        refine k_i2l f162_9 ?_
        refine k_lconst (v := 0) f162_10 rfl ?_
        refine k_lconst (v := 6) f162_11 rfl ?_
        refine e_s (as := [.long (6), .long (0), .long ((5 : Int32).toInt64)]) (rest := []) f162_14 rfl rfl rfl (s_in (0) (6) rfl rfl) ?_
        refine k_bne f162_17 (fun _ => ?_) (fun h_ => absurd (by decide) h_)
        refine k_iload f162_22 rfl ?_
        refine k_iconst (v := 5) f162_23 rfl ?_
        refine k_ic_ge f162_24 (fun _ => ?_) (fun h_ => absurd (by decide) h_)
        refine k_iload f162_36 rfl ?_
        refine k_iconst (v := 5) f162_37 rfl ?_
        refine k_ic_ne f162_38 (fun h_ => absurd (by decide) h_) (fun _ => ?_)
        refine k_aload f162_41 rfl ?_
        refine k_iload f162_42 rfl ?_
        refine e_v (as := [.int (nI c)]) (rest := []) f162_43 hS.o51 rfl rfl rfl (s_isVoidM hR hS rfl hc8) ?_
        refine k_beq f162_46 (fun _ => ?_) (fun h_ => (absurd h_ (g0)))
        refine k_iconst (v := 0) f162_53 rfl ?_
        refine k_goto f162_54 ?_
        refine k_iret f162_63 rfl ⟨rfl, ?_⟩
        exact inv_q hI (by omega) Kq.rfl KS.rfl
      · refine k_iconst (v := 1) f76_108 rfl ?_
        refine k_goto f76_109 ?_
        refine k_iret f76_113 rfl ⟨_, rfl, ?_⟩
        show zOk x 399 162 0 [.ref 51, .int (nI c), .int (5)] [] _ _
        refine k_aload f162_0 rfl ?_
        refine k_iload f162_1 rfl ?_
        refine e_v (as := [.int (nI c)]) (rest := []) f162_2 hS.o51 rfl rfl rfl (s_isCoin (w := I 62 1) hR hS rfl) ?_
        refine k_beq f162_5 (fun h_ => absurd (hP) h_) (fun _ => ?_)
        refine k_iload f162_8 rfl ?_
        refine k_i2l f162_9 ?_
        refine k_lconst (v := 0) f162_10 rfl ?_
        refine k_lconst (v := 6) f162_11 rfl ?_
        refine e_s (as := [.long (6), .long (0), .long ((5 : Int32).toInt64)]) (rest := []) f162_14 rfl rfl rfl (s_in (0) (6) rfl rfl) ?_
        refine k_bne f162_17 (fun _ => ?_) (fun h_ => absurd (by decide) h_)
        refine k_iload f162_22 rfl ?_
        refine k_iconst (v := 5) f162_23 rfl ?_
        refine k_ic_ge f162_24 (fun _ => ?_) (fun h_ => absurd (by decide) h_)
        refine k_iload f162_36 rfl ?_
        refine k_iconst (v := 5) f162_37 rfl ?_
        refine k_ic_ne f162_38 (fun h_ => absurd (by decide) h_) (fun _ => ?_)
        refine k_aload f162_41 rfl ?_
        refine k_iload f162_42 rfl ?_
        refine e_v (as := [.int (nI c)]) (rest := []) f162_43 hS.o51 rfl rfl rfl (s_isVoidM hR hS rfl hc8) ?_
        refine k_beq f162_46 (fun h_ => absurd (g0) h_) (fun _ => ?_)
        refine k_iconst (v := 1) f162_49 rfl ?_
        refine k_goto f162_50 ?_
        refine k_iret f162_63 rfl ⟨rfl, ?_⟩
        exact inv_q hI (by omega) Kq.rfl KS.rfl
    · show zOk x 399 76 0 [.ref 0, .int (nI c), .int (6), zU] [] _ _
      refine k_aload f76_0 rfl ?_
      refine k_iload f76_1 rfl ?_
      refine e_v (as := [.int (nI c)]) (rest := []) f76_2 hS.o0 rfl rfl rfl (s_hasCoin hR hS hst) ?_
      refine k_bne f76_5 (fun _ => ?_) (fun h_ => absurd (hP) h_)
      refine k_aload f76_10 rfl ?_
      refine k_getr (q := 17) f76_11 hS.o0 rfl hR.r0_5 ?_
      refine k_getr (q := 18) f76_14 hS.o17 rfl hR.r17_5 ?_
      refine k_iload f76_17 rfl ?_
      refine k_aar (k := c) (q := 17 + 2 + c) f76_18 hS.a18 rfl rfl (by omega) (by decide) (hst.1.2.2.2 c hc8).1 ?_
      refine k_astore (L' := [.ref 0, .int (nI c), .int (6), .ref (17 + 2 + c)]) f76_19 rfl rfl ?_
      refine k_iload f76_20 rfl ?_
      refine k_tsin (t := 114) f76_21 (by decide) (by decide) rfl rfl ?_
      refine k_aload f76_114 rfl ?_
      refine k_gI (w := I 62 (8 + 6 * c + 5)) f76_115 (hst.1.2.2.2 c hc8).2 rfl cn.2.2.2.2.2.1 ?_
      refine k_iret f76_118 rfl ⟨_, rfl, ?_⟩
      show zOk x 399 162 0 [.ref 51, .int (nI c), .int (6)] [] _ _
      refine k_aload f162_0 rfl ?_
      refine k_iload f162_1 rfl ?_
      refine e_v (as := [.int (nI c)]) (rest := []) f162_2 hS.o51 rfl rfl rfl (s_isCoin (w := I 62 1) hR hS rfl) ?_
      refine k_beq f162_5 (fun h_ => absurd (hP) h_) (fun _ => ?_)
      refine k_iload f162_8 rfl ?_
      refine k_i2l f162_9 ?_
      refine k_lconst (v := 0) f162_10 rfl ?_
      refine k_lconst (v := 6) f162_11 rfl ?_
      refine e_s (as := [.long (6), .long (0), .long ((6 : Int32).toInt64)]) (rest := []) f162_14 rfl rfl rfl (s_in (0) (6) rfl rfl) ?_
      refine k_bne f162_17 (fun _ => ?_) (fun h_ => absurd (by decide) h_)
      refine k_iload f162_22 rfl ?_
      refine k_iconst (v := 5) f162_23 rfl ?_
      refine k_ic_ge f162_24 (fun _ => ?_) (fun h_ => absurd (by decide) h_)
      refine k_iload f162_36 rfl ?_
      refine k_iconst (v := 5) f162_37 rfl ?_
      refine k_ic_ne f162_38 (fun _ => ?_) (fun h_ => absurd (by decide) h_)
      refine k_aload f162_57 rfl ?_
      refine k_iload f162_58 rfl ?_
      refine k_iconst (v := 5) f162_59 rfl ?_
      refine e_v (as := [.int (5), .int (nI c)]) (rest := []) f162_60 hS.o51 rfl rfl rfl (s_coinOf (c := c) (k := 5) (v := I 62 (8 + 6 * c + 5)) hR hS (by omega) rfl) ?_
      refine k_iret f162_63 rfl ⟨rfl, ?_⟩
      exact inv_q hI (by omega) Kq.rfl KS.rfl
  · show zOk x 399 76 0 [.ref 0, .int (coin), .int (what), zU] [] _ _
    refine k_aload f76_0 rfl ?_
    refine k_iload f76_1 rfl ?_
    refine e_v (as := [.int (coin)]) (rest := []) f76_2 hS.o0 rfl rfl rfl (s_hasCoin hR hS hst) ?_
    refine k_bne f76_5 (fun h_ => absurd h_ (hP)) (fun _ => ?_)
    refine k_iconst (v := (-1)) f76_8 rfl ?_
    refine k_iret f76_9 rfl ⟨_, rfl, ?_⟩
    show zOk x 399 162 0 [.ref 51, .int (coin), .int (what)] [] _ _
    refine k_aload f162_0 rfl ?_
    refine k_iload f162_1 rfl ?_
    refine e_v (as := [.int (coin)]) (rest := []) f162_2 hS.o51 rfl rfl rfl (s_isCoin (w := I 62 1) hR hS rfl) ?_
    refine k_beq f162_5 (fun _ => ?_) (fun h_ => (absurd h_ (hP)))
    refine k_iconst (v := (-1)) f162_20 rfl ?_
    refine k_iret f162_21 rfl ⟨rfl, ?_⟩
    exact inv_q hI (by omega) Kq.rfl KS.rfl
theorem op_meeting {x : Nat × (Nat → Int32)} (coin what : Int32) : Op Inv x 77 163 [.int coin, .int what] := by
  refine Op.of2 fun j I J R G hj hI => ?_
  have hS : Sh G := hI.1
  have hR : Rs R := hI.2.1
  have hT1 : Rg (I 9 1) 401 := hI.2.2.2.2.1.1
  have hT2 : I 51 1 = I 9 1 := hI.2.2.2.2.1.2.1
  have hN1 : Rg (I 0 4) 7 := hI.2.2.2.2.2.1.1
  have hN2 : I 51 2 = I 0 4 := hI.2.2.2.2.2.1.2.1
  have hN3 : ∀ t, t < cl (I 0 4) → ∃ r, R 16 t = some r ∧ RuR I R G t r := hI.2.2.2.2.2.1.2.2
  obtain ⟨pl, hst⟩ : ∃ pl, StR I R G 17 pl (I 62) := hI.2.2.2.2.2.2.1
  have hO : SOk (I 62) (cl (I 0 4)) := hI.2.2.2.2.2.2.2.1
  by_cases hP : ¬ coin < 0 ∧ ¬ I 62 2 ≤ coin
  · obtain ⟨c, hc, rfl⟩ := ix_of hO.2.2.1 (by omega) hP
    have hc24 : c < 24 := Nat.lt_of_lt_of_le hc (Nat.le_of_lt_succ hO.2.2.1.2)
    have mt := hst.2.2.2.1.2.2.2.2 c hc
    rcases sw3 what with ho | rfl | rfl | rfl
    · show zOk x 399 77 0 [.ref 0, .int (nI c), .int (what)] [] _ _
      refine k_aload f77_0 rfl ?_
      refine k_iload f77_1 rfl ?_
      refine e_v (as := [.int (nI c)]) (rest := []) f77_2 hS.o0 rfl rfl rfl (s_hasMeeting hR hS hst) ?_
      refine k_bne f77_5 (fun _ => ?_) (fun h_ => absurd (hP) h_)
      refine k_iload f77_10 rfl ?_
      refine k_tsout f77_11 (sw_o (b := 2) (by decide) ho) ?_
      refine k_iconst (v := (-1)) f77_75 rfl ?_
      refine k_iret f77_76 rfl ⟨_, rfl, ?_⟩
      show zOk x 399 163 0 [.ref 51, .int (nI c), .int (what)] [] _ _
      refine k_iload f163_0 rfl ?_
      refine k_i2l f163_1 ?_
      refine k_lconst (v := 0) f163_2 rfl ?_
      refine k_aload f163_3 rfl ?_
      refine k_getr (q := 62) f163_4 hS.o51 rfl hR.r51_25 ?_
      refine k_iconst (v := 2) f163_7 rfl ?_
      refine k_ia (k := 2) (w := I 62 2) f163_8 hS.a62 rfl (by decide) (by decide) rfl ?_
      refine k_iconst (v := 1) f163_9 rfl ?_
      refine k_isub f163_10 ?_
      refine k_i2l f163_11 ?_
      refine e_s (as := [.long (((I 62 2) - (1)).toInt64), .long (0), .long ((nI c).toInt64)]) (rest := []) f163_12 rfl rfl rfl (s_in (0) ((I 62 2) - (1)) rfl rfl) ?_
      refine k_beq f163_15 (fun h_ => absurd ((in_pred hO.2.2.1 (by omega)).mpr hP) h_) (fun _ => ?_)
      refine k_iload f163_18 rfl ?_
      refine k_i2l f163_19 ?_
      refine k_lconst (v := 0) f163_20 rfl ?_
      refine k_lconst (v := 2) f163_21 rfl ?_
      refine e_s (as := [.long (2), .long (0), .long ((what).toInt64)]) (rest := []) f163_24 rfl rfl rfl (s_in (0) (2) rfl rfl) ?_
      refine k_beq f163_27 (fun _ => ?_) (fun h_ => (absurd h_ (fun h => ho.elim h.1 h.2)))
      refine k_iconst (v := (-1)) f163_39 rfl ?_
      refine k_iret f163_40 rfl ⟨rfl, ?_⟩
      exact inv_q hI (by omega) Kq.rfl KS.rfl
    · show zOk x 399 77 0 [.ref 0, .int (nI c), .int (0)] [] _ _
      refine k_aload f77_0 rfl ?_
      refine k_iload f77_1 rfl ?_
      refine e_v (as := [.int (nI c)]) (rest := []) f77_2 hS.o0 rfl rfl rfl (s_hasMeeting hR hS hst) ?_
      refine k_bne f77_5 (fun _ => ?_) (fun h_ => absurd (hP) h_)
      refine k_iload f77_10 rfl ?_
      refine k_tsin (t := 36) f77_11 (by decide) (by decide) rfl rfl ?_
      refine k_aload f77_36 rfl ?_
      refine k_getr (q := 17) f77_37 hS.o0 rfl hR.r0_5 ?_
      refine k_getr (q := pl) f77_40 hS.o17 rfl hst.2.1 ?_
      refine k_getr (q := pl + 4) f77_43 hst.2.2.1.2.1 rfl (hst.2.2.1.2.2.1 3 (by omega)) ?_
      refine k_iload f77_46 rfl ?_
      refine k_ia (k := c) (w := I 62 (56 + 3 * c)) f77_47 (hst.2.2.1.2.2.2.2 0 (by omega)) rfl (by omega) (by decide) mt.1 ?_
      refine k_iret f77_48 rfl ⟨_, rfl, ?_⟩
      show zOk x 399 163 0 [.ref 51, .int (nI c), .int (0)] [] _ _
      refine k_iload f163_0 rfl ?_
      refine k_i2l f163_1 ?_
      refine k_lconst (v := 0) f163_2 rfl ?_
      refine k_aload f163_3 rfl ?_
      refine k_getr (q := 62) f163_4 hS.o51 rfl hR.r51_25 ?_
      refine k_iconst (v := 2) f163_7 rfl ?_
      refine k_ia (k := 2) (w := I 62 2) f163_8 hS.a62 rfl (by decide) (by decide) rfl ?_
      refine k_iconst (v := 1) f163_9 rfl ?_
      refine k_isub f163_10 ?_
      refine k_i2l f163_11 ?_
      refine e_s (as := [.long (((I 62 2) - (1)).toInt64), .long (0), .long ((nI c).toInt64)]) (rest := []) f163_12 rfl rfl rfl (s_in (0) ((I 62 2) - (1)) rfl rfl) ?_
      refine k_beq f163_15 (fun h_ => absurd ((in_pred hO.2.2.1 (by omega)).mpr hP) h_) (fun _ => ?_)
      refine k_iload f163_18 rfl ?_
      refine k_i2l f163_19 ?_
      refine k_lconst (v := 0) f163_20 rfl ?_
      refine k_lconst (v := 2) f163_21 rfl ?_
      refine e_s (as := [.long (2), .long (0), .long ((0 : Int32).toInt64)]) (rest := []) f163_24 rfl rfl rfl (s_in (0) (2) rfl rfl) ?_
      refine k_beq f163_27 (fun h_ => absurd (by decide) h_) (fun _ => ?_)
      refine k_aload f163_30 rfl ?_
      refine k_iload f163_31 rfl ?_
      refine k_iload f163_32 rfl ?_
      refine e_v (as := [.int (0), .int (nI c)]) (rest := []) f163_33 hS.o51 rfl rfl rfl (s_meetOf (c := c) (k := 0) (v := I 62 (56 + 3 * c)) hR hS (by omega) rfl) ?_
      refine k_goto f163_36 ?_
      refine k_iret f163_40 rfl ⟨rfl, ?_⟩
      exact inv_q hI (by omega) Kq.rfl KS.rfl
    · show zOk x 399 77 0 [.ref 0, .int (nI c), .int (1)] [] _ _
      refine k_aload f77_0 rfl ?_
      refine k_iload f77_1 rfl ?_
      refine e_v (as := [.int (nI c)]) (rest := []) f77_2 hS.o0 rfl rfl rfl (s_hasMeeting hR hS hst) ?_
      refine k_bne f77_5 (fun _ => ?_) (fun h_ => absurd (hP) h_)
      refine k_iload f77_10 rfl ?_
      refine k_tsin (t := 49) f77_11 (by decide) (by decide) rfl rfl ?_
      refine k_aload f77_49 rfl ?_
      refine k_getr (q := 17) f77_50 hS.o0 rfl hR.r0_5 ?_
      refine k_getr (q := pl) f77_53 hS.o17 rfl hst.2.1 ?_
      refine k_getr (q := pl + 5) f77_56 hst.2.2.1.2.1 rfl (hst.2.2.1.2.2.1 4 (by omega)) ?_
      refine k_iload f77_59 rfl ?_
      refine k_ia (k := c) (w := I 62 (56 + 3 * c + 1)) f77_60 (hst.2.2.1.2.2.2.2 1 (by omega)) rfl (by omega) (by decide) mt.2.1 ?_
      refine k_iret f77_61 rfl ⟨_, rfl, ?_⟩
      show zOk x 399 163 0 [.ref 51, .int (nI c), .int (1)] [] _ _
      refine k_iload f163_0 rfl ?_
      refine k_i2l f163_1 ?_
      refine k_lconst (v := 0) f163_2 rfl ?_
      refine k_aload f163_3 rfl ?_
      refine k_getr (q := 62) f163_4 hS.o51 rfl hR.r51_25 ?_
      refine k_iconst (v := 2) f163_7 rfl ?_
      refine k_ia (k := 2) (w := I 62 2) f163_8 hS.a62 rfl (by decide) (by decide) rfl ?_
      refine k_iconst (v := 1) f163_9 rfl ?_
      refine k_isub f163_10 ?_
      refine k_i2l f163_11 ?_
      refine e_s (as := [.long (((I 62 2) - (1)).toInt64), .long (0), .long ((nI c).toInt64)]) (rest := []) f163_12 rfl rfl rfl (s_in (0) ((I 62 2) - (1)) rfl rfl) ?_
      refine k_beq f163_15 (fun h_ => absurd ((in_pred hO.2.2.1 (by omega)).mpr hP) h_) (fun _ => ?_)
      refine k_iload f163_18 rfl ?_
      refine k_i2l f163_19 ?_
      refine k_lconst (v := 0) f163_20 rfl ?_
      refine k_lconst (v := 2) f163_21 rfl ?_
      refine e_s (as := [.long (2), .long (0), .long ((1 : Int32).toInt64)]) (rest := []) f163_24 rfl rfl rfl (s_in (0) (2) rfl rfl) ?_
      refine k_beq f163_27 (fun h_ => absurd (by decide) h_) (fun _ => ?_)
      refine k_aload f163_30 rfl ?_
      refine k_iload f163_31 rfl ?_
      refine k_iload f163_32 rfl ?_
      refine e_v (as := [.int (1), .int (nI c)]) (rest := []) f163_33 hS.o51 rfl rfl rfl (s_meetOf (c := c) (k := 1) (v := I 62 (56 + 3 * c + 1)) hR hS (by omega) rfl) ?_
      refine k_goto f163_36 ?_
      refine k_iret f163_40 rfl ⟨rfl, ?_⟩
      exact inv_q hI (by omega) Kq.rfl KS.rfl
    · show zOk x 399 77 0 [.ref 0, .int (nI c), .int (2)] [] _ _
      refine k_aload f77_0 rfl ?_
      refine k_iload f77_1 rfl ?_
      refine e_v (as := [.int (nI c)]) (rest := []) f77_2 hS.o0 rfl rfl rfl (s_hasMeeting hR hS hst) ?_
      refine k_bne f77_5 (fun _ => ?_) (fun h_ => absurd (hP) h_)
      refine k_iload f77_10 rfl ?_
      refine k_tsin (t := 62) f77_11 (by decide) (by decide) rfl rfl ?_
      refine k_aload f77_62 rfl ?_
      refine k_getr (q := 17) f77_63 hS.o0 rfl hR.r0_5 ?_
      refine k_getr (q := pl) f77_66 hS.o17 rfl hst.2.1 ?_
      refine k_getr (q := pl + 6) f77_69 hst.2.2.1.2.1 rfl (hst.2.2.1.2.2.1 5 (by omega)) ?_
      refine k_iload f77_72 rfl ?_
      refine k_ia (k := c) (w := I 62 (56 + 3 * c + 2)) f77_73 (hst.2.2.1.2.2.2.2 2 (by omega)) rfl (by omega) (by decide) mt.2.2.1 ?_
      refine k_iret f77_74 rfl ⟨_, rfl, ?_⟩
      show zOk x 399 163 0 [.ref 51, .int (nI c), .int (2)] [] _ _
      refine k_iload f163_0 rfl ?_
      refine k_i2l f163_1 ?_
      refine k_lconst (v := 0) f163_2 rfl ?_
      refine k_aload f163_3 rfl ?_
      refine k_getr (q := 62) f163_4 hS.o51 rfl hR.r51_25 ?_
      refine k_iconst (v := 2) f163_7 rfl ?_
      refine k_ia (k := 2) (w := I 62 2) f163_8 hS.a62 rfl (by decide) (by decide) rfl ?_
      refine k_iconst (v := 1) f163_9 rfl ?_
      refine k_isub f163_10 ?_
      refine k_i2l f163_11 ?_
      refine e_s (as := [.long (((I 62 2) - (1)).toInt64), .long (0), .long ((nI c).toInt64)]) (rest := []) f163_12 rfl rfl rfl (s_in (0) ((I 62 2) - (1)) rfl rfl) ?_
      refine k_beq f163_15 (fun h_ => absurd ((in_pred hO.2.2.1 (by omega)).mpr hP) h_) (fun _ => ?_)
      refine k_iload f163_18 rfl ?_
      refine k_i2l f163_19 ?_
      refine k_lconst (v := 0) f163_20 rfl ?_
      refine k_lconst (v := 2) f163_21 rfl ?_
      refine e_s (as := [.long (2), .long (0), .long ((2 : Int32).toInt64)]) (rest := []) f163_24 rfl rfl rfl (s_in (0) (2) rfl rfl) ?_
      refine k_beq f163_27 (fun h_ => absurd (by decide) h_) (fun _ => ?_)
      refine k_aload f163_30 rfl ?_
      refine k_iload f163_31 rfl ?_
      refine k_iload f163_32 rfl ?_
      refine e_v (as := [.int (2), .int (nI c)]) (rest := []) f163_33 hS.o51 rfl rfl rfl (s_meetOf (c := c) (k := 2) (v := I 62 (56 + 3 * c + 2)) hR hS (by omega) rfl) ?_
      refine k_goto f163_36 ?_
      refine k_iret f163_40 rfl ⟨rfl, ?_⟩
      exact inv_q hI (by omega) Kq.rfl KS.rfl
  · show zOk x 399 77 0 [.ref 0, .int (coin), .int (what)] [] _ _
    refine k_aload f77_0 rfl ?_
    refine k_iload f77_1 rfl ?_
    refine e_v (as := [.int (coin)]) (rest := []) f77_2 hS.o0 rfl rfl rfl (s_hasMeeting hR hS hst) ?_
    refine k_bne f77_5 (fun h_ => absurd h_ (hP)) (fun _ => ?_)
    refine k_iconst (v := (-1)) f77_8 rfl ?_
    refine k_iret f77_9 rfl ⟨_, rfl, ?_⟩
    show zOk x 399 163 0 [.ref 51, .int (coin), .int (what)] [] _ _
    refine k_iload f163_0 rfl ?_
    refine k_i2l f163_1 ?_
    refine k_lconst (v := 0) f163_2 rfl ?_
    refine k_aload f163_3 rfl ?_
    refine k_getr (q := 62) f163_4 hS.o51 rfl hR.r51_25 ?_
    refine k_iconst (v := 2) f163_7 rfl ?_
    refine k_ia (k := 2) (w := I 62 2) f163_8 hS.a62 rfl (by decide) (by decide) rfl ?_
    refine k_iconst (v := 1) f163_9 rfl ?_
    refine k_isub f163_10 ?_
    refine k_i2l f163_11 ?_
    refine e_s (as := [.long (((I 62 2) - (1)).toInt64), .long (0), .long ((coin).toInt64)]) (rest := []) f163_12 rfl rfl rfl (s_in (0) ((I 62 2) - (1)) rfl rfl) ?_
    refine k_beq f163_15 (fun _ => ?_) (fun h_ => (absurd h_ (fun h => hP ((in_pred hO.2.2.1 (by omega)).mp h))))
    refine k_iconst (v := (-1)) f163_39 rfl ?_
    refine k_iret f163_40 rfl ⟨rfl, ?_⟩
    exact inv_q hI (by omega) Kq.rfl KS.rfl
