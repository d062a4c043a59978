/-! PAIRS: seed, force, rest, came. -/
theorem rg_nn {n : Int32} (h : 0 ≤ n) : Rg n (2 ^ 31) := by
  obtain ⟨a, ha, e⟩ := nI_of (x := n) (Int32.not_lt.mpr h)
  rw [e]
  exact Rg.of ha (Nat.le_refl _)
theorem so_z {v : Int32} {b : Nat} (h : Rg v b) (hb : b ≤ 2 ^ 31) (g : ¬ ¬ v ≤ 0) : v = 0 := by
  have h2 := h.2
  have e := h.1
  have g := Classical.not_not.mp g
  rw [e, show (0 : Int32) = nI 0 from rfl, nI_leI (by omega) (by omega)] at g
  rw [e, show cl v = 0 by omega]
  rfl
theorem rg_day {a n : Int32} (h : Rg a 20000) (h1 : ¬ n < 1) (h2 : ¬ 999 < n) (h3 : a + n ≤ 19999) : Rg (a + n) 20000 ∧ cl a ≤ cl (a + n) := by
  obtain ⟨k, hk, e, e2⟩ := h.ex
  obtain ⟨b, hb, f⟩ := nI_of2 (x := n) (M := 999) (n := 999) (by decide) (fun q => h1 (Int32.lt_trans q (by decide))) (Int32.not_lt.mp h2)
  subst f
  rw [e] at h3 ⊢
  rw [nI_add] at h3 ⊢
  rw [show (19999 : Int32) = nI 19999 from rfl, nI_leI (by omega) (by omega)] at h3
  rw [cl_nI (by omega), cl_nI (by omega)]
  exact ⟨Rg.of (by omega) (by omega), by omega⟩
theorem s_ruleAt1 {x : Nat × (Nat → Int32)} {d : Nat} {I : Nat → Nat → Int32} {J : Nat → Nat → Int64} {R : Nat → Nat → Option Nat} {G : zG} {t r : Nat} (hR : Rs R) (hS : Sh G) (ht : t < 6) (hlt : ¬ I 0 4 ≤ nI t) (hr : R 16 t = some r) : zRn x d 103 [.ref 0, .int (nI t)] (I, J, R, G) (some (.ref r)) (I, J, R, G) := by
  show zOk x d 103 0 [.ref 0, .int (nI t)] [] _ _
  refine k_iload f103_0 rfl ?_
  refine k_if_lt f103_1 (fun h_ => absurd h_ (nI_pos (by omega))) (fun _ => ?_)
  refine k_iload f103_4 rfl ?_
  refine k_aload f103_5 rfl ?_
  refine k_gI (w := I 0 4) f103_6 hS.o0 rfl rfl ?_
  refine k_ic_ge f103_9 (fun h_ => absurd h_ (hlt)) (fun _ => ?_)
  refine k_aload f103_12 rfl ?_
  refine k_getr (q := 16) f103_13 hS.o0 rfl hR.r0_3 ?_
  refine k_iload f103_16 rfl ?_
  refine k_aar (k := t) (q := r) f103_17 hS.a16 rfl rfl (by omega) (by decide) hr ?_
  refine k_goto f103_18 ?_
  exact k_aret f103_22 ⟨rfl, rfl⟩
theorem s_ruleAt0 {x : Nat × (Nat → Int32)} {d : Nat} {I : Nat → Nat → Int32} {J : Nat → Nat → Int64} {R : Nat → Nat → Option Nat} {G : zG} {v : Int32} (hS : Sh G) (hP : ¬ (¬ v < 0 ∧ ¬ I 0 4 ≤ v)) : zRn x d 103 [.ref 0, .int (v)] (I, J, R, G) (some (.null)) (I, J, R, G) := by
  show zOk x d 103 0 [.ref 0, .int (v)] [] _ _
  refine k_iload f103_0 rfl ?_
  refine k_if_lt f103_1 (fun g0 => ?_) (fun g0 => ?_)
  · refine k_null f103_21 ?_
    exact k_nret f103_22 ⟨rfl, rfl⟩
  · refine k_iload f103_4 rfl ?_
    refine k_aload f103_5 rfl ?_
    refine k_gI (w := I 0 4) f103_6 hS.o0 rfl rfl ?_
    refine k_ic_ge f103_9 (fun _ => ?_) (fun h_ => absurd (Classical.byContradiction fun q => hP ⟨g0, q⟩) h_)
    refine k_null f103_21 ?_
    exact k_nret f103_22 ⟨rfl, rfl⟩
theorem op_seed {x : Nat × (Nat → Int32)} (n : Int32) : Op Inv x 93 200 [.int n] := by
  refine Op.of2 fun j I J R G hj hI => ?_
  have hS : Sh G := hI.1
  have hR : Rs R := hI.2.1
  have hT1 : Rg (I 9 1) 401 := hI.2.2.2.2.1.1
  have hT2 : I 51 1 = I 9 1 := hI.2.2.2.2.1.2.1
  have hN1 : Rg (I 0 4) 7 := hI.2.2.2.2.2.1.1
  have hN2 : I 51 2 = I 0 4 := hI.2.2.2.2.2.1.2.1
  have hN3 : ∀ t, t < cl (I 0 4) → ∃ r, R 16 t = some r ∧ RuR I R G t r := hI.2.2.2.2.2.1.2.2
  obtain ⟨pl, hst⟩ : ∃ pl, StR I R G 17 pl (I 62) := hI.2.2.2.2.2.2.1
  have hO : SOk (I 62) (cl (I 0 4)) := hI.2.2.2.2.2.2.2.1
  show zOk x 399 93 0 [.ref 0, .int (n), zU] [] _ _
  refine k_iload f93_0 rfl ?_
  refine k_if_ge f93_1 (fun g0 => ?_) (fun g0 => ?_)
  · refine k_aload f93_6 rfl ?_
    refine k_getr (q := 17) f93_7 hS.o0 rfl hR.r0_5 ?_
    refine k_gI (w := I 62 5) f93_10 hS.o17 rfl hst.2.2.2.2.2.2.2.1 ?_
    refine k_istore (L' := [.ref 0, .int (n), .int (I 62 5)]) f93_13 rfl rfl ?_
    refine k_aload f93_14 rfl ?_
    refine k_getr (q := 17) f93_15 hS.o0 rfl hR.r0_5 ?_
    refine k_iload f93_18 rfl ?_
    refine k_putI f93_19 hS.o17 rfl ?_
    refine k_iload f93_22 rfl ?_
    refine k_iret f93_23 rfl ⟨_, rfl, ?_⟩
    show zOk x 399 200 0 [.ref 51, .int (n), zU] [] _ _
    refine k_iload f200_0 rfl ?_
    refine k_if_ge f200_1 (fun _ => ?_) (fun h_ => absurd (g0) h_)
    refine k_aload f200_6 rfl ?_
    refine k_getr (q := 62) f200_7 hS.o51 rfl hR.r51_25 ?_
    refine k_iconst (v := 5) f200_10 rfl ?_
    refine k_ia (k := 5) (w := I 62 5) f200_11 hS.a62 rfl (by decide) (by decide) (z_u_k _ _ _ (by decide)) ?_
    refine k_istore (L' := [.ref 51, .int (n), .int (I 62 5)]) f200_12 rfl rfl ?_
    refine k_aload f200_13 rfl ?_
    refine k_getr (q := 62) f200_14 hS.o51 rfl hR.r51_25 ?_
    refine k_iconst (v := 5) f200_17 rfl ?_
    refine k_iload f200_18 rfl ?_
    refine k_is (k := 5) f200_19 hS.a62 rfl (by decide) (by decide) ?_
    refine k_iload f200_20 rfl ?_
    refine k_iret f200_21 rfl ⟨rfl, ?_⟩
    exact inv_1 (P := 17) (K := 4) (i := 5) hI (by unfold plc; omega) rfl (so_5 hO (rg_nn g0))
  · refine k_iconst (v := (-1)) f93_4 rfl ?_
    refine k_iret f93_5 rfl ⟨_, rfl, ?_⟩
    show zOk x 399 200 0 [.ref 51, .int (n), zU] [] _ _
    refine k_iload f200_0 rfl ?_
    refine k_if_ge f200_1 (fun h_ => absurd h_ (g0)) (fun _ => ?_)
    refine k_iconst (v := (-1)) f200_4 rfl ?_
    refine k_iret f200_5 rfl ⟨rfl, ?_⟩
    exact inv_q hI (by omega) Kq.rfl KS.rfl
theorem op_force {x : Nat × (Nat → Int32)} (n : Int32) : Op Inv x 75 161 [.int n] := by
  refine Op.of2 fun j I J R G hj hI => ?_
  have hS : Sh G := hI.1
  have hR : Rs R := hI.2.1
  have hT1 : Rg (I 9 1) 401 := hI.2.2.2.2.1.1
  have hT2 : I 51 1 = I 9 1 := hI.2.2.2.2.1.2.1
  have hN1 : Rg (I 0 4) 7 := hI.2.2.2.2.2.1.1
  have hN2 : I 51 2 = I 0 4 := hI.2.2.2.2.2.1.2.1
  have hN3 : ∀ t, t < cl (I 0 4) → ∃ r, R 16 t = some r ∧ RuR I R G t r := hI.2.2.2.2.2.1.2.2
  obtain ⟨pl, hst⟩ : ∃ pl, StR I R G 17 pl (I 62) := hI.2.2.2.2.2.2.1
  have hO : SOk (I 62) (cl (I 0 4)) := hI.2.2.2.2.2.2.2.1
  by_cases hN : n = -1
  · show zOk x 399 75 0 [.ref 0, .int (n), zU] [] _ _
    refine k_iload f75_0 rfl ?_
    refine k_iconst (v := (-1)) f75_1 rfl ?_
    refine k_ic_eq f75_2 (fun _ => ?_) (fun h_ => absurd (hN) h_)
    refine k_aload f75_16 rfl ?_
    refine k_getr (q := 17) f75_17 hS.o0 rfl hR.r0_5 ?_
    refine k_gI (w := I 62 6) f75_20 hS.o17 rfl hst.2.2.2.2.2.2.1 ?_
    refine k_istore (L' := [.ref 0, .int (n), .int (I 62 6)]) f75_23 rfl rfl ?_
    refine k_aload f75_24 rfl ?_
    refine k_getr (q := 17) f75_25 hS.o0 rfl hR.r0_5 ?_
    refine k_iload f75_28 rfl ?_
    refine k_putI f75_29 hS.o17 rfl ?_
    refine k_iload f75_32 rfl ?_
    refine k_iret f75_33 rfl ⟨_, rfl, ?_⟩
    show zOk x 399 161 0 [.ref 51, .int (n), zU] [] _ _
    refine k_iload f161_0 rfl ?_
    refine k_iconst (v := (-1)) f161_1 rfl ?_
    refine k_ic_eq f161_2 (fun _ => ?_) (fun h_ => absurd (hN) h_)
    refine k_aload f161_16 rfl ?_
    refine k_getr (q := 62) f161_17 hS.o51 rfl hR.r51_25 ?_
    refine k_iconst (v := 6) f161_20 rfl ?_
    refine k_ia (k := 6) (w := I 62 6) f161_22 hS.a62 rfl (by decide) (by decide) (z_u_k _ _ _ (by decide)) ?_
    refine k_istore (L' := [.ref 51, .int (n), .int (I 62 6)]) f161_23 rfl rfl ?_
    refine k_aload f161_24 rfl ?_
    refine k_getr (q := 62) f161_25 hS.o51 rfl hR.r51_25 ?_
    refine k_iconst (v := 6) f161_28 rfl ?_
    refine k_iload f161_30 rfl ?_
    refine k_is (k := 6) f161_31 hS.a62 rfl (by decide) (by decide) ?_
    refine k_iload f161_32 rfl ?_
    refine k_iret f161_33 rfl ⟨rfl, ?_⟩
    exact inv_1 (P := 17) (K := 3) (i := 6) hI (by unfold plc; omega) rfl (so_6 hO (Or.inl hN))
  · by_cases hP : ¬ n < 0 ∧ ¬ I 0 4 ≤ n
    · obtain ⟨t, ht, rfl⟩ := ix_of hN1 (by omega) hP
      have ht6 : t < 6 := Nat.lt_of_lt_of_le ht (Nat.le_of_lt_succ hN1.2)
      obtain ⟨r, hr, -⟩ := hN3 t ht
      show zOk x 399 75 0 [.ref 0, .int (nI t), zU] [] _ _
      refine k_iload f75_0 rfl ?_
      refine k_iconst (v := (-1)) f75_1 rfl ?_
      refine k_ic_eq f75_2 (fun h_ => absurd h_ (hN)) (fun _ => ?_)
      refine k_aload f75_5 rfl ?_
      refine k_iload f75_6 rfl ?_
      refine e_v (as := [.int (nI t)]) (rest := []) f75_7 hS.o0 rfl rfl rfl (s_ruleAt1 hR hS ht6 hP.2 hr) ?_
      refine k_nonr f75_10 ?_
      refine k_aload f75_16 rfl ?_
      refine k_getr (q := 17) f75_17 hS.o0 rfl hR.r0_5 ?_
      refine k_gI (w := I 62 6) f75_20 hS.o17 rfl hst.2.2.2.2.2.2.1 ?_
      refine k_istore (L' := [.ref 0, .int (nI t), .int (I 62 6)]) f75_23 rfl rfl ?_
      refine k_aload f75_24 rfl ?_
      refine k_getr (q := 17) f75_25 hS.o0 rfl hR.r0_5 ?_
      refine k_iload f75_28 rfl ?_
      refine k_putI f75_29 hS.o17 rfl ?_
      refine k_iload f75_32 rfl ?_
      refine k_iret f75_33 rfl ⟨_, rfl, ?_⟩
      show zOk x 399 161 0 [.ref 51, .int (nI t), zU] [] _ _
      refine k_iload f161_0 rfl ?_
      refine k_iconst (v := (-1)) f161_1 rfl ?_
      refine k_ic_eq f161_2 (fun h_ => absurd h_ (hN)) (fun _ => ?_)
      refine k_aload f161_5 rfl ?_
      refine k_iload f161_6 rfl ?_
      refine e_v (as := [.int (nI t)]) (rest := []) f161_7 hS.o51 rfl rfl rfl (s_isRule (w := I 0 4) hS (Eq.trans (z_u_k _ _ _ (by decide)) hN2)) ?_
      refine k_bne f161_10 (fun _ => ?_) (fun h_ => absurd (hP) h_)
      refine k_aload f161_16 rfl ?_
      refine k_getr (q := 62) f161_17 hS.o51 rfl hR.r51_25 ?_
      refine k_iconst (v := 6) f161_20 rfl ?_
      refine k_ia (k := 6) (w := I 62 6) f161_22 hS.a62 rfl (by decide) (by decide) (z_u_k _ _ _ (by decide)) ?_
      refine k_istore (L' := [.ref 51, .int (nI t), .int (I 62 6)]) f161_23 rfl rfl ?_
      refine k_aload f161_24 rfl ?_
      refine k_getr (q := 62) f161_25 hS.o51 rfl hR.r51_25 ?_
      refine k_iconst (v := 6) f161_28 rfl ?_
      refine k_iload f161_30 rfl ?_
      refine k_is (k := 6) f161_31 hS.a62 rfl (by decide) (by decide) ?_
      refine k_iload f161_32 rfl ?_
      refine k_iret f161_33 rfl ⟨rfl, ?_⟩
      exact inv_1 (P := 17) (K := 3) (i := 6) hI (by unfold plc; omega) rfl (so_6 hO (Or.inr (Rg.of ht (Nat.le_trans (Nat.le_of_lt hN1.2) (by decide)))))
    · show zOk x 399 75 0 [.ref 0, .int (n), zU] [] _ _
      refine k_iload f75_0 rfl ?_
      refine k_iconst (v := (-1)) f75_1 rfl ?_
      refine k_ic_eq f75_2 (fun h_ => absurd h_ (hN)) (fun _ => ?_)
      refine k_aload f75_5 rfl ?_
      refine k_iload f75_6 rfl ?_
      refine e_v (as := [.int (n)]) (rest := []) f75_7 hS.o0 rfl rfl rfl (s_ruleAt0 hS hP) ?_
      refine k_nonn f75_10 ?_
      refine k_iconst (v := (-2)) f75_13 rfl ?_
      refine k_iret f75_15 rfl ⟨_, rfl, ?_⟩
      show zOk x 399 161 0 [.ref 51, .int (n), zU] [] _ _
      refine k_iload f161_0 rfl ?_
      refine k_iconst (v := (-1)) f161_1 rfl ?_
      refine k_ic_eq f161_2 (fun h_ => absurd h_ (hN)) (fun _ => ?_)
      refine k_aload f161_5 rfl ?_
      refine k_iload f161_6 rfl ?_
      refine e_v (as := [.int (n)]) (rest := []) f161_7 hS.o51 rfl rfl rfl (s_isRule (w := I 0 4) hS hN2) ?_
      refine k_bne f161_10 (fun h_ => absurd h_ (hP)) (fun _ => ?_)
      refine k_iconst (v := (-2)) f161_13 rfl ?_
      refine k_iret f161_15 rfl ⟨rfl, ?_⟩
      exact inv_q hI (by omega) Kq.rfl KS.rfl
theorem op_rest {x : Nat × (Nat → Int32)} (n : Int32) : Op Inv x 81 176 [.int n] := by
  refine Op.of2 fun j I J R G hj hI => ?_
  have hS : Sh G := hI.1
  have hR : Rs R := hI.2.1
  have hT1 : Rg (I 9 1) 401 := hI.2.2.2.2.1.1
  have hT2 : I 51 1 = I 9 1 := hI.2.2.2.2.1.2.1
  have hN1 : Rg (I 0 4) 7 := hI.2.2.2.2.2.1.1
  have hN2 : I 51 2 = I 0 4 := hI.2.2.2.2.2.1.2.1
  have hN3 : ∀ t, t < cl (I 0 4) → ∃ r, R 16 t = some r ∧ RuR I R G t r := hI.2.2.2.2.2.1.2.2
  obtain ⟨pl, hst⟩ : ∃ pl, StR I R G 17 pl (I 62) := hI.2.2.2.2.2.2.1
  have hO : SOk (I 62) (cl (I 0 4)) := hI.2.2.2.2.2.2.2.1
  show zOk x 399 81 0 [.ref 0, .int (n)] [] _ _
  refine k_aload f81_0 rfl ?_
  refine e_v (as := []) (rest := []) f81_1 hS.o0 rfl rfl rfl (s_hasTown hR hS hst) ?_
  refine k_beq f81_4 (fun g0 => ?_) (fun g0 => ?_)
  · refine k_iconst (v := (-1)) f81_34 rfl ?_
    refine k_iret f81_35 rfl ⟨_, rfl, ?_⟩
    show zOk x 399 176 0 [.ref 51, .int (n)] [] _ _
    refine k_aload f176_0 rfl ?_
    refine k_getr (q := 62) f176_1 hS.o51 rfl hR.r51_25 ?_
    refine k_iconst (v := 0) f176_4 rfl ?_
    refine k_ia (k := 0) (w := I 62 0) f176_5 hS.a62 rfl (by decide) (by decide) rfl ?_
    refine k_if_eq f176_6 (fun _ => ?_) (fun h_ => absurd (so_z hO.1 (by omega) g0) h_)
    refine k_iconst (v := (-1)) f176_35 rfl ?_
    refine k_iret f176_36 rfl ⟨rfl, ?_⟩
    exact inv_q hI (by omega) Kq.rfl KS.rfl
  · refine k_iload f81_7 rfl ?_
    refine k_iconst (v := 1) f81_8 rfl ?_
    refine k_ic_lt f81_9 (fun g1 => ?_) (fun g1 => ?_)
    · refine k_iconst (v := (-1)) f81_34 rfl ?_
      refine k_iret f81_35 rfl ⟨_, rfl, ?_⟩
      show zOk x 399 176 0 [.ref 51, .int (n)] [] _ _
      refine k_aload f176_0 rfl ?_
      refine k_getr (q := 62) f176_1 hS.o51 rfl hR.r51_25 ?_
      refine k_iconst (v := 0) f176_4 rfl ?_
      refine k_ia (k := 0) (w := I 62 0) f176_5 hS.a62 rfl (by decide) (by decide) rfl ?_
      refine k_if_eq f176_6 (fun h_ => absurd h_ (fun q => g0 (by rw [q]; decide))) (fun _ => ?_)
      refine k_iload f176_9 rfl ?_
      refine k_i2l f176_10 ?_
      refine k_lconst (v := 1) f176_11 rfl ?_
      refine k_lconst (v := 999) f176_12 rfl ?_
      refine e_s (as := [.long (999), .long (1), .long ((n).toInt64)]) (rest := []) f176_15 rfl rfl rfl (s_in (1) (999) rfl rfl) ?_
      refine k_beq f176_18 (fun _ => ?_) (fun h_ => (absurd h_ (fun h => h.1 g1)))
      refine k_iconst (v := (-1)) f176_35 rfl ?_
      refine k_iret f176_36 rfl ⟨rfl, ?_⟩
      exact inv_q hI (by omega) Kq.rfl KS.rfl
    · refine k_iload f81_12 rfl ?_
      refine k_iconst (v := 999) f81_13 rfl ?_
      refine k_ic_gt f81_16 (fun g2 => ?_) (fun g2 => ?_)
      · refine k_iconst (v := (-1)) f81_34 rfl ?_
        refine k_iret f81_35 rfl ⟨_, rfl, ?_⟩
        show zOk x 399 176 0 [.ref 51, .int (n)] [] _ _
        refine k_aload f176_0 rfl ?_
        refine k_getr (q := 62) f176_1 hS.o51 rfl hR.r51_25 ?_
        refine k_iconst (v := 0) f176_4 rfl ?_
        refine k_ia (k := 0) (w := I 62 0) f176_5 hS.a62 rfl (by decide) (by decide) rfl ?_
        refine k_if_eq f176_6 (fun h_ => absurd h_ (fun q => g0 (by rw [q]; decide))) (fun _ => ?_)
        refine k_iload f176_9 rfl ?_
        refine k_i2l f176_10 ?_
        refine k_lconst (v := 1) f176_11 rfl ?_
        refine k_lconst (v := 999) f176_12 rfl ?_
        refine e_s (as := [.long (999), .long (1), .long ((n).toInt64)]) (rest := []) f176_15 rfl rfl rfl (s_in (1) (999) rfl rfl) ?_
        refine k_beq f176_18 (fun _ => ?_) (fun h_ => (absurd h_ (fun h => h.2 g2)))
        refine k_iconst (v := (-1)) f176_35 rfl ?_
        refine k_iret f176_36 rfl ⟨rfl, ?_⟩
        exact inv_q hI (by omega) Kq.rfl KS.rfl
      · refine k_aload f81_19 rfl ?_
        refine k_getr (q := 17) f81_20 hS.o0 rfl hR.r0_5 ?_
        refine k_gI (w := I 62 3) f81_23 hS.o17 rfl hst.2.2.2.2.1 ?_
        refine k_iload f81_26 rfl ?_
        refine k_iadd f81_27 ?_
        refine k_iconst (v := 19999) f81_28 rfl ?_
        refine k_ic_le f81_31 (fun g3 => ?_) (fun g3 => ?_)
        · refine k_aload f81_36 rfl ?_
          refine k_getr (q := 17) f81_37 hS.o0 rfl hR.r0_5 ?_
          refine k_dup f81_40 ?_
          refine k_gI (w := I 62 3) f81_41 hS.o17 rfl hst.2.2.2.2.1 ?_
          refine k_iload f81_44 rfl ?_
          refine k_iadd f81_45 ?_
          refine k_putI f81_46 hS.o17 rfl ?_
          refine k_aload f81_49 rfl ?_
          refine k_getr (q := 17) f81_50 hS.o0 rfl hR.r0_5 ?_
          refine k_gI (w := (I 62 3) + (n)) f81_53 hS.o17 rfl (z_u_same _ _ _ _) ?_
          refine k_iret f81_56 rfl ⟨_, rfl, ?_⟩
          show zOk x 399 176 0 [.ref 51, .int (n)] [] _ _
          refine k_aload f176_0 rfl ?_
          refine k_getr (q := 62) f176_1 hS.o51 rfl hR.r51_25 ?_
          refine k_iconst (v := 0) f176_4 rfl ?_
          refine k_ia (k := 0) (w := I 62 0) f176_5 hS.a62 rfl (by decide) (by decide) (z_u_k _ _ _ (by decide)) ?_
          refine k_if_eq f176_6 (fun h_ => absurd h_ (fun q => g0 (by rw [q]; decide))) (fun _ => ?_)
          refine k_iload f176_9 rfl ?_
          refine k_i2l f176_10 ?_
          refine k_lconst (v := 1) f176_11 rfl ?_
          refine k_lconst (v := 999) f176_12 rfl ?_
          refine e_s (as := [.long (999), .long (1), .long ((n).toInt64)]) (rest := []) f176_15 rfl rfl rfl (s_in (1) (999) rfl rfl) ?_
          refine k_beq f176_18 (fun h_ => absurd (⟨g1, g2⟩) h_) (fun _ => ?_)
          refine k_aload f176_21 rfl ?_
          refine k_getr (q := 62) f176_22 hS.o51 rfl hR.r51_25 ?_
          refine k_iconst (v := 3) f176_25 rfl ?_
          refine k_ia (k := 3) (w := I 62 3) f176_26 hS.a62 rfl (by decide) (by decide) (z_u_k _ _ _ (by decide)) ?_
          refine k_iload f176_27 rfl ?_
          refine k_iadd f176_28 ?_
          refine k_iconst (v := 19999) f176_29 rfl ?_
          refine k_ic_le f176_32 (fun _ => ?_) (fun h_ => absurd (g3) h_)
          refine k_aload f176_37 rfl ?_
          refine k_getr (q := 62) f176_38 hS.o51 rfl hR.r51_25 ?_
          refine k_iconst (v := 3) f176_41 rfl ?_
          refine k_dup2 f176_42 ?_
          refine k_ia (k := 3) (w := I 62 3) f176_43 hS.a62 rfl (by decide) (by decide) (z_u_k _ _ _ (by decide)) ?_
          refine k_iload f176_44 rfl ?_
          refine k_iadd f176_45 ?_
          refine k_is (k := 3) f176_46 hS.a62 rfl (by decide) (by decide) ?_
          refine k_aload f176_47 rfl ?_
          refine k_getr (q := 62) f176_48 hS.o51 rfl hR.r51_25 ?_
          refine k_iconst (v := 3) f176_51 rfl ?_
          refine k_ia (k := 3) (w := (I 62 3) + (n)) f176_52 hS.a62 rfl (by decide) (by decide) (z_u_same _ _ _ _) ?_
          refine k_iret f176_53 rfl ⟨rfl, ?_⟩
          exact inv_1 (P := 17) (K := 1) (i := 3) hI (by unfold plc; omega) rfl (so_3 hO (rg_day hO.2.2.2.1 g1 g2 g3).1 (rg_day hO.2.2.2.1 g1 g2 g3).2)
        · refine k_iconst (v := (-1)) f81_34 rfl ?_
          refine k_iret f81_35 rfl ⟨_, rfl, ?_⟩
          show zOk x 399 176 0 [.ref 51, .int (n)] [] _ _
          refine k_aload f176_0 rfl ?_
          refine k_getr (q := 62) f176_1 hS.o51 rfl hR.r51_25 ?_
          refine k_iconst (v := 0) f176_4 rfl ?_
          refine k_ia (k := 0) (w := I 62 0) f176_5 hS.a62 rfl (by decide) (by decide) rfl ?_
          refine k_if_eq f176_6 (fun h_ => absurd h_ (fun q => g0 (by rw [q]; decide))) (fun _ => ?_)
          refine k_iload f176_9 rfl ?_
          refine k_i2l f176_10 ?_
          refine k_lconst (v := 1) f176_11 rfl ?_
          refine k_lconst (v := 999) f176_12 rfl ?_
          refine e_s (as := [.long (999), .long (1), .long ((n).toInt64)]) (rest := []) f176_15 rfl rfl rfl (s_in (1) (999) rfl rfl) ?_
          refine k_beq f176_18 (fun h_ => absurd (⟨g1, g2⟩) h_) (fun _ => ?_)
          refine k_aload f176_21 rfl ?_
          refine k_getr (q := 62) f176_22 hS.o51 rfl hR.r51_25 ?_
          refine k_iconst (v := 3) f176_25 rfl ?_
          refine k_ia (k := 3) (w := I 62 3) f176_26 hS.a62 rfl (by decide) (by decide) rfl ?_
          refine k_iload f176_27 rfl ?_
          refine k_iadd f176_28 ?_
          refine k_iconst (v := 19999) f176_29 rfl ?_
          refine k_ic_le f176_32 (fun h_ => absurd h_ (g3)) (fun _ => ?_)
          refine k_iconst (v := (-1)) f176_35 rfl ?_
          refine k_iret f176_36 rfl ⟨rfl, ?_⟩
          exact inv_q hI (by omega) Kq.rfl KS.rfl
theorem rg_told {v : Int32} (h1 : ¬ v < -1) (h2 : v ≤ 1) : v = -1 ∨ Rg v 2 := by
  by_cases h : v < 0
  · left
    rw [← Int32.toInt_inj]
    rw [Int32.lt_iff_toInt_lt] at h h1
    have e1 : (-1 : Int32).toInt = -1 := by decide
    have e0 : (0 : Int32).toInt = 0 := by decide
    omega
  · right
    obtain ⟨b, hb, f⟩ := nI_of2 (x := v) (M := 1) (n := 1) (by decide) h h2
    subst f
    exact Rg.of (by omega) (by omega)
theorem ix_t (c : Nat) : nI (131 + c) = (131) + (nI c) := (nI_add 131 c).symm
theorem op_came {x : Nat × (Nat → Int32)} (coin how : Int32) : Op Inv x 91 197 [.int coin, .int how] := by
  refine Op.of2 fun j I J R G hj hI => ?_
  have hS : Sh G := hI.1
  have hR : Rs R := hI.2.1
  have hT1 : Rg (I 9 1) 401 := hI.2.2.2.2.1.1
  have hT2 : I 51 1 = I 9 1 := hI.2.2.2.2.1.2.1
  have hN1 : Rg (I 0 4) 7 := hI.2.2.2.2.2.1.1
  have hN2 : I 51 2 = I 0 4 := hI.2.2.2.2.2.1.2.1
  have hN3 : ∀ t, t < cl (I 0 4) → ∃ r, R 16 t = some r ∧ RuR I R G t r := hI.2.2.2.2.2.1.2.2
  obtain ⟨pl, hst⟩ : ∃ pl, StR I R G 17 pl (I 62) := hI.2.2.2.2.2.2.1
  have hO : SOk (I 62) (cl (I 0 4)) := hI.2.2.2.2.2.2.2.1
  by_cases hP : ¬ coin < 0 ∧ ¬ I 62 1 ≤ coin
  · obtain ⟨c, hc, rfl⟩ := ix_of hO.2.1 (by omega) hP
    have hc8 : c < 8 := Nat.lt_of_lt_of_le hc (Nat.le_of_lt_succ hO.2.1.2)
    show zOk x 399 91 0 [.ref 0, .int (nI c), .int (how)] [] _ _
    refine k_aload f91_0 rfl ?_
    refine k_iload f91_1 rfl ?_
    refine e_v (as := [.int (nI c)]) (rest := []) f91_2 hS.o0 rfl rfl rfl (s_hasCoin hR hS hst) ?_
    refine k_beq f91_5 (fun h_ => absurd (hP) h_) (fun _ => ?_)
    refine k_iload f91_8 rfl ?_
    refine k_iconst (v := (-1)) f91_9 rfl ?_
    refine k_ic_lt f91_10 (fun g0 => ?_) (fun g0 => ?_)
    · refine k_iconst (v := 0) f91_18 rfl ?_
      refine k_iret f91_19 (by decide) ⟨_, rfl, ?_⟩
      show zOk x 399 197 0 [.ref 51, .int (nI c), .int (how)] [] _ _
      refine k_aload f197_0 rfl ?_
      refine k_iload f197_1 rfl ?_
      refine e_v (as := [.int (nI c)]) (rest := []) f197_2 hS.o51 rfl rfl rfl (s_isCoin (w := I 62 1) hR hS rfl) ?_
      refine k_beq f197_5 (fun h_ => absurd (hP) h_) (fun _ => ?_)
      refine k_iload f197_8 rfl ?_
      refine k_i2l f197_9 ?_
      refine k_lconst (v := (-1)) f197_10 rfl ?_
      refine k_lconst (v := 1) f197_13 rfl ?_
      refine e_s (as := [.long (1), .long ((-1)), .long ((how).toInt64)]) (rest := []) f197_14 rfl rfl rfl (s_in ((-1)) (1) rfl rfl) ?_
      refine k_bne f197_17 (fun h_ => absurd h_ (fun h => h.1 g0)) (fun _ => ?_)
      refine k_iconst (v := 0) f197_20 rfl ?_
      refine k_iret f197_21 (by decide) ⟨rfl, ?_⟩
      exact inv_q hI (by omega) Kq.rfl KS.rfl
    · refine k_iload f91_13 rfl ?_
      refine k_iconst (v := 1) f91_14 rfl ?_
      refine k_ic_le f91_15 (fun g1 => ?_) (fun g1 => ?_)
      · refine k_aload f91_20 rfl ?_
        refine k_getr (q := 17) f91_21 hS.o0 rfl hR.r0_5 ?_
        refine k_getr (q := 18) f91_24 hS.o17 rfl hR.r17_5 ?_
        refine k_iload f91_27 rfl ?_
        refine k_aar (k := c) (q := 17 + 2 + c) f91_28 hS.a18 rfl rfl (by omega) (by decide) (hst.1.2.2.2 c hc8).1 ?_
        refine k_iload f91_29 rfl ?_
        refine k_putI f91_30 (hst.1.2.2.2 c hc8).2 rfl ?_
        refine k_iconst (v := 1) f91_33 rfl ?_
        refine k_iret f91_34 (by decide) ⟨_, rfl, ?_⟩
        show zOk x 399 197 0 [.ref 51, .int (nI c), .int (how)] [] _ _
        refine k_aload f197_0 rfl ?_
        refine k_iload f197_1 rfl ?_
        refine e_v (as := [.int (nI c)]) (rest := []) f197_2 hS.o51 rfl rfl rfl (s_isCoin (w := I 62 1) hR hS (z_u_p _ _ _ _ (by omega))) ?_
        refine k_beq f197_5 (fun h_ => absurd (hP) h_) (fun _ => ?_)
        refine k_iload f197_8 rfl ?_
        refine k_i2l f197_9 ?_
        refine k_lconst (v := (-1)) f197_10 rfl ?_
        refine k_lconst (v := 1) f197_13 rfl ?_
        refine e_s (as := [.long (1), .long ((-1)), .long ((how).toInt64)]) (rest := []) f197_14 rfl rfl rfl (s_in ((-1)) (1) rfl rfl) ?_
        refine k_bne f197_17 (fun _ => ?_) (fun h_ => absurd (⟨g0, Int32.not_lt.mpr g1⟩) h_)
        refine k_aload f197_22 rfl ?_
        refine k_getr (q := 62) f197_23 hS.o51 rfl hR.r51_25 ?_
        refine k_iconst (v := 131) f197_26 rfl ?_
        refine k_iload f197_29 rfl ?_
        refine k_iadd f197_30 ?_
        refine k_iload f197_31 rfl ?_
        refine k_is (k := 131 + c) f197_32 hS.a62 (ix_t c) (by omega) (by decide) ?_
        refine k_iconst (v := 1) f197_33 rfl ?_
        refine k_iret f197_34 (by decide) ⟨rfl, ?_⟩
        exact inv_1 (P := 17 + 2 + c) (K := 6) (i := 131 + c) hI (by unfold plc; omega) rfl (so_told hO (rg_told g0 g1) hc)
      · refine k_iconst (v := 0) f91_18 rfl ?_
        refine k_iret f91_19 (by decide) ⟨_, rfl, ?_⟩
        show zOk x 399 197 0 [.ref 51, .int (nI c), .int (how)] [] _ _
        refine k_aload f197_0 rfl ?_
        refine k_iload f197_1 rfl ?_
        refine e_v (as := [.int (nI c)]) (rest := []) f197_2 hS.o51 rfl rfl rfl (s_isCoin (w := I 62 1) hR hS rfl) ?_
        refine k_beq f197_5 (fun h_ => absurd (hP) h_) (fun _ => ?_)
        refine k_iload f197_8 rfl ?_
        refine k_i2l f197_9 ?_
        refine k_lconst (v := (-1)) f197_10 rfl ?_
        refine k_lconst (v := 1) f197_13 rfl ?_
        refine e_s (as := [.long (1), .long ((-1)), .long ((how).toInt64)]) (rest := []) f197_14 rfl rfl rfl (s_in ((-1)) (1) rfl rfl) ?_
        refine k_bne f197_17 (fun h_ => absurd h_ (fun h => h.2 (Int32.not_le.mp g1))) (fun _ => ?_)
        refine k_iconst (v := 0) f197_20 rfl ?_
        refine k_iret f197_21 (by decide) ⟨rfl, ?_⟩
        exact inv_q hI (by omega) Kq.rfl KS.rfl
  · show zOk x 399 91 0 [.ref 0, .int (coin), .int (how)] [] _ _
    refine k_aload f91_0 rfl ?_
    refine k_iload f91_1 rfl ?_
    refine e_v (as := [.int (coin)]) (rest := []) f91_2 hS.o0 rfl rfl rfl (s_hasCoin hR hS hst) ?_
    refine k_beq f91_5 (fun _ => ?_) (fun h_ => (absurd h_ (hP)))
    refine k_iconst (v := 0) f91_18 rfl ?_
    refine k_iret f91_19 (by decide) ⟨_, rfl, ?_⟩
    show zOk x 399 197 0 [.ref 51, .int (coin), .int (how)] [] _ _
    refine k_aload f197_0 rfl ?_
    refine k_iload f197_1 rfl ?_
    refine e_v (as := [.int (coin)]) (rest := []) f197_2 hS.o51 rfl rfl rfl (s_isCoin (w := I 62 1) hR hS rfl) ?_
    refine k_beq f197_5 (fun _ => ?_) (fun h_ => (absurd h_ (hP)))
    refine k_iconst (v := 0) f197_20 rfl ?_
    refine k_iret f197_21 (by decide) ⟨rfl, ?_⟩
    exact inv_q hI (by omega) Kq.rfl KS.rfl
