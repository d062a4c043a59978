/-! AHEAD. -/
theorem inv_trial {j : Nat} {I I1 I2 I4 I5 I6 : Nat → Nat → Int32} {J J' : Nat → Nat → Int64} {R : Nat → Nat → Option Nat} {G : zG} {v : Option Nat} (hI : Inv j (I, J, R, G)) (f1 : ∀ p k, ¬ (27 ≤ p ∧ p < 37) → I1 p k = I p k) (f2 : ∀ p k, ¬ (27 ≤ p ∧ p < 37) → ¬ (p = 42 ∧ k = 1) → I2 p k = I1 p k) (f4 : ∀ p k, p ≠ 63 → ¬ (p = 51 ∧ k = 26) → I4 p k = I2 p k) (f5 : ∀ p k, p ≠ 62 → ¬ (p = 51 ∧ (k = 23 ∨ k = 26)) → I5 p k = I4 p k) (w6 : rwH I5 I6 62 0 63 0 139) (k63 : ∀ k, k < 139 → I4 63 k = I 62 k) (h62 : ∀ k, 139 ≤ k → I5 62 k = I 62 k) : Inv (j + 1) (I6, J', z_u R 27 0 v, G) := by
  refine inv_q hI (by omega) (fun p k hp hs => ?_) (ks27 v)
  by_cases e : p = 62
  · subst e
    by_cases q : k < 139
    · have a := w6.2 k q
      rw [Nat.zero_add] at a
      rw [a, f5 63 k (by omega) (by omega)]
      exact k63 k q
    · rw [w6.1 62 k (by omega)]
      exact h62 k (by omega)
  · have n1 : ¬ (27 ≤ p ∧ p < 37) := fun h => hs (by unfold sc0; omega)
    have n2 : ¬ (p = 42 ∧ k = 1) := fun h => hs (by unfold sc0; omega)
    have n3 : p ≠ 63 := fun h => hs (by unfold sc0; omega)
    have n4 : ¬ (p = 51 ∧ (k = 23 ∨ k = 26)) := fun h => hs (by unfold sc0; omega)
    rw [w6.1 p k (by omega), f5 p k e n4, f4 p k n3 (by omega), f2 p k n1 n2, f1 p k n1]
theorem op_ahead {x : Nat × (Nat → Int32)} (rule n what : Int32) : Op Inv x 83 182 [.int rule, .int n, .int what] := by
  refine Op.of2 fun j I J R G hj hI => ?_
  have hS : Sh G := hI.1
  have hR : Rs R := hI.2.1
  have hT1 : Rg (I 9 1) 401 := hI.2.2.2.2.1.1
  have hT2 : I 51 1 = I 9 1 := hI.2.2.2.2.1.2.1
  have hN1 : Rg (I 0 4) 7 := hI.2.2.2.2.2.1.1
  have hN2 : I 51 2 = I 0 4 := hI.2.2.2.2.2.1.2.1
  have hN3 : ∀ t, t < cl (I 0 4) → ∃ r, R 16 t = some r ∧ RuR I R G t r := hI.2.2.2.2.2.1.2.2
  obtain ⟨pl, hst⟩ : ∃ pl, StR I R G 17 pl (I 62) := hI.2.2.2.2.2.2.1
  have hO : SOk (I 62) (cl (I 0 4)) := hI.2.2.2.2.2.2.2.1
  by_cases hr : ¬ rule < 0 ∧ ¬ I 0 4 ≤ rule
  · obtain ⟨t, htl, rfl⟩ := ix_of hN1 (by omega) hr
    have ht6 : t < 6 := by have := hN1.2; omega
    obtain ⟨r, hr1, hru⟩ := hN3 t htl
    have hz4 : zo G r 4 := by obtain ⟨_, _, _, _, _, h, _⟩ := hru; exact h.2.1
    by_cases hT : ¬ I 62 0 ≤ 0
    · by_cases g1 : n < 0
      · show zOk x 399 83 0 [.ref 0, .int (nI t), .int (n), .int (what), zU, zU] [] _ _
        refine k_aload f83_0 rfl ?_
        refine k_iload f83_1 rfl ?_
        refine e_v (as := [.int (nI t)]) (rest := []) f83_2 hS.o0 rfl rfl rfl (s_ruleAt1 (t := t) hR hS ht6 hr.2 hr1) ?_
        refine k_astore (L' := [.ref 0, .int (nI t), .int (n), .int (what), .ref r, zU]) f83_5 rfl rfl ?_
        refine k_aload f83_7 rfl ?_
        refine k_nullr f83_9 ?_
        refine k_aload f83_12 rfl ?_
        refine e_v (as := []) (rest := []) f83_13 hS.o0 rfl rfl rfl (s_hasTown hR hS hst) ?_
        refine k_beq f83_16 (fun h_ => absurd (hT) h_) (fun _ => ?_)
        refine k_iload f83_19 rfl ?_
        refine k_if_lt f83_20 (fun _ => ?_) (fun h_ => absurd (g1) h_)
        refine k_iconst (v := (-1)) f83_39 rfl ?_
        refine k_iret f83_40 rfl ⟨_, rfl, ?_⟩
        show zOk x 399 182 0 [.ref 51, .int (nI t), .int (n), .int (what), zU] [] _ _
        refine k_aload f182_0 rfl ?_
        refine k_getr (q := 62) f182_1 hS.o51 rfl hR.r51_25 ?_
        refine k_iconst (v := 0) f182_4 rfl ?_
        refine k_ia (k := 0) (w := I 62 0) f182_5 hS.a62 rfl (by decide) (by decide) rfl ?_
        refine k_if_eq f182_6 (fun h_ => absurd h_ ((fun e => hT (by rw [e]; decide)))) (fun _ => ?_)
        refine k_aload f182_9 rfl ?_
        refine k_iload f182_10 rfl ?_
        refine e_v (as := [.int (nI t)]) (rest := []) f182_11 hS.o51 rfl rfl rfl (s_isRule (w := I 0 4) hS hN2) ?_
        refine k_beq f182_14 (fun h_ => absurd (hr) h_) (fun _ => ?_)
        refine k_iload f182_17 rfl ?_
        refine k_i2l f182_18 ?_
        refine k_lconst (v := 0) f182_19 rfl ?_
        refine k_lconst (v := 400) f182_20 rfl ?_
        refine e_s (as := [.long (400), .long (0), .long ((n).toInt64)]) (rest := []) f182_23 rfl rfl rfl (s_in (0) (400) rfl rfl) ?_
        refine k_beq f182_26 (fun _ => ?_) (fun h_ => (absurd h_ ((fun h => h.1 g1))))
        refine k_iconst (v := (-1)) f182_41 rfl ?_
        refine k_iret f182_42 rfl ⟨rfl, ?_⟩
        exact inv_q hI (by omega) Kq.rfl KS.rfl
      · by_cases g2 : 400 < n
        · show zOk x 399 83 0 [.ref 0, .int (nI t), .int (n), .int (what), zU, zU] [] _ _
          refine k_aload f83_0 rfl ?_
          refine k_iload f83_1 rfl ?_
          refine e_v (as := [.int (nI t)]) (rest := []) f83_2 hS.o0 rfl rfl rfl (s_ruleAt1 (t := t) hR hS ht6 hr.2 hr1) ?_
          refine k_astore (L' := [.ref 0, .int (nI t), .int (n), .int (what), .ref r, zU]) f83_5 rfl rfl ?_
          refine k_aload f83_7 rfl ?_
          refine k_nullr f83_9 ?_
          refine k_aload f83_12 rfl ?_
          refine e_v (as := []) (rest := []) f83_13 hS.o0 rfl rfl rfl (s_hasTown hR hS hst) ?_
          refine k_beq f83_16 (fun h_ => absurd (hT) h_) (fun _ => ?_)
          refine k_iload f83_19 rfl ?_
          refine k_if_lt f83_20 (fun h_ => absurd h_ (g1)) (fun _ => ?_)
          refine k_iload f83_23 rfl ?_
          refine k_iconst (v := 400) f83_24 rfl ?_
          refine k_ic_gt f83_27 (fun _ => ?_) (fun h_ => absurd (g2) h_)
          refine k_iconst (v := (-1)) f83_39 rfl ?_
          refine k_iret f83_40 rfl ⟨_, rfl, ?_⟩
          show zOk x 399 182 0 [.ref 51, .int (nI t), .int (n), .int (what), zU] [] _ _
          refine k_aload f182_0 rfl ?_
          refine k_getr (q := 62) f182_1 hS.o51 rfl hR.r51_25 ?_
          refine k_iconst (v := 0) f182_4 rfl ?_
          refine k_ia (k := 0) (w := I 62 0) f182_5 hS.a62 rfl (by decide) (by decide) rfl ?_
          refine k_if_eq f182_6 (fun h_ => absurd h_ ((fun e => hT (by rw [e]; decide)))) (fun _ => ?_)
          refine k_aload f182_9 rfl ?_
          refine k_iload f182_10 rfl ?_
          refine e_v (as := [.int (nI t)]) (rest := []) f182_11 hS.o51 rfl rfl rfl (s_isRule (w := I 0 4) hS hN2) ?_
          refine k_beq f182_14 (fun h_ => absurd (hr) h_) (fun _ => ?_)
          refine k_iload f182_17 rfl ?_
          refine k_i2l f182_18 ?_
          refine k_lconst (v := 0) f182_19 rfl ?_
          refine k_lconst (v := 400) f182_20 rfl ?_
          refine e_s (as := [.long (400), .long (0), .long ((n).toInt64)]) (rest := []) f182_23 rfl rfl rfl (s_in (0) (400) rfl rfl) ?_
          refine k_beq f182_26 (fun _ => ?_) (fun h_ => (absurd h_ ((fun h => h.2 g2))))
          refine k_iconst (v := (-1)) f182_41 rfl ?_
          refine k_iret f182_42 rfl ⟨rfl, ?_⟩
          exact inv_q hI (by omega) Kq.rfl KS.rfl
        · obtain ⟨D, hD, rfl⟩ := nI_of2 (x := n) (M := 400) (n := 400) (by decide) g1 (Int32.not_lt.mp g2)
          have hA : RuA I R G := ⟨hN1, hN3⟩
          have hn9 := hO.2.1.2
          have hm25 := hO.2.2.1.2
          rcases sw3 what with (gw | gw) | rfl | rfl | rfl
          · show zOk x 399 83 0 [.ref 0, .int (nI t), .int (nI D), .int (what), zU, zU] [] _ _
            refine k_aload f83_0 rfl ?_
            refine k_iload f83_1 rfl ?_
            refine e_v (as := [.int (nI t)]) (rest := []) f83_2 hS.o0 rfl rfl rfl (s_ruleAt1 (t := t) hR hS ht6 hr.2 hr1) ?_
            refine k_astore (L' := [.ref 0, .int (nI t), .int (nI D), .int (what), .ref r, zU]) f83_5 rfl rfl ?_
            refine k_aload f83_7 rfl ?_
            refine k_nullr f83_9 ?_
            refine k_aload f83_12 rfl ?_
            refine e_v (as := []) (rest := []) f83_13 hS.o0 rfl rfl rfl (s_hasTown hR hS hst) ?_
            refine k_beq f83_16 (fun h_ => absurd (hT) h_) (fun _ => ?_)
            refine k_iload f83_19 rfl ?_
            refine k_if_lt f83_20 (fun h_ => absurd h_ (g1)) (fun _ => ?_)
            refine k_iload f83_23 rfl ?_
            refine k_iconst (v := 400) f83_24 rfl ?_
            refine k_ic_gt f83_27 (fun h_ => absurd h_ (g2)) (fun _ => ?_)
            refine k_iload f83_30 rfl ?_
            refine k_if_lt f83_31 (fun _ => ?_) (fun h_ => absurd (gw) h_)
            refine k_iconst (v := (-1)) f83_39 rfl ?_
            refine k_iret f83_40 rfl ⟨_, rfl, ?_⟩
            show zOk x 399 182 0 [.ref 51, .int (nI t), .int (nI D), .int (what), zU] [] _ _
            refine k_aload f182_0 rfl ?_
            refine k_getr (q := 62) f182_1 hS.o51 rfl hR.r51_25 ?_
            refine k_iconst (v := 0) f182_4 rfl ?_
            refine k_ia (k := 0) (w := I 62 0) f182_5 hS.a62 rfl (by decide) (by decide) rfl ?_
            refine k_if_eq f182_6 (fun h_ => absurd h_ ((fun e => hT (by rw [e]; decide)))) (fun _ => ?_)
            refine k_aload f182_9 rfl ?_
            refine k_iload f182_10 rfl ?_
            refine e_v (as := [.int (nI t)]) (rest := []) f182_11 hS.o51 rfl rfl rfl (s_isRule (w := I 0 4) hS hN2) ?_
            refine k_beq f182_14 (fun h_ => absurd (hr) h_) (fun _ => ?_)
            refine k_iload f182_17 rfl ?_
            refine k_i2l f182_18 ?_
            refine k_lconst (v := 0) f182_19 rfl ?_
            refine k_lconst (v := 400) f182_20 rfl ?_
            refine e_s (as := [.long (400), .long (0), .long ((nI D).toInt64)]) (rest := []) f182_23 rfl rfl rfl (s_in (0) (400) rfl rfl) ?_
            refine k_beq f182_26 (fun h_ => absurd (⟨g1, g2⟩) h_) (fun _ => ?_)
            refine k_iload f182_29 rfl ?_
            refine k_i2l f182_30 ?_
            refine k_lconst (v := 0) f182_31 rfl ?_
            refine k_lconst (v := 2) f182_32 rfl ?_
            refine e_s (as := [.long (2), .long (0), .long ((what).toInt64)]) (rest := []) f182_35 rfl rfl rfl (s_in (0) (2) rfl rfl) ?_
            refine k_bne f182_38 (fun h_ => absurd h_ ((fun h => h.1 gw))) (fun _ => ?_)
            refine k_iconst (v := (-1)) f182_41 rfl ?_
            refine k_iret f182_42 rfl ⟨rfl, ?_⟩
            exact inv_q hI (by omega) Kq.rfl KS.rfl
          · show zOk x 399 83 0 [.ref 0, .int (nI t), .int (nI D), .int (what), zU, zU] [] _ _
            refine k_aload f83_0 rfl ?_
            refine k_iload f83_1 rfl ?_
            refine e_v (as := [.int (nI t)]) (rest := []) f83_2 hS.o0 rfl rfl rfl (s_ruleAt1 (t := t) hR hS ht6 hr.2 hr1) ?_
            refine k_astore (L' := [.ref 0, .int (nI t), .int (nI D), .int (what), .ref r, zU]) f83_5 rfl rfl ?_
            refine k_aload f83_7 rfl ?_
            refine k_nullr f83_9 ?_
            refine k_aload f83_12 rfl ?_
            refine e_v (as := []) (rest := []) f83_13 hS.o0 rfl rfl rfl (s_hasTown hR hS hst) ?_
            refine k_beq f83_16 (fun h_ => absurd (hT) h_) (fun _ => ?_)
            refine k_iload f83_19 rfl ?_
            refine k_if_lt f83_20 (fun h_ => absurd h_ (g1)) (fun _ => ?_)
            refine k_iload f83_23 rfl ?_
            refine k_iconst (v := 400) f83_24 rfl ?_
            refine k_ic_gt f83_27 (fun h_ => absurd h_ (g2)) (fun _ => ?_)
            refine k_iload f83_30 rfl ?_
            refine k_if_lt f83_31 (fun g0 => ?_) (fun g0 => ?_)
            · refine k_iconst (v := (-1)) f83_39 rfl ?_
              refine k_iret f83_40 rfl ⟨_, rfl, ?_⟩
              show zOk x 399 182 0 [.ref 51, .int (nI t), .int (nI D), .int (what), zU] [] _ _
              refine k_aload f182_0 rfl ?_
              refine k_getr (q := 62) f182_1 hS.o51 rfl hR.r51_25 ?_
              refine k_iconst (v := 0) f182_4 rfl ?_
              refine k_ia (k := 0) (w := I 62 0) f182_5 hS.a62 rfl (by decide) (by decide) rfl ?_
              refine k_if_eq f182_6 (fun h_ => absurd h_ ((fun e => hT (by rw [e]; decide)))) (fun _ => ?_)
              refine k_aload f182_9 rfl ?_
              refine k_iload f182_10 rfl ?_
              refine e_v (as := [.int (nI t)]) (rest := []) f182_11 hS.o51 rfl rfl rfl (s_isRule (w := I 0 4) hS hN2) ?_
              refine k_beq f182_14 (fun h_ => absurd (hr) h_) (fun _ => ?_)
              refine k_iload f182_17 rfl ?_
              refine k_i2l f182_18 ?_
              refine k_lconst (v := 0) f182_19 rfl ?_
              refine k_lconst (v := 400) f182_20 rfl ?_
              refine e_s (as := [.long (400), .long (0), .long ((nI D).toInt64)]) (rest := []) f182_23 rfl rfl rfl (s_in (0) (400) rfl rfl) ?_
              refine k_beq f182_26 (fun h_ => absurd (⟨g1, g2⟩) h_) (fun _ => ?_)
              refine k_iload f182_29 rfl ?_
              refine k_i2l f182_30 ?_
              refine k_lconst (v := 0) f182_31 rfl ?_
              refine k_lconst (v := 2) f182_32 rfl ?_
              refine e_s (as := [.long (2), .long (0), .long ((what).toInt64)]) (rest := []) f182_35 rfl rfl rfl (s_in (0) (2) rfl rfl) ?_
              refine k_bne f182_38 (fun h_ => absurd h_ ((fun h => h.2 gw))) (fun _ => ?_)
              refine k_iconst (v := (-1)) f182_41 rfl ?_
              refine k_iret f182_42 rfl ⟨rfl, ?_⟩
              exact inv_q hI (by omega) Kq.rfl KS.rfl
            · refine k_iload f83_34 rfl ?_
              refine k_iconst (v := 2) f83_35 rfl ?_
              refine k_ic_le f83_36 (fun h_ => absurd h_ (Int32.not_le.mpr gw)) (fun _ => ?_)
              refine k_iconst (v := (-1)) f83_39 rfl ?_
              refine k_iret f83_40 rfl ⟨_, rfl, ?_⟩
              show zOk x 399 182 0 [.ref 51, .int (nI t), .int (nI D), .int (what), zU] [] _ _
              refine k_aload f182_0 rfl ?_
              refine k_getr (q := 62) f182_1 hS.o51 rfl hR.r51_25 ?_
              refine k_iconst (v := 0) f182_4 rfl ?_
              refine k_ia (k := 0) (w := I 62 0) f182_5 hS.a62 rfl (by decide) (by decide) rfl ?_
              refine k_if_eq f182_6 (fun h_ => absurd h_ ((fun e => hT (by rw [e]; decide)))) (fun _ => ?_)
              refine k_aload f182_9 rfl ?_
              refine k_iload f182_10 rfl ?_
              refine e_v (as := [.int (nI t)]) (rest := []) f182_11 hS.o51 rfl rfl rfl (s_isRule (w := I 0 4) hS hN2) ?_
              refine k_beq f182_14 (fun h_ => absurd (hr) h_) (fun _ => ?_)
              refine k_iload f182_17 rfl ?_
              refine k_i2l f182_18 ?_
              refine k_lconst (v := 0) f182_19 rfl ?_
              refine k_lconst (v := 400) f182_20 rfl ?_
              refine e_s (as := [.long (400), .long (0), .long ((nI D).toInt64)]) (rest := []) f182_23 rfl rfl rfl (s_in (0) (400) rfl rfl) ?_
              refine k_beq f182_26 (fun h_ => absurd (⟨g1, g2⟩) h_) (fun _ => ?_)
              refine k_iload f182_29 rfl ?_
              refine k_i2l f182_30 ?_
              refine k_lconst (v := 0) f182_31 rfl ?_
              refine k_lconst (v := 2) f182_32 rfl ?_
              refine e_s (as := [.long (2), .long (0), .long ((what).toInt64)]) (rest := []) f182_35 rfl rfl rfl (s_in (0) (2) rfl rfl) ?_
              refine k_bne f182_38 (fun h_ => absurd h_ ((fun h => h.2 gw))) (fun _ => ?_)
              refine k_iconst (v := (-1)) f182_41 rfl ?_
              refine k_iret f182_42 rfl ⟨rfl, ?_⟩
              exact inv_q hI (by omega) Kq.rfl KS.rfl
          · show zOk x 399 83 0 [.ref 0, .int (nI t), .int (nI D), .int (0), zU, zU] [] _ _
            refine k_aload f83_0 rfl ?_
            refine k_iload f83_1 rfl ?_
            refine e_v (as := [.int (nI t)]) (rest := []) f83_2 hS.o0 rfl rfl rfl (s_ruleAt1 (t := t) hR hS ht6 hr.2 hr1) ?_
            refine k_astore (L' := [.ref 0, .int (nI t), .int (nI D), .int (0), .ref r, zU]) f83_5 rfl rfl ?_
            refine k_aload f83_7 rfl ?_
            refine k_nullr f83_9 ?_
            refine k_aload f83_12 rfl ?_
            refine e_v (as := []) (rest := []) f83_13 hS.o0 rfl rfl rfl (s_hasTown hR hS hst) ?_
            refine k_beq f83_16 (fun h_ => absurd (hT) h_) (fun _ => ?_)
            refine k_iload f83_19 rfl ?_
            refine k_if_lt f83_20 (fun h_ => absurd h_ (g1)) (fun _ => ?_)
            refine k_iload f83_23 rfl ?_
            refine k_iconst (v := 400) f83_24 rfl ?_
            refine k_ic_gt f83_27 (fun h_ => absurd h_ (g2)) (fun _ => ?_)
            refine k_iload f83_30 rfl ?_
            refine k_if_lt f83_31 (fun h_ => absurd h_ (by decide)) (fun _ => ?_)
            refine k_iload f83_34 rfl ?_
            refine k_iconst (v := 2) f83_35 rfl ?_
            refine k_ic_le f83_36 (fun _ => ?_) (fun h_ => absurd (by decide) h_)
            refine k_aload f83_41 rfl ?_
            refine k_getr (q := 27) f83_42 hS.o0 rfl hR.r0_6 ?_
            refine k_aload f83_45 rfl ?_
            refine k_getr (q := 17) f83_46 hS.o0 rfl hR.r0_5 ?_
            refine k_callv (as := [.ref 17]) (rest := []) f83_49 hS.o27 rfl rfl rfl rfl (q_trial hR hS hst hO.sw hO.2.1.1 (by omega)) ?_
            rintro _ _ ⟨rfl, I1, rfl, ht27, f1⟩
            obtain ⟨R1, eR1⟩ : ∃ R1, R1 = z_u R 27 0 (some pl) := ⟨_, rfl⟩
            rw [← eR1] at ht27 ⊢
            have hR1 : Rs R1 := eR1 ▸ rs27 hS hR _
            have kr1 : Kr I I1 := fun p k hp => f1 p k (by omega)
            have hA1 : RuA I1 R1 G := eR1 ▸ ra27 (hA.kr kr1) _
            have hru1 : RuR I1 R1 G t r := eR1 ▸ ru27 (hru.kr kr1) _
            have eso1 : soB I1 t = soB I t := funext fun w => funext fun k => soB_kr kr1 t w k
            refine k_aload f83_52 rfl ?_
            refine k_getr (q := 42) f83_53 hS.o0 rfl hR1.r0_10 ?_
            refine k_aload f83_56 rfl ?_
            refine k_getr (q := 27) f83_57 hS.o0 rfl hR1.r0_6 ?_
            refine k_aload f83_60 rfl ?_
            refine k_iload f83_62 rfl ?_
            refine k_iconst (v := 0) f83_63 rfl ?_
            refine k_callv (as := [.int (0), .int (nI D), .ref r, .ref 27]) (rest := []) f83_64 hS.o42 rfl rfl rfl rfl (q_goBy0 (st := 27) (z := (I 62, I1 42 1)) (P := I 62 0) (I0 := I1) hR1 hS (Or.inr rfl) hru1 (by omega) (by omega) hT hD ⟨ht27, rfl, hO.sw, AF.rfl, fun _ _ _ _ => rfl⟩ hO.2.1.1 hO.mw rfl) ?_
            rintro _ _ ⟨rfl, I2, J2, rfl, hz2⟩
            rw [eso1] at hz2 ⊢
            obtain ⟨zc, ezc⟩ : ∃ zc, zc = foL (fun _ => dC (soB I t) (cl (I 62 1)) (cl (I 62 2)) 0 0) 0 D (I 62, 0) := ⟨_, rfl⟩
            rw [← ezc] at hz2 ⊢
            have aec : AE (I 62) zc.1 := ezc ▸ dC_ae (by omega) D 0 (I 62, 0)
            refine k_istore (L' := [.ref 0, .int (nI t), .int (nI D), .int (0), .ref r, .int (zc.2)]) f83_67 rfl rfl ?_
            refine k_iload f83_69 rfl ?_
            refine k_if_ne f83_70 (fun h_ => absurd (by decide) h_) (fun _ => ?_)
            refine k_aload f83_73 rfl ?_
            refine k_getr (q := 27) f83_74 hS.o0 rfl hR1.r0_6 ?_
            refine k_gI (w := zc.1 4) f83_77 hS.o27 rfl hz2.1.2.2.2.2.2.1 ?_
            refine k_aload f83_80 rfl ?_
            refine k_getr (q := 17) f83_81 hS.o0 rfl hR1.r0_5 ?_
            refine k_gI (w := I 62 4) f83_84 hS.o17 rfl ((hz2.2.2.2.2 17 2 (by omega) (by omega)).trans ((f1 17 2 (by omega)).trans hst.2.2.2.2.2.1)) ?_
            refine k_isub f83_87 ?_
            refine k_iret f83_88 rfl ⟨_, rfl, ?_⟩
            have hs2 : I2 62 = I 62 := funext fun k => (hz2.2.2.2.2 62 k (by omega) (by omega)).trans (f1 62 k (by omega))
            have kr2 : Kr I1 I2 := hz2.kr (Or.inr rfl)
            show zOk x 399 182 0 [.ref 51, .int (nI t), .int (nI D), .int (0), zU] [] _ _
            refine k_aload f182_0 rfl ?_
            refine k_getr (q := 62) f182_1 hS.o51 rfl hR1.r51_25 ?_
            refine k_iconst (v := 0) f182_4 rfl ?_
            refine k_ia (k := 0) (w := I 62 0) f182_5 hS.a62 rfl (by decide) (by decide) (congrFun hs2 _) ?_
            refine k_if_eq f182_6 (fun h_ => absurd h_ ((fun e => hT (by rw [e]; decide)))) (fun _ => ?_)
            refine k_aload f182_9 rfl ?_
            refine k_iload f182_10 rfl ?_
            refine e_v (as := [.int (nI t)]) (rest := []) f182_11 hS.o51 rfl rfl rfl (s_isRule (w := I 0 4) hS ((hz2.2.2.2.2 51 2 (by omega) (by omega)).trans ((f1 51 2 (by omega)).trans hN2))) ?_
            refine k_beq f182_14 (fun h_ => absurd (hr) h_) (fun _ => ?_)
            refine k_iload f182_17 rfl ?_
            refine k_i2l f182_18 ?_
            refine k_lconst (v := 0) f182_19 rfl ?_
            refine k_lconst (v := 400) f182_20 rfl ?_
            refine e_s (as := [.long (400), .long (0), .long ((nI D).toInt64)]) (rest := []) f182_23 rfl rfl rfl (s_in (0) (400) rfl rfl) ?_
            refine k_beq f182_26 (fun h_ => absurd (⟨g1, g2⟩) h_) (fun _ => ?_)
            refine k_iload f182_29 rfl ?_
            refine k_i2l f182_30 ?_
            refine k_lconst (v := 0) f182_31 rfl ?_
            refine k_lconst (v := 2) f182_32 rfl ?_
            refine e_s (as := [.long (2), .long (0), .long ((0 : Int32).toInt64)]) (rest := []) f182_35 rfl rfl rfl (s_in (0) (2) rfl rfl) ?_
            refine k_bne f182_38 (fun _ => ?_) (fun h_ => absurd (by decide) h_)
            refine k_aload f182_43 rfl ?_
            refine k_callv (as := []) (rest := []) f182_44 hS.o51 rfl rfl rfl rfl (q_keeps hR1 hS) ?_
            rintro _ _ ⟨rfl, I3, rfl, w3⟩
            refine k_aload f182_47 rfl ?_
            refine k_iconst (v := 0) f182_48 rfl ?_
            refine k_putI f182_49 hS.o51 rfl ?_
            refine k_iconst (v := 0) f182_52 rfl ?_
            refine k_istore (L' := [.ref 51, .int (nI t), .int (nI D), .int (0), .int (0)]) f182_53 rfl rfl ?_
            obtain ⟨I4, eI4⟩ : ∃ I4, I4 = z_u I3 51 26 0 := ⟨_, rfl⟩
            rw [← eI4]
            have f4 : ∀ p k, p ≠ 63 → ¬ (p = 51 ∧ k = 26) → I4 p k = I2 p k := fun p k h1 h2 => by rw [eI4, z_u_no _ _ h2]; exact w3.1 p k (by omega)
            have k63 : ∀ k, k < 139 → I4 63 k = I 62 k := fun k hk => by
              have a := w3.2 k hk
              rw [Nat.zero_add] at a
              rw [eI4, z_u_p _ _ _ _ (by omega), a, hs2]
            have hs4 : I4 62 = I 62 := (funext fun k => f4 62 k (by omega) (by omega)).trans hs2
            have kr4 : Kr I1 I4 := kr2.trans fun p k hp => f4 p k (by omega) (by omega)
            have eso4 : soB I4 t = soB I t := funext fun w => funext fun k => (soB_kr kr4 t w k).trans (soB_kr kr1 t w k)
            obtain ⟨zd, ezd⟩ : ∃ zd, zd = foL (fun _ => dD (soB I t) (cl (I 62 1)) (cl (I 62 2))) 0 D (I 62, 0) := ⟨_, rfl⟩
            have aed : AE (I 62) zd.1 := ezd ▸ dD_ae (by omega) D 0 (I 62, 0)
            have he := ahead_eq (so := soB I t) hO hD
            rw [← ezc, ← ezd] at he
            refine lp_ahead (I0 := I4) (t := t) (n := cl (I 62 1)) (m := cl (I 62 2)) (zf := zd) hR1 hS ht6 (hA1.kr kr4) (by rw [kr4 0 4 (by omega), kr1 0 4 (by omega)]; exact htl) (by omega) hD (fun I5 J5 hz5 => ?_) D 0 (I 62, 0) I4 _ (by omega) ⟨⟨hs4, by rw [eI4, z_u_same], hO.sw, AF.rfl, fun _ _ _ _ => rfl⟩, hO.2.1.1, hO.mw, by rw [eso4]; exact ezd.symm⟩
            refine k_iload f182_72 rfl ?_
            refine k_if_ne f182_73 (fun h_ => absurd (by decide) h_) (fun _ => ?_)
            refine k_aload f182_76 rfl ?_
            refine k_getr (q := 62) f182_77 hS.o51 rfl hR1.r51_25 ?_
            refine k_iconst (v := 4) f182_80 rfl ?_
            refine k_ia (k := 4) (w := zd.1 4) f182_81 hS.a62 rfl (by decide) (by decide) (congrFun hz5.1 4) ?_
            refine k_aload f182_82 rfl ?_
            refine k_getr (q := 63) f182_83 hS.o51 rfl hR1.r51_27 ?_
            refine k_iconst (v := 4) f182_86 rfl ?_
            refine k_ia (k := 4) (w := I 62 4) f182_87 hS.a63 rfl (by decide) (by decide) ((hz5.2.2.2.2 63 4 (by omega) (by omega)).trans (k63 4 (by omega))) ?_
            refine k_isub f182_88 ?_
            refine k_goto f182_89 ?_
            refine k_istore (L' := [.ref 51, .int (nI t), .int (nI D), .int (0), .int ((zd.1 4) - (I 62 4))]) f182_108 rfl rfl ?_
            refine k_aload f182_110 rfl ?_
            refine k_callv (as := []) (rest := []) f182_111 hS.o51 rfl rfl rfl rfl (q_putsBack hR1 hS) ?_
            rintro _ _ ⟨rfl, I6, rfl, w6⟩
            refine k_iload f182_114 rfl ?_
            refine k_iret f182_116 rfl ⟨congrArg (fun t => some (Value.int t)) (by rw [he.2.1]), ?_⟩
            exact eR1 ▸ inv_trial hI f1 hz2.2.2.2.2 f4 hz5.2.2.2.2 w6 k63 (fun k hk => by rw [hz5.1]; exact aed k (by omega))
          · show zOk x 399 83 0 [.ref 0, .int (nI t), .int (nI D), .int (1), zU, zU] [] _ _
            refine k_aload f83_0 rfl ?_
            refine k_iload f83_1 rfl ?_
            refine e_v (as := [.int (nI t)]) (rest := []) f83_2 hS.o0 rfl rfl rfl (s_ruleAt1 (t := t) hR hS ht6 hr.2 hr1) ?_
            refine k_astore (L' := [.ref 0, .int (nI t), .int (nI D), .int (1), .ref r, zU]) f83_5 rfl rfl ?_
            refine k_aload f83_7 rfl ?_
            refine k_nullr f83_9 ?_
            refine k_aload f83_12 rfl ?_
            refine e_v (as := []) (rest := []) f83_13 hS.o0 rfl rfl rfl (s_hasTown hR hS hst) ?_
            refine k_beq f83_16 (fun h_ => absurd (hT) h_) (fun _ => ?_)
            refine k_iload f83_19 rfl ?_
            refine k_if_lt f83_20 (fun h_ => absurd h_ (g1)) (fun _ => ?_)
            refine k_iload f83_23 rfl ?_
            refine k_iconst (v := 400) f83_24 rfl ?_
            refine k_ic_gt f83_27 (fun h_ => absurd h_ (g2)) (fun _ => ?_)
            refine k_iload f83_30 rfl ?_
            refine k_if_lt f83_31 (fun h_ => absurd h_ (by decide)) (fun _ => ?_)
            refine k_iload f83_34 rfl ?_
            refine k_iconst (v := 2) f83_35 rfl ?_
            refine k_ic_le f83_36 (fun _ => ?_) (fun h_ => absurd (by decide) h_)
            refine k_aload f83_41 rfl ?_
            refine k_getr (q := 27) f83_42 hS.o0 rfl hR.r0_6 ?_
            refine k_aload f83_45 rfl ?_
            refine k_getr (q := 17) f83_46 hS.o0 rfl hR.r0_5 ?_
            refine k_callv (as := [.ref 17]) (rest := []) f83_49 hS.o27 rfl rfl rfl rfl (q_trial hR hS hst hO.sw hO.2.1.1 (by omega)) ?_
            rintro _ _ ⟨rfl, I1, rfl, ht27, f1⟩
            obtain ⟨R1, eR1⟩ : ∃ R1, R1 = z_u R 27 0 (some pl) := ⟨_, rfl⟩
            rw [← eR1] at ht27 ⊢
            have hR1 : Rs R1 := eR1 ▸ rs27 hS hR _
            have kr1 : Kr I I1 := fun p k hp => f1 p k (by omega)
            have hA1 : RuA I1 R1 G := eR1 ▸ ra27 (hA.kr kr1) _
            have hru1 : RuR I1 R1 G t r := eR1 ▸ ru27 (hru.kr kr1) _
            have eso1 : soB I1 t = soB I t := funext fun w => funext fun k => soB_kr kr1 t w k
            refine k_aload f83_52 rfl ?_
            refine k_getr (q := 42) f83_53 hS.o0 rfl hR1.r0_10 ?_
            refine k_aload f83_56 rfl ?_
            refine k_getr (q := 27) f83_57 hS.o0 rfl hR1.r0_6 ?_
            refine k_aload f83_60 rfl ?_
            refine k_iload f83_62 rfl ?_
            refine k_iconst (v := 0) f83_63 rfl ?_
            refine k_callv (as := [.int (0), .int (nI D), .ref r, .ref 27]) (rest := []) f83_64 hS.o42 rfl rfl rfl rfl (q_goBy0 (st := 27) (z := (I 62, I1 42 1)) (P := I 62 0) (I0 := I1) hR1 hS (Or.inr rfl) hru1 (by omega) (by omega) hT hD ⟨ht27, rfl, hO.sw, AF.rfl, fun _ _ _ _ => rfl⟩ hO.2.1.1 hO.mw rfl) ?_
            rintro _ _ ⟨rfl, I2, J2, rfl, hz2⟩
            rw [eso1] at hz2 ⊢
            obtain ⟨zc, ezc⟩ : ∃ zc, zc = foL (fun _ => dC (soB I t) (cl (I 62 1)) (cl (I 62 2)) 0 0) 0 D (I 62, 0) := ⟨_, rfl⟩
            rw [← ezc] at hz2 ⊢
            have aec : AE (I 62) zc.1 := ezc ▸ dC_ae (by omega) D 0 (I 62, 0)
            refine k_istore (L' := [.ref 0, .int (nI t), .int (nI D), .int (1), .ref r, .int (zc.2)]) f83_67 rfl rfl ?_
            refine k_iload f83_69 rfl ?_
            refine k_if_ne f83_70 (fun _ => ?_) (fun h_ => absurd (by decide) h_)
            refine k_iload f83_89 rfl ?_
            refine k_iconst (v := 1) f83_90 rfl ?_
            refine k_ic_ne f83_91 (fun h_ => absurd (by decide) h_) (fun _ => ?_)
            refine k_aload f83_94 rfl ?_
            refine k_getr (q := 27) f83_95 hS.o0 rfl hR1.r0_6 ?_
            refine e_v (as := []) (rest := []) f83_98 hS.o27 rfl rfl rfl (s_voids (st := 27) hz2.1 ((aec 1 (by omega)).trans hO.2.1.1) (by omega)) ?_
            refine k_goto f83_101 ?_
            refine k_iret f83_106 rfl ⟨_, rfl, ?_⟩
            have hs2 : I2 62 = I 62 := funext fun k => (hz2.2.2.2.2 62 k (by omega) (by omega)).trans (f1 62 k (by omega))
            have kr2 : Kr I1 I2 := hz2.kr (Or.inr rfl)
            show zOk x 399 182 0 [.ref 51, .int (nI t), .int (nI D), .int (1), zU] [] _ _
            refine k_aload f182_0 rfl ?_
            refine k_getr (q := 62) f182_1 hS.o51 rfl hR1.r51_25 ?_
            refine k_iconst (v := 0) f182_4 rfl ?_
            refine k_ia (k := 0) (w := I 62 0) f182_5 hS.a62 rfl (by decide) (by decide) (congrFun hs2 _) ?_
            refine k_if_eq f182_6 (fun h_ => absurd h_ ((fun e => hT (by rw [e]; decide)))) (fun _ => ?_)
            refine k_aload f182_9 rfl ?_
            refine k_iload f182_10 rfl ?_
            refine e_v (as := [.int (nI t)]) (rest := []) f182_11 hS.o51 rfl rfl rfl (s_isRule (w := I 0 4) hS ((hz2.2.2.2.2 51 2 (by omega) (by omega)).trans ((f1 51 2 (by omega)).trans hN2))) ?_
            refine k_beq f182_14 (fun h_ => absurd (hr) h_) (fun _ => ?_)
            refine k_iload f182_17 rfl ?_
            refine k_i2l f182_18 ?_
            refine k_lconst (v := 0) f182_19 rfl ?_
            refine k_lconst (v := 400) f182_20 rfl ?_
            refine e_s (as := [.long (400), .long (0), .long ((nI D).toInt64)]) (rest := []) f182_23 rfl rfl rfl (s_in (0) (400) rfl rfl) ?_
            refine k_beq f182_26 (fun h_ => absurd (⟨g1, g2⟩) h_) (fun _ => ?_)
            refine k_iload f182_29 rfl ?_
            refine k_i2l f182_30 ?_
            refine k_lconst (v := 0) f182_31 rfl ?_
            refine k_lconst (v := 2) f182_32 rfl ?_
            refine e_s (as := [.long (2), .long (0), .long ((1 : Int32).toInt64)]) (rest := []) f182_35 rfl rfl rfl (s_in (0) (2) rfl rfl) ?_
            refine k_bne f182_38 (fun _ => ?_) (fun h_ => absurd (by decide) h_)
            refine k_aload f182_43 rfl ?_
            refine k_callv (as := []) (rest := []) f182_44 hS.o51 rfl rfl rfl rfl (q_keeps hR1 hS) ?_
            rintro _ _ ⟨rfl, I3, rfl, w3⟩
            refine k_aload f182_47 rfl ?_
            refine k_iconst (v := 0) f182_48 rfl ?_
            refine k_putI f182_49 hS.o51 rfl ?_
            refine k_iconst (v := 0) f182_52 rfl ?_
            refine k_istore (L' := [.ref 51, .int (nI t), .int (nI D), .int (1), .int (0)]) f182_53 rfl rfl ?_
            obtain ⟨I4, eI4⟩ : ∃ I4, I4 = z_u I3 51 26 0 := ⟨_, rfl⟩
            rw [← eI4]
            have f4 : ∀ p k, p ≠ 63 → ¬ (p = 51 ∧ k = 26) → I4 p k = I2 p k := fun p k h1 h2 => by rw [eI4, z_u_no _ _ h2]; exact w3.1 p k (by omega)
            have k63 : ∀ k, k < 139 → I4 63 k = I 62 k := fun k hk => by
              have a := w3.2 k hk
              rw [Nat.zero_add] at a
              rw [eI4, z_u_p _ _ _ _ (by omega), a, hs2]
            have hs4 : I4 62 = I 62 := (funext fun k => f4 62 k (by omega) (by omega)).trans hs2
            have kr4 : Kr I1 I4 := kr2.trans fun p k hp => f4 p k (by omega) (by omega)
            have eso4 : soB I4 t = soB I t := funext fun w => funext fun k => (soB_kr kr4 t w k).trans (soB_kr kr1 t w k)
            obtain ⟨zd, ezd⟩ : ∃ zd, zd = foL (fun _ => dD (soB I t) (cl (I 62 1)) (cl (I 62 2))) 0 D (I 62, 0) := ⟨_, rfl⟩
            have aed : AE (I 62) zd.1 := ezd ▸ dD_ae (by omega) D 0 (I 62, 0)
            have he := ahead_eq (so := soB I t) hO hD
            rw [← ezc, ← ezd] at he
            refine lp_ahead (I0 := I4) (t := t) (n := cl (I 62 1)) (m := cl (I 62 2)) (zf := zd) hR1 hS ht6 (hA1.kr kr4) (by rw [kr4 0 4 (by omega), kr1 0 4 (by omega)]; exact htl) (by omega) hD (fun I5 J5 hz5 => ?_) D 0 (I 62, 0) I4 _ (by omega) ⟨⟨hs4, by rw [eI4, z_u_same], hO.sw, AF.rfl, fun _ _ _ _ => rfl⟩, hO.2.1.1, hO.mw, by rw [eso4]; exact ezd.symm⟩
            refine k_iload f182_72 rfl ?_
            refine k_if_ne f182_73 (fun _ => ?_) (fun h_ => absurd (by decide) h_)
            refine k_iload f182_92 rfl ?_
            refine k_iconst (v := 1) f182_93 rfl ?_
            refine k_ic_ne f182_94 (fun h_ => absurd (by decide) h_) (fun _ => ?_)
            refine k_aload f182_97 rfl ?_
            refine e_v (as := []) (rest := []) f182_98 hS.o51 rfl rfl rfl (s_voidOnes hR1 hS hz5.1 ((aed 1 (by omega)).trans hO.2.1.1) (by omega)) ?_
            refine k_goto f182_101 ?_
            refine k_istore (L' := [.ref 51, .int (nI t), .int (nI D), .int (1), .int (acc (fV zd.1) (cl (I 62 1)))]) f182_108 rfl rfl ?_
            refine k_aload f182_110 rfl ?_
            refine k_callv (as := []) (rest := []) f182_111 hS.o51 rfl rfl rfl rfl (q_putsBack hR1 hS) ?_
            rintro _ _ ⟨rfl, I6, rfl, w6⟩
            refine k_iload f182_114 rfl ?_
            refine k_iret f182_116 rfl ⟨congrArg (fun t => some (Value.int t)) he.2.2, ?_⟩
            exact eR1 ▸ inv_trial hI f1 hz2.2.2.2.2 f4 hz5.2.2.2.2 w6 k63 (fun k hk => by rw [hz5.1]; exact aed k (by omega))
          · show zOk x 399 83 0 [.ref 0, .int (nI t), .int (nI D), .int (2), zU, zU] [] _ _
            refine k_aload f83_0 rfl ?_
            refine k_iload f83_1 rfl ?_
            refine e_v (as := [.int (nI t)]) (rest := []) f83_2 hS.o0 rfl rfl rfl (s_ruleAt1 (t := t) hR hS ht6 hr.2 hr1) ?_
            refine k_astore (L' := [.ref 0, .int (nI t), .int (nI D), .int (2), .ref r, zU]) f83_5 rfl rfl ?_
            refine k_aload f83_7 rfl ?_
            refine k_nullr f83_9 ?_
            refine k_aload f83_12 rfl ?_
            refine e_v (as := []) (rest := []) f83_13 hS.o0 rfl rfl rfl (s_hasTown hR hS hst) ?_
            refine k_beq f83_16 (fun h_ => absurd (hT) h_) (fun _ => ?_)
            refine k_iload f83_19 rfl ?_
            refine k_if_lt f83_20 (fun h_ => absurd h_ (g1)) (fun _ => ?_)
            refine k_iload f83_23 rfl ?_
            refine k_iconst (v := 400) f83_24 rfl ?_
            refine k_ic_gt f83_27 (fun h_ => absurd h_ (g2)) (fun _ => ?_)
            refine k_iload f83_30 rfl ?_
            refine k_if_lt f83_31 (fun h_ => absurd h_ (by decide)) (fun _ => ?_)
            refine k_iload f83_34 rfl ?_
            refine k_iconst (v := 2) f83_35 rfl ?_
            refine k_ic_le f83_36 (fun _ => ?_) (fun h_ => absurd (by decide) h_)
            refine k_aload f83_41 rfl ?_
            refine k_getr (q := 27) f83_42 hS.o0 rfl hR.r0_6 ?_
            refine k_aload f83_45 rfl ?_
            refine k_getr (q := 17) f83_46 hS.o0 rfl hR.r0_5 ?_
            refine k_callv (as := [.ref 17]) (rest := []) f83_49 hS.o27 rfl rfl rfl rfl (q_trial hR hS hst hO.sw hO.2.1.1 (by omega)) ?_
            rintro _ _ ⟨rfl, I1, rfl, ht27, f1⟩
            obtain ⟨R1, eR1⟩ : ∃ R1, R1 = z_u R 27 0 (some pl) := ⟨_, rfl⟩
            rw [← eR1] at ht27 ⊢
            have hR1 : Rs R1 := eR1 ▸ rs27 hS hR _
            have kr1 : Kr I I1 := fun p k hp => f1 p k (by omega)
            have hA1 : RuA I1 R1 G := eR1 ▸ ra27 (hA.kr kr1) _
            have hru1 : RuR I1 R1 G t r := eR1 ▸ ru27 (hru.kr kr1) _
            have eso1 : soB I1 t = soB I t := funext fun w => funext fun k => soB_kr kr1 t w k
            refine k_aload f83_52 rfl ?_
            refine k_getr (q := 42) f83_53 hS.o0 rfl hR1.r0_10 ?_
            refine k_aload f83_56 rfl ?_
            refine k_getr (q := 27) f83_57 hS.o0 rfl hR1.r0_6 ?_
            refine k_aload f83_60 rfl ?_
            refine k_iload f83_62 rfl ?_
            refine k_iconst (v := 0) f83_63 rfl ?_
            refine k_callv (as := [.int (0), .int (nI D), .ref r, .ref 27]) (rest := []) f83_64 hS.o42 rfl rfl rfl rfl (q_goBy0 (st := 27) (z := (I 62, I1 42 1)) (P := I 62 0) (I0 := I1) hR1 hS (Or.inr rfl) hru1 (by omega) (by omega) hT hD ⟨ht27, rfl, hO.sw, AF.rfl, fun _ _ _ _ => rfl⟩ hO.2.1.1 hO.mw rfl) ?_
            rintro _ _ ⟨rfl, I2, J2, rfl, hz2⟩
            rw [eso1] at hz2 ⊢
            obtain ⟨zc, ezc⟩ : ∃ zc, zc = foL (fun _ => dC (soB I t) (cl (I 62 1)) (cl (I 62 2)) 0 0) 0 D (I 62, 0) := ⟨_, rfl⟩
            rw [← ezc] at hz2 ⊢
            have aec : AE (I 62) zc.1 := ezc ▸ dC_ae (by omega) D 0 (I 62, 0)
            refine k_istore (L' := [.ref 0, .int (nI t), .int (nI D), .int (2), .ref r, .int (zc.2)]) f83_67 rfl rfl ?_
            refine k_iload f83_69 rfl ?_
            refine k_if_ne f83_70 (fun _ => ?_) (fun h_ => absurd (by decide) h_)
            refine k_iload f83_89 rfl ?_
            refine k_iconst (v := 1) f83_90 rfl ?_
            refine k_ic_ne f83_91 (fun _ => ?_) (fun h_ => absurd (by decide) h_)
            refine k_iload f83_104 rfl ?_
            refine k_iret f83_106 rfl ⟨_, rfl, ?_⟩
            have hs2 : I2 62 = I 62 := funext fun k => (hz2.2.2.2.2 62 k (by omega) (by omega)).trans (f1 62 k (by omega))
            have kr2 : Kr I1 I2 := hz2.kr (Or.inr rfl)
            show zOk x 399 182 0 [.ref 51, .int (nI t), .int (nI D), .int (2), zU] [] _ _
            refine k_aload f182_0 rfl ?_
            refine k_getr (q := 62) f182_1 hS.o51 rfl hR1.r51_25 ?_
            refine k_iconst (v := 0) f182_4 rfl ?_
            refine k_ia (k := 0) (w := I 62 0) f182_5 hS.a62 rfl (by decide) (by decide) (congrFun hs2 _) ?_
            refine k_if_eq f182_6 (fun h_ => absurd h_ ((fun e => hT (by rw [e]; decide)))) (fun _ => ?_)
            refine k_aload f182_9 rfl ?_
            refine k_iload f182_10 rfl ?_
            refine e_v (as := [.int (nI t)]) (rest := []) f182_11 hS.o51 rfl rfl rfl (s_isRule (w := I 0 4) hS ((hz2.2.2.2.2 51 2 (by omega) (by omega)).trans ((f1 51 2 (by omega)).trans hN2))) ?_
            refine k_beq f182_14 (fun h_ => absurd (hr) h_) (fun _ => ?_)
            refine k_iload f182_17 rfl ?_
            refine k_i2l f182_18 ?_
            refine k_lconst (v := 0) f182_19 rfl ?_
            refine k_lconst (v := 400) f182_20 rfl ?_
            refine e_s (as := [.long (400), .long (0), .long ((nI D).toInt64)]) (rest := []) f182_23 rfl rfl rfl (s_in (0) (400) rfl rfl) ?_
            refine k_beq f182_26 (fun h_ => absurd (⟨g1, g2⟩) h_) (fun _ => ?_)
            refine k_iload f182_29 rfl ?_
            refine k_i2l f182_30 ?_
            refine k_lconst (v := 0) f182_31 rfl ?_
            refine k_lconst (v := 2) f182_32 rfl ?_
            refine e_s (as := [.long (2), .long (0), .long ((2 : Int32).toInt64)]) (rest := []) f182_35 rfl rfl rfl (s_in (0) (2) rfl rfl) ?_
            refine k_bne f182_38 (fun _ => ?_) (fun h_ => absurd (by decide) h_)
            refine k_aload f182_43 rfl ?_
            refine k_callv (as := []) (rest := []) f182_44 hS.o51 rfl rfl rfl rfl (q_keeps hR1 hS) ?_
            rintro _ _ ⟨rfl, I3, rfl, w3⟩
            refine k_aload f182_47 rfl ?_
            refine k_iconst (v := 0) f182_48 rfl ?_
            refine k_putI f182_49 hS.o51 rfl ?_
            refine k_iconst (v := 0) f182_52 rfl ?_
            refine k_istore (L' := [.ref 51, .int (nI t), .int (nI D), .int (2), .int (0)]) f182_53 rfl rfl ?_
            obtain ⟨I4, eI4⟩ : ∃ I4, I4 = z_u I3 51 26 0 := ⟨_, rfl⟩
            rw [← eI4]
            have f4 : ∀ p k, p ≠ 63 → ¬ (p = 51 ∧ k = 26) → I4 p k = I2 p k := fun p k h1 h2 => by rw [eI4, z_u_no _ _ h2]; exact w3.1 p k (by omega)
            have k63 : ∀ k, k < 139 → I4 63 k = I 62 k := fun k hk => by
              have a := w3.2 k hk
              rw [Nat.zero_add] at a
              rw [eI4, z_u_p _ _ _ _ (by omega), a, hs2]
            have hs4 : I4 62 = I 62 := (funext fun k => f4 62 k (by omega) (by omega)).trans hs2
            have kr4 : Kr I1 I4 := kr2.trans fun p k hp => f4 p k (by omega) (by omega)
            have eso4 : soB I4 t = soB I t := funext fun w => funext fun k => (soB_kr kr4 t w k).trans (soB_kr kr1 t w k)
            obtain ⟨zd, ezd⟩ : ∃ zd, zd = foL (fun _ => dD (soB I t) (cl (I 62 1)) (cl (I 62 2))) 0 D (I 62, 0) := ⟨_, rfl⟩
            have aed : AE (I 62) zd.1 := ezd ▸ dD_ae (by omega) D 0 (I 62, 0)
            have he := ahead_eq (so := soB I t) hO hD
            rw [← ezc, ← ezd] at he
            refine lp_ahead (I0 := I4) (t := t) (n := cl (I 62 1)) (m := cl (I 62 2)) (zf := zd) hR1 hS ht6 (hA1.kr kr4) (by rw [kr4 0 4 (by omega), kr1 0 4 (by omega)]; exact htl) (by omega) hD (fun I5 J5 hz5 => ?_) D 0 (I 62, 0) I4 _ (by omega) ⟨⟨hs4, by rw [eI4, z_u_same], hO.sw, AF.rfl, fun _ _ _ _ => rfl⟩, hO.2.1.1, hO.mw, by rw [eso4]; exact ezd.symm⟩
            refine k_iload f182_72 rfl ?_
            refine k_if_ne f182_73 (fun _ => ?_) (fun h_ => absurd (by decide) h_)
            refine k_iload f182_92 rfl ?_
            refine k_iconst (v := 1) f182_93 rfl ?_
            refine k_ic_ne f182_94 (fun _ => ?_) (fun h_ => absurd (by decide) h_)
            refine k_aload f182_104 rfl ?_
            refine k_gI (w := zd.2) f182_105 hS.o51 rfl hz5.2.1 ?_
            refine k_istore (L' := [.ref 51, .int (nI t), .int (nI D), .int (2), .int (zd.2)]) f182_108 rfl rfl ?_
            refine k_aload f182_110 rfl ?_
            refine k_callv (as := []) (rest := []) f182_111 hS.o51 rfl rfl rfl rfl (q_putsBack hR1 hS) ?_
            rintro _ _ ⟨rfl, I6, rfl, w6⟩
            refine k_iload f182_114 rfl ?_
            refine k_iret f182_116 rfl ⟨congrArg (fun t => some (Value.int t)) he.1, ?_⟩
            exact eR1 ▸ inv_trial hI f1 hz2.2.2.2.2 f4 hz5.2.2.2.2 w6 k63 (fun k hk => by rw [hz5.1]; exact aed k (by omega))
    · show zOk x 399 83 0 [.ref 0, .int (nI t), .int (n), .int (what), zU, zU] [] _ _
      refine k_aload f83_0 rfl ?_
      refine k_iload f83_1 rfl ?_
      refine e_v (as := [.int (nI t)]) (rest := []) f83_2 hS.o0 rfl rfl rfl (s_ruleAt1 (t := t) hR hS ht6 hr.2 hr1) ?_
      refine k_astore (L' := [.ref 0, .int (nI t), .int (n), .int (what), .ref r, zU]) f83_5 rfl rfl ?_
      refine k_aload f83_7 rfl ?_
      refine k_nullr f83_9 ?_
      refine k_aload f83_12 rfl ?_
      refine e_v (as := []) (rest := []) f83_13 hS.o0 rfl rfl rfl (s_hasTown hR hS hst) ?_
      refine k_beq f83_16 (fun _ => ?_) (fun h_ => (absurd h_ (hT)))
      refine k_iconst (v := (-1)) f83_39 rfl ?_
      refine k_iret f83_40 rfl ⟨_, rfl, ?_⟩
      show zOk x 399 182 0 [.ref 51, .int (nI t), .int (n), .int (what), zU] [] _ _
      refine k_aload f182_0 rfl ?_
      refine k_getr (q := 62) f182_1 hS.o51 rfl hR.r51_25 ?_
      refine k_iconst (v := 0) f182_4 rfl ?_
      refine k_ia (k := 0) (w := I 62 0) f182_5 hS.a62 rfl (by decide) (by decide) rfl ?_
      refine k_if_eq f182_6 (fun _ => ?_) (fun h_ => absurd (so_z hO.1 (by omega) hT) h_)
      refine k_iconst (v := (-1)) f182_41 rfl ?_
      refine k_iret f182_42 rfl ⟨rfl, ?_⟩
      exact inv_q hI (by omega) Kq.rfl KS.rfl
  · show zOk x 399 83 0 [.ref 0, .int (rule), .int (n), .int (what), zU, zU] [] _ _
    refine k_aload f83_0 rfl ?_
    refine k_iload f83_1 rfl ?_
    refine e_v (as := [.int (rule)]) (rest := []) f83_2 hS.o0 rfl rfl rfl (s_ruleAt0 hS hr) ?_
    refine k_astoren (L' := [.ref 0, .int (rule), .int (n), .int (what), .null, zU]) f83_5 rfl rfl ?_
    refine k_aloadn f83_7 rfl ?_
    refine k_nulln f83_9 ?_
    refine k_iconst (v := (-1)) f83_39 rfl ?_
    refine k_iret f83_40 rfl ⟨_, rfl, ?_⟩
    show zOk x 399 182 0 [.ref 51, .int (rule), .int (n), .int (what), zU] [] _ _
    refine k_aload f182_0 rfl ?_
    refine k_getr (q := 62) f182_1 hS.o51 rfl hR.r51_25 ?_
    refine k_iconst (v := 0) f182_4 rfl ?_
    refine k_ia (k := 0) (w := I 62 0) f182_5 hS.a62 rfl (by decide) (by decide) rfl ?_
    refine k_if_eq f182_6 (fun g0 => ?_) (fun g0 => ?_)
    · refine k_iconst (v := (-1)) f182_41 rfl ?_
      refine k_iret f182_42 rfl ⟨rfl, ?_⟩
      exact inv_q hI (by omega) Kq.rfl KS.rfl
    · refine k_aload f182_9 rfl ?_
      refine k_iload f182_10 rfl ?_
      refine e_v (as := [.int (rule)]) (rest := []) f182_11 hS.o51 rfl rfl rfl (s_isRule (w := I 0 4) hS hN2) ?_
      refine k_beq f182_14 (fun _ => ?_) (fun h_ => (absurd h_ (hr)))
      refine k_iconst (v := (-1)) f182_41 rfl ?_
      refine k_iret f182_42 rfl ⟨rfl, ?_⟩
      exact inv_q hI (by omega) Kq.rfl KS.rfl
