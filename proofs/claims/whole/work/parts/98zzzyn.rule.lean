/-! RULE, the pair. -/
theorem op_rule {x : Nat × (Nat → Int32)} : Op Inv x 74 146 [] := by
  refine Op.of2 fun j I J R G hj hI => ?_
  have hS : Sh G := hI.1
  have hR : Rs R := hI.2.1
  have hT1 : Rg (I 9 1) 401 := hI.2.2.2.2.1.1
  have hT2 : I 51 1 = I 9 1 := hI.2.2.2.2.1.2.1
  have hN1 : Rg (I 0 4) 7 := hI.2.2.2.2.2.1.1
  have hN2 : I 51 2 = I 0 4 := hI.2.2.2.2.2.1.2.1
  have hN3 : ∀ t, t < cl (I 0 4) → ∃ r, R 16 t = some r ∧ RuR I R G t r := hI.2.2.2.2.2.1.2.2
  obtain ⟨pl, hst⟩ : ∃ pl, StR I R G 17 pl (I 62) := hI.2.2.2.2.2.2.1
  have hO : SOk (I 62) (cl (I 0 4)) := hI.2.2.2.2.2.2.2.1
  obtain ⟨hT, hn9, hn51⟩ := TpV.tp hI.2.2.2.2.1
  have htp : TpV I := hI.2.2.2.2.1
  obtain ⟨b, eb⟩ : ∃ b : Nat → Nat, b = fun k => cl (I 10 k) := ⟨_, rfl⟩
  obtain ⟨n, en⟩ : ∃ n, n = cl (I 9 1) := ⟨_, rfl⟩
  have hn9 : I 9 1 = nI n := by rw [en]; exact hn9
  have hn51 : I 51 1 = nI n := by rw [en]; exact hn51
  rw [← eb, ← en] at hT
  have hn400 := hT.1
  have n70 : 71 ≤ G.2.2.1 := hI.1.2
  have h3 : G.2.2.1 ≤ 71 + 20 * j := hI.2.2.1
  have h4 : G.2.2.2 ≤ 6106 + 1000 * j := hI.2.2.2.1
  obtain ⟨t, et⟩ : ∃ t, t = cl (I 0 4) := ⟨_, rfl⟩
  have e04 : I 0 4 = nI t := by rw [et]; exact hN1.1
  have t7 : t < 7 := by rw [et]; exact hN1.2
  have e51 : I 51 2 = nI t := hN2.trans e04
  by_cases h6 : t = 6
  · show zOk x 399 74 0 [.ref 0, zU] [] _ _
    refine k_aload f74_0 rfl ?_
    refine k_gI (w := nI t) f74_1 hS.o0 rfl e04 ?_
    refine k_iconst (v := 6) f74_4 rfl ?_
    refine k_ic_lt f74_6 (fun h_ => absurd h_ ((by rw [h6]; decide))) (fun _ => ?_)
    refine k_iconst (v := (-1)) f74_9 rfl ?_
    refine k_iret f74_10 rfl ⟨_, rfl, ?_⟩
    show zOk x 399 146 0 [.ref 51] [] _ _
    refine k_aload f146_0 rfl ?_
    refine k_gI (w := nI t) f146_1 hS.o51 rfl e51 ?_
    refine k_iconst (v := 6) f146_4 rfl ?_
    refine k_ic_ne f146_6 (fun h_ => absurd ((by rw [h6]; rfl)) h_) (fun _ => ?_)
    refine k_iconst (v := (-1)) f146_9 rfl ?_
    refine k_iret f146_10 rfl ⟨rfl, ?_⟩
    exact inv_q hI (by omega) Kq.rfl KS.rfl
  · have t6 : t < 6 := by omega
    cases hr : rdG (clR b n) b n 13 rs0 (bk b n 0) with
    | inl e =>
      show zOk x 399 74 0 [.ref 0, zU] [] _ _
      refine k_aload f74_0 rfl ?_
      refine k_gI (w := nI t) f74_1 hS.o0 rfl e04 ?_
      refine k_iconst (v := 6) f74_4 rfl ?_
      refine k_ic_lt f74_6 (fun _ => ?_) (fun h_ => absurd (nI_lt (b := 6) (by omega) (by omega)) h_)
      refine k_aload f74_11 rfl ?_
      refine k_getr (q := 12) f74_12 hS.o0 rfl hR.r0_2 ?_
      refine k_callv (as := []) (rest := []) f74_15 hS.o12 rfl rfl rfl rfl (q_readR (d := 369) hR hS hT hn9 ⟨by omega, by omega⟩) ?_
      rintro v1 _ ⟨I1, J1, R1, G1, rfl, f1, hv⟩
      rw [hr] at hv
      obtain ⟨rfl, h97, hRR, hGG⟩ := hv
      have hg : Gk G G1 := by rw [hGG]; exact Gk.rfl
      have f2 : ∀ p k, p < G.2.2.1 → R1 p k = R p k := fun p k _ => by rw [hRR]
      have hg1 : G1.2.2.1 = G.2.2.1 := by rw [hGG]
      have hg2 : G1.2.2.2 ≤ G.2.2.2 + 500 := by rw [hGG]; exact Nat.le_add_right _ _
      have hA1 : G1.2.2.1 ≤ 71 + 20 * (j + 1) := by omega
      have hA2 : G1.2.2.2 ≤ 6106 + 1000 * (j + 1) := Nat.le_trans hg2 (by omega)
      have hS1 : Sh G1 := hS.keep hg
      have hR1 : Rs R1 := fun q hq => (f2 _ _ (by have := (by decide : ∀ q ∈ rsL, q.1 < 71) q hq; omega)).trans (hR q hq)
      have k04 : I1 0 4 = nI t := (f1 0 4 (by omega) (by omega) (by omega) (by omega) (by omega) (by omega)).trans e04
      have k51 : I1 51 2 = nI t := (f1 51 2 (by omega) (by omega) (by omega) (by omega) (by omega) (by omega)).trans e51
      refine k_astoren (L' := [.ref 0, .null]) f74_18 rfl rfl ?_
      refine k_aload f74_19 rfl ?_
      refine k_getr (q := 9) f74_20 hS1.o0 rfl hR1.r0_0 ?_
      refine k_iconst (v := 0) f74_23 rfl ?_
      refine k_putI f74_24 hS1.o9 rfl ?_
      refine k_aloadn f74_27 rfl ?_
      refine k_nonn f74_28 ?_
      refine k_iconst (v := (-2)) f74_31 rfl ?_
      refine k_aload f74_33 rfl ?_
      refine k_getr (q := 9) f74_34 hS1.o0 rfl hR1.r0_0 ?_
      refine k_gI (w := nI e) f74_37 hS1.o9 rfl (Eq.trans (z_u_k _ _ _ (by decide)) h97) ?_
      refine k_isub f74_40 ?_
      refine k_iret f74_41 rfl ⟨_, rfl, ?_⟩
      show zOk x 399 146 0 [.ref 51] [] _ _
      refine k_aload f146_0 rfl ?_
      refine k_gI (w := nI t) f146_1 hS1.o51 rfl (Eq.trans (z_u_k _ _ _ (by decide)) k51) ?_
      refine k_iconst (v := 6) f146_4 rfl ?_
      refine k_ic_ne f146_6 (fun _ => ?_) (fun h_ => absurd ((fun z => h6 ((nI_eq (b := 6) (by omega) (by omega)).mp z))) h_)
      refine k_aload f146_11 rfl ?_
      refine k_aload f146_12 rfl ?_
      refine k_gI (w := nI t) f146_13 hS1.o51 rfl (Eq.trans (z_u_k _ _ _ (by decide)) k51) ?_
      refine k_putI f146_16 hS1.o51 rfl ?_
      refine k_aload f146_19 rfl ?_
      refine k_getr (q := 56) f146_20 hS1.o51 rfl hR1.r51_6 ?_
      refine k_aload f146_23 rfl ?_
      refine k_gI (w := nI t) f146_24 hS1.o51 rfl (z_u_same _ _ _ _) ?_
      refine k_iconst (v := 0) f146_27 rfl ?_
      refine k_is (k := t) f146_28 hS1.a56 rfl (by omega) (by decide) ?_
      obtain ⟨I6, eI6⟩ : ∃ I6, I6 = z_u (z_u (z_u I1 9 1 0) 51 16 (nI t)) 56 t 0 := ⟨_, rfl⟩
      rw [← eI6]
      have f6 : ∀ p k, ¬ (p = 51 ∧ k = 16) → ¬ (p = 9 ∧ k = 1) → ¬ (p = 56 ∧ k = t) → I6 p k = I1 p k := fun p k h1 h2 h3 => by rw [eI6, z_u_no _ _ (by omega), z_u_no _ _ (by omega), z_u_no _ _ (by omega)]
      have g6 : ∀ p k, p < G.2.2.1 → ¬ (p = 51 ∧ k = 16) → ¬ (9 ≤ p ∧ p ≤ 15 ∧ p ≠ 10) → ¬ (p = 56 ∧ k = t) → I6 p k = I p k := fun p k hp h1 h2 h3 => (f6 p k h1 (by omega) h3).trans (f1 p k hp (by omega) (by omega) (by omega) (by omega) (by omega))
      have hT6 : TP I6 b n := hT.keep (fun k => g6 10 k (by omega) (by omega) (by omega) (by omega) ) (fun k => g6 52 k (by omega) (by omega) (by omega) (by omega) )
      have m1 : I6 51 1 = nI n := (g6 51 1 (by omega) (by omega) (by omega) (by omega) ).trans hn51
      have m2 : I6 51 2 = nI t := (g6 51 2 (by omega) (by omega) (by omega) (by omega) ).trans e51
      have m16 : I6 51 16 = nI t := by rw [eI6, z_u_p _ _ _ _ (by decide), z_u_same]
      have m56 : I6 56 t = 0 := by rw [eI6, z_u_same]
      have m91 : I6 9 1 = 0 := by rw [eI6, z_u_p _ _ _ _ (by decide), z_u_p _ _ _ _ (by decide), z_u_same]
      refine k_aload f146_29 rfl ?_
      refine k_callv (as := []) (rest := []) f146_30 hS1.o51 rfl rfl rfl rfl (q_readsR (d := 387) (b := b) (n := n) (t := t) hR1 hS1 t6 hT6 m1 m16 m56) ?_
      rintro v7 _ ⟨I7, rfl, f7, t71, hv7⟩
      rw [hr] at hv7
      obtain ⟨rfl, hw7⟩ := hv7
      have m27 : I7 51 2 = nI t := (f7 51 2 (by omega) (by omega) (by omega) (by omega) (by omega) (by omega)).trans m2
      refine k_if_ne f146_33 (fun h_ => absurd (by decide) h_) (fun _ => ?_)
      refine k_iconst (v := (-2)) f146_36 rfl ?_
      refine k_aload f146_38 rfl ?_
      refine k_gI (w := nI e) f146_39 hS1.o51 rfl hw7 ?_
      refine k_isub f146_42 ?_
      refine k_iret f146_43 rfl ⟨rfl, ?_⟩
      have g7 : ∀ p k, p < G.2.2.1 → ¬ rc1 t p k → I7 p k = I p k := fun p k hp hc => by
        unfold rc1 at hc
        exact (f7 p k (by omega) (by omega) (by omega) (by omega) (by omega) (by omega)).trans (g6 p k hp (by omega) (by omega) (by omega))
      refine inv_rule (t := t) (t2 := t) hI et.symm hA1 hA2 hg g7 (fun p k hp _ => f2 p k hp) ⟨?_, ?_, fun k hk => ?_⟩ ?_ m27 (by omega) (Or.inl rfl)
      · rw [f7 9 1 (by omega) (by omega) (by omega) (by omega) (by omega) (by omega), m91]; exact Rg.of (n := 0) (by omega) (by omega)
      · rw [f7 9 1 (by omega) (by omega) (by omega) (by omega) (by omega) (by omega), m91]; exact t71
      · rw [f7 10 k (by omega) (by omega) (by omega) (by omega) (by omega) (by omega), g6 10 k (by omega) (by omega) (by omega) (by omega), f7 52 k (by omega) (by omega) (by omega) (by omega) (by omega) (by omega), g6 52 k (by omega) (by omega) (by omega) (by omega)]
        exact htp.2.2 k hk
      · exact (f7 0 4 (by omega) (by omega) (by omega) (by omega) (by omega) (by omega)).trans ((f6 0 4 (by omega) (by omega) (by omega)).trans k04)
    | inr s =>
      show zOk x 399 74 0 [.ref 0, zU] [] _ _
      refine k_aload f74_0 rfl ?_
      refine k_gI (w := nI t) f74_1 hS.o0 rfl e04 ?_
      refine k_iconst (v := 6) f74_4 rfl ?_
      refine k_ic_lt f74_6 (fun _ => ?_) (fun h_ => absurd (nI_lt (b := 6) (by omega) (by omega)) h_)
      refine k_aload f74_11 rfl ?_
      refine k_getr (q := 12) f74_12 hS.o0 rfl hR.r0_2 ?_
      refine k_callv (as := []) (rest := []) f74_15 hS.o12 rfl rfl rfl rfl (q_readR (d := 369) hR hS hT hn9 ⟨by omega, by omega⟩) ?_
      rintro v1 _ ⟨I1, J1, R1, G1, rfl, f1, hv⟩
      rw [hr] at hv
      obtain ⟨rfl, hg, hg1, hg2, f2, hru, hco, hks⟩ := hv
      have hA1 : G1.2.2.1 ≤ 71 + 20 * (j + 1) := by omega
      have hA2 : G1.2.2.2 ≤ 6106 + 1000 * (j + 1) := Nat.le_trans hg2 (by omega)
      have hS1 : Sh G1 := hS.keep hg
      have hR1 : Rs R1 := fun q hq => (f2 _ _ (by have := (by decide : ∀ q ∈ rsL, q.1 < 71) q hq; omega)).trans (hR q hq)
      have k04 : I1 0 4 = nI t := (f1 0 4 (by omega) (by omega) (by omega) (by omega) (by omega) (by omega)).trans e04
      have k51 : I1 51 2 = nI t := (f1 51 2 (by omega) (by omega) (by omega) (by omega) (by omega) (by omega)).trans e51
      refine k_astore (L' := [.ref 0, .ref (G.2.2.1 + 1)]) f74_18 rfl rfl ?_
      refine k_aload f74_19 rfl ?_
      refine k_getr (q := 9) f74_20 hS1.o0 rfl hR1.r0_0 ?_
      refine k_iconst (v := 0) f74_23 rfl ?_
      refine k_putI f74_24 hS1.o9 rfl ?_
      refine k_aload f74_27 rfl ?_
      refine k_nonr f74_28 ?_
      refine k_aload f74_42 rfl ?_
      refine k_getr (q := 16) f74_43 hS1.o0 rfl hR1.r0_3 ?_
      refine k_aload f74_46 rfl ?_
      refine k_gI (w := nI t) f74_47 hS1.o0 rfl (Eq.trans (z_u_k _ _ _ (by decide)) k04) ?_
      refine k_aload f74_50 rfl ?_
      refine k_aast (k := t) f74_51 hS1.a16 hru.2.1 rfl (vp_in_nI (by omega) (by omega)) (nI_clamp (by omega)) ?_
      obtain ⟨R4, eR4⟩ : ∃ R4, R4 = z_u R1 16 t (some (G.2.2.1 + 1)) := ⟨_, rfl⟩
      rw [← eR4]
      have hR4 : Rs R4 := by
        rw [eR4]
        refine hR1.u (fun q hq => ?_)
        have u : rsL.all (fun q => decide (¬ q.1 = 16)) = true := by decide +kernel
        exact fun z => (by simpa only [decide_eq_true_eq] using List.all_eq_true.mp u q hq : ¬ q.1 = 16) z.1
      refine k_aload f74_52 rfl ?_
      refine k_dup f74_53 ?_
      refine k_gI (w := nI t) f74_54 hS1.o0 rfl (Eq.trans (z_u_k _ _ _ (by decide)) k04) ?_
      refine k_iconst (v := 1) f74_57 rfl ?_
      refine k_iadd f74_58 ?_
      rw [nI_1 t]
      refine k_putI f74_59 hS1.o0 rfl ?_
      refine k_aload f74_62 rfl ?_
      refine k_gI (w := nI (t + 1)) f74_63 hS1.o0 rfl (z_u_same _ _ _ _) ?_
      refine k_iconst (v := 1) f74_66 rfl ?_
      refine k_isub f74_67 ?_
      refine k_iret f74_68 rfl ⟨_, rfl, ?_⟩
      show zOk x 399 146 0 [.ref 51] [] _ _
      refine k_aload f146_0 rfl ?_
      refine k_gI (w := nI t) f146_1 hS1.o51 rfl (Eq.trans (z_u_k _ _ _ (by decide)) (Eq.trans (z_u_k _ _ _ (by decide)) k51)) ?_
      refine k_iconst (v := 6) f146_4 rfl ?_
      refine k_ic_ne f146_6 (fun _ => ?_) (fun h_ => absurd ((fun z => h6 ((nI_eq (b := 6) (by omega) (by omega)).mp z))) h_)
      refine k_aload f146_11 rfl ?_
      refine k_aload f146_12 rfl ?_
      refine k_gI (w := nI t) f146_13 hS1.o51 rfl (Eq.trans (z_u_k _ _ _ (by decide)) (Eq.trans (z_u_k _ _ _ (by decide)) k51)) ?_
      refine k_putI f146_16 hS1.o51 rfl ?_
      refine k_aload f146_19 rfl ?_
      refine k_getr (q := 56) f146_20 hS1.o51 rfl hR4.r51_6 ?_
      refine k_aload f146_23 rfl ?_
      refine k_gI (w := nI t) f146_24 hS1.o51 rfl (z_u_same _ _ _ _) ?_
      refine k_iconst (v := 0) f146_27 rfl ?_
      refine k_is (k := t) f146_28 hS1.a56 rfl (by omega) (by decide) ?_
      obtain ⟨I6, eI6⟩ : ∃ I6, I6 = z_u (z_u (z_u (z_u I1 9 1 0) 0 4 (nI (t + 1))) 51 16 (nI t)) 56 t 0 := ⟨_, rfl⟩
      rw [← eI6]
      have f6 : ∀ p k, ¬ (p = 51 ∧ k = 16) → ¬ (p = 9 ∧ k = 1) → ¬ (p = 56 ∧ k = t) → ¬ (p = 0 ∧ k = 4) → I6 p k = I1 p k := fun p k h1 h2 h3 h4 => by rw [eI6, z_u_no _ _ (by omega), z_u_no _ _ (by omega), z_u_no _ _ (by omega), z_u_no _ _ (by omega)]
      have g6 : ∀ p k, p < G.2.2.1 → ¬ (p = 51 ∧ k = 16) → ¬ (9 ≤ p ∧ p ≤ 15 ∧ p ≠ 10) → ¬ (p = 56 ∧ k = t) → ¬ (p = 0 ∧ k = 4) → I6 p k = I p k := fun p k hp h1 h2 h3 h4 => (f6 p k h1 (by omega) h3 h4).trans (f1 p k hp (by omega) (by omega) (by omega) (by omega) (by omega))
      have hT6 : TP I6 b n := hT.keep (fun k => g6 10 k (by omega) (by omega) (by omega) (by omega) (by omega) ) (fun k => g6 52 k (by omega) (by omega) (by omega) (by omega) (by omega) )
      have m1 : I6 51 1 = nI n := (g6 51 1 (by omega) (by omega) (by omega) (by omega) (by omega) ).trans hn51
      have m2 : I6 51 2 = nI t := (g6 51 2 (by omega) (by omega) (by omega) (by omega) (by omega) ).trans e51
      have m16 : I6 51 16 = nI t := by rw [eI6, z_u_p _ _ _ _ (by decide), z_u_same]
      have m56 : I6 56 t = 0 := by rw [eI6, z_u_same]
      have m91 : I6 9 1 = 0 := by rw [eI6, z_u_p _ _ _ _ (by decide), z_u_p _ _ _ _ (by decide), z_u_p _ _ _ _ (by decide), z_u_same]
      have m04 : I6 0 4 = nI (t + 1) := by rw [eI6, z_u_p _ _ _ _ (by decide), z_u_p _ _ _ _ (by decide), z_u_same]
      refine k_aload f146_29 rfl ?_
      refine k_callv (as := []) (rest := []) f146_30 hS1.o51 rfl rfl rfl rfl (q_readsR (d := 387) (b := b) (n := n) (t := t) hR4 hS1 t6 hT6 m1 m16 m56) ?_
      rintro v7 _ ⟨I7, rfl, f7, t71, hv7⟩
      rw [hr] at hv7
      obtain ⟨rfl, hw7⟩ := hv7
      have m27 : I7 51 2 = nI t := (f7 51 2 (by omega) (by omega) (by omega) (by omega) (by omega) (by omega)).trans m2
      refine k_if_ne f146_33 (fun _ => ?_) (fun h_ => absurd (by decide) h_)
      refine k_aload f146_44 rfl ?_
      refine k_dup f146_45 ?_
      refine k_gI (w := nI t) f146_46 hS1.o51 rfl m27 ?_
      refine k_iconst (v := 1) f146_49 rfl ?_
      refine k_iadd f146_50 ?_
      rw [nI_1 t]
      refine k_putI f146_51 hS1.o51 rfl ?_
      refine k_aload f146_54 rfl ?_
      refine k_gI (w := nI (t + 1)) f146_55 hS1.o51 rfl (z_u_same _ _ _ _) ?_
      refine k_iconst (v := 1) f146_58 rfl ?_
      refine k_isub f146_59 ?_
      refine k_iret f146_60 rfl ⟨rfl, ?_⟩
      have e9 : ∀ p k, ¬ (p = 51 ∧ k = 2) → z_u I7 51 2 (nI (t + 1)) p k = I7 p k := fun p k h => z_u_no _ _ h
      have g7 : ∀ p k, p < G.2.2.1 → ¬ rc1 t p k → z_u I7 51 2 (nI (t + 1)) p k = I p k := fun p k hp hc => by
        unfold rc1 at hc
        rw [e9 p k (by omega)]
        exact (f7 p k (by omega) (by omega) (by omega) (by omega) (by omega) (by omega)).trans (g6 p k hp (by omega) (by omega) (by omega) (by omega))
      have gn : ∀ p k, G.2.2.1 ≤ p → z_u I7 51 2 (nI (t + 1)) p k = I1 p k := fun p k hp => by
        rw [e9 p k (by omega)]
        exact (f7 p k (by omega) (by omega) (by omega) (by omega) (by omega) (by omega)).trans (f6 p k (by omega) (by omega) (by omega) (by omega))
      have hrd := rdR_ok 13 (bk b n 0) rs0 s (bk_le (by omega)).2 rs0_ok (Nat.zero_le _) hr
      obtain ⟨⟨so1, so2, so3, so4, so5⟩, so6⟩ := hrd
      obtain ⟨q1, q2, q3, q4⟩ := hw7
      have q4 : RwD (z_u I7 51 2 (nI (t + 1))) t s.1 := q4.keep (fun p k a c => e9 p k (by omega))
      have hruv : RuV (z_u I7 51 2 (nI (t + 1))) t G.2.2.1 (G.2.2.1 + 2) (G.2.2.1 + 3) (catC s.1).length s.1.length := ru_new q4 so5 (by omega) (fun i hi => (gn _ _ (by omega)).trans (hco i hi)) (fun i hi => ⟨(gn _ _ (by omega)).trans (hks i hi).1, (gn _ _ (by omega)).trans (hks i hi).2⟩)
      obtain ⟨u0, u1, u2, u3, u4, u5⟩ := hru
      refine inv_rule (t := t) (t2 := t + 1) hI et.symm hA1 hA2 hg g7 (fun p k hp h => ?_) ⟨?_, ?_, fun k hk => ?_⟩ ?_ (z_u_same _ _ _ _) (by omega) (Or.inr ⟨rfl, G.2.2.1 + 1, by rw [eR4]; exact z_u_same _ _ _ _, G.2.2.1, G.2.2.1 + 2, G.2.2.1 + 3, _, _, ⟨u0, u1, ?_, ?_, ?_, u5⟩, hruv⟩)
      · rw [eR4, z_u_no _ _ h]
        exact f2 p k hp
      · rw [e9 9 1 (by omega), f7 9 1 (by omega) (by omega) (by omega) (by omega) (by omega) (by omega), m91]; exact Rg.of (n := 0) (by omega) (by omega)
      · rw [e9 9 1 (by omega), f7 9 1 (by omega) (by omega) (by omega) (by omega) (by omega) (by omega), m91, e9 51 1 (by omega)]; exact t71
      · rw [e9 10 k (by omega), e9 52 k (by omega), f7 10 k (by omega) (by omega) (by omega) (by omega) (by omega) (by omega), g6 10 k (by omega) (by omega) (by omega) (by omega) (by omega), f7 52 k (by omega) (by omega) (by omega) (by omega) (by omega) (by omega), g6 52 k (by omega) (by omega) (by omega) (by omega) (by omega)]
        exact htp.2.2 k hk
      · rw [e9 0 4 (by omega)]
        exact (f7 0 4 (by omega) (by omega) (by omega) (by omega) (by omega) (by omega)).trans m04
      · rw [eR4, z_u_p _ _ _ _ (by omega)]; exact u2
      · rw [eR4, z_u_p _ _ _ _ (by omega)]; exact u3
      · rw [eR4, z_u_p _ _ _ _ (by omega)]; exact u4
