/-! TOWN, the pair. -/
theorem op_town {x : Nat × (Nat → Int32)} : Op Inv x 73 147 [] := by
  refine Op.of2 fun j I J R G hj hI => ?_
  have hS : Sh G := hI.1
  have hR : Rs R := hI.2.1
  have hT1 : Rg (I 9 1) 401 := hI.2.2.2.2.1.1
  have hT2 : I 51 1 = I 9 1 := hI.2.2.2.2.1.2.1
  have hN1 : Rg (I 0 4) 7 := hI.2.2.2.2.2.1.1
  have hN2 : I 51 2 = I 0 4 := hI.2.2.2.2.2.1.2.1
  have hN3 : ∀ t, t < cl (I 0 4) → ∃ r, R 16 t = some r ∧ RuR I R G t r := hI.2.2.2.2.2.1.2.2
  obtain ⟨pl, hst⟩ : ∃ pl, StR I R G 17 pl (I 62) := hI.2.2.2.2.2.2.1
  have hO : SOk (I 62) (cl (I 0 4)) := hI.2.2.2.2.2.2.2.1
  obtain ⟨hT, hn9, hn51⟩ := TpV.tp hI.2.2.2.2.1
  have htp : TpV I := hI.2.2.2.2.1
  obtain ⟨b, eb⟩ : ∃ b : Nat → Nat, b = fun k => cl (I 10 k) := ⟨_, rfl⟩
  obtain ⟨n, en⟩ : ∃ n, n = cl (I 9 1) := ⟨_, rfl⟩
  have hn9 : I 9 1 = nI n := by rw [en]; exact hn9
  have hn51 : I 51 1 = nI n := by rw [en]; exact hn51
  rw [← eb, ← en] at hT
  have n70 : 71 ≤ G.2.2.1 := hI.1.2
  have h3 : G.2.2.1 ≤ 71 + 20 * j := hI.2.2.1
  have h4 : G.2.2.2 ≤ 6106 + 1000 * j := hI.2.2.2.1
  cases hr : rdT b n 41 ts0 (bk b n 0) with
  | inl e =>
    show zOk x 399 73 0 [.ref 0, zU] [] _ _
    refine k_aload f73_0 rfl ?_
    refine k_getr (q := 11) f73_1 hS.o0 rfl hR.r0_1 ?_
    refine k_callv (as := []) (rest := []) f73_4 hS.o11 rfl rfl rfl rfl (q_read (d := 391) hR hS hT hn9 (by omega) (by omega)) ?_
    rintro v1 _ ⟨I1, J1, R1, G1, rfl, f1, f2, hg, hg1, hg2, hv⟩
    rw [hr] at hv
    obtain ⟨rfl, hw⟩ := hv
    have hA1 : G1.2.2.1 ≤ 71 + 20 * (j + 1) := by omega
    have hA2 : G1.2.2.2 ≤ 6106 + 1000 * (j + 1) := Nat.le_trans hg2 (by omega)
    have hS1 : Sh G1 := hS.keep hg
    have hR1 : Rs R1 := fun q hq => (f2 _ _ (by have := (by decide : ∀ q ∈ rsL, q.1 < 71) q hq; omega)).trans (hR q hq)
    obtain ⟨pl1, epl⟩ : ∃ pl1, pl1 = G.2.2.1 := ⟨_, rfl⟩
    refine k_astoren (L' := [.ref 0, .null]) f73_7 rfl rfl ?_
    refine k_aload f73_8 rfl ?_
    refine k_getr (q := 9) f73_9 hS1.o0 rfl hR1.r0_0 ?_
    refine k_iconst (v := 0) f73_12 rfl ?_
    refine k_putI f73_13 hS1.o9 rfl ?_
    refine k_aloadn f73_16 rfl ?_
    refine k_nonn f73_17 ?_
    refine k_iconst (v := (-2)) f73_20 rfl ?_
    refine k_aload f73_22 rfl ?_
    refine k_getr (q := 9) f73_23 hS1.o0 rfl hR1.r0_0 ?_
    refine k_gI (w := nI e) f73_26 hS1.o9 rfl (Eq.trans (z_u_k _ _ _ (by decide)) hw) ?_
    refine k_isub f73_29 ?_
    refine k_iret f73_30 rfl ⟨_, rfl, ?_⟩
    show zOk x 399 147 0 [.ref 51, zU, zU, zU] [] _ _
    refine k_aload f147_0 rfl ?_
    refine k_iconst (v := 6) f147_1 rfl ?_
    refine k_putI f147_3 hS1.o51 rfl ?_
    refine k_aload f147_6 rfl ?_
    refine k_iconst (v := 0) f147_7 rfl ?_
    refine k_putI f147_8 hS1.o51 rfl ?_
    refine k_aload f147_11 rfl ?_
    refine k_iconst (v := (-1)) f147_12 rfl ?_
    refine k_putI f147_13 hS1.o51 rfl ?_
    refine k_aload f147_16 rfl ?_
    refine k_iconst (v := 0) f147_17 rfl ?_
    refine k_putI f147_18 hS1.o51 rfl ?_
    refine k_aload f147_21 rfl ?_
    refine k_iconst (v := 0) f147_22 rfl ?_
    refine k_putI f147_23 hS1.o51 rfl ?_
    obtain ⟨I6, eI6⟩ : ∃ I6, I6 = z_u (z_u (z_u (z_u (z_u (z_u I1 9 1 0) 51 16 6) 51 7 0) 51 8 (-1)) 51 9 0) 51 10 0 := ⟨_, rfl⟩
    rw [← eI6]
    have f6 : ∀ p k, ¬ (p = 51 ∧ 7 ≤ k ∧ k ≤ 16) → ¬ (p = 9 ∧ k = 1) → I6 p k = I1 p k := fun p k h1 h2 => by rw [eI6, z_u_no _ _ (by omega), z_u_no _ _ (by omega), z_u_no _ _ (by omega), z_u_no _ _ (by omega), z_u_no _ _ (by omega), z_u_no _ _ (by omega)]
    have g6 : ∀ p k, p < G.2.2.1 → ¬ (p = 51 ∧ 7 ≤ k ∧ k ≤ 16) → p ≠ 9 → p ≠ 11 → I6 p k = I p k := fun p k hp h1 h2 h3 => (f6 p k h1 (by omega)).trans (f1 p k hp h2 h3)
    have hT6 : TP I6 b n := hT.keep (fun k => g6 10 k (by omega) (by omega) (by omega) (by omega)) (fun k => g6 52 k (by omega) (by omega) (by omega) (by omega))
    have m1 : I6 51 1 = nI n := (g6 51 1 (by omega) (by omega) (by omega) (by omega)).trans hn51
    have m16 : I6 51 16 = 6 := by rw [eI6]; simp [z_u]
    have m7 : I6 51 7 = 0 := by rw [eI6]; simp [z_u]
    have m8 : I6 51 8 = -1 := by rw [eI6]; simp [z_u]
    have m9 : I6 51 9 = 0 := by rw [eI6]; simp [z_u]
    have m10 : I6 51 10 = 0 := by rw [eI6]; simp [z_u]
    have m91 : I6 9 1 = 0 := by rw [eI6, z_u_p _ _ _ _ (by decide), z_u_p _ _ _ _ (by decide), z_u_p _ _ _ _ (by decide), z_u_p _ _ _ _ (by decide), z_u_p _ _ _ _ (by decide), z_u_same]
    refine k_aload f147_26 rfl ?_
    refine k_callv (as := []) (rest := []) f147_27 hS1.o51 rfl rfl rfl rfl (q_readsT (d := 393) (b := b) (n := n) hR1 hS1 hT6 m1 m16 m7 m8 m9 m10) ?_
    rintro v7 _ ⟨I7, rfl, f7, t71, hv7⟩
    rw [hr] at hv7
    obtain ⟨rfl, hw7⟩ := hv7
    refine k_if_ne f147_30 (fun h_ => absurd (by decide) h_) (fun _ => ?_)
    refine k_iconst (v := (-2)) f147_33 rfl ?_
    refine k_aload f147_35 rfl ?_
    refine k_gI (w := nI e) f147_36 hS1.o51 rfl hw7 ?_
    refine k_isub f147_39 ?_
    refine k_iret f147_40 rfl ⟨rfl, ?_⟩
    have g7 : ∀ p k, p < G.2.2.1 → ¬ (p = 51 ∧ (k = 1 ∨ (7 ≤ k ∧ k ≤ 19))) → p ≠ 9 → p ≠ 11 → p ≠ 54 → p ≠ 57 → p ≠ 58 → I7 p k = I p k := fun p k hp h1 h2 h3 h4 h5 h6 => (f7 p k (by omega) h4 h5 h6).trans (g6 p k hp (by omega) h2 h3)
    have hst9 := hst
    refine inv_of hI hA1 hA2 hg (fun p k hp hs => ?_) (fun p k hp _ _ => f2 p k hp) ⟨?_, ?_, fun k hk => ?_⟩ ⟨pl, ?_⟩ ?_
    · unfold sc1 at hs
      exact g7 p k hp (by omega) (by omega) (by omega) (by omega) (by omega) (by omega)
    · rw [f7 9 1 (by omega) (by omega) (by omega) (by omega), m91]; exact Rg.of (n := 0) (by omega) (by omega)
    · rw [f7 9 1 (by omega) (by omega) (by omega) (by omega), m91]; exact t71
    · rw [g7 10 k (by omega) (by omega) (by omega) (by omega) (by omega) (by omega) (by omega), g7 52 k (by omega) (by omega) (by omega) (by omega) (by omega) (by omega) (by omega)]
      exact htp.2.2 k hk
    · rw [show I7 62 = I 62 from funext fun k => g7 62 k (by omega) (by omega) (by omega) (by omega) (by omega) (by omega) (by omega)]
      have hpl := hst.2.2.1.1
      have hn9' := hO.2.1.2
      exact hst.keep (by omega) hg (fun p k hp hq => g7 p k hp (by omega) (by omega) (by omega) (by omega) (by omega) (by omega)) (fun p k hp hq => f2 p k hp)
    · rw [show I7 62 = I 62 from funext fun k => g7 62 k (by omega) (by omega) (by omega) (by omega) (by omega) (by omega) (by omega)]
      exact hO
  | inr s =>
    have ho := rdT_ok 41 (bk b n 0) ts0 s (bk_le (by omega)).2 ts0_ok hr
    obtain ⟨P, y, ⟨c, cf⟩, ⟨m, mf⟩, ln⟩ := s
    have o3 : y ≤ 999 := ho.2.2.1
    have o4 : c ≤ 8 := ho.2.2.2.1
    have o5 : m ≤ 24 := ho.2.2.2.2.1
    by_cases hy : y = 0
    · show zOk x 399 73 0 [.ref 0, zU] [] _ _
      refine k_aload f73_0 rfl ?_
      refine k_getr (q := 11) f73_1 hS.o0 rfl hR.r0_1 ?_
      refine k_callv (as := []) (rest := []) f73_4 hS.o11 rfl rfl rfl rfl (q_read (d := 391) hR hS hT hn9 (by omega) (by omega)) ?_
      rintro v1 _ ⟨I1, J1, R1, G1, rfl, f1, f2, hg, hg1, hg2, hv⟩
      rw [hr] at hv
      obtain ⟨rfl, hw⟩ := hv
      have hA1 : G1.2.2.1 ≤ 71 + 20 * (j + 1) := by omega
      have hA2 : G1.2.2.2 ≤ 6106 + 1000 * (j + 1) := Nat.le_trans hg2 (by omega)
      have hS1 : Sh G1 := hS.keep hg
      have hR1 : Rs R1 := fun q hq => (f2 _ _ (by have := (by decide : ∀ q ∈ rsL, q.1 < 71) q hq; omega)).trans (hR q hq)
      obtain ⟨pl1, epl⟩ : ∃ pl1, pl1 = G.2.2.1 := ⟨_, rfl⟩
      rw [← epl] at hw ⊢
      refine k_astore (L' := [.ref 0, .ref pl1]) f73_7 rfl rfl ?_
      refine k_aload f73_8 rfl ?_
      refine k_getr (q := 9) f73_9 hS1.o0 rfl hR1.r0_0 ?_
      refine k_iconst (v := 0) f73_12 rfl ?_
      refine k_putI f73_13 hS1.o9 rfl ?_
      refine k_aload f73_16 rfl ?_
      refine k_nonr f73_17 ?_
      refine k_aload f73_31 rfl ?_
      refine k_getr (q := 17) f73_32 hS1.o0 rfl hR1.r0_5 ?_
      refine k_aload f73_35 rfl ?_
      refine k_callv (as := [.ref pl1]) (rest := []) f73_36 hS1.o17 rfl rfl rfl rfl (q_beginS (d := 396) (pl := pl1) (c := c) hR1 hS1 hw.1 hw.2.1 o4 ((z_u_p _ _ _ _ (by omega)).trans hw.2.2.2.2.1)) ?_
      rintro _ _ ⟨rfl, I4, rfl, hB⟩
      obtain ⟨R4, eR4⟩ : ∃ R4, R4 = z_u R1 17 0 (some pl1) := ⟨_, rfl⟩
      rw [← eR4]
      have hR4 : Rs R4 := by
        rw [eR4]
        refine hR1.u (fun q hq => ?_)
        have t : rsL.all (fun q => decide (¬ (q.1 = 17 ∧ q.2.1 = 0))) = true := by decide +kernel
        simpa only [decide_eq_true_eq] using List.all_eq_true.mp t q hq
      have b4 : ∀ p k, ¬ (19 ≤ p ∧ p < 19 + c) → ¬ (p = 17 ∧ (k = 1 ∨ k = 2)) → ¬ (p = 9 ∧ k = 1) → I4 p k = I1 p k := fun p k h1 h2 h3 => by rw [hB.1 p k h1, z_u_no _ _ (by omega), z_u_no _ _ (by omega), z_u_no _ _ (by omega)]
      refine k_aload f73_39 rfl ?_
      refine k_gI (w := nI c) f73_40 hw.1.1 rfl ((b4 _ _ (by have := hw.2.1; omega) (by have := hw.2.1; omega) (by have := hw.2.1; omega)).trans hw.2.2.2.2.1) ?_
      refine k_iret f73_43 rfl ⟨_, rfl, ?_⟩
      show zOk x 399 147 0 [.ref 51, zU, zU, zU] [] _ _
      refine k_aload f147_0 rfl ?_
      refine k_iconst (v := 6) f147_1 rfl ?_
      refine k_putI f147_3 hS1.o51 rfl ?_
      refine k_aload f147_6 rfl ?_
      refine k_iconst (v := 0) f147_7 rfl ?_
      refine k_putI f147_8 hS1.o51 rfl ?_
      refine k_aload f147_11 rfl ?_
      refine k_iconst (v := (-1)) f147_12 rfl ?_
      refine k_putI f147_13 hS1.o51 rfl ?_
      refine k_aload f147_16 rfl ?_
      refine k_iconst (v := 0) f147_17 rfl ?_
      refine k_putI f147_18 hS1.o51 rfl ?_
      refine k_aload f147_21 rfl ?_
      refine k_iconst (v := 0) f147_22 rfl ?_
      refine k_putI f147_23 hS1.o51 rfl ?_
      obtain ⟨I6, eI6⟩ : ∃ I6, I6 = z_u (z_u (z_u (z_u (z_u I4 51 16 6) 51 7 0) 51 8 (-1)) 51 9 0) 51 10 0 := ⟨_, rfl⟩
      rw [← eI6]
      have f6 : ∀ p k, ¬ (p = 51 ∧ 7 ≤ k ∧ k ≤ 16) → I6 p k = I4 p k := fun p k h1 => by rw [eI6, z_u_no _ _ (by omega), z_u_no _ _ (by omega), z_u_no _ _ (by omega), z_u_no _ _ (by omega), z_u_no _ _ (by omega)]
      have g6 : ∀ p k, p < G.2.2.1 → ¬ (p = 51 ∧ 7 ≤ k ∧ k ≤ 16) → p ≠ 9 → p ≠ 11 → ¬ (19 ≤ p ∧ p < 19 + c) → ¬ (p = 17 ∧ (k = 1 ∨ k = 2)) → I6 p k = I p k := fun p k hp h1 h2 h3 h4 h5 => (f6 p k h1).trans ((b4 p k h4 h5 (by omega)).trans (f1 p k hp h2 h3))
      have hT6 : TP I6 b n := hT.keep (fun k => g6 10 k (by omega) (by omega) (by omega) (by omega) (by omega) (by omega)) (fun k => g6 52 k (by omega) (by omega) (by omega) (by omega) (by omega) (by omega))
      have m1 : I6 51 1 = nI n := (g6 51 1 (by omega) (by omega) (by omega) (by omega) (by omega) (by omega)).trans hn51
      have m16 : I6 51 16 = 6 := by rw [eI6]; simp [z_u]
      have m7 : I6 51 7 = 0 := by rw [eI6]; simp [z_u]
      have m8 : I6 51 8 = -1 := by rw [eI6]; simp [z_u]
      have m9 : I6 51 9 = 0 := by rw [eI6]; simp [z_u]
      have m10 : I6 51 10 = 0 := by rw [eI6]; simp [z_u]
      have m91 : I6 9 1 = 0 := by rw [f6 9 1 (by omega), hB.1 9 1 (by omega), z_u_p _ _ _ _ (by decide), z_u_p _ _ _ _ (by decide), z_u_same]
      refine k_aload f147_26 rfl ?_
      refine k_callv (as := []) (rest := []) f147_27 hS1.o51 rfl rfl rfl rfl (q_readsT (d := 393) (b := b) (n := n) hR4 hS1 hT6 m1 m16 m7 m8 m9 m10) ?_
      rintro v7 _ ⟨I7, rfl, f7, t71, hv7⟩
      rw [hr] at hv7
      obtain ⟨rfl, hw7⟩ := hv7
      obtain ⟨w7, w8, w9, w10, w16, w19, wc7, wm7⟩ := hw7
      have w7 : I7 51 7 = nI P := w7
      have w8 : I7 51 8 = (if y = 0 then -1 else nI y) := w8
      have w9 : I7 51 9 = nI c := w9
      have w10 : I7 51 10 = nI m := w10
      refine k_if_ne f147_30 (fun _ => ?_) (fun h_ => absurd (by decide) h_)
      refine k_aload f147_41 rfl ?_
      refine k_getr (q := 62) f147_42 hS1.o51 rfl hR4.r51_25 ?_
      refine k_iconst (v := 0) f147_45 rfl ?_
      refine k_aload f147_46 rfl ?_
      refine k_gI (w := nI P) f147_47 hS1.o51 rfl w7 ?_
      refine k_is (k := 0) f147_50 hS1.a62 rfl (by decide) (by decide) ?_
      refine k_aload f147_51 rfl ?_
      refine k_getr (q := 62) f147_52 hS1.o51 rfl hR4.r51_25 ?_
      refine k_iconst (v := 1) f147_55 rfl ?_
      refine k_aload f147_56 rfl ?_
      refine k_gI (w := nI c) f147_57 hS1.o51 rfl (Eq.trans (z_u_k _ _ _ (by decide)) w9) ?_
      refine k_is (k := 1) f147_60 hS1.a62 rfl (by decide) (by decide) ?_
      refine k_aload f147_61 rfl ?_
      refine k_getr (q := 62) f147_62 hS1.o51 rfl hR4.r51_25 ?_
      refine k_iconst (v := 2) f147_65 rfl ?_
      refine k_aload f147_66 rfl ?_
      refine k_gI (w := nI m) f147_67 hS1.o51 rfl (Eq.trans (z_u_k _ _ _ (by decide)) (Eq.trans (z_u_k _ _ _ (by decide)) w10)) ?_
      refine k_is (k := 2) f147_70 hS1.a62 rfl (by decide) (by decide) ?_
      refine k_aload f147_71 rfl ?_
      refine k_getr (q := 62) f147_72 hS1.o51 rfl hR4.r51_25 ?_
      refine k_iconst (v := 3) f147_75 rfl ?_
      refine k_iconst (v := 0) f147_76 rfl ?_
      refine k_is (k := 3) f147_77 hS1.a62 rfl (by decide) (by decide) ?_
      refine k_aload f147_78 rfl ?_
      refine k_getr (q := 62) f147_79 hS1.o51 rfl hR4.r51_25 ?_
      refine k_iconst (v := 4) f147_82 rfl ?_
      refine k_iconst (v := 0) f147_83 rfl ?_
      refine k_is (k := 4) f147_84 hS1.a62 rfl (by decide) (by decide) ?_
      refine k_aload f147_85 rfl ?_
      refine k_getr (q := 62) f147_86 hS1.o51 rfl hR4.r51_25 ?_
      refine k_iconst (v := 7) f147_89 rfl ?_
      refine k_aload f147_91 rfl ?_
      refine k_gI (w := (-1)) f147_92 hS1.o51 rfl (Eq.trans (z_u_k _ _ _ (by decide)) (Eq.trans (z_u_k _ _ _ (by decide)) (Eq.trans (z_u_k _ _ _ (by decide)) (Eq.trans (z_u_k _ _ _ (by decide)) (Eq.trans (z_u_k _ _ _ (by decide)) (w8.trans (if_pos hy))))))) ?_
      refine k_if_ge f147_95 (fun h_ => absurd h_ (by decide)) (fun _ => ?_)
      refine k_iconst (v := 365) f147_98 rfl ?_
      refine k_goto f147_101 ?_
      refine k_is (k := 7) f147_108 hS1.a62 rfl (by decide) (by decide) ?_
      refine k_iconst (v := 0) f147_109 rfl ?_
      refine k_istore (L' := [.ref 51, .int (0), zU, zU]) f147_110 rfl rfl ?_
      obtain ⟨I8, eI8⟩ : ∃ I8, I8 = z_u (z_u (z_u (z_u (z_u (z_u I7 62 0 (nI P)) 62 1 (nI c)) 62 2 (nI m)) 62 3 0) 62 4 0) 62 7 365 := ⟨_, rfl⟩
      rw [← eI8]
      have f8 : ∀ p k, ¬ (p = 62 ∧ (k ≤ 4 ∨ k = 7)) → I8 p k = I7 p k := fun p k h => by rw [eI8, z_u_no _ _ (by omega), z_u_no _ _ (by omega), z_u_no _ _ (by omega), z_u_no _ _ (by omega), z_u_no _ _ (by omega), z_u_no _ _ (by omega)]
      have q0 : I8 62 0 = nI P := by rw [eI8, z_u_k _ _ _ (by decide), z_u_k _ _ _ (by decide), z_u_k _ _ _ (by decide), z_u_k _ _ _ (by decide), z_u_k _ _ _ (by decide), z_u_same]
      have q1 : I8 62 1 = nI c := by rw [eI8, z_u_k _ _ _ (by decide), z_u_k _ _ _ (by decide), z_u_k _ _ _ (by decide), z_u_k _ _ _ (by decide), z_u_same]
      have q2 : I8 62 2 = nI m := by rw [eI8, z_u_k _ _ _ (by decide), z_u_k _ _ _ (by decide), z_u_k _ _ _ (by decide), z_u_same]
      have q3 : I8 62 3 = 0 := by rw [eI8, z_u_k _ _ _ (by decide), z_u_k _ _ _ (by decide), z_u_same]
      have q4 : I8 62 4 = 0 := by rw [eI8, z_u_k _ _ _ (by decide), z_u_same]
      have q7 : I8 62 7 = nI (if y = 0 then 365 else y) := by rw [eI8, z_u_same, if_pos hy]; rfl
      refine lp_tCoins (I0 := I8) (c := c) hR4 hS1 o4 ((f8 _ _ (by omega)).trans w9) (fun I9 u2 u3 hc9 => ?_) c 0 I8 _ _ (by omega) ⟨fun _ _ _ => rfl, fun j hj => absurd hj (Nat.not_lt_zero _)⟩
      refine k_iconst (v := 0) f147_202 rfl ?_
      refine k_istore (L' := [.ref 51, .int (0), u2, u3]) f147_203 rfl rfl ?_
      refine lp_tMeets (I0 := I9) (m := m) hR4 hS1 o5 ((hc9.1 _ _ (by omega)).trans ((f8 _ _ (by omega)).trans w10)) (fun Ia hma => ?_) (3 * m) 0 I9 (by omega) ⟨fun _ _ _ => rfl, fun j hj => absurd hj (Nat.not_lt_zero _)⟩
      refine k_iconst (v := 0) f147_235 rfl ?_
      refine k_istore (L' := [.ref 51, .int (0), u2, u3]) f147_236 rfl rfl ?_
      refine lp_tTold (I0 := Ia) hR4 hS1 (fun Ib htb => ?_) 8 0 Ia (by omega) ⟨fun _ _ _ => rfl, fun j hj => absurd hj (Nat.not_lt_zero _)⟩
      have x62 : ∀ p k, p ≠ 62 → Ib p k = I7 p k := fun p k h => (htb.1 p k (by omega)).trans ((hma.1 p k (by omega)).trans ((hc9.1 p k (by omega)).trans (f8 p k (by omega))))
      have xlo : ∀ k, k < 8 → Ib 62 k = I8 62 k := fun k h => (htb.1 _ k (by omega)).trans ((hma.1 _ k (by omega)).trans (hc9.1 _ k (by omega)))
      have c57 : ∀ k, I8 57 k = I7 57 k := fun k => f8 _ _ (by omega)
      have m58 : ∀ k, I9 58 k = I7 58 k := fun k => (hc9.1 _ _ (by omega)).trans (f8 _ _ (by omega))
      refine k_aload f147_260 rfl ?_
      refine k_gI (w := nI c) f147_261 hS1.o51 rfl ((x62 51 9 (by omega)).trans w9) ?_
      refine k_iret f147_264 rfl ⟨rfl, ?_⟩
      have e17 : ∀ k, Ib 17 k = I4 17 k := fun k => (x62 17 k (by omega)).trans ((f7 17 k (by omega) (by omega) (by omega) (by omega)).trans (f6 17 k (by omega)))
      have ebig : ∀ p k, 71 ≤ p → Ib p k = I1 p k := fun p k h => (x62 p k (by omega)).trans ((f7 p k (by omega) (by omega) (by omega) (by omega)).trans ((f6 p k (by omega)).trans (b4 p k (by omega) (by omega) (by omega))))
      have e19 : ∀ i k, i < c → Ib (19 + i) k = I4 (19 + i) k := fun i k h => (x62 _ k (by omega)).trans ((f7 _ k (by omega) (by omega) (by omega) (by omega)).trans (f6 _ k (by omega)))
      have h71 := hw.2.1
      have gb : ∀ p k, p < G.2.2.1 → ¬ (p = 51 ∧ (k = 1 ∨ (7 ≤ k ∧ k ≤ 19))) → p ≠ 9 → p ≠ 11 → p ≠ 54 → p ≠ 57 → p ≠ 58 → p ≠ 62 → ¬ (19 ≤ p ∧ p < 27) → ¬ (p = 17 ∧ (k = 1 ∨ k = 2)) → Ib p k = I p k := fun p k hp h1 h2 h3 h4 h5 h6 h7 h8 h9 => (x62 p k h7).trans ((f7 p k (by omega) h4 h5 h6).trans (g6 p k hp (by omega) h2 h3 (by omega) h9))
      have ibI : ∀ p k, z_u (z_u (z_u I1 9 1 0) 17 1 0) 17 2 0 (pl1 + p) k = I1 (pl1 + p) k := fun p k => by rw [z_u_p _ _ _ _ (by omega), z_u_p _ _ _ _ (by omega), z_u_p _ _ _ _ (by omega)]
      refine inv_town (pl := pl1) (P := P) (y := y) (c := c) (m := m) (ln := ln) (cf := cf) (mf := mf) hI hA1 hA2 hg (fun p k hp hs => ?_) (fun p k hp h => ?_) ⟨?_, ?_, fun k hk => ?_⟩ h71 (by rw [eR4]; exact z_u_same _ _ _ _) ?_ ho ((xlo 0 (by omega)).trans q0) ((xlo 1 (by omega)).trans q1) ((xlo 2 (by omega)).trans q2) ((xlo 3 (by omega)).trans q3) ?_ ?_ ((xlo 7 (by omega)).trans q7) (fun i hi => ?_) (fun i hi => ?_) (fun i hi => htb.2 i hi) ((ebig _ _ (by omega)).trans hw.2.2.1) ((ebig _ _ (by omega)).trans hw.2.2.2.1) ((ebig _ _ (by omega)).trans hw.2.2.2.2.1) ((ebig _ _ (by omega)).trans hw.2.2.2.2.2.1) (fun i hi => ?_) ?_ ?_ ((xlo 4 (by omega)).trans q4) (gb 17 3 (by omega) (by omega) (by omega) (by omega) (by omega) (by omega) (by omega) (by omega) (by omega) (by omega)) (gb 17 4 (by omega) (by omega) (by omega) (by omega) (by omega) (by omega) (by omega) (by omega) (by omega) (by omega)) (fun i hi => ?_)
      · unfold sc1 at hs
        exact gb p k hp (by omega) (by omega) (by omega) (by omega) (by omega) (by omega) (by omega) (by omega) (by omega)
      · rw [eR4, z_u_no _ _ h]
        exact f2 p k hp
      · rw [x62 9 1 (by omega), f7 9 1 (by omega) (by omega) (by omega) (by omega), m91]; exact Rg.of (n := 0) (by omega) (by omega)
      · rw [x62 9 1 (by omega), f7 9 1 (by omega) (by omega) (by omega) (by omega), m91, x62 51 1 (by omega)]; exact t71
      · rw [gb 10 k (by omega) (by omega) (by omega) (by omega) (by omega) (by omega) (by omega) (by omega) (by omega) (by omega), gb 52 k (by omega) (by omega) (by omega) (by omega) (by omega) (by omega) (by omega) (by omega) (by omega) (by omega)]
        exact htp.2.2 k hk
      · rw [eR4]
        exact ⟨hw.1.1, fun i hi => (z_u_p _ _ _ _ (by omega)).trans (hw.1.2.1 i hi), hw.1.2.2⟩
      · rw [xlo 5 (by omega), f8 62 5 (by omega), f7 62 5 (by omega) (by omega) (by omega) (by omega)]
        exact g6 62 5 (by omega) (by omega) (by omega) (by omega) (by omega) (by omega)
      · rw [xlo 6 (by omega), f8 62 6 (by omega), f7 62 6 (by omega) (by omega) (by omega) (by omega)]
        exact g6 62 6 (by omega) (by omega) (by omega) (by omega) (by omega) (by omega)
      · obtain ⟨y0, y1, y2, y3, y4, y5⟩ := hc9.2 i hi
        obtain ⟨z0, z1, z2⟩ := wc7 i hi
        have u : ∀ k, k < 56 → Ib 62 k = I9 62 k := fun k h => (htb.1 _ k (by omega)).trans (hma.1 _ k (by omega))
        rw [c57, z0] at y0
        rw [c57, z1] at y1
        rw [c57, z2] at y2
        rw [c57, z1] at y3
        exact ⟨(u _ (by omega)).trans y0, (u _ (by omega)).trans y1, (u _ (by omega)).trans y2, (u _ (by omega)).trans y3, (u _ (by omega)).trans y4, (u _ (by omega)).trans y5⟩
      · obtain ⟨z0, z1, z2⟩ := wm7 i hi
        have u : ∀ k, k < 3 * m → Ib 62 (56 + k) = I7 58 k := fun k h => (htb.1 _ _ (by omega)).trans ((hma.2 k h).trans (m58 k))
        have e1 := u (3 * i) (by omega)
        have e2 := u (3 * i + 1) (by omega)
        have e3 := u (3 * i + 2) (by omega)
        exact ⟨e1.trans z0, e2.trans z1, e3.trans z2⟩
      · obtain ⟨z0, z1, z2, z3⟩ := hw.2.2.2.2.2.2.2.1 i hi
        exact ⟨(ebig _ _ (by omega)).trans z0, (ebig _ _ (by omega)).trans z1, (ebig _ _ (by omega)).trans z2, (ebig _ _ (by omega)).trans z3⟩
      · rw [e17, hB.1 17 1 (by omega), z_u_k _ _ _ (by decide), z_u_same]
      · rw [e17, hB.1 17 2 (by omega), z_u_same]
      · obtain ⟨y0, y1, y2, y3, y4, y5, y6⟩ := hB.2 i hi
        obtain ⟨z0, z1, z2⟩ := hw.2.2.2.2.2.2.1 i hi
        rw [ibI, z0] at y0
        rw [ibI, z1] at y1
        rw [ibI, z2] at y2
        rw [ibI, z1] at y3
        exact ⟨(e19 i _ hi).trans y0, (e19 i _ hi).trans y1, (e19 i _ hi).trans y2, (e19 i _ hi).trans y3, (e19 i _ hi).trans y4, (e19 i _ hi).trans y5, (e19 i _ hi).trans y6⟩
    · show zOk x 399 73 0 [.ref 0, zU] [] _ _
      refine k_aload f73_0 rfl ?_
      refine k_getr (q := 11) f73_1 hS.o0 rfl hR.r0_1 ?_
      refine k_callv (as := []) (rest := []) f73_4 hS.o11 rfl rfl rfl rfl (q_read (d := 391) hR hS hT hn9 (by omega) (by omega)) ?_
      rintro v1 _ ⟨I1, J1, R1, G1, rfl, f1, f2, hg, hg1, hg2, hv⟩
      rw [hr] at hv
      obtain ⟨rfl, hw⟩ := hv
      have hA1 : G1.2.2.1 ≤ 71 + 20 * (j + 1) := by omega
      have hA2 : G1.2.2.2 ≤ 6106 + 1000 * (j + 1) := Nat.le_trans hg2 (by omega)
      have hS1 : Sh G1 := hS.keep hg
      have hR1 : Rs R1 := fun q hq => (f2 _ _ (by have := (by decide : ∀ q ∈ rsL, q.1 < 71) q hq; omega)).trans (hR q hq)
      obtain ⟨pl1, epl⟩ : ∃ pl1, pl1 = G.2.2.1 := ⟨_, rfl⟩
      rw [← epl] at hw ⊢
      refine k_astore (L' := [.ref 0, .ref pl1]) f73_7 rfl rfl ?_
      refine k_aload f73_8 rfl ?_
      refine k_getr (q := 9) f73_9 hS1.o0 rfl hR1.r0_0 ?_
      refine k_iconst (v := 0) f73_12 rfl ?_
      refine k_putI f73_13 hS1.o9 rfl ?_
      refine k_aload f73_16 rfl ?_
      refine k_nonr f73_17 ?_
      refine k_aload f73_31 rfl ?_
      refine k_getr (q := 17) f73_32 hS1.o0 rfl hR1.r0_5 ?_
      refine k_aload f73_35 rfl ?_
      refine k_callv (as := [.ref pl1]) (rest := []) f73_36 hS1.o17 rfl rfl rfl rfl (q_beginS (d := 396) (pl := pl1) (c := c) hR1 hS1 hw.1 hw.2.1 o4 ((z_u_p _ _ _ _ (by omega)).trans hw.2.2.2.2.1)) ?_
      rintro _ _ ⟨rfl, I4, rfl, hB⟩
      obtain ⟨R4, eR4⟩ : ∃ R4, R4 = z_u R1 17 0 (some pl1) := ⟨_, rfl⟩
      rw [← eR4]
      have hR4 : Rs R4 := by
        rw [eR4]
        refine hR1.u (fun q hq => ?_)
        have t : rsL.all (fun q => decide (¬ (q.1 = 17 ∧ q.2.1 = 0))) = true := by decide +kernel
        simpa only [decide_eq_true_eq] using List.all_eq_true.mp t q hq
      have b4 : ∀ p k, ¬ (19 ≤ p ∧ p < 19 + c) → ¬ (p = 17 ∧ (k = 1 ∨ k = 2)) → ¬ (p = 9 ∧ k = 1) → I4 p k = I1 p k := fun p k h1 h2 h3 => by rw [hB.1 p k h1, z_u_no _ _ (by omega), z_u_no _ _ (by omega), z_u_no _ _ (by omega)]
      refine k_aload f73_39 rfl ?_
      refine k_gI (w := nI c) f73_40 hw.1.1 rfl ((b4 _ _ (by have := hw.2.1; omega) (by have := hw.2.1; omega) (by have := hw.2.1; omega)).trans hw.2.2.2.2.1) ?_
      refine k_iret f73_43 rfl ⟨_, rfl, ?_⟩
      show zOk x 399 147 0 [.ref 51, zU, zU, zU] [] _ _
      refine k_aload f147_0 rfl ?_
      refine k_iconst (v := 6) f147_1 rfl ?_
      refine k_putI f147_3 hS1.o51 rfl ?_
      refine k_aload f147_6 rfl ?_
      refine k_iconst (v := 0) f147_7 rfl ?_
      refine k_putI f147_8 hS1.o51 rfl ?_
      refine k_aload f147_11 rfl ?_
      refine k_iconst (v := (-1)) f147_12 rfl ?_
      refine k_putI f147_13 hS1.o51 rfl ?_
      refine k_aload f147_16 rfl ?_
      refine k_iconst (v := 0) f147_17 rfl ?_
      refine k_putI f147_18 hS1.o51 rfl ?_
      refine k_aload f147_21 rfl ?_
      refine k_iconst (v := 0) f147_22 rfl ?_
      refine k_putI f147_23 hS1.o51 rfl ?_
      obtain ⟨I6, eI6⟩ : ∃ I6, I6 = z_u (z_u (z_u (z_u (z_u I4 51 16 6) 51 7 0) 51 8 (-1)) 51 9 0) 51 10 0 := ⟨_, rfl⟩
      rw [← eI6]
      have f6 : ∀ p k, ¬ (p = 51 ∧ 7 ≤ k ∧ k ≤ 16) → I6 p k = I4 p k := fun p k h1 => by rw [eI6, z_u_no _ _ (by omega), z_u_no _ _ (by omega), z_u_no _ _ (by omega), z_u_no _ _ (by omega), z_u_no _ _ (by omega)]
      have g6 : ∀ p k, p < G.2.2.1 → ¬ (p = 51 ∧ 7 ≤ k ∧ k ≤ 16) → p ≠ 9 → p ≠ 11 → ¬ (19 ≤ p ∧ p < 19 + c) → ¬ (p = 17 ∧ (k = 1 ∨ k = 2)) → I6 p k = I p k := fun p k hp h1 h2 h3 h4 h5 => (f6 p k h1).trans ((b4 p k h4 h5 (by omega)).trans (f1 p k hp h2 h3))
      have hT6 : TP I6 b n := hT.keep (fun k => g6 10 k (by omega) (by omega) (by omega) (by omega) (by omega) (by omega)) (fun k => g6 52 k (by omega) (by omega) (by omega) (by omega) (by omega) (by omega))
      have m1 : I6 51 1 = nI n := (g6 51 1 (by omega) (by omega) (by omega) (by omega) (by omega) (by omega)).trans hn51
      have m16 : I6 51 16 = 6 := by rw [eI6]; simp [z_u]
      have m7 : I6 51 7 = 0 := by rw [eI6]; simp [z_u]
      have m8 : I6 51 8 = -1 := by rw [eI6]; simp [z_u]
      have m9 : I6 51 9 = 0 := by rw [eI6]; simp [z_u]
      have m10 : I6 51 10 = 0 := by rw [eI6]; simp [z_u]
      have m91 : I6 9 1 = 0 := by rw [f6 9 1 (by omega), hB.1 9 1 (by omega), z_u_p _ _ _ _ (by decide), z_u_p _ _ _ _ (by decide), z_u_same]
      refine k_aload f147_26 rfl ?_
      refine k_callv (as := []) (rest := []) f147_27 hS1.o51 rfl rfl rfl rfl (q_readsT (d := 393) (b := b) (n := n) hR4 hS1 hT6 m1 m16 m7 m8 m9 m10) ?_
      rintro v7 _ ⟨I7, rfl, f7, t71, hv7⟩
      rw [hr] at hv7
      obtain ⟨rfl, hw7⟩ := hv7
      obtain ⟨w7, w8, w9, w10, w16, w19, wc7, wm7⟩ := hw7
      have w7 : I7 51 7 = nI P := w7
      have w8 : I7 51 8 = (if y = 0 then -1 else nI y) := w8
      have w9 : I7 51 9 = nI c := w9
      have w10 : I7 51 10 = nI m := w10
      refine k_if_ne f147_30 (fun _ => ?_) (fun h_ => absurd (by decide) h_)
      refine k_aload f147_41 rfl ?_
      refine k_getr (q := 62) f147_42 hS1.o51 rfl hR4.r51_25 ?_
      refine k_iconst (v := 0) f147_45 rfl ?_
      refine k_aload f147_46 rfl ?_
      refine k_gI (w := nI P) f147_47 hS1.o51 rfl w7 ?_
      refine k_is (k := 0) f147_50 hS1.a62 rfl (by decide) (by decide) ?_
      refine k_aload f147_51 rfl ?_
      refine k_getr (q := 62) f147_52 hS1.o51 rfl hR4.r51_25 ?_
      refine k_iconst (v := 1) f147_55 rfl ?_
      refine k_aload f147_56 rfl ?_
      refine k_gI (w := nI c) f147_57 hS1.o51 rfl (Eq.trans (z_u_k _ _ _ (by decide)) w9) ?_
      refine k_is (k := 1) f147_60 hS1.a62 rfl (by decide) (by decide) ?_
      refine k_aload f147_61 rfl ?_
      refine k_getr (q := 62) f147_62 hS1.o51 rfl hR4.r51_25 ?_
      refine k_iconst (v := 2) f147_65 rfl ?_
      refine k_aload f147_66 rfl ?_
      refine k_gI (w := nI m) f147_67 hS1.o51 rfl (Eq.trans (z_u_k _ _ _ (by decide)) (Eq.trans (z_u_k _ _ _ (by decide)) w10)) ?_
      refine k_is (k := 2) f147_70 hS1.a62 rfl (by decide) (by decide) ?_
      refine k_aload f147_71 rfl ?_
      refine k_getr (q := 62) f147_72 hS1.o51 rfl hR4.r51_25 ?_
      refine k_iconst (v := 3) f147_75 rfl ?_
      refine k_iconst (v := 0) f147_76 rfl ?_
      refine k_is (k := 3) f147_77 hS1.a62 rfl (by decide) (by decide) ?_
      refine k_aload f147_78 rfl ?_
      refine k_getr (q := 62) f147_79 hS1.o51 rfl hR4.r51_25 ?_
      refine k_iconst (v := 4) f147_82 rfl ?_
      refine k_iconst (v := 0) f147_83 rfl ?_
      refine k_is (k := 4) f147_84 hS1.a62 rfl (by decide) (by decide) ?_
      refine k_aload f147_85 rfl ?_
      refine k_getr (q := 62) f147_86 hS1.o51 rfl hR4.r51_25 ?_
      refine k_iconst (v := 7) f147_89 rfl ?_
      refine k_aload f147_91 rfl ?_
      refine k_gI (w := nI y) f147_92 hS1.o51 rfl (Eq.trans (z_u_k _ _ _ (by decide)) (Eq.trans (z_u_k _ _ _ (by decide)) (Eq.trans (z_u_k _ _ _ (by decide)) (Eq.trans (z_u_k _ _ _ (by decide)) (Eq.trans (z_u_k _ _ _ (by decide)) (w8.trans (if_neg hy))))))) ?_
      refine k_if_ge f147_95 (fun _ => ?_) (fun h_ => absurd (nI_le (a := 0) (by omega) (by omega)) h_)
      refine k_aload f147_104 rfl ?_
      refine k_gI (w := nI y) f147_105 hS1.o51 rfl (Eq.trans (z_u_k _ _ _ (by decide)) (Eq.trans (z_u_k _ _ _ (by decide)) (Eq.trans (z_u_k _ _ _ (by decide)) (Eq.trans (z_u_k _ _ _ (by decide)) (Eq.trans (z_u_k _ _ _ (by decide)) (w8.trans (if_neg hy))))))) ?_
      refine k_is (k := 7) f147_108 hS1.a62 rfl (by decide) (by decide) ?_
      refine k_iconst (v := 0) f147_109 rfl ?_
      refine k_istore (L' := [.ref 51, .int (0), zU, zU]) f147_110 rfl rfl ?_
      obtain ⟨I8, eI8⟩ : ∃ I8, I8 = z_u (z_u (z_u (z_u (z_u (z_u I7 62 0 (nI P)) 62 1 (nI c)) 62 2 (nI m)) 62 3 0) 62 4 0) 62 7 (nI y) := ⟨_, rfl⟩
      rw [← eI8]
      have f8 : ∀ p k, ¬ (p = 62 ∧ (k ≤ 4 ∨ k = 7)) → I8 p k = I7 p k := fun p k h => by rw [eI8, z_u_no _ _ (by omega), z_u_no _ _ (by omega), z_u_no _ _ (by omega), z_u_no _ _ (by omega), z_u_no _ _ (by omega), z_u_no _ _ (by omega)]
      have q0 : I8 62 0 = nI P := by rw [eI8, z_u_k _ _ _ (by decide), z_u_k _ _ _ (by decide), z_u_k _ _ _ (by decide), z_u_k _ _ _ (by decide), z_u_k _ _ _ (by decide), z_u_same]
      have q1 : I8 62 1 = nI c := by rw [eI8, z_u_k _ _ _ (by decide), z_u_k _ _ _ (by decide), z_u_k _ _ _ (by decide), z_u_k _ _ _ (by decide), z_u_same]
      have q2 : I8 62 2 = nI m := by rw [eI8, z_u_k _ _ _ (by decide), z_u_k _ _ _ (by decide), z_u_k _ _ _ (by decide), z_u_same]
      have q3 : I8 62 3 = 0 := by rw [eI8, z_u_k _ _ _ (by decide), z_u_k _ _ _ (by decide), z_u_same]
      have q4 : I8 62 4 = 0 := by rw [eI8, z_u_k _ _ _ (by decide), z_u_same]
      have q7 : I8 62 7 = nI (if y = 0 then 365 else y) := by rw [eI8, z_u_same, if_neg hy]
      refine lp_tCoins (I0 := I8) (c := c) hR4 hS1 o4 ((f8 _ _ (by omega)).trans w9) (fun I9 u2 u3 hc9 => ?_) c 0 I8 _ _ (by omega) ⟨fun _ _ _ => rfl, fun j hj => absurd hj (Nat.not_lt_zero _)⟩
      refine k_iconst (v := 0) f147_202 rfl ?_
      refine k_istore (L' := [.ref 51, .int (0), u2, u3]) f147_203 rfl rfl ?_
      refine lp_tMeets (I0 := I9) (m := m) hR4 hS1 o5 ((hc9.1 _ _ (by omega)).trans ((f8 _ _ (by omega)).trans w10)) (fun Ia hma => ?_) (3 * m) 0 I9 (by omega) ⟨fun _ _ _ => rfl, fun j hj => absurd hj (Nat.not_lt_zero _)⟩
      refine k_iconst (v := 0) f147_235 rfl ?_
      refine k_istore (L' := [.ref 51, .int (0), u2, u3]) f147_236 rfl rfl ?_
      refine lp_tTold (I0 := Ia) hR4 hS1 (fun Ib htb => ?_) 8 0 Ia (by omega) ⟨fun _ _ _ => rfl, fun j hj => absurd hj (Nat.not_lt_zero _)⟩
      have x62 : ∀ p k, p ≠ 62 → Ib p k = I7 p k := fun p k h => (htb.1 p k (by omega)).trans ((hma.1 p k (by omega)).trans ((hc9.1 p k (by omega)).trans (f8 p k (by omega))))
      have xlo : ∀ k, k < 8 → Ib 62 k = I8 62 k := fun k h => (htb.1 _ k (by omega)).trans ((hma.1 _ k (by omega)).trans (hc9.1 _ k (by omega)))
      have c57 : ∀ k, I8 57 k = I7 57 k := fun k => f8 _ _ (by omega)
      have m58 : ∀ k, I9 58 k = I7 58 k := fun k => (hc9.1 _ _ (by omega)).trans (f8 _ _ (by omega))
      refine k_aload f147_260 rfl ?_
      refine k_gI (w := nI c) f147_261 hS1.o51 rfl ((x62 51 9 (by omega)).trans w9) ?_
      refine k_iret f147_264 rfl ⟨rfl, ?_⟩
      have e17 : ∀ k, Ib 17 k = I4 17 k := fun k => (x62 17 k (by omega)).trans ((f7 17 k (by omega) (by omega) (by omega) (by omega)).trans (f6 17 k (by omega)))
      have ebig : ∀ p k, 71 ≤ p → Ib p k = I1 p k := fun p k h => (x62 p k (by omega)).trans ((f7 p k (by omega) (by omega) (by omega) (by omega)).trans ((f6 p k (by omega)).trans (b4 p k (by omega) (by omega) (by omega))))
      have e19 : ∀ i k, i < c → Ib (19 + i) k = I4 (19 + i) k := fun i k h => (x62 _ k (by omega)).trans ((f7 _ k (by omega) (by omega) (by omega) (by omega)).trans (f6 _ k (by omega)))
      have h71 := hw.2.1
      have gb : ∀ p k, p < G.2.2.1 → ¬ (p = 51 ∧ (k = 1 ∨ (7 ≤ k ∧ k ≤ 19))) → p ≠ 9 → p ≠ 11 → p ≠ 54 → p ≠ 57 → p ≠ 58 → p ≠ 62 → ¬ (19 ≤ p ∧ p < 27) → ¬ (p = 17 ∧ (k = 1 ∨ k = 2)) → Ib p k = I p k := fun p k hp h1 h2 h3 h4 h5 h6 h7 h8 h9 => (x62 p k h7).trans ((f7 p k (by omega) h4 h5 h6).trans (g6 p k hp (by omega) h2 h3 (by omega) h9))
      have ibI : ∀ p k, z_u (z_u (z_u I1 9 1 0) 17 1 0) 17 2 0 (pl1 + p) k = I1 (pl1 + p) k := fun p k => by rw [z_u_p _ _ _ _ (by omega), z_u_p _ _ _ _ (by omega), z_u_p _ _ _ _ (by omega)]
      refine inv_town (pl := pl1) (P := P) (y := y) (c := c) (m := m) (ln := ln) (cf := cf) (mf := mf) hI hA1 hA2 hg (fun p k hp hs => ?_) (fun p k hp h => ?_) ⟨?_, ?_, fun k hk => ?_⟩ h71 (by rw [eR4]; exact z_u_same _ _ _ _) ?_ ho ((xlo 0 (by omega)).trans q0) ((xlo 1 (by omega)).trans q1) ((xlo 2 (by omega)).trans q2) ((xlo 3 (by omega)).trans q3) ?_ ?_ ((xlo 7 (by omega)).trans q7) (fun i hi => ?_) (fun i hi => ?_) (fun i hi => htb.2 i hi) ((ebig _ _ (by omega)).trans hw.2.2.1) ((ebig _ _ (by omega)).trans hw.2.2.2.1) ((ebig _ _ (by omega)).trans hw.2.2.2.2.1) ((ebig _ _ (by omega)).trans hw.2.2.2.2.2.1) (fun i hi => ?_) ?_ ?_ ((xlo 4 (by omega)).trans q4) (gb 17 3 (by omega) (by omega) (by omega) (by omega) (by omega) (by omega) (by omega) (by omega) (by omega) (by omega)) (gb 17 4 (by omega) (by omega) (by omega) (by omega) (by omega) (by omega) (by omega) (by omega) (by omega) (by omega)) (fun i hi => ?_)
      · unfold sc1 at hs
        exact gb p k hp (by omega) (by omega) (by omega) (by omega) (by omega) (by omega) (by omega) (by omega) (by omega)
      · rw [eR4, z_u_no _ _ h]
        exact f2 p k hp
      · rw [x62 9 1 (by omega), f7 9 1 (by omega) (by omega) (by omega) (by omega), m91]; exact Rg.of (n := 0) (by omega) (by omega)
      · rw [x62 9 1 (by omega), f7 9 1 (by omega) (by omega) (by omega) (by omega), m91, x62 51 1 (by omega)]; exact t71
      · rw [gb 10 k (by omega) (by omega) (by omega) (by omega) (by omega) (by omega) (by omega) (by omega) (by omega) (by omega), gb 52 k (by omega) (by omega) (by omega) (by omega) (by omega) (by omega) (by omega) (by omega) (by omega) (by omega)]
        exact htp.2.2 k hk
      · rw [eR4]
        exact ⟨hw.1.1, fun i hi => (z_u_p _ _ _ _ (by omega)).trans (hw.1.2.1 i hi), hw.1.2.2⟩
      · rw [xlo 5 (by omega), f8 62 5 (by omega), f7 62 5 (by omega) (by omega) (by omega) (by omega)]
        exact g6 62 5 (by omega) (by omega) (by omega) (by omega) (by omega) (by omega)
      · rw [xlo 6 (by omega), f8 62 6 (by omega), f7 62 6 (by omega) (by omega) (by omega) (by omega)]
        exact g6 62 6 (by omega) (by omega) (by omega) (by omega) (by omega) (by omega)
      · obtain ⟨y0, y1, y2, y3, y4, y5⟩ := hc9.2 i hi
        obtain ⟨z0, z1, z2⟩ := wc7 i hi
        have u : ∀ k, k < 56 → Ib 62 k = I9 62 k := fun k h => (htb.1 _ k (by omega)).trans (hma.1 _ k (by omega))
        rw [c57, z0] at y0
        rw [c57, z1] at y1
        rw [c57, z2] at y2
        rw [c57, z1] at y3
        exact ⟨(u _ (by omega)).trans y0, (u _ (by omega)).trans y1, (u _ (by omega)).trans y2, (u _ (by omega)).trans y3, (u _ (by omega)).trans y4, (u _ (by omega)).trans y5⟩
      · obtain ⟨z0, z1, z2⟩ := wm7 i hi
        have u : ∀ k, k < 3 * m → Ib 62 (56 + k) = I7 58 k := fun k h => (htb.1 _ _ (by omega)).trans ((hma.2 k h).trans (m58 k))
        have e1 := u (3 * i) (by omega)
        have e2 := u (3 * i + 1) (by omega)
        have e3 := u (3 * i + 2) (by omega)
        exact ⟨e1.trans z0, e2.trans z1, e3.trans z2⟩
      · obtain ⟨z0, z1, z2, z3⟩ := hw.2.2.2.2.2.2.2.1 i hi
        exact ⟨(ebig _ _ (by omega)).trans z0, (ebig _ _ (by omega)).trans z1, (ebig _ _ (by omega)).trans z2, (ebig _ _ (by omega)).trans z3⟩
      · rw [e17, hB.1 17 1 (by omega), z_u_k _ _ _ (by decide), z_u_same]
      · rw [e17, hB.1 17 2 (by omega), z_u_same]
      · obtain ⟨y0, y1, y2, y3, y4, y5, y6⟩ := hB.2 i hi
        obtain ⟨z0, z1, z2⟩ := hw.2.2.2.2.2.2.1 i hi
        rw [ibI, z0] at y0
        rw [ibI, z1] at y1
        rw [ibI, z2] at y2
        rw [ibI, z1] at y3
        exact ⟨(e19 i _ hi).trans y0, (e19 i _ hi).trans y1, (e19 i _ hi).trans y2, (e19 i _ hi).trans y3, (e19 i _ hi).trans y4, (e19 i _ hi).trans y5, (e19 i _ hi).trans y6⟩
