/-! IMAGE, the pair. -/
theorem im_40 {x : Nat × (Nat → Int32)} {j t st pl : Nat} {I I2 : Nat → Nat → Int32} {J J2 : Nat → Nat → Int64} {R R3 : Nat → Nat → Option Nat} {G G2 : zG} (hI : Inv j (I, J, R, G)) (ht4 : t < 4) (h71 : 71 ≤ st) (hn : G2.2.2.1 ≤ 71 + 20 * (j + 1)) (ht : G2.2.2.2 ≤ 6106 + 1000 * (j + 1)) (hg : Gk G G2)
    (hkd : ∀ p, p < G.2.2.1 → st ≤ p → p < st + 10 → G.1 p = 6 ∨ G.1 p = 17 ∨ G.1 p = 1)
    (hap : ∀ l su, l < 4 → l ≠ t → R 37 l = some su → st + 10 ≤ su ∨ su + 10 ≤ st)
    (fI : ∀ p k, p < G.2.2.1 → ¬ (st ≤ p ∧ p < st + 10) → I2 p k = I p k)
    (fR : ∀ p k, p < G.2.2.1 → ¬ (st ≤ p ∧ p < st + 10) → ¬ (p = 37 ∧ k = t) → R3 p k = R p k)
    (hm : R3 37 t = some st) (hR : Rs R3) (hss : StS R3 G2 st) (hnow : StR I2 R3 G2 17 pl (I 62)) : zOk x 399 96 40 [.ref 0, .int (nI t)] [] (I2, J2, R3, G2) (fun v m => ∃ w, v = some (.int w) ∧ zOk x 399 203 0 (z_l0 [.ref 51, .int (nI t)] (z_ml.getD 203 0)) [] m (fun v2 m2 => v2 = some (.int w) ∧ Inv (j + 1) m2)) := by
  have hS : Sh G2 := hI.1.keep hg
  have hO : SOk (I 62) (cl (I 0 4)) := hI.2.2.2.2.2.2.2.1
  have n70 : 71 ≤ G.2.2.1 := hI.1.2
  have hn9 := hO.2.1.2
  refine k_aload f96_40 rfl ?_
  refine k_getr (q := 37) f96_41 hS.o0 rfl hR.r0_7 ?_
  refine k_iload f96_44 rfl ?_
  refine k_aar (k := t) (q := st) f96_45 hS.a37 rfl rfl (by omega) (by decide) hm ?_
  refine k_aload f96_46 rfl ?_
  refine k_getr (q := 17) f96_47 hS.o0 rfl hR.r0_5 ?_
  refine k_callv (as := [.ref 17]) (rest := []) f96_50 hss.1 rfl rfl rfl rfl (s_copy (st := st) (su := 17) (pl := pl) (n := cl (I 62 1)) (by omega) (st_pl hss hnow.2.2.1) hss hnow.1 hnow.2.1 hnow.2.2.1.2.1 (hnow.2.2.2.1.2.2.1.trans hO.2.1.1) (by omega) (fun c hc => by have q := (hnow.2.2.2.2.2.2.2.2 c hc).2.2.2.2.1; rw [q]; exact rg_01 (hO.2.2.2.2.2.2.2.1 c hc).2.2.2.2.1)) ?_
  rintro _ _ ⟨rfl, I4, rfl, hH⟩
  have hst4 := hnow.copy (st := st) hss (by have := st_pl hss hnow.2.2.1; omega) hO.2.1.1 (by omega) (st_pl hss hnow.2.2.1) (by omega) hH
  obtain ⟨R4, eR4⟩ : ∃ R4, R4 = z_u R3 st 0 (some pl) := ⟨_, rfl⟩
  rw [← eR4] at hst4 ⊢
  have hR4 : Rs R4 := by rw [eR4]; exact hR.u (fun q hq => by have := (by decide : ∀ q ∈ rsL, q.1 < 71) q hq; omega)
  have ot : ∀ p k, ¬ (st ≤ p ∧ p < st + 10) → I4 p k = I2 p k := fun p k hq => (hH.1 p k (by omega)).trans (cpI_o _ _ (by omega))
  refine k_aload f96_53 rfl ?_
  refine k_getr (q := 17) f96_54 hS.o0 rfl hR4.r0_5 ?_
  refine k_gI (w := I 62 3) f96_57 hS.o17 rfl ((ot 17 1 (by omega)).trans hnow.2.2.2.2.1) ?_
  refine k_iret f96_60 rfl ⟨_, rfl, ?_⟩
  show zOk x 399 203 0 [.ref 51, .int (nI t), zU] [] _ _
  refine k_iload f203_0 rfl ?_
  refine k_i2l f203_1 ?_
  refine k_lconst (v := 0) f203_2 rfl ?_
  refine k_lconst (v := 3) f203_3 rfl ?_
  refine e_s (as := [.long (3), .long (0), .long ((nI t).toInt64)]) (rest := []) f203_6 rfl rfl rfl (s_in (0) (3) rfl rfl) ?_
  refine k_bne f203_9 (fun _ => ?_) (fun h_ => absurd (⟨(fun q => absurd ((nI_ltI (b := 0) (by omega) (by omega)).mp q) (by omega)), (fun q => absurd ((nI_ltI (a := 3) (by omega) (by omega)).mp q) (by omega))⟩) h_)
  refine k_aload f203_14 rfl ?_
  refine k_getr (q := 70) f203_15 hS.o51 rfl hR4.r51_38 ?_
  refine k_iload f203_18 rfl ?_
  refine k_iconst (v := 1) f203_19 rfl ?_
  refine k_zs (k := t) f203_20 hS.a70 rfl (by omega) (by decide) (by decide) ?_
  refine k_iconst (v := 0) f203_21 rfl ?_
  refine k_istore (L' := [.ref 51, .int (nI t), .int (0)]) f203_22 rfl rfl ?_
  refine zOk.imp (lp_img (I0 := z_u I4 70 t 1) hR4 hS ht4 139 0 _ (by omega) (rwH_0 _ _ _ _ _)) ?_
  rintro _ _ ⟨rfl, I5, rfl, hW⟩
  refine ⟨congrArg (fun t => some (Value.int t)) ((z_u_p _ _ _ _ (by omega)).trans ((ot 62 3 (by omega)).trans (fI 62 3 (by omega) (by omega)))), ?_⟩
  have f5 : ∀ p k, ¬ (p = 69 ∧ 139 * t ≤ k ∧ k < 139 * t + 139) → ¬ (p = 70 ∧ k = t) → I5 p k = I4 p k := fun p k h1 h2 => (hW.1 p k h1).trans (z_u_no _ _ h2)
  refine inv_img (st := st) (pl := pl) hI ht4 h71 hn ht hg hkd hap (fun p k hp h1 h2 h3 => (f5 p k h2 h3).trans ((ot p k h1).trans (fI p k hp h1))) (fun p k hp h1 h2 => ?_) ?_ ?_ (fun k hk => ?_) ?_
  · rw [eR4, z_u_p _ _ _ _ (by omega)]
    exact fR p k hp h1 h2
  · rw [eR4, z_u_p _ _ _ _ (by omega)]
    exact hm
  · rw [hW.1 70 t (by omega), z_u_same]
  · rw [hW.2 k hk, Nat.zero_add, z_u_p _ _ _ _ (by omega), ot 62 k (by omega)]
    exact fI 62 k (by omega) (by omega)
  · have hpl := hnow.2.2.1.1
    exact hst4.keep (by omega) Gk.rfl (fun p k _ hq => f5 p k (by omega) (by omega)) (fun _ _ _ _ => rfl)
theorem op_image {x : Nat × (Nat → Int32)} (k : Int32) : Op Inv x 96 203 [.int k] := by
  refine Op.of2 fun j I J R G hj hI => ?_
  have hS : Sh G := hI.1
  have hR : Rs R := hI.2.1
  have hT1 : Rg (I 9 1) 401 := hI.2.2.2.2.1.1
  have hT2 : I 51 1 = I 9 1 := hI.2.2.2.2.1.2.1
  have hN1 : Rg (I 0 4) 7 := hI.2.2.2.2.2.1.1
  have hN2 : I 51 2 = I 0 4 := hI.2.2.2.2.2.1.2.1
  have hN3 : ∀ t, t < cl (I 0 4) → ∃ r, R 16 t = some r ∧ RuR I R G t r := hI.2.2.2.2.2.1.2.2
  obtain ⟨pl, hst⟩ : ∃ pl, StR I R G 17 pl (I 62) := hI.2.2.2.2.2.2.1
  have hO : SOk (I 62) (cl (I 0 4)) := hI.2.2.2.2.2.2.2.1
  have hIm : ∀ k, k < 4 → ImN I R k ∨ ImY I R G (cl (I 0 4)) k := hI.2.2.2.2.2.2.2.2.1
  have hAp : Apart R := hI.2.2.2.2.2.2.2.2.2
  rcases pk_ix k (n := 4) (by omega) with hk | hk | ⟨t, ht, rfl⟩
  · show zOk x 399 96 0 [.ref 0, .int (k)] [] _ _
    refine k_iload f96_0 rfl ?_
    refine k_if_lt f96_1 (fun _ => ?_) (fun h_ => absurd (hk) h_)
    refine k_iconst (v := (-1)) f96_9 rfl ?_
    refine k_iret f96_10 rfl ⟨_, rfl, ?_⟩
    show zOk x 399 203 0 [.ref 51, .int (k), zU] [] _ _
    refine k_iload f203_0 rfl ?_
    refine k_i2l f203_1 ?_
    refine k_lconst (v := 0) f203_2 rfl ?_
    refine k_lconst (v := 3) f203_3 rfl ?_
    refine e_s (as := [.long (3), .long (0), .long ((k).toInt64)]) (rest := []) f203_6 rfl rfl rfl (s_in (0) (3) rfl rfl) ?_
    refine k_bne f203_9 (fun h_ => absurd h_ ((fun h => h.1 hk))) (fun _ => ?_)
    refine k_iconst (v := (-1)) f203_12 rfl ?_
    refine k_iret f203_13 rfl ⟨rfl, ?_⟩
    exact inv_q hI (by omega) Kq.rfl KS.rfl
  · show zOk x 399 96 0 [.ref 0, .int (k)] [] _ _
    refine k_iload f96_0 rfl ?_
    refine k_if_lt f96_1 (fun h_ => absurd h_ (k4_n hk)) (fun _ => ?_)
    refine k_iload f96_4 rfl ?_
    refine k_iconst (v := 4) f96_5 rfl ?_
    refine k_ic_lt f96_6 (fun h_ => absurd h_ (Int32.not_lt.mpr hk)) (fun _ => ?_)
    refine k_iconst (v := (-1)) f96_9 rfl ?_
    refine k_iret f96_10 rfl ⟨_, rfl, ?_⟩
    show zOk x 399 203 0 [.ref 51, .int (k), zU] [] _ _
    refine k_iload f203_0 rfl ?_
    refine k_i2l f203_1 ?_
    refine k_lconst (v := 0) f203_2 rfl ?_
    refine k_lconst (v := 3) f203_3 rfl ?_
    refine e_s (as := [.long (3), .long (0), .long ((k).toInt64)]) (rest := []) f203_6 rfl rfl rfl (s_in (0) (3) rfl rfl) ?_
    refine k_bne f203_9 (fun h_ => absurd h_ ((fun h => h.2 (k4_3 hk)))) (fun _ => ?_)
    refine k_iconst (v := (-1)) f203_12 rfl ?_
    refine k_iret f203_13 rfl ⟨rfl, ?_⟩
    exact inv_q hI (by omega) Kq.rfl KS.rfl
  · rcases hIm t ht with ⟨hN0, hNn⟩ | ⟨_, st, pl1, y2, y3, y4, y5⟩
    · show zOk x 399 96 0 [.ref 0, .int (nI t)] [] _ _
      refine k_iload f96_0 rfl ?_
      refine k_if_lt f96_1 (fun h_ => absurd h_ ((fun q => absurd ((nI_ltI (b := 0) (by omega) (by omega)).mp q) (by omega)))) (fun _ => ?_)
      refine k_iload f96_4 rfl ?_
      refine k_iconst (v := 4) f96_5 rfl ?_
      refine k_ic_lt f96_6 (fun _ => ?_) (fun h_ => absurd (nI_lt (b := 4) (by omega) (by omega)) h_)
      refine k_aload f96_11 rfl ?_
      refine k_getr (q := 37) f96_12 hS.o0 rfl hR.r0_7 ?_
      refine k_iload f96_15 rfl ?_
      refine k_aan (k := t) f96_16 hS.a37 rfl rfl (by omega) (by decide) hNn ?_
      refine k_nonn f96_17 ?_
      have n70 : 71 ≤ G.2.2.1 := hI.1.2
      have h3 : G.2.2.1 ≤ 71 + 20 * j := hI.2.2.1
      have h4 : G.2.2.2 ≤ 6106 + 1000 * j := hI.2.2.2.1
      obtain ⟨st, est⟩ : ∃ st, st = G.2.2.1 := ⟨_, rfl⟩
      refine k_aload f96_20 rfl ?_
      refine k_getr (q := 37) f96_21 hS.o0 rfl hR.r0_7 ?_
      refine k_iload f96_24 rfl ?_
      refine k_new f96_25 rfl ⟨by omega, by rw [show z_fn 6 = 6 from rfl]; omega⟩ ?_
      rw [← est]
      refine k_dup f96_28 ?_
      refine k_aload f96_29 rfl ?_
      refine k_getr (q := 17) f96_30 (hS.o0.keep (Gk.new _ _)) rfl ((z_r_o _ _ _ (by omega)).trans hR.r0_5) ?_
      refine k_getr (q := pl) f96_33 (hS.o17.keep (Gk.new _ _)) rfl ((z_r_o _ _ _ (by omega)).trans hst.2.1) ?_
      have z6 : zo (zGn G 6 (z_fn 6)) G.2.2.1 6 := zo.new
      rw [← est] at z6
      refine k_calli (as := [.ref pl]) (rest := [.ref st, .int (nI t), .ref 37]) f96_36 rfl rfl rfl rfl (q_newS (st := st) (pl := pl) (by omega) (by show G.2.2.2 + 6 < 7000000; omega) (by show G.2.2.1 + 1 = st + 1; omega) z6) ?_
      rintro _ _ ⟨rfl, I2, J2, R2, G2, rfl, n1, n2, n3, n4, n5, n6, n7, n8, n9, n10⟩
      have hg : Gk G G2 := (Gk.new _ _).trans n10
      refine k_aast (k := t) f96_39 (hS.a37.keep hg) n3 rfl (vp_in_nI (by omega) (by omega)) (nI_clamp (by omega)) ?_
      have fI : ∀ p k, p < G.2.2.1 → I2 p k = I p k := fun p k hp => (n8 p k (by omega)).trans (z_r_o _ _ _ (by omega))
      have fR : ∀ p k, p < G.2.2.1 → R2 p k = R p k := fun p k hp => (n9 p k (by omega)).trans (z_r_o _ _ _ (by omega))
      have hn9 := hO.2.1.2
      refine im_40 (st := st) (pl := pl) hI ht (by omega) (by omega) (by have : (zGn G 6 (z_fn 6)).2.2.2 = G.2.2.2 + 6 := rfl; omega) hg (fun p hp h1 h2 => absurd hp (by omega)) (fun l su hl hne e => ?_) (fun p k hp _ => fI p k hp) (fun p k hp _ h2 => (z_u_no _ _ h2).trans (fR p k hp)) (z_u_same _ _ _ _) ?_ ⟨n3, (z_u_p _ _ _ _ (by omega)).trans n5, n6, fun c hc => ⟨(z_u_p _ _ _ _ (by omega)).trans (n7 c hc).1, (n7 c hc).2⟩⟩ (hst.keep (by omega) hg (fun p k hp _ => fI p k hp) (fun p k hp hq => (z_u_p _ _ _ _ (by have := hst.2.2.1.1; omega)).trans (fR p k hp)))
      · rcases hIm l hl with ⟨_, q⟩ | ⟨_, s2, p2, q2, _, q4, _⟩
        · rw [q] at e; cases e
        · rw [q2] at e
          cases e
          have := (q4.1.2.2.2 7 (by omega)).2.1
          omega
      · intro q hq
        have a : q.1 < 71 ∧ q.1 ≠ 37 := by
          have t : rsL.all (fun q => decide (q.1 < 71 ∧ q.1 ≠ 37)) = true := by decide +kernel
          simpa only [decide_eq_true_eq] using List.all_eq_true.mp t q hq
        rw [z_u_p _ _ _ _ (by omega), fR _ _ (by omega)]
        exact hR q hq
    · show zOk x 399 96 0 [.ref 0, .int (nI t)] [] _ _
      refine k_iload f96_0 rfl ?_
      refine k_if_lt f96_1 (fun h_ => absurd h_ ((fun q => absurd ((nI_ltI (b := 0) (by omega) (by omega)).mp q) (by omega)))) (fun _ => ?_)
      refine k_iload f96_4 rfl ?_
      refine k_iconst (v := 4) f96_5 rfl ?_
      refine k_ic_lt f96_6 (fun _ => ?_) (fun h_ => absurd (nI_lt (b := 4) (by omega) (by omega)) h_)
      refine k_aload f96_11 rfl ?_
      refine k_getr (q := 37) f96_12 hS.o0 rfl hR.r0_7 ?_
      refine k_iload f96_15 rfl ?_
      refine k_aar (k := t) (q := st) f96_16 hS.a37 rfl rfl (by omega) (by decide) y2 ?_
      refine k_nonr f96_17 ?_
      have n70 : 71 ≤ G.2.2.1 := hI.1.2
      have h3 : G.2.2.1 ≤ 71 + 20 * j := hI.2.2.1
      have h4 : G.2.2.2 ≤ 6106 + 1000 * j := hI.2.2.2.1
      exact im_40 (st := st) (pl := pl) hI ht y3 (by omega) (by omega) Gk.rfl (fun p hp h1 h2 => st_kind y4.1 ⟨h1, h2⟩) (fun l su hl hne e => hAp t l st su ht hl (by omega) y2 e) (fun p k _ _ => rfl) (fun p k _ _ _ => rfl) y2 hR y4.1 hst
