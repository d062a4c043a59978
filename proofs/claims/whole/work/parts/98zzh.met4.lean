/-! MET, the pair. -/
theorem mn8 {m : Nat} : mnN m 8 < 9 ∧ (8 ≤ m → mnN m 8 = 8) ∧ (¬ 8 ≤ m → mnN m 8 = m) := by
  unfold mnN
  refine ⟨by split <;> omega, fun h => by split <;> omega, fun h => by split <;> omega⟩
theorem op_met {x : Nat × (Nat → Int32)} (what : Int32) : Op Inv x 92 199 [.int what] := by
  refine Op.of2 fun j I J R G hj hI => ?_
  have hS : Sh G := hI.1
  have hR : Rs R := hI.2.1
  have hT1 : Rg (I 9 1) 401 := hI.2.2.2.2.1.1
  have hT2 : I 51 1 = I 9 1 := hI.2.2.2.2.1.2.1
  have hN1 : Rg (I 0 4) 7 := hI.2.2.2.2.2.1.1
  have hN2 : I 51 2 = I 0 4 := hI.2.2.2.2.2.1.2.1
  have hN3 : ∀ t, t < cl (I 0 4) → ∃ r, R 16 t = some r ∧ RuR I R G t r := hI.2.2.2.2.2.1.2.2
  obtain ⟨pl, hst⟩ : ∃ pl, StR I R G 17 pl (I 62) := hI.2.2.2.2.2.2.1
  have hO : SOk (I 62) (cl (I 0 4)) := hI.2.2.2.2.2.2.2.1
  by_cases hT : ¬ I 62 0 ≤ 0
  · rcases sw3 what with (gw | gw) | rfl | rfl | rfl
    · show zOk x 399 92 0 [.ref 0, .int (what), zU, zU, zU, zU, zU] [] _ _
      refine k_aload f92_0 rfl ?_
      refine e_v (as := []) (rest := []) f92_1 hS.o0 rfl rfl rfl (s_hasTown hR hS hst) ?_
      refine k_beq f92_4 (fun h_ => absurd (hT) h_) (fun _ => ?_)
      refine k_iload f92_7 rfl ?_
      refine k_if_lt f92_8 (fun _ => ?_) (fun h_ => absurd (gw) h_)
      refine k_iconst (v := (-1)) f92_16 rfl ?_
      refine k_iret f92_17 rfl ⟨_, rfl, ?_⟩
      show zOk x 399 199 0 [.ref 51, .int (what), zU, zU, zU, zU, zU, zU] [] _ _
      refine k_aload f199_0 rfl ?_
      refine k_getr (q := 62) f199_1 hS.o51 rfl hR.r51_25 ?_
      refine k_iconst (v := 0) f199_4 rfl ?_
      refine k_ia (k := 0) (w := I 62 0) f199_5 hS.a62 rfl (by decide) (by decide) rfl ?_
      refine k_if_eq f199_6 (fun h_ => absurd h_ ((fun e => hT (by rw [e]; decide)))) (fun _ => ?_)
      refine k_iload f199_9 rfl ?_
      refine k_i2l f199_10 ?_
      refine k_lconst (v := 0) f199_11 rfl ?_
      refine k_lconst (v := 2) f199_12 rfl ?_
      refine e_s (as := [.long (2), .long (0), .long ((what).toInt64)]) (rest := []) f199_15 rfl rfl rfl (s_in (0) (2) rfl rfl) ?_
      refine k_bne f199_18 (fun h_ => absurd h_ ((fun h => h.1 gw))) (fun _ => ?_)
      refine k_iconst (v := (-1)) f199_21 rfl ?_
      refine k_iret f199_22 rfl ⟨rfl, ?_⟩
      exact inv_q hI (by omega) Kq.rfl KS.rfl
    · show zOk x 399 92 0 [.ref 0, .int (what), zU, zU, zU, zU, zU] [] _ _
      refine k_aload f92_0 rfl ?_
      refine e_v (as := []) (rest := []) f92_1 hS.o0 rfl rfl rfl (s_hasTown hR hS hst) ?_
      refine k_beq f92_4 (fun h_ => absurd (hT) h_) (fun _ => ?_)
      refine k_iload f92_7 rfl ?_
      refine k_if_lt f92_8 (fun g0 => ?_) (fun g0 => ?_)
      · refine k_iconst (v := (-1)) f92_16 rfl ?_
        refine k_iret f92_17 rfl ⟨_, rfl, ?_⟩
        show zOk x 399 199 0 [.ref 51, .int (what), zU, zU, zU, zU, zU, zU] [] _ _
        refine k_aload f199_0 rfl ?_
        refine k_getr (q := 62) f199_1 hS.o51 rfl hR.r51_25 ?_
        refine k_iconst (v := 0) f199_4 rfl ?_
        refine k_ia (k := 0) (w := I 62 0) f199_5 hS.a62 rfl (by decide) (by decide) rfl ?_
        refine k_if_eq f199_6 (fun h_ => absurd h_ ((fun e => hT (by rw [e]; decide)))) (fun _ => ?_)
        refine k_iload f199_9 rfl ?_
        refine k_i2l f199_10 ?_
        refine k_lconst (v := 0) f199_11 rfl ?_
        refine k_lconst (v := 2) f199_12 rfl ?_
        refine e_s (as := [.long (2), .long (0), .long ((what).toInt64)]) (rest := []) f199_15 rfl rfl rfl (s_in (0) (2) rfl rfl) ?_
        refine k_bne f199_18 (fun h_ => absurd h_ ((fun h => h.2 gw))) (fun _ => ?_)
        refine k_iconst (v := (-1)) f199_21 rfl ?_
        refine k_iret f199_22 rfl ⟨rfl, ?_⟩
        exact inv_q hI (by omega) Kq.rfl KS.rfl
      · refine k_iload f92_11 rfl ?_
        refine k_iconst (v := 2) f92_12 rfl ?_
        refine k_ic_le f92_13 (fun h_ => absurd h_ (Int32.not_le.mpr gw)) (fun _ => ?_)
        refine k_iconst (v := (-1)) f92_16 rfl ?_
        refine k_iret f92_17 rfl ⟨_, rfl, ?_⟩
        show zOk x 399 199 0 [.ref 51, .int (what), zU, zU, zU, zU, zU, zU] [] _ _
        refine k_aload f199_0 rfl ?_
        refine k_getr (q := 62) f199_1 hS.o51 rfl hR.r51_25 ?_
        refine k_iconst (v := 0) f199_4 rfl ?_
        refine k_ia (k := 0) (w := I 62 0) f199_5 hS.a62 rfl (by decide) (by decide) rfl ?_
        refine k_if_eq f199_6 (fun h_ => absurd h_ ((fun e => hT (by rw [e]; decide)))) (fun _ => ?_)
        refine k_iload f199_9 rfl ?_
        refine k_i2l f199_10 ?_
        refine k_lconst (v := 0) f199_11 rfl ?_
        refine k_lconst (v := 2) f199_12 rfl ?_
        refine e_s (as := [.long (2), .long (0), .long ((what).toInt64)]) (rest := []) f199_15 rfl rfl rfl (s_in (0) (2) rfl rfl) ?_
        refine k_bne f199_18 (fun h_ => absurd h_ ((fun h => h.2 gw))) (fun _ => ?_)
        refine k_iconst (v := (-1)) f199_21 rfl ?_
        refine k_iret f199_22 rfl ⟨rfl, ?_⟩
        exact inv_q hI (by omega) Kq.rfl KS.rfl
    · obtain ⟨md, emd⟩ : ∃ md, md = mnN (cl (I 62 2)) 8 := ⟨_, rfl⟩
      have hmd9 : md < 9 := by rw [emd]; exact mn8.1
      have hm25 := hO.2.2.1.2
      by_cases h8m : 8 ≤ cl (I 62 2)
      · show zOk x 399 92 0 [.ref 0, .int (0), zU, zU, zU, zU, zU] [] _ _
        refine k_aload f92_0 rfl ?_
        refine e_v (as := []) (rest := []) f92_1 hS.o0 rfl rfl rfl (s_hasTown hR hS hst) ?_
        refine k_beq f92_4 (fun h_ => absurd (hT) h_) (fun _ => ?_)
        refine k_iload f92_7 rfl ?_
        refine k_if_lt f92_8 (fun h_ => absurd h_ (by decide)) (fun _ => ?_)
        refine k_iload f92_11 rfl ?_
        refine k_iconst (v := 2) f92_12 rfl ?_
        refine k_ic_le f92_13 (fun _ => ?_) (fun h_ => absurd (by decide) h_)
        refine k_iconst (v := 1) f92_18 rfl ?_
        refine k_aload f92_19 rfl ?_
        refine k_getr (q := 17) f92_20 hS.o0 rfl hR.r0_5 ?_
        refine k_getr (q := pl) f92_23 hS.o17 rfl hst.2.1 ?_
        refine k_gI (w := nI (cl (I 62 2))) f92_26 hst.2.2.1.2.1 rfl (hst.2.2.2.1.2.2.2.1.trans hO.2.2.1.1) ?_
        refine k_iconst (v := 8) f92_29 rfl ?_
        refine k_min f92_31 rfl ?_
        rw [show (if (8 : Int32) < nI (cl (I 62 2)) then 8 else nI (cl (I 62 2))) = nI md from by rw [emd]; exact mn_nI (x := cl (I 62 2)) (b := 8) (by have := hO.2.2.1.2; omega) (by omega)]
        refine k_ishl f92_34 ?_
        rw [sh_1 md (by omega)]
        refine k_iconst (v := 1) f92_35 rfl ?_
        refine k_isub f92_36 ?_
        rw [show nI (2 ^ md) - 1 = nI (2 ^ md - 1) from pk_sub (b := 1) Nat.one_le_two_pow]
        refine k_istore (L' := [.ref 0, .int (0), .int (nI (2 ^ md - 1)), zU, zU, zU, zU]) f92_37 rfl rfl ?_
        refine k_iconst (v := 0) f92_38 rfl ?_
        refine k_istore (L' := [.ref 0, .int (0), .int (nI (2 ^ md - 1)), .int (0), zU, zU, zU]) f92_39 rfl rfl ?_
        refine lp_all (I0 := I) hR hS hmd9 (fun I1 u3 hv1 hf1 => ?_) (2 ^ md) 0 I (by omega) ⟨fun k hk => absurd hk (Nat.not_lt_zero _), fun _ _ _ => rfl⟩
        have kr1 : Kr I I1 := fun p k hp => hf1 p k (by omega)
        have hpl := hst.2.2.1.1
        have hn9 := hO.2.1.2
        have hst1 : StR I1 R G 17 pl (I 62) := hst.keep (by omega) Gk.rfl (fun p k _ hp => hf1 p k (by omega)) (fun _ _ _ _ => rfl)
        have hO1 : SOk (I 62) (cl (I1 0 4)) := by rw [kr1 0 4 (by omega)]; exact hO
        have hA1 : RuA I1 R G := RuA.kr kr1 ⟨hN1, hN3⟩
        refine k_iconst (v := 0) f92_58 rfl ?_
        refine k_istore (L' := [.ref 0, .int (0), .int (nI (2 ^ md - 1)), .int (0), zU, zU, zU]) f92_59 rfl rfl ?_
        refine lp_metC (d := 392) (I0 := I1) (md := md) hR hS hst1 hO1 hA1 hmd9 (fun I2 J2 R2 v3 v4 v5 v6 hc2 hps2 => ?_) (cl (I 62 1)) 0 I1 _ R _ _ _ (by omega) ⟨CFh.rfl, fun k hk => by rw [hv1 k hk, bI_v1 (show psA I1 (I 62) md 0 k = true from rfl)]⟩
        have hR2 : Rs R2 := hc2.rs hS hR
        refine k_iconst (v := 0) f92_121 rfl ?_
        refine k_istore (L' := [.ref 0, .int (0), .int (nI (2 ^ md - 1)), .int (0), v4, v5, v6]) f92_122 rfl rfl ?_
        refine k_iload f92_123 rfl ?_
        refine k_istore (L' := [.ref 0, .int (0), .int (nI (2 ^ md - 1)), .int (0), .int (nI (2 ^ md - 1)), v5, v6]) f92_124 rfl rfl ?_
        refine k_iconst (v := 0) f92_126 rfl ?_
        refine k_istore (L' := [.ref 0, .int (0), .int (nI (2 ^ md - 1)), .int (0), .int (nI (2 ^ md - 1)), .int (0), v6]) f92_127 rfl rfl ?_
        refine k_iconst (v := 0) f92_129 rfl ?_
        refine k_istore (L' := [.ref 0, .int (0), .int (nI (2 ^ md - 1)), .int (0), .int (nI (2 ^ md - 1)), .int (0), .int (0)]) f92_130 rfl rfl ?_
        obtain ⟨qf, eqf⟩ : ∃ qf, foL (mtS (psA I1 (I 62) md (cl (I 62 1)))) 0 (2 ^ md) (0, (nI (2 ^ md - 1), 0)) = qf := ⟨_, rfl⟩
        refine lp_cnt (md := md) (qf := qf) hR2 hS hmd9 hps2 (fun w6 => ?_) (2 ^ md) 0 (0, (nI (2 ^ md - 1), 0)) (by omega) eqf
        refine k_iload f92_171 rfl ?_
        refine k_if_eq f92_172 (fun _ => ?_) (fun h_ => absurd (by decide) h_)
        refine k_iload f92_179 rfl ?_
        refine k_iret f92_180 rfl ⟨_, rfl, ?_⟩
        have kr2 := hc2.kr
        have hs2 : I2 62 = I 62 := (funext fun k => hc2.1 62 k (by omega)).trans (funext fun k => hf1 62 k (by omega))
        have hR : Rs R2 := hR2
        show zOk x 399 199 0 [.ref 51, .int (0), zU, zU, zU, zU, zU, zU] [] _ _
        refine k_aload f199_0 rfl ?_
        refine k_getr (q := 62) f199_1 hS.o51 rfl hR2.r51_25 ?_
        refine k_iconst (v := 0) f199_4 rfl ?_
        refine k_ia (k := 0) (w := I 62 0) f199_5 hS.a62 rfl (by decide) (by decide) (congrFun hs2 _) ?_
        refine k_if_eq f199_6 (fun h_ => absurd h_ ((fun e => hT (by rw [e]; decide)))) (fun _ => ?_)
        refine k_iload f199_9 rfl ?_
        refine k_i2l f199_10 ?_
        refine k_lconst (v := 0) f199_11 rfl ?_
        refine k_lconst (v := 2) f199_12 rfl ?_
        refine e_s (as := [.long (2), .long (0), .long ((0 : Int32).toInt64)]) (rest := []) f199_15 rfl rfl rfl (s_in (0) (2) rfl rfl) ?_
        refine k_bne f199_18 (fun _ => ?_) (fun h_ => absurd (by decide) h_)
        refine k_aload f199_23 rfl ?_
        refine k_getr (q := 62) f199_24 hS.o51 rfl hR2.r51_25 ?_
        refine k_iconst (v := 2) f199_27 rfl ?_
        refine k_ia (k := 2) (w := nI (cl (I 62 2))) f199_28 hS.a62 rfl (by decide) (by decide) ((congrFun hs2 2).trans hO.2.2.1.1) ?_
        refine k_iconst (v := 8) f199_29 rfl ?_
        refine k_ic_ge f199_31 (fun _ => ?_) (fun h_ => absurd (nI_le h8m (by omega)) h_)
        refine k_iconst (v := 8) f199_43 rfl ?_
        refine k_istore (L' := [.ref 51, .int (0), .int (8), zU, zU, zU, zU, zU]) f199_45 rfl rfl ?_
        refine k_iconst (v := 1) f199_46 rfl ?_
        refine k_iload f199_47 rfl ?_
        refine k_ishl f199_48 ?_
        rw [show (1 : Int32) <<< ((8 : Int32) &&& 31) = nI (2 ^ md) from by rw [show md = 8 from emd.trans (mn8.2.1 h8m)]; decide]
        refine k_iconst (v := 1) f199_49 rfl ?_
        refine k_isub f199_50 ?_
        rw [show nI (2 ^ md) - 1 = nI (2 ^ md - 1) from pk_sub (b := 1) Nat.one_le_two_pow]
        refine k_istore (L' := [.ref 51, .int (0), .int (8), .int (nI (2 ^ md - 1)), zU, zU, zU, zU]) f199_51 rfl rfl ?_
        refine k_iconst (v := 0) f199_52 rfl ?_
        refine k_istore (L' := [.ref 51, .int (0), .int (8), .int (nI (2 ^ md - 1)), .int (0), zU, zU, zU]) f199_53 rfl rfl ?_
        refine k_iload f199_55 rfl ?_
        refine k_istore (L' := [.ref 51, .int (0), .int (8), .int (nI (2 ^ md - 1)), .int (0), .int (nI (2 ^ md - 1)), zU, zU]) f199_56 rfl rfl ?_
        refine k_iload f199_58 rfl ?_
        refine k_istore (L' := [.ref 51, .int (0), .int (8), .int (nI (2 ^ md - 1)), .int (0), .int (nI (2 ^ md - 1)), .int (nI (2 ^ md - 1)), zU]) f199_59 rfl rfl ?_
        refine k_iconst (v := 0) f199_61 rfl ?_
        refine k_istore (L' := [.ref 51, .int (0), .int (8), .int (nI (2 ^ md - 1)), .int (0), .int (nI (2 ^ md - 1)), .int (nI (2 ^ md - 1)), .int (0)]) f199_62 rfl rfl ?_
        have hO2 : SOk (I 62) (cl (I2 0 4)) := by rw [kr2 0 4 (by omega)]; exact hO1
        obtain ⟨qd, eqd⟩ : ∃ qd, foL (mtD (psA I2 (I 62) md (cl (I 62 1)))) 0 (2 ^ md) (0, (nI (2 ^ md - 1), nI (2 ^ md - 1))) = qd := ⟨_, rfl⟩
        have he := mt_eq (ps := psA I1 (I 62) md (cl (I 62 1))) (A := nI (2 ^ md - 1)) (2 ^ md) 0 (0, (nI (2 ^ md - 1), 0)) (0, (nI (2 ^ md - 1), nI (2 ^ md - 1))) rfl rfl (by show nI (2 ^ md - 1) = nI (2 ^ md - 1) &&& ((0 : Int32) ^^^ (-1)); rw [show (0 : Int32) ^^^ (-1) = -1 from by decide]; simp)
        rw [eqf, show psA I1 (I 62) md (cl (I 62 1)) = psA I2 (I 62) md (cl (I 62 1)) from funext fun k => (ps_kr kr2).symm, eqd] at he
        refine lp_cntD (d := 391) (I0 := I2) (s := I 62) (md := md) (qf := qd) hR2 hS hs2 hO2 (hc2.ra hA1) hmd9 (fun I3 J3 v7 hf3 => ?_) (2 ^ md) 0 (0, (nI (2 ^ md - 1), nI (2 ^ md - 1))) I2 _ (by omega) ⟨fun _ _ _ _ => rfl, eqd⟩
        refine k_iload f199_111 rfl ?_
        refine k_if_ne f199_112 (fun h_ => absurd (by decide) h_) (fun _ => ?_)
        refine k_iload f199_115 rfl ?_
        refine k_goto f199_117 ?_
        refine k_iret f199_141 rfl ⟨congrArg (fun t => some (Value.int t)) he.1, ?_⟩
        refine inv_q hI (by omega) (fun p k _ hs => ?_) (fun p k _ _ h => hc2.2 p k h)
        rw [hf3 p k (fun h => hs (by unfold sc0; omega)) (fun h => hs (by unfold sc0; omega)), hc2.1 p k (fun h => hs (by unfold sc0; omega)), hf1 p k (fun h => hs (by unfold sc0; omega))]
      · show zOk x 399 92 0 [.ref 0, .int (0), zU, zU, zU, zU, zU] [] _ _
        refine k_aload f92_0 rfl ?_
        refine e_v (as := []) (rest := []) f92_1 hS.o0 rfl rfl rfl (s_hasTown hR hS hst) ?_
        refine k_beq f92_4 (fun h_ => absurd (hT) h_) (fun _ => ?_)
        refine k_iload f92_7 rfl ?_
        refine k_if_lt f92_8 (fun h_ => absurd h_ (by decide)) (fun _ => ?_)
        refine k_iload f92_11 rfl ?_
        refine k_iconst (v := 2) f92_12 rfl ?_
        refine k_ic_le f92_13 (fun _ => ?_) (fun h_ => absurd (by decide) h_)
        refine k_iconst (v := 1) f92_18 rfl ?_
        refine k_aload f92_19 rfl ?_
        refine k_getr (q := 17) f92_20 hS.o0 rfl hR.r0_5 ?_
        refine k_getr (q := pl) f92_23 hS.o17 rfl hst.2.1 ?_
        refine k_gI (w := nI (cl (I 62 2))) f92_26 hst.2.2.1.2.1 rfl (hst.2.2.2.1.2.2.2.1.trans hO.2.2.1.1) ?_
        refine k_iconst (v := 8) f92_29 rfl ?_
        refine k_min f92_31 rfl ?_
        rw [show (if (8 : Int32) < nI (cl (I 62 2)) then 8 else nI (cl (I 62 2))) = nI md from by rw [emd]; exact mn_nI (x := cl (I 62 2)) (b := 8) (by have := hO.2.2.1.2; omega) (by omega)]
        refine k_ishl f92_34 ?_
        rw [sh_1 md (by omega)]
        refine k_iconst (v := 1) f92_35 rfl ?_
        refine k_isub f92_36 ?_
        rw [show nI (2 ^ md) - 1 = nI (2 ^ md - 1) from pk_sub (b := 1) Nat.one_le_two_pow]
        refine k_istore (L' := [.ref 0, .int (0), .int (nI (2 ^ md - 1)), zU, zU, zU, zU]) f92_37 rfl rfl ?_
        refine k_iconst (v := 0) f92_38 rfl ?_
        refine k_istore (L' := [.ref 0, .int (0), .int (nI (2 ^ md - 1)), .int (0), zU, zU, zU]) f92_39 rfl rfl ?_
        refine lp_all (I0 := I) hR hS hmd9 (fun I1 u3 hv1 hf1 => ?_) (2 ^ md) 0 I (by omega) ⟨fun k hk => absurd hk (Nat.not_lt_zero _), fun _ _ _ => rfl⟩
        have kr1 : Kr I I1 := fun p k hp => hf1 p k (by omega)
        have hpl := hst.2.2.1.1
        have hn9 := hO.2.1.2
        have hst1 : StR I1 R G 17 pl (I 62) := hst.keep (by omega) Gk.rfl (fun p k _ hp => hf1 p k (by omega)) (fun _ _ _ _ => rfl)
        have hO1 : SOk (I 62) (cl (I1 0 4)) := by rw [kr1 0 4 (by omega)]; exact hO
        have hA1 : RuA I1 R G := RuA.kr kr1 ⟨hN1, hN3⟩
        refine k_iconst (v := 0) f92_58 rfl ?_
        refine k_istore (L' := [.ref 0, .int (0), .int (nI (2 ^ md - 1)), .int (0), zU, zU, zU]) f92_59 rfl rfl ?_
        refine lp_metC (d := 392) (I0 := I1) (md := md) hR hS hst1 hO1 hA1 hmd9 (fun I2 J2 R2 v3 v4 v5 v6 hc2 hps2 => ?_) (cl (I 62 1)) 0 I1 _ R _ _ _ (by omega) ⟨CFh.rfl, fun k hk => by rw [hv1 k hk, bI_v1 (show psA I1 (I 62) md 0 k = true from rfl)]⟩
        have hR2 : Rs R2 := hc2.rs hS hR
        refine k_iconst (v := 0) f92_121 rfl ?_
        refine k_istore (L' := [.ref 0, .int (0), .int (nI (2 ^ md - 1)), .int (0), v4, v5, v6]) f92_122 rfl rfl ?_
        refine k_iload f92_123 rfl ?_
        refine k_istore (L' := [.ref 0, .int (0), .int (nI (2 ^ md - 1)), .int (0), .int (nI (2 ^ md - 1)), v5, v6]) f92_124 rfl rfl ?_
        refine k_iconst (v := 0) f92_126 rfl ?_
        refine k_istore (L' := [.ref 0, .int (0), .int (nI (2 ^ md - 1)), .int (0), .int (nI (2 ^ md - 1)), .int (0), v6]) f92_127 rfl rfl ?_
        refine k_iconst (v := 0) f92_129 rfl ?_
        refine k_istore (L' := [.ref 0, .int (0), .int (nI (2 ^ md - 1)), .int (0), .int (nI (2 ^ md - 1)), .int (0), .int (0)]) f92_130 rfl rfl ?_
        obtain ⟨qf, eqf⟩ : ∃ qf, foL (mtS (psA I1 (I 62) md (cl (I 62 1)))) 0 (2 ^ md) (0, (nI (2 ^ md - 1), 0)) = qf := ⟨_, rfl⟩
        refine lp_cnt (md := md) (qf := qf) hR2 hS hmd9 hps2 (fun w6 => ?_) (2 ^ md) 0 (0, (nI (2 ^ md - 1), 0)) (by omega) eqf
        refine k_iload f92_171 rfl ?_
        refine k_if_eq f92_172 (fun _ => ?_) (fun h_ => absurd (by decide) h_)
        refine k_iload f92_179 rfl ?_
        refine k_iret f92_180 rfl ⟨_, rfl, ?_⟩
        have kr2 := hc2.kr
        have hs2 : I2 62 = I 62 := (funext fun k => hc2.1 62 k (by omega)).trans (funext fun k => hf1 62 k (by omega))
        have hR : Rs R2 := hR2
        show zOk x 399 199 0 [.ref 51, .int (0), zU, zU, zU, zU, zU, zU] [] _ _
        refine k_aload f199_0 rfl ?_
        refine k_getr (q := 62) f199_1 hS.o51 rfl hR2.r51_25 ?_
        refine k_iconst (v := 0) f199_4 rfl ?_
        refine k_ia (k := 0) (w := I 62 0) f199_5 hS.a62 rfl (by decide) (by decide) (congrFun hs2 _) ?_
        refine k_if_eq f199_6 (fun h_ => absurd h_ ((fun e => hT (by rw [e]; decide)))) (fun _ => ?_)
        refine k_iload f199_9 rfl ?_
        refine k_i2l f199_10 ?_
        refine k_lconst (v := 0) f199_11 rfl ?_
        refine k_lconst (v := 2) f199_12 rfl ?_
        refine e_s (as := [.long (2), .long (0), .long ((0 : Int32).toInt64)]) (rest := []) f199_15 rfl rfl rfl (s_in (0) (2) rfl rfl) ?_
        refine k_bne f199_18 (fun _ => ?_) (fun h_ => absurd (by decide) h_)
        refine k_aload f199_23 rfl ?_
        refine k_getr (q := 62) f199_24 hS.o51 rfl hR2.r51_25 ?_
        refine k_iconst (v := 2) f199_27 rfl ?_
        refine k_ia (k := 2) (w := nI (cl (I 62 2))) f199_28 hS.a62 rfl (by decide) (by decide) ((congrFun hs2 2).trans hO.2.2.1.1) ?_
        refine k_iconst (v := 8) f199_29 rfl ?_
        refine k_ic_ge f199_31 (fun h_ => absurd h_ (nI_ge (b := 8) (by omega) (by omega))) (fun _ => ?_)
        refine k_aload f199_34 rfl ?_
        refine k_getr (q := 62) f199_35 hS.o51 rfl hR2.r51_25 ?_
        refine k_iconst (v := 2) f199_38 rfl ?_
        refine k_ia (k := 2) (w := nI (cl (I 62 2))) f199_39 hS.a62 rfl (by decide) (by decide) ((congrFun hs2 2).trans hO.2.2.1.1) ?_
        refine k_goto f199_40 ?_
        refine k_istore (L' := [.ref 51, .int (0), .int (nI (cl (I 62 2))), zU, zU, zU, zU, zU]) f199_45 rfl rfl ?_
        refine k_iconst (v := 1) f199_46 rfl ?_
        refine k_iload f199_47 rfl ?_
        refine k_ishl f199_48 ?_
        rw [show (1 : Int32) <<< (nI (cl (I 62 2)) &&& 31) = nI (2 ^ md) from by rw [show md = cl (I 62 2) from emd.trans (mn8.2.2 h8m)]; exact sh_1 _ (by omega)]
        refine k_iconst (v := 1) f199_49 rfl ?_
        refine k_isub f199_50 ?_
        rw [show nI (2 ^ md) - 1 = nI (2 ^ md - 1) from pk_sub (b := 1) Nat.one_le_two_pow]
        refine k_istore (L' := [.ref 51, .int (0), .int (nI (cl (I 62 2))), .int (nI (2 ^ md - 1)), zU, zU, zU, zU]) f199_51 rfl rfl ?_
        refine k_iconst (v := 0) f199_52 rfl ?_
        refine k_istore (L' := [.ref 51, .int (0), .int (nI (cl (I 62 2))), .int (nI (2 ^ md - 1)), .int (0), zU, zU, zU]) f199_53 rfl rfl ?_
        refine k_iload f199_55 rfl ?_
        refine k_istore (L' := [.ref 51, .int (0), .int (nI (cl (I 62 2))), .int (nI (2 ^ md - 1)), .int (0), .int (nI (2 ^ md - 1)), zU, zU]) f199_56 rfl rfl ?_
        refine k_iload f199_58 rfl ?_
        refine k_istore (L' := [.ref 51, .int (0), .int (nI (cl (I 62 2))), .int (nI (2 ^ md - 1)), .int (0), .int (nI (2 ^ md - 1)), .int (nI (2 ^ md - 1)), zU]) f199_59 rfl rfl ?_
        refine k_iconst (v := 0) f199_61 rfl ?_
        refine k_istore (L' := [.ref 51, .int (0), .int (nI (cl (I 62 2))), .int (nI (2 ^ md - 1)), .int (0), .int (nI (2 ^ md - 1)), .int (nI (2 ^ md - 1)), .int (0)]) f199_62 rfl rfl ?_
        have hO2 : SOk (I 62) (cl (I2 0 4)) := by rw [kr2 0 4 (by omega)]; exact hO1
        obtain ⟨qd, eqd⟩ : ∃ qd, foL (mtD (psA I2 (I 62) md (cl (I 62 1)))) 0 (2 ^ md) (0, (nI (2 ^ md - 1), nI (2 ^ md - 1))) = qd := ⟨_, rfl⟩
        have he := mt_eq (ps := psA I1 (I 62) md (cl (I 62 1))) (A := nI (2 ^ md - 1)) (2 ^ md) 0 (0, (nI (2 ^ md - 1), 0)) (0, (nI (2 ^ md - 1), nI (2 ^ md - 1))) rfl rfl (by show nI (2 ^ md - 1) = nI (2 ^ md - 1) &&& ((0 : Int32) ^^^ (-1)); rw [show (0 : Int32) ^^^ (-1) = -1 from by decide]; simp)
        rw [eqf, show psA I1 (I 62) md (cl (I 62 1)) = psA I2 (I 62) md (cl (I 62 1)) from funext fun k => (ps_kr kr2).symm, eqd] at he
        refine lp_cntD (d := 391) (I0 := I2) (s := I 62) (md := md) (qf := qd) hR2 hS hs2 hO2 (hc2.ra hA1) hmd9 (fun I3 J3 v7 hf3 => ?_) (2 ^ md) 0 (0, (nI (2 ^ md - 1), nI (2 ^ md - 1))) I2 _ (by omega) ⟨fun _ _ _ _ => rfl, eqd⟩
        refine k_iload f199_111 rfl ?_
        refine k_if_ne f199_112 (fun h_ => absurd (by decide) h_) (fun _ => ?_)
        refine k_iload f199_115 rfl ?_
        refine k_goto f199_117 ?_
        refine k_iret f199_141 rfl ⟨congrArg (fun t => some (Value.int t)) he.1, ?_⟩
        refine inv_q hI (by omega) (fun p k _ hs => ?_) (fun p k _ _ h => hc2.2 p k h)
        rw [hf3 p k (fun h => hs (by unfold sc0; omega)) (fun h => hs (by unfold sc0; omega)), hc2.1 p k (fun h => hs (by unfold sc0; omega)), hf1 p k (fun h => hs (by unfold sc0; omega))]
    · obtain ⟨md, emd⟩ : ∃ md, md = mnN (cl (I 62 2)) 8 := ⟨_, rfl⟩
      have hmd9 : md < 9 := by rw [emd]; exact mn8.1
      have hm25 := hO.2.2.1.2
      by_cases h8m : 8 ≤ cl (I 62 2)
      · show zOk x 399 92 0 [.ref 0, .int (1), zU, zU, zU, zU, zU] [] _ _
        refine k_aload f92_0 rfl ?_
        refine e_v (as := []) (rest := []) f92_1 hS.o0 rfl rfl rfl (s_hasTown hR hS hst) ?_
        refine k_beq f92_4 (fun h_ => absurd (hT) h_) (fun _ => ?_)
        refine k_iload f92_7 rfl ?_
        refine k_if_lt f92_8 (fun h_ => absurd h_ (by decide)) (fun _ => ?_)
        refine k_iload f92_11 rfl ?_
        refine k_iconst (v := 2) f92_12 rfl ?_
        refine k_ic_le f92_13 (fun _ => ?_) (fun h_ => absurd (by decide) h_)
        refine k_iconst (v := 1) f92_18 rfl ?_
        refine k_aload f92_19 rfl ?_
        refine k_getr (q := 17) f92_20 hS.o0 rfl hR.r0_5 ?_
        refine k_getr (q := pl) f92_23 hS.o17 rfl hst.2.1 ?_
        refine k_gI (w := nI (cl (I 62 2))) f92_26 hst.2.2.1.2.1 rfl (hst.2.2.2.1.2.2.2.1.trans hO.2.2.1.1) ?_
        refine k_iconst (v := 8) f92_29 rfl ?_
        refine k_min f92_31 rfl ?_
        rw [show (if (8 : Int32) < nI (cl (I 62 2)) then 8 else nI (cl (I 62 2))) = nI md from by rw [emd]; exact mn_nI (x := cl (I 62 2)) (b := 8) (by have := hO.2.2.1.2; omega) (by omega)]
        refine k_ishl f92_34 ?_
        rw [sh_1 md (by omega)]
        refine k_iconst (v := 1) f92_35 rfl ?_
        refine k_isub f92_36 ?_
        rw [show nI (2 ^ md) - 1 = nI (2 ^ md - 1) from pk_sub (b := 1) Nat.one_le_two_pow]
        refine k_istore (L' := [.ref 0, .int (1), .int (nI (2 ^ md - 1)), zU, zU, zU, zU]) f92_37 rfl rfl ?_
        refine k_iconst (v := 0) f92_38 rfl ?_
        refine k_istore (L' := [.ref 0, .int (1), .int (nI (2 ^ md - 1)), .int (0), zU, zU, zU]) f92_39 rfl rfl ?_
        refine lp_all (I0 := I) hR hS hmd9 (fun I1 u3 hv1 hf1 => ?_) (2 ^ md) 0 I (by omega) ⟨fun k hk => absurd hk (Nat.not_lt_zero _), fun _ _ _ => rfl⟩
        have kr1 : Kr I I1 := fun p k hp => hf1 p k (by omega)
        have hpl := hst.2.2.1.1
        have hn9 := hO.2.1.2
        have hst1 : StR I1 R G 17 pl (I 62) := hst.keep (by omega) Gk.rfl (fun p k _ hp => hf1 p k (by omega)) (fun _ _ _ _ => rfl)
        have hO1 : SOk (I 62) (cl (I1 0 4)) := by rw [kr1 0 4 (by omega)]; exact hO
        have hA1 : RuA I1 R G := RuA.kr kr1 ⟨hN1, hN3⟩
        refine k_iconst (v := 0) f92_58 rfl ?_
        refine k_istore (L' := [.ref 0, .int (1), .int (nI (2 ^ md - 1)), .int (0), zU, zU, zU]) f92_59 rfl rfl ?_
        refine lp_metC (d := 392) (I0 := I1) (md := md) hR hS hst1 hO1 hA1 hmd9 (fun I2 J2 R2 v3 v4 v5 v6 hc2 hps2 => ?_) (cl (I 62 1)) 0 I1 _ R _ _ _ (by omega) ⟨CFh.rfl, fun k hk => by rw [hv1 k hk, bI_v1 (show psA I1 (I 62) md 0 k = true from rfl)]⟩
        have hR2 : Rs R2 := hc2.rs hS hR
        refine k_iconst (v := 0) f92_121 rfl ?_
        refine k_istore (L' := [.ref 0, .int (1), .int (nI (2 ^ md - 1)), .int (0), v4, v5, v6]) f92_122 rfl rfl ?_
        refine k_iload f92_123 rfl ?_
        refine k_istore (L' := [.ref 0, .int (1), .int (nI (2 ^ md - 1)), .int (0), .int (nI (2 ^ md - 1)), v5, v6]) f92_124 rfl rfl ?_
        refine k_iconst (v := 0) f92_126 rfl ?_
        refine k_istore (L' := [.ref 0, .int (1), .int (nI (2 ^ md - 1)), .int (0), .int (nI (2 ^ md - 1)), .int (0), v6]) f92_127 rfl rfl ?_
        refine k_iconst (v := 0) f92_129 rfl ?_
        refine k_istore (L' := [.ref 0, .int (1), .int (nI (2 ^ md - 1)), .int (0), .int (nI (2 ^ md - 1)), .int (0), .int (0)]) f92_130 rfl rfl ?_
        obtain ⟨qf, eqf⟩ : ∃ qf, foL (mtS (psA I1 (I 62) md (cl (I 62 1)))) 0 (2 ^ md) (0, (nI (2 ^ md - 1), 0)) = qf := ⟨_, rfl⟩
        refine lp_cnt (md := md) (qf := qf) hR2 hS hmd9 hps2 (fun w6 => ?_) (2 ^ md) 0 (0, (nI (2 ^ md - 1), 0)) (by omega) eqf
        refine k_iload f92_171 rfl ?_
        refine k_if_eq f92_172 (fun h_ => absurd h_ (by decide)) (fun _ => ?_)
        refine k_iload f92_175 rfl ?_
        refine k_if_ne f92_176 (fun g0 => ?_) (fun g0 => ?_)
        · refine k_iload f92_181 rfl ?_
          refine k_iconst (v := 1) f92_182 rfl ?_
          refine k_ic_ne f92_183 (fun h_ => absurd (by decide) h_) (fun _ => ?_)
          refine k_iload f92_186 rfl ?_
          refine k_goto f92_188 ?_
          refine k_iret f92_197 rfl ⟨_, rfl, ?_⟩
          have kr2 := hc2.kr
          have hs2 : I2 62 = I 62 := (funext fun k => hc2.1 62 k (by omega)).trans (funext fun k => hf1 62 k (by omega))
          have hR : Rs R2 := hR2
          show zOk x 399 199 0 [.ref 51, .int (1), zU, zU, zU, zU, zU, zU] [] _ _
          refine k_aload f199_0 rfl ?_
          refine k_getr (q := 62) f199_1 hS.o51 rfl hR2.r51_25 ?_
          refine k_iconst (v := 0) f199_4 rfl ?_
          refine k_ia (k := 0) (w := I 62 0) f199_5 hS.a62 rfl (by decide) (by decide) (congrFun hs2 _) ?_
          refine k_if_eq f199_6 (fun h_ => absurd h_ ((fun e => hT (by rw [e]; decide)))) (fun _ => ?_)
          refine k_iload f199_9 rfl ?_
          refine k_i2l f199_10 ?_
          refine k_lconst (v := 0) f199_11 rfl ?_
          refine k_lconst (v := 2) f199_12 rfl ?_
          refine e_s (as := [.long (2), .long (0), .long ((1 : Int32).toInt64)]) (rest := []) f199_15 rfl rfl rfl (s_in (0) (2) rfl rfl) ?_
          refine k_bne f199_18 (fun _ => ?_) (fun h_ => absurd (by decide) h_)
          refine k_aload f199_23 rfl ?_
          refine k_getr (q := 62) f199_24 hS.o51 rfl hR2.r51_25 ?_
          refine k_iconst (v := 2) f199_27 rfl ?_
          refine k_ia (k := 2) (w := nI (cl (I 62 2))) f199_28 hS.a62 rfl (by decide) (by decide) ((congrFun hs2 2).trans hO.2.2.1.1) ?_
          refine k_iconst (v := 8) f199_29 rfl ?_
          refine k_ic_ge f199_31 (fun _ => ?_) (fun h_ => absurd (nI_le h8m (by omega)) h_)
          refine k_iconst (v := 8) f199_43 rfl ?_
          refine k_istore (L' := [.ref 51, .int (1), .int (8), zU, zU, zU, zU, zU]) f199_45 rfl rfl ?_
          refine k_iconst (v := 1) f199_46 rfl ?_
          refine k_iload f199_47 rfl ?_
          refine k_ishl f199_48 ?_
          rw [show (1 : Int32) <<< ((8 : Int32) &&& 31) = nI (2 ^ md) from by rw [show md = 8 from emd.trans (mn8.2.1 h8m)]; decide]
          refine k_iconst (v := 1) f199_49 rfl ?_
          refine k_isub f199_50 ?_
          rw [show nI (2 ^ md) - 1 = nI (2 ^ md - 1) from pk_sub (b := 1) Nat.one_le_two_pow]
          refine k_istore (L' := [.ref 51, .int (1), .int (8), .int (nI (2 ^ md - 1)), zU, zU, zU, zU]) f199_51 rfl rfl ?_
          refine k_iconst (v := 0) f199_52 rfl ?_
          refine k_istore (L' := [.ref 51, .int (1), .int (8), .int (nI (2 ^ md - 1)), .int (0), zU, zU, zU]) f199_53 rfl rfl ?_
          refine k_iload f199_55 rfl ?_
          refine k_istore (L' := [.ref 51, .int (1), .int (8), .int (nI (2 ^ md - 1)), .int (0), .int (nI (2 ^ md - 1)), zU, zU]) f199_56 rfl rfl ?_
          refine k_iload f199_58 rfl ?_
          refine k_istore (L' := [.ref 51, .int (1), .int (8), .int (nI (2 ^ md - 1)), .int (0), .int (nI (2 ^ md - 1)), .int (nI (2 ^ md - 1)), zU]) f199_59 rfl rfl ?_
          refine k_iconst (v := 0) f199_61 rfl ?_
          refine k_istore (L' := [.ref 51, .int (1), .int (8), .int (nI (2 ^ md - 1)), .int (0), .int (nI (2 ^ md - 1)), .int (nI (2 ^ md - 1)), .int (0)]) f199_62 rfl rfl ?_
          have hO2 : SOk (I 62) (cl (I2 0 4)) := by rw [kr2 0 4 (by omega)]; exact hO1
          obtain ⟨qd, eqd⟩ : ∃ qd, foL (mtD (psA I2 (I 62) md (cl (I 62 1)))) 0 (2 ^ md) (0, (nI (2 ^ md - 1), nI (2 ^ md - 1))) = qd := ⟨_, rfl⟩
          have he := mt_eq (ps := psA I1 (I 62) md (cl (I 62 1))) (A := nI (2 ^ md - 1)) (2 ^ md) 0 (0, (nI (2 ^ md - 1), 0)) (0, (nI (2 ^ md - 1), nI (2 ^ md - 1))) rfl rfl (by show nI (2 ^ md - 1) = nI (2 ^ md - 1) &&& ((0 : Int32) ^^^ (-1)); rw [show (0 : Int32) ^^^ (-1) = -1 from by decide]; simp)
          rw [eqf, show psA I1 (I 62) md (cl (I 62 1)) = psA I2 (I 62) md (cl (I 62 1)) from funext fun k => (ps_kr kr2).symm, eqd] at he
          refine lp_cntD (d := 391) (I0 := I2) (s := I 62) (md := md) (qf := qd) hR2 hS hs2 hO2 (hc2.ra hA1) hmd9 (fun I3 J3 v7 hf3 => ?_) (2 ^ md) 0 (0, (nI (2 ^ md - 1), nI (2 ^ md - 1))) I2 _ (by omega) ⟨fun _ _ _ _ => rfl, eqd⟩
          refine k_iload f199_111 rfl ?_
          refine k_if_ne f199_112 (fun _ => ?_) (fun h_ => absurd (by decide) h_)
          refine k_iload f199_120 rfl ?_
          refine k_if_ne f199_122 (fun _ => ?_) (fun h_ => absurd ((fun q => g0 (he.1.symm.trans q))) h_)
          refine k_iload f199_129 rfl ?_
          refine k_iconst (v := 1) f199_130 rfl ?_
          refine k_ic_ne f199_131 (fun h_ => absurd (by decide) h_) (fun _ => ?_)
          refine k_iload f199_134 rfl ?_
          refine k_goto f199_136 ?_
          refine k_iret f199_141 rfl ⟨congrArg (fun t => some (Value.int t)) he.2.1, ?_⟩
          refine inv_q hI (by omega) (fun p k _ hs => ?_) (fun p k _ _ h => hc2.2 p k h)
          rw [hf3 p k (fun h => hs (by unfold sc0; omega)) (fun h => hs (by unfold sc0; omega)), hc2.1 p k (fun h => hs (by unfold sc0; omega)), hf1 p k (fun h => hs (by unfold sc0; omega))]
        · refine k_iload f92_179 rfl ?_
          refine k_iret f92_180 rfl ⟨_, rfl, ?_⟩
          have kr2 := hc2.kr
          have hs2 : I2 62 = I 62 := (funext fun k => hc2.1 62 k (by omega)).trans (funext fun k => hf1 62 k (by omega))
          have hR : Rs R2 := hR2
          show zOk x 399 199 0 [.ref 51, .int (1), zU, zU, zU, zU, zU, zU] [] _ _
          refine k_aload f199_0 rfl ?_
          refine k_getr (q := 62) f199_1 hS.o51 rfl hR2.r51_25 ?_
          refine k_iconst (v := 0) f199_4 rfl ?_
          refine k_ia (k := 0) (w := I 62 0) f199_5 hS.a62 rfl (by decide) (by decide) (congrFun hs2 _) ?_
          refine k_if_eq f199_6 (fun h_ => absurd h_ ((fun e => hT (by rw [e]; decide)))) (fun _ => ?_)
          refine k_iload f199_9 rfl ?_
          refine k_i2l f199_10 ?_
          refine k_lconst (v := 0) f199_11 rfl ?_
          refine k_lconst (v := 2) f199_12 rfl ?_
          refine e_s (as := [.long (2), .long (0), .long ((1 : Int32).toInt64)]) (rest := []) f199_15 rfl rfl rfl (s_in (0) (2) rfl rfl) ?_
          refine k_bne f199_18 (fun _ => ?_) (fun h_ => absurd (by decide) h_)
          refine k_aload f199_23 rfl ?_
          refine k_getr (q := 62) f199_24 hS.o51 rfl hR2.r51_25 ?_
          refine k_iconst (v := 2) f199_27 rfl ?_
          refine k_ia (k := 2) (w := nI (cl (I 62 2))) f199_28 hS.a62 rfl (by decide) (by decide) ((congrFun hs2 2).trans hO.2.2.1.1) ?_
          refine k_iconst (v := 8) f199_29 rfl ?_
          refine k_ic_ge f199_31 (fun _ => ?_) (fun h_ => absurd (nI_le h8m (by omega)) h_)
          refine k_iconst (v := 8) f199_43 rfl ?_
          refine k_istore (L' := [.ref 51, .int (1), .int (8), zU, zU, zU, zU, zU]) f199_45 rfl rfl ?_
          refine k_iconst (v := 1) f199_46 rfl ?_
          refine k_iload f199_47 rfl ?_
          refine k_ishl f199_48 ?_
          rw [show (1 : Int32) <<< ((8 : Int32) &&& 31) = nI (2 ^ md) from by rw [show md = 8 from emd.trans (mn8.2.1 h8m)]; decide]
          refine k_iconst (v := 1) f199_49 rfl ?_
          refine k_isub f199_50 ?_
          rw [show nI (2 ^ md) - 1 = nI (2 ^ md - 1) from pk_sub (b := 1) Nat.one_le_two_pow]
          refine k_istore (L' := [.ref 51, .int (1), .int (8), .int (nI (2 ^ md - 1)), zU, zU, zU, zU]) f199_51 rfl rfl ?_
          refine k_iconst (v := 0) f199_52 rfl ?_
          refine k_istore (L' := [.ref 51, .int (1), .int (8), .int (nI (2 ^ md - 1)), .int (0), zU, zU, zU]) f199_53 rfl rfl ?_
          refine k_iload f199_55 rfl ?_
          refine k_istore (L' := [.ref 51, .int (1), .int (8), .int (nI (2 ^ md - 1)), .int (0), .int (nI (2 ^ md - 1)), zU, zU]) f199_56 rfl rfl ?_
          refine k_iload f199_58 rfl ?_
          refine k_istore (L' := [.ref 51, .int (1), .int (8), .int (nI (2 ^ md - 1)), .int (0), .int (nI (2 ^ md - 1)), .int (nI (2 ^ md - 1)), zU]) f199_59 rfl rfl ?_
          refine k_iconst (v := 0) f199_61 rfl ?_
          refine k_istore (L' := [.ref 51, .int (1), .int (8), .int (nI (2 ^ md - 1)), .int (0), .int (nI (2 ^ md - 1)), .int (nI (2 ^ md - 1)), .int (0)]) f199_62 rfl rfl ?_
          have hO2 : SOk (I 62) (cl (I2 0 4)) := by rw [kr2 0 4 (by omega)]; exact hO1
          obtain ⟨qd, eqd⟩ : ∃ qd, foL (mtD (psA I2 (I 62) md (cl (I 62 1)))) 0 (2 ^ md) (0, (nI (2 ^ md - 1), nI (2 ^ md - 1))) = qd := ⟨_, rfl⟩
          have he := mt_eq (ps := psA I1 (I 62) md (cl (I 62 1))) (A := nI (2 ^ md - 1)) (2 ^ md) 0 (0, (nI (2 ^ md - 1), 0)) (0, (nI (2 ^ md - 1), nI (2 ^ md - 1))) rfl rfl (by show nI (2 ^ md - 1) = nI (2 ^ md - 1) &&& ((0 : Int32) ^^^ (-1)); rw [show (0 : Int32) ^^^ (-1) = -1 from by decide]; simp)
          rw [eqf, show psA I1 (I 62) md (cl (I 62 1)) = psA I2 (I 62) md (cl (I 62 1)) from funext fun k => (ps_kr kr2).symm, eqd] at he
          refine lp_cntD (d := 391) (I0 := I2) (s := I 62) (md := md) (qf := qd) hR2 hS hs2 hO2 (hc2.ra hA1) hmd9 (fun I3 J3 v7 hf3 => ?_) (2 ^ md) 0 (0, (nI (2 ^ md - 1), nI (2 ^ md - 1))) I2 _ (by omega) ⟨fun _ _ _ _ => rfl, eqd⟩
          refine k_iload f199_111 rfl ?_
          refine k_if_ne f199_112 (fun _ => ?_) (fun h_ => absurd (by decide) h_)
          refine k_iload f199_120 rfl ?_
          refine k_if_ne f199_122 (fun h_ => absurd (he.1.trans (Classical.not_not.mp g0)) h_) (fun _ => ?_)
          refine k_iconst (v := 0) f199_125 rfl ?_
          refine k_goto f199_126 ?_
          refine k_iret f199_141 rfl ⟨congrArg (fun t => some (Value.int t)) (Classical.not_not.mp g0).symm, ?_⟩
          refine inv_q hI (by omega) (fun p k _ hs => ?_) (fun p k _ _ h => hc2.2 p k h)
          rw [hf3 p k (fun h => hs (by unfold sc0; omega)) (fun h => hs (by unfold sc0; omega)), hc2.1 p k (fun h => hs (by unfold sc0; omega)), hf1 p k (fun h => hs (by unfold sc0; omega))]
      · show zOk x 399 92 0 [.ref 0, .int (1), zU, zU, zU, zU, zU] [] _ _
        refine k_aload f92_0 rfl ?_
        refine e_v (as := []) (rest := []) f92_1 hS.o0 rfl rfl rfl (s_hasTown hR hS hst) ?_
        refine k_beq f92_4 (fun h_ => absurd (hT) h_) (fun _ => ?_)
        refine k_iload f92_7 rfl ?_
        refine k_if_lt f92_8 (fun h_ => absurd h_ (by decide)) (fun _ => ?_)
        refine k_iload f92_11 rfl ?_
        refine k_iconst (v := 2) f92_12 rfl ?_
        refine k_ic_le f92_13 (fun _ => ?_) (fun h_ => absurd (by decide) h_)
        refine k_iconst (v := 1) f92_18 rfl ?_
        refine k_aload f92_19 rfl ?_
        refine k_getr (q := 17) f92_20 hS.o0 rfl hR.r0_5 ?_
        refine k_getr (q := pl) f92_23 hS.o17 rfl hst.2.1 ?_
        refine k_gI (w := nI (cl (I 62 2))) f92_26 hst.2.2.1.2.1 rfl (hst.2.2.2.1.2.2.2.1.trans hO.2.2.1.1) ?_
        refine k_iconst (v := 8) f92_29 rfl ?_
        refine k_min f92_31 rfl ?_
        rw [show (if (8 : Int32) < nI (cl (I 62 2)) then 8 else nI (cl (I 62 2))) = nI md from by rw [emd]; exact mn_nI (x := cl (I 62 2)) (b := 8) (by have := hO.2.2.1.2; omega) (by omega)]
        refine k_ishl f92_34 ?_
        rw [sh_1 md (by omega)]
        refine k_iconst (v := 1) f92_35 rfl ?_
        refine k_isub f92_36 ?_
        rw [show nI (2 ^ md) - 1 = nI (2 ^ md - 1) from pk_sub (b := 1) Nat.one_le_two_pow]
        refine k_istore (L' := [.ref 0, .int (1), .int (nI (2 ^ md - 1)), zU, zU, zU, zU]) f92_37 rfl rfl ?_
        refine k_iconst (v := 0) f92_38 rfl ?_
        refine k_istore (L' := [.ref 0, .int (1), .int (nI (2 ^ md - 1)), .int (0), zU, zU, zU]) f92_39 rfl rfl ?_
        refine lp_all (I0 := I) hR hS hmd9 (fun I1 u3 hv1 hf1 => ?_) (2 ^ md) 0 I (by omega) ⟨fun k hk => absurd hk (Nat.not_lt_zero _), fun _ _ _ => rfl⟩
        have kr1 : Kr I I1 := fun p k hp => hf1 p k (by omega)
        have hpl := hst.2.2.1.1
        have hn9 := hO.2.1.2
        have hst1 : StR I1 R G 17 pl (I 62) := hst.keep (by omega) Gk.rfl (fun p k _ hp => hf1 p k (by omega)) (fun _ _ _ _ => rfl)
        have hO1 : SOk (I 62) (cl (I1 0 4)) := by rw [kr1 0 4 (by omega)]; exact hO
        have hA1 : RuA I1 R G := RuA.kr kr1 ⟨hN1, hN3⟩
        refine k_iconst (v := 0) f92_58 rfl ?_
        refine k_istore (L' := [.ref 0, .int (1), .int (nI (2 ^ md - 1)), .int (0), zU, zU, zU]) f92_59 rfl rfl ?_
        refine lp_metC (d := 392) (I0 := I1) (md := md) hR hS hst1 hO1 hA1 hmd9 (fun I2 J2 R2 v3 v4 v5 v6 hc2 hps2 => ?_) (cl (I 62 1)) 0 I1 _ R _ _ _ (by omega) ⟨CFh.rfl, fun k hk => by rw [hv1 k hk, bI_v1 (show psA I1 (I 62) md 0 k = true from rfl)]⟩
        have hR2 : Rs R2 := hc2.rs hS hR
        refine k_iconst (v := 0) f92_121 rfl ?_
        refine k_istore (L' := [.ref 0, .int (1), .int (nI (2 ^ md - 1)), .int (0), v4, v5, v6]) f92_122 rfl rfl ?_
        refine k_iload f92_123 rfl ?_
        refine k_istore (L' := [.ref 0, .int (1), .int (nI (2 ^ md - 1)), .int (0), .int (nI (2 ^ md - 1)), v5, v6]) f92_124 rfl rfl ?_
        refine k_iconst (v := 0) f92_126 rfl ?_
        refine k_istore (L' := [.ref 0, .int (1), .int (nI (2 ^ md - 1)), .int (0), .int (nI (2 ^ md - 1)), .int (0), v6]) f92_127 rfl rfl ?_
        refine k_iconst (v := 0) f92_129 rfl ?_
        refine k_istore (L' := [.ref 0, .int (1), .int (nI (2 ^ md - 1)), .int (0), .int (nI (2 ^ md - 1)), .int (0), .int (0)]) f92_130 rfl rfl ?_
        obtain ⟨qf, eqf⟩ : ∃ qf, foL (mtS (psA I1 (I 62) md (cl (I 62 1)))) 0 (2 ^ md) (0, (nI (2 ^ md - 1), 0)) = qf := ⟨_, rfl⟩
        refine lp_cnt (md := md) (qf := qf) hR2 hS hmd9 hps2 (fun w6 => ?_) (2 ^ md) 0 (0, (nI (2 ^ md - 1), 0)) (by omega) eqf
        refine k_iload f92_171 rfl ?_
        refine k_if_eq f92_172 (fun h_ => absurd h_ (by decide)) (fun _ => ?_)
        refine k_iload f92_175 rfl ?_
        refine k_if_ne f92_176 (fun g0 => ?_) (fun g0 => ?_)
        · refine k_iload f92_181 rfl ?_
          refine k_iconst (v := 1) f92_182 rfl ?_
          refine k_ic_ne f92_183 (fun h_ => absurd (by decide) h_) (fun _ => ?_)
          refine k_iload f92_186 rfl ?_
          refine k_goto f92_188 ?_
          refine k_iret f92_197 rfl ⟨_, rfl, ?_⟩
          have kr2 := hc2.kr
          have hs2 : I2 62 = I 62 := (funext fun k => hc2.1 62 k (by omega)).trans (funext fun k => hf1 62 k (by omega))
          have hR : Rs R2 := hR2
          show zOk x 399 199 0 [.ref 51, .int (1), zU, zU, zU, zU, zU, zU] [] _ _
          refine k_aload f199_0 rfl ?_
          refine k_getr (q := 62) f199_1 hS.o51 rfl hR2.r51_25 ?_
          refine k_iconst (v := 0) f199_4 rfl ?_
          refine k_ia (k := 0) (w := I 62 0) f199_5 hS.a62 rfl (by decide) (by decide) (congrFun hs2 _) ?_
          refine k_if_eq f199_6 (fun h_ => absurd h_ ((fun e => hT (by rw [e]; decide)))) (fun _ => ?_)
          refine k_iload f199_9 rfl ?_
          refine k_i2l f199_10 ?_
          refine k_lconst (v := 0) f199_11 rfl ?_
          refine k_lconst (v := 2) f199_12 rfl ?_
          refine e_s (as := [.long (2), .long (0), .long ((1 : Int32).toInt64)]) (rest := []) f199_15 rfl rfl rfl (s_in (0) (2) rfl rfl) ?_
          refine k_bne f199_18 (fun _ => ?_) (fun h_ => absurd (by decide) h_)
          refine k_aload f199_23 rfl ?_
          refine k_getr (q := 62) f199_24 hS.o51 rfl hR2.r51_25 ?_
          refine k_iconst (v := 2) f199_27 rfl ?_
          refine k_ia (k := 2) (w := nI (cl (I 62 2))) f199_28 hS.a62 rfl (by decide) (by decide) ((congrFun hs2 2).trans hO.2.2.1.1) ?_
          refine k_iconst (v := 8) f199_29 rfl ?_
          refine k_ic_ge f199_31 (fun h_ => absurd h_ (nI_ge (b := 8) (by omega) (by omega))) (fun _ => ?_)
          refine k_aload f199_34 rfl ?_
          refine k_getr (q := 62) f199_35 hS.o51 rfl hR2.r51_25 ?_
          refine k_iconst (v := 2) f199_38 rfl ?_
          refine k_ia (k := 2) (w := nI (cl (I 62 2))) f199_39 hS.a62 rfl (by decide) (by decide) ((congrFun hs2 2).trans hO.2.2.1.1) ?_
          refine k_goto f199_40 ?_
          refine k_istore (L' := [.ref 51, .int (1), .int (nI (cl (I 62 2))), zU, zU, zU, zU, zU]) f199_45 rfl rfl ?_
          refine k_iconst (v := 1) f199_46 rfl ?_
          refine k_iload f199_47 rfl ?_
          refine k_ishl f199_48 ?_
          rw [show (1 : Int32) <<< (nI (cl (I 62 2)) &&& 31) = nI (2 ^ md) from by rw [show md = cl (I 62 2) from emd.trans (mn8.2.2 h8m)]; exact sh_1 _ (by omega)]
          refine k_iconst (v := 1) f199_49 rfl ?_
          refine k_isub f199_50 ?_
          rw [show nI (2 ^ md) - 1 = nI (2 ^ md - 1) from pk_sub (b := 1) Nat.one_le_two_pow]
          refine k_istore (L' := [.ref 51, .int (1), .int (nI (cl (I 62 2))), .int (nI (2 ^ md - 1)), zU, zU, zU, zU]) f199_51 rfl rfl ?_
          refine k_iconst (v := 0) f199_52 rfl ?_
          refine k_istore (L' := [.ref 51, .int (1), .int (nI (cl (I 62 2))), .int (nI (2 ^ md - 1)), .int (0), zU, zU, zU]) f199_53 rfl rfl ?_
          refine k_iload f199_55 rfl ?_
          refine k_istore (L' := [.ref 51, .int (1), .int (nI (cl (I 62 2))), .int (nI (2 ^ md - 1)), .int (0), .int (nI (2 ^ md - 1)), zU, zU]) f199_56 rfl rfl ?_
          refine k_iload f199_58 rfl ?_
          refine k_istore (L' := [.ref 51, .int (1), .int (nI (cl (I 62 2))), .int (nI (2 ^ md - 1)), .int (0), .int (nI (2 ^ md - 1)), .int (nI (2 ^ md - 1)), zU]) f199_59 rfl rfl ?_
          refine k_iconst (v := 0) f199_61 rfl ?_
          refine k_istore (L' := [.ref 51, .int (1), .int (nI (cl (I 62 2))), .int (nI (2 ^ md - 1)), .int (0), .int (nI (2 ^ md - 1)), .int (nI (2 ^ md - 1)), .int (0)]) f199_62 rfl rfl ?_
          have hO2 : SOk (I 62) (cl (I2 0 4)) := by rw [kr2 0 4 (by omega)]; exact hO1
          obtain ⟨qd, eqd⟩ : ∃ qd, foL (mtD (psA I2 (I 62) md (cl (I 62 1)))) 0 (2 ^ md) (0, (nI (2 ^ md - 1), nI (2 ^ md - 1))) = qd := ⟨_, rfl⟩
          have he := mt_eq (ps := psA I1 (I 62) md (cl (I 62 1))) (A := nI (2 ^ md - 1)) (2 ^ md) 0 (0, (nI (2 ^ md - 1), 0)) (0, (nI (2 ^ md - 1), nI (2 ^ md - 1))) rfl rfl (by show nI (2 ^ md - 1) = nI (2 ^ md - 1) &&& ((0 : Int32) ^^^ (-1)); rw [show (0 : Int32) ^^^ (-1) = -1 from by decide]; simp)
          rw [eqf, show psA I1 (I 62) md (cl (I 62 1)) = psA I2 (I 62) md (cl (I 62 1)) from funext fun k => (ps_kr kr2).symm, eqd] at he
          refine lp_cntD (d := 391) (I0 := I2) (s := I 62) (md := md) (qf := qd) hR2 hS hs2 hO2 (hc2.ra hA1) hmd9 (fun I3 J3 v7 hf3 => ?_) (2 ^ md) 0 (0, (nI (2 ^ md - 1), nI (2 ^ md - 1))) I2 _ (by omega) ⟨fun _ _ _ _ => rfl, eqd⟩
          refine k_iload f199_111 rfl ?_
          refine k_if_ne f199_112 (fun _ => ?_) (fun h_ => absurd (by decide) h_)
          refine k_iload f199_120 rfl ?_
          refine k_if_ne f199_122 (fun _ => ?_) (fun h_ => absurd ((fun q => g0 (he.1.symm.trans q))) h_)
          refine k_iload f199_129 rfl ?_
          refine k_iconst (v := 1) f199_130 rfl ?_
          refine k_ic_ne f199_131 (fun h_ => absurd (by decide) h_) (fun _ => ?_)
          refine k_iload f199_134 rfl ?_
          refine k_goto f199_136 ?_
          refine k_iret f199_141 rfl ⟨congrArg (fun t => some (Value.int t)) he.2.1, ?_⟩
          refine inv_q hI (by omega) (fun p k _ hs => ?_) (fun p k _ _ h => hc2.2 p k h)
          rw [hf3 p k (fun h => hs (by unfold sc0; omega)) (fun h => hs (by unfold sc0; omega)), hc2.1 p k (fun h => hs (by unfold sc0; omega)), hf1 p k (fun h => hs (by unfold sc0; omega))]
        · refine k_iload f92_179 rfl ?_
          refine k_iret f92_180 rfl ⟨_, rfl, ?_⟩
          have kr2 := hc2.kr
          have hs2 : I2 62 = I 62 := (funext fun k => hc2.1 62 k (by omega)).trans (funext fun k => hf1 62 k (by omega))
          have hR : Rs R2 := hR2
          show zOk x 399 199 0 [.ref 51, .int (1), zU, zU, zU, zU, zU, zU] [] _ _
          refine k_aload f199_0 rfl ?_
          refine k_getr (q := 62) f199_1 hS.o51 rfl hR2.r51_25 ?_
          refine k_iconst (v := 0) f199_4 rfl ?_
          refine k_ia (k := 0) (w := I 62 0) f199_5 hS.a62 rfl (by decide) (by decide) (congrFun hs2 _) ?_
          refine k_if_eq f199_6 (fun h_ => absurd h_ ((fun e => hT (by rw [e]; decide)))) (fun _ => ?_)
          refine k_iload f199_9 rfl ?_
          refine k_i2l f199_10 ?_
          refine k_lconst (v := 0) f199_11 rfl ?_
          refine k_lconst (v := 2) f199_12 rfl ?_
          refine e_s (as := [.long (2), .long (0), .long ((1 : Int32).toInt64)]) (rest := []) f199_15 rfl rfl rfl (s_in (0) (2) rfl rfl) ?_
          refine k_bne f199_18 (fun _ => ?_) (fun h_ => absurd (by decide) h_)
          refine k_aload f199_23 rfl ?_
          refine k_getr (q := 62) f199_24 hS.o51 rfl hR2.r51_25 ?_
          refine k_iconst (v := 2) f199_27 rfl ?_
          refine k_ia (k := 2) (w := nI (cl (I 62 2))) f199_28 hS.a62 rfl (by decide) (by decide) ((congrFun hs2 2).trans hO.2.2.1.1) ?_
          refine k_iconst (v := 8) f199_29 rfl ?_
          refine k_ic_ge f199_31 (fun h_ => absurd h_ (nI_ge (b := 8) (by omega) (by omega))) (fun _ => ?_)
          refine k_aload f199_34 rfl ?_
          refine k_getr (q := 62) f199_35 hS.o51 rfl hR2.r51_25 ?_
          refine k_iconst (v := 2) f199_38 rfl ?_
          refine k_ia (k := 2) (w := nI (cl (I 62 2))) f199_39 hS.a62 rfl (by decide) (by decide) ((congrFun hs2 2).trans hO.2.2.1.1) ?_
          refine k_goto f199_40 ?_
          refine k_istore (L' := [.ref 51, .int (1), .int (nI (cl (I 62 2))), zU, zU, zU, zU, zU]) f199_45 rfl rfl ?_
          refine k_iconst (v := 1) f199_46 rfl ?_
          refine k_iload f199_47 rfl ?_
          refine k_ishl f199_48 ?_
          rw [show (1 : Int32) <<< (nI (cl (I 62 2)) &&& 31) = nI (2 ^ md) from by rw [show md = cl (I 62 2) from emd.trans (mn8.2.2 h8m)]; exact sh_1 _ (by omega)]
          refine k_iconst (v := 1) f199_49 rfl ?_
          refine k_isub f199_50 ?_
          rw [show nI (2 ^ md) - 1 = nI (2 ^ md - 1) from pk_sub (b := 1) Nat.one_le_two_pow]
          refine k_istore (L' := [.ref 51, .int (1), .int (nI (cl (I 62 2))), .int (nI (2 ^ md - 1)), zU, zU, zU, zU]) f199_51 rfl rfl ?_
          refine k_iconst (v := 0) f199_52 rfl ?_
          refine k_istore (L' := [.ref 51, .int (1), .int (nI (cl (I 62 2))), .int (nI (2 ^ md - 1)), .int (0), zU, zU, zU]) f199_53 rfl rfl ?_
          refine k_iload f199_55 rfl ?_
          refine k_istore (L' := [.ref 51, .int (1), .int (nI (cl (I 62 2))), .int (nI (2 ^ md - 1)), .int (0), .int (nI (2 ^ md - 1)), zU, zU]) f199_56 rfl rfl ?_
          refine k_iload f199_58 rfl ?_
          refine k_istore (L' := [.ref 51, .int (1), .int (nI (cl (I 62 2))), .int (nI (2 ^ md - 1)), .int (0), .int (nI (2 ^ md - 1)), .int (nI (2 ^ md - 1)), zU]) f199_59 rfl rfl ?_
          refine k_iconst (v := 0) f199_61 rfl ?_
          refine k_istore (L' := [.ref 51, .int (1), .int (nI (cl (I 62 2))), .int (nI (2 ^ md - 1)), .int (0), .int (nI (2 ^ md - 1)), .int (nI (2 ^ md - 1)), .int (0)]) f199_62 rfl rfl ?_
          have hO2 : SOk (I 62) (cl (I2 0 4)) := by rw [kr2 0 4 (by omega)]; exact hO1
          obtain ⟨qd, eqd⟩ : ∃ qd, foL (mtD (psA I2 (I 62) md (cl (I 62 1)))) 0 (2 ^ md) (0, (nI (2 ^ md - 1), nI (2 ^ md - 1))) = qd := ⟨_, rfl⟩
          have he := mt_eq (ps := psA I1 (I 62) md (cl (I 62 1))) (A := nI (2 ^ md - 1)) (2 ^ md) 0 (0, (nI (2 ^ md - 1), 0)) (0, (nI (2 ^ md - 1), nI (2 ^ md - 1))) rfl rfl (by show nI (2 ^ md - 1) = nI (2 ^ md - 1) &&& ((0 : Int32) ^^^ (-1)); rw [show (0 : Int32) ^^^ (-1) = -1 from by decide]; simp)
          rw [eqf, show psA I1 (I 62) md (cl (I 62 1)) = psA I2 (I 62) md (cl (I 62 1)) from funext fun k => (ps_kr kr2).symm, eqd] at he
          refine lp_cntD (d := 391) (I0 := I2) (s := I 62) (md := md) (qf := qd) hR2 hS hs2 hO2 (hc2.ra hA1) hmd9 (fun I3 J3 v7 hf3 => ?_) (2 ^ md) 0 (0, (nI (2 ^ md - 1), nI (2 ^ md - 1))) I2 _ (by omega) ⟨fun _ _ _ _ => rfl, eqd⟩
          refine k_iload f199_111 rfl ?_
          refine k_if_ne f199_112 (fun _ => ?_) (fun h_ => absurd (by decide) h_)
          refine k_iload f199_120 rfl ?_
          refine k_if_ne f199_122 (fun h_ => absurd (he.1.trans (Classical.not_not.mp g0)) h_) (fun _ => ?_)
          refine k_iconst (v := 0) f199_125 rfl ?_
          refine k_goto f199_126 ?_
          refine k_iret f199_141 rfl ⟨congrArg (fun t => some (Value.int t)) (Classical.not_not.mp g0).symm, ?_⟩
          refine inv_q hI (by omega) (fun p k _ hs => ?_) (fun p k _ _ h => hc2.2 p k h)
          rw [hf3 p k (fun h => hs (by unfold sc0; omega)) (fun h => hs (by unfold sc0; omega)), hc2.1 p k (fun h => hs (by unfold sc0; omega)), hf1 p k (fun h => hs (by unfold sc0; omega))]
    · obtain ⟨md, emd⟩ : ∃ md, md = mnN (cl (I 62 2)) 8 := ⟨_, rfl⟩
      have hmd9 : md < 9 := by rw [emd]; exact mn8.1
      have hm25 := hO.2.2.1.2
      by_cases h8m : 8 ≤ cl (I 62 2)
      · show zOk x 399 92 0 [.ref 0, .int (2), zU, zU, zU, zU, zU] [] _ _
        refine k_aload f92_0 rfl ?_
        refine e_v (as := []) (rest := []) f92_1 hS.o0 rfl rfl rfl (s_hasTown hR hS hst) ?_
        refine k_beq f92_4 (fun h_ => absurd (hT) h_) (fun _ => ?_)
        refine k_iload f92_7 rfl ?_
        refine k_if_lt f92_8 (fun h_ => absurd h_ (by decide)) (fun _ => ?_)
        refine k_iload f92_11 rfl ?_
        refine k_iconst (v := 2) f92_12 rfl ?_
        refine k_ic_le f92_13 (fun _ => ?_) (fun h_ => absurd (by decide) h_)
        refine k_iconst (v := 1) f92_18 rfl ?_
        refine k_aload f92_19 rfl ?_
        refine k_getr (q := 17) f92_20 hS.o0 rfl hR.r0_5 ?_
        refine k_getr (q := pl) f92_23 hS.o17 rfl hst.2.1 ?_
        refine k_gI (w := nI (cl (I 62 2))) f92_26 hst.2.2.1.2.1 rfl (hst.2.2.2.1.2.2.2.1.trans hO.2.2.1.1) ?_
        refine k_iconst (v := 8) f92_29 rfl ?_
        refine k_min f92_31 rfl ?_
        rw [show (if (8 : Int32) < nI (cl (I 62 2)) then 8 else nI (cl (I 62 2))) = nI md from by rw [emd]; exact mn_nI (x := cl (I 62 2)) (b := 8) (by have := hO.2.2.1.2; omega) (by omega)]
        refine k_ishl f92_34 ?_
        rw [sh_1 md (by omega)]
        refine k_iconst (v := 1) f92_35 rfl ?_
        refine k_isub f92_36 ?_
        rw [show nI (2 ^ md) - 1 = nI (2 ^ md - 1) from pk_sub (b := 1) Nat.one_le_two_pow]
        refine k_istore (L' := [.ref 0, .int (2), .int (nI (2 ^ md - 1)), zU, zU, zU, zU]) f92_37 rfl rfl ?_
        refine k_iconst (v := 0) f92_38 rfl ?_
        refine k_istore (L' := [.ref 0, .int (2), .int (nI (2 ^ md - 1)), .int (0), zU, zU, zU]) f92_39 rfl rfl ?_
        refine lp_all (I0 := I) hR hS hmd9 (fun I1 u3 hv1 hf1 => ?_) (2 ^ md) 0 I (by omega) ⟨fun k hk => absurd hk (Nat.not_lt_zero _), fun _ _ _ => rfl⟩
        have kr1 : Kr I I1 := fun p k hp => hf1 p k (by omega)
        have hpl := hst.2.2.1.1
        have hn9 := hO.2.1.2
        have hst1 : StR I1 R G 17 pl (I 62) := hst.keep (by omega) Gk.rfl (fun p k _ hp => hf1 p k (by omega)) (fun _ _ _ _ => rfl)
        have hO1 : SOk (I 62) (cl (I1 0 4)) := by rw [kr1 0 4 (by omega)]; exact hO
        have hA1 : RuA I1 R G := RuA.kr kr1 ⟨hN1, hN3⟩
        refine k_iconst (v := 0) f92_58 rfl ?_
        refine k_istore (L' := [.ref 0, .int (2), .int (nI (2 ^ md - 1)), .int (0), zU, zU, zU]) f92_59 rfl rfl ?_
        refine lp_metC (d := 392) (I0 := I1) (md := md) hR hS hst1 hO1 hA1 hmd9 (fun I2 J2 R2 v3 v4 v5 v6 hc2 hps2 => ?_) (cl (I 62 1)) 0 I1 _ R _ _ _ (by omega) ⟨CFh.rfl, fun k hk => by rw [hv1 k hk, bI_v1 (show psA I1 (I 62) md 0 k = true from rfl)]⟩
        have hR2 : Rs R2 := hc2.rs hS hR
        refine k_iconst (v := 0) f92_121 rfl ?_
        refine k_istore (L' := [.ref 0, .int (2), .int (nI (2 ^ md - 1)), .int (0), v4, v5, v6]) f92_122 rfl rfl ?_
        refine k_iload f92_123 rfl ?_
        refine k_istore (L' := [.ref 0, .int (2), .int (nI (2 ^ md - 1)), .int (0), .int (nI (2 ^ md - 1)), v5, v6]) f92_124 rfl rfl ?_
        refine k_iconst (v := 0) f92_126 rfl ?_
        refine k_istore (L' := [.ref 0, .int (2), .int (nI (2 ^ md - 1)), .int (0), .int (nI (2 ^ md - 1)), .int (0), v6]) f92_127 rfl rfl ?_
        refine k_iconst (v := 0) f92_129 rfl ?_
        refine k_istore (L' := [.ref 0, .int (2), .int (nI (2 ^ md - 1)), .int (0), .int (nI (2 ^ md - 1)), .int (0), .int (0)]) f92_130 rfl rfl ?_
        obtain ⟨qf, eqf⟩ : ∃ qf, foL (mtS (psA I1 (I 62) md (cl (I 62 1)))) 0 (2 ^ md) (0, (nI (2 ^ md - 1), 0)) = qf := ⟨_, rfl⟩
        refine lp_cnt (md := md) (qf := qf) hR2 hS hmd9 hps2 (fun w6 => ?_) (2 ^ md) 0 (0, (nI (2 ^ md - 1), 0)) (by omega) eqf
        refine k_iload f92_171 rfl ?_
        refine k_if_eq f92_172 (fun h_ => absurd h_ (by decide)) (fun _ => ?_)
        refine k_iload f92_175 rfl ?_
        refine k_if_ne f92_176 (fun g0 => ?_) (fun g0 => ?_)
        · refine k_iload f92_181 rfl ?_
          refine k_iconst (v := 1) f92_182 rfl ?_
          refine k_ic_ne f92_183 (fun _ => ?_) (fun h_ => absurd (by decide) h_)
          refine k_iload f92_191 rfl ?_
          refine k_iload f92_192 rfl ?_
          refine k_iconst (v := (-1)) f92_194 rfl ?_
          refine k_ixor f92_195 ?_
          refine k_iand f92_196 ?_
          refine k_iret f92_197 rfl ⟨_, rfl, ?_⟩
          have kr2 := hc2.kr
          have hs2 : I2 62 = I 62 := (funext fun k => hc2.1 62 k (by omega)).trans (funext fun k => hf1 62 k (by omega))
          have hR : Rs R2 := hR2
          show zOk x 399 199 0 [.ref 51, .int (2), zU, zU, zU, zU, zU, zU] [] _ _
          refine k_aload f199_0 rfl ?_
          refine k_getr (q := 62) f199_1 hS.o51 rfl hR2.r51_25 ?_
          refine k_iconst (v := 0) f199_4 rfl ?_
          refine k_ia (k := 0) (w := I 62 0) f199_5 hS.a62 rfl (by decide) (by decide) (congrFun hs2 _) ?_
          refine k_if_eq f199_6 (fun h_ => absurd h_ ((fun e => hT (by rw [e]; decide)))) (fun _ => ?_)
          refine k_iload f199_9 rfl ?_
          refine k_i2l f199_10 ?_
          refine k_lconst (v := 0) f199_11 rfl ?_
          refine k_lconst (v := 2) f199_12 rfl ?_
          refine e_s (as := [.long (2), .long (0), .long ((2 : Int32).toInt64)]) (rest := []) f199_15 rfl rfl rfl (s_in (0) (2) rfl rfl) ?_
          refine k_bne f199_18 (fun _ => ?_) (fun h_ => absurd (by decide) h_)
          refine k_aload f199_23 rfl ?_
          refine k_getr (q := 62) f199_24 hS.o51 rfl hR2.r51_25 ?_
          refine k_iconst (v := 2) f199_27 rfl ?_
          refine k_ia (k := 2) (w := nI (cl (I 62 2))) f199_28 hS.a62 rfl (by decide) (by decide) ((congrFun hs2 2).trans hO.2.2.1.1) ?_
          refine k_iconst (v := 8) f199_29 rfl ?_
          refine k_ic_ge f199_31 (fun _ => ?_) (fun h_ => absurd (nI_le h8m (by omega)) h_)
          refine k_iconst (v := 8) f199_43 rfl ?_
          refine k_istore (L' := [.ref 51, .int (2), .int (8), zU, zU, zU, zU, zU]) f199_45 rfl rfl ?_
          refine k_iconst (v := 1) f199_46 rfl ?_
          refine k_iload f199_47 rfl ?_
          refine k_ishl f199_48 ?_
          rw [show (1 : Int32) <<< ((8 : Int32) &&& 31) = nI (2 ^ md) from by rw [show md = 8 from emd.trans (mn8.2.1 h8m)]; decide]
          refine k_iconst (v := 1) f199_49 rfl ?_
          refine k_isub f199_50 ?_
          rw [show nI (2 ^ md) - 1 = nI (2 ^ md - 1) from pk_sub (b := 1) Nat.one_le_two_pow]
          refine k_istore (L' := [.ref 51, .int (2), .int (8), .int (nI (2 ^ md - 1)), zU, zU, zU, zU]) f199_51 rfl rfl ?_
          refine k_iconst (v := 0) f199_52 rfl ?_
          refine k_istore (L' := [.ref 51, .int (2), .int (8), .int (nI (2 ^ md - 1)), .int (0), zU, zU, zU]) f199_53 rfl rfl ?_
          refine k_iload f199_55 rfl ?_
          refine k_istore (L' := [.ref 51, .int (2), .int (8), .int (nI (2 ^ md - 1)), .int (0), .int (nI (2 ^ md - 1)), zU, zU]) f199_56 rfl rfl ?_
          refine k_iload f199_58 rfl ?_
          refine k_istore (L' := [.ref 51, .int (2), .int (8), .int (nI (2 ^ md - 1)), .int (0), .int (nI (2 ^ md - 1)), .int (nI (2 ^ md - 1)), zU]) f199_59 rfl rfl ?_
          refine k_iconst (v := 0) f199_61 rfl ?_
          refine k_istore (L' := [.ref 51, .int (2), .int (8), .int (nI (2 ^ md - 1)), .int (0), .int (nI (2 ^ md - 1)), .int (nI (2 ^ md - 1)), .int (0)]) f199_62 rfl rfl ?_
          have hO2 : SOk (I 62) (cl (I2 0 4)) := by rw [kr2 0 4 (by omega)]; exact hO1
          obtain ⟨qd, eqd⟩ : ∃ qd, foL (mtD (psA I2 (I 62) md (cl (I 62 1)))) 0 (2 ^ md) (0, (nI (2 ^ md - 1), nI (2 ^ md - 1))) = qd := ⟨_, rfl⟩
          have he := mt_eq (ps := psA I1 (I 62) md (cl (I 62 1))) (A := nI (2 ^ md - 1)) (2 ^ md) 0 (0, (nI (2 ^ md - 1), 0)) (0, (nI (2 ^ md - 1), nI (2 ^ md - 1))) rfl rfl (by show nI (2 ^ md - 1) = nI (2 ^ md - 1) &&& ((0 : Int32) ^^^ (-1)); rw [show (0 : Int32) ^^^ (-1) = -1 from by decide]; simp)
          rw [eqf, show psA I1 (I 62) md (cl (I 62 1)) = psA I2 (I 62) md (cl (I 62 1)) from funext fun k => (ps_kr kr2).symm, eqd] at he
          refine lp_cntD (d := 391) (I0 := I2) (s := I 62) (md := md) (qf := qd) hR2 hS hs2 hO2 (hc2.ra hA1) hmd9 (fun I3 J3 v7 hf3 => ?_) (2 ^ md) 0 (0, (nI (2 ^ md - 1), nI (2 ^ md - 1))) I2 _ (by omega) ⟨fun _ _ _ _ => rfl, eqd⟩
          refine k_iload f199_111 rfl ?_
          refine k_if_ne f199_112 (fun _ => ?_) (fun h_ => absurd (by decide) h_)
          refine k_iload f199_120 rfl ?_
          refine k_if_ne f199_122 (fun _ => ?_) (fun h_ => absurd ((fun q => g0 (he.1.symm.trans q))) h_)
          refine k_iload f199_129 rfl ?_
          refine k_iconst (v := 1) f199_130 rfl ?_
          refine k_ic_ne f199_131 (fun _ => ?_) (fun h_ => absurd (by decide) h_)
          refine k_iload f199_139 rfl ?_
          refine k_iret f199_141 rfl ⟨congrArg (fun t => some (Value.int t)) he.2.2, ?_⟩
          refine inv_q hI (by omega) (fun p k _ hs => ?_) (fun p k _ _ h => hc2.2 p k h)
          rw [hf3 p k (fun h => hs (by unfold sc0; omega)) (fun h => hs (by unfold sc0; omega)), hc2.1 p k (fun h => hs (by unfold sc0; omega)), hf1 p k (fun h => hs (by unfold sc0; omega))]
        · refine k_iload f92_179 rfl ?_
          refine k_iret f92_180 rfl ⟨_, rfl, ?_⟩
          have kr2 := hc2.kr
          have hs2 : I2 62 = I 62 := (funext fun k => hc2.1 62 k (by omega)).trans (funext fun k => hf1 62 k (by omega))
          have hR : Rs R2 := hR2
          show zOk x 399 199 0 [.ref 51, .int (2), zU, zU, zU, zU, zU, zU] [] _ _
          refine k_aload f199_0 rfl ?_
          refine k_getr (q := 62) f199_1 hS.o51 rfl hR2.r51_25 ?_
          refine k_iconst (v := 0) f199_4 rfl ?_
          refine k_ia (k := 0) (w := I 62 0) f199_5 hS.a62 rfl (by decide) (by decide) (congrFun hs2 _) ?_
          refine k_if_eq f199_6 (fun h_ => absurd h_ ((fun e => hT (by rw [e]; decide)))) (fun _ => ?_)
          refine k_iload f199_9 rfl ?_
          refine k_i2l f199_10 ?_
          refine k_lconst (v := 0) f199_11 rfl ?_
          refine k_lconst (v := 2) f199_12 rfl ?_
          refine e_s (as := [.long (2), .long (0), .long ((2 : Int32).toInt64)]) (rest := []) f199_15 rfl rfl rfl (s_in (0) (2) rfl rfl) ?_
          refine k_bne f199_18 (fun _ => ?_) (fun h_ => absurd (by decide) h_)
          refine k_aload f199_23 rfl ?_
          refine k_getr (q := 62) f199_24 hS.o51 rfl hR2.r51_25 ?_
          refine k_iconst (v := 2) f199_27 rfl ?_
          refine k_ia (k := 2) (w := nI (cl (I 62 2))) f199_28 hS.a62 rfl (by decide) (by decide) ((congrFun hs2 2).trans hO.2.2.1.1) ?_
          refine k_iconst (v := 8) f199_29 rfl ?_
          refine k_ic_ge f199_31 (fun _ => ?_) (fun h_ => absurd (nI_le h8m (by omega)) h_)
          refine k_iconst (v := 8) f199_43 rfl ?_
          refine k_istore (L' := [.ref 51, .int (2), .int (8), zU, zU, zU, zU, zU]) f199_45 rfl rfl ?_
          refine k_iconst (v := 1) f199_46 rfl ?_
          refine k_iload f199_47 rfl ?_
          refine k_ishl f199_48 ?_
          rw [show (1 : Int32) <<< ((8 : Int32) &&& 31) = nI (2 ^ md) from by rw [show md = 8 from emd.trans (mn8.2.1 h8m)]; decide]
          refine k_iconst (v := 1) f199_49 rfl ?_
          refine k_isub f199_50 ?_
          rw [show nI (2 ^ md) - 1 = nI (2 ^ md - 1) from pk_sub (b := 1) Nat.one_le_two_pow]
          refine k_istore (L' := [.ref 51, .int (2), .int (8), .int (nI (2 ^ md - 1)), zU, zU, zU, zU]) f199_51 rfl rfl ?_
          refine k_iconst (v := 0) f199_52 rfl ?_
          refine k_istore (L' := [.ref 51, .int (2), .int (8), .int (nI (2 ^ md - 1)), .int (0), zU, zU, zU]) f199_53 rfl rfl ?_
          refine k_iload f199_55 rfl ?_
          refine k_istore (L' := [.ref 51, .int (2), .int (8), .int (nI (2 ^ md - 1)), .int (0), .int (nI (2 ^ md - 1)), zU, zU]) f199_56 rfl rfl ?_
          refine k_iload f199_58 rfl ?_
          refine k_istore (L' := [.ref 51, .int (2), .int (8), .int (nI (2 ^ md - 1)), .int (0), .int (nI (2 ^ md - 1)), .int (nI (2 ^ md - 1)), zU]) f199_59 rfl rfl ?_
          refine k_iconst (v := 0) f199_61 rfl ?_
          refine k_istore (L' := [.ref 51, .int (2), .int (8), .int (nI (2 ^ md - 1)), .int (0), .int (nI (2 ^ md - 1)), .int (nI (2 ^ md - 1)), .int (0)]) f199_62 rfl rfl ?_
          have hO2 : SOk (I 62) (cl (I2 0 4)) := by rw [kr2 0 4 (by omega)]; exact hO1
          obtain ⟨qd, eqd⟩ : ∃ qd, foL (mtD (psA I2 (I 62) md (cl (I 62 1)))) 0 (2 ^ md) (0, (nI (2 ^ md - 1), nI (2 ^ md - 1))) = qd := ⟨_, rfl⟩
          have he := mt_eq (ps := psA I1 (I 62) md (cl (I 62 1))) (A := nI (2 ^ md - 1)) (2 ^ md) 0 (0, (nI (2 ^ md - 1), 0)) (0, (nI (2 ^ md - 1), nI (2 ^ md - 1))) rfl rfl (by show nI (2 ^ md - 1) = nI (2 ^ md - 1) &&& ((0 : Int32) ^^^ (-1)); rw [show (0 : Int32) ^^^ (-1) = -1 from by decide]; simp)
          rw [eqf, show psA I1 (I 62) md (cl (I 62 1)) = psA I2 (I 62) md (cl (I 62 1)) from funext fun k => (ps_kr kr2).symm, eqd] at he
          refine lp_cntD (d := 391) (I0 := I2) (s := I 62) (md := md) (qf := qd) hR2 hS hs2 hO2 (hc2.ra hA1) hmd9 (fun I3 J3 v7 hf3 => ?_) (2 ^ md) 0 (0, (nI (2 ^ md - 1), nI (2 ^ md - 1))) I2 _ (by omega) ⟨fun _ _ _ _ => rfl, eqd⟩
          refine k_iload f199_111 rfl ?_
          refine k_if_ne f199_112 (fun _ => ?_) (fun h_ => absurd (by decide) h_)
          refine k_iload f199_120 rfl ?_
          refine k_if_ne f199_122 (fun h_ => absurd (he.1.trans (Classical.not_not.mp g0)) h_) (fun _ => ?_)
          refine k_iconst (v := 0) f199_125 rfl ?_
          refine k_goto f199_126 ?_
          refine k_iret f199_141 rfl ⟨congrArg (fun t => some (Value.int t)) (Classical.not_not.mp g0).symm, ?_⟩
          refine inv_q hI (by omega) (fun p k _ hs => ?_) (fun p k _ _ h => hc2.2 p k h)
          rw [hf3 p k (fun h => hs (by unfold sc0; omega)) (fun h => hs (by unfold sc0; omega)), hc2.1 p k (fun h => hs (by unfold sc0; omega)), hf1 p k (fun h => hs (by unfold sc0; omega))]
      · show zOk x 399 92 0 [.ref 0, .int (2), zU, zU, zU, zU, zU] [] _ _
        refine k_aload f92_0 rfl ?_
        refine e_v (as := []) (rest := []) f92_1 hS.o0 rfl rfl rfl (s_hasTown hR hS hst) ?_
        refine k_beq f92_4 (fun h_ => absurd (hT) h_) (fun _ => ?_)
        refine k_iload f92_7 rfl ?_
        refine k_if_lt f92_8 (fun h_ => absurd h_ (by decide)) (fun _ => ?_)
        refine k_iload f92_11 rfl ?_
        refine k_iconst (v := 2) f92_12 rfl ?_
        refine k_ic_le f92_13 (fun _ => ?_) (fun h_ => absurd (by decide) h_)
        refine k_iconst (v := 1) f92_18 rfl ?_
        refine k_aload f92_19 rfl ?_
        refine k_getr (q := 17) f92_20 hS.o0 rfl hR.r0_5 ?_
        refine k_getr (q := pl) f92_23 hS.o17 rfl hst.2.1 ?_
        refine k_gI (w := nI (cl (I 62 2))) f92_26 hst.2.2.1.2.1 rfl (hst.2.2.2.1.2.2.2.1.trans hO.2.2.1.1) ?_
        refine k_iconst (v := 8) f92_29 rfl ?_
        refine k_min f92_31 rfl ?_
        rw [show (if (8 : Int32) < nI (cl (I 62 2)) then 8 else nI (cl (I 62 2))) = nI md from by rw [emd]; exact mn_nI (x := cl (I 62 2)) (b := 8) (by have := hO.2.2.1.2; omega) (by omega)]
        refine k_ishl f92_34 ?_
        rw [sh_1 md (by omega)]
        refine k_iconst (v := 1) f92_35 rfl ?_
        refine k_isub f92_36 ?_
        rw [show nI (2 ^ md) - 1 = nI (2 ^ md - 1) from pk_sub (b := 1) Nat.one_le_two_pow]
        refine k_istore (L' := [.ref 0, .int (2), .int (nI (2 ^ md - 1)), zU, zU, zU, zU]) f92_37 rfl rfl ?_
        refine k_iconst (v := 0) f92_38 rfl ?_
        refine k_istore (L' := [.ref 0, .int (2), .int (nI (2 ^ md - 1)), .int (0), zU, zU, zU]) f92_39 rfl rfl ?_
        refine lp_all (I0 := I) hR hS hmd9 (fun I1 u3 hv1 hf1 => ?_) (2 ^ md) 0 I (by omega) ⟨fun k hk => absurd hk (Nat.not_lt_zero _), fun _ _ _ => rfl⟩
        have kr1 : Kr I I1 := fun p k hp => hf1 p k (by omega)
        have hpl := hst.2.2.1.1
        have hn9 := hO.2.1.2
        have hst1 : StR I1 R G 17 pl (I 62) := hst.keep (by omega) Gk.rfl (fun p k _ hp => hf1 p k (by omega)) (fun _ _ _ _ => rfl)
        have hO1 : SOk (I 62) (cl (I1 0 4)) := by rw [kr1 0 4 (by omega)]; exact hO
        have hA1 : RuA I1 R G := RuA.kr kr1 ⟨hN1, hN3⟩
        refine k_iconst (v := 0) f92_58 rfl ?_
        refine k_istore (L' := [.ref 0, .int (2), .int (nI (2 ^ md - 1)), .int (0), zU, zU, zU]) f92_59 rfl rfl ?_
        refine lp_metC (d := 392) (I0 := I1) (md := md) hR hS hst1 hO1 hA1 hmd9 (fun I2 J2 R2 v3 v4 v5 v6 hc2 hps2 => ?_) (cl (I 62 1)) 0 I1 _ R _ _ _ (by omega) ⟨CFh.rfl, fun k hk => by rw [hv1 k hk, bI_v1 (show psA I1 (I 62) md 0 k = true from rfl)]⟩
        have hR2 : Rs R2 := hc2.rs hS hR
        refine k_iconst (v := 0) f92_121 rfl ?_
        refine k_istore (L' := [.ref 0, .int (2), .int (nI (2 ^ md - 1)), .int (0), v4, v5, v6]) f92_122 rfl rfl ?_
        refine k_iload f92_123 rfl ?_
        refine k_istore (L' := [.ref 0, .int (2), .int (nI (2 ^ md - 1)), .int (0), .int (nI (2 ^ md - 1)), v5, v6]) f92_124 rfl rfl ?_
        refine k_iconst (v := 0) f92_126 rfl ?_
        refine k_istore (L' := [.ref 0, .int (2), .int (nI (2 ^ md - 1)), .int (0), .int (nI (2 ^ md - 1)), .int (0), v6]) f92_127 rfl rfl ?_
        refine k_iconst (v := 0) f92_129 rfl ?_
        refine k_istore (L' := [.ref 0, .int (2), .int (nI (2 ^ md - 1)), .int (0), .int (nI (2 ^ md - 1)), .int (0), .int (0)]) f92_130 rfl rfl ?_
        obtain ⟨qf, eqf⟩ : ∃ qf, foL (mtS (psA I1 (I 62) md (cl (I 62 1)))) 0 (2 ^ md) (0, (nI (2 ^ md - 1), 0)) = qf := ⟨_, rfl⟩
        refine lp_cnt (md := md) (qf := qf) hR2 hS hmd9 hps2 (fun w6 => ?_) (2 ^ md) 0 (0, (nI (2 ^ md - 1), 0)) (by omega) eqf
        refine k_iload f92_171 rfl ?_
        refine k_if_eq f92_172 (fun h_ => absurd h_ (by decide)) (fun _ => ?_)
        refine k_iload f92_175 rfl ?_
        refine k_if_ne f92_176 (fun g0 => ?_) (fun g0 => ?_)
        · refine k_iload f92_181 rfl ?_
          refine k_iconst (v := 1) f92_182 rfl ?_
          refine k_ic_ne f92_183 (fun _ => ?_) (fun h_ => absurd (by decide) h_)
          refine k_iload f92_191 rfl ?_
          refine k_iload f92_192 rfl ?_
          refine k_iconst (v := (-1)) f92_194 rfl ?_
          refine k_ixor f92_195 ?_
          refine k_iand f92_196 ?_
          refine k_iret f92_197 rfl ⟨_, rfl, ?_⟩
          have kr2 := hc2.kr
          have hs2 : I2 62 = I 62 := (funext fun k => hc2.1 62 k (by omega)).trans (funext fun k => hf1 62 k (by omega))
          have hR : Rs R2 := hR2
          show zOk x 399 199 0 [.ref 51, .int (2), zU, zU, zU, zU, zU, zU] [] _ _
          refine k_aload f199_0 rfl ?_
          refine k_getr (q := 62) f199_1 hS.o51 rfl hR2.r51_25 ?_
          refine k_iconst (v := 0) f199_4 rfl ?_
          refine k_ia (k := 0) (w := I 62 0) f199_5 hS.a62 rfl (by decide) (by decide) (congrFun hs2 _) ?_
          refine k_if_eq f199_6 (fun h_ => absurd h_ ((fun e => hT (by rw [e]; decide)))) (fun _ => ?_)
          refine k_iload f199_9 rfl ?_
          refine k_i2l f199_10 ?_
          refine k_lconst (v := 0) f199_11 rfl ?_
          refine k_lconst (v := 2) f199_12 rfl ?_
          refine e_s (as := [.long (2), .long (0), .long ((2 : Int32).toInt64)]) (rest := []) f199_15 rfl rfl rfl (s_in (0) (2) rfl rfl) ?_
          refine k_bne f199_18 (fun _ => ?_) (fun h_ => absurd (by decide) h_)
          refine k_aload f199_23 rfl ?_
          refine k_getr (q := 62) f199_24 hS.o51 rfl hR2.r51_25 ?_
          refine k_iconst (v := 2) f199_27 rfl ?_
          refine k_ia (k := 2) (w := nI (cl (I 62 2))) f199_28 hS.a62 rfl (by decide) (by decide) ((congrFun hs2 2).trans hO.2.2.1.1) ?_
          refine k_iconst (v := 8) f199_29 rfl ?_
          refine k_ic_ge f199_31 (fun h_ => absurd h_ (nI_ge (b := 8) (by omega) (by omega))) (fun _ => ?_)
          refine k_aload f199_34 rfl ?_
          refine k_getr (q := 62) f199_35 hS.o51 rfl hR2.r51_25 ?_
          refine k_iconst (v := 2) f199_38 rfl ?_
          refine k_ia (k := 2) (w := nI (cl (I 62 2))) f199_39 hS.a62 rfl (by decide) (by decide) ((congrFun hs2 2).trans hO.2.2.1.1) ?_
          refine k_goto f199_40 ?_
          refine k_istore (L' := [.ref 51, .int (2), .int (nI (cl (I 62 2))), zU, zU, zU, zU, zU]) f199_45 rfl rfl ?_
          refine k_iconst (v := 1) f199_46 rfl ?_
          refine k_iload f199_47 rfl ?_
          refine k_ishl f199_48 ?_
          rw [show (1 : Int32) <<< (nI (cl (I 62 2)) &&& 31) = nI (2 ^ md) from by rw [show md = cl (I 62 2) from emd.trans (mn8.2.2 h8m)]; exact sh_1 _ (by omega)]
          refine k_iconst (v := 1) f199_49 rfl ?_
          refine k_isub f199_50 ?_
          rw [show nI (2 ^ md) - 1 = nI (2 ^ md - 1) from pk_sub (b := 1) Nat.one_le_two_pow]
          refine k_istore (L' := [.ref 51, .int (2), .int (nI (cl (I 62 2))), .int (nI (2 ^ md - 1)), zU, zU, zU, zU]) f199_51 rfl rfl ?_
          refine k_iconst (v := 0) f199_52 rfl ?_
          refine k_istore (L' := [.ref 51, .int (2), .int (nI (cl (I 62 2))), .int (nI (2 ^ md - 1)), .int (0), zU, zU, zU]) f199_53 rfl rfl ?_
          refine k_iload f199_55 rfl ?_
          refine k_istore (L' := [.ref 51, .int (2), .int (nI (cl (I 62 2))), .int (nI (2 ^ md - 1)), .int (0), .int (nI (2 ^ md - 1)), zU, zU]) f199_56 rfl rfl ?_
          refine k_iload f199_58 rfl ?_
          refine k_istore (L' := [.ref 51, .int (2), .int (nI (cl (I 62 2))), .int (nI (2 ^ md - 1)), .int (0), .int (nI (2 ^ md - 1)), .int (nI (2 ^ md - 1)), zU]) f199_59 rfl rfl ?_
          refine k_iconst (v := 0) f199_61 rfl ?_
          refine k_istore (L' := [.ref 51, .int (2), .int (nI (cl (I 62 2))), .int (nI (2 ^ md - 1)), .int (0), .int (nI (2 ^ md - 1)), .int (nI (2 ^ md - 1)), .int (0)]) f199_62 rfl rfl ?_
          have hO2 : SOk (I 62) (cl (I2 0 4)) := by rw [kr2 0 4 (by omega)]; exact hO1
          obtain ⟨qd, eqd⟩ : ∃ qd, foL (mtD (psA I2 (I 62) md (cl (I 62 1)))) 0 (2 ^ md) (0, (nI (2 ^ md - 1), nI (2 ^ md - 1))) = qd := ⟨_, rfl⟩
          have he := mt_eq (ps := psA I1 (I 62) md (cl (I 62 1))) (A := nI (2 ^ md - 1)) (2 ^ md) 0 (0, (nI (2 ^ md - 1), 0)) (0, (nI (2 ^ md - 1), nI (2 ^ md - 1))) rfl rfl (by show nI (2 ^ md - 1) = nI (2 ^ md - 1) &&& ((0 : Int32) ^^^ (-1)); rw [show (0 : Int32) ^^^ (-1) = -1 from by decide]; simp)
          rw [eqf, show psA I1 (I 62) md (cl (I 62 1)) = psA I2 (I 62) md (cl (I 62 1)) from funext fun k => (ps_kr kr2).symm, eqd] at he
          refine lp_cntD (d := 391) (I0 := I2) (s := I 62) (md := md) (qf := qd) hR2 hS hs2 hO2 (hc2.ra hA1) hmd9 (fun I3 J3 v7 hf3 => ?_) (2 ^ md) 0 (0, (nI (2 ^ md - 1), nI (2 ^ md - 1))) I2 _ (by omega) ⟨fun _ _ _ _ => rfl, eqd⟩
          refine k_iload f199_111 rfl ?_
          refine k_if_ne f199_112 (fun _ => ?_) (fun h_ => absurd (by decide) h_)
          refine k_iload f199_120 rfl ?_
          refine k_if_ne f199_122 (fun _ => ?_) (fun h_ => absurd ((fun q => g0 (he.1.symm.trans q))) h_)
          refine k_iload f199_129 rfl ?_
          refine k_iconst (v := 1) f199_130 rfl ?_
          refine k_ic_ne f199_131 (fun _ => ?_) (fun h_ => absurd (by decide) h_)
          refine k_iload f199_139 rfl ?_
          refine k_iret f199_141 rfl ⟨congrArg (fun t => some (Value.int t)) he.2.2, ?_⟩
          refine inv_q hI (by omega) (fun p k _ hs => ?_) (fun p k _ _ h => hc2.2 p k h)
          rw [hf3 p k (fun h => hs (by unfold sc0; omega)) (fun h => hs (by unfold sc0; omega)), hc2.1 p k (fun h => hs (by unfold sc0; omega)), hf1 p k (fun h => hs (by unfold sc0; omega))]
        · refine k_iload f92_179 rfl ?_
          refine k_iret f92_180 rfl ⟨_, rfl, ?_⟩
          have kr2 := hc2.kr
          have hs2 : I2 62 = I 62 := (funext fun k => hc2.1 62 k (by omega)).trans (funext fun k => hf1 62 k (by omega))
          have hR : Rs R2 := hR2
          show zOk x 399 199 0 [.ref 51, .int (2), zU, zU, zU, zU, zU, zU] [] _ _
          refine k_aload f199_0 rfl ?_
          refine k_getr (q := 62) f199_1 hS.o51 rfl hR2.r51_25 ?_
          refine k_iconst (v := 0) f199_4 rfl ?_
          refine k_ia (k := 0) (w := I 62 0) f199_5 hS.a62 rfl (by decide) (by decide) (congrFun hs2 _) ?_
          refine k_if_eq f199_6 (fun h_ => absurd h_ ((fun e => hT (by rw [e]; decide)))) (fun _ => ?_)
          refine k_iload f199_9 rfl ?_
          refine k_i2l f199_10 ?_
          refine k_lconst (v := 0) f199_11 rfl ?_
          refine k_lconst (v := 2) f199_12 rfl ?_
          refine e_s (as := [.long (2), .long (0), .long ((2 : Int32).toInt64)]) (rest := []) f199_15 rfl rfl rfl (s_in (0) (2) rfl rfl) ?_
          refine k_bne f199_18 (fun _ => ?_) (fun h_ => absurd (by decide) h_)
          refine k_aload f199_23 rfl ?_
          refine k_getr (q := 62) f199_24 hS.o51 rfl hR2.r51_25 ?_
          refine k_iconst (v := 2) f199_27 rfl ?_
          refine k_ia (k := 2) (w := nI (cl (I 62 2))) f199_28 hS.a62 rfl (by decide) (by decide) ((congrFun hs2 2).trans hO.2.2.1.1) ?_
          refine k_iconst (v := 8) f199_29 rfl ?_
          refine k_ic_ge f199_31 (fun h_ => absurd h_ (nI_ge (b := 8) (by omega) (by omega))) (fun _ => ?_)
          refine k_aload f199_34 rfl ?_
          refine k_getr (q := 62) f199_35 hS.o51 rfl hR2.r51_25 ?_
          refine k_iconst (v := 2) f199_38 rfl ?_
          refine k_ia (k := 2) (w := nI (cl (I 62 2))) f199_39 hS.a62 rfl (by decide) (by decide) ((congrFun hs2 2).trans hO.2.2.1.1) ?_
          refine k_goto f199_40 ?_
          refine k_istore (L' := [.ref 51, .int (2), .int (nI (cl (I 62 2))), zU, zU, zU, zU, zU]) f199_45 rfl rfl ?_
          refine k_iconst (v := 1) f199_46 rfl ?_
          refine k_iload f199_47 rfl ?_
          refine k_ishl f199_48 ?_
          rw [show (1 : Int32) <<< (nI (cl (I 62 2)) &&& 31) = nI (2 ^ md) from by rw [show md = cl (I 62 2) from emd.trans (mn8.2.2 h8m)]; exact sh_1 _ (by omega)]
          refine k_iconst (v := 1) f199_49 rfl ?_
          refine k_isub f199_50 ?_
          rw [show nI (2 ^ md) - 1 = nI (2 ^ md - 1) from pk_sub (b := 1) Nat.one_le_two_pow]
          refine k_istore (L' := [.ref 51, .int (2), .int (nI (cl (I 62 2))), .int (nI (2 ^ md - 1)), zU, zU, zU, zU]) f199_51 rfl rfl ?_
          refine k_iconst (v := 0) f199_52 rfl ?_
          refine k_istore (L' := [.ref 51, .int (2), .int (nI (cl (I 62 2))), .int (nI (2 ^ md - 1)), .int (0), zU, zU, zU]) f199_53 rfl rfl ?_
          refine k_iload f199_55 rfl ?_
          refine k_istore (L' := [.ref 51, .int (2), .int (nI (cl (I 62 2))), .int (nI (2 ^ md - 1)), .int (0), .int (nI (2 ^ md - 1)), zU, zU]) f199_56 rfl rfl ?_
          refine k_iload f199_58 rfl ?_
          refine k_istore (L' := [.ref 51, .int (2), .int (nI (cl (I 62 2))), .int (nI (2 ^ md - 1)), .int (0), .int (nI (2 ^ md - 1)), .int (nI (2 ^ md - 1)), zU]) f199_59 rfl rfl ?_
          refine k_iconst (v := 0) f199_61 rfl ?_
          refine k_istore (L' := [.ref 51, .int (2), .int (nI (cl (I 62 2))), .int (nI (2 ^ md - 1)), .int (0), .int (nI (2 ^ md - 1)), .int (nI (2 ^ md - 1)), .int (0)]) f199_62 rfl rfl ?_
          have hO2 : SOk (I 62) (cl (I2 0 4)) := by rw [kr2 0 4 (by omega)]; exact hO1
          obtain ⟨qd, eqd⟩ : ∃ qd, foL (mtD (psA I2 (I 62) md (cl (I 62 1)))) 0 (2 ^ md) (0, (nI (2 ^ md - 1), nI (2 ^ md - 1))) = qd := ⟨_, rfl⟩
          have he := mt_eq (ps := psA I1 (I 62) md (cl (I 62 1))) (A := nI (2 ^ md - 1)) (2 ^ md) 0 (0, (nI (2 ^ md - 1), 0)) (0, (nI (2 ^ md - 1), nI (2 ^ md - 1))) rfl rfl (by show nI (2 ^ md - 1) = nI (2 ^ md - 1) &&& ((0 : Int32) ^^^ (-1)); rw [show (0 : Int32) ^^^ (-1) = -1 from by decide]; simp)
          rw [eqf, show psA I1 (I 62) md (cl (I 62 1)) = psA I2 (I 62) md (cl (I 62 1)) from funext fun k => (ps_kr kr2).symm, eqd] at he
          refine lp_cntD (d := 391) (I0 := I2) (s := I 62) (md := md) (qf := qd) hR2 hS hs2 hO2 (hc2.ra hA1) hmd9 (fun I3 J3 v7 hf3 => ?_) (2 ^ md) 0 (0, (nI (2 ^ md - 1), nI (2 ^ md - 1))) I2 _ (by omega) ⟨fun _ _ _ _ => rfl, eqd⟩
          refine k_iload f199_111 rfl ?_
          refine k_if_ne f199_112 (fun _ => ?_) (fun h_ => absurd (by decide) h_)
          refine k_iload f199_120 rfl ?_
          refine k_if_ne f199_122 (fun h_ => absurd (he.1.trans (Classical.not_not.mp g0)) h_) (fun _ => ?_)
          refine k_iconst (v := 0) f199_125 rfl ?_
          refine k_goto f199_126 ?_
          refine k_iret f199_141 rfl ⟨congrArg (fun t => some (Value.int t)) (Classical.not_not.mp g0).symm, ?_⟩
          refine inv_q hI (by omega) (fun p k _ hs => ?_) (fun p k _ _ h => hc2.2 p k h)
          rw [hf3 p k (fun h => hs (by unfold sc0; omega)) (fun h => hs (by unfold sc0; omega)), hc2.1 p k (fun h => hs (by unfold sc0; omega)), hf1 p k (fun h => hs (by unfold sc0; omega))]
  · show zOk x 399 92 0 [.ref 0, .int (what), zU, zU, zU, zU, zU] [] _ _
    refine k_aload f92_0 rfl ?_
    refine e_v (as := []) (rest := []) f92_1 hS.o0 rfl rfl rfl (s_hasTown hR hS hst) ?_
    refine k_beq f92_4 (fun _ => ?_) (fun h_ => (absurd h_ (hT)))
    refine k_iconst (v := (-1)) f92_16 rfl ?_
    refine k_iret f92_17 rfl ⟨_, rfl, ?_⟩
    show zOk x 399 199 0 [.ref 51, .int (what), zU, zU, zU, zU, zU, zU] [] _ _
    refine k_aload f199_0 rfl ?_
    refine k_getr (q := 62) f199_1 hS.o51 rfl hR.r51_25 ?_
    refine k_iconst (v := 0) f199_4 rfl ?_
    refine k_ia (k := 0) (w := I 62 0) f199_5 hS.a62 rfl (by decide) (by decide) rfl ?_
    refine k_if_eq f199_6 (fun _ => ?_) (fun h_ => absurd (so_z hO.1 (by omega) hT) h_)
    refine k_iconst (v := (-1)) f199_21 rfl ?_
    refine k_iret f199_22 rfl ⟨rfl, ?_⟩
    exact inv_q hI (by omega) Kq.rfl KS.rfl
