/-! DEAR, the pair. -/
theorem lp_dearC {x : Nat × (Nat → Int32)} {d : Nat} {G : zG} {I0 : Nat → Nat → Int32} {R0 : Nat → Nat → Option Nat} {s : Nat → Int32} {pl mt : Nat} (hR0 : Rs R0) (hS : Sh G) (hst0 : StR I0 R0 G 17 pl s) (hO : SOk s (cl (I0 0 4))) (hA0 : RuA I0 R0 G) (hmt : mt < 24) : ∀ (f i : Nat) (I : Nat → Nat → Int32) (J : Nat → Nat → Int64) (R : Nat → Nat → Option Nat), i + f = cl (s 1) → CFr I0 R0 I R → zOk x (d + 7) 88 14 [.ref 0, .int (nI mt), .int (acc (fDe I0 s (2 ^ mt)) i), .int (nI i)] [] (I, J, R, G) (fun v mm => v = some (.int (acc (fDe I0 s (2 ^ mt)) (cl (s 1)))) ∧ ∃ I' J' R', mm = (I', J', R', G) ∧ CFr I0 R0 I' R') := by
  intro f
  induction f with
  | zero =>
    intro i I J R hi hz
    have hn9 := hO.2.1.2
    have hR := hz.rs hS hR0
    have hst := hz.st hst0 (by omega)
    have hA := hz.ra hA0
    have hO1 : SOk s (cl (I 0 4)) := by rw [hz.1 0 4 (by omega)]; exact hO
    have kr := hz.kr
    have en : I pl 2 = nI (cl (s 1)) := hst.2.2.2.1.2.2.1.trans hO.2.1.1
    have g31 : 2 ^ mt < 2 ^ 31 := Nat.pow_lt_pow_right (by omega) (by omega)
    refine k_iload f88_14 rfl ?_
    refine k_aload f88_15 rfl ?_
    refine k_getr (q := 17) f88_16 hS.o0 rfl hR.r0_5 ?_
    refine k_getr (q := pl) f88_19 hS.o17 rfl hst.2.1 ?_
    refine k_gI (w := nI (cl (s 1))) f88_22 hst.2.2.1.2.1 rfl en ?_
    refine k_ic_ge f88_25 (fun _ => ?_) (fun h_ => absurd (nI_le (by omega) (by omega)) h_)
    refine k_iload f88_78 rfl ?_
    exact k_iret f88_79 rfl ⟨by rw [show i = cl (s 1) by omega], I, J, R, rfl, hz⟩
  | succ f ih =>
    intro i I J R hi hz
    have hn9 := hO.2.1.2
    have hR := hz.rs hS hR0
    have hst := hz.st hst0 (by omega)
    have hA := hz.ra hA0
    have hO1 : SOk s (cl (I 0 4)) := by rw [hz.1 0 4 (by omega)]; exact hO
    have kr := hz.kr
    have en : I pl 2 = nI (cl (s 1)) := hst.2.2.2.1.2.2.1.trans hO.2.1.1
    have g31 : 2 ^ mt < 2 ^ 31 := Nat.pow_lt_pow_right (by omega) (by omega)
    have hin : i < cl (s 1) := by omega
    have hi8 : i < 8 := by omega
    by_cases hG : s 3 - s (8 + 6 * i + 2) ≤ s 7 ∧ (FDk I0 s i (2 ^ mt)).1 = -2
    · by_cases hZ : s 3 - s (8 + 6 * i + 2) ≤ s 7 ∧ (FDk I0 s i 0).1 = -2
      · refine k_iload f88_14 rfl ?_
        refine k_aload f88_15 rfl ?_
        refine k_getr (q := 17) f88_16 hS.o0 rfl hR.r0_5 ?_
        refine k_getr (q := pl) f88_19 hS.o17 rfl hst.2.1 ?_
        refine k_gI (w := nI (cl (s 1))) f88_22 hst.2.2.1.2.1 rfl en ?_
        refine k_ic_ge f88_25 (fun h_ => absurd h_ (nI_ge hin (by omega))) (fun _ => ?_)
        refine k_aload f88_28 rfl ?_
        refine k_iload f88_29 rfl ?_
        refine k_callv (as := [.int (nI i)]) (rest := []) f88_30 hS.o0 rfl rfl rfl rfl (q_layWays (c := i) hR hS hst hO1 hA hin) ?_
        rintro _ _ ⟨rfl, I1, J1, R1, bo, rfl, hl1, hc1⟩
        have hR1 : Rs R1 := hc1.rs hS hR
        refine k_aload f88_33 rfl ?_
        refine k_getr (q := 43) f88_34 hS.o0 rfl hR1.r0_11 ?_
        refine k_iconst (v := 1) f88_37 rfl ?_
        refine k_iload f88_38 rfl ?_
        refine k_ishl f88_39 ?_
        rw [sh_1 mt (by omega)]
        refine k_callv (as := [.int (nI (2 ^ mt))]) (rest := []) f88_40 hS.o43 rfl rfl rfl rfl (q_lostC (g := 2 ^ mt) hR1 hS hO hin g31 hl1) ?_
        rintro _ _ ⟨rfl, I2, rfl, h9, hf2⟩
        rw [FDk_kr kr] at h9 ⊢
        have hc2 : CFr I0 R0 I2 R1 := hz.trans (hc1.trans ⟨fun p k hp => hf2 p k (by omega), fun _ _ _ => rfl⟩)
        have hl2 : LDc I I2 R1 G pl s bo i := LD.keep hl1 (by omega) (Or.inr (by omega)) fun p k _ h => hf2 p k h
        refine k_beq f88_43 (fun h_ => absurd (hG) h_) (fun _ => ?_)
        refine k_aload f88_46 rfl ?_
        refine k_getr (q := 43) f88_47 hS.o0 rfl hR1.r0_11 ?_
        refine k_iconst (v := 0) f88_50 rfl ?_
        refine k_callv (as := [.int (0)]) (rest := []) f88_51 hS.o43 rfl rfl rfl rfl (q_lostC (g := 0) hR1 hS hO hin (by omega) hl2) ?_
        rintro _ _ ⟨rfl, I3, rfl, h9b, hf3⟩
        rw [FDk_kr kr] at h9b ⊢
        have hc3 : CFr I0 R0 I3 R1 := hc2.trans ⟨fun p k hp => hf3 p k (by omega), fun _ _ _ => rfl⟩
        have hst3 := hc3.st hst0 (by omega)
        refine k_bne f88_54 (fun _ => ?_) (fun h_ => absurd (hZ) h_)
        refine k_iinc (w := nI (i + 1)) (L' := [.ref 0, .int (nI mt), .int (acc (fDe I0 s (2 ^ mt)) i), .int (nI (i + 1))]) f88_72 rfl (nI_1 i) rfl rfl ?_
        refine k_goto f88_75 ?_
        rw [show (acc (fDe I0 s (2 ^ mt)) i) = acc (fDe I0 s (2 ^ mt)) (i + 1) from by rw [acc_s, fDe, if_neg (fun q => q.2 hZ)]]
        exact ih (i + 1) I3 J1 R1 (by omega) hc3
      · refine k_iload f88_14 rfl ?_
        refine k_aload f88_15 rfl ?_
        refine k_getr (q := 17) f88_16 hS.o0 rfl hR.r0_5 ?_
        refine k_getr (q := pl) f88_19 hS.o17 rfl hst.2.1 ?_
        refine k_gI (w := nI (cl (s 1))) f88_22 hst.2.2.1.2.1 rfl en ?_
        refine k_ic_ge f88_25 (fun h_ => absurd h_ (nI_ge hin (by omega))) (fun _ => ?_)
        refine k_aload f88_28 rfl ?_
        refine k_iload f88_29 rfl ?_
        refine k_callv (as := [.int (nI i)]) (rest := []) f88_30 hS.o0 rfl rfl rfl rfl (q_layWays (c := i) hR hS hst hO1 hA hin) ?_
        rintro _ _ ⟨rfl, I1, J1, R1, bo, rfl, hl1, hc1⟩
        have hR1 : Rs R1 := hc1.rs hS hR
        refine k_aload f88_33 rfl ?_
        refine k_getr (q := 43) f88_34 hS.o0 rfl hR1.r0_11 ?_
        refine k_iconst (v := 1) f88_37 rfl ?_
        refine k_iload f88_38 rfl ?_
        refine k_ishl f88_39 ?_
        rw [sh_1 mt (by omega)]
        refine k_callv (as := [.int (nI (2 ^ mt))]) (rest := []) f88_40 hS.o43 rfl rfl rfl rfl (q_lostC (g := 2 ^ mt) hR1 hS hO hin g31 hl1) ?_
        rintro _ _ ⟨rfl, I2, rfl, h9, hf2⟩
        rw [FDk_kr kr] at h9 ⊢
        have hc2 : CFr I0 R0 I2 R1 := hz.trans (hc1.trans ⟨fun p k hp => hf2 p k (by omega), fun _ _ _ => rfl⟩)
        have hl2 : LDc I I2 R1 G pl s bo i := LD.keep hl1 (by omega) (Or.inr (by omega)) fun p k _ h => hf2 p k h
        refine k_beq f88_43 (fun h_ => absurd (hG) h_) (fun _ => ?_)
        refine k_aload f88_46 rfl ?_
        refine k_getr (q := 43) f88_47 hS.o0 rfl hR1.r0_11 ?_
        refine k_iconst (v := 0) f88_50 rfl ?_
        refine k_callv (as := [.int (0)]) (rest := []) f88_51 hS.o43 rfl rfl rfl rfl (q_lostC (g := 0) hR1 hS hO hin (by omega) hl2) ?_
        rintro _ _ ⟨rfl, I3, rfl, h9b, hf3⟩
        rw [FDk_kr kr] at h9b ⊢
        have hc3 : CFr I0 R0 I3 R1 := hc2.trans ⟨fun p k hp => hf3 p k (by omega), fun _ _ _ => rfl⟩
        have hst3 := hc3.st hst0 (by omega)
        refine k_bne f88_54 (fun h_ => absurd h_ (hZ)) (fun _ => ?_)
        refine k_iload f88_57 rfl ?_
        refine k_aload f88_58 rfl ?_
        refine k_getr (q := 17) f88_59 hS.o0 rfl hR1.r0_5 ?_
        refine k_getr (q := 18) f88_62 hS.o17 rfl hR1.r17_5 ?_
        refine k_iload f88_65 rfl ?_
        refine k_aar (k := i) (q := 17 + 2 + i) f88_66 hS.a18 rfl rfl (by omega) (by decide) (hst3.1.2.2.2 i hi8).1 ?_
        refine k_gI (w := s (8 + 6 * i)) f88_67 (hst.1.2.2.2 i hi8).2 rfl (hst3.2.2.2.2.2.2.2.2 i hin).1 ?_
        refine k_iadd f88_70 ?_
        refine k_istore (L' := [.ref 0, .int (nI mt), .int ((acc (fDe I0 s (2 ^ mt)) i) + (s (8 + 6 * i))), .int (nI i)]) f88_71 rfl rfl ?_
        refine k_iinc (w := nI (i + 1)) (L' := [.ref 0, .int (nI mt), .int ((acc (fDe I0 s (2 ^ mt)) i) + (s (8 + 6 * i))), .int (nI (i + 1))]) f88_72 rfl (nI_1 i) rfl rfl ?_
        refine k_goto f88_75 ?_
        rw [show ((acc (fDe I0 s (2 ^ mt)) i) + (s (8 + 6 * i))) = acc (fDe I0 s (2 ^ mt)) (i + 1) from by rw [acc_s, fDe, if_pos ⟨hG, hZ⟩]]
        exact ih (i + 1) I3 J1 R1 (by omega) hc3
    · refine k_iload f88_14 rfl ?_
      refine k_aload f88_15 rfl ?_
      refine k_getr (q := 17) f88_16 hS.o0 rfl hR.r0_5 ?_
      refine k_getr (q := pl) f88_19 hS.o17 rfl hst.2.1 ?_
      refine k_gI (w := nI (cl (s 1))) f88_22 hst.2.2.1.2.1 rfl en ?_
      refine k_ic_ge f88_25 (fun h_ => absurd h_ (nI_ge hin (by omega))) (fun _ => ?_)
      refine k_aload f88_28 rfl ?_
      refine k_iload f88_29 rfl ?_
      refine k_callv (as := [.int (nI i)]) (rest := []) f88_30 hS.o0 rfl rfl rfl rfl (q_layWays (c := i) hR hS hst hO1 hA hin) ?_
      rintro _ _ ⟨rfl, I1, J1, R1, bo, rfl, hl1, hc1⟩
      have hR1 : Rs R1 := hc1.rs hS hR
      refine k_aload f88_33 rfl ?_
      refine k_getr (q := 43) f88_34 hS.o0 rfl hR1.r0_11 ?_
      refine k_iconst (v := 1) f88_37 rfl ?_
      refine k_iload f88_38 rfl ?_
      refine k_ishl f88_39 ?_
      rw [sh_1 mt (by omega)]
      refine k_callv (as := [.int (nI (2 ^ mt))]) (rest := []) f88_40 hS.o43 rfl rfl rfl rfl (q_lostC (g := 2 ^ mt) hR1 hS hO hin g31 hl1) ?_
      rintro _ _ ⟨rfl, I2, rfl, h9, hf2⟩
      rw [FDk_kr kr] at h9 ⊢
      have hc2 : CFr I0 R0 I2 R1 := hz.trans (hc1.trans ⟨fun p k hp => hf2 p k (by omega), fun _ _ _ => rfl⟩)
      have hl2 : LDc I I2 R1 G pl s bo i := LD.keep hl1 (by omega) (Or.inr (by omega)) fun p k _ h => hf2 p k h
      refine k_beq f88_43 (fun _ => ?_) (fun h_ => (absurd h_ (hG)))
      refine k_iinc (w := nI (i + 1)) (L' := [.ref 0, .int (nI mt), .int (acc (fDe I0 s (2 ^ mt)) i), .int (nI (i + 1))]) f88_72 rfl (nI_1 i) rfl rfl ?_
      refine k_goto f88_75 ?_
      rw [show (acc (fDe I0 s (2 ^ mt)) i) = acc (fDe I0 s (2 ^ mt)) (i + 1) from by rw [acc_s, fDe, if_neg (fun q => hG q.1)]]
      exact ih (i + 1) I2 J1 R1 (by omega) hc2
theorem op_dear {x : Nat × (Nat → Int32)} (meeting : Int32) : Op Inv x 88 193 [.int meeting] := by
  refine Op.of2 fun j I J R G hj hI => ?_
  have hS : Sh G := hI.1
  have hR : Rs R := hI.2.1
  have hT1 : Rg (I 9 1) 401 := hI.2.2.2.2.1.1
  have hT2 : I 51 1 = I 9 1 := hI.2.2.2.2.1.2.1
  have hN1 : Rg (I 0 4) 7 := hI.2.2.2.2.2.1.1
  have hN2 : I 51 2 = I 0 4 := hI.2.2.2.2.2.1.2.1
  have hN3 : ∀ t, t < cl (I 0 4) → ∃ r, R 16 t = some r ∧ RuR I R G t r := hI.2.2.2.2.2.1.2.2
  obtain ⟨pl, hst⟩ : ∃ pl, StR I R G 17 pl (I 62) := hI.2.2.2.2.2.2.1
  have hO : SOk (I 62) (cl (I 0 4)) := hI.2.2.2.2.2.2.2.1
  by_cases hc : ¬ meeting < 0 ∧ ¬ I 62 2 ≤ meeting
  · obtain ⟨mt, hmt, rfl⟩ := ix_of hO.2.2.1 (by omega) hc
    have hm25 := hO.2.2.1.2
    have hn9 := hO.2.1.2
    show zOk x 399 88 0 [.ref 0, .int (nI mt), zU, zU] [] _ _
    refine k_aload f88_0 rfl ?_
    refine k_iload f88_1 rfl ?_
    refine e_v (as := [.int (nI mt)]) (rest := []) f88_2 hS.o0 rfl rfl rfl (s_hasMeeting hR hS hst) ?_
    refine k_bne f88_5 (fun _ => ?_) (fun h_ => absurd (hc) h_)
    refine k_iconst (v := 0) f88_10 rfl ?_
    refine k_istore (L' := [.ref 0, .int (nI mt), .int (0), zU]) f88_11 rfl rfl ?_
    refine k_iconst (v := 0) f88_12 rfl ?_
    refine k_istore (L' := [.ref 0, .int (nI mt), .int (0), .int (0)]) f88_13 rfl rfl ?_
    refine zOk.imp (lp_dearC (d := 392) (mt := mt) hR hS hst hO ⟨hN1, hN3⟩ (by omega) (cl (I 62 1)) 0 I J R (by omega) CFr.rfl) ?_
    rintro _ _ ⟨rfl, I2, J2, R2, rfl, hc2⟩
    refine ⟨_, rfl, ?_⟩
    have hR2 : Rs R2 := hc2.rs hS hR
    have hs2 : I2 62 = I 62 := funext fun k => hc2.1 62 k (by omega)
    have g31 : 2 ^ mt < 2 ^ 31 := Nat.pow_lt_pow_right (by omega) (by omega)
    have bz : ∀ g, ∃ k, k < 2 ^ cl (I 62 1) ∧ acc (fL I (I 62) g) (cl (I 62 1)) = nI k ∧ ∀ c, k.testBit c = true ↔ c < cl (I 62 1) ∧ (I 62 3 - I 62 (8 + 6 * c + 2) ≤ I 62 7 ∧ (FDk I (I 62) c g).1 = -2) := fun g => bits_eq (fun c a h => if_pos h) (fun c a h => if_neg h) _ (by omega)
    obtain ⟨kg, kg1, kg2, kg3⟩ := bz (2 ^ mt)
    obtain ⟨k0, k01, k02, k03⟩ := bz 0
    have hde := dear_eq hO kg3 k03 _ (Nat.le_refl _)
    have lg := lt_1024 kg1 (by omega)
    have l0 := lt_1024 k01 (by omega)
    show zOk x 399 193 0 [.ref 51, .int (nI mt)] [] _ _
    refine k_iload f193_0 rfl ?_
    refine k_i2l f193_1 ?_
    refine k_lconst (v := 0) f193_2 rfl ?_
    refine k_aload f193_3 rfl ?_
    refine k_getr (q := 62) f193_4 hS.o51 rfl hR2.r51_25 ?_
    refine k_iconst (v := 2) f193_7 rfl ?_
    refine k_ia (k := 2) (w := I 62 2) f193_8 hS.a62 rfl (by decide) (by decide) (congrFun hs2 2) ?_
    refine k_iconst (v := 1) f193_9 rfl ?_
    refine k_isub f193_10 ?_
    refine k_i2l f193_11 ?_
    refine e_s (as := [.long (((I 62 2) - (1)).toInt64), .long (0), .long ((nI mt).toInt64)]) (rest := []) f193_12 rfl rfl rfl (s_in (0) ((I 62 2) - (1)) rfl rfl) ?_
    refine k_bne f193_15 (fun _ => ?_) (fun h_ => absurd (((in_pred hO.2.2.1 (by omega)).mpr hc)) h_)
    refine k_aload f193_20 rfl ?_
    refine k_aload f193_21 rfl ?_
    refine k_iconst (v := 1) f193_22 rfl ?_
    refine k_iload f193_23 rfl ?_
    refine k_ishl f193_24 ?_
    rw [sh_1 mt (by omega)]
    refine k_callv (as := [.int (nI (2 ^ mt))]) (rest := [.ref 51]) f193_25 hS.o51 rfl rfl rfl rfl (q_lostOnes (g := 2 ^ mt) (s := I 62) hR2 hS hs2 (by rw [hc2.1 0 4 (by omega)]; exact hO) (hc2.ra ⟨hN1, hN3⟩) g31) ?_
    rintro _ _ ⟨rfl, I3, J3, rfl, hf3⟩
    rw [show fL I2 (I 62) (2 ^ mt) = fL I (I 62) (2 ^ mt) from funext fun c => funext fun a => by unfold fL; rw [FDk_kr hc2.kr], kg2]
    have hs3 : I3 62 = I 62 := (funext fun k => hf3 62 k (by omega) (by omega)).trans hs2
    refine e_v (as := [.int (nI kg)]) (rest := []) f193_28 hS.o51 rfl rfl rfl (s_worthOf (k := kg) (n := cl (I 62 1)) (s := I 62) hR2 hS hs3 hO.2.1.1 (by omega) (by omega)) ?_
    refine k_aload f193_31 rfl ?_
    refine k_aload f193_32 rfl ?_
    refine k_iconst (v := 0) f193_33 rfl ?_
    refine k_callv (as := [.int (0)]) (rest := [.ref 51, .int (acc (fW (I 62) kg) (cl (I 62 1)))]) f193_34 hS.o51 rfl rfl rfl rfl (q_lostOnes (g := 0) (s := I 62) hR2 hS hs3 (by rw [hf3.kr 0 4 (by omega), hc2.1 0 4 (by omega)]; exact hO) ((hc2.ra ⟨hN1, hN3⟩).kr hf3.kr) (by omega)) ?_
    rintro _ _ ⟨rfl, I4, J4, rfl, hf4⟩
    rw [show fL I3 (I 62) 0 = fL I (I 62) 0 from funext fun c => funext fun a => by unfold fL; rw [FDk_kr (hc2.kr.trans hf3.kr)], k02]
    have hs4 : I4 62 = I 62 := (funext fun k => hf4 62 k (by omega) (by omega)).trans hs3
    refine e_v (as := [.int (nI k0)]) (rest := [.int (acc (fW (I 62) kg) (cl (I 62 1)))]) f193_37 hS.o51 rfl rfl rfl (s_worthOf (k := k0) (n := cl (I 62 1)) (s := I 62) hR2 hS hs4 hO.2.1.1 (by omega) (by omega)) ?_
    refine k_isub f193_40 ?_
    exact k_iret f193_41 rfl ⟨congrArg (fun t => some (Value.int t)) (by rw [hde, Int32.add_comm]; exact Int32.add_sub_cancel _ _), inv_se hI hc2 (hf3.trans hf4)⟩
  · show zOk x 399 88 0 [.ref 0, .int (meeting), zU, zU] [] _ _
    refine k_aload f88_0 rfl ?_
    refine k_iload f88_1 rfl ?_
    refine e_v (as := [.int (meeting)]) (rest := []) f88_2 hS.o0 rfl rfl rfl (s_hasMeeting hR hS hst) ?_
    refine k_bne f88_5 (fun h_ => absurd h_ (hc)) (fun _ => ?_)
    refine k_iconst (v := (-1)) f88_8 rfl ?_
    refine k_iret f88_9 rfl ⟨_, rfl, ?_⟩
    show zOk x 399 193 0 [.ref 51, .int (meeting)] [] _ _
    refine k_iload f193_0 rfl ?_
    refine k_i2l f193_1 ?_
    refine k_lconst (v := 0) f193_2 rfl ?_
    refine k_aload f193_3 rfl ?_
    refine k_getr (q := 62) f193_4 hS.o51 rfl hR.r51_25 ?_
    refine k_iconst (v := 2) f193_7 rfl ?_
    refine k_ia (k := 2) (w := I 62 2) f193_8 hS.a62 rfl (by decide) (by decide) rfl ?_
    refine k_iconst (v := 1) f193_9 rfl ?_
    refine k_isub f193_10 ?_
    refine k_i2l f193_11 ?_
    refine e_s (as := [.long (((I 62 2) - (1)).toInt64), .long (0), .long ((meeting).toInt64)]) (rest := []) f193_12 rfl rfl rfl (s_in (0) ((I 62 2) - (1)) rfl rfl) ?_
    refine k_bne f193_15 (fun h_ => absurd h_ ((fun k => hc ((in_pred hO.2.2.1 (by omega)).mp k)))) (fun _ => ?_)
    refine k_iconst (v := (-1)) f193_18 rfl ?_
    refine k_iret f193_19 rfl ⟨rfl, ?_⟩
    exact inv_q hI (by omega) Kq.rfl KS.rfl
