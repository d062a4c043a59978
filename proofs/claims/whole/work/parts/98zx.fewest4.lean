/-! FEWEST, the pair. -/
def FWk (b : Nat → Nat → Int32) (s : Nat → Int32) (c : Nat) : Nat := FW (baB b (s 6)) s (cl (s 1)) (cl (s 2)) (nI c) (s (8 + 6 * c)) (s (8 + 6 * c + 2)) (s 3) (cl (s (8 + 6 * c + 1))) (cl (s (8 + 6 * c + 3)))
def hoK (b : Nat → Nat → Int32) (s : Nat → Int32) (c : Nat) : Bool := hoB (baB b (s 6)) s (cl (s 1)) (nI c) (s (8 + 6 * c)) (s (8 + 6 * c + 2)) (s 3) (s (8 + 6 * c + 4)) (cl (s (8 + 6 * c + 1))) (cl (s (8 + 6 * c + 3)))
theorem sew {b : Nat → Nat → Int32} {s : Nat → Int32} {rn c : Nat} (h : SOk s rn) (hc : c < cl (s 1)) : (hoK b s c = true → (SEk b s c 0).2.2.2 = 0) ∧ (¬ hoK b s c = true → FWk b s c = far (SEk b s c 0).2.2.2 ∧ ((SEk b s c 0).2.2.2 = 1000000 ∨ (SEk b s c 0).2.2.2 < 1000)) := by
  have k := h.2.2.2.2.2.2.2.1 c hc
  have := h.1.2
  have hp := k.2.1.2
  have hm := h.2.2.1.2
  refine SE_FW h.md (fun j hj e => ?_) (by omega) (k.2.2.1.le (by omega)) h.2.2.2.2.2.2.1 (by omega) k.2.2.2.2.2.2.2.2
  have g := h.2.2.2.2.2.2.2.2 j hj
  exact g.2.2.2 (rg_eq g.2.1 g.2.2.1 e)
theorem q_few {x : Nat × (Nat → Int32)} {d : Nat} {I : Nat → Nat → Int32} {J : Nat → Nat → Int64} {R : Nat → Nat → Option Nat} {G : zG} {b : Nat → Nat → Int32} {pl c rn : Nat} {s : Nat → Int32} {bo : Option Nat} (hR : Rs R) (hS : Sh G) (hO : SOk s rn) (hc : c < cl (s 1)) (hl : LDc b I R G pl s bo c) : zOk x (d + 1) 69 0 [.ref 43, zU, zU, zU, zU, zU, zU, zU] [] (I, J, R, G) (fun v mm => v = some (.int (if hoK b s c = true then (0 : Int32) else if FWk b s c < 1000 then nI (FWk b s c) else -2)) ∧ ∃ I', mm = (I', J, R, G) ∧ ∀ p k, p ≠ 46 → I' p k = I p k) := by
  have hn9 := hO.2.1.2
  have hm25 := hO.2.2.1.2
  have h11 := hO.1.2
  have cok := (hO.2.2.2.2.2.2.2.1 c hc).2.1
  have hp10 : cl (s (8 + 6 * c + 1)) < 10 := by have := cok.2; omega
  have hw := hl.1
  have hst := hw.1
  have hpl := hst.2.2.1.1
  have r3 := hl.2.2.2.2
  have h6 : I 43 6 = bI (hoK b s c = true) := hl.2.2.1
  have hzq : zo G (17 + 2 + c) 1 := (hst.1.2.2.2 c (by omega)).2
  by_cases hb : hoK b s c = true
  · refine k_aload f69_0 rfl ?_
    refine k_gI (w := 1) f69_1 hS.o43 rfl (h6.trans (bI_v1 hb)) ?_
    refine k_if_eq f69_4 (fun h_ => absurd h_ (by decide)) (fun _ => ?_)
    refine k_iconst (v := 0) f69_7 rfl ?_
    exact k_iret f69_8 rfl ⟨by rw [if_pos hb], I, rfl, fun _ _ _ => rfl⟩
  · refine k_aload f69_0 rfl ?_
    refine k_gI (w := 0) f69_1 hS.o43 rfl (h6.trans (bI_v0 hb)) ?_
    refine k_if_eq f69_4 (fun _ => ?_) (fun h_ => absurd (by decide) h_)
    refine k_aload f69_9 rfl ?_
    refine k_getr (q := 46) f69_10 hS.o43 rfl hR.r43_10 ?_
    refine k_iconst (v := 1000) f69_13 rfl ?_
    refine k_calls (as := [.int (1000), .ref 46]) (rest := []) f69_16 rfl rfl rfl rfl (q_fill (q := 46) (N := 10) (v := 1000) hS.a46 (by omega)) ?_
    rintro _ _ ⟨rfl, I1, rfl, hv1, hf1⟩
    refine k_aload f69_19 rfl ?_
    refine k_getr (q := 46) f69_20 hS.o43 rfl hR.r43_10 ?_
    refine k_aload f69_23 rfl ?_
    refine k_getr (q := 17 + 2 + c) f69_24 hS.o43 rfl r3 ?_
    refine k_gI (w := nI (cl (s (8 + 6 * c + 1)))) f69_27 hzq rfl ((hf1 _ _ (by omega)).trans hw.2.2.2.1) ?_
    refine k_iconst (v := 0) f69_30 rfl ?_
    refine k_is (k := (cl (s (8 + 6 * c + 1)))) f69_31 hS.a46 rfl (by omega) (by decide) ?_
    refine k_iconst (v := 1000) f69_32 rfl ?_
    refine k_istore (L' := [.ref 43, .int (1000), zU, zU, zU, zU, zU, zU]) f69_35 rfl rfl ?_
    refine k_aload f69_36 rfl ?_
    refine k_getr (q := 17) f69_37 hS.o43 rfl hR.r43_1 ?_
    refine k_getr (q := pl) f69_40 hS.o17 rfl hst.2.1 ?_
    refine k_astore (L' := [.ref 43, .int (1000), .ref pl, zU, zU, zU, zU, zU]) f69_43 rfl rfl ?_
    refine k_iconst (v := 0) f69_44 rfl ?_
    refine k_istore (L' := [.ref 43, .int (1000), .ref pl, .int (0), zU, zU, zU, zU]) f69_45 rfl rfl ?_
    obtain ⟨I2, eI2⟩ : ∃ I2, I2 = z_u I1 46 (cl (s (8 + 6 * c + 1))) 0 := ⟨_, rfl⟩
    rw [← eI2]
    have f2 : ∀ p k, p ≠ 46 → I2 p k = I p k := fun p k h => by rw [eI2, z_u_p _ _ _ _ h]; exact hf1 p k h
    have c2 : cl (s 2) = cl (s 2) := rfl
    have hst2 : StR I2 R G 17 pl s := hst.keep (by omega) Gk.rfl (fun p k _ hp => f2 p k (by omega)) (fun _ _ _ _ => rfl)
    have hoj : ∀ k, k < cl (s 2) → mO s (cl (s 2)) k < cl (s 2) := fun k hk => ordK_lt hk
    refine zOk.imp (lp_fw (I0 := I2) (om := mO s (cl (s 2))) (oa := fun k => mA s (mO s (cl (s 2)) k)) (ob := fun k => mB s (mO s (cl (s 2)) k)) (w1 := fun k => wyV (baB b (s 6)) s (cl (s 1)) (nI c) (s (8 + 6 * c)) (s (8 + 6 * c + 2)) (s 3) (cl (s (8 + 6 * c + 3))) (mA s (mO s (cl (s 2)) k)) (mB s (mO s (cl (s 2)) k)) (s (56 + 3 * mO s (cl (s 2)) k))) (w2 := fun k => wyV (baB b (s 6)) s (cl (s 1)) (nI c) (s (8 + 6 * c)) (s (8 + 6 * c + 2)) (s 3) (cl (s (8 + 6 * c + 3))) (mB s (mO s (cl (s 2)) k)) (mA s (mO s (cl (s 2)) k)) (s (56 + 3 * mO s (cl (s 2)) k))) hR hS hst2 (by omega) hO.2.2.1.1 (by omega) (fun k hk => ⟨(hst2.2.2.2.1.2.2.2.2 k hk).2.2.2, hoj k hk⟩) (fun k hk => ⟨(hO.mw.2.2 _ (hoj k hk)).1.1, (hO.md _ (hoj k hk)).2.1⟩) (fun k hk => ⟨(hO.mw.2.2 _ (hoj k hk)).2.1.1, (hO.md _ (hoj k hk)).2.2⟩) (fun k hk => ⟨(f2 _ _ (by omega)).trans (hl.2.1 k hk).1, wyV_le⟩) (fun k hk => ⟨(f2 _ _ (by omega)).trans (hl.2.1 k hk).2, wyV_le⟩) (cl (s 2)) 0 (fun q => if q = cl (s (8 + 6 * c + 1)) then 0 else 1000, 1000) I2 _ _ _ _ (by omega) ⟨⟨fun q hq => ?_, Nat.le_refl _⟩, fun _ _ _ => rfl⟩) ?_
    · show _ = nI (if q = cl (s (8 + 6 * c + 1)) then 0 else 1000) ∧ (if q = cl (s (8 + 6 * c + 1)) then 0 else 1000) ≤ 1000
      by_cases e : q = cl (s (8 + 6 * c + 1))
      · rw [if_pos e, eI2, e, z_u_same]
        exact ⟨rfl, by omega⟩
      · rw [if_neg e, eI2, z_u_k _ _ _ e]
        exact ⟨hv1 q hq, Nat.le_refl _⟩
    · rintro _ _ ⟨rfl, I3, rfl, hf3⟩
      refine ⟨?_, I3, rfl, fun p k h => (hf3 p k h).trans (f2 p k h)⟩
      have ef := foL_fw (w1 := fun j => wyV (baB b (s 6)) s (cl (s 1)) (nI c) (s (8 + 6 * c)) (s (8 + 6 * c + 2)) (s 3) (cl (s (8 + 6 * c + 3))) (mA s j) (mB s j) (s (56 + 3 * j))) (w2 := fun j => wyV (baB b (s 6)) s (cl (s 1)) (nI c) (s (8 + 6 * c)) (s (8 + 6 * c + 2)) (s 3) (cl (s (8 + 6 * c + 3))) (mB s j) (mA s j) (s (56 + 3 * j))) (s := s) (m := cl (s 2)) (cl (s 2)) 0 (fun q => if q = cl (s (8 + 6 * c + 1)) then 0 else 1000, 1000) (by omega)
      rw [if_neg hb, ef]
      rfl
theorem op_fewest {x : Nat × (Nat → Int32)} (coin : Int32) : Op Inv x 85 188 [.int coin] := by
  refine Op.of2 fun j I J R G hj hI => ?_
  have hS : Sh G := hI.1
  have hR : Rs R := hI.2.1
  have hT1 : Rg (I 9 1) 401 := hI.2.2.2.2.1.1
  have hT2 : I 51 1 = I 9 1 := hI.2.2.2.2.1.2.1
  have hN1 : Rg (I 0 4) 7 := hI.2.2.2.2.2.1.1
  have hN2 : I 51 2 = I 0 4 := hI.2.2.2.2.2.1.2.1
  have hN3 : ∀ t, t < cl (I 0 4) → ∃ r, R 16 t = some r ∧ RuR I R G t r := hI.2.2.2.2.2.1.2.2
  obtain ⟨pl, hst⟩ : ∃ pl, StR I R G 17 pl (I 62) := hI.2.2.2.2.2.2.1
  have hO : SOk (I 62) (cl (I 0 4)) := hI.2.2.2.2.2.2.2.1
  by_cases hc : ¬ coin < 0 ∧ ¬ I 62 1 ≤ coin
  · obtain ⟨c, hcn, rfl⟩ := ix_of hO.2.1 (by omega) hc
    have hA : RuA I R G := ⟨hN1, hN3⟩
    have he := sew (b := I) hO hcn
    show zOk x 399 85 0 [.ref 0, .int (nI c)] [] _ _
    refine k_aload f85_0 rfl ?_
    refine k_iload f85_1 rfl ?_
    refine e_v (as := [.int (nI c)]) (rest := []) f85_2 hS.o0 rfl rfl rfl (s_hasCoin hR hS hst) ?_
    refine k_bne f85_5 (fun _ => ?_) (fun h_ => absurd (hc) h_)
    refine k_aload f85_10 rfl ?_
    refine k_iload f85_11 rfl ?_
    refine k_callv (as := [.int (nI c)]) (rest := []) f85_12 hS.o0 rfl rfl rfl rfl (q_layWays (c := c) hR hS hst hO hA hcn) ?_
    rintro _ _ ⟨rfl, I1, J1, R1, bo, rfl, hl1, hc1⟩
    have hR1 : Rs R1 := hc1.rs hS hR
    refine k_aload f85_15 rfl ?_
    refine k_getr (q := 43) f85_16 hS.o0 rfl hR1.r0_11 ?_
    refine k_callv (as := []) (rest := []) f85_19 hS.o43 rfl rfl rfl rfl (q_few hR1 hS hO hcn hl1) ?_
    rintro _ _ ⟨rfl, I2, rfl, hf2⟩
    have hc2 : CFr I R I2 R1 := hc1.trans ⟨fun p k hp => hf2 p k (by omega), fun _ _ _ => rfl⟩
    refine k_iret f85_22 rfl ⟨_, rfl, ?_⟩
    have hs2 : I2 62 = I 62 := funext fun k => hc2.1 62 k (by omega)
    have hR : Rs R1 := hR1
    show zOk x 399 188 0 [.ref 51, .int (nI c)] [] _ _
    refine k_aload f188_0 rfl ?_
    refine k_iload f188_1 rfl ?_
    refine e_v (as := [.int (nI c)]) (rest := []) f188_2 hS.o51 rfl rfl rfl (s_isCoin (w := I 62 1) hR hS (congrFun hs2 _)) ?_
    refine k_bne f188_5 (fun _ => ?_) (fun h_ => absurd (hc) h_)
    refine k_aload f188_10 rfl ?_
    refine k_iload f188_11 rfl ?_
    refine k_iconst (v := 0) f188_12 rfl ?_
    refine k_callv (as := [.int (0), .int (nI c)]) (rest := []) f188_13 hS.o51 rfl rfl rfl rfl (q_sFor (c := c) (g := 0) (s := I 62) hR1 hS hs2 (by rw [hc2.1 0 4 (by omega)]; exact hO) (hc2.ra hA) hcn (by omega)) ?_
    rintro _ _ ⟨rfl, I3, J3, rfl, hz3, hf3⟩
    rw [SEk_kr hc2.kr] at hz3
    refine k_aload f188_16 rfl ?_
    refine k_gI (w := nI (SEk I (I 62) c 0).2.2.2) f188_17 hS.o51 rfl hz3.2.2.2.2.1 ?_
    refine k_iconst (v := 1000000) f188_20 rfl ?_
    refine k_ic_ne f188_23 (fun g0 => ?_) (fun g0 => ?_)
    · refine k_aload f188_31 rfl ?_
      refine k_gI (w := nI (SEk I (I 62) c 0).2.2.2) f188_32 hS.o51 rfl hz3.2.2.2.2.1 ?_
      refine k_iret f188_35 rfl ⟨congrArg (fun t => some (Value.int t)) (by
        have ex : ¬ (SEk I (I 62) c 0).2.2.2 = 1000000 := fun q => g0 (congrArg nI q)
        by_cases hk : hoK I (I 62) c = true
        · rw [if_pos hk, he.1 hk]; rfl
        · have e2 : FWk I (I 62) c = (SEk I (I 62) c 0).2.2.2 := by rw [(he.2 hk).1]; exact if_neg ex
          rw [if_neg hk, e2, if_pos ((he.2 hk).2.resolve_left ex)]), ?_⟩
      exact inv_se hI hc2 hf3
    · refine k_iconst (v := (-2)) f188_26 rfl ?_
      refine k_goto f188_28 ?_
      refine k_iret f188_35 rfl ⟨congrArg (fun t => some (Value.int t)) (by
        have ex : (SEk I (I 62) c 0).2.2.2 = 1000000 := (nI_eq (b := 1000000) (by have := hz3.2.2.2.2.2; omega) (by omega)).mp (Classical.not_not.mp g0)
        have hk : ¬ hoK I (I 62) c = true := fun q => by have := he.1 q; omega
        have e2 : FWk I (I 62) c = 1000 := by rw [(he.2 hk).1, ex]; rfl
        rw [if_neg hk, e2]; rfl), ?_⟩
      exact inv_se hI hc2 hf3
  · show zOk x 399 85 0 [.ref 0, .int (coin)] [] _ _
    refine k_aload f85_0 rfl ?_
    refine k_iload f85_1 rfl ?_
    refine e_v (as := [.int (coin)]) (rest := []) f85_2 hS.o0 rfl rfl rfl (s_hasCoin hR hS hst) ?_
    refine k_bne f85_5 (fun h_ => absurd h_ (hc)) (fun _ => ?_)
    refine k_iconst (v := (-1)) f85_8 rfl ?_
    refine k_iret f85_9 rfl ⟨_, rfl, ?_⟩
    show zOk x 399 188 0 [.ref 51, .int (coin)] [] _ _
    refine k_aload f188_0 rfl ?_
    refine k_iload f188_1 rfl ?_
    refine e_v (as := [.int (coin)]) (rest := []) f188_2 hS.o51 rfl rfl rfl (s_isCoin (w := I 62 1) hR hS rfl) ?_
    refine k_bne f188_5 (fun h_ => absurd h_ (hc)) (fun _ => ?_)
    refine k_iconst (v := (-1)) f188_8 rfl ?_
    refine k_iret f188_9 rfl ⟨rfl, ?_⟩
    exact inv_q hI (by omega) Kq.rfl KS.rfl
