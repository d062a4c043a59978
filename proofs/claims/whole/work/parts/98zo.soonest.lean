/-! SOONEST. -/
theorem SEk_kr {b b' : Nat → Nat → Int32} {s : Nat → Int32} {c g : Nat} (h : Kr b b') : SEk b' s c g = SEk b s c g := by
  unfold SEk
  rw [show baB b' (s 6) = baB b (s 6) from funext fun w => baB_kr h _ w]
theorem FDk_kr {b b' : Nat → Nat → Int32} {s : Nat → Int32} {c g : Nat} (h : Kr b b') : FDk b' s c g = FDk b s c g := by
  unfold FDk
  rw [show baB b' (s 6) = baB b (s 6) from funext fun w => baB_kr h _ w]
theorem inv_se {j : Nat} {I I1 I2 : Nat → Nat → Int32} {J J' : Nat → Nat → Int64} {R R1 : Nat → Nat → Option Nat} {G : zG} (hI : Inv j (I, J, R, G)) (h1 : CFr I R I1 R1) (h2 : RF2 I1 I2) : Inv (j + 1) (I2, J', R1, G) := by
  refine inv_q hI (by omega) (fun p k _ hs => ?_) (fun p k _ _ h => h1.2 p k h)
  rw [h2 p k (fun h => hs (by unfold sc0; omega)) (fun h => hs (by unfold sc0; omega)), h1.1 p k (fun h => hs (by unfold sc0; omega))]
theorem q_firstC {x : Nat × (Nat → Int32)} {d : Nat} {I : Nat → Nat → Int32} {J : Nat → Nat → Int64} {R : Nat → Nat → Option Nat} {G : zG} {b : Nat → Nat → Int32} {pl c g rn : Nat} {s : Nat → Int32} {bo : Option Nat} (hR : Rs R) (hS : Sh G) (hO : SOk s rn) (hc : c < cl (s 1)) (hg : g < 2 ^ 31) (hl : LDc b I R G pl s bo c) : zOk x (d + 1) 68 0 [.ref 43, .int (nI g), zU, zU, zU, zU, zU] [] (I, J, R, G) (fun v mm => v = some (.int (FDk b s c g).1) ∧ ∃ I', mm = (I', J, R, G) ∧ I' 43 9 = nI (FDk b s c g).2 ∧ ∀ p k, ¬ (p = 43 ∧ k = 9) → I' p k = I p k) := by
  have hn9 := hO.2.1.2
  have hm25 := hO.2.2.1.2
  have h11 := hO.1.2
  have cok := (hO.2.2.2.2.2.2.2.1 c hc).2.1.2
  exact q_first hR hS hO.2.1.1 (by omega) hO.mw (by omega) hO.1.2 (hl.1.1.1.2.2.2 c (by omega)).2 (Or.inr (by omega)) (by omega) hg hl
theorem q_lostC {x : Nat × (Nat → Int32)} {d : Nat} {I : Nat → Nat → Int32} {J : Nat → Nat → Int64} {R : Nat → Nat → Option Nat} {G : zG} {b : Nat → Nat → Int32} {pl c g rn : Nat} {s : Nat → Int32} {bo : Option Nat} (hR : Rs R) (hS : Sh G) (hO : SOk s rn) (hc : c < cl (s 1)) (hg : g < 2 ^ 31) (hl : LDc b I R G pl s bo c) : zOk x (d + 2) 67 0 [.ref 43, .int (nI g)] [] (I, J, R, G) (fun v mm => v = some (.int (bI (s 3 - s (8 + 6 * c + 2) ≤ s 7 ∧ (FDk b s c g).1 = -2))) ∧ ∃ I', mm = (I', J, R, G) ∧ (s 3 - s (8 + 6 * c + 2) ≤ s 7 → I' 43 9 = nI (FDk b s c g).2) ∧ ∀ p k, ¬ (p = 43 ∧ k = 9) → I' p k = I p k) := by
  have hn9 := hO.2.1.2
  have hm25 := hO.2.2.1.2
  have h11 := hO.1.2
  have cok := (hO.2.2.2.2.2.2.2.1 c hc).2.1.2
  exact q_lost hR hS hO.2.1.1 (by omega) hO.mw (by omega) hO.1.2 (hl.1.1.1.2.2.2 c (by omega)).2 (Or.inr (by omega)) (by omega) hg hl
theorem op_soonest {x : Nat × (Nat → Int32)} (coin : Int32) : Op Inv x 84 187 [.int coin] := by
  refine Op.of2 fun j I J R G hj hI => ?_
  have hS : Sh G := hI.1
  have hR : Rs R := hI.2.1
  have hT1 : Rg (I 9 1) 401 := hI.2.2.2.2.1.1
  have hT2 : I 51 1 = I 9 1 := hI.2.2.2.2.1.2.1
  have hN1 : Rg (I 0 4) 7 := hI.2.2.2.2.2.1.1
  have hN2 : I 51 2 = I 0 4 := hI.2.2.2.2.2.1.2.1
  have hN3 : ∀ t, t < cl (I 0 4) → ∃ r, R 16 t = some r ∧ RuR I R G t r := hI.2.2.2.2.2.1.2.2
  obtain ⟨pl, hst⟩ : ∃ pl, StR I R G 17 pl (I 62) := hI.2.2.2.2.2.2.1
  have hO : SOk (I 62) (cl (I 0 4)) := hI.2.2.2.2.2.2.2.1
  by_cases hc : ¬ coin < 0 ∧ ¬ I 62 1 ≤ coin
  · obtain ⟨c, hcn, rfl⟩ := ix_of hO.2.1 (by omega) hc
    have hA : RuA I R G := ⟨hN1, hN3⟩
    have he := sek (b := I) (g := 0) hO hcn
    show zOk x 399 84 0 [.ref 0, .int (nI c)] [] _ _
    refine k_aload f84_0 rfl ?_
    refine k_iload f84_1 rfl ?_
    refine e_v (as := [.int (nI c)]) (rest := []) f84_2 hS.o0 rfl rfl rfl (s_hasCoin hR hS hst) ?_
    refine k_bne f84_5 (fun _ => ?_) (fun h_ => absurd (hc) h_)
    refine k_aload f84_10 rfl ?_
    refine k_iload f84_11 rfl ?_
    refine k_callv (as := [.int (nI c)]) (rest := []) f84_12 hS.o0 rfl rfl rfl rfl (q_layWays (c := c) hR hS hst hO hA hcn) ?_
    rintro _ _ ⟨rfl, I1, J1, R1, bo, rfl, hl1, hc1⟩
    have hR1 : Rs R1 := hc1.rs hS hR
    refine k_aload f84_15 rfl ?_
    refine k_getr (q := 43) f84_16 hS.o0 rfl hR1.r0_11 ?_
    refine k_iconst (v := 0) f84_19 rfl ?_
    refine k_callv (as := [.int (0)]) (rest := []) f84_20 hS.o43 rfl rfl rfl rfl (q_firstC (g := 0) hR1 hS hO hcn (by omega) hl1) ?_
    rintro _ _ ⟨rfl, I2, rfl, h9, hf2⟩
    have hc2 : CFr I R I2 R1 := hc1.trans ⟨fun p k hp => hf2 p k (by omega), fun _ _ _ => rfl⟩
    refine k_iret f84_23 rfl ⟨_, rfl, ?_⟩
    have hs2 : I2 62 = I 62 := funext fun k => hc2.1 62 k (by omega)
    have hR : Rs R1 := hR1
    show zOk x 399 187 0 [.ref 51, .int (nI c)] [] _ _
    refine k_aload f187_0 rfl ?_
    refine k_iload f187_1 rfl ?_
    refine e_v (as := [.int (nI c)]) (rest := []) f187_2 hS.o51 rfl rfl rfl (s_isCoin (w := I 62 1) hR hS (congrFun hs2 _)) ?_
    refine k_bne f187_5 (fun _ => ?_) (fun h_ => absurd (hc) h_)
    refine k_aload f187_10 rfl ?_
    refine k_iload f187_11 rfl ?_
    refine k_iconst (v := 0) f187_12 rfl ?_
    refine k_callv (as := [.int (0), .int (nI c)]) (rest := []) f187_13 hS.o51 rfl rfl rfl rfl (q_sFor (c := c) (g := 0) (s := I 62) hR1 hS hs2 (by rw [hc2.1 0 4 (by omega)]; exact hO) (hc2.ra hA) hcn (by omega)) ?_
    rintro _ _ ⟨rfl, I3, J3, rfl, hz3, hf3⟩
    rw [SEk_kr hc2.kr] at hz3
    refine k_aload f187_16 rfl ?_
    refine k_gI (w := (SEk I (I 62) c 0).2.2.1) f187_17 hS.o51 rfl hz3.2.2.2.1 ?_
    refine k_iret f187_20 rfl ⟨congrArg (fun t => some (Value.int t)) he.1, ?_⟩
    exact inv_se hI hc2 hf3
  · show zOk x 399 84 0 [.ref 0, .int (coin)] [] _ _
    refine k_aload f84_0 rfl ?_
    refine k_iload f84_1 rfl ?_
    refine e_v (as := [.int (coin)]) (rest := []) f84_2 hS.o0 rfl rfl rfl (s_hasCoin hR hS hst) ?_
    refine k_bne f84_5 (fun h_ => absurd h_ (hc)) (fun _ => ?_)
    refine k_iconst (v := (-1)) f84_8 rfl ?_
    refine k_iret f84_9 rfl ⟨_, rfl, ?_⟩
    show zOk x 399 187 0 [.ref 51, .int (coin)] [] _ _
    refine k_aload f187_0 rfl ?_
    refine k_iload f187_1 rfl ?_
    refine e_v (as := [.int (coin)]) (rest := []) f187_2 hS.o51 rfl rfl rfl (s_isCoin (w := I 62 1) hR hS rfl) ?_
    refine k_bne f187_5 (fun h_ => absurd h_ (hc)) (fun _ => ?_)
    refine k_iconst (v := (-1)) f187_8 rfl ?_
    refine k_iret f187_9 rfl ⟨rfl, ?_⟩
    exact inv_q hI (by omega) Kq.rfl KS.rfl
