/-! THE WORDS, told by the class. -/
theorem s_tellCoin {x : Nat × (Nat → Int32)} {d : Nat} {I : Nat → Nat → Int32} {J : Nat → Nat → Int64} {R : Nat → Nat → Option Nat} {G : zG} {q : Nat} {nu dy wo sp : Int32} (hR : Rs R) (hS : Sh G) (hq : zo G q 1) (h0 : I q 0 = wo) (h2 : I q 2 = sp) : zRn x d 3 [.ref 39, .ref q, .int (nu), .int (dy)] (I, J, R, G) (none) (I, z_u (z_u (z_u (z_u J 40 1 ((nu).toInt64)) 40 2 ((wo).toInt64)) 40 3 (((dy) - (sp)).toInt64)) 40 9 ((dy).toInt64), R, G) := by
  show zOk x d 3 0 [.ref 39, .ref q, .int (nu), .int (dy)] [] _ _
  refine k_aload f3_0 rfl ?_
  refine k_getr (q := 40) f3_1 hS.o39 rfl hR.r39_0 ?_
  refine k_iconst (v := 1) f3_4 rfl ?_
  refine k_iload f3_5 rfl ?_
  refine k_i2l f3_6 ?_
  refine k_ls (k := 1) f3_7 hS.a40 rfl (by decide) (by decide) ?_
  refine k_aload f3_8 rfl ?_
  refine k_getr (q := 40) f3_9 hS.o39 rfl hR.r39_0 ?_
  refine k_iconst (v := 2) f3_12 rfl ?_
  refine k_aload f3_13 rfl ?_
  refine k_gI (w := wo) f3_14 hq rfl h0 ?_
  refine k_i2l f3_17 ?_
  refine k_ls (k := 2) f3_18 hS.a40 rfl (by decide) (by decide) ?_
  refine k_aload f3_19 rfl ?_
  refine k_getr (q := 40) f3_20 hS.o39 rfl hR.r39_0 ?_
  refine k_iconst (v := 3) f3_23 rfl ?_
  refine k_iload f3_24 rfl ?_
  refine k_aload f3_25 rfl ?_
  refine k_gI (w := sp) f3_26 hq rfl h2 ?_
  refine k_isub f3_29 ?_
  refine k_i2l f3_30 ?_
  refine k_ls (k := 3) f3_31 hS.a40 rfl (by decide) (by decide) ?_
  refine k_aload f3_32 rfl ?_
  refine k_getr (q := 40) f3_33 hS.o39 rfl hR.r39_0 ?_
  refine k_iconst (v := 9) f3_36 rfl ?_
  refine k_iload f3_38 rfl ?_
  refine k_i2l f3_39 ?_
  refine k_ls (k := 9) f3_40 hS.a40 rfl (by decide) (by decide) ?_
  exact k_vret f3_41 ⟨rfl, rfl⟩
theorem s_tellPeople {x : Nat × (Nat → Int32)} {d : Nat} {I : Nat → Nat → Int32} {J : Nat → Nat → Int64} {R : Nat → Nat → Option Nat} {G : zG} {g tk pu : Int32} (hR : Rs R) (hS : Sh G) : zRn x d 4 [.ref 39, .int (g), .int (tk), .int (pu)] (I, J, R, G) (none) (I, z_u (z_u (z_u J 40 7 ((g).toInt64)) 40 8 ((tk).toInt64)) 40 6 ((pu).toInt64), R, G) := by
  show zOk x d 4 0 [.ref 39, .int (g), .int (tk), .int (pu)] [] _ _
  refine k_aload f4_0 rfl ?_
  refine k_getr (q := 40) f4_1 hS.o39 rfl hR.r39_0 ?_
  refine k_iconst (v := 7) f4_4 rfl ?_
  refine k_iload f4_6 rfl ?_
  refine k_i2l f4_7 ?_
  refine k_ls (k := 7) f4_8 hS.a40 rfl (by decide) (by decide) ?_
  refine k_aload f4_9 rfl ?_
  refine k_getr (q := 40) f4_10 hS.o39 rfl hR.r39_0 ?_
  refine k_iconst (v := 8) f4_13 rfl ?_
  refine k_iload f4_15 rfl ?_
  refine k_i2l f4_16 ?_
  refine k_ls (k := 8) f4_17 hS.a40 rfl (by decide) (by decide) ?_
  refine k_aload f4_18 rfl ?_
  refine k_getr (q := 40) f4_19 hS.o39 rfl hR.r39_0 ?_
  refine k_iconst (v := 6) f4_22 rfl ?_
  refine k_iload f4_24 rfl ?_
  refine k_i2l f4_25 ?_
  refine k_ls (k := 6) f4_26 hS.a40 rfl (by decide) (by decide) ?_
  exact k_vret f4_27 ⟨rfl, rfl⟩
theorem bI_l1 {P : Prop} [Decidable P] (h : P) : (bI P).toInt64 = 1 := by rw [bI, if_pos h]; decide
theorem bI_l0 {P : Prop} [Decidable P] (h : ¬ P) : (bI P).toInt64 = 0 := by rw [bI, if_neg h]; decide
theorem s_tellHands {x : Nat × (Nat → Int32)} {d : Nat} {I : Nat → Nat → Int32} {J : Nat → Nat → Int64} {R : Nat → Nat → Option Nat} {G : zG} {h : Nat} {S : Prop} [Decidable S] (hR : Rs R) (hS : Sh G) (hh : h < 1024) : zRn x (d + 1) 5 [.ref 39, .int (nI h), .int (bI (S))] (I, J, R, G) (none) (I, z_u (z_u J 40 4 ((nI (popc h)).toInt64)) 40 5 ((bI S).toInt64), R, G) := by
  show zOk x (d + 1) 5 0 [.ref 39, .int (nI h), .int (bI (S))] [] _ _
  refine k_aload f5_0 rfl ?_
  refine k_getr (q := 40) f5_1 hS.o39 rfl hR.r39_0 ?_
  refine k_iconst (v := 4) f5_4 rfl ?_
  refine k_iload f5_5 rfl ?_
  refine e_s (as := [.int (nI h)]) (rest := [.int (4), .ref 40]) f5_6 rfl rfl rfl (s_bitCount hh) ?_
  refine k_i2l f5_9 ?_
  refine k_ls (k := 4) f5_10 hS.a40 rfl (by decide) (by decide) ?_
  refine k_aload f5_11 rfl ?_
  refine k_getr (q := 40) f5_12 hS.o39 rfl hR.r39_0 ?_
  refine k_iconst (v := 5) f5_15 rfl ?_
  refine k_iload f5_16 rfl ?_
  refine k_beq f5_17 (fun g0 => ?_) (fun g0 => ?_)
  · refine k_lconst (v := 0) f5_24 rfl ?_
    refine k_ls (k := 5) f5_25 hS.a40 rfl (by decide) (by decide) ?_
    exact k_vret f5_26 ⟨rfl, by rw [bI_l0 g0]⟩
  · refine k_lconst (v := 1) f5_20 rfl ?_
    refine k_goto f5_21 ?_
    refine k_ls (k := 5) f5_25 hS.a40 rfl (by decide) (by decide) ?_
    exact k_vret f5_26 ⟨rfl, by rw [bI_l1 g0]⟩
