/-! THE WORDS, told by the reference. -/
theorem s_words {x : Nat × (Nat → Int32)} {d : Nat} {I : Nat → Nat → Int32} {J : Nat → Nat → Int64} {R : Nat → Nat → Option Nat} {G : zG} {n h k : Nat} {s : Nat → Int32} {nu wo ag g tk dy : Int32} {S : Prop} [Decidable S] (hR : Rs R) (hS : Sh G) (hs : I 62 = s) (hn : s 1 = nI n) (hn8 : n ≤ 8) (hh : h < 1024) (hk : k < 1024) (ek : acc (fH s g) n = nI k) : zRn x (d + 2) 165 [.ref 51, .int (nu), .int (wo), .int (ag), .int (nI h), .int (bI (S)), .int (g), .int (tk), .int (dy)] (I, J, R, G) (none) (I, z_u (z_u (z_u (z_u (z_u (z_u (z_u (z_u (z_u J 61 0 ((nu).toInt64)) 61 1 ((wo).toInt64)) 61 2 ((ag).toInt64)) 61 3 ((nI (popc h)).toInt64)) 61 4 ((bI S).toInt64)) 61 5 ((nI (popc k)).toInt64)) 61 6 ((g).toInt64)) 61 7 ((tk).toInt64)) 61 8 ((dy).toInt64), R, G) := by
  show zOk x (d + 2) 165 0 [.ref 51, .int (nu), .int (wo), .int (ag), .int (nI h), .int (bI (S)), .int (g), .int (tk), .int (dy)] [] _ _
  refine k_aload f165_0 rfl ?_
  refine k_getr (q := 61) f165_1 hS.o51 rfl hR.r51_24 ?_
  refine k_iconst (v := 0) f165_4 rfl ?_
  refine k_iload f165_5 rfl ?_
  refine k_i2l f165_6 ?_
  refine k_ls (k := 0) f165_7 hS.a61 rfl (by decide) (by decide) ?_
  refine k_aload f165_8 rfl ?_
  refine k_getr (q := 61) f165_9 hS.o51 rfl hR.r51_24 ?_
  refine k_iconst (v := 1) f165_12 rfl ?_
  refine k_iload f165_13 rfl ?_
  refine k_i2l f165_14 ?_
  refine k_ls (k := 1) f165_15 hS.a61 rfl (by decide) (by decide) ?_
  refine k_aload f165_16 rfl ?_
  refine k_getr (q := 61) f165_17 hS.o51 rfl hR.r51_24 ?_
  refine k_iconst (v := 2) f165_20 rfl ?_
  refine k_iload f165_21 rfl ?_
  refine k_i2l f165_22 ?_
  refine k_ls (k := 2) f165_23 hS.a61 rfl (by decide) (by decide) ?_
  refine k_aload f165_24 rfl ?_
  refine k_getr (q := 61) f165_25 hS.o51 rfl hR.r51_24 ?_
  refine k_iconst (v := 3) f165_28 rfl ?_
  refine k_iload f165_29 rfl ?_
  refine e_s (as := [.int (nI h)]) (rest := [.int (3), .ref 61]) f165_31 rfl rfl rfl (s_bits hh) ?_
  refine k_i2l f165_34 ?_
  refine k_ls (k := 3) f165_35 hS.a61 rfl (by decide) (by decide) ?_
  refine k_aload f165_36 rfl ?_
  refine k_getr (q := 61) f165_37 hS.o51 rfl hR.r51_24 ?_
  refine k_iconst (v := 4) f165_40 rfl ?_
  refine k_iload f165_41 rfl ?_
  refine k_beq f165_43 (fun g0 => ?_) (fun g0 => ?_)
  · refine k_lconst (v := 0) f165_50 rfl ?_
    refine k_ls (k := 4) f165_51 hS.a61 rfl (by decide) (by decide) ?_
    refine k_aload f165_52 rfl ?_
    refine k_getr (q := 61) f165_53 hS.o51 rfl hR.r51_24 ?_
    refine k_iconst (v := 5) f165_56 rfl ?_
    refine k_aload f165_57 rfl ?_
    refine k_iload f165_58 rfl ?_
    refine e_v (as := [.int (g)]) (rest := [.int (5), .ref 61]) f165_60 hS.o51 rfl rfl rfl (ek ▸ s_purseOf hR hS hs hn hn8) ?_
    refine e_s (as := [.int (nI k)]) (rest := [.int (5), .ref 61]) f165_63 rfl rfl rfl (s_bits hk) ?_
    refine k_i2l f165_66 ?_
    refine k_ls (k := 5) f165_67 hS.a61 rfl (by decide) (by decide) ?_
    refine k_aload f165_68 rfl ?_
    refine k_getr (q := 61) f165_69 hS.o51 rfl hR.r51_24 ?_
    refine k_iconst (v := 6) f165_72 rfl ?_
    refine k_iload f165_74 rfl ?_
    refine k_i2l f165_76 ?_
    refine k_ls (k := 6) f165_77 hS.a61 rfl (by decide) (by decide) ?_
    refine k_aload f165_78 rfl ?_
    refine k_getr (q := 61) f165_79 hS.o51 rfl hR.r51_24 ?_
    refine k_iconst (v := 7) f165_82 rfl ?_
    refine k_iload f165_84 rfl ?_
    refine k_i2l f165_86 ?_
    refine k_ls (k := 7) f165_87 hS.a61 rfl (by decide) (by decide) ?_
    refine k_aload f165_88 rfl ?_
    refine k_getr (q := 61) f165_89 hS.o51 rfl hR.r51_24 ?_
    refine k_iconst (v := 8) f165_92 rfl ?_
    refine k_iload f165_94 rfl ?_
    refine k_i2l f165_96 ?_
    refine k_ls (k := 8) f165_97 hS.a61 rfl (by decide) (by decide) ?_
    exact k_vret f165_98 ⟨rfl, by rw [bI_l0 g0]⟩
  · refine k_lconst (v := 1) f165_46 rfl ?_
    refine k_goto f165_47 ?_
    refine k_ls (k := 4) f165_51 hS.a61 rfl (by decide) (by decide) ?_
    refine k_aload f165_52 rfl ?_
    refine k_getr (q := 61) f165_53 hS.o51 rfl hR.r51_24 ?_
    refine k_iconst (v := 5) f165_56 rfl ?_
    refine k_aload f165_57 rfl ?_
    refine k_iload f165_58 rfl ?_
    refine e_v (as := [.int (g)]) (rest := [.int (5), .ref 61]) f165_60 hS.o51 rfl rfl rfl (ek ▸ s_purseOf hR hS hs hn hn8) ?_
    refine e_s (as := [.int (nI k)]) (rest := [.int (5), .ref 61]) f165_63 rfl rfl rfl (s_bits hk) ?_
    refine k_i2l f165_66 ?_
    refine k_ls (k := 5) f165_67 hS.a61 rfl (by decide) (by decide) ?_
    refine k_aload f165_68 rfl ?_
    refine k_getr (q := 61) f165_69 hS.o51 rfl hR.r51_24 ?_
    refine k_iconst (v := 6) f165_72 rfl ?_
    refine k_iload f165_74 rfl ?_
    refine k_i2l f165_76 ?_
    refine k_ls (k := 6) f165_77 hS.a61 rfl (by decide) (by decide) ?_
    refine k_aload f165_78 rfl ?_
    refine k_getr (q := 61) f165_79 hS.o51 rfl hR.r51_24 ?_
    refine k_iconst (v := 7) f165_82 rfl ?_
    refine k_iload f165_84 rfl ?_
    refine k_i2l f165_86 ?_
    refine k_ls (k := 7) f165_87 hS.a61 rfl (by decide) (by decide) ?_
    refine k_aload f165_88 rfl ?_
    refine k_getr (q := 61) f165_89 hS.o51 rfl hR.r51_24 ?_
    refine k_iconst (v := 8) f165_92 rfl ?_
    refine k_iload f165_94 rfl ?_
    refine k_i2l f165_96 ?_
    refine k_ls (k := 8) f165_97 hS.a61 rfl (by decide) (by decide) ?_
    exact k_vret f165_98 ⟨rfl, by rw [bI_l1 g0]⟩
