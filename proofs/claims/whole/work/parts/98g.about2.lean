/-! A QUESTION told by the reference. -/
theorem s_wordsToPay {x : Nat × (Nat → Int32)} {d : Nat} {I : Nat → Nat → Int32} {J : Nat → Nat → Int64} {R : Nat → Nat → Option Nat} {G : zG} {n h k c p : Nat} {s : Nat → Int32} {wo ho sp dy : Int32} (hR : Rs R) (hS : Sh G) (hs : I 62 = s) (hn : s 1 = nI n) (hn8 : n ≤ 8) (hh : h < 1024) (hk : k < 1024) (ek : acc (fH s ho) n = nI k) (hc8 : c < 8) (g3 : I 62 3 = dy) (c0 : I 62 (8 + 6 * c + 0) = wo) (c1 : I 62 (8 + 6 * c + 1) = ho) (c2 : I 62 (8 + 6 * c + 2) = sp) (c3 : I 62 (8 + 6 * c + 3) = nI h) (hp : p < 10) : zRn x (d + 3) 168 [.ref 51, .int (nI c), .int (nI p)] (I, J, R, G) (none) (I, z_u (z_u (z_u (z_u (z_u (z_u (z_u (z_u (z_u J 61 0 ((nI c).toInt64)) 61 1 ((wo).toInt64)) 61 2 (((dy) - (sp)).toInt64)) 61 3 ((nI (popc h)).toInt64)) 61 4 ((bI (¬ h.testBit p = true)).toInt64)) 61 5 ((nI (popc k)).toInt64)) 61 6 ((ho).toInt64)) 61 7 ((nI p).toInt64)) 61 8 ((dy).toInt64), R, G) := by
  show zOk x (d + 3) 168 0 [.ref 51, .int (nI c), .int (nI p)] [] _ _
  refine k_aload f168_0 rfl ?_
  refine k_iload f168_1 rfl ?_
  refine k_aload f168_2 rfl ?_
  refine k_iload f168_3 rfl ?_
  refine k_iconst (v := 0) f168_4 rfl ?_
  refine e_v (as := [.int (0), .int (nI c)]) (rest := [.int (nI c), .ref 51]) f168_5 hS.o51 rfl rfl rfl (s_coinOf (c := c) (k := 0) (v := wo) hR hS (by omega) c0) ?_
  refine k_aload f168_8 rfl ?_
  refine k_getr (q := 62) f168_9 hS.o51 rfl hR.r51_25 ?_
  refine k_iconst (v := 3) f168_12 rfl ?_
  refine k_ia (k := 3) (w := dy) f168_13 hS.a62 rfl (by decide) (by decide) g3 ?_
  refine k_aload f168_14 rfl ?_
  refine k_iload f168_15 rfl ?_
  refine k_iconst (v := 2) f168_16 rfl ?_
  refine e_v (as := [.int (2), .int (nI c)]) (rest := [.int (dy), .int (wo), .int (nI c), .ref 51]) f168_17 hS.o51 rfl rfl rfl (s_coinOf (c := c) (k := 2) (v := sp) hR hS (by omega) c2) ?_
  refine k_isub f168_20 ?_
  refine k_aload f168_21 rfl ?_
  refine k_iload f168_22 rfl ?_
  refine k_iconst (v := 3) f168_23 rfl ?_
  refine e_v (as := [.int (3), .int (nI c)]) (rest := [.int ((dy) - (sp)), .int (wo), .int (nI c), .ref 51]) f168_24 hS.o51 rfl rfl rfl (s_coinOf (c := c) (k := 3) (v := nI h) hR hS (by omega) c3) ?_
  refine k_aload f168_27 rfl ?_
  refine k_iload f168_28 rfl ?_
  refine k_iconst (v := 3) f168_29 rfl ?_
  refine e_v (as := [.int (3), .int (nI c)]) (rest := [.int (nI h), .int ((dy) - (sp)), .int (wo), .int (nI c), .ref 51]) f168_30 hS.o51 rfl rfl rfl (s_coinOf (c := c) (k := 3) (v := nI h) hR hS (by omega) c3) ?_
  refine k_iload f168_33 rfl ?_
  refine e_s (as := [.int (nI p), .int (nI h)]) (rest := [.int (nI h), .int ((dy) - (sp)), .int (wo), .int (nI c), .ref 51]) f168_34 rfl rfl rfl (s_isOf (b := h) (p := p) (by omega) (by omega)) ?_
  refine k_bne f168_37 (fun g0 => ?_) (fun g0 => ?_)
  · refine k_iconst (v := 0) f168_44 rfl ?_
    refine k_aload f168_45 rfl ?_
    refine k_iload f168_46 rfl ?_
    refine k_iconst (v := 1) f168_47 rfl ?_
    refine e_v (as := [.int (1), .int (nI c)]) (rest := [.int (0), .int (nI h), .int ((dy) - (sp)), .int (wo), .int (nI c), .ref 51]) f168_48 hS.o51 rfl rfl rfl (s_coinOf (c := c) (k := 1) (v := ho) hR hS (by omega) c1) ?_
    refine k_iload f168_51 rfl ?_
    refine k_aload f168_52 rfl ?_
    refine k_getr (q := 62) f168_53 hS.o51 rfl hR.r51_25 ?_
    refine k_iconst (v := 3) f168_56 rfl ?_
    refine k_ia (k := 3) (w := dy) f168_57 hS.a62 rfl (by decide) (by decide) g3 ?_
    refine e_v (as := [.int (dy), .int (nI p), .int (ho), .int (0), .int (nI h), .int ((dy) - (sp)), .int (wo), .int (nI c)]) (rest := []) f168_58 hS.o51 rfl rfl rfl (s_words (h := h) (k := k) (S := False) hR hS hs hn hn8 hh hk ek) ?_
    exact k_vret f168_61 ⟨rfl, by rw [bI_l0 (P := ¬ h.testBit p = true) (fun k => k g0), bI_l0 (P := False) (fun k => k)]⟩
  · refine k_iconst (v := 1) f168_40 rfl ?_
    refine k_goto f168_41 ?_
    refine k_aload f168_45 rfl ?_
    refine k_iload f168_46 rfl ?_
    refine k_iconst (v := 1) f168_47 rfl ?_
    refine e_v (as := [.int (1), .int (nI c)]) (rest := [.int (1), .int (nI h), .int ((dy) - (sp)), .int (wo), .int (nI c), .ref 51]) f168_48 hS.o51 rfl rfl rfl (s_coinOf (c := c) (k := 1) (v := ho) hR hS (by omega) c1) ?_
    refine k_iload f168_51 rfl ?_
    refine k_aload f168_52 rfl ?_
    refine k_getr (q := 62) f168_53 hS.o51 rfl hR.r51_25 ?_
    refine k_iconst (v := 3) f168_56 rfl ?_
    refine k_ia (k := 3) (w := dy) f168_57 hS.a62 rfl (by decide) (by decide) g3 ?_
    refine e_v (as := [.int (dy), .int (nI p), .int (ho), .int (1), .int (nI h), .int ((dy) - (sp)), .int (wo), .int (nI c)]) (rest := []) f168_58 hS.o51 rfl rfl rfl (s_words (h := h) (k := k) (S := True) hR hS hs hn hn8 hh hk ek) ?_
    exact k_vret f168_61 ⟨rfl, by rw [bI_l1 (P := ¬ h.testBit p = true) g0, bI_l1 (P := True) trivial]⟩
theorem s_wordsForHome {x : Nat × (Nat → Int32)} {d : Nat} {I : Nat → Nat → Int32} {J : Nat → Nat → Int64} {R : Nat → Nat → Option Nat} {G : zG} {n h k c : Nat} {s : Nat → Int32} {wo ho sp dy fr : Int32} (hR : Rs R) (hS : Sh G) (hs : I 62 = s) (hn : s 1 = nI n) (hn8 : n ≤ 8) (hh : h < 1024) (hk : k < 1024) (ek : acc (fH s ho) n = nI k) (hc8 : c < 8) (g3 : I 62 3 = dy) (c0 : I 62 (8 + 6 * c + 0) = wo) (c1 : I 62 (8 + 6 * c + 1) = ho) (c2 : I 62 (8 + 6 * c + 2) = sp) (c3 : I 62 (8 + 6 * c + 3) = nI h) (c4 : I 62 (8 + 6 * c + 4) = fr) : zRn x (d + 3) 169 [.ref 51, .int (nI c)] (I, J, R, G) (none) (I, z_u (z_u (z_u (z_u (z_u (z_u (z_u (z_u (z_u J 61 0 ((nI c).toInt64)) 61 1 ((wo).toInt64)) 61 2 (((dy) - (sp)).toInt64)) 61 3 ((nI (popc h)).toInt64)) 61 4 ((bI (fr = 1)).toInt64)) 61 5 ((nI (popc k)).toInt64)) 61 6 ((ho).toInt64)) 61 7 ((ho).toInt64)) 61 8 ((dy).toInt64), R, G) := by
  show zOk x (d + 3) 169 0 [.ref 51, .int (nI c)] [] _ _
  refine k_aload f169_0 rfl ?_
  refine k_iload f169_1 rfl ?_
  refine k_aload f169_2 rfl ?_
  refine k_iload f169_3 rfl ?_
  refine k_iconst (v := 0) f169_4 rfl ?_
  refine e_v (as := [.int (0), .int (nI c)]) (rest := [.int (nI c), .ref 51]) f169_5 hS.o51 rfl rfl rfl (s_coinOf (c := c) (k := 0) (v := wo) hR hS (by omega) c0) ?_
  refine k_aload f169_8 rfl ?_
  refine k_getr (q := 62) f169_9 hS.o51 rfl hR.r51_25 ?_
  refine k_iconst (v := 3) f169_12 rfl ?_
  refine k_ia (k := 3) (w := dy) f169_13 hS.a62 rfl (by decide) (by decide) g3 ?_
  refine k_aload f169_14 rfl ?_
  refine k_iload f169_15 rfl ?_
  refine k_iconst (v := 2) f169_16 rfl ?_
  refine e_v (as := [.int (2), .int (nI c)]) (rest := [.int (dy), .int (wo), .int (nI c), .ref 51]) f169_17 hS.o51 rfl rfl rfl (s_coinOf (c := c) (k := 2) (v := sp) hR hS (by omega) c2) ?_
  refine k_isub f169_20 ?_
  refine k_aload f169_21 rfl ?_
  refine k_iload f169_22 rfl ?_
  refine k_iconst (v := 3) f169_23 rfl ?_
  refine e_v (as := [.int (3), .int (nI c)]) (rest := [.int ((dy) - (sp)), .int (wo), .int (nI c), .ref 51]) f169_24 hS.o51 rfl rfl rfl (s_coinOf (c := c) (k := 3) (v := nI h) hR hS (by omega) c3) ?_
  refine k_aload f169_27 rfl ?_
  refine k_iload f169_28 rfl ?_
  refine k_iconst (v := 4) f169_29 rfl ?_
  refine e_v (as := [.int (4), .int (nI c)]) (rest := [.int (nI h), .int ((dy) - (sp)), .int (wo), .int (nI c), .ref 51]) f169_30 hS.o51 rfl rfl rfl (s_coinOf (c := c) (k := 4) (v := fr) hR hS (by omega) c4) ?_
  refine k_iconst (v := 1) f169_33 rfl ?_
  refine k_ic_ne f169_34 (fun g0 => ?_) (fun g0 => ?_)
  · refine k_iconst (v := 0) f169_41 rfl ?_
    refine k_aload f169_42 rfl ?_
    refine k_iload f169_43 rfl ?_
    refine k_iconst (v := 1) f169_44 rfl ?_
    refine e_v (as := [.int (1), .int (nI c)]) (rest := [.int (0), .int (nI h), .int ((dy) - (sp)), .int (wo), .int (nI c), .ref 51]) f169_45 hS.o51 rfl rfl rfl (s_coinOf (c := c) (k := 1) (v := ho) hR hS (by omega) c1) ?_
    refine k_aload f169_48 rfl ?_
    refine k_iload f169_49 rfl ?_
    refine k_iconst (v := 1) f169_50 rfl ?_
    refine e_v (as := [.int (1), .int (nI c)]) (rest := [.int (ho), .int (0), .int (nI h), .int ((dy) - (sp)), .int (wo), .int (nI c), .ref 51]) f169_51 hS.o51 rfl rfl rfl (s_coinOf (c := c) (k := 1) (v := ho) hR hS (by omega) c1) ?_
    refine k_aload f169_54 rfl ?_
    refine k_getr (q := 62) f169_55 hS.o51 rfl hR.r51_25 ?_
    refine k_iconst (v := 3) f169_58 rfl ?_
    refine k_ia (k := 3) (w := dy) f169_59 hS.a62 rfl (by decide) (by decide) g3 ?_
    refine e_v (as := [.int (dy), .int (ho), .int (ho), .int (0), .int (nI h), .int ((dy) - (sp)), .int (wo), .int (nI c)]) (rest := []) f169_60 hS.o51 rfl rfl rfl (s_words (h := h) (k := k) (S := False) hR hS hs hn hn8 hh hk ek) ?_
    exact k_vret f169_63 ⟨rfl, by rw [bI_l0 (P := fr = 1) g0, bI_l0 (P := False) (fun k => k)]⟩
  · refine k_iconst (v := 1) f169_37 rfl ?_
    refine k_goto f169_38 ?_
    refine k_aload f169_42 rfl ?_
    refine k_iload f169_43 rfl ?_
    refine k_iconst (v := 1) f169_44 rfl ?_
    refine e_v (as := [.int (1), .int (nI c)]) (rest := [.int (1), .int (nI h), .int ((dy) - (sp)), .int (wo), .int (nI c), .ref 51]) f169_45 hS.o51 rfl rfl rfl (s_coinOf (c := c) (k := 1) (v := ho) hR hS (by omega) c1) ?_
    refine k_aload f169_48 rfl ?_
    refine k_iload f169_49 rfl ?_
    refine k_iconst (v := 1) f169_50 rfl ?_
    refine e_v (as := [.int (1), .int (nI c)]) (rest := [.int (ho), .int (1), .int (nI h), .int ((dy) - (sp)), .int (wo), .int (nI c), .ref 51]) f169_51 hS.o51 rfl rfl rfl (s_coinOf (c := c) (k := 1) (v := ho) hR hS (by omega) c1) ?_
    refine k_aload f169_54 rfl ?_
    refine k_getr (q := 62) f169_55 hS.o51 rfl hR.r51_25 ?_
    refine k_iconst (v := 3) f169_58 rfl ?_
    refine k_ia (k := 3) (w := dy) f169_59 hS.a62 rfl (by decide) (by decide) g3 ?_
    refine e_v (as := [.int (dy), .int (ho), .int (ho), .int (1), .int (nI h), .int ((dy) - (sp)), .int (wo), .int (nI c)]) (rest := []) f169_60 hS.o51 rfl rfl rfl (s_words (h := h) (k := k) (S := True) hR hS hs hn hn8 hh hk ek) ?_
    exact k_vret f169_63 ⟨rfl, by rw [bI_l1 (P := fr = 1) (Classical.not_not.mp g0), bI_l1 (P := True) trivial]⟩
