/-! A QUESTION told by the class. -/
theorem s_aboutPaying {x : Nat × (Nat → Int32)} {d : Nat} {I : Nat → Nat → Int32} {J : Nat → Nat → Int64} {R : Nat → Nat → Option Nat} {G : zG} {st pl n c h p : Nat} {s : Nat → Int32} {dy ho wo sp : Int32} (hR : Rs R) (hS : Sh G) (hst : StR I R G st pl s) (hn : s 1 = nI n) (hn8 : n ≤ 8) (hc8 : c < 8) (cz : zo G (st + 2 + c) 1) (g1 : I st 1 = dy) (cn0 : I (st + 2 + c) 0 = wo) (cn1 : I (st + 2 + c) 1 = ho) (cn2 : I (st + 2 + c) 2 = sp) (cn3 : I (st + 2 + c) 3 = nI h) (hh : h < 1024) (hp : p < 10) : zRn x (d + 2) 1 [.ref 39, .ref st, .int (nI c), .int (nI p)] (I, J, R, G) (none) (I, z_u (z_u (z_u (z_u (z_u (z_u (z_u (z_u (z_u J 40 1 ((nI c).toInt64)) 40 2 ((wo).toInt64)) 40 3 (((dy) - (sp)).toInt64)) 40 9 ((dy).toInt64)) 40 7 ((ho).toInt64)) 40 8 ((nI p).toInt64)) 40 6 ((acc (fC s ho) n).toInt64)) 40 4 ((nI (popc h)).toInt64)) 40 5 ((bI (¬ h.testBit p = true)).toInt64), R, G) := by
  show zOk x (d + 2) 1 0 [.ref 39, .ref st, .int (nI c), .int (nI p), zU] [] _ _
  refine k_aload f1_0 rfl ?_
  refine k_getr (q := st + 1) f1_1 hst.1.1 rfl hst.1.2.1 ?_
  refine k_iload f1_4 rfl ?_
  refine k_aar (k := c) (q := st + 2 + c) f1_5 hst.1.2.2.1 rfl rfl (by omega) (by decide) (hst.1.2.2.2 c hc8).1 ?_
  refine k_astore (L' := [.ref 39, .ref st, .int (nI c), .int (nI p), .ref (st + 2 + c)]) f1_6 rfl rfl ?_
  refine k_aload f1_8 rfl ?_
  refine k_aload f1_9 rfl ?_
  refine k_iload f1_11 rfl ?_
  refine k_aload f1_12 rfl ?_
  refine k_gI (w := dy) f1_13 hst.1.1 rfl g1 ?_
  refine e_v (as := [.int (dy), .int (nI c), .ref (st + 2 + c)]) (rest := []) f1_16 hS.o39 rfl rfl rfl (s_tellCoin hR hS cz cn0 cn2) ?_
  refine k_aload f1_19 rfl ?_
  refine k_aload f1_20 rfl ?_
  refine k_gI (w := ho) f1_22 cz rfl cn1 ?_
  refine k_iload f1_25 rfl ?_
  refine k_aload f1_26 rfl ?_
  refine k_aload f1_27 rfl ?_
  refine k_gI (w := ho) f1_29 cz rfl cn1 ?_
  refine e_v (as := [.int (ho)]) (rest := [.int (nI p), .int (ho), .ref 39]) f1_32 hst.1.1 rfl rfl rfl (s_purse (st := st) hst hn hn8) ?_
  refine e_v (as := [.int (acc (fC s ho) n), .int (nI p), .int (ho)]) (rest := []) f1_35 hS.o39 rfl rfl rfl (s_tellPeople hR hS) ?_
  refine k_aload f1_38 rfl ?_
  refine k_aload f1_39 rfl ?_
  refine k_gI (w := nI h) f1_41 cz rfl cn3 ?_
  refine k_aload f1_44 rfl ?_
  refine k_gI (w := nI h) f1_46 cz rfl cn3 ?_
  refine k_iload f1_49 rfl ?_
  refine e_s (as := [.int (nI p), .int (nI h)]) (rest := [.int (nI h), .ref 39]) f1_50 rfl rfl rfl (s_has (b := h) (p := p) (by omega) (by omega)) ?_
  refine k_bne f1_53 (fun g0 => ?_) (fun g0 => ?_)
  · refine k_iconst (v := 0) f1_60 rfl ?_
    refine e_v (as := [.int (0), .int (nI h)]) (rest := []) f1_61 hS.o39 rfl rfl rfl (s_tellHands (h := h) (S := False) hR hS hh) ?_
    exact k_vret f1_64 ⟨rfl, by rw [bI_l0 (P := ¬ h.testBit p = true) (fun k => k g0), bI_l0 (P := False) (fun k => k)]⟩
  · refine k_iconst (v := 1) f1_56 rfl ?_
    refine k_goto f1_57 ?_
    refine e_v (as := [.int (1), .int (nI h)]) (rest := []) f1_61 hS.o39 rfl rfl rfl (s_tellHands (h := h) (S := True) hR hS hh) ?_
    exact k_vret f1_64 ⟨rfl, by rw [bI_l1 (P := ¬ h.testBit p = true) g0, bI_l1 (P := True) trivial]⟩
