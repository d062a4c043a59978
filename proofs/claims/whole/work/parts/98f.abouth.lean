/-! Coming home, told by the class. -/
theorem s_aboutHome {x : Nat × (Nat → Int32)} {d : Nat} {I : Nat → Nat → Int32} {J : Nat → Nat → Int64} {R : Nat → Nat → Option Nat} {G : zG} {st pl n c h : Nat} {s : Nat → Int32} {dy ho wo sp : Int32} {S : Prop} [Decidable S] (hR : Rs R) (hS : Sh G) (hst : StR I R G st pl s) (hn : s 1 = nI n) (hn8 : n ≤ 8) (hc8 : c < 8) (cz : zo G (st + 2 + c) 1) (g1 : I st 1 = dy) (cn0 : I (st + 2 + c) 0 = wo) (cn1 : I (st + 2 + c) 1 = ho) (cn2 : I (st + 2 + c) 2 = sp) (cn3 : I (st + 2 + c) 3 = nI h) (cn4 : I (st + 2 + c) 4 = bI S) (hh : h < 1024) : zRn x (d + 2) 2 [.ref 39, .ref st, .int (nI c)] (I, J, R, G) (none) (I, z_u (z_u (z_u (z_u (z_u (z_u (z_u (z_u (z_u J 40 1 ((nI c).toInt64)) 40 2 ((wo).toInt64)) 40 3 (((dy) - (sp)).toInt64)) 40 9 ((dy).toInt64)) 40 7 ((ho).toInt64)) 40 8 ((ho).toInt64)) 40 6 ((acc (fC s ho) n).toInt64)) 40 4 ((nI (popc h)).toInt64)) 40 5 ((bI (S)).toInt64), R, G) := by
  show zOk x (d + 2) 2 0 [.ref 39, .ref st, .int (nI c), zU] [] _ _
  refine k_aload f2_0 rfl ?_
  refine k_getr (q := st + 1) f2_1 hst.1.1 rfl hst.1.2.1 ?_
  refine k_iload f2_4 rfl ?_
  refine k_aar (k := c) (q := st + 2 + c) f2_5 hst.1.2.2.1 rfl rfl (by omega) (by decide) (hst.1.2.2.2 c hc8).1 ?_
  refine k_astore (L' := [.ref 39, .ref st, .int (nI c), .ref (st + 2 + c)]) f2_6 rfl rfl ?_
  refine k_aload f2_7 rfl ?_
  refine k_aload f2_8 rfl ?_
  refine k_iload f2_9 rfl ?_
  refine k_aload f2_10 rfl ?_
  refine k_gI (w := dy) f2_11 hst.1.1 rfl g1 ?_
  refine e_v (as := [.int (dy), .int (nI c), .ref (st + 2 + c)]) (rest := []) f2_14 hS.o39 rfl rfl rfl (s_tellCoin hR hS cz cn0 cn2) ?_
  refine k_aload f2_17 rfl ?_
  refine k_aload f2_18 rfl ?_
  refine k_gI (w := ho) f2_19 cz rfl cn1 ?_
  refine k_aload f2_22 rfl ?_
  refine k_gI (w := ho) f2_23 cz rfl cn1 ?_
  refine k_aload f2_26 rfl ?_
  refine k_aload f2_27 rfl ?_
  refine k_gI (w := ho) f2_28 cz rfl cn1 ?_
  refine e_v (as := [.int (ho)]) (rest := [.int (ho), .int (ho), .ref 39]) f2_31 hst.1.1 rfl rfl rfl (s_purse (st := st) hst hn hn8) ?_
  refine e_v (as := [.int (acc (fC s ho) n), .int (ho), .int (ho)]) (rest := []) f2_34 hS.o39 rfl rfl rfl (s_tellPeople hR hS) ?_
  refine k_aload f2_37 rfl ?_
  refine k_aload f2_38 rfl ?_
  refine k_gI (w := nI h) f2_39 cz rfl cn3 ?_
  refine k_aload f2_42 rfl ?_
  refine k_gI (w := bI S) f2_43 cz rfl cn4 ?_
  refine e_v (as := [.int (bI (S)), .int (nI h)]) (rest := []) f2_46 hS.o39 rfl rfl rfl (s_tellHands (h := h) (S := S) hR hS hh) ?_
  exact k_vret f2_49 ⟨rfl, rfl⟩
