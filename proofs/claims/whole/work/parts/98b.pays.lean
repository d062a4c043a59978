/-! A COIN paid or brought home: the reference. -/
theorem s_pays {x : Nat × (Nat → Int32)} {d : Nat} {I : Nat → Nat → Int32} {J : Nat → Nat → Int64} {R : Nat → Nat → Option Nat} {G : zG} {c h p : Nat} (hR : Rs R) (hS : Sh G) (hc8 : c < 8) (h3 : I 62 (8 + 6 * c + 3) = nI h) (hh : h < 1024) (hp : p < 10) : zRn x (d + 1) 172 [.ref 51, .int (nI c), .int (nI p)] (I, J, R, G) (none) (z_u (z_u (z_u (z_u I 62 (8 + 6 * c + 1) (nI p)) 62 (8 + 6 * c + 4) (bI (¬ h.testBit p = true))) 62 (8 + 6 * c + 3) ((nI h) ||| ((1) <<< ((nI p) &&& 31)))) 51 26 ((I 51 26) + (1)), J, R, G) := by
  show zOk x (d + 1) 172 0 [.ref 51, .int (nI c), .int (nI p), zU] [] _ _
  refine k_iconst (v := 8) f172_0 rfl ?_
  refine k_iconst (v := 6) f172_2 rfl ?_
  refine k_iload f172_4 rfl ?_
  refine k_imul f172_5 ?_
  refine k_iadd f172_6 ?_
  refine k_istore (L' := [.ref 51, .int (nI c), .int (nI p), .int ((8) + ((6) * (nI c)))]) f172_7 rfl rfl ?_
  refine k_aload f172_8 rfl ?_
  refine k_getr (q := 62) f172_9 hS.o51 rfl hR.r51_25 ?_
  refine k_iload f172_12 rfl ?_
  refine k_iconst (v := 1) f172_13 rfl ?_
  refine k_iadd f172_14 ?_
  refine k_iload f172_15 rfl ?_
  refine k_is (k := 8 + 6 * c + 1) f172_16 hS.a62 (ix_c c 1) (by omega) (by decide) ?_
  refine k_aload f172_17 rfl ?_
  refine k_getr (q := 62) f172_18 hS.o51 rfl hR.r51_25 ?_
  refine k_iload f172_21 rfl ?_
  refine k_iconst (v := 4) f172_22 rfl ?_
  refine k_iadd f172_23 ?_
  refine k_aload f172_24 rfl ?_
  refine k_getr (q := 62) f172_25 hS.o51 rfl hR.r51_25 ?_
  refine k_iload f172_28 rfl ?_
  refine k_iconst (v := 3) f172_29 rfl ?_
  refine k_iadd f172_30 ?_
  refine k_ia (k := 8 + 6 * c + 3) (w := nI h) f172_31 hS.a62 (ix_c c 3) (by omega) (by decide) (Eq.trans (z_u_k _ _ _ (by omega)) h3) ?_
  refine k_iload f172_32 rfl ?_
  refine e_s (as := [.int (nI p), .int (nI h)]) (rest := [.int (((8) + ((6) * (nI c))) + (4)), .ref 62]) f172_33 rfl rfl rfl (s_isOf (b := h) (p := p) (by omega) (by omega)) ?_
  refine k_beq f172_36 (fun g0 => ?_) (fun g0 => ?_)
  · refine k_iconst (v := 1) f172_43 rfl ?_
    refine k_is (k := 8 + 6 * c + 4) f172_44 hS.a62 (ix_c c 4) (by omega) (by decide) ?_
    refine k_aload f172_45 rfl ?_
    refine k_getr (q := 62) f172_46 hS.o51 rfl hR.r51_25 ?_
    refine k_iload f172_49 rfl ?_
    refine k_iconst (v := 3) f172_50 rfl ?_
    refine k_iadd f172_51 ?_
    refine k_dup2 f172_52 ?_
    refine k_ia (k := 8 + 6 * c + 3) (w := nI h) f172_53 hS.a62 (ix_c c 3) (by omega) (by decide) (Eq.trans (z_u_k _ _ _ (by omega)) (Eq.trans (z_u_k _ _ _ (by omega)) h3)) ?_
    refine k_iconst (v := 1) f172_54 rfl ?_
    refine k_iload f172_55 rfl ?_
    refine k_ishl f172_56 ?_
    refine k_ior f172_57 ?_
    refine k_is (k := 8 + 6 * c + 3) f172_58 hS.a62 (ix_c c 3) (by omega) (by decide) ?_
    refine k_aload f172_59 rfl ?_
    refine k_dup f172_60 ?_
    refine k_gI (w := I 51 26) f172_61 hS.o51 rfl (Eq.trans (z_u_p _ _ _ _ (by decide)) (Eq.trans (z_u_p _ _ _ _ (by decide)) (z_u_p _ _ _ _ (by decide)))) ?_
    refine k_iconst (v := 1) f172_64 rfl ?_
    refine k_iadd f172_65 ?_
    refine k_putI f172_66 hS.o51 rfl ?_
    exact k_vret f172_69 ⟨rfl, by rw [bI_v1 g0]⟩
  · refine k_iconst (v := 0) f172_39 rfl ?_
    refine k_goto f172_40 ?_
    refine k_is (k := 8 + 6 * c + 4) f172_44 hS.a62 (ix_c c 4) (by omega) (by decide) ?_
    refine k_aload f172_45 rfl ?_
    refine k_getr (q := 62) f172_46 hS.o51 rfl hR.r51_25 ?_
    refine k_iload f172_49 rfl ?_
    refine k_iconst (v := 3) f172_50 rfl ?_
    refine k_iadd f172_51 ?_
    refine k_dup2 f172_52 ?_
    refine k_ia (k := 8 + 6 * c + 3) (w := nI h) f172_53 hS.a62 (ix_c c 3) (by omega) (by decide) (Eq.trans (z_u_k _ _ _ (by omega)) (Eq.trans (z_u_k _ _ _ (by omega)) h3)) ?_
    refine k_iconst (v := 1) f172_54 rfl ?_
    refine k_iload f172_55 rfl ?_
    refine k_ishl f172_56 ?_
    refine k_ior f172_57 ?_
    refine k_is (k := 8 + 6 * c + 3) f172_58 hS.a62 (ix_c c 3) (by omega) (by decide) ?_
    refine k_aload f172_59 rfl ?_
    refine k_dup f172_60 ?_
    refine k_gI (w := I 51 26) f172_61 hS.o51 rfl (Eq.trans (z_u_p _ _ _ _ (by decide)) (Eq.trans (z_u_p _ _ _ _ (by decide)) (z_u_p _ _ _ _ (by decide)))) ?_
    refine k_iconst (v := 1) f172_64 rfl ?_
    refine k_iadd f172_65 ?_
    refine k_putI f172_66 hS.o51 rfl ?_
    exact k_vret f172_69 ⟨rfl, by rw [bI_v0 (fun k => k g0)]⟩
theorem s_brings {x : Nat × (Nat → Int32)} {d : Nat} {I : Nat → Nat → Int32} {J : Nat → Nat → Int64} {R : Nat → Nat → Option Nat} {G : zG} {c : Nat} {dy ho hm hc : Int32} (hR : Rs R) (hS : Sh G) (hc8 : c < 8) (g1 : I 62 3 = dy) (g2 : I 62 4 = hc) (h1 : I 62 (8 + 6 * c + 1) = ho) (h5 : I 62 (8 + 6 * c + 5) = hm) : zRn x d 173 [.ref 51, .int (nI c)] (I, J, R, G) (none) (z_u (z_u (z_u (z_u (z_u I 62 (8 + 6 * c + 2) dy) 62 (8 + 6 * c + 3) ((1) <<< ((ho) &&& 31))) 62 (8 + 6 * c + 4) 0) 62 (8 + 6 * c + 5) ((hm) + (1))) 62 4 ((hc) + (1)), J, R, G) := by
  show zOk x d 173 0 [.ref 51, .int (nI c), zU] [] _ _
  refine k_iconst (v := 8) f173_0 rfl ?_
  refine k_iconst (v := 6) f173_2 rfl ?_
  refine k_iload f173_4 rfl ?_
  refine k_imul f173_5 ?_
  refine k_iadd f173_6 ?_
  refine k_istore (L' := [.ref 51, .int (nI c), .int ((8) + ((6) * (nI c)))]) f173_7 rfl rfl ?_
  refine k_aload f173_8 rfl ?_
  refine k_getr (q := 62) f173_9 hS.o51 rfl hR.r51_25 ?_
  refine k_iload f173_12 rfl ?_
  refine k_iconst (v := 2) f173_13 rfl ?_
  refine k_iadd f173_14 ?_
  refine k_aload f173_15 rfl ?_
  refine k_getr (q := 62) f173_16 hS.o51 rfl hR.r51_25 ?_
  refine k_iconst (v := 3) f173_19 rfl ?_
  refine k_ia (k := 3) (w := dy) f173_20 hS.a62 rfl (by decide) (by decide) g1 ?_
  refine k_is (k := 8 + 6 * c + 2) f173_21 hS.a62 (ix_c c 2) (by omega) (by decide) ?_
  refine k_aload f173_22 rfl ?_
  refine k_getr (q := 62) f173_23 hS.o51 rfl hR.r51_25 ?_
  refine k_iload f173_26 rfl ?_
  refine k_iconst (v := 3) f173_27 rfl ?_
  refine k_iadd f173_28 ?_
  refine k_iconst (v := 1) f173_29 rfl ?_
  refine k_aload f173_30 rfl ?_
  refine k_getr (q := 62) f173_31 hS.o51 rfl hR.r51_25 ?_
  refine k_iload f173_34 rfl ?_
  refine k_iconst (v := 1) f173_35 rfl ?_
  refine k_iadd f173_36 ?_
  refine k_ia (k := 8 + 6 * c + 1) (w := ho) f173_37 hS.a62 (ix_c c 1) (by omega) (by decide) (Eq.trans (z_u_k _ _ _ (by omega)) h1) ?_
  refine k_ishl f173_38 ?_
  refine k_is (k := 8 + 6 * c + 3) f173_39 hS.a62 (ix_c c 3) (by omega) (by decide) ?_
  refine k_aload f173_40 rfl ?_
  refine k_getr (q := 62) f173_41 hS.o51 rfl hR.r51_25 ?_
  refine k_iload f173_44 rfl ?_
  refine k_iconst (v := 4) f173_45 rfl ?_
  refine k_iadd f173_46 ?_
  refine k_iconst (v := 0) f173_47 rfl ?_
  refine k_is (k := 8 + 6 * c + 4) f173_48 hS.a62 (ix_c c 4) (by omega) (by decide) ?_
  refine k_aload f173_49 rfl ?_
  refine k_getr (q := 62) f173_50 hS.o51 rfl hR.r51_25 ?_
  refine k_iload f173_53 rfl ?_
  refine k_iconst (v := 5) f173_54 rfl ?_
  refine k_iadd f173_55 ?_
  refine k_dup2 f173_56 ?_
  refine k_ia (k := 8 + 6 * c + 5) (w := hm) f173_57 hS.a62 (ix_c c 5) (by omega) (by decide) (Eq.trans (z_u_k _ _ _ (by omega)) (Eq.trans (z_u_k _ _ _ (by omega)) (Eq.trans (z_u_k _ _ _ (by omega)) h5))) ?_
  refine k_iconst (v := 1) f173_58 rfl ?_
  refine k_iadd f173_59 ?_
  refine k_is (k := 8 + 6 * c + 5) f173_60 hS.a62 (ix_c c 5) (by omega) (by decide) ?_
  refine k_aload f173_61 rfl ?_
  refine k_getr (q := 62) f173_62 hS.o51 rfl hR.r51_25 ?_
  refine k_iconst (v := 4) f173_65 rfl ?_
  refine k_dup2 f173_66 ?_
  refine k_ia (k := 4) (w := hc) f173_67 hS.a62 rfl (by decide) (by decide) (Eq.trans (z_u_k _ _ _ (by omega)) (Eq.trans (z_u_k _ _ _ (by omega)) (Eq.trans (z_u_k _ _ _ (by omega)) (Eq.trans (z_u_k _ _ _ (by omega)) g2)))) ?_
  refine k_iconst (v := 1) f173_68 rfl ?_
  refine k_iadd f173_69 ?_
  refine k_is (k := 4) f173_70 hS.a62 rfl (by decide) (by decide) ?_
  exact k_vret f173_71 ⟨rfl, rfl⟩
