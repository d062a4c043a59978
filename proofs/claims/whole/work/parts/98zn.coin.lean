/-! A COIN's search on both sides. -/
def CFr (I0 : Nat → Nat → Int32) (R0 : Nat → Nat → Option Nat) (I : Nat → Nat → Int32) (R : Nat → Nat → Option Nat) : Prop := (∀ p k, ¬ (43 ≤ p ∧ p ≤ 46) → I p k = I0 p k) ∧ ∀ p k, ¬ (p = 43 ∧ (k = 2 ∨ k = 3)) → R p k = R0 p k
theorem CFr.rfl {I0 : Nat → Nat → Int32} {R0 : Nat → Nat → Option Nat} : CFr I0 R0 I0 R0 := ⟨fun _ _ _ => Eq.refl _, fun _ _ _ => Eq.refl _⟩
theorem CFr.trans {I0 I1 I2 : Nat → Nat → Int32} {R0 R1 R2 : Nat → Nat → Option Nat} (h : CFr I0 R0 I1 R1) (g : CFr I1 R1 I2 R2) : CFr I0 R0 I2 R2 := ⟨fun p k q => (g.1 p k q).trans (h.1 p k q), fun p k q => (g.2 p k q).trans (h.2 p k q)⟩
theorem CFr.kr {I0 I1 : Nat → Nat → Int32} {R0 R1 : Nat → Nat → Option Nat} (h : CFr I0 R0 I1 R1) : Kr I0 I1 := fun p k q => h.1 p k (by omega)
theorem CFr.rs {I0 I1 : Nat → Nat → Int32} {R0 R1 : Nat → Nat → Option Nat} {G : zG} (h : CFr I0 R0 I1 R1) (hS : Sh G) (hR : Rs R0) : Rs R1 := rs_keep hS hR (fun p k _ _ h2 => h.2 p k h2)
theorem CFr.st {I0 I1 : Nat → Nat → Int32} {R0 R1 : Nat → Nat → Option Nat} {G : zG} {pl : Nat} {s : Nat → Int32} (h : CFr I0 R0 I1 R1) (hs : StR I0 R0 G 17 pl s) (h8 : cl (s 1) ≤ 8) : StR I1 R1 G 17 pl s := by
  have hpl := hs.2.2.1.1
  exact hs.keep h8 Gk.rfl (fun p k _ hp => h.1 p k (by omega)) (fun p k _ hp => h.2 p k (by omega))
theorem CFr.ra {I0 I1 : Nat → Nat → Int32} {R0 R1 : Nat → Nat → Option Nat} {G : zG} (h : CFr I0 R0 I1 R1) (hA : RuA I0 R0 G) : RuA I1 R1 G := by
  have e := h.1 0 4 (by omega)
  refine ⟨by rw [e]; exact hA.1, fun t ht => ?_⟩
  rw [e] at ht
  obtain ⟨r, r1, r2⟩ := hA.2 t ht
  exact ⟨r, (h.2 16 t (by omega)).trans r1, (r2.kr h.kr).rr fun p k hp => h.2 p k (by omega)⟩
theorem SOk.md {s : Nat → Int32} {rn : Nat} (h : SOk s rn) : MD s (cl (s 2)) := fun j hj => by
  have g := h.2.2.2.2.2.2.2.2 j hj
  have := h.1.2
  have a := g.2.1.2
  have b := g.2.2.1.2
  exact ⟨g.1, by unfold mA; omega, by unfold mB; omega⟩
/-- the class's LD and the reference's SE of a coin -/
def LDc (b : Nat → Nat → Int32) (I : Nat → Nat → Int32) (R : Nat → Nat → Option Nat) (G : zG) (pl : Nat) (s : Nat → Int32) (bo : Option Nat) (c : Nat) : Prop := LD (baB b (s 6)) I R G pl (17 + 2 + c) s (cl (s 1)) (cl (s 2)) bo (s 6) (nI c) (s (8 + 6 * c)) (s (8 + 6 * c + 2)) (s 3) (s (8 + 6 * c + 4)) (cl (s (8 + 6 * c + 1))) (cl (s (8 + 6 * c + 3)))
def FDk (b : Nat → Nat → Int32) (s : Nat → Int32) (c g : Nat) : Int32 × Nat := FD (baB b (s 6)) s (cl (s 1)) (cl (s 2)) (nI c) (s (8 + 6 * c)) (s (8 + 6 * c + 2)) (s 3) (s (8 + 6 * c + 4)) (cl (s (8 + 6 * c + 1))) (cl (s (8 + 6 * c + 3))) g
def SEk (b : Nat → Nat → Int32) (s : Nat → Int32) (c g : Nat) : Nat × (Nat → Nat) × Int32 × Nat := SE (baB b (s 6)) s (cl (s 1)) (cl (s 2)) (nI c) (s (8 + 6 * c)) (s (8 + 6 * c + 2)) (s 3) (s (8 + 6 * c + 4)) (cl (s (8 + 6 * c + 1))) (cl (s (8 + 6 * c + 3))) g
theorem sek {b : Nat → Nat → Int32} {s : Nat → Int32} {rn c g : Nat} (h : SOk s rn) (hc : c < cl (s 1)) : (SEk b s c g).2.2.1 = (FDk b s c g).1 ∧ ((FDk b s c g).1 = -2 → (SEk b s c g).1 = (FDk b s c g).2) := by
  have k := h.2.2.2.2.2.2.2.1 c hc
  have := h.1.2
  have hp := k.2.1.2
  have hm := h.2.2.1.2
  exact SE_FD h.md (by omega) (k.2.2.1.le (by omega)) h.2.2.2.2.2.2.1 (h.2.2.2.1.le (by omega)) (by omega) k.2.2.2.1.2 k.2.2.2.2.2.2.2.2
theorem q_layWays {x : Nat × (Nat → Int32)} {d : Nat} {I : Nat → Nat → Int32} {J : Nat → Nat → Int64} {R : Nat → Nat → Option Nat} {G : zG} {pl c : Nat} {s : Nat → Int32} (hR : Rs R) (hS : Sh G) (hst : StR I R G 17 pl s) (hO : SOk s (cl (I 0 4))) (hA : RuA I R G) (hc : c < cl (s 1)) : zOk x (d + 6) 105 0 [.ref 0, .int (nI c)] [] (I, J, R, G) (fun v mm => v = none ∧ ∃ I' J' R' bo, mm = (I', J', R', G) ∧ LDc I I' R' G pl s bo c ∧ CFr I R I' R') := by
  have hn9 := hO.2.1.2
  have hm25 := hO.2.2.1.2
  have hc8 : c < 8 := by omega
  have cn := hst.2.2.2.2.2.2.2.2 c hc
  have cok := hO.2.2.2.2.2.2.2.1 c hc
  unfold LDc
  rcases hO.2.2.2.2.2.1 with h6 | h6
  · have h3 : I 17 3 = (-1) := hst.2.2.2.2.2.2.1.trans h6
    have hbr : BR I R G none (s 6) := Or.inl ⟨h6, rfl⟩
    refine k_aload f105_0 rfl ?_
    refine k_getr (q := 43) f105_1 hS.o0 rfl hR.r0_11 ?_
    refine k_aload f105_4 rfl ?_
    refine k_aload f105_5 rfl ?_
    refine k_getr (q := 17) f105_6 hS.o0 rfl hR.r0_5 ?_
    refine k_gI (w := (-1)) f105_9 hS.o17 rfl h3 ?_
    refine e_v (as := [.int ((-1))]) (rest := [.ref 43]) f105_12 hS.o0 rfl rfl rfl (s_ruleAt0 hS (fun q => q.1 (by decide))) ?_
    refine k_aload f105_15 rfl ?_
    refine k_getr (q := 17) f105_16 hS.o0 rfl hR.r0_5 ?_
    refine k_getr (q := 18) f105_19 hS.o17 rfl hR.r17_5 ?_
    refine k_iload f105_22 rfl ?_
    refine k_aar (k := c) (q := 17 + 2 + c) f105_23 hS.a18 rfl rfl (by omega) (by decide) (hst.1.2.2.2 c hc8).1 ?_
    refine k_iload f105_24 rfl ?_
    refine k_aload f105_25 rfl ?_
    refine k_getr (q := 17) f105_26 hS.o0 rfl hR.r0_5 ?_
    refine k_gI (w := s 3) f105_29 hS.o17 rfl hst.2.2.2.2.1 ?_
    refine k_callv (as := [.int (s 3), .int (nI c), .ref (17 + 2 + c), .null]) (rest := []) f105_32 hS.o43 rfl rfl rfl rfl (q_lay0 (q := 17 + 2 + c) (fo := s 6) (n := cl (s 1)) (m := cl (s 2)) (h := cl (s (8 + 6 * c + 3))) (p := cl (s (8 + 6 * c + 1))) hR hS hst hO.2.1.1 (by omega) hO.mw (by omega) hO.1.2 hbr (hst.1.2.2.2 c hc8).2 (Or.inr (by omega)) cn.1 (cn.2.1.trans cok.2.1.1) cn.2.2.1 (cn.2.2.2.1.trans cok.2.2.2.1.1) cn.2.2.2.2.1 cok.2.2.2.1.2) ?_
    rintro _ _ ⟨rfl, I1, J1, rfl, hw1, hf1, hl1, hy1, hn1⟩
    obtain ⟨R1, eR1⟩ : ∃ R1, R1 = z_u (z_u R 43 2 none) 43 3 (some (17 + 2 + c)) := ⟨_, rfl⟩
    rw [← eR1] at hw1 ⊢
    refine k_vret f105_35 ⟨rfl, I1, J1, R1, none, rfl, ⟨hw1, hl1, ?_, by rw [eR1, z_u_k _ _ _ (by omega), z_u_same], by rw [eR1, z_u_same]⟩, fun p k hp => hf1 p k (by omega) (by omega), fun p k hp => by rw [eR1, z_u_no _ _ (by omega), z_u_no _ _ (by omega)]⟩
    by_cases hb : hoB (baB I (s 6)) s (cl (s 1)) (nI c) (s (8 + 6 * c)) (s (8 + 6 * c + 2)) (s 3) (s (8 + 6 * c + 4)) (cl (s (8 + 6 * c + 1))) (cl (s (8 + 6 * c + 3))) = true
    · rw [hy1 (hoB_iff.mp hb), bI_v1 hb]
    · rw [hn1 (fun k => hb (hoB_iff.mpr k)), bI_v0 hb]
  · obtain ⟨t, et⟩ : ∃ t, t = cl (s 6) := ⟨_, rfl⟩
    have htl : t < cl (I 0 4) := by rw [et]; exact h6.2
    obtain ⟨r, r1, r2⟩ := hA.2 t htl
    have ht6 : t < 6 := by have := hA.1.2; omega
    have e6 : s 6 = nI t := by rw [et]; exact h6.1
    have h3 : I 17 3 = nI t := hst.2.2.2.2.2.2.1.trans e6
    have hlt : ¬ I 0 4 ≤ nI t := by
      rw [hA.1.1]
      exact nI_ge htl (by have := hA.1.2; omega)
    have hbr : BR I R G (some r) (s 6) := Or.inr ⟨t, r, ht6, e6, rfl, r2⟩
    refine k_aload f105_0 rfl ?_
    refine k_getr (q := 43) f105_1 hS.o0 rfl hR.r0_11 ?_
    refine k_aload f105_4 rfl ?_
    refine k_aload f105_5 rfl ?_
    refine k_getr (q := 17) f105_6 hS.o0 rfl hR.r0_5 ?_
    refine k_gI (w := nI t) f105_9 hS.o17 rfl h3 ?_
    refine e_v (as := [.int (nI t)]) (rest := [.ref 43]) f105_12 hS.o0 rfl rfl rfl (s_ruleAt1 (t := t) hR hS ht6 hlt r1) ?_
    refine k_aload f105_15 rfl ?_
    refine k_getr (q := 17) f105_16 hS.o0 rfl hR.r0_5 ?_
    refine k_getr (q := 18) f105_19 hS.o17 rfl hR.r17_5 ?_
    refine k_iload f105_22 rfl ?_
    refine k_aar (k := c) (q := 17 + 2 + c) f105_23 hS.a18 rfl rfl (by omega) (by decide) (hst.1.2.2.2 c hc8).1 ?_
    refine k_iload f105_24 rfl ?_
    refine k_aload f105_25 rfl ?_
    refine k_getr (q := 17) f105_26 hS.o0 rfl hR.r0_5 ?_
    refine k_gI (w := s 3) f105_29 hS.o17 rfl hst.2.2.2.2.1 ?_
    refine k_callv (as := [.int (s 3), .int (nI c), .ref (17 + 2 + c), .ref r]) (rest := []) f105_32 hS.o43 rfl rfl rfl rfl (q_lay1 (q := 17 + 2 + c) (fo := s 6) (n := cl (s 1)) (m := cl (s 2)) (h := cl (s (8 + 6 * c + 3))) (p := cl (s (8 + 6 * c + 1))) hR hS hst hO.2.1.1 (by omega) hO.mw (by omega) hO.1.2 hbr (hst.1.2.2.2 c hc8).2 (Or.inr (by omega)) cn.1 (cn.2.1.trans cok.2.1.1) cn.2.2.1 (cn.2.2.2.1.trans cok.2.2.2.1.1) cn.2.2.2.2.1 cok.2.2.2.1.2) ?_
    rintro _ _ ⟨rfl, I1, J1, rfl, hw1, hf1, hl1, hy1, hn1⟩
    obtain ⟨R1, eR1⟩ : ∃ R1, R1 = z_u (z_u R 43 2 (some r)) 43 3 (some (17 + 2 + c)) := ⟨_, rfl⟩
    rw [← eR1] at hw1 ⊢
    refine k_vret f105_35 ⟨rfl, I1, J1, R1, (some r), rfl, ⟨hw1, hl1, ?_, by rw [eR1, z_u_k _ _ _ (by omega), z_u_same], by rw [eR1, z_u_same]⟩, fun p k hp => hf1 p k (by omega) (by omega), fun p k hp => by rw [eR1, z_u_no _ _ (by omega), z_u_no _ _ (by omega)]⟩
    by_cases hb : hoB (baB I (s 6)) s (cl (s 1)) (nI c) (s (8 + 6 * c)) (s (8 + 6 * c + 2)) (s 3) (s (8 + 6 * c + 4)) (cl (s (8 + 6 * c + 1))) (cl (s (8 + 6 * c + 3))) = true
    · rw [hy1 (hoB_iff.mp hb), bI_v1 hb]
    · rw [hn1 (fun k => hb (hoB_iff.mpr k)), bI_v0 hb]
theorem q_sFor {x : Nat × (Nat → Int32)} {d : Nat} {I : Nat → Nat → Int32} {J : Nat → Nat → Int64} {R : Nat → Nat → Option Nat} {G : zG} {c g : Nat} {s : Nat → Int32} (hR : Rs R) (hS : Sh G) (hs : I 62 = s) (hO : SOk s (cl (I 0 4))) (hA : RuA I R G) (hc : c < cl (s 1)) (hg : g < 2 ^ 31) : zOk x (d + 6) 186 0 [.ref 51, .int (nI c), .int (nI g)] [] (I, J, R, G) (fun v mm => v = none ∧ ∃ I' J', mm = (I', J', R, G) ∧ RSt I' (SEk I s c g) ∧ RF2 I I') := by
  have hn9 := hO.2.1.2
  have hm25 := hO.2.2.1.2
  have h11 := hO.1.2
  have hc8 : c < 8 := by omega
  have cok := hO.2.2.2.2.2.2.2.1 c hc
  have hp10 := cok.2.1.2
  by_cases e4 : s (8 + 6 * c + 4) = 1
  · have hf1 : ¬ s (8 + 6 * c + 4) = 0 := by rw [e4]; decide
    refine k_aload f186_0 rfl ?_
    refine k_iload f186_1 rfl ?_
    refine k_aload f186_2 rfl ?_
    refine k_iload f186_3 rfl ?_
    refine k_iconst (v := 0) f186_4 rfl ?_
    refine e_v (as := [.int (0), .int (nI c)]) (rest := [.int (nI c), .ref 51]) f186_5 hS.o51 rfl rfl rfl (s_coinOf (c := c) (k := 0) (v := s (8 + 6 * c)) hR hS (by omega) (congrFun hs _)) ?_
    refine k_aload f186_8 rfl ?_
    refine k_iload f186_9 rfl ?_
    refine k_iconst (v := 1) f186_10 rfl ?_
    refine e_v (as := [.int (1), .int (nI c)]) (rest := [.int (s (8 + 6 * c)), .int (nI c), .ref 51]) f186_11 hS.o51 rfl rfl rfl (s_coinOf (c := c) (k := 1) (v := nI (cl (s (8 + 6 * c + 1)))) hR hS (by omega) ((congrFun hs _).trans cok.2.1.1)) ?_
    refine k_aload f186_14 rfl ?_
    refine k_iload f186_15 rfl ?_
    refine k_iconst (v := 2) f186_16 rfl ?_
    refine e_v (as := [.int (2), .int (nI c)]) (rest := [.int (nI (cl (s (8 + 6 * c + 1)))), .int (s (8 + 6 * c)), .int (nI c), .ref 51]) f186_17 hS.o51 rfl rfl rfl (s_coinOf (c := c) (k := 2) (v := s (8 + 6 * c + 2)) hR hS (by omega) (congrFun hs _)) ?_
    refine k_aload f186_20 rfl ?_
    refine k_iload f186_21 rfl ?_
    refine k_iconst (v := 3) f186_22 rfl ?_
    refine e_v (as := [.int (3), .int (nI c)]) (rest := [.int (s (8 + 6 * c + 2)), .int (nI (cl (s (8 + 6 * c + 1)))), .int (s (8 + 6 * c)), .int (nI c), .ref 51]) f186_23 hS.o51 rfl rfl rfl (s_coinOf (c := c) (k := 3) (v := nI (cl (s (8 + 6 * c + 3)))) hR hS (by omega) ((congrFun hs _).trans cok.2.2.2.1.1)) ?_
    refine k_aload f186_26 rfl ?_
    refine k_iload f186_27 rfl ?_
    refine k_iconst (v := 4) f186_28 rfl ?_
    refine e_v (as := [.int (4), .int (nI c)]) (rest := [.int (nI (cl (s (8 + 6 * c + 3)))), .int (s (8 + 6 * c + 2)), .int (nI (cl (s (8 + 6 * c + 1)))), .int (s (8 + 6 * c)), .int (nI c), .ref 51]) f186_29 hS.o51 rfl rfl rfl (s_coinOf (c := c) (k := 4) (v := s (8 + 6 * c + 4)) hR hS (by omega) (congrFun hs _)) ?_
    refine k_iconst (v := 1) f186_32 rfl ?_
    refine k_ic_ne f186_33 (fun h_ => absurd (e4) h_) (fun _ => ?_)
    refine k_iconst (v := 1) f186_36 rfl ?_
    refine k_goto f186_37 ?_
    refine k_aload f186_41 rfl ?_
    refine k_getr (q := 62) f186_42 hS.o51 rfl hR.r51_25 ?_
    refine k_iconst (v := 3) f186_45 rfl ?_
    refine k_ia (k := 3) (w := s 3) f186_46 hS.a62 rfl (by decide) (by decide) (congrFun hs 3) ?_
    refine k_iload f186_47 rfl ?_
    refine k_callv (as := [.int (nI g), .int (s 3), .int (1), .int (nI (cl (s (8 + 6 * c + 3)))), .int (s (8 + 6 * c + 2)), .int (nI (cl (s (8 + 6 * c + 1)))), .int (s (8 + 6 * c)), .int (nI c)]) (rest := []) f186_48 hS.o51 rfl rfl rfl rfl (q_search1 (n := cl (s 1)) (m := cl (s 2)) (fo := s 6) (fe := s (8 + 6 * c + 4)) (p := cl (s (8 + 6 * c + 1))) (h := cl (s (8 + 6 * c + 3))) (g := g) hR hS hA hO.2.2.2.2.2.1 hs rfl hO.2.1.1 (by omega) hO.mw (by omega) hO.1.2 cok.2.2.2.1.2 (by omega) hg hf1) ?_
    rintro _ _ ⟨rfl, I1, J1, rfl, hz1, hf1⟩
    exact k_vret f186_51 ⟨rfl, I1, J1, rfl, hz1, hf1⟩
  · have hf0 : s (8 + 6 * c + 4) = 0 := (rg_01 cok.2.2.2.2.1).resolve_right e4
    refine k_aload f186_0 rfl ?_
    refine k_iload f186_1 rfl ?_
    refine k_aload f186_2 rfl ?_
    refine k_iload f186_3 rfl ?_
    refine k_iconst (v := 0) f186_4 rfl ?_
    refine e_v (as := [.int (0), .int (nI c)]) (rest := [.int (nI c), .ref 51]) f186_5 hS.o51 rfl rfl rfl (s_coinOf (c := c) (k := 0) (v := s (8 + 6 * c)) hR hS (by omega) (congrFun hs _)) ?_
    refine k_aload f186_8 rfl ?_
    refine k_iload f186_9 rfl ?_
    refine k_iconst (v := 1) f186_10 rfl ?_
    refine e_v (as := [.int (1), .int (nI c)]) (rest := [.int (s (8 + 6 * c)), .int (nI c), .ref 51]) f186_11 hS.o51 rfl rfl rfl (s_coinOf (c := c) (k := 1) (v := nI (cl (s (8 + 6 * c + 1)))) hR hS (by omega) ((congrFun hs _).trans cok.2.1.1)) ?_
    refine k_aload f186_14 rfl ?_
    refine k_iload f186_15 rfl ?_
    refine k_iconst (v := 2) f186_16 rfl ?_
    refine e_v (as := [.int (2), .int (nI c)]) (rest := [.int (nI (cl (s (8 + 6 * c + 1)))), .int (s (8 + 6 * c)), .int (nI c), .ref 51]) f186_17 hS.o51 rfl rfl rfl (s_coinOf (c := c) (k := 2) (v := s (8 + 6 * c + 2)) hR hS (by omega) (congrFun hs _)) ?_
    refine k_aload f186_20 rfl ?_
    refine k_iload f186_21 rfl ?_
    refine k_iconst (v := 3) f186_22 rfl ?_
    refine e_v (as := [.int (3), .int (nI c)]) (rest := [.int (s (8 + 6 * c + 2)), .int (nI (cl (s (8 + 6 * c + 1)))), .int (s (8 + 6 * c)), .int (nI c), .ref 51]) f186_23 hS.o51 rfl rfl rfl (s_coinOf (c := c) (k := 3) (v := nI (cl (s (8 + 6 * c + 3)))) hR hS (by omega) ((congrFun hs _).trans cok.2.2.2.1.1)) ?_
    refine k_aload f186_26 rfl ?_
    refine k_iload f186_27 rfl ?_
    refine k_iconst (v := 4) f186_28 rfl ?_
    refine e_v (as := [.int (4), .int (nI c)]) (rest := [.int (nI (cl (s (8 + 6 * c + 3)))), .int (s (8 + 6 * c + 2)), .int (nI (cl (s (8 + 6 * c + 1)))), .int (s (8 + 6 * c)), .int (nI c), .ref 51]) f186_29 hS.o51 rfl rfl rfl (s_coinOf (c := c) (k := 4) (v := s (8 + 6 * c + 4)) hR hS (by omega) (congrFun hs _)) ?_
    refine k_iconst (v := 1) f186_32 rfl ?_
    refine k_ic_ne f186_33 (fun _ => ?_) (fun h_ => absurd (e4) h_)
    refine k_iconst (v := 0) f186_40 rfl ?_
    refine k_aload f186_41 rfl ?_
    refine k_getr (q := 62) f186_42 hS.o51 rfl hR.r51_25 ?_
    refine k_iconst (v := 3) f186_45 rfl ?_
    refine k_ia (k := 3) (w := s 3) f186_46 hS.a62 rfl (by decide) (by decide) (congrFun hs 3) ?_
    refine k_iload f186_47 rfl ?_
    refine k_callv (as := [.int (nI g), .int (s 3), .int (0), .int (nI (cl (s (8 + 6 * c + 3)))), .int (s (8 + 6 * c + 2)), .int (nI (cl (s (8 + 6 * c + 1)))), .int (s (8 + 6 * c)), .int (nI c)]) (rest := []) f186_48 hS.o51 rfl rfl rfl rfl (q_search0 (n := cl (s 1)) (m := cl (s 2)) (fo := s 6) (fe := s (8 + 6 * c + 4)) (p := cl (s (8 + 6 * c + 1))) (h := cl (s (8 + 6 * c + 3))) (g := g) hR hS hA hO.2.2.2.2.2.1 hs rfl hO.2.1.1 (by omega) hO.mw (by omega) hO.1.2 cok.2.2.2.1.2 (by omega) hg hf0) ?_
    rintro _ _ ⟨rfl, I1, J1, rfl, hz1, hf1⟩
    exact k_vret f186_51 ⟨rfl, I1, J1, rfl, hz1, hf1⟩
