/-! A TOWN's clauses, in the class. -/
def TwC (I : Nat → Nat → Int32) (R : Nat → Nat → Option Nat) (G : zG) (pl : Nat) (s : TS) : Prop :=
  PlX R G pl ∧ 71 ≤ pl ∧ I pl 0 = nI s.1 ∧ I pl 1 = nI (if s.2.1 = 0 then 365 else s.2.1) ∧ I pl 2 = nI s.2.2.1.1 ∧ I pl 3 = nI s.2.2.2.1.1 ∧
  (∀ i, i < s.2.2.1.1 → I (pl + 1) i = nI (s.2.2.1.2 i).1 ∧ I (pl + 2) i = nI (s.2.2.1.2 i).2.1 ∧ I (pl + 3) i = nI (s.2.2.1.2 i).2.2) ∧
  (∀ i, i < s.2.2.2.1.1 → I (pl + 4) i = nI (s.2.2.2.1.2 i).1 ∧ I (pl + 5) i = nI (s.2.2.2.1.2 i).2.1 ∧ I (pl + 6) i = nI (s.2.2.2.1.2 i).2.2 ∧ I (pl + 7) i = nI (ordK (fun j => nI (s.2.2.2.1.2 j).1) s.2.2.2.1.1 i)) ∧
  I 11 1 = nI s.2.2.2.2 ∧ I 11 2 = bI (0 < s.2.1)
theorem TwC.keep {I I' : Nat → Nat → Int32} {R : Nat → Nat → Option Nat} {G : zG} {pl : Nat} {s : TS} (h : TwC I R G pl s) (e : ∀ p k, p = 11 ∨ (pl ≤ p ∧ p < pl + 8) → I' p k = I p k) : TwC I' R G pl s := by
  obtain ⟨a, b, c0, c1, c2, c3, d, f, g1, g2⟩ := h
  refine ⟨a, b, (e _ _ (by omega)).trans c0, (e _ _ (by omega)).trans c1, (e _ _ (by omega)).trans c2, (e _ _ (by omega)).trans c3, fun i hi => ?_, fun i hi => ?_, (e _ _ (by omega)).trans g1, (e _ _ (by omega)).trans g2⟩
  · obtain ⟨x1, x2, x3⟩ := d i hi
    exact ⟨(e _ _ (by omega)).trans x1, (e _ _ (by omega)).trans x2, (e _ _ (by omega)).trans x3⟩
  · obtain ⟨x1, x2, x3, x4⟩ := f i hi
    exact ⟨(e _ _ (by omega)).trans x1, (e _ _ (by omega)).trans x2, (e _ _ (by omega)).trans x3, (e _ _ (by omega)).trans x4⟩
def FP (pl : Nat) (I I' : Nat → Nat → Int32) : Prop := ∀ p k, p ≠ 9 → p ≠ 11 → ¬ (pl ≤ p ∧ p < pl + 8) → I' p k = I p k
theorem FP.trans {pl : Nat} {I I1 I2 : Nat → Nat → Int32} (h1 : FP pl I I1) (h2 : FP pl I1 I2) : FP pl I I2 := fun p k a b c => (h2 p k a b c).trans (h1 p k a b c)
theorem F9.fp {pl : Nat} {I I' : Nat → Nat → Int32} (h : F9 I I') : FP pl I I' := fun p k a _ _ => h p k a
theorem FP.put {pl q j : Nat} {v : Int32} {I I' : Nat → Nat → Int32} (h : FP pl I I') (hq : q = 9 ∨ q = 11 ∨ (pl ≤ q ∧ q < pl + 8)) : FP pl I (z_u I' q j v) := fun p k a b c => (z_u_p _ _ _ _ (by omega)).trans (h p k a b c)
theorem FP.tp {pl n : Nat} {I I' : Nat → Nat → Int32} {b : Nat → Nat} (h : FP pl I I') (hp : 71 ≤ pl) (t : TP I b n) : TP I' b n := t.keep (fun k => h 10 k (by omega) (by omega) (by omega)) (fun k => h 52 k (by omega) (by omega) (by omega))
def ClP (I : Nat → Nat → Int32) (R : Nat → Nat → Option Nat) (G : zG) (b : Nat → Nat) (n pl : Nat) : Sum Nat (TS × Nat) → Prop
  | .inl e => CX I b n (.inl e)
  | .inr z => CX I b n (.inr (bk b n z.2)) ∧ TwC I R G pl z.1
theorem CX.put {I : Nat → Nat → Int32} {b : Nat → Nat} {n q j : Nat} {v : Int32} {t : Sum Nat Nat} (h : CX I b n t) (hq : q ≠ 9) : CX (z_u I q j v) b n t := h.keep fun k => z_u_p _ _ _ _ (by omega)
theorem nI_m1 {v : Nat} (h : v < 2 ^ 31) : ¬ nI v = -1 := fun z => by
  have : nI 0 ≤ nI v := nI_le (by omega) h
  rw [z] at this
  exact absurd this (by decide)
theorem rdN_m {b : Nat → Nat} {n lo hi q : Nat} {z : Nat × Nat} (h : nmQ b n lo hi q = .inr z) (hq : q ≤ n) (hh : hi < 100000) : rdN b n lo hi (-1) (.inr q) = (nI z.1, .inr (bk b n z.2)) := by
  rw [rdN_r h, if_neg (nI_m1 (by have := (nmq_ok (v := z.1) (p := z.2) hq h).2.1; omega))]
theorem q_rdCoin {x : Nat × (Nat → Int32)} {d : Nat} {I : Nat → Nat → Int32} {J : Nat → Nat → Int64} {R : Nat → Nat → Option Nat} {G : zG} {b : Nat → Nat} {n pl P q : Nat} (hR : Rs R) (hS : Sh G) (hT : TP I b n) (ht : CX I b n (.inr q)) (hP : PlX R G pl) (hpl : 71 ≤ pl) (h0 : I pl 0 = nI P) (hP2 : 2 ≤ P) (hP10 : P ≤ 10) {c : Nat} (h2 : I pl 2 = nI c) (hc : c < 8) : zOk x (d + 2) 59 0 [.ref 11, .ref pl, zU, zU, zU] [] (I, J, R, G) (fun v m => v = none ∧ ∃ I3, m = (z_u (z_u (z_u (z_u I3 (pl + 1) c (rdN b n 1 99 (-1) (.inr q)).1) (pl + 2) c (rdN b n 0 (P - 1) (-1) (rdN b n 1 99 (-1) (.inr q)).2).1) (pl + 3) c (rdN b n 0 999 (-1) (rdN b n 0 (P - 1) (-1) (rdN b n 1 99 (-1) (.inr q)).2).2).1) pl 2 (nI (c + 1)), J, R, G) ∧ F9 I I3 ∧ CX I3 b n (rdN b n 0 999 (-1) (rdN b n 0 (P - 1) (-1) (rdN b n 1 99 (-1) (.inr q)).2).2).2) := by
  refine k_aload f59_0 rfl ?_
  refine k_iconst (v := 1) f59_1 rfl ?_
  refine k_iconst (v := 99) f59_2 rfl ?_
  refine k_iconst (v := (-1)) f59_4 rfl ?_
  refine k_callv (as := [.int ((-1)), .int (99), .int (1)]) (rest := []) f59_5 hS.o11 rfl rfl rfl rfl (q_rdN (lo := 1) (hi := 99) (no := (-1)) (t := .inr q) hR hS hT ht (by omega) (by omega)) ?_
  rintro _ _ ⟨rfl, I1, rfl, ht1, hf1⟩
  have hT1 := hf1.tp hT
  refine k_istore (L' := [.ref 11, .ref pl, .int ((rdN b n 1 99 (-1) (.inr q)).1), zU, zU]) f59_8 rfl rfl ?_
  refine k_aload f59_9 rfl ?_
  refine k_iconst (v := 0) f59_10 rfl ?_
  refine k_aload f59_11 rfl ?_
  refine k_gI (w := nI P) f59_12 hP.1 rfl ((hf1 _ _ (by omega)).trans h0) ?_
  refine k_iconst (v := 1) f59_15 rfl ?_
  refine k_isub f59_16 ?_
  rw [show nI P - 1 = nI (P - 1) from nI_sb (i := P) (q := 1) (by omega)]
  refine k_iconst (v := (-1)) f59_17 rfl ?_
  refine k_callv (as := [.int ((-1)), .int (nI (P - 1)), .int (0)]) (rest := []) f59_18 hS.o11 rfl rfl rfl rfl (q_rdN (lo := 0) (hi := P - 1) (no := (-1)) (t := (rdN b n 1 99 (-1) (.inr q)).2) hR hS hT1 ht1 (by omega) (by omega)) ?_
  rintro _ _ ⟨rfl, I2, rfl, ht2, hf2⟩
  have hT2 := hf2.tp hT1
  refine k_istore (L' := [.ref 11, .ref pl, .int ((rdN b n 1 99 (-1) (.inr q)).1), .int ((rdN b n 0 (P - 1) (-1) ((rdN b n 1 99 (-1) (.inr q)).2)).1), zU]) f59_21 rfl rfl ?_
  refine k_aload f59_22 rfl ?_
  refine k_iconst (v := 0) f59_23 rfl ?_
  refine k_iconst (v := 999) f59_24 rfl ?_
  refine k_iconst (v := (-1)) f59_27 rfl ?_
  refine k_callv (as := [.int ((-1)), .int (999), .int (0)]) (rest := []) f59_28 hS.o11 rfl rfl rfl rfl (q_rdN (lo := 0) (hi := 999) (no := (-1)) (t := (rdN b n 0 (P - 1) (-1) (rdN b n 1 99 (-1) (.inr q)).2).2) hR hS hT2 ht2 (by omega) (by omega)) ?_
  rintro _ _ ⟨rfl, I3, rfl, ht3, hf3⟩
  have hT3 := hf3.tp hT2
  refine k_istore (L' := [.ref 11, .ref pl, .int ((rdN b n 1 99 (-1) (.inr q)).1), .int ((rdN b n 0 (P - 1) (-1) ((rdN b n 1 99 (-1) (.inr q)).2)).1), .int ((rdN b n 0 999 (-1) ((rdN b n 0 (P - 1) (-1) (rdN b n 1 99 (-1) (.inr q)).2).2)).1)]) f59_31 rfl rfl ?_
  refine k_aload f59_33 rfl ?_
  refine k_iload f59_34 rfl ?_
  refine k_iload f59_35 rfl ?_
  refine k_iload f59_36 rfl ?_
  refine e_v (as := [.int ((rdN b n 0 999 (-1) ((rdN b n 0 (P - 1) (-1) (rdN b n 1 99 (-1) (.inr q)).2).2)).1), .int ((rdN b n 0 (P - 1) (-1) ((rdN b n 1 99 (-1) (.inr q)).2)).1), .int ((rdN b n 1 99 (-1) (.inr q)).1)]) (rest := []) f59_38 hP.1 rfl rfl rfl (s_addCoin (c := c) hP ((hf3 _ _ (by omega)).trans ((hf2 _ _ (by omega)).trans ((hf1 _ _ (by omega)).trans h2))) hc) ?_
  exact k_vret f59_41 ⟨rfl, I3, rfl, hf1.trans (hf2.trans hf3), ht3⟩
theorem q_rdMeet {x : Nat × (Nat → Int32)} {d : Nat} {I : Nat → Nat → Int32} {J : Nat → Nat → Int64} {R : Nat → Nat → Option Nat} {G : zG} {b : Nat → Nat} {n pl P q : Nat} (hR : Rs R) (hS : Sh G) (hT : TP I b n) (ht : CX I b n (.inr q)) (hP : PlX R G pl) (hpl : 71 ≤ pl) (h0 : I pl 0 = nI P) (hP2 : 2 ≤ P) (hP10 : P ≤ 10) {m : Nat} {dy : Nat → Int32} (h3 : I pl 3 = nI m) (hm : m < 24) (h4 : ∀ i, i < m → I (pl + 4) i = dy i) (h7 : ∀ k, k < m → I (pl + 7) k = nI (ordK dy m k)) : zOk x (d + 2) 60 0 [.ref 11, .ref pl, zU, zU, zU] [] (I, J, R, G) (fun v mm => v = none ∧ ∃ I3 I4, mm = (I4, J, R, G) ∧ F9 I I3 ∧ CX I3 b n (rdN b n 0 (P - 1) (rdN b n 0 (P - 1) (-1) (rdN b n 0 1999 (-1) (.inr q)).2).1 (rdN b n 0 (P - 1) (-1) (rdN b n 0 1999 (-1) (.inr q)).2).2).2 ∧ (∀ i, i < m + 1 → I4 (pl + 4) i = (fun j => if j = m then (rdN b n 0 1999 (-1) (.inr q)).1 else dy j) i) ∧ (∀ k, k < m + 1 → I4 (pl + 7) k = nI (ordK (fun j => if j = m then (rdN b n 0 1999 (-1) (.inr q)).1 else dy j) (m + 1) k)) ∧ I4 pl 3 = nI (m + 1) ∧ I4 (pl + 5) m = (rdN b n 0 (P - 1) (-1) (rdN b n 0 1999 (-1) (.inr q)).2).1 ∧ I4 (pl + 6) m = (rdN b n 0 (P - 1) (rdN b n 0 (P - 1) (-1) (rdN b n 0 1999 (-1) (.inr q)).2).1 (rdN b n 0 (P - 1) (-1) (rdN b n 0 1999 (-1) (.inr q)).2).2).1 ∧ (∀ p k, ¬ (p = pl ∧ k = 3) → p ≠ pl + 4 → p ≠ pl + 7 → ¬ ((p = pl + 5 ∨ p = pl + 6) ∧ k = m) → I4 p k = I3 p k)) := by
  refine k_aload f60_0 rfl ?_
  refine k_iconst (v := 0) f60_1 rfl ?_
  refine k_iconst (v := 1999) f60_2 rfl ?_
  refine k_iconst (v := (-1)) f60_5 rfl ?_
  refine k_callv (as := [.int ((-1)), .int (1999), .int (0)]) (rest := []) f60_6 hS.o11 rfl rfl rfl rfl (q_rdN (lo := 0) (hi := 1999) (no := (-1)) (t := .inr q) hR hS hT ht (by omega) (by omega)) ?_
  rintro _ _ ⟨rfl, I1, rfl, ht1, hf1⟩
  have hT1 := hf1.tp hT
  refine k_istore (L' := [.ref 11, .ref pl, .int ((rdN b n 0 1999 (-1) (.inr q)).1), zU, zU]) f60_9 rfl rfl ?_
  refine k_aload f60_10 rfl ?_
  refine k_iconst (v := 0) f60_11 rfl ?_
  refine k_aload f60_12 rfl ?_
  refine k_gI (w := nI P) f60_13 hP.1 rfl ((hf1 _ _ (by omega)).trans h0) ?_
  refine k_iconst (v := 1) f60_16 rfl ?_
  refine k_isub f60_17 ?_
  rw [show nI P - 1 = nI (P - 1) from nI_sb (i := P) (q := 1) (by omega)]
  refine k_iconst (v := (-1)) f60_18 rfl ?_
  refine k_callv (as := [.int ((-1)), .int (nI (P - 1)), .int (0)]) (rest := []) f60_19 hS.o11 rfl rfl rfl rfl (q_rdN (lo := 0) (hi := P - 1) (no := (-1)) (t := (rdN b n 0 1999 (-1) (.inr q)).2) hR hS hT1 ht1 (by omega) (by omega)) ?_
  rintro _ _ ⟨rfl, I2, rfl, ht2, hf2⟩
  have hT2 := hf2.tp hT1
  refine k_istore (L' := [.ref 11, .ref pl, .int ((rdN b n 0 1999 (-1) (.inr q)).1), .int ((rdN b n 0 (P - 1) (-1) ((rdN b n 0 1999 (-1) (.inr q)).2)).1), zU]) f60_22 rfl rfl ?_
  refine k_aload f60_23 rfl ?_
  refine k_iconst (v := 0) f60_24 rfl ?_
  refine k_aload f60_25 rfl ?_
  refine k_gI (w := nI P) f60_26 hP.1 rfl ((hf2 _ _ (by omega)).trans ((hf1 _ _ (by omega)).trans h0)) ?_
  refine k_iconst (v := 1) f60_29 rfl ?_
  refine k_isub f60_30 ?_
  rw [show nI P - 1 = nI (P - 1) from nI_sb (i := P) (q := 1) (by omega)]
  refine k_iload f60_31 rfl ?_
  refine k_callv (as := [.int ((rdN b n 0 (P - 1) (-1) ((rdN b n 0 1999 (-1) (.inr q)).2)).1), .int (nI (P - 1)), .int (0)]) (rest := []) f60_32 hS.o11 rfl rfl rfl rfl (q_rdN (lo := 0) (hi := P - 1) (no := (rdN b n 0 (P - 1) (-1) (rdN b n 0 1999 (-1) (.inr q)).2).1) (t := (rdN b n 0 (P - 1) (-1) (rdN b n 0 1999 (-1) (.inr q)).2).2) hR hS hT2 ht2 (by omega) (by omega)) ?_
  rintro _ _ ⟨rfl, I3, rfl, ht3, hf3⟩
  have hT3 := hf3.tp hT2
  refine k_istore (L' := [.ref 11, .ref pl, .int ((rdN b n 0 1999 (-1) (.inr q)).1), .int ((rdN b n 0 (P - 1) (-1) ((rdN b n 0 1999 (-1) (.inr q)).2)).1), .int ((rdN b n 0 (P - 1) (rdN b n 0 (P - 1) (-1) (rdN b n 0 1999 (-1) (.inr q)).2).1 ((rdN b n 0 (P - 1) (-1) (rdN b n 0 1999 (-1) (.inr q)).2).2)).1)]) f60_35 rfl rfl ?_
  refine k_aload f60_37 rfl ?_
  refine k_iload f60_38 rfl ?_
  refine k_iload f60_39 rfl ?_
  refine k_iload f60_40 rfl ?_
  refine k_callv (as := [.int ((rdN b n 0 (P - 1) (rdN b n 0 (P - 1) (-1) (rdN b n 0 1999 (-1) (.inr q)).2).1 ((rdN b n 0 (P - 1) (-1) (rdN b n 0 1999 (-1) (.inr q)).2).2)).1), .int ((rdN b n 0 (P - 1) (-1) ((rdN b n 0 1999 (-1) (.inr q)).2)).1), .int ((rdN b n 0 1999 (-1) (.inr q)).1)]) (rest := []) f60_42 hP.1 rfl rfl rfl rfl (q_addM (m := m) (dy := dy) hP ((hf3 _ _ (by omega)).trans ((hf2 _ _ (by omega)).trans ((hf1 _ _ (by omega)).trans h3))) hm (fun i hi => (hf3 _ _ (by omega)).trans ((hf2 _ _ (by omega)).trans ((hf1 _ _ (by omega)).trans (h4 i hi)))) (fun i hi => (hf3 _ _ (by omega)).trans ((hf2 _ _ (by omega)).trans ((hf1 _ _ (by omega)).trans (h7 i hi))))) ?_
  rintro _ _ ⟨rfl, I4, rfl, k1, k2, k3, k4, k5, k6⟩
  exact k_vret f60_45 ⟨rfl, I3, I4, rfl, hf1.trans (hf2.trans hf3), ht3, k1, k2, k3, k4, k5, k6⟩
