/-! A TOWN's clause: what it leaves. -/
theorem rdN_i {b : Nat → Nat} {n lo hi e : Nat} {no : Int32} : rdN b n lo hi no (.inl e) = (0, .inl e) := rfl
theorem fin_1 {I2 I3 : Nat → Nat → Int32} {R : Nat → Nat → Option Nat} {G : zG} {b : Nat → Nat} {n pl P y c m ln q p : Nat} {cf mf : Nat → Nat × Nat × Nat} (hq : q ≤ n) (eq : q = bk b n p) (hw : TwC I2 R G pl (P, y, (c, cf), (m, mf), ln + 1)) (hf : F9 I2 I3) (ht : CX I3 b n (rdN b n 2 10 (-1) (.inr q)).2) : ClP (z_u I3 pl 0 (rdN b n 2 10 (-1) (.inr q)).1) R G b n pl (bdT b n 1 (P, y, (c, cf), (m, mf), ln) p) := by
  have hpl := hw.2.1
  have hw3 : TwC I3 R G pl (P, y, (c, cf), (m, mf), ln + 1) := hw.keep fun p k h => hf p k (by omega)
  obtain ⟨a, b1, c0, c1, c2, c3, d, f, g1, g2⟩ := hw3
  show ClP _ R G b n pl (bdS (nmQ b n 2 10 (bk b n p)) _)
  rw [← eq]
  cases hN : nmQ b n 2 10 q with
  | inl e =>
    rw [rdN_l hN] at ht ⊢
    exact CX.put (b := b) (t := .inl e) ht (by omega)
  | inr z =>
    rw [rdN_m hN hq (by omega)] at ht ⊢
    refine ⟨CX.put (t := .inr (bk b n z.2)) ht (by omega), a, b1, z_u_same _ _ _ _, (z_u_k _ _ _ (by decide)).trans c1, (z_u_k _ _ _ (by decide)).trans c2, (z_u_k _ _ _ (by decide)).trans c3, fun i hi => ?_, fun i hi => ?_, (z_u_p _ _ _ _ (by omega)).trans g1, (z_u_p _ _ _ _ (by omega)).trans g2⟩
    · obtain ⟨x1, x2, x3⟩ := d i hi
      exact ⟨(z_u_p _ _ _ _ (by omega)).trans x1, (z_u_p _ _ _ _ (by omega)).trans x2, (z_u_p _ _ _ _ (by omega)).trans x3⟩
    · obtain ⟨x1, x2, x3, x4⟩ := f i hi
      exact ⟨(z_u_p _ _ _ _ (by omega)).trans x1, (z_u_p _ _ _ _ (by omega)).trans x2, (z_u_p _ _ _ _ (by omega)).trans x3, (z_u_p _ _ _ _ (by omega)).trans x4⟩
theorem fin_2 {I2 I3 : Nat → Nat → Int32} {R : Nat → Nat → Option Nat} {G : zG} {b : Nat → Nat} {n pl P y c m ln q p : Nat} {cf mf : Nat → Nat × Nat × Nat} (hq : q ≤ n) (eq : q = bk b n p) (hw : TwC I2 R G pl (P, y, (c, cf), (m, mf), ln + 1)) (hf : F9 (z_u I2 11 2 1) I3) (ht : CX I3 b n (rdN b n 1 999 (-1) (.inr q)).2) : ClP (z_u I3 pl 1 (rdN b n 1 999 (-1) (.inr q)).1) R G b n pl (bdT b n 2 (P, y, (c, cf), (m, mf), ln) p) := by
  obtain ⟨a, b1, c0, c1, c2, c3, d, f, g1, g2⟩ := hw
  have e0 : ∀ p k, p ≠ 9 → p ≠ 11 → I3 p k = I2 p k := fun p k h1 h2 => (hf p k h1).trans (z_u_p _ _ _ _ h2)
  show ClP _ R G b n pl (bdS (nmQ b n 1 999 (bk b n p)) _)
  rw [← eq]
  cases hN : nmQ b n 1 999 q with
  | inl e =>
    rw [rdN_l hN] at ht ⊢
    exact CX.put (b := b) (t := .inl e) ht (by omega)
  | inr z =>
    have zo := (nmq_ok (v := z.1) (p := z.2) hq hN).1
    rw [rdN_m hN hq (by omega)] at ht ⊢
    refine ⟨CX.put (t := .inr (bk b n z.2)) ht (by omega), a, b1, (z_u_k _ _ _ (by decide)).trans ((e0 _ _ (by omega) (by omega)).trans c0), (z_u_same _ _ _ _).trans (congrArg nI (if_neg (by show ¬ z.1 = 0; omega)).symm), (z_u_k _ _ _ (by decide)).trans ((e0 _ _ (by omega) (by omega)).trans c2), (z_u_k _ _ _ (by decide)).trans ((e0 _ _ (by omega) (by omega)).trans c3), fun i hi => ?_, fun i hi => ?_, (z_u_p _ _ _ _ (by omega)).trans ((hf _ _ (by omega)).trans ((z_u_k _ _ _ (by decide)).trans g1)), (z_u_p _ _ _ _ (by omega)).trans ((hf _ _ (by omega)).trans ((z_u_same _ _ _ _).trans (bI_v1 (show 0 < z.1 by omega)).symm))⟩
    · obtain ⟨x1, x2, x3⟩ := d i hi
      exact ⟨(z_u_p _ _ _ _ (by omega)).trans ((e0 _ _ (by omega) (by omega)).trans x1), (z_u_p _ _ _ _ (by omega)).trans ((e0 _ _ (by omega) (by omega)).trans x2), (z_u_p _ _ _ _ (by omega)).trans ((e0 _ _ (by omega) (by omega)).trans x3)⟩
    · obtain ⟨x1, x2, x3, x4⟩ := f i hi
      exact ⟨(z_u_p _ _ _ _ (by omega)).trans ((e0 _ _ (by omega) (by omega)).trans x1), (z_u_p _ _ _ _ (by omega)).trans ((e0 _ _ (by omega) (by omega)).trans x2), (z_u_p _ _ _ _ (by omega)).trans ((e0 _ _ (by omega) (by omega)).trans x3), (z_u_p _ _ _ _ (by omega)).trans ((e0 _ _ (by omega) (by omega)).trans x4)⟩
theorem fin_3 {I2 I3 : Nat → Nat → Int32} {R : Nat → Nat → Option Nat} {G : zG} {b : Nat → Nat} {n pl P y c m ln q p : Nat} {cf mf : Nat → Nat × Nat × Nat} (hq : q ≤ n) (eq : q = bk b n p) (hw : TwC I2 R G pl (P, y, (c, cf), (m, mf), ln + 1)) (hf : F9 I2 I3) (hP : P ≤ 10) (ht : CX I3 b n (rdN b n 0 999 (-1) (rdN b n 0 (P - 1) (-1) (rdN b n 1 99 (-1) (.inr q)).2).2).2) : ClP (z_u (z_u (z_u (z_u I3 (pl + 1) c (rdN b n 1 99 (-1) (.inr q)).1) (pl + 2) c (rdN b n 0 (P - 1) (-1) (rdN b n 1 99 (-1) (.inr q)).2).1) (pl + 3) c (rdN b n 0 999 (-1) (rdN b n 0 (P - 1) (-1) (rdN b n 1 99 (-1) (.inr q)).2).2).1) pl 2 (nI (c + 1))) R G b n pl (bdT b n 3 (P, y, (c, cf), (m, mf), ln) p) := by
  have hpl := hw.2.1
  have hw3 : TwC I3 R G pl (P, y, (c, cf), (m, mf), ln + 1) := hw.keep fun p k h => hf p k (by omega)
  obtain ⟨a, b1, c0, c1, c2, c3, d, f, g1, g2⟩ := hw3
  have cp : ∀ {v1 v2 v3 v4 : Int32} {t : Sum Nat Nat}, CX I3 b n t → CX (z_u (z_u (z_u (z_u I3 (pl + 1) c v1) (pl + 2) c v2) (pl + 3) c v3) pl 2 v4) b n t := fun h => (((h.put (by omega)).put (by omega)).put (by omega)).put (by omega)
  show ClP _ R G b n pl (bdS (nmQ b n 1 99 (bk b n p)) _)
  rw [← eq]
  cases h1 : nmQ b n 1 99 q with
  | inl e =>
    rw [rdN_l h1] at ht ⊢
    exact cp ht
  | inr z1 =>
    have o1 := nmq_ok (v := z1.1) (p := z1.2) hq h1
    have q1 : bk b n z1.2 ≤ n := (bk_le o1.2.2.1).2
    rw [rdN_m h1 hq (by omega)] at ht ⊢
    show ClP _ R G b n pl (bdS (nmQ b n 0 (P - 1) (bk b n z1.2)) _)
    cases h2 : nmQ b n 0 (P - 1) (bk b n z1.2) with
    | inl e =>
      simp only [rdN_l h2] at ht ⊢
      exact cp ht
    | inr z2 =>
      have o2 := nmq_ok (v := z2.1) (p := z2.2) q1 h2
      have q2 : bk b n z2.2 ≤ n := (bk_le o2.2.2.1).2
      simp only [rdN_m h2 q1 (show P - 1 < 100000 by omega)] at ht ⊢
      show ClP _ R G b n pl (bdS (nmQ b n 0 999 (bk b n z2.2)) _)
      cases h3 : nmQ b n 0 999 (bk b n z2.2) with
      | inl e =>
        simp only [rdN_l h3] at ht ⊢
        exact cp ht
      | inr z3 =>
        simp only [rdN_m h3 q2 (show 999 < 100000 by omega)] at ht ⊢
        refine ⟨cp ht, a, b1, ?_, ?_, z_u_same _ _ _ _, ?_, fun i hi => ?_, fun i hi => ?_, ?_, ?_⟩
        · rw [z_u_k _ _ _ (by decide), z_u_p _ _ _ _ (by omega), z_u_p _ _ _ _ (by omega), z_u_p _ _ _ _ (by omega)]; exact c0
        · rw [z_u_k _ _ _ (by decide), z_u_p _ _ _ _ (by omega), z_u_p _ _ _ _ (by omega), z_u_p _ _ _ _ (by omega)]; exact c1
        · rw [z_u_k _ _ _ (by decide), z_u_p _ _ _ _ (by omega), z_u_p _ _ _ _ (by omega), z_u_p _ _ _ _ (by omega)]; exact c3
        · have hi : i < c + 1 := hi
          show _ = nI (upF cf c (z1.1, z2.1, z3.1) i).1 ∧ _ = nI (upF cf c (z1.1, z2.1, z3.1) i).2.1 ∧ _ = nI (upF cf c (z1.1, z2.1, z3.1) i).2.2
          by_cases e : i = c
          · rw [show upF cf c (z1.1, z2.1, z3.1) i = (z1.1, z2.1, z3.1) from if_pos e, e]
            refine ⟨?_, ?_, ?_⟩
            · rw [z_u_p _ _ _ _ (by omega), z_u_p _ _ _ _ (by omega), z_u_p _ _ _ _ (by omega), z_u_same]
            · rw [z_u_p _ _ _ _ (by omega), z_u_p _ _ _ _ (by omega), z_u_same]
            · rw [z_u_p _ _ _ _ (by omega), z_u_same]
          · obtain ⟨x1, x2, x3⟩ := d i (show i < c by omega)
            rw [show upF cf c (z1.1, z2.1, z3.1) i = cf i from if_neg e]
            refine ⟨?_, ?_, ?_⟩
            · rw [z_u_p _ _ _ _ (by omega), z_u_p _ _ _ _ (by omega), z_u_p _ _ _ _ (by omega), z_u_k _ _ _ e]; exact x1
            · rw [z_u_p _ _ _ _ (by omega), z_u_p _ _ _ _ (by omega), z_u_k _ _ _ e, z_u_p _ _ _ _ (by omega)]; exact x2
            · rw [z_u_p _ _ _ _ (by omega), z_u_k _ _ _ e, z_u_p _ _ _ _ (by omega), z_u_p _ _ _ _ (by omega)]; exact x3
        · obtain ⟨x1, x2, x3, x4⟩ := f i hi
          have g : ∀ q k, pl + 4 ≤ q → z_u (z_u (z_u (z_u I3 (pl + 1) c (nI z1.1)) (pl + 2) c (nI z2.1)) (pl + 3) c (nI z3.1)) pl 2 (nI (c + 1)) q k = I3 q k := fun q k h => by rw [z_u_p _ _ _ _ (by omega), z_u_p _ _ _ _ (by omega), z_u_p _ _ _ _ (by omega), z_u_p _ _ _ _ (by omega)]
          exact ⟨(g _ _ (by omega)).trans x1, (g _ _ (by omega)).trans x2, (g _ _ (by omega)).trans x3, (g _ _ (by omega)).trans x4⟩
        · rw [z_u_p _ _ _ _ (by omega), z_u_p _ _ _ _ (by omega), z_u_p _ _ _ _ (by omega), z_u_p _ _ _ _ (by omega)]; exact g1
        · rw [z_u_p _ _ _ _ (by omega), z_u_p _ _ _ _ (by omega), z_u_p _ _ _ _ (by omega), z_u_p _ _ _ _ (by omega)]; exact g2
theorem fin_4 {I2 I3 : Nat → Nat → Int32} {R : Nat → Nat → Option Nat} {G : zG} {b : Nat → Nat} {n pl P y c m ln q p : Nat} {cf mf : Nat → Nat × Nat × Nat} (hq : q ≤ n) (eq : q = bk b n p) (hw : TwC I2 R G pl (P, y, (c, cf), (m, mf), ln + 1)) (hf : F9 I2 I3) {I4 : Nat → Nat → Int32} (hP : P ≤ 10) (ht : CX I3 b n (rdN b n 0 (P - 1) (rdN b n 0 (P - 1) (-1) (rdN b n 0 1999 (-1) (.inr q)).2).1 (rdN b n 0 (P - 1) (-1) (rdN b n 0 1999 (-1) (.inr q)).2).2).2) (k1 : ∀ i, i < m + 1 → I4 (pl + 4) i = (if i = m then (rdN b n 0 1999 (-1) (.inr q)).1 else nI (mf i).1)) (k2 : ∀ k, k < m + 1 → I4 (pl + 7) k = nI (ordK (fun j => if j = m then (rdN b n 0 1999 (-1) (.inr q)).1 else nI (mf j).1) (m + 1) k)) (k3 : I4 pl 3 = nI (m + 1)) (k4 : I4 (pl + 5) m = (rdN b n 0 (P - 1) (-1) (rdN b n 0 1999 (-1) (.inr q)).2).1) (k5 : I4 (pl + 6) m = (rdN b n 0 (P - 1) (rdN b n 0 (P - 1) (-1) (rdN b n 0 1999 (-1) (.inr q)).2).1 (rdN b n 0 (P - 1) (-1) (rdN b n 0 1999 (-1) (.inr q)).2).2).1) (k6 : ∀ p k, ¬ (p = pl ∧ k = 3) → p ≠ pl + 4 → p ≠ pl + 7 → ¬ ((p = pl + 5 ∨ p = pl + 6) ∧ k = m) → I4 p k = I3 p k) : ClP I4 R G b n pl (bdT b n 4 (P, y, (c, cf), (m, mf), ln) p) := by
  have hpl := hw.2.1
  have hw3 : TwC I3 R G pl (P, y, (c, cf), (m, mf), ln + 1) := hw.keep fun p k h => hf p k (by omega)
  obtain ⟨a, b1, c0, c1, c2, c3, d, f, g1, g2⟩ := hw3
  have cp : ∀ {t : Sum Nat Nat}, CX I3 b n t → CX I4 b n t := fun h => h.keep fun k => k6 _ _ (by omega) (by omega) (by omega) (by omega)
  show ClP _ R G b n pl (bdS (nmQ b n 0 1999 (bk b n p)) _)
  rw [← eq]
  cases h1 : nmQ b n 0 1999 q with
  | inl e =>
    rw [rdN_l h1] at ht
    exact cp ht
  | inr z1 =>
    have o1 := nmq_ok (v := z1.1) (p := z1.2) hq h1
    have q1 : bk b n z1.2 ≤ n := (bk_le o1.2.2.1).2
    simp only [rdN_m h1 hq (show 1999 < 100000 by omega)] at ht k1 k2 k4 k5
    show ClP _ R G b n pl (bdS (nmQ b n 0 (P - 1) (bk b n z1.2)) _)
    cases h2 : nmQ b n 0 (P - 1) (bk b n z1.2) with
    | inl e =>
      simp only [rdN_l h2] at ht
      exact cp ht
    | inr z2 =>
      have o2 := nmq_ok (v := z2.1) (p := z2.2) q1 h2
      have q2 : bk b n z2.2 ≤ n := (bk_le o2.2.2.1).2
      simp only [rdN_m h2 q1 (show P - 1 < 100000 by omega)] at ht k4 k5
      show ClP _ R G b n pl (bdS (nmQ b n 0 (P - 1) (bk b n z2.2)) _)
      cases h3 : nmQ b n 0 (P - 1) (bk b n z2.2) with
      | inl e =>
        simp only [rdN_l h3] at ht
        exact cp ht
      | inr z3 =>
        have o3 := nmq_ok (v := z3.1) (p := z3.2) q2 h3
        show ClP _ R G b n pl (if z3.1 = z2.1 then _ else _)
        by_cases e : z3.1 = z2.1
        · rw [if_pos e]
          simp only [rdN_r h3, if_pos (congrArg nI e)] at ht
          exact cp ht
        · rw [if_neg e]
          have e2 : ¬ nI z3.1 = nI z2.1 := fun z => e ((nI_eq (by omega) (by omega)).mp z)
          simp only [rdN_r h3, if_neg e2] at ht k5
          refine ⟨cp ht, a, b1, (k6 _ _ (by omega) (by omega) (by omega) (by omega)).trans c0, (k6 _ _ (by omega) (by omega) (by omega) (by omega)).trans c1, (k6 _ _ (by omega) (by omega) (by omega) (by omega)).trans c2, k3, fun i hi => ?_, fun i hi => ?_, (k6 _ _ (by omega) (by omega) (by omega) (by omega)).trans g1, (k6 _ _ (by omega) (by omega) (by omega) (by omega)).trans g2⟩
          · obtain ⟨x1, x2, x3⟩ := d i hi
            exact ⟨(k6 _ _ (by omega) (by omega) (by omega) (by omega)).trans x1, (k6 _ _ (by omega) (by omega) (by omega) (by omega)).trans x2, (k6 _ _ (by omega) (by omega) (by omega) (by omega)).trans x3⟩
          · have hi : i < m + 1 := hi
            have ed : (fun j => nI (upF mf m (z1.1, z2.1, z3.1) j).1) = (fun j => if j = m then nI z1.1 else nI (mf j).1) := funext fun j => by
              unfold upF
              by_cases g : j = m
              · rw [if_pos g, if_pos g]
              · rw [if_neg g, if_neg g]
            show _ = nI (upF mf m (z1.1, z2.1, z3.1) i).1 ∧ _ = nI (upF mf m (z1.1, z2.1, z3.1) i).2.1 ∧ _ = nI (upF mf m (z1.1, z2.1, z3.1) i).2.2 ∧ _ = nI (ordK (fun j => nI (upF mf m (z1.1, z2.1, z3.1) j).1) (m + 1) i)
            rw [ed]
            refine ⟨(k1 i hi).trans (congrFun ed i).symm, ?_, ?_, k2 i hi⟩
            · by_cases g : i = m
              · rw [show upF mf m (z1.1, z2.1, z3.1) i = (z1.1, z2.1, z3.1) from if_pos g, g]; exact k4
              · rw [show upF mf m (z1.1, z2.1, z3.1) i = mf i from if_neg g, k6 _ _ (by omega) (by omega) (by omega) (by omega)]; exact (f i (show i < m by omega)).2.1
            · by_cases g : i = m
              · rw [show upF mf m (z1.1, z2.1, z3.1) i = (z1.1, z2.1, z3.1) from if_pos g, g]; exact k5
              · rw [show upF mf m (z1.1, z2.1, z3.1) i = mf i from if_neg g, k6 _ _ (by omega) (by omega) (by omega) (by omega)]; exact (f i (show i < m by omega)).2.2.1
