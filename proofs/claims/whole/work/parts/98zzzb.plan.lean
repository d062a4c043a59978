/-! A PLAN: a coin more, a meeting more. -/
def PlX (R : Nat → Nat → Option Nat) (G : zG) (pl : Nat) : Prop := zo G pl 3 ∧ (∀ i, i < 7 → R pl (4 + i) = some (pl + 1 + i)) ∧ (∀ i, i < 3 → za G (pl + 1 + i) 14 8) ∧ (∀ i, i < 4 → za G (pl + 4 + i) 14 24)
theorem s_addCoin {x : Nat × (Nat → Int32)} {d : Nat} {I : Nat → Nat → Int32} {J : Nat → Nat → Int64} {R : Nat → Nat → Option Nat} {G : zG} {pl c : Nat} {v h s : Int32} (hP : PlX R G pl) (h2 : I pl 2 = nI c) (hc : c < 8) : zRn x d 19 [.ref pl, .int (v), .int (h), .int (s)] (I, J, R, G) (none) (z_u (z_u (z_u (z_u I (pl + 1) c v) (pl + 2) c h) (pl + 3) c s) pl 2 (nI (c + 1)), J, R, G) := by
  show zOk x d 19 0 [.ref pl, .int (v), .int (h), .int (s)] [] _ _
  refine k_aload f19_0 rfl ?_
  refine k_gI (w := nI c) f19_1 hP.1 rfl h2 ?_
  refine k_iconst (v := 8) f19_4 rfl ?_
  refine k_ic_ge f19_6 (fun h_ => absurd h_ (nI_ge (b := 8) hc (by omega))) (fun _ => ?_)
  refine k_aload f19_9 rfl ?_
  refine k_getr (q := pl + 1) f19_10 hP.1 rfl (hP.2.1 0 (by omega)) ?_
  refine k_aload f19_13 rfl ?_
  refine k_gI (w := nI c) f19_14 hP.1 rfl h2 ?_
  refine k_iload f19_17 rfl ?_
  refine k_is (k := c) f19_18 (hP.2.2.1 0 (by omega)) rfl (by omega) (by decide) ?_
  refine k_aload f19_19 rfl ?_
  refine k_getr (q := pl + 2) f19_20 hP.1 rfl (hP.2.1 1 (by omega)) ?_
  refine k_aload f19_23 rfl ?_
  refine k_gI (w := nI c) f19_24 hP.1 rfl (Eq.trans (z_u_p _ _ _ _ (by omega)) h2) ?_
  refine k_iload f19_27 rfl ?_
  refine k_is (k := c) f19_28 (hP.2.2.1 1 (by omega)) rfl (by omega) (by decide) ?_
  refine k_aload f19_29 rfl ?_
  refine k_getr (q := pl + 3) f19_30 hP.1 rfl (hP.2.1 2 (by omega)) ?_
  refine k_aload f19_33 rfl ?_
  refine k_gI (w := nI c) f19_34 hP.1 rfl (Eq.trans (z_u_p _ _ _ _ (by omega)) (Eq.trans (z_u_p _ _ _ _ (by omega)) h2)) ?_
  refine k_iload f19_37 rfl ?_
  refine k_is (k := c) f19_38 (hP.2.2.1 2 (by omega)) rfl (by omega) (by decide) ?_
  refine k_aload f19_39 rfl ?_
  refine k_dup f19_40 ?_
  refine k_gI (w := nI c) f19_41 hP.1 rfl (Eq.trans (z_u_p _ _ _ _ (by omega)) (Eq.trans (z_u_p _ _ _ _ (by omega)) (Eq.trans (z_u_p _ _ _ _ (by omega)) h2))) ?_
  refine k_iconst (v := 1) f19_44 rfl ?_
  refine k_iadd f19_45 ?_
  rw [nI_1 c]
  refine k_putI f19_46 hP.1 rfl ?_
  exact k_vret f19_49 ⟨rfl, rfl⟩
theorem insL_split {dy : Nat → Int32} {m : Nat} : ∀ (l1 l2 : List Nat), (∀ a ∈ l1, dy m < dy a) → (∀ a l, l2 = a :: l → ¬ dy m < dy a) → insL dy m (l1 ++ l2) = l1 ++ m :: l2 := by
  intro l1
  induction l1 with
  | nil =>
    intro l2 _ h
    cases l2 with
    | nil => rfl
    | cons a l => exact if_neg (h a l rfl)
  | cons c l1 ih =>
    intro l2 h1 h2
    show (if dy m < dy c then c :: insL dy m (l1 ++ l2) else _) = _
    rw [if_pos (h1 c (List.mem_cons_self ..)), ih l2 (fun a ha => h1 a (List.mem_cons_of_mem _ ha)) h2]
    rfl
theorem ord_ins {dy : Nat → Int32} {m i k : Nat} (hi : i ≤ m) (hk : k ≤ m) (h1 : ∀ k, i ≤ k → k < m → dy m < dy (ordK dy m k)) (h2 : 0 < i → ¬ dy m < dy (ordK dy m (i - 1))) : ordK dy (m + 1) k = if k < i then ordK dy m k else if k = i then m else ordK dy m (k - 1) := by
  have hl : (ordL dy m).length = m := ordL_len m
  have e : ordL dy (m + 1) = (ordL dy m).take (m - i) ++ m :: (ordL dy m).drop (m - i) := by
    show insL dy m (ordL dy m) = _
    have := insL_split (dy := dy) (m := m) ((ordL dy m).take (m - i)) ((ordL dy m).drop (m - i)) (fun a ha => ?_) (fun a l hal => ?_)
    · rw [List.take_append_drop] at this
      exact this
    · obtain ⟨j, hj, rfl⟩ := List.mem_iff_getElem.mp ha
      rw [List.length_take, hl] at hj
      have := h1 (m - 1 - j) (by omega) (by omega)
      unfold ordK at this
      rw [show m - 1 - (m - 1 - j) = j by omega] at this
      rw [List.getElem_take]
      simpa [List.getD, show j < (ordL dy m).length by omega] using this
    · have hi0 : 0 < i := by
        rcases Nat.eq_zero_or_pos i with z | z
        · rw [z, Nat.sub_zero, List.drop_eq_nil_of_le (by omega)] at hal
          cases hal
        · exact z
      have := h2 hi0
      unfold ordK at this
      rw [show m - 1 - (i - 1) = m - i by omega] at this
      have g : (ordL dy m).getD (m - i) 0 = a := by
        have q : ((ordL dy m).drop (m - i)).getD 0 0 = a := by rw [hal]; rfl
        simpa [List.getD] using q
      rw [g] at this
      exact this
  unfold ordK
  rw [e, show m + 1 - 1 - k = m - k by omega]
  have lt : ((ordL dy m).take (m - i)).length = m - i := by rw [List.length_take, hl]; omega
  by_cases c1 : k < i
  · rw [if_pos c1]
    simp only [List.getD]
    rw [List.getElem?_append_right (by omega), lt, show m - k - (m - i) = (i - k - 1) + 1 by omega, List.getElem?_cons_succ, List.getElem?_drop, show m - i + (i - k - 1) = m - 1 - k by omega]
  · rw [if_neg c1]
    by_cases c2 : k = i
    · rw [if_pos c2, c2]
      simp only [List.getD]
      rw [List.getElem?_append_right (by omega), lt, Nat.sub_self]
      rfl
    · rw [if_neg c2]
      simp only [List.getD]
      rw [List.getElem?_append_left (by omega), List.getElem?_take_of_lt (by omega), show m - 1 - (k - 1) = m - k by omega]
theorem lp_addM {x : Nat × (Nat → Int32)} {d : Nat} {J : Nat → Nat → Int64} {R : Nat → Nat → Option Nat} {G : zG} {I0 : Nat → Nat → Int32} {pl m : Nat} {D a c : Int32} {dy : Nat → Int32} {Q : Option Value → zM → Prop} (hP : PlX R G pl) (hm : m < 24) (h4 : ∀ i, i < m → I0 (pl + 4) i = dy i) : (∀ i I', i ≤ m → (∀ k, k < i → I' (pl + 7) k = nI (ordK dy m k)) ∧ (∀ k, i < k → k ≤ m → I' (pl + 7) k = nI (ordK dy m (k - 1))) ∧ (∀ k, i ≤ k → k < m → D < dy (ordK dy m k)) ∧ (∀ p k, p ≠ pl + 7 → I' p k = I0 p k) → (0 < i → ¬ D < dy (ordK dy m (i - 1))) → zOk x d 20 90 [.ref pl, .int (D), .int (a), .int (c), .int (nI i)] [] (I', J, R, G) Q) → ∀ (i : Nat) (I : Nat → Nat → Int32), i ≤ m → (∀ k, k < i → I (pl + 7) k = nI (ordK dy m k)) ∧ (∀ k, i < k → k ≤ m → I (pl + 7) k = nI (ordK dy m (k - 1))) ∧ (∀ k, i ≤ k → k < m → D < dy (ordK dy m k)) ∧ (∀ p k, p ≠ pl + 7 → I p k = I0 p k) → zOk x d 20 45 [.ref pl, .int (D), .int (a), .int (c), .int (nI i)] [] (I, J, R, G) Q := by
  intro hk i
  induction i with
  | zero =>
    intro I hi hv
    refine k_iload f20_45 rfl ?_
    refine k_if_le f20_47 (fun _ => ?_) (fun h_ => absurd (by decide) h_)
    exact hk 0 I hi hv (fun h => absurd h (Nat.lt_irrefl _))
  | succ i ih =>
    intro I hi hv
    obtain ⟨v1, v2, v3, v4⟩ := hv
    have ol := ordK_lt (dy := dy) (show i < m by omega)
    have e7 := v1 i (by omega)
    have e4 : I (pl + 4) (ordK dy m i) = dy (ordK dy m i) := (v4 _ _ (by omega)).trans (h4 _ ol)
    by_cases h : D < dy (ordK dy m i)
    · refine k_iload f20_45 rfl ?_
      refine k_if_le f20_47 (fun h_ => absurd h_ (nI_ge (a := 0) (b := i + 1) (by omega) (by omega))) (fun _ => ?_)
      refine k_aload f20_50 rfl ?_
      refine k_getr (q := pl + 4) f20_51 hP.1 rfl (hP.2.1 3 (by omega)) ?_
      refine k_aload f20_54 rfl ?_
      refine k_getr (q := pl + 7) f20_55 hP.1 rfl (hP.2.1 6 (by omega)) ?_
      refine k_iload f20_58 rfl ?_
      refine k_iconst (v := 1) f20_60 rfl ?_
      refine k_isub f20_61 ?_
      rw [nI_pred i]
      refine k_ia (k := i) (w := nI (ordK dy m i)) f20_62 (hP.2.2.2 3 (by omega)) rfl (by omega) (by decide) e7 ?_
      refine k_ia (k := (ordK dy m i)) (w := dy (ordK dy m i)) f20_63 (hP.2.2.2 0 (by omega)) rfl (by omega) (by decide) e4 ?_
      refine k_iload f20_64 rfl ?_
      refine k_ic_le f20_65 (fun h_ => absurd h_ (Int32.not_le.mpr h)) (fun _ => ?_)
      refine k_aload f20_68 rfl ?_
      refine k_getr (q := pl + 7) f20_69 hP.1 rfl (hP.2.1 6 (by omega)) ?_
      refine k_iload f20_72 rfl ?_
      refine k_aload f20_74 rfl ?_
      refine k_getr (q := pl + 7) f20_75 hP.1 rfl (hP.2.1 6 (by omega)) ?_
      refine k_iload f20_78 rfl ?_
      refine k_iconst (v := 1) f20_80 rfl ?_
      refine k_isub f20_81 ?_
      rw [nI_pred i]
      refine k_ia (k := i) (w := nI (ordK dy m i)) f20_82 (hP.2.2.2 3 (by omega)) rfl (by omega) (by decide) e7 ?_
      refine k_is (k := (i + 1)) f20_83 (hP.2.2.2 3 (by omega)) rfl (by omega) (by decide) ?_
      refine k_iinc (w := (nI (i + 1)) + (-1)) (L' := [.ref pl, .int (D), .int (a), .int (c), .int ((nI (i + 1)) + (-1))]) f20_84 rfl rfl rfl rfl ?_
      refine k_goto f20_87 ?_
      rw [nI_pm i]
      refine ih _ (by omega) ⟨fun k hk => ?_, fun k h1 h2 => ?_, fun k h1 h2 => ?_, fun p k hp => ?_⟩
      · rw [z_u_k _ _ _ (by omega)]
        exact v1 k (by omega)
      · by_cases e : k = i + 1
        · rw [e, z_u_same, Nat.add_sub_cancel]
        · rw [z_u_k _ _ _ (by omega)]
          exact v2 k (by omega) h2
      · by_cases e : k = i
        · rw [e]; exact h
        · exact v3 k (by omega) h2
      · rw [z_u_p _ _ _ _ hp]
        exact v4 p k hp
    · refine k_iload f20_45 rfl ?_
      refine k_if_le f20_47 (fun h_ => absurd h_ (nI_ge (a := 0) (b := i + 1) (by omega) (by omega))) (fun _ => ?_)
      refine k_aload f20_50 rfl ?_
      refine k_getr (q := pl + 4) f20_51 hP.1 rfl (hP.2.1 3 (by omega)) ?_
      refine k_aload f20_54 rfl ?_
      refine k_getr (q := pl + 7) f20_55 hP.1 rfl (hP.2.1 6 (by omega)) ?_
      refine k_iload f20_58 rfl ?_
      refine k_iconst (v := 1) f20_60 rfl ?_
      refine k_isub f20_61 ?_
      rw [nI_pred i]
      refine k_ia (k := i) (w := nI (ordK dy m i)) f20_62 (hP.2.2.2 3 (by omega)) rfl (by omega) (by decide) e7 ?_
      refine k_ia (k := (ordK dy m i)) (w := dy (ordK dy m i)) f20_63 (hP.2.2.2 0 (by omega)) rfl (by omega) (by decide) e4 ?_
      refine k_iload f20_64 rfl ?_
      refine k_ic_le f20_65 (fun _ => ?_) (fun h_ => absurd (Int32.not_lt.mp h) h_)
      exact hk (i + 1) I hi ⟨v1, v2, v3, v4⟩ (fun _ => h)
theorem q_addM {x : Nat × (Nat → Int32)} {d : Nat} {I : Nat → Nat → Int32} {J : Nat → Nat → Int64} {R : Nat → Nat → Option Nat} {G : zG} {pl m : Nat} {D a c : Int32} {dy : Nat → Int32} (hP : PlX R G pl) (h3 : I pl 3 = nI m) (hm : m < 24) (h4 : ∀ i, i < m → I (pl + 4) i = dy i) (h7 : ∀ k, k < m → I (pl + 7) k = nI (ordK dy m k)) : zOk x d 20 0 [.ref pl, .int D, .int a, .int c, zU] [] (I, J, R, G) (fun v mm => v = none ∧ ∃ I', mm = (I', J, R, G) ∧ (∀ i, i < m + 1 → I' (pl + 4) i = (fun j => if j = m then D else dy j) i) ∧ (∀ k, k < m + 1 → I' (pl + 7) k = nI (ordK (fun j => if j = m then D else dy j) (m + 1) k)) ∧ I' pl 3 = nI (m + 1) ∧ I' (pl + 5) m = a ∧ I' (pl + 6) m = c ∧ (∀ p k, ¬ (p = pl ∧ k = 3) → p ≠ pl + 4 → p ≠ pl + 7 → ¬ ((p = pl + 5 ∨ p = pl + 6) ∧ k = m) → I' p k = I p k)) := by
  refine k_aload f20_0 rfl ?_
  refine k_gI (w := nI m) f20_1 hP.1 rfl h3 ?_
  refine k_iconst (v := 24) f20_4 rfl ?_
  refine k_ic_ge f20_6 (fun h_ => absurd h_ (nI_ge (b := 24) hm (by omega))) (fun _ => ?_)
  refine k_aload f20_9 rfl ?_
  refine k_getr (q := pl + 4) f20_10 hP.1 rfl (hP.2.1 3 (by omega)) ?_
  refine k_aload f20_13 rfl ?_
  refine k_gI (w := nI m) f20_14 hP.1 rfl h3 ?_
  refine k_iload f20_17 rfl ?_
  refine k_is (k := m) f20_18 (hP.2.2.2 0 (by omega)) rfl (by omega) (by decide) ?_
  refine k_aload f20_19 rfl ?_
  refine k_getr (q := pl + 5) f20_20 hP.1 rfl (hP.2.1 4 (by omega)) ?_
  refine k_aload f20_23 rfl ?_
  refine k_gI (w := nI m) f20_24 hP.1 rfl (Eq.trans (z_u_p _ _ _ _ (by omega)) h3) ?_
  refine k_iload f20_27 rfl ?_
  refine k_is (k := m) f20_28 (hP.2.2.2 1 (by omega)) rfl (by omega) (by decide) ?_
  refine k_aload f20_29 rfl ?_
  refine k_getr (q := pl + 6) f20_30 hP.1 rfl (hP.2.1 5 (by omega)) ?_
  refine k_aload f20_33 rfl ?_
  refine k_gI (w := nI m) f20_34 hP.1 rfl (Eq.trans (z_u_p _ _ _ _ (by omega)) (Eq.trans (z_u_p _ _ _ _ (by omega)) h3)) ?_
  refine k_iload f20_37 rfl ?_
  refine k_is (k := m) f20_38 (hP.2.2.2 2 (by omega)) rfl (by omega) (by decide) ?_
  refine k_aload f20_39 rfl ?_
  refine k_gI (w := nI m) f20_40 hP.1 rfl (Eq.trans (z_u_p _ _ _ _ (by omega)) (Eq.trans (z_u_p _ _ _ _ (by omega)) (Eq.trans (z_u_p _ _ _ _ (by omega)) h3))) ?_
  refine k_istore (L' := [.ref pl, .int (D), .int (a), .int (c), .int (nI m)]) f20_43 rfl rfl ?_
  obtain ⟨I1, eI1⟩ : ∃ I1, I1 = z_u (z_u (z_u I (pl + 4) m D) (pl + 5) m a) (pl + 6) m c := ⟨_, rfl⟩
  rw [← eI1]
  have f1 : ∀ p k, ¬ ((p = pl + 4 ∨ p = pl + 5 ∨ p = pl + 6) ∧ k = m) → I1 p k = I p k := fun p k h => by rw [eI1, z_u_no _ _ (by omega), z_u_no _ _ (by omega), z_u_no _ _ (by omega)]
  have g4 : ∀ i, i < m → I1 (pl + 4) i = (fun j => if j = m then D else dy j) i := fun i hi => by rw [f1 _ _ (by omega)]; show _ = if i = m then D else dy i; rw [if_neg (by omega)]; exact h4 i hi
  have g4m : I1 (pl + 4) m = D := by rw [eI1, z_u_p _ _ _ _ (by omega), z_u_p _ _ _ _ (by omega), z_u_same]
  have g5m : I1 (pl + 5) m = a := by rw [eI1, z_u_p _ _ _ _ (by omega), z_u_same]
  have g6m : I1 (pl + 6) m = c := by rw [eI1, z_u_same]
  have ok : ∀ k, ordK dy m k = ordK (fun j => if j = m then D else dy j) m k := fun k => ordK_congr fun j hj => by show dy j = if j = m then D else dy j; rw [if_neg (by omega)]
  refine lp_addM (I0 := I1) (dy := (fun j => if j = m then D else dy j)) hP hm g4 (fun i I2 hi hv hz => ?_) m I1 (Nat.le_refl _) ⟨fun k hk => by rw [f1 _ _ (by omega), ← ok]; exact h7 k hk, fun k h1 h2 => absurd h1 (by omega), fun k h1 h2 => absurd h2 (by omega), fun _ _ _ => rfl⟩
  obtain ⟨v1, v2, v3, v4⟩ := hv
  refine k_aload f20_90 rfl ?_
  refine k_getr (q := pl + 7) f20_91 hP.1 rfl (hP.2.1 6 (by omega)) ?_
  refine k_iload f20_94 rfl ?_
  refine k_aload f20_96 rfl ?_
  refine k_gI (w := nI m) f20_97 hP.1 rfl ((v4 _ _ (by omega)).trans ((f1 _ _ (by omega)).trans h3)) ?_
  refine k_is (k := i) f20_100 (hP.2.2.2 3 (by omega)) rfl (by omega) (by decide) ?_
  refine k_aload f20_101 rfl ?_
  refine k_dup f20_102 ?_
  refine k_gI (w := nI m) f20_103 hP.1 rfl (Eq.trans (z_u_p _ _ _ _ (by omega)) ((v4 _ _ (by omega)).trans ((f1 _ _ (by omega)).trans h3))) ?_
  refine k_iconst (v := 1) f20_106 rfl ?_
  refine k_iadd f20_107 ?_
  rw [nI_1 m]
  refine k_putI f20_108 hP.1 rfl ?_
  refine k_vret f20_111 ⟨rfl, _, rfl, fun j hj => ?_, fun k hk => ?_, z_u_same _ _ _ _, ?_, ?_, fun p k h1 h2 h3 h4 => ?_⟩
  · rw [z_u_p _ _ _ _ (by omega), z_u_p _ _ _ _ (by omega), v4 _ _ (by omega)]
    by_cases e : j = m
    · rw [e, g4m]; show D = if m = m then D else dy m; rw [if_pos rfl]
    · exact g4 j (by omega)
  · rw [z_u_p _ _ _ _ (by omega), ord_ins (i := i) hi (by omega) (fun k h1 h2 => by show (if m = m then D else dy m) < _; rw [if_pos rfl]; exact v3 k h1 h2) (fun h => by show ¬ (if m = m then D else dy m) < _; rw [if_pos rfl]; exact hz h)]
    by_cases c1 : k < i
    · rw [if_pos c1, z_u_k _ _ _ (by omega)]; exact v1 k c1
    · rw [if_neg c1]
      by_cases c2 : k = i
      · rw [if_pos c2, c2, z_u_same]
      · rw [if_neg c2, z_u_k _ _ _ c2]; exact v2 k (by omega) (by omega)
  · rw [z_u_p _ _ _ _ (by omega), z_u_p _ _ _ _ (by omega), v4 _ _ (by omega)]; exact g5m
  · rw [z_u_p _ _ _ _ (by omega), z_u_p _ _ _ _ (by omega), v4 _ _ (by omega)]; exact g6m
  · rw [z_u_no _ _ (by omega), z_u_p _ _ _ _ h3, v4 _ _ h3]
    exact f1 _ _ (by omega)
