/-! TEXT: the class goes on to the next piece. -/
theorem nI_sb {i q : Nat} (h : q ≤ i) : nI i - nI q = nI (i - q) := by
  obtain ⟨c, rfl⟩ : ∃ c, i = c + q := ⟨i - q, by omega⟩
  rw [← nI_add, Nat.add_sub_cancel]
  exact Int32.add_sub_cancel _ _
theorem lp_blank {I : Nat → Nat → Int32} {x : Nat × (Nat → Int32)} {d : Nat} {J : Nat → Nat → Int64} {R : Nat → Nat → Option Nat} {G : zG} {b : Nat → Nat} {n : Nat} {Q : Option Value → zM → Prop} (hR : Rs R) (hS : Sh G) (hT : TP I b n) (hn : I 9 1 = nI n) : ∀ (f i : Nat), i + f = n → zOk x d 49 39 [.ref 9, .int (nI (bk b n i))] [] (I, J, R, G) Q → zOk x d 49 14 [.ref 9, .int (nI i)] [] (I, J, R, G) Q := by
  have h400 := hT.1
  intro f
  induction f with
  | zero =>
    intro i hi hk
    have hi : i = n := by omega
    subst hi
    rw [show bk b i i = i from rE_n fun h => absurd (isB_lt h) (Nat.lt_irrefl _)] at hk
    refine k_iload f49_14 rfl ?_
    refine k_aload f49_15 rfl ?_
    refine k_gI (w := nI i) f49_16 hS.o9 rfl hn ?_
    refine k_ic_ge f49_19 (fun _ => ?_) (fun h_ => absurd (Int32.le_refl _) h_)
    exact hk
  | succ f ih =>
    intro i hi hk
    have b8 := (hT.2 i (by omega)).1
    by_cases h : b i = 32
    · rw [show bk b n i = bk b n (i + 1) from rE_y (fun _ => isB_lt) (decide_eq_true ⟨by omega, h⟩)] at hk
      refine k_iload f49_14 rfl ?_
      refine k_aload f49_15 rfl ?_
      refine k_gI (w := nI n) f49_16 hS.o9 rfl hn ?_
      refine k_ic_ge f49_19 (fun h_ => absurd h_ (nI_ge (by omega) (by omega))) (fun _ => ?_)
      refine k_aload f49_22 rfl ?_
      refine k_getr (q := 10) f49_23 hS.o9 rfl hR.r9_0 ?_
      refine k_iload f49_26 rfl ?_
      refine k_ca (k := i) (w := nI (b i)) f49_27 hS.a10 rfl (by omega) (by decide) (hT.2 i (by omega)).2.1 ?_
      refine k_iconst (v := 32) f49_28 rfl ?_
      refine k_ic_ne f49_30 (fun h_ => absurd (congrArg nI h) h_) (fun _ => ?_)
      refine k_iinc (w := nI (i + 1)) (L' := [.ref 9, .int (nI (i + 1))]) f49_33 rfl (nI_1 i) rfl rfl ?_
      refine k_goto f49_36 ?_
      exact ih (i + 1) (by omega) hk
    · rw [show bk b n i = i from rE_n fun q => h (of_decide_eq_true q).2] at hk
      refine k_iload f49_14 rfl ?_
      refine k_aload f49_15 rfl ?_
      refine k_gI (w := nI n) f49_16 hS.o9 rfl hn ?_
      refine k_ic_ge f49_19 (fun h_ => absurd h_ (nI_ge (by omega) (by omega))) (fun _ => ?_)
      refine k_aload f49_22 rfl ?_
      refine k_getr (q := 10) f49_23 hS.o9 rfl hR.r9_0 ?_
      refine k_iload f49_26 rfl ?_
      refine k_ca (k := i) (w := nI (b i)) f49_27 hS.a10 rfl (by omega) (by decide) (hT.2 i (by omega)).2.1 ?_
      refine k_iconst (v := 32) f49_28 rfl ?_
      refine k_ic_ne f49_30 (fun _ => ?_) (fun h_ => absurd ((fun q => h ((nI_eq (b := 32) (by omega) (by omega)).mp q))) h_)
      exact hk
theorem lp_letters {I : Nat → Nat → Int32} {x : Nat × (Nat → Int32)} {d : Nat} {J : Nat → Nat → Int64} {R : Nat → Nat → Option Nat} {G : zG} {b : Nat → Nat} {n : Nat} {Q : Option Value → zM → Prop} (hR : Rs R) (hS : Sh G) (hT : TP I b n) (hn : I 9 1 = nI n) : ∀ (f i : Nat), i + f = n → zOk x d 49 85 [.ref 9, .int (nI (wl b n i))] [] (I, J, R, G) Q → zOk x d 49 49 [.ref 9, .int (nI i)] [] (I, J, R, G) Q := by
  have h400 := hT.1
  intro f
  induction f with
  | zero =>
    intro i hi hk
    have hi : i = n := by omega
    subst hi
    rw [show wl b i i = i from rE_n fun h => absurd (isL_lt h) (Nat.lt_irrefl _)] at hk
    refine k_iload f49_49 rfl ?_
    refine k_aload f49_50 rfl ?_
    refine k_gI (w := nI i) f49_51 hS.o9 rfl hn ?_
    refine k_ic_ge f49_54 (fun _ => ?_) (fun h_ => absurd (Int32.le_refl _) h_)
    exact hk
  | succ f ih =>
    intro i hi hk
    have b8 := (hT.2 i (by omega)).1
    by_cases h : 97 ≤ b i ∧ b i ≤ 122
    · rw [show wl b n i = wl b n (i + 1) from rE_y (fun _ => isL_lt) (decide_eq_true ⟨by omega, h⟩)] at hk
      refine k_iload f49_49 rfl ?_
      refine k_aload f49_50 rfl ?_
      refine k_gI (w := nI n) f49_51 hS.o9 rfl hn ?_
      refine k_ic_ge f49_54 (fun h_ => absurd h_ (nI_ge (by omega) (by omega))) (fun _ => ?_)
      refine k_aload f49_57 rfl ?_
      refine k_getr (q := 10) f49_58 hS.o9 rfl hR.r9_0 ?_
      refine k_iload f49_61 rfl ?_
      refine k_ca (k := i) (w := nI (b i)) f49_62 hS.a10 rfl (by omega) (by decide) (hT.2 i (by omega)).2.1 ?_
      refine k_iconst (v := 97) f49_63 rfl ?_
      refine k_ic_lt f49_65 (fun h_ => absurd h_ ((fun q => absurd ((nI_ltI (b := 97) (by omega) (by omega)).mp q) (by omega)))) (fun _ => ?_)
      refine k_aload f49_68 rfl ?_
      refine k_getr (q := 10) f49_69 hS.o9 rfl hR.r9_0 ?_
      refine k_iload f49_72 rfl ?_
      refine k_ca (k := i) (w := nI (b i)) f49_73 hS.a10 rfl (by omega) (by decide) (hT.2 i (by omega)).2.1 ?_
      refine k_iconst (v := 122) f49_74 rfl ?_
      refine k_ic_gt f49_76 (fun h_ => absurd h_ ((fun q => absurd ((nI_ltI (a := 122) (by omega) (by omega)).mp q) (by omega)))) (fun _ => ?_)
      refine k_iinc (w := nI (i + 1)) (L' := [.ref 9, .int (nI (i + 1))]) f49_79 rfl (nI_1 i) rfl rfl ?_
      refine k_goto f49_82 ?_
      exact ih (i + 1) (by omega) hk
    · rw [show wl b n i = i from rE_n fun q => h (of_decide_eq_true q).2] at hk
      by_cases h2 : b i < 97
      · refine k_iload f49_49 rfl ?_
        refine k_aload f49_50 rfl ?_
        refine k_gI (w := nI n) f49_51 hS.o9 rfl hn ?_
        refine k_ic_ge f49_54 (fun h_ => absurd h_ (nI_ge (by omega) (by omega))) (fun _ => ?_)
        refine k_aload f49_57 rfl ?_
        refine k_getr (q := 10) f49_58 hS.o9 rfl hR.r9_0 ?_
        refine k_iload f49_61 rfl ?_
        refine k_ca (k := i) (w := nI (b i)) f49_62 hS.a10 rfl (by omega) (by decide) (hT.2 i (by omega)).2.1 ?_
        refine k_iconst (v := 97) f49_63 rfl ?_
        refine k_ic_lt f49_65 (fun _ => ?_) (fun h_ => absurd ((nI_ltI (b := 97) (by omega) (by omega)).mpr (h2)) h_)
        exact hk
      · refine k_iload f49_49 rfl ?_
        refine k_aload f49_50 rfl ?_
        refine k_gI (w := nI n) f49_51 hS.o9 rfl hn ?_
        refine k_ic_ge f49_54 (fun h_ => absurd h_ (nI_ge (by omega) (by omega))) (fun _ => ?_)
        refine k_aload f49_57 rfl ?_
        refine k_getr (q := 10) f49_58 hS.o9 rfl hR.r9_0 ?_
        refine k_iload f49_61 rfl ?_
        refine k_ca (k := i) (w := nI (b i)) f49_62 hS.a10 rfl (by omega) (by decide) (hT.2 i (by omega)).2.1 ?_
        refine k_iconst (v := 97) f49_63 rfl ?_
        refine k_ic_lt f49_65 (fun h_ => absurd h_ ((fun q => absurd ((nI_ltI (b := 97) (by omega) (by omega)).mp q) (h2)))) (fun _ => ?_)
        refine k_aload f49_68 rfl ?_
        refine k_getr (q := 10) f49_69 hS.o9 rfl hR.r9_0 ?_
        refine k_iload f49_72 rfl ?_
        refine k_ca (k := i) (w := nI (b i)) f49_73 hS.a10 rfl (by omega) (by decide) (hT.2 i (by omega)).2.1 ?_
        refine k_iconst (v := 122) f49_74 rfl ?_
        refine k_ic_gt f49_76 (fun _ => ?_) (fun h_ => absurd ((nI_ltI (a := 122) (by omega) (by omega)).mpr (by omega)) h_)
        exact hk
theorem lp_digits {I0 : Nat → Nat → Int32} {x : Nat × (Nat → Int32)} {d : Nat} {J : Nat → Nat → Int64} {R : Nat → Nat → Option Nat} {G : zG} {b : Nat → Nat} {n : Nat} {Q : Option Value → zM → Prop} (hR : Rs R) (hS : Sh G) {q : Nat} (hT0 : TP I0 b n) (hn0 : I0 9 1 = nI n) (hq0 : I0 9 2 = nI q) : ∀ (f i : Nat) (I : Nat → Nat → Int32), i + f = n → q ≤ i → (∀ p k, ¬ (p = 9 ∧ k = 6) → I p k = I0 p k) → I 9 6 = nvA b q i → (∀ I', (∀ p k, ¬ (p = 9 ∧ k = 6) → I' p k = I0 p k) → I' 9 6 = nvA b q (dg b n i) → zOk x d 49 174 [.ref 9, .int (nI (dg b n i))] [] (I', J, R, G) Q) → zOk x d 49 103 [.ref 9, .int (nI i)] [] (I, J, R, G) Q := by
  have h400 := hT0.1
  intro f
  induction f with
  | zero =>
    intro i I hi hqi hf h6 hk
    have hi : i = n := by omega
    subst hi
    rw [show dg b i i = i from rE_n fun h => absurd (isD_lt h) (Nat.lt_irrefl _)] at hk
    refine k_iload f49_103 rfl ?_
    refine k_aload f49_104 rfl ?_
    refine k_gI (w := nI i) f49_105 hS.o9 rfl ((hf _ _ (by omega)).trans hn0) ?_
    refine k_ic_ge f49_108 (fun _ => ?_) (fun h_ => absurd (Int32.le_refl _) h_)
    exact hk I hf h6
  | succ f ih =>
    intro i I hi hqi hf h6 hk
    have b8 := (hT0.2 i (by omega)).1
    by_cases h : 48 ≤ b i ∧ b i ≤ 57
    · rw [show dg b n i = dg b n (i + 1) from rE_y (fun _ => isD_lt) (decide_eq_true ⟨by omega, h⟩)] at hk
      by_cases h5 : i - q < 5
      · refine k_iload f49_103 rfl ?_
        refine k_aload f49_104 rfl ?_
        refine k_gI (w := nI n) f49_105 hS.o9 rfl ((hf _ _ (by omega)).trans hn0) ?_
        refine k_ic_ge f49_108 (fun h_ => absurd h_ (nI_ge (by omega) (by omega))) (fun _ => ?_)
        refine k_aload f49_111 rfl ?_
        refine k_getr (q := 10) f49_112 hS.o9 rfl hR.r9_0 ?_
        refine k_iload f49_115 rfl ?_
        refine k_ca (k := i) (w := nI (b i)) f49_116 hS.a10 rfl (by omega) (by decide) ((hf _ _ (by omega)).trans (hT0.2 i (by omega)).2.1) ?_
        refine k_iconst (v := 48) f49_117 rfl ?_
        refine k_ic_lt f49_119 (fun h_ => absurd h_ ((fun q => absurd ((nI_ltI (b := 48) (by omega) (by omega)).mp q) (by omega)))) (fun _ => ?_)
        refine k_aload f49_122 rfl ?_
        refine k_getr (q := 10) f49_123 hS.o9 rfl hR.r9_0 ?_
        refine k_iload f49_126 rfl ?_
        refine k_ca (k := i) (w := nI (b i)) f49_127 hS.a10 rfl (by omega) (by decide) ((hf _ _ (by omega)).trans (hT0.2 i (by omega)).2.1) ?_
        refine k_iconst (v := 57) f49_128 rfl ?_
        refine k_ic_gt f49_130 (fun h_ => absurd h_ ((fun q => absurd ((nI_ltI (a := 57) (by omega) (by omega)).mp q) (by omega)))) (fun _ => ?_)
        refine k_aload f49_133 rfl ?_
        refine k_iload f49_134 rfl ?_
        refine k_aload f49_135 rfl ?_
        refine k_gI (w := nI q) f49_136 hS.o9 rfl ((hf _ _ (by omega)).trans hq0) ?_
        refine k_isub f49_139 ?_
        rw [nI_sb hqi]
        refine k_iconst (v := 5) f49_140 rfl ?_
        refine k_ic_ge f49_141 (fun h_ => absurd h_ (nI_ge (b := 5) h5 (by omega))) (fun _ => ?_)
        refine k_aload f49_144 rfl ?_
        refine k_gI (w := nvA b q i) f49_145 hS.o9 rfl h6 ?_
        refine k_iconst (v := 10) f49_148 rfl ?_
        refine k_imul f49_150 ?_
        refine k_aload f49_151 rfl ?_
        refine k_getr (q := 10) f49_152 hS.o9 rfl hR.r9_0 ?_
        refine k_iload f49_155 rfl ?_
        refine k_ca (k := i) (w := nI (b i)) f49_156 hS.a10 rfl (by omega) (by decide) ((hf _ _ (by omega)).trans (hT0.2 i (by omega)).2.1) ?_
        refine k_iadd f49_157 ?_
        refine k_iconst (v := 48) f49_158 rfl ?_
        refine k_isub f49_160 ?_
        refine k_goto f49_161 ?_
        refine k_putI f49_165 hS.o9 rfl ?_
        refine k_iinc (w := nI (i + 1)) (L' := [.ref 9, .int (nI (i + 1))]) f49_168 rfl (nI_1 i) rfl rfl ?_
        refine k_goto f49_171 ?_
        exact ih (i + 1) _ (by omega) (by omega) (fun p k h => (z_u_no _ _ h).trans (hf p k h)) ((z_u_same _ _ _ _).trans (nvA_s hqi h5 h.1)) hk
      · refine k_iload f49_103 rfl ?_
        refine k_aload f49_104 rfl ?_
        refine k_gI (w := nI n) f49_105 hS.o9 rfl ((hf _ _ (by omega)).trans hn0) ?_
        refine k_ic_ge f49_108 (fun h_ => absurd h_ (nI_ge (by omega) (by omega))) (fun _ => ?_)
        refine k_aload f49_111 rfl ?_
        refine k_getr (q := 10) f49_112 hS.o9 rfl hR.r9_0 ?_
        refine k_iload f49_115 rfl ?_
        refine k_ca (k := i) (w := nI (b i)) f49_116 hS.a10 rfl (by omega) (by decide) ((hf _ _ (by omega)).trans (hT0.2 i (by omega)).2.1) ?_
        refine k_iconst (v := 48) f49_117 rfl ?_
        refine k_ic_lt f49_119 (fun h_ => absurd h_ ((fun q => absurd ((nI_ltI (b := 48) (by omega) (by omega)).mp q) (by omega)))) (fun _ => ?_)
        refine k_aload f49_122 rfl ?_
        refine k_getr (q := 10) f49_123 hS.o9 rfl hR.r9_0 ?_
        refine k_iload f49_126 rfl ?_
        refine k_ca (k := i) (w := nI (b i)) f49_127 hS.a10 rfl (by omega) (by decide) ((hf _ _ (by omega)).trans (hT0.2 i (by omega)).2.1) ?_
        refine k_iconst (v := 57) f49_128 rfl ?_
        refine k_ic_gt f49_130 (fun h_ => absurd h_ ((fun q => absurd ((nI_ltI (a := 57) (by omega) (by omega)).mp q) (by omega)))) (fun _ => ?_)
        refine k_aload f49_133 rfl ?_
        refine k_iload f49_134 rfl ?_
        refine k_aload f49_135 rfl ?_
        refine k_gI (w := nI q) f49_136 hS.o9 rfl ((hf _ _ (by omega)).trans hq0) ?_
        refine k_isub f49_139 ?_
        rw [nI_sb hqi]
        refine k_iconst (v := 5) f49_140 rfl ?_
        refine k_ic_ge f49_141 (fun _ => ?_) (fun h_ => absurd (nI_le (a := 5) (by omega) (by omega)) h_)
        refine k_iconst (v := (-1)) f49_164 rfl ?_
        refine k_putI f49_165 hS.o9 rfl ?_
        refine k_iinc (w := nI (i + 1)) (L' := [.ref 9, .int (nI (i + 1))]) f49_168 rfl (nI_1 i) rfl rfl ?_
        refine k_goto f49_171 ?_
        exact ih (i + 1) _ (by omega) (by omega) (fun p k h => (z_u_no _ _ h).trans (hf p k h)) ((z_u_same _ _ _ _).trans (nvA_m h5 hqi)) hk
    · rw [show dg b n i = i from rE_n fun q => h (of_decide_eq_true q).2] at hk
      by_cases h2 : b i < 48
      · refine k_iload f49_103 rfl ?_
        refine k_aload f49_104 rfl ?_
        refine k_gI (w := nI n) f49_105 hS.o9 rfl ((hf _ _ (by omega)).trans hn0) ?_
        refine k_ic_ge f49_108 (fun h_ => absurd h_ (nI_ge (by omega) (by omega))) (fun _ => ?_)
        refine k_aload f49_111 rfl ?_
        refine k_getr (q := 10) f49_112 hS.o9 rfl hR.r9_0 ?_
        refine k_iload f49_115 rfl ?_
        refine k_ca (k := i) (w := nI (b i)) f49_116 hS.a10 rfl (by omega) (by decide) ((hf _ _ (by omega)).trans (hT0.2 i (by omega)).2.1) ?_
        refine k_iconst (v := 48) f49_117 rfl ?_
        refine k_ic_lt f49_119 (fun _ => ?_) (fun h_ => absurd ((nI_ltI (b := 48) (by omega) (by omega)).mpr (h2)) h_)
        exact hk I hf h6
      · refine k_iload f49_103 rfl ?_
        refine k_aload f49_104 rfl ?_
        refine k_gI (w := nI n) f49_105 hS.o9 rfl ((hf _ _ (by omega)).trans hn0) ?_
        refine k_ic_ge f49_108 (fun h_ => absurd h_ (nI_ge (by omega) (by omega))) (fun _ => ?_)
        refine k_aload f49_111 rfl ?_
        refine k_getr (q := 10) f49_112 hS.o9 rfl hR.r9_0 ?_
        refine k_iload f49_115 rfl ?_
        refine k_ca (k := i) (w := nI (b i)) f49_116 hS.a10 rfl (by omega) (by decide) ((hf _ _ (by omega)).trans (hT0.2 i (by omega)).2.1) ?_
        refine k_iconst (v := 48) f49_117 rfl ?_
        refine k_ic_lt f49_119 (fun h_ => absurd h_ ((fun q => absurd ((nI_ltI (b := 48) (by omega) (by omega)).mp q) (h2)))) (fun _ => ?_)
        refine k_aload f49_122 rfl ?_
        refine k_getr (q := 10) f49_123 hS.o9 rfl hR.r9_0 ?_
        refine k_iload f49_126 rfl ?_
        refine k_ca (k := i) (w := nI (b i)) f49_127 hS.a10 rfl (by omega) (by decide) ((hf _ _ (by omega)).trans (hT0.2 i (by omega)).2.1) ?_
        refine k_iconst (v := 57) f49_128 rfl ?_
        refine k_ic_gt f49_130 (fun _ => ?_) (fun h_ => absurd ((nI_ltI (a := 57) (by omega) (by omega)).mpr (by omega)) h_)
        exact hk I hf h6
