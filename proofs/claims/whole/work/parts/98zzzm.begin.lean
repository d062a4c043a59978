/-! A TOWN begins. -/
theorem bk_400 {b : Nat → Nat} {n p : Nat} (h : p ≤ n) (hn : n ≤ 400) : bk b n p ≤ 400 := Nat.le_trans (bk_le h).2 hn
theorem clT_e {b : Nat → Nat} {n q e : Nat} {s : TS} (hn : n ≤ 400) (hq : q ≤ n) (h : clT b n s q = .inl e) : 0 < e ∧ e < 4000 := by
  obtain ⟨P, y, ⟨c, cf⟩, ⟨m, mf⟩, ln⟩ := s
  unfold clT at h
  by_cases hk : whT b n 5 (.inr q) = 0
  · rw [if_pos hk] at h; cases h; omega
  · rw [if_neg hk] at h
    by_cases ht : tmB (P, y, (c, cf), (m, mf), ln) (whT b n 5 (.inr q)) = true
    · rw [if_pos ht] at h; cases h; omega
    · rw [if_neg ht] at h
      have hw : wl b n q ≤ n := (wl_le hq).2
      have q1 : bk b n (wl b n q) ≤ n := (bk_le hw).2
      have key : ∀ {lo hi p : Nat} {β : Type} {f : Nat × Nat → Sum Nat β}, p ≤ n → bdS (nmQ b n lo hi p) f = .inl e → (0 < e ∧ e < 4000) ∨ ∃ z : Nat × Nat, z.2 ≤ n ∧ f z = .inl e := by
        intro lo hi p β f hp h
        cases h1 : nmQ b n lo hi p with
        | inl e1 =>
          rw [bdS_l h1] at h
          cases h
          have := nmq_e h1
          exact Or.inl (by omega)
        | inr z =>
          rw [bdS_r h1] at h
          exact Or.inr ⟨z, (nmq_ok (v := z.1) (p := z.2) hp h1).2.2.1, h⟩
      unfold bdT at h
      split at h
      · rcases key q1 h with g | ⟨z, _, g⟩
        · exact g
        · cases g
      · split at h
        · rcases key q1 h with g | ⟨z, _, g⟩
          · exact g
          · cases g
        · split at h
          · rcases key q1 h with g | ⟨z1, k1, g⟩
            · exact g
            · rcases key (bk_le k1).2 g with g | ⟨z2, k2, g⟩
              · exact g
              · rcases key (bk_le k2).2 g with g | ⟨z3, _, g⟩
                · exact g
                · cases g
          · rcases key q1 h with g | ⟨z1, k1, g⟩
            · exact g
            · rcases key (bk_le k1).2 g with g | ⟨z2, k2, g⟩
              · exact g
              · rcases key (bk_le k2).2 g with g | ⟨z3, _, g⟩
                · exact g
                · have q3 := (bk_le (b := b) k2).2
                  by_cases ez : z3.1 = z2.1
                  · have g : (if z3.1 = z2.1 then (Sum.inl (1 + 8 * bk b n z2.2 + 1) : Sum Nat (TS × Nat)) else _) = Sum.inl e := g
                    rw [if_pos ez] at g
                    cases g
                    omega
                  · have g : (if z3.1 = z2.1 then (Sum.inl (1 + 8 * bk b n z2.2 + 1) : Sum Nat (TS × Nat)) else _) = Sum.inl e := g
                    rw [if_neg ez] at g
                    cases g
theorem rdT_ok {b : Nat → Nat} {n : Nat} : ∀ (f q : Nat) (s s' : TS), q ≤ n → tsO s → rdT b n f s q = .inr s' → tsO s' := by
  intro f
  induction f with
  | zero => intro q s s' _ ho h; cases h; exact ho
  | succ f ih =>
    intro q s s' hq ho h
    rw [rdT_s] at h
    cases hc : clT b n s q with
    | inl e => rw [bdS_l hc] at h; cases h
    | inr z =>
      rw [bdS_r hc] at h
      obtain ⟨k1, k2, k3⟩ := cl_ok (s' := z.1) (p := z.2) hq ho hc
      have q2 : bk b n z.2 ≤ n := (bk_le k3).2
      by_cases hs : siT b n 59 (.inr (bk b n z.2)) = true
      · rw [if_pos hs] at h
        exact ih _ _ _ (bk_le (ed_le q2).2).2 k1 h
      · rw [if_neg hs] at h
        by_cases hE : enT b n (.inr (bk b n z.2)) = true
        · rw [if_pos hE] at h; cases h; exact k1
        · rw [if_neg hE] at h; cases h
def cbI (I : Nat → Nat → Int32) (q : Nat) (w h s : Int32) : Nat → Nat → Int32 := z_u (z_u (z_u (z_u (z_u (z_u (z_u I q 0 w) q 1 h) q 5 0) q 6 (-1)) q 2 s) q 3 ((1) <<< ((h) &&& 31))) q 4 0
theorem cbI_o (I : Nat → Nat → Int32) {q p : Nat} {w h s : Int32} (k : Nat) (e : p ≠ q) : cbI I q w h s p k = I p k := by
  unfold cbI
  rw [z_u_p _ _ _ _ e, z_u_p _ _ _ _ e, z_u_p _ _ _ _ e, z_u_p _ _ _ _ e, z_u_p _ _ _ _ e, z_u_p _ _ _ _ e, z_u_p _ _ _ _ e]
theorem cbI_q (I : Nat → Nat → Int32) (q : Nat) (w h s : Int32) : cbI I q w h s q 0 = w ∧ cbI I q w h s q 1 = h ∧ cbI I q w h s q 2 = s ∧ cbI I q w h s q 3 = (1 : Int32) <<< (h &&& 31) ∧ cbI I q w h s q 4 = 0 ∧ cbI I q w h s q 5 = 0 ∧ cbI I q w h s q 6 = -1 := by
  unfold cbI
  refine ⟨?_, ?_, ?_, ?_, ?_, ?_, ?_⟩ <;> simp [z_u]
theorem s_cnBeg {x : Nat × (Nat → Int32)} {d : Nat} {I : Nat → Nat → Int32} {J : Nat → Nat → Int64} {R : Nat → Nat → Option Nat} {G : zG} {q : Nat} {w h s : Int32} (hq : zo G q 1) : zRn x (d + 1) 9 [.ref q, .int (w), .int (h), .int (s)] (I, J, R, G) (none) (cbI I q w h s, J, R, G) := by
  show zOk x (d + 1) 9 0 [.ref q, .int (w), .int (h), .int (s)] [] _ _
  refine k_aload f9_0 rfl ?_
  refine k_iload f9_1 rfl ?_
  refine k_putI f9_2 hq rfl ?_
  refine k_aload f9_5 rfl ?_
  refine k_iload f9_6 rfl ?_
  refine k_putI f9_7 hq rfl ?_
  refine k_aload f9_10 rfl ?_
  refine k_iconst (v := 0) f9_11 rfl ?_
  refine k_putI f9_12 hq rfl ?_
  refine k_aload f9_15 rfl ?_
  refine k_iconst (v := (-1)) f9_16 rfl ?_
  refine k_putI f9_17 hq rfl ?_
  refine k_aload f9_20 rfl ?_
  refine k_iload f9_21 rfl ?_
  refine e_v (as := [.int (s)]) (rest := []) f9_22 hq rfl rfl rfl (s_stampAnew (ho := h) hq (Eq.trans (z_u_k _ _ _ (by decide)) (Eq.trans (z_u_k _ _ _ (by decide)) (z_u_same _ _ _ _)))) ?_
  exact k_vret f9_25 ⟨rfl, rfl⟩
def bgH (I0 I : Nat → Nat → Int32) (pl i : Nat) : Prop := (∀ p k, ¬ (19 ≤ p ∧ p < 19 + i) → I p k = I0 p k) ∧ ∀ c, c < i → I (19 + c) 0 = I0 (pl + 1) c ∧ I (19 + c) 1 = I0 (pl + 2) c ∧ I (19 + c) 2 = I0 (pl + 3) c ∧ I (19 + c) 3 = (1 : Int32) <<< ((I0 (pl + 2) c) &&& 31) ∧ I (19 + c) 4 = 0 ∧ I (19 + c) 5 = 0 ∧ I (19 + c) 6 = -1
theorem bgH_s {I0 I : Nat → Nat → Int32} {pl i : Nat} (h : bgH I0 I pl i) (hpl : 71 ≤ pl) (hi : i < 8) : bgH I0 (cbI I (19 + i) (I0 (pl + 1) i) (I0 (pl + 2) i) (I0 (pl + 3) i)) pl (i + 1) := by
  refine ⟨fun p k hp => ?_, fun c hc => ?_⟩
  · rw [cbI_o _ _ (by omega)]
    exact h.1 p k (by omega)
  · by_cases e : c = i
    · subst e
      exact cbI_q I (19 + c) (I0 (pl + 1) c) (I0 (pl + 2) c) (I0 (pl + 3) c)
    · simp only [cbI_o I _ (show 19 + c ≠ 19 + i by omega)]
      exact h.2 c (by omega)
theorem lp_begin {x : Nat × (Nat → Int32)} {d : Nat} {J : Nat → Nat → Int64} {R : Nat → Nat → Option Nat} {G : zG} {I0 : Nat → Nat → Int32} {pl c : Nat} (hR : Rs R) (hS : Sh G) (hX : PlX R G pl) (hpl : 71 ≤ pl) (h0 : R 17 0 = some pl) (hc8 : c ≤ 8) (h2 : I0 pl 2 = nI c) : ∀ (f i : Nat) (I : Nat → Nat → Int32), i + f = c → bgH I0 I pl i → zOk x (d + 2) 35 17 [.ref 17, .ref pl, .int (nI i)] [] (I, J, R, G) (fun v m => v = none ∧ ∃ I', m = (I', J, R, G) ∧ bgH I0 I' pl c) := by
  have hco : ∀ c, c < 8 → R 18 c = some (19 + c) ∧ zo G (19 + c) 1 := fun c hc => by
    match c, hc with
    | 0, _ => exact ⟨hR.r18_0, hS.o19⟩
    | 1, _ => exact ⟨hR.r18_1, hS.o20⟩
    | 2, _ => exact ⟨hR.r18_2, hS.o21⟩
    | 3, _ => exact ⟨hR.r18_3, hS.o22⟩
    | 4, _ => exact ⟨hR.r18_4, hS.o23⟩
    | 5, _ => exact ⟨hR.r18_5, hS.o24⟩
    | 6, _ => exact ⟨hR.r18_6, hS.o25⟩
    | 7, _ => exact ⟨hR.r18_7, hS.o26⟩
  intro f
  induction f with
  | zero =>
    intro i I hi hH
    refine k_iload f35_17 rfl ?_
    refine k_aload f35_18 rfl ?_
    refine k_getr (q := pl) f35_19 hS.o17 rfl h0 ?_
    refine k_gI (w := nI c) f35_22 hX.1 rfl ((hH.1 _ _ (by omega)).trans h2) ?_
    refine k_ic_ge f35_25 (fun _ => ?_) (fun h_ => absurd (nI_le (by omega) (by omega)) h_)
    exact k_vret f35_70 ⟨rfl, I, rfl, (show i = c by omega) ▸ hH⟩
  | succ f ih =>
    intro i I hi hH
    refine k_iload f35_17 rfl ?_
    refine k_aload f35_18 rfl ?_
    refine k_getr (q := pl) f35_19 hS.o17 rfl h0 ?_
    refine k_gI (w := nI c) f35_22 hX.1 rfl ((hH.1 _ _ (by omega)).trans h2) ?_
    refine k_ic_ge f35_25 (fun h_ => absurd h_ (nI_ge (by omega) (by omega))) (fun _ => ?_)
    refine k_aload f35_28 rfl ?_
    refine k_getr (q := 18) f35_29 hS.o17 rfl hR.r17_5 ?_
    refine k_iload f35_32 rfl ?_
    refine k_aar (k := i) (q := 19 + i) f35_33 hS.a18 rfl rfl (by omega) (by decide) (hco i (by omega)).1 ?_
    refine k_aload f35_34 rfl ?_
    refine k_getr (q := pl) f35_35 hS.o17 rfl h0 ?_
    refine k_getr (q := pl + 1) f35_38 hX.1 rfl (hX.2.1 0 (by omega)) ?_
    refine k_iload f35_41 rfl ?_
    refine k_ia (k := i) (w := I0 (pl + 1) i) f35_42 (hX.2.2.1 0 (by omega)) rfl (by omega) (by decide) (hH.1 _ _ (by omega)) ?_
    refine k_aload f35_43 rfl ?_
    refine k_getr (q := pl) f35_44 hS.o17 rfl h0 ?_
    refine k_getr (q := pl + 2) f35_47 hX.1 rfl (hX.2.1 1 (by omega)) ?_
    refine k_iload f35_50 rfl ?_
    refine k_ia (k := i) (w := I0 (pl + 2) i) f35_51 (hX.2.2.1 1 (by omega)) rfl (by omega) (by decide) (hH.1 _ _ (by omega)) ?_
    refine k_aload f35_52 rfl ?_
    refine k_getr (q := pl) f35_53 hS.o17 rfl h0 ?_
    refine k_getr (q := pl + 3) f35_56 hX.1 rfl (hX.2.1 2 (by omega)) ?_
    refine k_iload f35_59 rfl ?_
    refine k_ia (k := i) (w := I0 (pl + 3) i) f35_60 (hX.2.2.1 2 (by omega)) rfl (by omega) (by decide) (hH.1 _ _ (by omega)) ?_
    refine e_v (as := [.int (I0 (pl + 3) i), .int (I0 (pl + 2) i), .int (I0 (pl + 1) i)]) (rest := []) f35_61 (hco i (by omega)).2 rfl rfl rfl (s_cnBeg (hco i (by omega)).2) ?_
    refine k_iinc (w := nI (i + 1)) (L' := [.ref 17, .ref pl, .int (nI (i + 1))]) f35_64 rfl (nI_1 i) rfl rfl ?_
    refine k_goto f35_67 ?_
    exact ih (i + 1) _ (by omega) (bgH_s hH hpl (by omega))
theorem q_beginS {x : Nat × (Nat → Int32)} {d : Nat} {I : Nat → Nat → Int32} {J : Nat → Nat → Int64} {R : Nat → Nat → Option Nat} {G : zG} {pl c : Nat} (hR : Rs R) (hS : Sh G) (hX : PlX R G pl) (hpl : 71 ≤ pl) (hc8 : c ≤ 8) (h2 : I pl 2 = nI c) : zOk x (d + 2) 35 0 [.ref 17, .ref pl, zU] [] (I, J, R, G) (fun v m => v = none ∧ ∃ I', m = (I', J, z_u R 17 0 (some pl), G) ∧ bgH (z_u (z_u I 17 1 0) 17 2 0) I' pl c) := by
  refine k_aload f35_0 rfl ?_
  refine k_aload f35_1 rfl ?_
  refine k_putR f35_2 hS.o17 rfl ?_
  refine k_aload f35_5 rfl ?_
  refine k_iconst (v := 0) f35_6 rfl ?_
  refine k_putI f35_7 hS.o17 rfl ?_
  refine k_aload f35_10 rfl ?_
  refine k_iconst (v := 0) f35_11 rfl ?_
  refine k_putI f35_12 hS.o17 rfl ?_
  refine k_iconst (v := 0) f35_15 rfl ?_
  refine k_istore (L' := [.ref 17, .ref pl, .int (0)]) f35_16 rfl rfl ?_
  refine lp_begin (I0 := z_u (z_u I 17 1 0) 17 2 0) (hR.u (fun q hq => ?_)) hS ⟨hX.1, fun i hi => (z_u_p _ _ _ _ (by omega)).trans (hX.2.1 i hi), hX.2.2⟩ hpl (z_u_same _ _ _ _) hc8 ((z_u_p _ _ _ _ (by omega)).trans ((z_u_p _ _ _ _ (by omega)).trans h2)) c 0 _ (by omega) ⟨fun _ _ _ => rfl, fun c hc => absurd hc (Nat.not_lt_zero _)⟩
  have t : rsL.all (fun q => decide (¬ (q.1 = 17 ∧ q.2.1 = 0))) = true := by decide +kernel
  simpa only [decide_eq_true_eq] using List.all_eq_true.mp t q hq
def cnH (I0 I : Nat → Nat → Int32) (i : Nat) : Prop := (∀ p k, ¬ (p = 62 ∧ 8 ≤ k ∧ k < 8 + 6 * i) → I p k = I0 p k) ∧ ∀ j, j < i → I 62 (8 + 6 * j) = I0 57 (3 * j) ∧ I 62 (8 + 6 * j + 1) = I0 57 (3 * j + 1) ∧ I 62 (8 + 6 * j + 2) = I0 57 (3 * j + 2) ∧ I 62 (8 + 6 * j + 3) = (1 : Int32) <<< ((I0 57 (3 * j + 1)) &&& 31) ∧ I 62 (8 + 6 * j + 4) = 0 ∧ I 62 (8 + 6 * j + 5) = 0
theorem ix_8 (i k : Nat) : nI (8 + 6 * i + k) = nI (8 + 6 * i) + nI k := (nI_add _ _).symm
theorem ix_3 (i k : Nat) : nI (3 * i + k) = (3) * (nI i) + nI k := by rw [← nI_add, ← pk_mul]; rfl
theorem lp_tCoins {x : Nat × (Nat → Int32)} {d : Nat} {J : Nat → Nat → Int64} {R : Nat → Nat → Option Nat} {G : zG} {I0 : Nat → Nat → Int32} {c : Nat} {Q : Option Value → zM → Prop} (hR : Rs R) (hS : Sh G) (hc8 : c ≤ 8) (h9 : I0 51 9 = nI c) (hk : ∀ I' u2 u3, cnH I0 I' c → zOk x d 147 202 [.ref 51, .int (nI c), u2, u3] [] (I', J, R, G) Q) : ∀ (f i : Nat) (I : Nat → Nat → Int32) (u2 u3 : Value), i + f = c → cnH I0 I i → zOk x d 147 111 [.ref 51, .int (nI i), u2, u3] [] (I, J, R, G) Q := by
  intro f
  induction f with
  | zero =>
    intro i I u2 u3 hi hH
    have hi : i = c := by omega
    subst hi
    refine k_iload f147_111 rfl ?_
    refine k_aload f147_112 rfl ?_
    refine k_gI (w := nI i) f147_113 hS.o51 rfl ((hH.1 _ _ (by omega)).trans h9) ?_
    refine k_ic_ge f147_116 (fun _ => ?_) (fun h_ => absurd (Int32.le_refl _) h_)
    exact hk I _ _ hH
  | succ f ih =>
    intro i I u2 u3 hi hH
    refine k_iload f147_111 rfl ?_
    refine k_aload f147_112 rfl ?_
    refine k_gI (w := nI c) f147_113 hS.o51 rfl ((hH.1 _ _ (by omega)).trans h9) ?_
    refine k_ic_ge f147_116 (fun h_ => absurd h_ (nI_ge (by omega) (by omega))) (fun _ => ?_)
    refine k_iconst (v := 8) f147_119 rfl ?_
    refine k_iconst (v := 6) f147_121 rfl ?_
    refine k_iload f147_123 rfl ?_
    refine k_imul f147_124 ?_
    refine k_iadd f147_125 ?_
    rw [show (8 : Int32) + 6 * nI i = nI (8 + 6 * i) from by rw [← nI_add, ← pk_mul]; rfl]
    refine k_istore (L' := [.ref 51, .int (nI i), .int (nI (8 + 6 * i)), u3]) f147_126 rfl rfl ?_
    refine k_iconst (v := 0) f147_127 rfl ?_
    refine k_istore (L' := [.ref 51, .int (nI i), .int (nI (8 + 6 * i)), .int (0)]) f147_128 rfl rfl ?_
    refine k_iload f147_129 rfl ?_
    refine k_iconst (v := 3) f147_130 rfl ?_
    refine k_ic_ge f147_131 (fun h_ => absurd h_ (by decide)) (fun _ => ?_)
    refine k_aload f147_134 rfl ?_
    refine k_getr (q := 62) f147_135 hS.o51 rfl hR.r51_25 ?_
    refine k_iload f147_138 rfl ?_
    refine k_iload f147_139 rfl ?_
    refine k_iadd f147_140 ?_
    refine k_aload f147_141 rfl ?_
    refine k_getr (q := 57) f147_142 hS.o51 rfl hR.r51_11 ?_
    refine k_iconst (v := 3) f147_145 rfl ?_
    refine k_iload f147_146 rfl ?_
    refine k_imul f147_147 ?_
    refine k_iload f147_148 rfl ?_
    refine k_iadd f147_149 ?_
    refine k_ia (k := 3 * i) (w := I0 57 (3 * i)) f147_150 hS.a57 (ix_3 i 0) (by omega) (by decide) (hH.1 _ _ (by omega)) ?_
    refine k_is (k := 8 + 6 * i) f147_151 hS.a62 (ix_8 i 0) (by omega) (by decide) ?_
    refine k_iinc (w := 1) (L' := [.ref 51, .int (nI i), .int (nI (8 + 6 * i)), .int (1)]) f147_152 rfl (by decide) rfl rfl ?_
    refine k_goto f147_155 ?_
    refine k_iload f147_129 rfl ?_
    refine k_iconst (v := 3) f147_130 rfl ?_
    refine k_ic_ge f147_131 (fun h_ => absurd h_ (by decide)) (fun _ => ?_)
    refine k_aload f147_134 rfl ?_
    refine k_getr (q := 62) f147_135 hS.o51 rfl hR.r51_25 ?_
    refine k_iload f147_138 rfl ?_
    refine k_iload f147_139 rfl ?_
    refine k_iadd f147_140 ?_
    refine k_aload f147_141 rfl ?_
    refine k_getr (q := 57) f147_142 hS.o51 rfl hR.r51_11 ?_
    refine k_iconst (v := 3) f147_145 rfl ?_
    refine k_iload f147_146 rfl ?_
    refine k_imul f147_147 ?_
    refine k_iload f147_148 rfl ?_
    refine k_iadd f147_149 ?_
    refine k_ia (k := 3 * i + 1) (w := I0 57 (3 * i + 1)) f147_150 hS.a57 (ix_3 i 1) (by omega) (by decide) (Eq.trans (z_u_p _ _ _ _ (by decide)) (hH.1 _ _ (by omega))) ?_
    refine k_is (k := 8 + 6 * i + 1) f147_151 hS.a62 (ix_8 i 1) (by omega) (by decide) ?_
    refine k_iinc (w := 2) (L' := [.ref 51, .int (nI i), .int (nI (8 + 6 * i)), .int (2)]) f147_152 rfl (by decide) rfl rfl ?_
    refine k_goto f147_155 ?_
    refine k_iload f147_129 rfl ?_
    refine k_iconst (v := 3) f147_130 rfl ?_
    refine k_ic_ge f147_131 (fun h_ => absurd h_ (by decide)) (fun _ => ?_)
    refine k_aload f147_134 rfl ?_
    refine k_getr (q := 62) f147_135 hS.o51 rfl hR.r51_25 ?_
    refine k_iload f147_138 rfl ?_
    refine k_iload f147_139 rfl ?_
    refine k_iadd f147_140 ?_
    refine k_aload f147_141 rfl ?_
    refine k_getr (q := 57) f147_142 hS.o51 rfl hR.r51_11 ?_
    refine k_iconst (v := 3) f147_145 rfl ?_
    refine k_iload f147_146 rfl ?_
    refine k_imul f147_147 ?_
    refine k_iload f147_148 rfl ?_
    refine k_iadd f147_149 ?_
    refine k_ia (k := 3 * i + 2) (w := I0 57 (3 * i + 2)) f147_150 hS.a57 (ix_3 i 2) (by omega) (by decide) (Eq.trans (z_u_p _ _ _ _ (by decide)) (Eq.trans (z_u_p _ _ _ _ (by decide)) (hH.1 _ _ (by omega)))) ?_
    refine k_is (k := 8 + 6 * i + 2) f147_151 hS.a62 (ix_8 i 2) (by omega) (by decide) ?_
    refine k_iinc (w := 3) (L' := [.ref 51, .int (nI i), .int (nI (8 + 6 * i)), .int (3)]) f147_152 rfl (by decide) rfl rfl ?_
    refine k_goto f147_155 ?_
    refine k_iload f147_129 rfl ?_
    refine k_iconst (v := 3) f147_130 rfl ?_
    refine k_ic_ge f147_131 (fun _ => ?_) (fun h_ => absurd (by decide) h_)
    refine k_aload f147_158 rfl ?_
    refine k_getr (q := 62) f147_159 hS.o51 rfl hR.r51_25 ?_
    refine k_iload f147_162 rfl ?_
    refine k_iconst (v := 3) f147_163 rfl ?_
    refine k_iadd f147_164 ?_
    refine k_iconst (v := 1) f147_165 rfl ?_
    refine k_aload f147_166 rfl ?_
    refine k_getr (q := 57) f147_167 hS.o51 rfl hR.r51_11 ?_
    refine k_iconst (v := 3) f147_170 rfl ?_
    refine k_iload f147_171 rfl ?_
    refine k_imul f147_172 ?_
    refine k_iconst (v := 1) f147_173 rfl ?_
    refine k_iadd f147_174 ?_
    refine k_ia (k := 3 * i + 1) (w := I0 57 (3 * i + 1)) f147_175 hS.a57 (ix_3 i 1) (by omega) (by decide) (Eq.trans (z_u_p _ _ _ _ (by decide)) (Eq.trans (z_u_p _ _ _ _ (by decide)) (Eq.trans (z_u_p _ _ _ _ (by decide)) (hH.1 _ _ (by omega))))) ?_
    refine k_ishl f147_176 ?_
    refine k_is (k := 8 + 6 * i + 3) f147_177 hS.a62 (ix_8 i 3) (by omega) (by decide) ?_
    refine k_aload f147_178 rfl ?_
    refine k_getr (q := 62) f147_179 hS.o51 rfl hR.r51_25 ?_
    refine k_iload f147_182 rfl ?_
    refine k_iconst (v := 4) f147_183 rfl ?_
    refine k_iadd f147_184 ?_
    refine k_iconst (v := 0) f147_185 rfl ?_
    refine k_is (k := 8 + 6 * i + 4) f147_186 hS.a62 (ix_8 i 4) (by omega) (by decide) ?_
    refine k_aload f147_187 rfl ?_
    refine k_getr (q := 62) f147_188 hS.o51 rfl hR.r51_25 ?_
    refine k_iload f147_191 rfl ?_
    refine k_iconst (v := 5) f147_192 rfl ?_
    refine k_iadd f147_193 ?_
    refine k_iconst (v := 0) f147_194 rfl ?_
    refine k_is (k := 8 + 6 * i + 5) f147_195 hS.a62 (ix_8 i 5) (by omega) (by decide) ?_
    refine k_iinc (w := nI (i + 1)) (L' := [.ref 51, .int (nI (i + 1)), .int (nI (8 + 6 * i)), .int (3)]) f147_196 rfl (nI_1 i) rfl rfl ?_
    refine k_goto f147_199 ?_
    refine ih (i + 1) _ _ _ (by omega) ⟨fun p k hp => ?_, fun j hj => ?_⟩
    · rw [z_u_no _ _ (by omega), z_u_no _ _ (by omega), z_u_no _ _ (by omega), z_u_no _ _ (by omega), z_u_no _ _ (by omega), z_u_no _ _ (by omega)]
      exact hH.1 p k (by omega)
    · by_cases e : j = i
      · subst e
        refine ⟨?_, ?_, ?_, ?_, ?_, ?_⟩
        · rw [z_u_k _ _ _ (by omega), z_u_k _ _ _ (by omega), z_u_k _ _ _ (by omega), z_u_k _ _ _ (by omega), z_u_k _ _ _ (by omega), z_u_same]
        · rw [z_u_k _ _ _ (by omega), z_u_k _ _ _ (by omega), z_u_k _ _ _ (by omega), z_u_k _ _ _ (by omega), z_u_same]
        · rw [z_u_k _ _ _ (by omega), z_u_k _ _ _ (by omega), z_u_k _ _ _ (by omega), z_u_same]
        · rw [z_u_k _ _ _ (by omega), z_u_k _ _ _ (by omega), z_u_same]
        · rw [z_u_k _ _ _ (by omega), z_u_same]
        · rw [z_u_same]
      · have g : ∀ k, k < 8 + 6 * i → z_u (z_u (z_u (z_u (z_u (z_u I 62 (8 + 6 * i) (I0 57 (3 * i))) 62 (8 + 6 * i + 1) (I0 57 (3 * i + 1))) 62 (8 + 6 * i + 2) (I0 57 (3 * i + 2))) 62 (8 + 6 * i + 3) ((1) <<< ((I0 57 (3 * i + 1)) &&& 31))) 62 (8 + 6 * i + 4) 0) 62 (8 + 6 * i + 5) 0 62 k = I 62 k := fun k hk => by
          rw [z_u_k _ _ _ (by omega), z_u_k _ _ _ (by omega), z_u_k _ _ _ (by omega), z_u_k _ _ _ (by omega), z_u_k _ _ _ (by omega), z_u_k _ _ _ (by omega)]
        obtain ⟨x0, x1, x2, x3, x4, x5⟩ := hH.2 j (by omega)
        exact ⟨(g _ (by omega)).trans x0, (g _ (by omega)).trans x1, (g _ (by omega)).trans x2, (g _ (by omega)).trans x3, (g _ (by omega)).trans x4, (g _ (by omega)).trans x5⟩
def mtH (I0 I : Nat → Nat → Int32) (i : Nat) : Prop := (∀ p k, ¬ (p = 62 ∧ 56 ≤ k ∧ k < 56 + i) → I p k = I0 p k) ∧ ∀ j, j < i → I 62 (56 + j) = I0 58 j
def tdH (I0 I : Nat → Nat → Int32) (i : Nat) : Prop := (∀ p k, ¬ (p = 62 ∧ 131 ≤ k ∧ k < 131 + i) → I p k = I0 p k) ∧ ∀ j, j < i → I 62 (131 + j) = -1
theorem lp_tMeets {x : Nat × (Nat → Int32)} {d : Nat} {J : Nat → Nat → Int64} {R : Nat → Nat → Option Nat} {G : zG} {I0 : Nat → Nat → Int32} {m : Nat} {u2 u3 : Value} {Q : Option Value → zM → Prop} (hR : Rs R) (hS : Sh G) (hm : m ≤ 24) (h10 : I0 51 10 = nI m) (hk : ∀ I', mtH I0 I' (3 * m) → zOk x d 147 235 [.ref 51, .int (nI (3 * m)), u2, u3] [] (I', J, R, G) Q) : ∀ (f i : Nat) (I : Nat → Nat → Int32), i + f = 3 * m → mtH I0 I i → zOk x d 147 204 [.ref 51, .int (nI i), u2, u3] [] (I, J, R, G) Q := by
  intro f
  induction f with
  | zero =>
    intro i I hi hH
    have hi : i = 3 * m := by omega
    subst hi
    refine k_iload f147_204 rfl ?_
    refine k_iconst (v := 3) f147_205 rfl ?_
    refine k_aload f147_206 rfl ?_
    refine k_gI (w := nI m) f147_207 hS.o51 rfl ((hH.1 _ _ (by omega)).trans h10) ?_
    refine k_imul f147_210 ?_
    rw [show (3 : Int32) * nI m = nI (3 * m) from pk_mul 3 m]
    refine k_ic_ge f147_211 (fun _ => ?_) (fun h_ => absurd (Int32.le_refl _) h_)
    exact hk I hH
  | succ f ih =>
    intro i I hi hH
    refine k_iload f147_204 rfl ?_
    refine k_iconst (v := 3) f147_205 rfl ?_
    refine k_aload f147_206 rfl ?_
    refine k_gI (w := nI m) f147_207 hS.o51 rfl ((hH.1 _ _ (by omega)).trans h10) ?_
    refine k_imul f147_210 ?_
    rw [show (3 : Int32) * nI m = nI (3 * m) from pk_mul 3 m]
    refine k_ic_ge f147_211 (fun h_ => absurd h_ (nI_ge (by omega) (by omega))) (fun _ => ?_)
    refine k_aload f147_214 rfl ?_
    refine k_getr (q := 62) f147_215 hS.o51 rfl hR.r51_25 ?_
    refine k_iconst (v := 56) f147_218 rfl ?_
    refine k_iload f147_220 rfl ?_
    refine k_iadd f147_221 ?_
    refine k_aload f147_222 rfl ?_
    refine k_getr (q := 58) f147_223 hS.o51 rfl hR.r51_12 ?_
    refine k_iload f147_226 rfl ?_
    refine k_ia (k := i) (w := I0 58 i) f147_227 hS.a58 rfl (by omega) (by decide) (hH.1 _ _ (by omega)) ?_
    refine k_is (k := 56 + i) f147_228 hS.a62 (nI_add 56 i).symm (by omega) (by decide) ?_
    refine k_iinc (w := nI (i + 1)) (L' := [.ref 51, .int (nI (i + 1)), u2, u3]) f147_229 rfl (nI_1 i) rfl rfl ?_
    refine k_goto f147_232 ?_
    refine ih (i + 1) _ (by omega) ⟨fun p k hp => (z_u_no _ _ (by omega)).trans (hH.1 p k (by omega)), fun j hj => ?_⟩
    by_cases e : j = i
    · rw [e, z_u_same]
    · rw [z_u_k _ _ _ (by omega)]; exact hH.2 j (by omega)
theorem lp_tTold {x : Nat × (Nat → Int32)} {d : Nat} {J : Nat → Nat → Int64} {R : Nat → Nat → Option Nat} {G : zG} {I0 : Nat → Nat → Int32} {u2 u3 : Value} {Q : Option Value → zM → Prop} (hR : Rs R) (hS : Sh G) (hk : ∀ I', tdH I0 I' 8 → zOk x d 147 260 [.ref 51, .int (nI 8), u2, u3] [] (I', J, R, G) Q) : ∀ (f i : Nat) (I : Nat → Nat → Int32), i + f = 8 → tdH I0 I i → zOk x d 147 237 [.ref 51, .int (nI i), u2, u3] [] (I, J, R, G) Q := by
  intro f
  induction f with
  | zero =>
    intro i I hi hH
    have hi : i = 8 := by omega
    subst hi
    refine k_iload f147_237 rfl ?_
    refine k_iconst (v := 8) f147_238 rfl ?_
    refine k_ic_ge f147_240 (fun _ => ?_) (fun h_ => absurd (by decide) h_)
    exact hk I hH
  | succ f ih =>
    intro i I hi hH
    refine k_iload f147_237 rfl ?_
    refine k_iconst (v := 8) f147_238 rfl ?_
    refine k_ic_ge f147_240 (fun h_ => absurd h_ (nI_ge (b := 8) (by omega) (by omega))) (fun _ => ?_)
    refine k_aload f147_243 rfl ?_
    refine k_getr (q := 62) f147_244 hS.o51 rfl hR.r51_25 ?_
    refine k_iconst (v := 131) f147_247 rfl ?_
    refine k_iload f147_250 rfl ?_
    refine k_iadd f147_251 ?_
    refine k_iconst (v := (-1)) f147_252 rfl ?_
    refine k_is (k := 131 + i) f147_253 hS.a62 (nI_add 131 i).symm (by omega) (by decide) ?_
    refine k_iinc (w := nI (i + 1)) (L' := [.ref 51, .int (nI (i + 1)), u2, u3]) f147_254 rfl (nI_1 i) rfl rfl ?_
    refine k_goto f147_257 ?_
    refine ih (i + 1) _ (by omega) ⟨fun p k hp => (z_u_no _ _ (by omega)).trans (hH.1 p k (by omega)), fun j hj => ?_⟩
    by_cases e : j = i
    · rw [e, z_u_same]
    · rw [z_u_k _ _ _ (by omega)]; exact hH.2 j (by omega)
