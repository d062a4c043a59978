/-! A TEST HOLDS: the reference's loop. -/
theorem stD_0 {w f : Nat → Int64} {e : Int32} {top : Nat} {q : (Nat → Int64) × Nat} (h : e &&& 15 = 0) (hD : stD w e (f, top) = some q) : top < 64 ∧ q = (z_f f top (e >>> (4 &&& 31)).toInt64, top + 1) := by
  simp only [stD] at hD
  rw [if_pos h] at hD
  by_cases g : top < 64
  · rw [if_pos g] at hD
    exact ⟨g, (Option.some.inj hD).symm⟩
  · rw [if_neg g] at hD
    cases hD
theorem stD_1 {w f : Nat → Int64} {e : Int32} {top : Nat} {q : (Nat → Int64) × Nat} (h0 : ¬ e &&& 15 = 0) (h : e &&& 15 = 1) (hD : stD w e (f, top) = some q) : top < 64 ∧ e >>> (4 &&& 31) = nI (cl (e >>> (4 &&& 31))) ∧ cl (e >>> (4 &&& 31)) < 9 ∧ q = (z_f f top (w (cl (e >>> (4 &&& 31)))), top + 1) := by
  simp only [stD] at hD
  rw [if_neg h0, if_pos h] at hD
  by_cases g : top < 64 ∧ e >>> (4 &&& 31) = nI (cl (e >>> (4 &&& 31))) ∧ cl (e >>> (4 &&& 31)) < 9
  · rw [if_pos g] at hD
    exact ⟨g.1, g.2.1, g.2.2, (Option.some.inj hD).symm⟩
  · rw [if_neg g] at hD
    cases hD
theorem stD_n {w f : Nat → Int64} {e : Int32} {top : Nat} {q : (Nat → Int64) × Nat} (h0 : ¬ e &&& 15 = 0) (h1 : ¬ e &&& 15 = 1) (h : e &&& 15 = 11) (hD : stD w e (f, top) = some q) : 0 < top ∧ top ≤ 64 ∧ q = (z_f f (top - 1) (1 - f (top - 1)), top) := by
  simp only [stD] at hD
  rw [if_neg h0, if_neg h1, if_pos h] at hD
  by_cases g : 0 < top ∧ top ≤ 64
  · rw [if_pos g] at hD
    exact ⟨g.1, g.2, (Option.some.inj hD).symm⟩
  · rw [if_neg g] at hD
    cases hD
theorem stD_o {w f : Nat → Int64} {e : Int32} {top : Nat} {q : (Nat → Int64) × Nat} (h0 : ¬ e &&& 15 = 0) (h1 : ¬ e &&& 15 = 1) (h : ¬ e &&& 15 = 11) (hD : stD w e (f, top) = some q) : 1 < top ∧ top ≤ 64 ∧ q = (z_f f (top - 2) (jnD (e &&& 15) (f (top - 2)) (f (top - 1))), top - 1) := by
  simp only [stD] at hD
  rw [if_neg h0, if_neg h1, if_neg h] at hD
  by_cases g : 1 < top ∧ top ≤ 64
  · rw [if_pos g] at hD
    exact ⟨g.1, g.2, (Option.some.inj hD).symm⟩
  · rw [if_neg g] at hD
    cases hD
theorem ruD_s {w : Nat → Int64} {code : Nat → Int32} {i k : Nat} {p q : (Nat → Int64) × Nat} (h : ruD w code i (k + 1) p = some q) : ∃ r, stD w (code i) p = some r ∧ ruD w code (i + 1) k r = some q := by
  simp only [ruD] at h
  cases hs : stD w (code i) p with
  | none => rw [hs] at h; cases h
  | some r => rw [hs] at h; exact ⟨r, rfl, h⟩
theorem ix_r (t i : Nat) : nI (400 * t + i) = ((400) * (nI t)) + (nI i) := by
  rw [← nI_add, ← pk_mul]; rfl
theorem lp_reck {x : Nat × (Nat → Int32)} {d : Nat} {R : Nat → Nat → Option Nat} {G : zG} {t e : Nat} {w : Nat → Int64} {code : Nat → Int32} {v0 : Int32} {q : (Nat → Int64) × Nat} (hR : Rs R) (hS : Sh G) (ht6 : t < 6) (he : e ≤ 400) (hq0 : 0 < q.2) (hq64 : q.2 ≤ 64) : ∀ (k i top : Nat) (I : Nat → Nat → Int32) (J : Nat → Nat → Int64) (u5 u6 u7 u8 u9 u10 : Value), i + k = e → I 51 23 = nI top → (∀ j, j < 9 → J 61 j = w j) → (∀ j, I 53 (400 * t + j) = code j) → ruD w code i k (J 60, top) = some q → zOk x (d + 1) 152 8 [.ref 51, .int (nI t), .int (v0), .int (nI e), .int (nI i), u5, u6, u7, u8, u9, u10] [] (I, J, R, G) (fun v m => v = some (.long (q.1 (q.2 - 1))) ∧ ∃ I' J', m = (I', J', R, G) ∧ (∀ p k, ¬ (p = 51 ∧ k = 23) → I' p k = I p k) ∧ ∀ p, p ≠ 60 → J' p = J p) := by
  intro k
  induction k with
  | zero =>
    intro i top I J u5 u6 u7 u8 u9 u10 hi ht hw hc hr
    cases hr
    have hq0 : 0 < top := hq0
    have hq64 : top ≤ 64 := hq64
    refine k_iload f152_8 rfl ?_
    refine k_iload f152_10 rfl ?_
    refine k_ic_ge f152_11 (fun _ => ?_) (fun h_ => absurd (nI_le (by omega) (by omega)) h_)
    refine k_aload f152_135 rfl ?_
    refine e_v (as := []) (rest := []) f152_136 hS.o51 rfl rfl rfl (s_pop (top := top) hR hS ht (by omega) (by omega)) ?_
    exact k_lret f152_139 ⟨rfl, _, _, rfl, fun p k hp => z_u_no _ _ hp, fun _ _ => rfl⟩
  | succ k ih =>
    intro i top I J u5 u6 u7 u8 u9 u10 hi ht hw hc hr
    have hin : i < e := by omega
    obtain ⟨r, hD, hr2⟩ := ruD_s hr
    refine k_iload f152_8 rfl ?_
    refine k_iload f152_10 rfl ?_
    refine k_ic_ge f152_11 (fun h_ => absurd h_ (nI_ge hin (by omega))) (fun _ => ?_)
    refine k_aload f152_14 rfl ?_
    refine k_getr (q := 53) f152_15 hS.o51 rfl hR.r51_3 ?_
    refine k_iconst (v := 400) f152_18 rfl ?_
    refine k_iload f152_21 rfl ?_
    refine k_imul f152_22 ?_
    refine k_iload f152_23 rfl ?_
    refine k_iadd f152_25 ?_
    refine k_ia (k := 400 * t + i) (w := code i) f152_26 hS.a53 (ix_r t i) (by omega) (by decide) (hc i) ?_
    refine k_iconst (v := 15) f152_27 rfl ?_
    refine k_iand f152_29 ?_
    refine k_istore (L' := [.ref 51, .int (nI t), .int (v0), .int (nI e), .int (nI i), .int ((code i) &&& (15)), u6, u7, u8, u9, u10]) f152_30 rfl rfl ?_
    refine k_aload f152_32 rfl ?_
    refine k_getr (q := 53) f152_33 hS.o51 rfl hR.r51_3 ?_
    refine k_iconst (v := 400) f152_36 rfl ?_
    refine k_iload f152_39 rfl ?_
    refine k_imul f152_40 ?_
    refine k_iload f152_41 rfl ?_
    refine k_iadd f152_43 ?_
    refine k_ia (k := 400 * t + i) (w := code i) f152_44 hS.a53 (ix_r t i) (by omega) (by decide) (hc i) ?_
    refine k_iconst (v := 4) f152_45 rfl ?_
    refine k_ishr f152_46 ?_
    refine k_istore (L' := [.ref 51, .int (nI t), .int (v0), .int (nI e), .int (nI i), .int ((code i) &&& (15)), .int ((code i) >>> ((4) &&& 31)), u7, u8, u9, u10]) f152_47 rfl rfl ?_
    refine k_iload f152_49 rfl ?_
    refine k_if_ne f152_51 (fun g0 => ?_) (fun g0 => ?_)
    · refine k_iload f152_64 rfl ?_
      refine k_iconst (v := 1) f152_66 rfl ?_
      refine k_ic_ne f152_67 (fun g1 => ?_) (fun g1 => ?_)
      · refine k_iload f152_84 rfl ?_
        refine k_iconst (v := 11) f152_86 rfl ?_
        refine k_ic_ne f152_88 (fun g2 => ?_) (fun g2 => ?_)
        · obtain ⟨h0, h64, rfl⟩ := stD_o g0 g1 g2 hD
          refine k_aload f152_104 rfl ?_
          refine e_v (as := []) (rest := []) f152_105 hS.o51 rfl rfl rfl (s_pop (top := top) hR hS ht (by omega) (by omega)) ?_
          refine k_lstore (L' := [.ref 51, .int (nI t), .int (v0), .int (nI e), .int (nI i), .int ((code i) &&& (15)), .int ((code i) >>> ((4) &&& 31)), .long (J 60 (top - 1)), zU, u9, u10]) f152_108 rfl rfl ?_
          refine k_aload f152_110 rfl ?_
          refine e_v (as := []) (rest := []) f152_111 hS.o51 rfl rfl rfl (s_pop (top := top - 1) hR hS (z_u_same _ _ _ _) (by omega) (by omega)) ?_
          refine k_lstore (L' := [.ref 51, .int (nI t), .int (v0), .int (nI e), .int (nI i), .int ((code i) &&& (15)), .int ((code i) >>> ((4) &&& 31)), .long (J 60 (top - 1)), zU, .long (J 60 (top - 1 - 1)), zU]) f152_114 rfl rfl ?_
          refine k_aload f152_116 rfl ?_
          refine k_iload f152_117 rfl ?_
          refine k_lload f152_119 rfl ?_
          refine k_lload f152_121 rfl ?_
          refine e_s (as := [.long (J 60 (top - 1)), .long (J 60 (top - 1 - 1)), .int ((code i) &&& (15))]) (rest := [.ref 51]) f152_123 rfl rfl rfl (s_one ((code i) &&& (15)) (J 60 (top - 1 - 1)) (J 60 (top - 1))) ?_
          refine e_v (as := [.long (jnD ((code i) &&& (15)) (J 60 (top - 1 - 1)) (J 60 (top - 1)))]) (rest := []) f152_126 hS.o51 rfl rfl rfl (s_push (top := top - 1 - 1) hR hS (z_u_same _ _ _ _) (by omega)) ?_
          refine k_iinc (w := nI (i + 1)) (L' := [.ref 51, .int (nI t), .int (v0), .int (nI e), .int (nI (i + 1)), .int ((code i) &&& (15)), .int ((code i) >>> ((4) &&& 31)), .long (J 60 (top - 1)), zU, .long (J 60 (top - 1 - 1)), zU]) f152_129 rfl (nI_1 i) rfl rfl ?_
          refine k_goto f152_132 ?_
          refine zOk.imp (ih (i + 1) (top - 1 - 1 + 1) _ _ _ _ _ _ _ _ (by omega) (z_u_same _ _ _ _) (fun j hj => (z_u_p _ _ _ _ (by decide)).trans (hw j hj)) (fun j => (Eq.trans (z_u_p _ _ _ _ (by decide)) (Eq.trans (z_u_p _ _ _ _ (by decide)) (Eq.trans (z_u_p _ _ _ _ (by decide)) (hc j))))) (by rw [z_u_f, show top - 1 - 1 = top - 2 by omega, show top - 2 + 1 = top - 1 by omega]; exact hr2)) (fun v m hh => ?_)
          obtain ⟨h1, I', J', h2, h3, h4⟩ := hh
          exact ⟨h1, I', J', h2, fun p k hp => Eq.trans (Eq.trans (Eq.trans (h3 p k hp) (z_u_no _ _ hp)) (z_u_no _ _ hp)) (z_u_no _ _ hp), fun p hp => (h4 p hp).trans (funext fun j => z_u_p _ _ _ _ hp)⟩
        · obtain ⟨h0, h64, rfl⟩ := stD_n g0 g1 (Classical.not_not.mp g2) hD
          refine k_aload f152_91 rfl ?_
          refine k_lconst (v := 1) f152_92 rfl ?_
          refine k_aload f152_93 rfl ?_
          refine e_v (as := []) (rest := [.long (1), .ref 51]) f152_94 hS.o51 rfl rfl rfl (s_pop (top := top) hR hS ht (by omega) (by omega)) ?_
          refine k_lsub f152_97 ?_
          refine e_v (as := [.long ((1) - (J 60 (top - 1)))]) (rest := []) f152_98 hS.o51 rfl rfl rfl (s_push (top := top - 1) hR hS (z_u_same _ _ _ _) (by omega)) ?_
          refine k_goto f152_101 ?_
          refine k_iinc (w := nI (i + 1)) (L' := [.ref 51, .int (nI t), .int (v0), .int (nI e), .int (nI (i + 1)), .int ((code i) &&& (15)), .int ((code i) >>> ((4) &&& 31)), u7, u8, u9, u10]) f152_129 rfl (nI_1 i) rfl rfl ?_
          refine k_goto f152_132 ?_
          refine zOk.imp (ih (i + 1) (top - 1 + 1) _ _ _ _ _ _ _ _ (by omega) (z_u_same _ _ _ _) (fun j hj => (z_u_p _ _ _ _ (by decide)).trans (hw j hj)) (fun j => (Eq.trans (z_u_p _ _ _ _ (by decide)) (Eq.trans (z_u_p _ _ _ _ (by decide)) (hc j)))) (by rw [z_u_f, show top - 1 + 1 = top by omega]; exact hr2)) (fun v m hh => ?_)
          obtain ⟨h1, I', J', h2, h3, h4⟩ := hh
          exact ⟨h1, I', J', h2, fun p k hp => Eq.trans (Eq.trans (h3 p k hp) (z_u_no _ _ hp)) (z_u_no _ _ hp), fun p hp => (h4 p hp).trans (funext fun j => z_u_p _ _ _ _ hp)⟩
      · obtain ⟨h64, hv, hv9, rfl⟩ := stD_1 g0 (Classical.not_not.mp g1) hD
        refine k_aload f152_70 rfl ?_
        refine k_aload f152_71 rfl ?_
        refine k_getr (q := 61) f152_72 hS.o51 rfl hR.r51_24 ?_
        refine k_iload f152_75 rfl ?_
        refine k_la (k := cl ((code i) >>> ((4) &&& 31))) (w := w (cl ((code i) >>> ((4) &&& 31)))) f152_77 hS.a61 hv.symm hv9 (by decide) (hw _ hv9) ?_
        refine e_v (as := [.long (w (cl ((code i) >>> ((4) &&& 31))))]) (rest := []) f152_78 hS.o51 rfl rfl rfl (s_push (top := top) hR hS ht (by omega)) ?_
        refine k_goto f152_81 ?_
        refine k_iinc (w := nI (i + 1)) (L' := [.ref 51, .int (nI t), .int (v0), .int (nI e), .int (nI (i + 1)), .int ((code i) &&& (15)), .int ((code i) >>> ((4) &&& 31)), u7, u8, u9, u10]) f152_129 rfl (nI_1 i) rfl rfl ?_
        refine k_goto f152_132 ?_
        refine zOk.imp (ih (i + 1) (top + 1) _ _ _ _ _ _ _ _ (by omega) (z_u_same _ _ _ _) (fun j hj => (z_u_p _ _ _ _ (by decide)).trans (hw j hj)) (fun j => (Eq.trans (z_u_p _ _ _ _ (by decide)) (hc j))) (by rw [z_u_f]; exact hr2)) (fun v m hh => ?_)
        obtain ⟨h1, I', J', h2, h3, h4⟩ := hh
        exact ⟨h1, I', J', h2, fun p k hp => Eq.trans (h3 p k hp) (z_u_no _ _ hp), fun p hp => (h4 p hp).trans (funext fun j => z_u_p _ _ _ _ hp)⟩
    · obtain ⟨h64, rfl⟩ := stD_0 (Classical.not_not.mp g0) hD
      refine k_aload f152_54 rfl ?_
      refine k_iload f152_55 rfl ?_
      refine k_i2l f152_57 ?_
      refine e_v (as := [.long (((code i) >>> ((4) &&& 31)).toInt64)]) (rest := []) f152_58 hS.o51 rfl rfl rfl (s_push (top := top) hR hS ht (by omega)) ?_
      refine k_goto f152_61 ?_
      refine k_iinc (w := nI (i + 1)) (L' := [.ref 51, .int (nI t), .int (v0), .int (nI e), .int (nI (i + 1)), .int ((code i) &&& (15)), .int ((code i) >>> ((4) &&& 31)), u7, u8, u9, u10]) f152_129 rfl (nI_1 i) rfl rfl ?_
      refine k_goto f152_132 ?_
      refine zOk.imp (ih (i + 1) (top + 1) _ _ _ _ _ _ _ _ (by omega) (z_u_same _ _ _ _) (fun j hj => (z_u_p _ _ _ _ (by decide)).trans (hw j hj)) (fun j => (Eq.trans (z_u_p _ _ _ _ (by decide)) (hc j))) (by rw [z_u_f]; exact hr2)) (fun v m hh => ?_)
      obtain ⟨h1, I', J', h2, h3, h4⟩ := hh
      exact ⟨h1, I', J', h2, fun p k hp => Eq.trans (h3 p k hp) (z_u_no _ _ hp), fun p hp => (h4 p hp).trans (funext fun j => z_u_p _ _ _ _ hp)⟩
