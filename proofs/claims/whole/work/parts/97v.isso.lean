/-! SOME CLAUSE of a kind holds: the reference. -/
theorem ix_k (t i : Nat) : nI (36 * t + 3 * i) = ((36) * (nI t)) + ((3) * (nI i)) := by
  rw [← nI_add, ← pk_mul, ← pk_mul]; rfl
theorem ix_k2 (t i k : Nat) : nI (36 * t + 3 * i + k) = (((36) * (nI t)) + ((3) * (nI i))) + (nI k) := by
  rw [← nI_add, ix_k]
theorem s_reckons {x : Nat × (Nat → Int32)} {d : Nat} {I : Nat → Nat → Int32} {J : Nat → Nat → Int64} {R : Nat → Nat → Option Nat} {G : zG} {t f e : Nat} {w : Nat → Int64} {q : (Nat → Int64) × Nat} (hR : Rs R) (hS : Sh G) (ht6 : t < 6) (he : e ≤ 400) (hfe : f ≤ e) (hw : ∀ j, j < 9 → J 61 j = w j) (hr : ruD w (fun j => I 53 (400 * t + j)) f (e - f) (J 60, 0) = some q) (hq0 : 0 < q.2) (hq64 : q.2 ≤ 64) : zOk x (d + 1) 152 0 [.ref 51, .int (nI t), .int (nI f), .int (nI e), zU, zU, zU, zU, zU, zU, zU] [] (I, J, R, G) (fun v m => v = some (.long (q.1 (q.2 - 1))) ∧ ∃ I' J', m = (I', J', R, G) ∧ (∀ p k, ¬ (p = 51 ∧ k = 23) → I' p k = I p k) ∧ ∀ p, p ≠ 60 → J' p = J p) := by
  refine k_aload f152_0 rfl ?_
  refine k_iconst (v := 0) f152_1 rfl ?_
  refine k_putI f152_2 hS.o51 rfl ?_
  refine k_iload f152_5 rfl ?_
  refine k_istore (L' := [.ref 51, .int (nI t), .int (nI f), .int (nI e), .int (nI f), zU, zU, zU, zU, zU, zU]) f152_6 rfl rfl ?_
  refine zOk.imp (lp_reck (code := fun j => I 53 (400 * t + j)) hR hS ht6 he hq0 hq64 (e - f) f 0 _ J _ _ _ _ _ _ (by omega) (z_u_same _ _ _ _) hw (fun j => z_u_p _ _ _ _ (by decide)) hr) (fun v m hh => ?_)
  obtain ⟨h1, I', J', h2, h3, h4⟩ := hh
  exact ⟨h1, I', J', h2, fun p k hp => (h3 p k hp).trans (z_u_no _ _ hp), h4⟩
theorem lp_isSo {x : Nat × (Nat → Int32)} {d : Nat} {R : Nat → Nat → Option Nat} {G : zG} {t k : Nat} {w : Nat → Int64} {kind : Int32} {f u : Nat → Nat} {P : Nat → Bool} {I0 : Nat → Nat → Int32} (hR : Rs R) (hS : Sh G) (ht6 : t < 6) (hk : I0 56 t = nI k) (hk12 : k ≤ 12) (hf : ∀ i, i < k → f i ≤ u i ∧ u i ≤ 400 ∧ I0 55 (36 * t + 3 * i + 1) = nI (f i) ∧ I0 55 (36 * t + 3 * i + 2) = nI (u i)) (hP : ∀ i, i < k → ∀ s2, ∃ q, ruD w (fun j => I0 53 (400 * t + j)) (f i) (u i - f i) (s2, 0) = some q ∧ 0 < q.2 ∧ q.2 ≤ 64 ∧ (P i = true ↔ I0 55 (36 * t + 3 * i) = kind ∧ q.1 (q.2 - 1) = 1)) : ∀ (m i : Nat) (I : Nat → Nat → Int32) (J : Nat → Nat → Int64) (v4 : Value), i + m = k → (∀ p k, ¬ (p = 51 ∧ k = 23) → I p k = I0 p k) → (∀ j, j < 9 → J 61 j = w j) → zOk x (d + 2) 166 2 [.ref 51, .int (nI t), .int (kind), .int (nI i), v4] [] (I, J, R, G) (fun v mm => v = some (.int (bI (smB P i m = true))) ∧ ∃ I' J', mm = (I', J', R, G) ∧ (∀ p k, ¬ (p = 51 ∧ k = 23) → I' p k = I p k) ∧ ∀ p, p ≠ 60 → J' p = J p) := by
  intro m
  induction m with
  | zero =>
    intro i I J v4 hi hI hw
    refine k_iload f166_2 rfl ?_
    refine k_aload f166_3 rfl ?_
    refine k_getr (q := 56) f166_4 hS.o51 rfl hR.r51_6 ?_
    refine k_iload f166_7 rfl ?_
    refine k_ia (k := t) (w := nI k) f166_8 hS.a56 rfl (by omega) (by decide) ((hI 56 t (by omega)).trans hk) ?_
    refine k_ic_ge f166_9 (fun _ => ?_) (fun h_ => absurd (nI_le (by omega) (by omega)) h_)
    refine k_iconst (v := 0) f166_69 rfl ?_
    exact k_iret f166_70 (by decide) ⟨bI_f (by simp [smB]), I, J, rfl, fun _ _ _ => rfl, fun _ _ => rfl⟩
  | succ m ih =>
    intro i I J v4 hi hI hw
    have hin : i < k := by omega
    have hfi := hf i hin
    refine k_iload f166_2 rfl ?_
    refine k_aload f166_3 rfl ?_
    refine k_getr (q := 56) f166_4 hS.o51 rfl hR.r51_6 ?_
    refine k_iload f166_7 rfl ?_
    refine k_ia (k := t) (w := nI k) f166_8 hS.a56 rfl (by omega) (by decide) ((hI 56 t (by omega)).trans hk) ?_
    refine k_ic_ge f166_9 (fun h_ => absurd h_ (nI_ge hin (by omega))) (fun _ => ?_)
    refine k_iconst (v := 36) f166_12 rfl ?_
    refine k_iload f166_14 rfl ?_
    refine k_imul f166_15 ?_
    refine k_iconst (v := 3) f166_16 rfl ?_
    refine k_iload f166_17 rfl ?_
    refine k_imul f166_18 ?_
    refine k_iadd f166_19 ?_
    refine k_istore (L' := [.ref 51, .int (nI t), .int (kind), .int (nI i), .int (((36) * (nI t)) + ((3) * (nI i)))]) f166_20 rfl rfl ?_
    refine k_aload f166_22 rfl ?_
    refine k_getr (q := 55) f166_23 hS.o51 rfl hR.r51_5 ?_
    refine k_iload f166_26 rfl ?_
    refine k_ia (k := 36 * t + 3 * i) (w := I0 55 (36 * t + 3 * i)) f166_28 hS.a55 (ix_k t i) (by omega) (by decide) (hI 55 _ (by omega)) ?_
    refine k_iload f166_29 rfl ?_
    refine k_ic_ne f166_30 (fun g0 => ?_) (fun g0 => ?_)
    · refine k_iinc (w := nI (i + 1)) (L' := [.ref 51, .int (nI t), .int (kind), .int (nI (i + 1)), .int (((36) * (nI t)) + ((3) * (nI i)))]) f166_63 rfl (nI_1 i) rfl rfl ?_
      refine k_goto f166_66 ?_
      obtain ⟨q, hq, hq0, hq64, hqP⟩ := hP i hin (J 60)
      have hPf : P i = false := Bool.eq_false_iff.mpr fun q0 => g0 (hqP.mp q0).1
      rw [smB_f hPf]
      exact ih (i + 1) I J _ (by omega) hI hw
    · obtain ⟨q, hq, hq0, hq64, hqP⟩ := hP i hin (J 60)
      refine k_aload f166_33 rfl ?_
      refine k_iload f166_34 rfl ?_
      refine k_aload f166_35 rfl ?_
      refine k_getr (q := 55) f166_36 hS.o51 rfl hR.r51_5 ?_
      refine k_iload f166_39 rfl ?_
      refine k_iconst (v := 1) f166_41 rfl ?_
      refine k_iadd f166_42 ?_
      refine k_ia (k := 36 * t + 3 * i + 1) (w := nI (f i)) f166_43 hS.a55 (ix_k2 t i 1) (by omega) (by decide) ((hI 55 _ (by omega)).trans hfi.2.2.1) ?_
      refine k_aload f166_44 rfl ?_
      refine k_getr (q := 55) f166_45 hS.o51 rfl hR.r51_5 ?_
      refine k_iload f166_48 rfl ?_
      refine k_iconst (v := 2) f166_50 rfl ?_
      refine k_iadd f166_51 ?_
      refine k_ia (k := 36 * t + 3 * i + 2) (w := nI (u i)) f166_52 hS.a55 (ix_k2 t i 2) (by omega) (by decide) ((hI 55 _ (by omega)).trans hfi.2.2.2) ?_
      refine k_callv (as := [.int (nI (u i)), .int (nI (f i)), .int (nI t)]) (rest := []) f166_53 hS.o51 rfl rfl rfl rfl (s_reckons (t := t) (f := f i) (e := u i) (w := w) hR hS ht6 hfi.2.1 hfi.1 hw (by rw [show (fun j => I 53 (400 * t + j)) = (fun j => I0 53 (400 * t + j)) from funext fun j => hI 53 _ (by omega)]; exact hq) hq0 hq64) ?_
      rintro _ _ ⟨rfl, I1, J1, rfl, hI1, hJ1⟩
      refine k_lconst (v := 1) f166_56 rfl ?_
      refine k_lcmp f166_57 ?_
      refine k_if_ne f166_58 (fun g1 => ?_) (fun g1 => ?_)
      · refine k_iinc (w := nI (i + 1)) (L' := [.ref 51, .int (nI t), .int (kind), .int (nI (i + 1)), .int (((36) * (nI t)) + ((3) * (nI i)))]) f166_63 rfl (nI_1 i) rfl rfl ?_
        refine k_goto f166_66 ?_
        have hPf : P i = false := Bool.eq_false_iff.mpr fun q0 => g1 ((lg_eq _ _).mpr (hqP.mp q0).2)
        rw [smB_f hPf]
        refine zOk.imp (ih (i + 1) I1 J1 _ (by omega) (fun p k hp => (hI1 p k hp).trans (hI p k hp)) (fun j hj => by rw [hJ1 61 (by decide)]; exact hw j hj)) (fun v mm hh => ?_)
        obtain ⟨h1, I', J', h2, h3, h4⟩ := hh
        exact ⟨h1, I', J', h2, fun p k hp => (h3 p k hp).trans (hI1 p k hp), fun p hp => (h4 p hp).trans (hJ1 p hp)⟩
      · refine k_iconst (v := 1) f166_61 rfl ?_
        exact k_iret f166_62 (by decide) ⟨bI_t (smB_t (hqP.mpr ⟨(Classical.not_not.mp g0), (lg_eq _ _).mp (Classical.not_not.mp g1)⟩)), I1, J1, rfl, hI1, hJ1⟩
