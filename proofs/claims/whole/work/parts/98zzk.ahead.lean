/-! RINGS: one who is in the ring already, in the reference. -/
def ahB (rg : Nat → Nat) (p : Nat) : Nat → Nat → Bool
  | 0, _ => false
  | f + 1, i => decide (rg i = p) || ahB rg p f (i + 1)
theorem lp_isAhead {x : Nat × (Nat → Int32)} {d : Nat} {I : Nat → Nat → Int32} {J : Nat → Nat → Int64} {R : Nat → Nat → Option Nat} {G : zG} {k p : Nat} {rg : Nat → Nat} (hR : Rs R) (hS : Sh G) (hk : k ≤ 6) (hp : p < 10) (hrg : ∀ i, i < k → I 68 i = nI (rg i) ∧ rg i < 10) : ∀ (f i : Nat), i + f = k → zOk x d 195 2 [.ref 51, .int (nI p), .int (nI k), .int (nI i)] [] (I, J, R, G) (fun v m => v = some (.int (bI (ahB rg p f i = true))) ∧ m = (I, J, R, G)) := by
  intro f
  induction f with
  | zero =>
    intro i hi
    refine k_iload f195_2 rfl ?_
    refine k_iload f195_3 rfl ?_
    refine k_ic_ge f195_4 (fun _ => ?_) (fun h_ => absurd (nI_le (by omega) (by omega)) h_)
    refine k_iconst (v := 0) f195_25 rfl ?_
    exact k_iret f195_26 (by decide) ⟨bI_f (by simp [ahB]), rfl⟩
  | succ f ih =>
    intro i hi
    obtain ⟨ei, li⟩ := hrg i (by omega)
    by_cases e : rg i = p
    · refine k_iload f195_2 rfl ?_
      refine k_iload f195_3 rfl ?_
      refine k_ic_ge f195_4 (fun h_ => absurd h_ (nI_ge (by omega) (by omega))) (fun _ => ?_)
      refine k_aload f195_7 rfl ?_
      refine k_getr (q := 68) f195_8 hS.o51 rfl hR.r51_36 ?_
      refine k_iload f195_11 rfl ?_
      refine k_ia (k := i) (w := nI (rg i)) f195_12 hS.a68 rfl (by omega) (by decide) ei ?_
      refine k_iload f195_13 rfl ?_
      refine k_ic_ne f195_14 (fun h_ => absurd (congrArg nI e) h_) (fun _ => ?_)
      refine k_iconst (v := 1) f195_17 rfl ?_
      exact k_iret f195_18 (by decide) ⟨bI_t (by simp [ahB, e]), rfl⟩
    · refine k_iload f195_2 rfl ?_
      refine k_iload f195_3 rfl ?_
      refine k_ic_ge f195_4 (fun h_ => absurd h_ (nI_ge (by omega) (by omega))) (fun _ => ?_)
      refine k_aload f195_7 rfl ?_
      refine k_getr (q := 68) f195_8 hS.o51 rfl hR.r51_36 ?_
      refine k_iload f195_11 rfl ?_
      refine k_ia (k := i) (w := nI (rg i)) f195_12 hS.a68 rfl (by omega) (by decide) ei ?_
      refine k_iload f195_13 rfl ?_
      refine k_ic_ne f195_14 (fun _ => ?_) (fun h_ => absurd ((fun q => e ((nI_eq (by omega) (by omega)).mp q))) h_)
      refine k_iinc (w := nI (i + 1)) (L' := [.ref 51, .int (nI p), .int (nI k), .int (nI (i + 1))]) f195_19 rfl (nI_1 i) rfl rfl ?_
      refine k_goto f195_22 ?_
      rw [show ahB rg p (f + 1) i = ahB rg p f (i + 1) from by simp [ahB, e]]
      exact ih (i + 1) (by omega)
theorem s_isAhead {x : Nat × (Nat → Int32)} {d : Nat} {I : Nat → Nat → Int32} {J : Nat → Nat → Int64} {R : Nat → Nat → Option Nat} {G : zG} {k p : Nat} {rg : Nat → Nat} (hR : Rs R) (hS : Sh G) (hk : k ≤ 6) (hp : p < 10) (hrg : ∀ i, i < k → I 68 i = nI (rg i) ∧ rg i < 10) : zRn x d 195 [.ref 51, .int (nI p), .int (nI k)] (I, J, R, G) (some (.int (bI (ahB rg p k 0 = true)))) (I, J, R, G) := by
  show zOk x d 195 0 [.ref 51, .int (nI p), .int (nI k), zU] [] _ _
  refine k_iconst (v := 0) f195_0 rfl ?_
  refine k_istore (L' := [.ref 51, .int (nI p), .int (nI k), .int (0)]) f195_1 rfl rfl ?_
  exact lp_isAhead hR hS hk hp hrg k 0 (by omega)
