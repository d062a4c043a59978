/-! SOME CLAUSE of a kind holds: the class. -/
def smB (P : Nat → Bool) : Nat → Nat → Bool
  | _, 0 => false
  | i, m + 1 => P i || smB P (i + 1) m
theorem smB_t {P : Nat → Bool} {i m : Nat} (h : P i = true) : smB P i (m + 1) = true := by simp [smB, h]
theorem smB_f {P : Nat → Bool} {i m : Nat} (h : P i = false) : smB P i (m + 1) = smB P (i + 1) m := by simp [smB, h]
theorem lp_some {x : Nat × (Nat → Int32)} {d : Nat} {I : Nat → Nat → Int32} {R : Nat → Nat → Option Nat} {G : zG} {r a b c n k : Nat} {w : Nat → Int64} {kind : Int32} {e : Nat → Nat} {P : Nat → Bool} (hR : Rs R) (hS : Sh G) (hru : RuS R G r a b c n k) (he : ∀ i, i < k → e i ≤ e (i + 1) ∧ e (i + 1) ≤ n ∧ I c i = nI (e (i + 1))) (hP : ∀ i, i < k → ∀ s1, (P i = true ↔ I b i = kind ∧ clsT (ruC w (I a) (e i) (e (i + 1) - e i) (s1, 0)))) : ∀ (m i : Nat) (J : Nat → Nat → Int64), i + m = k → (∀ j, 1 ≤ j → j ≤ 9 → J 40 j = w (j - 1)) → zOk x (d + 2) 22 5 [.ref r, .int (kind), .ref 39, .int (nI (e i)), .int (nI i)] [] (I, J, R, G) (fun v mm => v = some (.int (bI (smB P i m = true))) ∧ ∃ J', mm = (I, J', R, G) ∧ ∀ p, p ≠ 41 → J' p = J p) := by
  have hn4 : n ≤ 400 := hru.2.2.2.2.2.2.2.2.2.2.2.1
  have hk12 : k ≤ 12 := hru.2.2.2.2.2.2.2.2.2.2.2.2
  intro m
  induction m with
  | zero =>
    intro i J hi hw
    refine k_iload f22_5 rfl ?_
    refine k_aload f22_7 rfl ?_
    refine k_getr (q := b) f22_8 hru.2.1 rfl hru.2.2.2.1 ?_
    refine k_alen (v := nI k) f22_11 hru.2.2.2.2.2.2.1 rfl rfl ?_
    refine k_ic_ge f22_12 (fun _ => ?_) (fun h_ => absurd (nI_le (by omega) (by omega)) h_)
    refine k_iconst (v := 0) f22_71 rfl ?_
    exact k_iret f22_72 (by decide) ⟨bI_f (by simp [smB]), J, rfl, fun _ _ => rfl⟩
  | succ m ih =>
    intro i J hi hw
    have hin : i < k := by omega
    have hei := he i hin
    refine k_iload f22_5 rfl ?_
    refine k_aload f22_7 rfl ?_
    refine k_getr (q := b) f22_8 hru.2.1 rfl hru.2.2.2.1 ?_
    refine k_alen (v := nI k) f22_11 hru.2.2.2.2.2.2.1 rfl rfl ?_
    refine k_ic_ge f22_12 (fun h_ => absurd h_ (nI_ge hin (by omega))) (fun _ => ?_)
    refine k_iload f22_15 rfl ?_
    refine k_aload f22_17 rfl ?_
    refine k_getr (q := c) f22_18 hru.2.1 rfl hru.2.2.2.2.1 ?_
    refine k_alen (v := nI k) f22_21 hru.2.2.2.2.2.2.2.1 rfl rfl ?_
    refine k_ic_ge f22_22 (fun h_ => absurd h_ (nI_ge hin (by omega))) (fun _ => ?_)
    refine k_aload f22_25 rfl ?_
    refine k_getr (q := b) f22_26 hru.2.1 rfl hru.2.2.2.1 ?_
    refine k_iload f22_29 rfl ?_
    refine k_ia (k := i) (w := I b i) f22_31 hru.2.2.2.2.2.2.1 rfl (by omega) (by omega) rfl ?_
    refine k_iload f22_32 rfl ?_
    refine k_ic_ne f22_33 (fun g0 => ?_) (fun g0 => ?_)
    · refine k_aload f22_57 rfl ?_
      refine k_getr (q := c) f22_58 hru.2.1 rfl hru.2.2.2.2.1 ?_
      refine k_iload f22_61 rfl ?_
      refine k_ia (k := i) (w := nI (e (i + 1))) f22_63 hru.2.2.2.2.2.2.2.1 rfl (by omega) (by omega) hei.2.2 ?_
      refine k_istore (L' := [.ref r, .int (kind), .ref 39, .int (nI (e (i + 1))), .int (nI i)]) f22_64 rfl rfl ?_
      refine k_iinc (w := nI (i + 1)) (L' := [.ref r, .int (kind), .ref 39, .int (nI (e (i + 1))), .int (nI (i + 1))]) f22_65 rfl (nI_1 i) rfl rfl ?_
      refine k_goto f22_68 ?_
      have hPf : P i = false := Bool.eq_false_iff.mpr fun q => (fun q => g0 q.1) ((hP i hin (J 41)).mp q)
      rw [smB_f hPf]
      exact ih (i + 1) J (by omega) hw
    · refine k_aload f22_36 rfl ?_
      refine k_aload f22_37 rfl ?_
      refine k_getr (q := a) f22_38 hru.2.1 rfl hru.2.2.1 ?_
      refine k_iload f22_41 rfl ?_
      refine k_aload f22_42 rfl ?_
      refine k_getr (q := c) f22_43 hru.2.1 rfl hru.2.2.2.2.1 ?_
      refine k_iload f22_46 rfl ?_
      refine k_ia (k := i) (w := nI (e (i + 1))) f22_48 hru.2.2.2.2.2.2.2.1 rfl (by omega) (by omega) hei.2.2 ?_
      refine k_callv (as := [.int (nI (e (i + 1))), .int (nI (e i)), .ref a]) (rest := []) f22_49 hS.o39 rfl rfl rfl rfl (s_holds (f := e i) (t := e (i + 1)) (w := w) hR hS hru.2.2.2.2.2.1 hei.2.1 hn4 hei.1 hw) ?_
      rintro _ _ ⟨rfl, J1, rfl, hJ1⟩
      refine k_beq f22_52 (fun g1 => ?_) (fun g1 => ?_)
      · refine k_aload f22_57 rfl ?_
        refine k_getr (q := c) f22_58 hru.2.1 rfl hru.2.2.2.2.1 ?_
        refine k_iload f22_61 rfl ?_
        refine k_ia (k := i) (w := nI (e (i + 1))) f22_63 hru.2.2.2.2.2.2.2.1 rfl (by omega) (by omega) hei.2.2 ?_
        refine k_istore (L' := [.ref r, .int (kind), .ref 39, .int (nI (e (i + 1))), .int (nI i)]) f22_64 rfl rfl ?_
        refine k_iinc (w := nI (i + 1)) (L' := [.ref r, .int (kind), .ref 39, .int (nI (e (i + 1))), .int (nI (i + 1))]) f22_65 rfl (nI_1 i) rfl rfl ?_
        refine k_goto f22_68 ?_
        have hPf : P i = false := Bool.eq_false_iff.mpr fun q => (fun q => g1 q.2) ((hP i hin (J 41)).mp q)
        rw [smB_f hPf]
        refine zOk.imp (ih (i + 1) J1 (by omega) (fun j h1 h2 => by rw [hJ1 40 (by decide)]; exact hw j h1 h2)) (fun v mm hh => ?_)
        obtain ⟨h1, J', h2, h3⟩ := hh
        exact ⟨h1, J', h2, fun p hp => (h3 p hp).trans (hJ1 p hp)⟩
      · refine k_iconst (v := 1) f22_55 rfl ?_
        exact k_iret f22_56 (by decide) ⟨bI_t (smB_t ((hP i hin (J 41)).mpr ⟨(Classical.not_not.mp g0), g1⟩)), J1, rfl, hJ1⟩
