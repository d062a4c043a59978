/-! A TEST HOLDS: the class's stack. -/
abbrev clsT (q : (Nat → Int64) × Nat) : Prop := 0 < q.2 ∧ ¬ q.1 0 = 0
theorem z_u_f (J : Nat → Nat → Int64) (p k : Nat) (v : Int64) : z_u J p k v p = z_f (J p) k v := funext fun j => by
  simp [z_u, z_f]
theorem wd_ix {e : Int32} (h1 : ¬ e < -9) (h2 : e < 0) : ∃ j, 1 ≤ j ∧ j ≤ 9 ∧ nI j = -e := by
  rw [Int32.lt_iff_toInt_lt] at h1 h2
  have e1 : (-9 : Int32).toInt = -9 := by decide
  have e0 : (0 : Int32).toInt = 0 := by decide
  rw [e1] at h1
  rw [e0] at h2
  refine ⟨(-e.toInt).toNat, by omega, by omega, ?_⟩
  have h : e = -nI ((-e.toInt).toNat) := by
    rw [← Int32.toInt_inj, sb_negT (by omega)]
    omega
  rw [h, Int32.neg_neg, ← h]
theorem t_le {k top : Nat} (hk : k < 2 ^ 31) (ht : top ≤ 64) : nI k ≤ nI top ↔ k ≤ top := nI_leI hk (by omega)
theorem t_el {k top : Nat} (hk : k < 2 ^ 31) (ht : top ≤ 64) : nI top ≤ nI k ↔ top ≤ k := nI_leI (by omega) hk
theorem lp_holds {x : Nat × (Nat → Int32)} {d : Nat} {I : Nat → Nat → Int32} {R : Nat → Nat → Option Nat} {G : zG} {a n t : Nat} {w : Nat → Int64} {v0 : Int32} (hR : Rs R) (hS : Sh G) (ha : za G a 14 n) (htn : t ≤ n) (hn : n ≤ 400) : ∀ (k i top : Nat) (J : Nat → Nat → Int64) (u : Value), i + k = t → top ≤ 64 → (∀ j, 1 ≤ j → j ≤ 9 → J 40 j = w (j - 1)) → zOk x (d + 1) 6 6 [.ref 39, .ref a, .int v0, .int (nI t), .int (nI top), .int (nI i), u] [] (I, J, R, G) (fun v m => v = some (.int (bI (clsT (ruC w (I a) i k (J 41, top))))) ∧ ∃ J', m = (I, J', R, G) ∧ ∀ p, p ≠ 41 → J' p = J p) := by
  intro k
  induction k with
  | zero =>
    intro i top J u hi ht hw
    refine k_iload f6_6 rfl ?_
    refine k_iload f6_8 rfl ?_
    refine k_ic_ge f6_9 (fun _ => ?_) (fun h_ => absurd (nI_le (by omega) (by omega)) h_)
    refine k_iload f6_151 rfl ?_
    refine k_if_le f6_153 (fun g0 => ?_) (fun g0 => ?_)
    · refine k_iconst (v := 0) f6_171 rfl ?_
      exact k_iret f6_172 (by decide) ⟨bI_f fun h => absurd g0 (fun q => absurd ((t_el (k := 0) (by omega) ht).mp q) (Nat.not_le.mpr h.1)), J, rfl, fun _ _ => rfl⟩
    · refine k_aload f6_156 rfl ?_
      refine k_getr (q := 41) f6_157 hS.o39 rfl hR.r39_1 ?_
      refine k_iconst (v := 0) f6_160 rfl ?_
      refine k_la (k := 0) (w := J 41 0) f6_161 hS.a41 rfl (by decide) (by decide) rfl ?_
      refine k_lconst (v := 0) f6_162 rfl ?_
      refine k_lcmp f6_163 ?_
      refine k_if_eq f6_164 (fun g1 => ?_) (fun g1 => ?_)
      · refine k_iconst (v := 0) f6_171 rfl ?_
        exact k_iret f6_172 (by decide) ⟨bI_f fun h => h.2 ((lg_eq _ _).mp g1), J, rfl, fun _ _ => rfl⟩
      · refine k_iconst (v := 1) f6_167 rfl ?_
        refine k_goto f6_168 ?_
        exact k_iret f6_172 (by decide) ⟨bI_t ⟨Nat.pos_of_ne_zero fun q => g0 (by rw [show top = 0 from q]; decide), fun q => g1 ((lg_eq _ _).mpr q)⟩, J, rfl, fun _ _ => rfl⟩
  | succ k ih =>
    intro i top J u hi ht hw
    have hin : i < t := by omega
    refine k_iload f6_6 rfl ?_
    refine k_iload f6_8 rfl ?_
    refine k_ic_ge f6_9 (fun h_ => absurd h_ (nI_ge hin (by omega))) (fun _ => ?_)
    refine k_iload f6_12 rfl ?_
    refine k_aload f6_14 rfl ?_
    refine k_alen (v := nI n) f6_15 ha rfl rfl ?_
    refine k_ic_ge f6_16 (fun h_ => absurd h_ (nI_ge (by omega) (by omega))) (fun _ => ?_)
    refine k_aload f6_19 rfl ?_
    refine k_iload f6_20 rfl ?_
    refine k_ia (k := i) (w := I a i) f6_22 ha rfl (by omega) (by omega) rfl ?_
    refine k_istore (L' := [.ref 39, .ref a, .int (v0), .int (nI t), .int (nI top), .int (nI i), .int (I a i)]) f6_23 rfl rfl ?_
    refine k_iload f6_25 rfl ?_
    refine k_iconst (v := (-9)) f6_27 rfl ?_
    refine k_ic_lt f6_29 (fun g0 => ?_) (fun g0 => ?_)
    · refine k_iload f6_71 rfl ?_
      refine k_iconst (v := (-21)) f6_73 rfl ?_
      refine k_ic_ne f6_75 (fun g1 => ?_) (fun g1 => ?_)
      · refine k_iload f6_106 rfl ?_
        refine k_iconst (v := 1) f6_108 rfl ?_
        refine k_ic_le f6_109 (fun g2 => ?_) (fun g2 => ?_)
        · refine k_iinc (w := nI (i + 1)) (L' := [.ref 39, .ref a, .int (v0), .int (nI t), .int (nI top), .int (nI (i + 1)), .int (I a i)]) f6_145 rfl (nI_1 i) rfl rfl ?_
          refine k_goto f6_148 ?_
          have hq : stC w (I a i) (J 41, top) = (J 41, top) := by
            simp only [stC]
            rw [if_neg (Int32.not_le.mpr g0), if_neg g1, if_neg (Nat.not_lt.mpr ((t_el (k := 1) (by omega) ht).mp g2))]
          show zOk x (d + 1) 6 6 _ [] _ (fun v m => v = some (.int (bI (clsT (ruC w (I a) (i + 1) k (stC w (I a i) (J 41, top)))))) ∧ ∃ J', m = (I, J', R, G) ∧ ∀ p, p ≠ 41 → J' p = J p)
          rw [hq]
          refine zOk.imp (ih (i + 1) top J _ (by omega) (by omega) (fun j h1 h2 => hw j h1 h2)) (fun v m hh => ?_)
          obtain ⟨h1, J', h2, h3⟩ := hh
          exact ⟨h1, J', h2, fun p hp => (h3 p hp).trans (rfl)⟩
        · have ht0 : 1 < top := Nat.lt_of_not_le fun q => g2 ((t_el (k := 1) (by omega) ht).mpr q)
          refine k_iinc (w := (nI top) + (-1)) (L' := [.ref 39, .ref a, .int (v0), .int (nI t), .int ((nI top) + (-1)), .int (nI i), .int (I a i)]) f6_112 rfl rfl rfl rfl ?_
          refine k_aload f6_115 rfl ?_
          refine k_getr (q := 41) f6_116 hS.o39 rfl hR.r39_1 ?_
          refine k_iload f6_119 rfl ?_
          refine k_iconst (v := 1) f6_121 rfl ?_
          refine k_isub f6_122 ?_
          refine k_iload f6_123 rfl ?_
          refine k_aload f6_125 rfl ?_
          refine k_getr (q := 41) f6_126 hS.o39 rfl hR.r39_1 ?_
          refine k_iload f6_129 rfl ?_
          refine k_iconst (v := 1) f6_131 rfl ?_
          refine k_isub f6_132 ?_
          refine k_la (k := top - 2) (w := J 41 (top - 2)) f6_133 hS.a41 (by rw [sb_m1 (by omega)]; exact (pk_sub (a := top - 1) (b := 1) (by omega)).symm) (by omega) (by decide) rfl ?_
          refine k_aload f6_134 rfl ?_
          refine k_getr (q := 41) f6_135 hS.o39 rfl hR.r39_1 ?_
          refine k_iload f6_138 rfl ?_
          refine k_la (k := top - 1) (w := J 41 (top - 1)) f6_140 hS.a41 (sb_m1 (by omega)).symm (by omega) (by decide) rfl ?_
          refine e_s (as := [.long (J 41 (top - 1)), .long (J 41 (top - 2)), .int (I a i)]) (rest := [.int (((nI top) + (-1)) - (1)), .ref 41]) f6_141 rfl rfl rfl (s_joined (I a i) (J 41 (top - 2)) (J 41 (top - 1))) ?_
          refine k_ls (k := top - 2) f6_144 hS.a41 (by rw [sb_m1 (by omega)]; exact (pk_sub (a := top - 1) (b := 1) (by omega)).symm) (by omega) (by decide) ?_
          refine k_iinc (w := nI (i + 1)) (L' := [.ref 39, .ref a, .int (v0), .int (nI t), .int ((nI top) + (-1)), .int (nI (i + 1)), .int (I a i)]) f6_145 rfl (nI_1 i) rfl rfl ?_
          refine k_goto f6_148 ?_
          have hq : stC w (I a i) (J 41, top) = ((z_u J 41 (top - 2) (jnC (I a i) (J 41 (top - 2)) (J 41 (top - 1)))) 41, top - 1) := by
            simp only [stC]
            rw [if_neg (Int32.not_le.mpr g0), if_neg g1, if_pos (Nat.lt_of_not_le fun q => g2 ((t_el (k := 1) (by omega) ht).mpr q)), z_u_f]
          rw [sb_m1 (by omega)]
          show zOk x (d + 1) 6 6 _ [] _ (fun v m => v = some (.int (bI (clsT (ruC w (I a) (i + 1) k (stC w (I a i) (J 41, top)))))) ∧ ∃ J', m = (I, J', R, G) ∧ ∀ p, p ≠ 41 → J' p = J p)
          rw [hq]
          refine zOk.imp (ih (i + 1) (top - 1) (z_u J 41 (top - 2) (jnC (I a i) (J 41 (top - 2)) (J 41 (top - 1)))) _ (by omega) (by omega) (fun j h1 h2 => (z_u_p _ _ _ _ (by decide)).trans (hw j h1 h2))) (fun v m hh => ?_)
          obtain ⟨h1, J', h2, h3⟩ := hh
          exact ⟨h1, J', h2, fun p hp => (h3 p hp).trans (funext fun j => z_u_p _ _ _ _ hp)⟩
      · refine k_iload f6_78 rfl ?_
        refine k_if_le f6_80 (fun g2 => ?_) (fun g2 => ?_)
        · refine k_iinc (w := nI (i + 1)) (L' := [.ref 39, .ref a, .int (v0), .int (nI t), .int (nI top), .int (nI (i + 1)), .int (I a i)]) f6_145 rfl (nI_1 i) rfl rfl ?_
          refine k_goto f6_148 ?_
          have hq : stC w (I a i) (J 41, top) = (J 41, top) := by
            simp only [stC]
            rw [if_neg (Int32.not_le.mpr g0), if_pos (Classical.not_not.mp g1), if_neg (Nat.not_lt.mpr ((t_el (k := 0) (by omega) ht).mp g2))]
          show zOk x (d + 1) 6 6 _ [] _ (fun v m => v = some (.int (bI (clsT (ruC w (I a) (i + 1) k (stC w (I a i) (J 41, top)))))) ∧ ∃ J', m = (I, J', R, G) ∧ ∀ p, p ≠ 41 → J' p = J p)
          rw [hq]
          refine zOk.imp (ih (i + 1) top J _ (by omega) (by omega) (fun j h1 h2 => hw j h1 h2)) (fun v m hh => ?_)
          obtain ⟨h1, J', h2, h3⟩ := hh
          exact ⟨h1, J', h2, fun p hp => (h3 p hp).trans (rfl)⟩
        · have ht0 : 0 < top := Nat.lt_of_not_le fun q => g2 ((t_el (k := 0) (by omega) ht).mpr q)
          refine k_aload f6_83 rfl ?_
          refine k_getr (q := 41) f6_84 hS.o39 rfl hR.r39_1 ?_
          refine k_iload f6_87 rfl ?_
          refine k_iconst (v := 1) f6_89 rfl ?_
          refine k_isub f6_90 ?_
          refine k_lconst (v := 1) f6_91 rfl ?_
          refine k_aload f6_92 rfl ?_
          refine k_getr (q := 41) f6_93 hS.o39 rfl hR.r39_1 ?_
          refine k_iload f6_96 rfl ?_
          refine k_iconst (v := 1) f6_98 rfl ?_
          refine k_isub f6_99 ?_
          refine k_la (k := top - 1) (w := J 41 (top - 1)) f6_100 hS.a41 (pk_sub (b := 1) (by omega)).symm (by omega) (by decide) rfl ?_
          refine k_lsub f6_101 ?_
          refine k_ls (k := top - 1) f6_102 hS.a41 (pk_sub (b := 1) (by omega)).symm (by omega) (by decide) ?_
          refine k_goto f6_103 ?_
          refine k_iinc (w := nI (i + 1)) (L' := [.ref 39, .ref a, .int (v0), .int (nI t), .int (nI top), .int (nI (i + 1)), .int (I a i)]) f6_145 rfl (nI_1 i) rfl rfl ?_
          refine k_goto f6_148 ?_
          have hq : stC w (I a i) (J 41, top) = ((z_u J 41 (top - 1) ((1) - (J 41 (top - 1)))) 41, top) := by
            simp only [stC]
            rw [if_neg (Int32.not_le.mpr g0), if_pos (Classical.not_not.mp g1), if_pos (Nat.lt_of_not_le fun q => g2 ((t_el (k := 0) (by omega) ht).mpr q)), z_u_f]
          show zOk x (d + 1) 6 6 _ [] _ (fun v m => v = some (.int (bI (clsT (ruC w (I a) (i + 1) k (stC w (I a i) (J 41, top)))))) ∧ ∃ J', m = (I, J', R, G) ∧ ∀ p, p ≠ 41 → J' p = J p)
          rw [hq]
          refine zOk.imp (ih (i + 1) top (z_u J 41 (top - 1) ((1) - (J 41 (top - 1)))) _ (by omega) (by omega) (fun j h1 h2 => (z_u_p _ _ _ _ (by decide)).trans (hw j h1 h2))) (fun v m hh => ?_)
          obtain ⟨h1, J', h2, h3⟩ := hh
          exact ⟨h1, J', h2, fun p hp => (h3 p hp).trans (funext fun j => z_u_p _ _ _ _ hp)⟩
    · refine k_iload f6_32 rfl ?_
      refine k_iconst (v := 64) f6_34 rfl ?_
      refine k_ic_ge f6_36 (fun g1 => ?_) (fun g1 => ?_)
      · refine k_iinc (w := nI (i + 1)) (L' := [.ref 39, .ref a, .int (v0), .int (nI t), .int (nI top), .int (nI (i + 1)), .int (I a i)]) f6_145 rfl (nI_1 i) rfl rfl ?_
        refine k_goto f6_148 ?_
        have hq : stC w (I a i) (J 41, top) = (J 41, top) := by
          simp only [stC]
          rw [if_pos (Int32.not_lt.mp g0), if_neg (Nat.not_lt.mpr ((t_le (k := 64) (by omega) ht).mp g1))]
        show zOk x (d + 1) 6 6 _ [] _ (fun v m => v = some (.int (bI (clsT (ruC w (I a) (i + 1) k (stC w (I a i) (J 41, top)))))) ∧ ∃ J', m = (I, J', R, G) ∧ ∀ p, p ≠ 41 → J' p = J p)
        rw [hq]
        refine zOk.imp (ih (i + 1) top J _ (by omega) (by omega) (fun j h1 h2 => hw j h1 h2)) (fun v m hh => ?_)
        obtain ⟨h1, J', h2, h3⟩ := hh
        exact ⟨h1, J', h2, fun p hp => (h3 p hp).trans (rfl)⟩
      · have ht64 : top < 64 := Nat.lt_of_not_le fun q => g1 ((t_le (k := 64) (by omega) ht).mpr q)
        refine k_aload f6_39 rfl ?_
        refine k_getr (q := 41) f6_40 hS.o39 rfl hR.r39_1 ?_
        refine k_iload f6_43 rfl ?_
        refine k_iload f6_45 rfl ?_
        refine k_if_lt f6_47 (fun g2 => ?_) (fun g2 => ?_)
        · refine k_aload f6_56 rfl ?_
          refine k_getr (q := 40) f6_57 hS.o39 rfl hR.r39_0 ?_
          refine k_iload f6_60 rfl ?_
          obtain ⟨j, hj1, hj2, hj⟩ := wd_ix g0 g2
          refine k_ineg f6_62 ?_
          refine k_la (k := j) (w := w (j - 1)) f6_63 hS.a40 hj (by omega) (by decide) (hw j hj1 hj2) ?_
          refine k_ls (k := top) f6_64 hS.a41 rfl (by omega) (by decide) ?_
          refine k_iinc (w := nI (top + 1)) (L' := [.ref 39, .ref a, .int (v0), .int (nI t), .int (nI (top + 1)), .int (nI i), .int (I a i)]) f6_65 rfl (nI_1 top) rfl rfl ?_
          refine k_goto f6_68 ?_
          refine k_iinc (w := nI (i + 1)) (L' := [.ref 39, .ref a, .int (v0), .int (nI t), .int (nI (top + 1)), .int (nI (i + 1)), .int (I a i)]) f6_145 rfl (nI_1 i) rfl rfl ?_
          refine k_goto f6_148 ?_
          have hq : stC w (I a i) (J 41, top) = ((z_u J 41 top (w (j - 1))) 41, top + 1) := by
            simp only [stC]
            rw [if_pos (Int32.not_lt.mp g0), if_pos (Nat.lt_of_not_le fun q => g1 ((t_le (k := 64) (by omega) ht).mpr q)), if_neg (Int32.not_le.mpr g2), ← hj, cl_nI (by omega), z_u_f]
          show zOk x (d + 1) 6 6 _ [] _ (fun v m => v = some (.int (bI (clsT (ruC w (I a) (i + 1) k (stC w (I a i) (J 41, top)))))) ∧ ∃ J', m = (I, J', R, G) ∧ ∀ p, p ≠ 41 → J' p = J p)
          rw [hq]
          refine zOk.imp (ih (i + 1) (top + 1) (z_u J 41 top (w (j - 1))) _ (by omega) (by omega) (fun j h1 h2 => (z_u_p _ _ _ _ (by decide)).trans (hw j h1 h2))) (fun v m hh => ?_)
          obtain ⟨h1, J', h2, h3⟩ := hh
          exact ⟨h1, J', h2, fun p hp => (h3 p hp).trans (funext fun j => z_u_p _ _ _ _ hp)⟩
        · refine k_iload f6_50 rfl ?_
          refine k_i2l f6_52 ?_
          refine k_goto f6_53 ?_
          refine k_ls (k := top) f6_64 hS.a41 rfl (by omega) (by decide) ?_
          refine k_iinc (w := nI (top + 1)) (L' := [.ref 39, .ref a, .int (v0), .int (nI t), .int (nI (top + 1)), .int (nI i), .int (I a i)]) f6_65 rfl (nI_1 top) rfl rfl ?_
          refine k_goto f6_68 ?_
          refine k_iinc (w := nI (i + 1)) (L' := [.ref 39, .ref a, .int (v0), .int (nI t), .int (nI (top + 1)), .int (nI (i + 1)), .int (I a i)]) f6_145 rfl (nI_1 i) rfl rfl ?_
          refine k_goto f6_148 ?_
          have hq : stC w (I a i) (J 41, top) = ((z_u J 41 top ((I a i).toInt64)) 41, top + 1) := by
            simp only [stC]
            rw [if_pos (Int32.not_lt.mp g0), if_pos (Nat.lt_of_not_le fun q => g1 ((t_le (k := 64) (by omega) ht).mpr q)), if_pos (Int32.not_lt.mp g2), z_u_f]
          show zOk x (d + 1) 6 6 _ [] _ (fun v m => v = some (.int (bI (clsT (ruC w (I a) (i + 1) k (stC w (I a i) (J 41, top)))))) ∧ ∃ J', m = (I, J', R, G) ∧ ∀ p, p ≠ 41 → J' p = J p)
          rw [hq]
          refine zOk.imp (ih (i + 1) (top + 1) (z_u J 41 top ((I a i).toInt64)) _ (by omega) (by omega) (fun j h1 h2 => (z_u_p _ _ _ _ (by decide)).trans (hw j h1 h2))) (fun v m hh => ?_)
          obtain ⟨h1, J', h2, h3⟩ := hh
          exact ⟨h1, J', h2, fun p hp => (h3 p hp).trans (funext fun j => z_u_p _ _ _ _ hp)⟩
