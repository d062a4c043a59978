/-! RULES, read in the reference: what is closed behind a fact. -/
def PCl (I I' : Nat → Nat → Int32) (b : Nat → Nat) (n t m L k : Nat) (r : Sum Nat R3) : Prop := ∃ (S' : List Nat) (d' : Nat) (o : List It) (p' k' : Nat) (r' : Sum Nat R3), k' ≤ k ∧ r = apR o r' ∧ MR b n k' false S' d' m p' r' ∧ ¬ (siT b n 93 (.inr (bk b n p')) = true ∧ 91 ∈ S') ∧ RD I' b n t p' m (L + o.length) ∧ DA I I' t L o ∧ SK I' S' d' ∧ L + o.length + S'.length ≤ p' ∧ p' ≤ n
theorem PCl.app {I I1 I' : Nat → Nat → Int32} {b : Nat → Nat} {n t m L k k1 : Nat} {o : List It} {r : Sum Nat R3} (ha : DA I I1 t L o) (h : PCl I1 I' b n t m (L + o.length) k1 r) (hk : k1 ≤ k) : PCl I I' b n t m L k (apR o r) := by
  obtain ⟨S', d', o', p', k', r', h1, h2, h3, h4, h5, h6, h7, h8, h9⟩ := h
  refine ⟨S', d', o ++ o', p', k', r', by omega, by rw [h2, apR_a], h3, h4, ?_, ha.app h6, h7, ?_, h9⟩
  · rw [List.length_append, ← Nat.add_assoc]; exact h5
  · rw [List.length_append]; omega
theorem lp_cls {x : Nat × (Nat → Int32)} {d : Nat} {J : Nat → Nat → Int64} {R : Nat → Nat → Option Nat} {G : zG} {b : Nat → Nat} {n t m : Nat} (hR : Rs R) (hS : Sh G) (ht : t < 6) : ∀ (k : Nat) (S : List Nat) (dd p L : Nat) (r : Sum Nat R3) (I : Nat → Nat → Int32), p ≤ n → L + S.length ≤ p → TP I b n → RD I b n t p m L → SK I S dd → MR b n k false S dd m p r → zOk x (d + 2) 135 5 [.ref 51] [] (I, J, R, G) (fun v mm => v = none ∧ ∃ I', mm = (I', J, R, G) ∧ FT t I I' ∧ PCl I I' b n t m L k (r)) := by
  intro k
  induction k with
  | zero => intro S dd p L r I _ _ _ _ _ hm; exact hm.elim
  | succ k ih =>
    intro S dd p L r I hp hL hT hd hs hm
    have hdk := hd
    obtain ⟨⟨q0, hx, hq0⟩, hr⟩ := hd
    have h400 := hT.1
    have hq := bk_le (b := b) hp
    have hqq := bk_bk (b := b) hp
    have b8 : bk b n p < n → b (bk b n p) < 256 := fun h => (hT.2 _ (by omega)).1
    have s1 := se_si b8 pl93
    have hmk := hm
    rw [MR_B] at hm
    by_cases g1 : siT b n 93 (.inr (bk b n p)) = true
    · by_cases g2 : 91 ∈ S
      · rw [if_pos ⟨g1, g2⟩] at hm
        obtain ⟨r1, rfl, hm⟩ := hm
        have qn := si_lt g1
        obtain ⟨X, hX⟩ := st_91 S dd hs.2.2.2.2 g2
        have sl := st_len (k := 1) S dd
        obtain ⟨o1, eo1⟩ : ∃ o1, o1 = (stQ 1 S dd).2.2 := ⟨_, rfl⟩
        obtain ⟨d1, ed1⟩ : ∃ d1, d1 = (stQ 1 S dd).2.1 := ⟨_, rfl⟩
        rw [hX, ← eo1] at sl
        rw [hX, ← ed1] at hm
        rw [hX, ← eo1, ← ed1]
        have sl : X.length + 1 + o1.length = S.length := sl
        have hm : MR b n k false (stQ 3 X (d1 + 1)).1 (stQ 3 X (d1 + 1)).2.1 m (bk b n p + 1) r1 := hm
        have sl3 := st_len (k := 3) X (d1 + 1)
        show zOk x (d + 2) 135 5 _ [] _ (fun v mm => v = none ∧ ∃ I', mm = (I', J, R, G) ∧ FT t I I' ∧ PCl I I' b n t m L (k + 1) (apR (o1 ++ (stQ 3 X (d1 + 1)).2.2) r1))
        refine k_aload f135_5 rfl ?_
        refine k_callv (as := []) (rest := []) f135_6 hS.o51 rfl rfl rfl rfl (q_see hR hS hT hx) ?_
        rintro _ _ ⟨rfl, I1, rfl, hx1, hl1⟩
        rw [hq0] at hx1
        rw [hq0]
        have hT1 := hl1.tp hT
        have hr1 := hr.lx hl1
        have hs1 := hs.lx hl1
        refine k_iconst (v := 93) f135_9 rfl ?_
        refine k_ic_ne f135_11 (fun h_ => absurd (s1.mpr g1) h_) (fun _ => ?_)
        refine k_aload f135_14 rfl ?_
        refine e_v (as := []) (rest := []) f135_15 hS.o51 rfl rfl rfl (s_isIn hR hS hs1 (by omega)) ?_
        refine k_beq f135_18 (fun h_ => absurd (g2) h_) (fun _ => ?_)
        refine k_aload f135_21 rfl ?_
        refine k_iconst (v := 1) f135_22 rfl ?_
        refine k_callv (as := [.int (1)]) (rest := []) f135_23 hS.o51 rfl rfl rfl rfl (q_settles (d := d) (t := t) (m := m) (k := 1) hR hS ht (by omega) (by omega) S L dd I1 (by omega) hr1 hs1) ?_
        rintro _ _ ⟨rfl, I2, rfl, hp2⟩
        obtain ⟨ft2, fs2, hr2, hs2, ha2⟩ := hp2
        rw [hX, ← ed1] at hs2
        rw [← eo1] at hr2 ha2
        have hx2 := hx1.fs fs2
        have e21 : I2 51 21 = nI (X.length + 1) := hs2.1
        have e18 : I2 51 18 = nI (10 - d1) := hs2.2.1
        have hdd : d1 + 1 ≤ 10 := by have := (hs2.pop (Or.inr rfl)).2.2.1; omega
        have nd : nI (10 - d1) - 1 = nI (10 - (d1 + 1)) := by rw [show 10 - d1 = 10 - (d1 + 1) + 1 by omega]; exact nI_pred _
        refine k_aload f135_26 rfl ?_
        refine k_dup f135_27 ?_
        refine k_gI (w := nI (X.length + 1)) f135_28 hS.o51 rfl e21 ?_
        refine k_iconst (v := 1) f135_31 rfl ?_
        refine k_isub f135_32 ?_
        rw [nI_pred X.length]
        refine k_putI f135_33 hS.o51 rfl ?_
        refine k_aload f135_36 rfl ?_
        refine k_dup f135_37 ?_
        refine k_gI (w := nI (10 - d1)) f135_38 hS.o51 rfl (Eq.trans (z_u_k _ _ _ (by decide)) e18) ?_
        refine k_iconst (v := 1) f135_41 rfl ?_
        refine k_isub f135_42 ?_
        rw [nd]
        refine k_putI f135_43 hS.o51 rfl ?_
        refine k_aload f135_46 rfl ?_
        refine k_dup f135_47 ?_
        refine k_gI (w := nI (bk b n p)) f135_48 hS.o51 rfl (Eq.trans (z_u_k _ _ _ (by decide)) (Eq.trans (z_u_k _ _ _ (by decide)) hx2.1)) ?_
        refine k_iconst (v := 1) f135_51 rfl ?_
        refine k_iadd f135_52 ?_
        rw [nI_1 (bk b n p)]
        refine k_putI f135_53 hS.o51 rfl ?_
        refine k_aload f135_56 rfl ?_
        refine k_iconst (v := 3) f135_57 rfl ?_
        refine k_callv (as := [.int (3)]) (rest := []) f135_58 hS.o51 rfl rfl rfl rfl (q_settles (d := d) (t := t) (m := m) (k := 3) hR hS ht (by omega) (by omega) X (L + o1.length) (d1 + 1) (z_u (z_u (z_u I2 51 21 (nI X.length)) 51 18 (nI (10 - (d1 + 1)))) 51 13 (nI (bk b n p + 1))) (by omega) (((hr2.put (by decide)).put (by decide)).put (by decide)) ((hs2.pop (Or.inr rfl)).put (by decide))) ?_
        rintro _ _ ⟨rfl, I3, rfl, hp3⟩
        obtain ⟨ft3, fs3, hr3, hs3, ha3⟩ := hp3
        have hx3 := ((((hx2.put (q := 51) (j := 21) (v := nI X.length) (by omega)).put (q := 51) (j := 18) (v := nI (10 - (d1 + 1))) (by omega)).at (r := bk b n p + 1) (by omega))).fs fs3
        have ft : FT t I I3 := ((((hl1.ft.trans ft2).put (by omega)).put (by omega)).put (by omega)).trans ft3
        have da : DA I I3 t L (o1 ++ (stQ 3 X (d1 + 1)).2.2) := (ha2.l (fun i => hl1 53 i (by omega))).app (ha3.l (fun i => (z_u_p _ _ _ _ (by decide)).trans ((z_u_p _ _ _ _ (by decide)).trans (z_u_p _ _ _ _ (by decide)))))
        refine k_goto f135_61 ?_
        refine zOk.imp (ih (stQ 3 X (d1 + 1)).1 (stQ 3 X (d1 + 1)).2.1 (bk b n p + 1) (L + (o1 ++ (stQ 3 X (d1 + 1)).2.2).length) r1 I3 (by omega) (by rw [List.length_append]; omega) (ft.tp hT) ⟨⟨_, hx3, rfl⟩, by rw [List.length_append, ← Nat.add_assoc]; exact hr3⟩ hs3 hm) ?_
        rintro v _ ⟨rfl, I', rfl, hf, h⟩
        exact ⟨rfl, I', rfl, ft.trans hf, PCl.app da h (by omega)⟩
      · refine k_aload f135_5 rfl ?_
        refine k_callv (as := []) (rest := []) f135_6 hS.o51 rfl rfl rfl rfl (q_see hR hS hT hx) ?_
        rintro _ _ ⟨rfl, I1, rfl, hx1, hl1⟩
        rw [hq0] at hx1
        rw [hq0]
        have hT1 := hl1.tp hT
        have hr1 := hr.lx hl1
        have hs1 := hs.lx hl1
        refine k_iconst (v := 93) f135_9 rfl ?_
        refine k_ic_ne f135_11 (fun h_ => absurd (s1.mpr g1) h_) (fun _ => ?_)
        refine k_aload f135_14 rfl ?_
        refine e_v (as := []) (rest := []) f135_15 hS.o51 rfl rfl rfl (s_isIn hR hS hs1 (by omega)) ?_
        refine k_beq f135_18 (fun _ => ?_) (fun h_ => (absurd h_ (g2)))
        exact k_vret f135_64 ⟨rfl, _, rfl, hl1.ft, S, dd, [], p, k + 1, r, Nat.le_refl _, apR_n.symm, hmk, fun z => g2 z.2, ⟨⟨_, hx1, hqq⟩, hr1⟩, DA.nil (fun i => hl1 53 i (by omega)), hs1, hL, hp⟩
    · refine k_aload f135_5 rfl ?_
      refine k_callv (as := []) (rest := []) f135_6 hS.o51 rfl rfl rfl rfl (q_see hR hS hT hx) ?_
      rintro _ _ ⟨rfl, I1, rfl, hx1, hl1⟩
      rw [hq0] at hx1
      rw [hq0]
      have hT1 := hl1.tp hT
      have hr1 := hr.lx hl1
      have hs1 := hs.lx hl1
      refine k_iconst (v := 93) f135_9 rfl ?_
      refine k_ic_ne f135_11 (fun _ => ?_) (fun h_ => absurd ((fun z => g1 (s1.mp z))) h_)
      exact k_vret f135_64 ⟨rfl, _, rfl, hl1.ft, S, dd, [], p, k + 1, r, Nat.le_refl _, apR_n.symm, hmk, fun z => g1 z.1, ⟨⟨_, hx1, hqq⟩, hr1⟩, DA.nil (fun i => hl1 53 i (by omega)), hs1, hL, hp⟩
theorem q_closes {x : Nat × (Nat → Int32)} {d : Nat} {I : Nat → Nat → Int32} {J : Nat → Nat → Int64} {R : Nat → Nat → Option Nat} {G : zG} {b : Nat → Nat} {n t m L k dd p : Nat} {S : List Nat} {r : Sum Nat R3} (hR : Rs R) (hS : Sh G) (ht : t < 6) (hp : p ≤ n) (hL : L + S.length ≤ p) (hT : TP I b n) (hd : RD I b n t p m L) (hs : SK I S dd) (hm : MR b n k false (stQ 3 S dd).1 (stQ 3 S dd).2.1 m p r) : zOk x (d + 2) 135 0 [.ref 51] [] (I, J, R, G) (fun v mm => v = none ∧ ∃ I', mm = (I', J, R, G) ∧ FT t I I' ∧ PCl I I' b n t m L k (apR (stQ 3 S dd).2.2 r)) := by
  have sl := st_len (k := 3) S dd
  refine k_aload f135_0 rfl ?_
  refine k_iconst (v := 3) f135_1 rfl ?_
  refine k_callv (as := [.int (3)]) (rest := []) f135_2 hS.o51 rfl rfl rfl rfl (q_settles (d := d) (t := t) (m := m) (k := 3) hR hS ht (by omega) (by omega) S L dd I (by have := hT.1; omega) hd.2 hs) ?_
  rintro _ _ ⟨rfl, I1, rfl, hp1⟩
  obtain ⟨ft1, fs1, hr1, hs1, ha1⟩ := hp1
  refine zOk.imp (lp_cls hR hS ht k (stQ 3 S dd).1 (stQ 3 S dd).2.1 p (L + (stQ 3 S dd).2.2.length) r I1 hp (by omega) (ft1.tp hT) (hd.fs fs1 hr1) hs1 hm) ?_
  rintro v _ ⟨rfl, I', rfl, hf, h⟩
  exact ⟨rfl, I', rfl, ft1.trans hf, PCl.app ha1 h (Nat.le_refl _)⟩
