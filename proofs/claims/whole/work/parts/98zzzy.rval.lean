/-! RULES, read in the reference: values. -/
def FDt (t : Nat) (I I' : Nat → Nat → Int32) : Prop := ∀ p k, ¬ (p = 51 ∧ 13 ≤ k ∧ k ≤ 17 ∧ k ≠ 16) → ¬ (p = 54 ∧ k = t) → ¬ (p = 53 ∧ 400 * t ≤ k ∧ k < 400 * t + 400) → I' p k = I p k
theorem FDt.rfl {t : Nat} {I : Nat → Nat → Int32} : FDt t I I := fun _ _ _ _ _ => Eq.refl _
theorem FDt.trans {t : Nat} {I I1 I2 : Nat → Nat → Int32} (h1 : FDt t I I1) (h2 : FDt t I1 I2) : FDt t I I2 := fun p k a c e => (h2 p k a c e).trans (h1 p k a c e)
theorem LX.fd {t : Nat} {I I' : Nat → Nat → Int32} (h : LX I I') : FDt t I I' := fun p k a _ _ => h p k (fun z => a ⟨z.1, z.2.1, by omega, by omega⟩)
theorem FDt.put {t q j : Nat} {v : Int32} {I I' : Nat → Nat → Int32} (h : FDt t I I') (hq : (q = 51 ∧ 13 ≤ j ∧ j ≤ 17 ∧ j ≠ 16) ∨ (q = 54 ∧ j = t) ∨ (q = 53 ∧ 400 * t ≤ j ∧ j < 400 * t + 400)) : FDt t I (z_u I' q j v) := fun p k a c e => (z_u_no _ _ (by rintro ⟨rfl, rfl⟩; rcases hq with g | g | g; exact a g; exact c g; exact e g)).trans (h p k a c e)
theorem FDt.tp {t n : Nat} {I I' : Nat → Nat → Int32} {b : Nat → Nat} (h : FDt t I I') (g : TP I b n) : TP I' b n := g.keep (fun k => h 10 k (fun z => absurd z.1 (by decide)) (fun z => absurd z.1 (by decide)) (fun z => absurd z.1 (by decide))) (fun k => h 52 k (fun z => absurd z.1 (by decide)) (fun z => absurd z.1 (by decide)) (fun z => absurd z.1 (by decide)))
/-- the reference's reader: text t, m parts, L entries -/
def RT (I : Nat → Nat → Int32) (t m L : Nat) : Prop := I 51 16 = nI t ∧ I 54 t = nI L ∧ I 51 17 = nI m ∧ m ≤ 60
theorem RT.lx {I I' : Nat → Nat → Int32} {t m L : Nat} (h : RT I t m L) (hl : LX I I') : RT I' t m L := ⟨(hl 51 16 (by omega)).trans h.1, (hl 54 t (by omega)).trans h.2.1, (hl 51 17 (by omega)).trans h.2.2.1, h.2.2.2⟩
theorem RT.mk {I : Nat → Nat → Int32} {t m L : Nat} (h : RT I t m L) (hm : m < 60) : RT (z_u I 51 17 (nI (m + 1))) t (m + 1) L := ⟨(z_u_k _ _ _ (by decide)).trans h.1, (z_u_p _ _ _ _ (by decide)).trans h.2.1, z_u_same _ _ _ _, hm⟩
def RD (I : Nat → Nat → Int32) (b : Nat → Nat) (n t p m L : Nat) : Prop := (∃ q, RX I n q ∧ bk b n q = bk b n p) ∧ RT I t m L
def DA (I I' : Nat → Nat → Int32) (t L : Nat) (o : List It) : Prop := (∀ i, i < L → I' 53 (400 * t + i) = I 53 (400 * t + i)) ∧ ∀ i, i < o.length → I' 53 (400 * t + L + i) = eD (o.getD i (0, 0))
theorem DA.nil {I I' : Nat → Nat → Int32} {t L : Nat} (h : ∀ i, I' 53 i = I 53 i) : DA I I' t L [] := ⟨fun i _ => h _, fun i hi => absurd hi (Nat.not_lt_zero _)⟩
theorem DA.l {I I1 I2 : Nat → Nat → Int32} {t L : Nat} {o : List It} (h : ∀ i, I1 53 i = I 53 i) (h2 : DA I1 I2 t L o) : DA I I2 t L o := ⟨fun i hi => (h2.1 i hi).trans (h _), h2.2⟩
theorem DA.r {I I1 I2 : Nat → Nat → Int32} {t L : Nat} {o : List It} (h2 : DA I I1 t L o) (h : ∀ i, I2 53 i = I1 53 i) : DA I I2 t L o := ⟨fun i hi => (h _).trans (h2.1 i hi), fun i hi => (h _).trans (h2.2 i hi)⟩
theorem DA.app {I I1 I2 : Nat → Nat → Int32} {t L : Nat} {o1 o2 : List It} (h1 : DA I I1 t L o1) (h2 : DA I1 I2 t (L + o1.length) o2) : DA I I2 t L (o1 ++ o2) := by
  refine ⟨fun i hi => (h2.1 i (by omega)).trans (h1.1 i hi), fun i hi => ?_⟩
  by_cases h : i < o1.length
  · rw [getD_l h, Nat.add_assoc]
    exact (h2.1 (L + i) (by omega)).trans (by rw [← Nat.add_assoc]; exact h1.2 i h)
  · obtain ⟨j, rfl⟩ : ∃ j, i = o1.length + j := ⟨i - o1.length, by omega⟩
    rw [getD_r, show 400 * t + L + (o1.length + j) = 400 * t + (L + o1.length) + j by omega]
    rw [List.length_append] at hi
    exact h2.2 j (by omega)
def PM (I I' : Nat → Nat → Int32) (b : Nat → Nat) (n t L : Nat) (v : Option Value) : Sum Nat R3 → Prop
  | .inl e => v = some (.int 0) ∧ I' 51 14 = nI e
  | .inr z => v = some (.int 1) ∧ RD I' b n t z.2.2 z.2.1 (L + z.1.length) ∧ DA I I' t L z.1
theorem PM.app {I I1 I2 : Nat → Nat → Int32} {b : Nat → Nat} {n t L : Nat} {o : List It} {v : Option Value} {r : Sum Nat R3} (h1 : DA I I1 t L o) (h2 : PM I1 I2 b n t (L + o.length) v r) : PM I I2 b n t L v (bdS r fun y => .inr (o ++ y.1, y.2.1, y.2.2)) := by
  cases r with
  | inl e => exact h2
  | inr y =>
    refine ⟨h2.1, ?_, h1.app h2.2.2⟩
    have h := h2.2.1
    show RD I2 b n t y.2.2 y.2.1 (L + (o ++ y.1).length)
    rw [List.length_append, ← Nat.add_assoc]
    exact h
theorem pt_ix (t L : Nat) : nI (400 * t + L) = 400 * nI t + nI L := by
  rw [show (400 : Int32) = nI 400 from rfl, pk_mul, nI_add]
theorem pt_v (a v : Nat) : nI a + 16 * nI v = nI (a + 16 * v) := by
  rw [show (16 : Int32) = nI 16 from rfl, pk_mul, nI_add]
theorem s_puts {x : Nat × (Nat → Int32)} {d : Nat} {I : Nat → Nat → Int32} {J : Nat → Nat → Int64} {R : Nat → Nat → Option Nat} {G : zG} {t a v L : Nat} (hR : Rs R) (hS : Sh G) (h16 : I 51 16 = nI t) (hL : I 54 t = nI L) (ht : t < 6) (hL4 : L < 400) : zRn x d 124 [.ref 51, .int (nI a), .int (nI v)] (I, J, R, G) (none) (z_u (z_u I 53 (400 * t + L) (nI (a + 16 * v))) 54 t (nI (L + 1)), J, R, G) := by
  show zOk x d 124 0 [.ref 51, .int (nI a), .int (nI v)] [] _ _
  refine k_aload f124_0 rfl ?_
  refine k_getr (q := 53) f124_1 hS.o51 rfl hR.r51_3 ?_
  refine k_iconst (v := 400) f124_4 rfl ?_
  refine k_aload f124_7 rfl ?_
  refine k_gI (w := nI t) f124_8 hS.o51 rfl h16 ?_
  refine k_imul f124_11 ?_
  refine k_aload f124_12 rfl ?_
  refine k_getr (q := 54) f124_13 hS.o51 rfl hR.r51_4 ?_
  refine k_aload f124_16 rfl ?_
  refine k_gI (w := nI t) f124_17 hS.o51 rfl h16 ?_
  refine k_ia (k := t) (w := nI L) f124_20 hS.a54 rfl (by omega) (by decide) hL ?_
  refine k_iadd f124_21 ?_
  refine k_iload f124_22 rfl ?_
  refine k_iconst (v := 16) f124_23 rfl ?_
  refine k_iload f124_25 rfl ?_
  refine k_imul f124_26 ?_
  refine k_iadd f124_27 ?_
  rw [pt_v a v]
  refine k_is (k := 400 * t + L) f124_28 hS.a53 (pt_ix t L) (by omega) (by decide) ?_
  refine k_aload f124_29 rfl ?_
  refine k_getr (q := 54) f124_30 hS.o51 rfl hR.r51_4 ?_
  refine k_aload f124_33 rfl ?_
  refine k_gI (w := nI t) f124_34 hS.o51 rfl (Eq.trans (z_u_p _ _ _ _ (by decide)) h16) ?_
  refine k_dup2 f124_37 ?_
  refine k_ia (k := t) (w := nI L) f124_38 hS.a54 rfl (by omega) (by decide) (Eq.trans (z_u_p _ _ _ _ (by decide)) hL) ?_
  refine k_iconst (v := 1) f124_39 rfl ?_
  refine k_iadd f124_40 ?_
  rw [nI_1 L]
  refine k_is (k := t) f124_41 hS.a54 rfl (by omega) (by decide) ?_
  exact k_vret f124_42 ⟨rfl, rfl⟩
theorem q_puts {x : Nat × (Nat → Int32)} {d : Nat} {I : Nat → Nat → Int32} {J : Nat → Nat → Int64} {R : Nat → Nat → Option Nat} {G : zG} {t m L : Nat} {it : It} {a v : Int32} (ha : a = nI it.1) (hv : v = nI it.2) (hR : Rs R) (hS : Sh G) (hr : RT I t m L) (ht : t < 6) (hL4 : L < 400) : zOk x d 124 0 [.ref 51, .int a, .int v] [] (I, J, R, G) (fun v mm => v = none ∧ ∃ I', mm = (I', J, R, G) ∧ FDt t I I' ∧ (∀ p k, p ≠ 53 → p ≠ 54 → I' p k = I p k) ∧ RT I' t m (L + 1) ∧ DA I I' t L [it]) := by
  subst ha; subst hv
  refine zOk.imp (s_puts hR hS hr.1 hr.2.1 ht hL4) ?_
  rintro v _ ⟨rfl, rfl⟩
  refine ⟨rfl, _, rfl, (FDt.rfl.put (by omega)).put (by omega), fun p k h1 h2 => by rw [z_u_p _ _ _ _ h2, z_u_p _ _ _ _ h1], ⟨?_, z_u_same _ _ _ _, ?_, hr.2.2.2⟩, fun i hi => ?_, fun i hi => ?_⟩
  · rw [z_u_p _ _ _ _ (by decide), z_u_p _ _ _ _ (by decide)]; exact hr.1
  · rw [z_u_p _ _ _ _ (by decide), z_u_p _ _ _ _ (by decide)]; exact hr.2.2.1
  · rw [z_u_p _ _ _ _ (by decide), z_u_k _ _ _ (by omega)]
  · have h0 : i = 0 := by simp only [List.length_cons, List.length_nil] at hi; omega
    subst h0
    rw [z_u_p _ _ _ _ (by decide), Nat.add_zero, z_u_same]
    rfl
theorem s_make0 {x : Nat × (Nat → Int32)} {d : Nat} {I : Nat → Nat → Int32} {J : Nat → Nat → Int64} {R : Nat → Nat → Option Nat} {G : zG} {a m : Nat} (hS : Sh G) (h14 : I 51 14 = 0) (h17 : I 51 17 = nI m) (hm : m ≤ 60) (h6 : 60 ≤ m) : zRn x (d + 1) 125 [.ref 51, .int (nI a)] (I, J, R, G) (some (.int (0))) (z_u I 51 14 (nI (1 + 8 * a + 3)), J, R, G) := by
  show zOk x (d + 1) 125 0 [.ref 51, .int (nI a)] [] _ _
  refine k_aload f125_0 rfl ?_
  refine k_gI (w := nI m) f125_1 hS.o51 rfl h17 ?_
  refine k_iconst (v := 60) f125_4 rfl ?_
  refine k_ic_ne f125_6 (fun h_ => absurd (by rw [show m = 60 by omega]; rfl) h_) (fun _ => ?_)
  refine k_aload f125_9 rfl ?_
  refine k_iconst (v := 3) f125_10 rfl ?_
  refine k_iload f125_11 rfl ?_
  refine e_v (as := [.int (nI a), .int (3)]) (rest := []) f125_12 hS.o51 rfl rfl rfl (s_fails (w := 3) (a := a) hS h14) ?_
  exact k_iret f125_15 (by decide) ⟨rfl, rfl⟩
theorem s_make1 {x : Nat × (Nat → Int32)} {d : Nat} {I : Nat → Nat → Int32} {J : Nat → Nat → Int64} {R : Nat → Nat → Option Nat} {G : zG} {a : Int32} {m : Nat} (hS : Sh G) (h17 : I 51 17 = nI m) (h6 : m < 60) : zRn x d 125 [.ref 51, .int (a)] (I, J, R, G) (some (.int (1))) (z_u I 51 17 (nI (m + 1)), J, R, G) := by
  show zOk x d 125 0 [.ref 51, .int (a)] [] _ _
  refine k_aload f125_0 rfl ?_
  refine k_gI (w := nI m) f125_1 hS.o51 rfl h17 ?_
  refine k_iconst (v := 60) f125_4 rfl ?_
  refine k_ic_ne f125_6 (fun _ => ?_) (fun h_ => absurd ((fun z => absurd ((nI_eq (b := 60) (by omega) (by omega)).mp z) (by omega))) h_)
  refine k_aload f125_16 rfl ?_
  refine k_dup f125_17 ?_
  refine k_gI (w := nI m) f125_18 hS.o51 rfl h17 ?_
  refine k_iconst (v := 1) f125_21 rfl ?_
  refine k_iadd f125_22 ?_
  rw [nI_1 m]
  refine k_putI f125_23 hS.o51 rfl ?_
  refine k_iconst (v := 1) f125_26 rfl ?_
  exact k_iret f125_27 (by decide) ⟨rfl, rfl⟩
