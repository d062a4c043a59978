/-! A TOWN's clauses, in the reference. -/
def TwR (I : Nat → Nat → Int32) (s : TS) : Prop :=
  I 51 7 = nI s.1 ∧ I 51 8 = (if s.2.1 = 0 then -1 else nI s.2.1) ∧ I 51 9 = nI s.2.2.1.1 ∧ I 51 10 = nI s.2.2.2.1.1 ∧ I 51 16 = 6 ∧ I 51 19 = nI s.2.2.2.2 ∧
  (∀ i, i < s.2.2.1.1 → I 57 (3 * i) = nI (s.2.2.1.2 i).1 ∧ I 57 (3 * i + 1) = nI (s.2.2.1.2 i).2.1 ∧ I 57 (3 * i + 2) = nI (s.2.2.1.2 i).2.2) ∧
  (∀ i, i < s.2.2.2.1.1 → I 58 (3 * i) = nI (s.2.2.2.1.2 i).1 ∧ I 58 (3 * i + 1) = nI (s.2.2.2.1.2 i).2.1 ∧ I 58 (3 * i + 2) = nI (s.2.2.2.1.2 i).2.2)
theorem TwR.keep {I I' : Nat → Nat → Int32} {s : TS} (h : TwR I s) (e : ∀ p k, (p = 51 ∧ 7 ≤ k ∧ k ≤ 19 ∧ ¬ (13 ≤ k ∧ k ≤ 15)) ∨ (p = 57 ∧ k < 3 * s.2.2.1.1) ∨ (p = 58 ∧ k < 3 * s.2.2.2.1.1) → I' p k = I p k) : TwR I' s := by
  obtain ⟨a1, a2, a3, a4, a5, a6, a7, a8⟩ := h
  refine ⟨(e _ _ (by omega)).trans a1, (e _ _ (by omega)).trans a2, (e _ _ (by omega)).trans a3, (e _ _ (by omega)).trans a4, (e _ _ (by omega)).trans a5, (e _ _ (by omega)).trans a6, fun i hi => ?_, fun i hi => ?_⟩
  · obtain ⟨x1, x2, x3⟩ := a7 i hi
    exact ⟨(e _ _ (by omega)).trans x1, (e _ _ (by omega)).trans x2, (e _ _ (by omega)).trans x3⟩
  · obtain ⟨x1, x2, x3⟩ := a8 i hi
    exact ⟨(e _ _ (by omega)).trans x1, (e _ _ (by omega)).trans x2, (e _ _ (by omega)).trans x3⟩
theorem TwR.lx {I I' : Nat → Nat → Int32} {s : TS} (h : TwR I s) (e : LX I I') : TwR I' s := h.keep fun p k _ => e p k (by omega)
def FQ (I I' : Nat → Nat → Int32) : Prop := ∀ p k, ¬ (p = 51 ∧ 7 ≤ k ∧ k ≤ 19 ∧ k ≠ 16) → p ≠ 57 → p ≠ 58 → I' p k = I p k
theorem FQ.rfl {I : Nat → Nat → Int32} : FQ I I := fun _ _ _ _ _ => Eq.refl _
theorem FQ.trans {I I1 I2 : Nat → Nat → Int32} (h1 : FQ I I1) (h2 : FQ I1 I2) : FQ I I2 := fun p k a b c => (h2 p k a b c).trans (h1 p k a b c)
theorem LX.fq {I I' : Nat → Nat → Int32} (h : LX I I') : FQ I I' := fun p k a _ _ => h p k (by omega)
theorem FQ.put {q j : Nat} {v : Int32} {I I' : Nat → Nat → Int32} (h : FQ I I') (hq : (q = 51 ∧ 7 ≤ j ∧ j ≤ 19 ∧ j ≠ 16) ∨ q = 57 ∨ q = 58) : FQ I (z_u I' q j v) := fun p k a b c => (z_u_no _ _ (by omega)).trans (h p k a b c)
theorem FQ.tp {n : Nat} {I I' : Nat → Nat → Int32} {b : Nat → Nat} (h : FQ I I') (t : TP I b n) : TP I' b n := t.keep (fun k => h 10 k (by omega) (by omega) (by omega)) (fun k => h 52 k (by omega) (by omega) (by omega))
def ClR (I : Nat → Nat → Int32) (n : Nat) (v : Option Value) : Sum Nat (TS × Nat) → Prop
  | .inl e => v = some (.int 0) ∧ I 51 14 = nI e
  | .inr z => v = some (.int 1) ∧ RX I n z.2 ∧ TwR I z.1
theorem RX.put {I : Nat → Nat → Int32} {n p q j : Nat} {v : Int32} (h : RX I n p) (hq : ¬ (q = 51 ∧ (j = 13 ∨ j = 14 ∨ j = 1))) : RX (z_u I q j v) n p := ⟨(z_u_no _ _ (by omega)).trans h.1, h.2.1, (z_u_no _ _ (by omega)).trans h.2.2.1, (z_u_no _ _ (by omega)).trans h.2.2.2⟩
theorem TP.put {I : Nat → Nat → Int32} {b : Nat → Nat} {n q j : Nat} {v : Int32} (h : TP I b n) (h1 : q ≠ 10) (h2 : q ≠ 52) : TP (z_u I q j v) b n := h.keep (fun k => z_u_p _ _ _ _ (by omega)) (fun k => z_u_p _ _ _ _ (by omega))
theorem q_people {x : Nat × (Nat → Int32)} {d : Nat} {I : Nat → Nat → Int32} {J : Nat → Nat → Int64} {R : Nat → Nat → Option Nat} {G : zG} {b : Nat → Nat} {n P y c m ln q : Nat} {cf mf : Nat → Nat × Nat × Nat} (hR : Rs R) (hS : Sh G) (hT : TP I b n) (hx : RX I n q) (hw : TwR I (P, y, (c, cf), (m, mf), ln + 1)) (hP : P ≤ 10) : zOk x (d + 2) 138 0 [.ref 51, .int (nI q)] [] (I, J, R, G) (fun v mm => ∃ I', mm = (I', J, R, G) ∧ FQ I I' ∧ ClR I' n v (if 0 < P then .inl (1 + 8 * q + 4) else bdT b n 1 (P, y, (c, cf), (m, mf), ln) (wl b n q))) := by
  have hq := hx.2.1
  have h400 := hT.1
  have e7 : I 51 7 = nI P := hw.1
  have e8 : I 51 8 = (if y = 0 then -1 else nI y) := hw.2.1
  have e9 : I 51 9 = nI c := hw.2.2.1
  have e10 : I 51 10 = nI m := hw.2.2.2.1
  by_cases hc : 0 < P
  · refine k_aload f138_0 rfl ?_
    refine k_gI (w := nI P) f138_1 hS.o51 rfl e7 ?_
    refine k_if_le f138_4 (fun h_ => absurd h_ (nI_ge (a := 0) hc (by omega))) (fun _ => ?_)
    refine k_aload f138_7 rfl ?_
    refine k_iconst (v := 4) f138_8 rfl ?_
    refine k_iload f138_9 rfl ?_
    refine e_v (as := [.int (nI q), .int (4)]) (rest := []) f138_10 hS.o51 rfl rfl rfl (s_fails (w := 4) (a := q) hS hx.2.2.1) ?_
    exact k_iret f138_13 (by decide) ⟨_, rfl, FQ.rfl.put (by omega), by rw [if_pos hc]; exact ⟨rfl, z_u_same _ _ _ _⟩⟩
  · rw [if_neg hc]
    show zOk _ _ _ _ _ _ _ (fun v mm => ∃ I', mm = (I', J, R, G) ∧ FQ I I' ∧ ClR I' n v (bdS (nmQ b n 2 10 (bk b n (wl b n q))) _))
    cases h1 : nmQ b n 2 10 (bk b n (wl b n q)) with
    | inl e =>
      refine k_aload f138_0 rfl ?_
      refine k_gI (w := nI P) f138_1 hS.o51 rfl e7 ?_
      refine k_if_le f138_4 (fun _ => ?_) (fun h_ => absurd (nI_le (b := 0) (by omega) (by omega)) h_)
      refine k_aload f138_14 rfl ?_
      refine k_callv (as := []) (rest := []) f138_15 hS.o51 rfl rfl rfl rfl (q_pass hR hS hT hx) ?_
      rintro _ _ ⟨rfl, I1, rfl, hx1, hl1⟩
      have hT1 := hl1.tp hT
      have hw1 := hw.lx hl1
      have fq1 := hl1.fq
      refine k_aload f138_18 rfl ?_
      refine k_iconst (v := 2) f138_19 rfl ?_
      refine k_iconst (v := 10) f138_20 rfl ?_
      refine k_callv (as := [.int (10), .int (2)]) (rest := []) f138_22 hS.o51 rfl rfl rfl rfl (q_num (lo := 2) (hi := 10) (p := wl b n q) hR hS hT1 hx1 (by omega) (by omega)) ?_
      rintro v2 _ ⟨I2, rfl, hl2, hv2⟩
      rw [h1] at hv2
      have fq2 := fq1.trans hl2.fq
      have hT2 := hl2.tp hT1
      obtain ⟨rfl, hn2⟩ := hv2
      refine k_if_ne f138_25 (fun h_ => absurd (by decide) h_) (fun _ => ?_)
      refine k_iconst (v := 0) f138_28 rfl ?_
      exact k_iret f138_29 (by decide) ⟨_, rfl, fq2, rfl, hn2⟩
    | inr z1 =>
      refine k_aload f138_0 rfl ?_
      refine k_gI (w := nI P) f138_1 hS.o51 rfl e7 ?_
      refine k_if_le f138_4 (fun _ => ?_) (fun h_ => absurd (nI_le (b := 0) (by omega) (by omega)) h_)
      refine k_aload f138_14 rfl ?_
      refine k_callv (as := []) (rest := []) f138_15 hS.o51 rfl rfl rfl rfl (q_pass hR hS hT hx) ?_
      rintro _ _ ⟨rfl, I1, rfl, hx1, hl1⟩
      have hT1 := hl1.tp hT
      have hw1 := hw.lx hl1
      have fq1 := hl1.fq
      refine k_aload f138_18 rfl ?_
      refine k_iconst (v := 2) f138_19 rfl ?_
      refine k_iconst (v := 10) f138_20 rfl ?_
      refine k_callv (as := [.int (10), .int (2)]) (rest := []) f138_22 hS.o51 rfl rfl rfl rfl (q_num (lo := 2) (hi := 10) (p := wl b n q) hR hS hT1 hx1 (by omega) (by omega)) ?_
      rintro v2 _ ⟨I2, rfl, hl2, hv2⟩
      rw [h1] at hv2
      have fq2 := fq1.trans hl2.fq
      have hT2 := hl2.tp hT1
      obtain ⟨rfl, hx2, hn2⟩ := hv2
      refine k_if_ne f138_25 (fun _ => ?_) (fun h_ => absurd (by decide) h_)
      refine k_aload f138_30 rfl ?_
      refine k_aload f138_31 rfl ?_
      refine k_gI (w := nI z1.1) f138_32 hS.o51 rfl hn2 ?_
      refine k_putI f138_35 hS.o51 rfl ?_
      refine k_iconst (v := 1) f138_38 rfl ?_
      obtain ⟨a1, a2, a3, a4, a5, a6, a7, a8⟩ := hw1.lx hl2
      have zz := (nmq_ok (v := z1.1) (p := z1.2) (bk_le (wl_le hq).2).2 h1).1
      refine k_iret f138_39 (by decide) ⟨_, rfl, fq2.put (by omega), rfl, hx2.put (by omega), (z_u_same _ _ _ _), (z_u_k _ _ _ (by decide)).trans a2, (z_u_k _ _ _ (by decide)).trans a3, (z_u_k _ _ _ (by decide)).trans a4, (z_u_k _ _ _ (by decide)).trans a5, (z_u_k _ _ _ (by decide)).trans a6, fun i hi => ?_, fun i hi => ?_⟩
      · obtain ⟨x1, x2, x3⟩ := a7 i hi
        exact ⟨(z_u_p _ _ _ _ (by decide)).trans x1, (z_u_p _ _ _ _ (by decide)).trans x2, (z_u_p _ _ _ _ (by decide)).trans x3⟩
      · obtain ⟨x1, x2, x3⟩ := a8 i hi
        exact ⟨(z_u_p _ _ _ _ (by decide)).trans x1, (z_u_p _ _ _ _ (by decide)).trans x2, (z_u_p _ _ _ _ (by decide)).trans x3⟩
theorem q_year {x : Nat × (Nat → Int32)} {d : Nat} {I : Nat → Nat → Int32} {J : Nat → Nat → Int64} {R : Nat → Nat → Option Nat} {G : zG} {b : Nat → Nat} {n P y c m ln q : Nat} {cf mf : Nat → Nat × Nat × Nat} (hR : Rs R) (hS : Sh G) (hT : TP I b n) (hx : RX I n q) (hw : TwR I (P, y, (c, cf), (m, mf), ln + 1)) (hy : y ≤ 999) : zOk x (d + 2) 139 0 [.ref 51, .int (nI q)] [] (I, J, R, G) (fun v mm => ∃ I', mm = (I', J, R, G) ∧ FQ I I' ∧ ClR I' n v (if 0 < y then .inl (1 + 8 * q + 4) else bdT b n 2 (P, y, (c, cf), (m, mf), ln) (wl b n q))) := by
  have hq := hx.2.1
  have h400 := hT.1
  have e7 : I 51 7 = nI P := hw.1
  have e8 : I 51 8 = (if y = 0 then -1 else nI y) := hw.2.1
  have e9 : I 51 9 = nI c := hw.2.2.1
  have e10 : I 51 10 = nI m := hw.2.2.2.1
  by_cases hc : 0 < y
  · refine k_aload f139_0 rfl ?_
    refine k_gI (w := nI y) f139_1 hS.o51 rfl (e8.trans (if_neg (show ¬ y = 0 by omega))) ?_
    refine k_if_lt f139_4 (fun h_ => absurd h_ ((fun z => absurd ((nI_ltI (b := 0) (by omega) (by omega)).mp z) (by omega)))) (fun _ => ?_)
    refine k_aload f139_7 rfl ?_
    refine k_iconst (v := 4) f139_8 rfl ?_
    refine k_iload f139_9 rfl ?_
    refine e_v (as := [.int (nI q), .int (4)]) (rest := []) f139_10 hS.o51 rfl rfl rfl (s_fails (w := 4) (a := q) hS hx.2.2.1) ?_
    exact k_iret f139_13 (by decide) ⟨_, rfl, FQ.rfl.put (by omega), by rw [if_pos hc]; exact ⟨rfl, z_u_same _ _ _ _⟩⟩
  · rw [if_neg hc]
    show zOk _ _ _ _ _ _ _ (fun v mm => ∃ I', mm = (I', J, R, G) ∧ FQ I I' ∧ ClR I' n v (bdS (nmQ b n 1 999 (bk b n (wl b n q))) _))
    cases h1 : nmQ b n 1 999 (bk b n (wl b n q)) with
    | inl e =>
      refine k_aload f139_0 rfl ?_
      refine k_gI (w := (-1)) f139_1 hS.o51 rfl (e8.trans (if_pos (show y = 0 by omega))) ?_
      refine k_if_lt f139_4 (fun _ => ?_) (fun h_ => absurd (by decide) h_)
      refine k_aload f139_14 rfl ?_
      refine k_callv (as := []) (rest := []) f139_15 hS.o51 rfl rfl rfl rfl (q_pass hR hS hT hx) ?_
      rintro _ _ ⟨rfl, I1, rfl, hx1, hl1⟩
      have hT1 := hl1.tp hT
      have hw1 := hw.lx hl1
      have fq1 := hl1.fq
      refine k_aload f139_18 rfl ?_
      refine k_iconst (v := 1) f139_19 rfl ?_
      refine k_iconst (v := 999) f139_20 rfl ?_
      refine k_callv (as := [.int (999), .int (1)]) (rest := []) f139_23 hS.o51 rfl rfl rfl rfl (q_num (lo := 1) (hi := 999) (p := wl b n q) hR hS hT1 hx1 (by omega) (by omega)) ?_
      rintro v2 _ ⟨I2, rfl, hl2, hv2⟩
      rw [h1] at hv2
      have fq2 := fq1.trans hl2.fq
      have hT2 := hl2.tp hT1
      obtain ⟨rfl, hn2⟩ := hv2
      refine k_if_ne f139_26 (fun h_ => absurd (by decide) h_) (fun _ => ?_)
      refine k_iconst (v := 0) f139_29 rfl ?_
      exact k_iret f139_30 (by decide) ⟨_, rfl, fq2, rfl, hn2⟩
    | inr z1 =>
      refine k_aload f139_0 rfl ?_
      refine k_gI (w := (-1)) f139_1 hS.o51 rfl (e8.trans (if_pos (show y = 0 by omega))) ?_
      refine k_if_lt f139_4 (fun _ => ?_) (fun h_ => absurd (by decide) h_)
      refine k_aload f139_14 rfl ?_
      refine k_callv (as := []) (rest := []) f139_15 hS.o51 rfl rfl rfl rfl (q_pass hR hS hT hx) ?_
      rintro _ _ ⟨rfl, I1, rfl, hx1, hl1⟩
      have hT1 := hl1.tp hT
      have hw1 := hw.lx hl1
      have fq1 := hl1.fq
      refine k_aload f139_18 rfl ?_
      refine k_iconst (v := 1) f139_19 rfl ?_
      refine k_iconst (v := 999) f139_20 rfl ?_
      refine k_callv (as := [.int (999), .int (1)]) (rest := []) f139_23 hS.o51 rfl rfl rfl rfl (q_num (lo := 1) (hi := 999) (p := wl b n q) hR hS hT1 hx1 (by omega) (by omega)) ?_
      rintro v2 _ ⟨I2, rfl, hl2, hv2⟩
      rw [h1] at hv2
      have fq2 := fq1.trans hl2.fq
      have hT2 := hl2.tp hT1
      obtain ⟨rfl, hx2, hn2⟩ := hv2
      refine k_if_ne f139_26 (fun _ => ?_) (fun h_ => absurd (by decide) h_)
      refine k_aload f139_31 rfl ?_
      refine k_aload f139_32 rfl ?_
      refine k_gI (w := nI z1.1) f139_33 hS.o51 rfl hn2 ?_
      refine k_putI f139_36 hS.o51 rfl ?_
      refine k_iconst (v := 1) f139_39 rfl ?_
      obtain ⟨a1, a2, a3, a4, a5, a6, a7, a8⟩ := hw1.lx hl2
      have zz := (nmq_ok (v := z1.1) (p := z1.2) (bk_le (wl_le hq).2).2 h1).1
      refine k_iret f139_40 (by decide) ⟨_, rfl, fq2.put (by omega), rfl, hx2.put (by omega), (z_u_k _ _ _ (by decide)).trans a1, (z_u_same _ _ _ _).trans (if_neg (show ¬ z1.1 = 0 by omega)).symm, (z_u_k _ _ _ (by decide)).trans a3, (z_u_k _ _ _ (by decide)).trans a4, (z_u_k _ _ _ (by decide)).trans a5, (z_u_k _ _ _ (by decide)).trans a6, fun i hi => ?_, fun i hi => ?_⟩
      · obtain ⟨x1, x2, x3⟩ := a7 i hi
        exact ⟨(z_u_p _ _ _ _ (by decide)).trans x1, (z_u_p _ _ _ _ (by decide)).trans x2, (z_u_p _ _ _ _ (by decide)).trans x3⟩
      · obtain ⟨x1, x2, x3⟩ := a8 i hi
        exact ⟨(z_u_p _ _ _ _ (by decide)).trans x1, (z_u_p _ _ _ _ (by decide)).trans x2, (z_u_p _ _ _ _ (by decide)).trans x3⟩
