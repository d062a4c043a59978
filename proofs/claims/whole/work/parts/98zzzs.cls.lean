/-! RULES, read in the class: parts, signs, values. -/
def FC (I I' : Nat → Nat → Int32) : Prop := ∀ p k, p ≠ 9 → p ≠ 13 → ¬ (p = 12 ∧ (k = 2 ∨ k = 6)) → I' p k = I p k
theorem FC.rfl {I : Nat → Nat → Int32} : FC I I := fun _ _ _ _ _ => Eq.refl _
theorem FC.trans {I I1 I2 : Nat → Nat → Int32} (h1 : FC I I1) (h2 : FC I1 I2) : FC I I2 := fun p k a c e => (h2 p k a c e).trans (h1 p k a c e)
theorem F9.fc {I I' : Nat → Nat → Int32} (h : F9 I I') : FC I I' := fun p k a _ _ => h p k a
theorem FC.put {q j : Nat} {v : Int32} {I I' : Nat → Nat → Int32} (h : FC I I') (hq : q = 13 ∨ (q = 12 ∧ (j = 2 ∨ j = 6))) : FC I (z_u I' q j v) := fun p k a c e => (z_u_no _ _ (by omega)).trans (h p k a c e)
theorem FC.tp {n : Nat} {I I' : Nat → Nat → Int32} {b : Nat → Nat} (h : FC I I') (t : TP I b n) : TP I' b n := t.keep (fun k => h 10 k (by omega) (by omega) (by omega)) (fun k => h 52 k (by omega) (by omega) (by omega))
/-- the reader: the text at t, m parts, s entries -/
def RC (I : Nat → Nat → Int32) (b : Nat → Nat) (n : Nat) (t : Sum Nat Nat) (m s : Nat) : Prop := CX I b n t ∧ I 12 2 = nI s ∧ s ≤ 400 ∧ I 12 6 = nI m ∧ m ≤ 60
theorem RC.f9 {I I' : Nat → Nat → Int32} {b : Nat → Nat} {n m s : Nat} {t t' : Sum Nat Nat} (h : RC I b n t m s) (hf : F9 I I') (ht : CX I' b n t') : RC I' b n t' m s := ⟨ht, (hf 12 2 (by omega)).trans h.2.1, h.2.2.1, (hf 12 6 (by omega)).trans h.2.2.2.1, h.2.2.2.2⟩
/-- what came to the code -/
def CA (I I' : Nat → Nat → Int32) (s : Nat) (o : List It) : Prop := (∀ i, i < s → I' 13 i = I 13 i) ∧ ∀ i, i < o.length → I' 13 (s + i) = eC (o.getD i (0, 0))
theorem CA.nil {I I' : Nat → Nat → Int32} {s : Nat} (h : ∀ i, I' 13 i = I 13 i) : CA I I' s [] := ⟨fun i _ => h i, fun i hi => absurd hi (Nat.not_lt_zero _)⟩
theorem getD_l {a c : List It} {i : Nat} (h : i < a.length) : (a ++ c).getD i (0, 0) = a.getD i (0, 0) := by
  rw [List.getD_eq_getElem?_getD, List.getElem?_append_left h, ← List.getD_eq_getElem?_getD]
theorem getD_r {a c : List It} {i : Nat} : (a ++ c).getD (a.length + i) (0, 0) = c.getD i (0, 0) := by
  rw [List.getD_eq_getElem?_getD, List.getElem?_append_right (by omega), Nat.add_sub_cancel_left, ← List.getD_eq_getElem?_getD]
theorem CA.app {I I1 I2 : Nat → Nat → Int32} {s : Nat} {o1 o2 : List It} (h1 : CA I I1 s o1) (h2 : CA I1 I2 (s + o1.length) o2) : CA I I2 s (o1 ++ o2) := by
  refine ⟨fun i hi => (h2.1 i (by omega)).trans (h1.1 i hi), fun i hi => ?_⟩
  by_cases h : i < o1.length
  · rw [getD_l h]
    exact (h2.1 (s + i) (by omega)).trans (h1.2 i h)
  · obtain ⟨j, rfl⟩ : ∃ j, i = o1.length + j := ⟨i - o1.length, by omega⟩
    rw [getD_r, ← Nat.add_assoc]
    rw [List.length_append] at hi
    exact h2.2 j (by omega)
/-- the end of a reading: broken, or with a list of entries more -/
def PO (I I' : Nat → Nat → Int32) (b : Nat → Nat) (n s : Nat) : Sum Nat R3 → Prop
  | .inl e => ∃ m' s', RC I' b n (.inl e) m' s'
  | .inr z => RC I' b n (.inr (bk b n z.2.2)) z.2.1 (s + z.1.length) ∧ CA I I' s z.1
theorem PO.app {I I1 I2 : Nat → Nat → Int32} {b : Nat → Nat} {n s : Nat} {o : List It} {r : Sum Nat R3} (h1 : CA I I1 s o) (h2 : PO I1 I2 b n (s + o.length) r) : PO I I2 b n s (bdS r fun y => .inr (o ++ y.1, y.2.1, y.2.2)) := by
  cases r with
  | inl e => exact h2
  | inr y =>
    refine ⟨?_, h1.app h2.2⟩
    have h := h2.1
    show RC I2 b n (.inr (bk b n y.2.2)) y.2.1 (s + (o ++ y.1).length)
    rw [List.length_append, ← Nat.add_assoc]
    exact h
theorem s_emit {x : Nat × (Nat → Int32)} {d : Nat} {I : Nat → Nat → Int32} {J : Nat → Nat → Int64} {R : Nat → Nat → Option Nat} {G : zG} {s : Nat} {w : Int32} (hR : Rs R) (hS : Sh G) (h2 : I 12 2 = nI s) (hs : s < 400) : zRn x d 33 [.ref 12, .int (w)] (I, J, R, G) (none) (z_u (z_u I 13 s w) 12 2 (nI (s + 1)), J, R, G) := by
  show zOk x d 33 0 [.ref 12, .int (w)] [] _ _
  refine k_aload f33_0 rfl ?_
  refine k_gI (w := nI s) f33_1 hS.o12 rfl h2 ?_
  refine k_aload f33_4 rfl ?_
  refine k_getr (q := 13) f33_5 hS.o12 rfl hR.r12_1 ?_
  refine k_alen (v := nI 400) f33_8 hS.a13 rfl rfl ?_
  refine k_ic_ge f33_9 (fun h_ => absurd h_ (nI_ge hs (by omega))) (fun _ => ?_)
  refine k_aload f33_12 rfl ?_
  refine k_getr (q := 13) f33_13 hS.o12 rfl hR.r12_1 ?_
  refine k_aload f33_16 rfl ?_
  refine k_gI (w := nI s) f33_17 hS.o12 rfl h2 ?_
  refine k_iload f33_20 rfl ?_
  refine k_is (k := s) f33_21 hS.a13 rfl (by omega) (by decide) ?_
  refine k_aload f33_22 rfl ?_
  refine k_dup f33_23 ?_
  refine k_gI (w := nI s) f33_24 hS.o12 rfl (Eq.trans (z_u_p _ _ _ _ (by decide)) h2) ?_
  refine k_iconst (v := 1) f33_27 rfl ?_
  refine k_iadd f33_28 ?_
  rw [nI_1 s]
  refine k_putI f33_29 hS.o12 rfl ?_
  exact k_vret f33_32 ⟨rfl, rfl⟩
theorem q_emit {x : Nat × (Nat → Int32)} {d : Nat} {I : Nat → Nat → Int32} {J : Nat → Nat → Int64} {R : Nat → Nat → Option Nat} {G : zG} {b : Nat → Nat} {n m s : Nat} {t : Sum Nat Nat} {it : It} {w : Int32} (hw : w = eC it) (hR : Rs R) (hS : Sh G) (hc : RC I b n t m s) (hs : s < 400) : zOk x d 33 0 [.ref 12, .int w] [] (I, J, R, G) (fun v mm => v = none ∧ ∃ I', mm = (I', J, R, G) ∧ FC I I' ∧ RC I' b n t m (s + 1) ∧ CA I I' s [it]) := by
  subst hw
  refine zOk.imp (s_emit (w := eC it) hR hS hc.2.1 hs) ?_
  rintro v _ ⟨rfl, rfl⟩
  refine ⟨rfl, _, rfl, (FC.rfl.put (by omega)).put (by omega), ⟨(hc.1.put (by decide)).put (by decide), z_u_same _ _ _ _, by omega, ?_, hc.2.2.2.2⟩, fun i hi => ?_, fun i hi => ?_⟩
  · rw [z_u_k _ _ _ (by decide), z_u_p _ _ _ _ (by decide)]; exact hc.2.2.2.1
  · rw [z_u_p _ _ _ _ (by decide), z_u_k _ _ _ (by omega)]
  · have h0 : i = 0 := by simp only [List.length_cons, List.length_nil] at hi; omega
    subst h0
    rw [z_u_p _ _ _ _ (by decide), Nat.add_zero, z_u_same]
    rfl
theorem q_emitB {x : Nat × (Nat → Int32)} {d : Nat} {I : Nat → Nat → Int32} {J : Nat → Nat → Int64} {R : Nat → Nat → Option Nat} {G : zG} {b : Nat → Nat} {n m s e : Nat} {w : Int32} (hR : Rs R) (hS : Sh G) (hc : RC I b n (.inl e) m s) : zOk x d 33 0 [.ref 12, .int w] [] (I, J, R, G) (fun v mm => v = none ∧ ∃ I', mm = (I', J, R, G) ∧ FC I I' ∧ ∃ s', RC I' b n (.inl e) m s') := by
  have h4 := hc.2.2.1
  have h2 := hc.2.1
  by_cases hs : s < 400
  · refine zOk.imp (s_emit (w := w) hR hS hc.2.1 hs) ?_
    rintro v _ ⟨rfl, rfl⟩
    refine ⟨rfl, _, rfl, (FC.rfl.put (by omega)).put (by omega), s + 1, (hc.1.put (by decide)).put (by decide), z_u_same _ _ _ _, by omega, ?_, hc.2.2.2.2⟩
    rw [z_u_k _ _ _ (by decide), z_u_p _ _ _ _ (by decide)]; exact hc.2.2.2.1
  · refine k_aload f33_0 rfl ?_
    refine k_gI (w := nI s) f33_1 hS.o12 rfl h2 ?_
    refine k_aload f33_4 rfl ?_
    refine k_getr (q := 13) f33_5 hS.o12 rfl hR.r12_1 ?_
    refine k_alen (v := nI 400) f33_8 hS.a13 rfl rfl ?_
    refine k_ic_ge f33_9 (fun _ => ?_) (fun h_ => absurd (nI_le (by omega) (by omega)) h_)
    exact k_vret f33_32 ⟨rfl, I, rfl, FC.rfl, s, hc⟩
theorem q_take0 {x : Nat × (Nat → Int32)} {d : Nat} {I : Nat → Nat → Int32} {J : Nat → Nat → Int64} {R : Nat → Nat → Option Nat} {G : zG} {b : Nat → Nat} {n m s : Nat} {t : Sum Nat Nat} (hR : Rs R) (hS : Sh G) (hT : TP I b n) (hc : RC I b n t m s) : zOk x (d + 1) 29 0 [.ref 12, .int 0] [] (I, J, R, G) (fun v mm => v = none ∧ ∃ I', mm = (I', J, R, G) ∧ FC I I' ∧ (∀ i, I' 13 i = I 13 i) ∧ RC I' b n (flT 0 t) m s) := by
  refine k_iload f29_0 rfl ?_
  refine k_if_ne f29_1 (fun h_ => absurd (by decide) h_) (fun _ => ?_)
  refine k_aload f29_4 rfl ?_
  refine k_getr (q := 9) f29_5 hS.o12 rfl hR.r12_0 ?_
  refine k_iconst (v := 0) f29_8 rfl ?_
  refine k_callv (as := [.int (0)]) (rest := []) f29_9 hS.o9 rfl rfl rfl rfl (q_fail (b := b) (n := n) (w := 0) hS hT.1 (by omega) hc.1) ?_
  rintro _ _ ⟨rfl, I1, rfl, ht1, hf1⟩
  refine k_goto f29_12 ?_
  exact k_vret f29_52 ⟨rfl, I1, rfl, hf1.fc, fun i => hf1 13 i (by omega), hc.f9 hf1 ht1⟩
theorem q_take3 {x : Nat × (Nat → Int32)} {d : Nat} {I : Nat → Nat → Int32} {J : Nat → Nat → Int64} {R : Nat → Nat → Option Nat} {G : zG} {b : Nat → Nat} {n m s : Nat} {t : Sum Nat Nat} (hR : Rs R) (hS : Sh G) (hT : TP I b n) (hc : RC I b n t m s) (hm : 60 ≤ m) : zOk x (d + 1) 29 0 [.ref 12, .int 1] [] (I, J, R, G) (fun v mm => v = none ∧ ∃ I', mm = (I', J, R, G) ∧ FC I I' ∧ (∀ i, I' 13 i = I 13 i) ∧ RC I' b n (flT 3 t) m s) := by
  have hm6 := hc.2.2.2.2
  refine k_iload f29_0 rfl ?_
  refine k_if_ne f29_1 (fun _ => ?_) (fun h_ => absurd (by decide) h_)
  refine k_aload f29_15 rfl ?_
  refine k_gI (w := nI m) f29_16 hS.o12 rfl hc.2.2.2.1 ?_
  refine k_iconst (v := 60) f29_19 rfl ?_
  refine k_ic_lt f29_21 (fun h_ => absurd h_ ((fun z => absurd ((nI_ltI (b := 60) (by omega) (by omega)).mp z) (by omega)))) (fun _ => ?_)
  refine k_aload f29_24 rfl ?_
  refine k_getr (q := 9) f29_25 hS.o12 rfl hR.r12_0 ?_
  refine k_iconst (v := 3) f29_28 rfl ?_
  refine k_callv (as := [.int (3)]) (rest := []) f29_29 hS.o9 rfl rfl rfl rfl (q_fail (b := b) (n := n) (w := 3) hS hT.1 (by omega) hc.1) ?_
  rintro _ _ ⟨rfl, I1, rfl, ht1, hf1⟩
  refine k_goto f29_32 ?_
  exact k_vret f29_52 ⟨rfl, I1, rfl, hf1.fc, fun i => hf1 13 i (by omega), hc.f9 hf1 ht1⟩
theorem q_take1 {x : Nat × (Nat → Int32)} {d : Nat} {I : Nat → Nat → Int32} {J : Nat → Nat → Int64} {R : Nat → Nat → Option Nat} {G : zG} {b : Nat → Nat} {n m s : Nat} {t : Sum Nat Nat} (hR : Rs R) (hS : Sh G) (hT : TP I b n) (hc : RC I b n t m s) (hm : m < 60) : zOk x (d + 1) 29 0 [.ref 12, .int 1] [] (I, J, R, G) (fun v mm => v = none ∧ ∃ I', mm = (I', J, R, G) ∧ FC I I' ∧ (∀ i, I' 13 i = I 13 i) ∧ RC I' b n (nxT b n t) (m + 1) s) := by
  refine k_iload f29_0 rfl ?_
  refine k_if_ne f29_1 (fun _ => ?_) (fun h_ => absurd (by decide) h_)
  refine k_aload f29_15 rfl ?_
  refine k_gI (w := nI m) f29_16 hS.o12 rfl hc.2.2.2.1 ?_
  refine k_iconst (v := 60) f29_19 rfl ?_
  refine k_ic_lt f29_21 (fun _ => ?_) (fun h_ => absurd (((nI_ltI (b := 60) (by omega) (by omega)).mpr hm)) h_)
  refine k_aload f29_35 rfl ?_
  refine k_dup f29_36 ?_
  refine k_gI (w := nI m) f29_37 hS.o12 rfl hc.2.2.2.1 ?_
  refine k_iconst (v := 1) f29_40 rfl ?_
  refine k_iadd f29_41 ?_
  rw [nI_1 m]
  refine k_putI f29_42 hS.o12 rfl ?_
  refine k_aload f29_45 rfl ?_
  refine k_getr (q := 9) f29_46 hS.o12 rfl hR.r12_0 ?_
  refine k_callv (as := []) (rest := []) f29_49 hS.o9 rfl rfl rfl rfl (q_next hR hS (hT.put (q := 12) (by decide) (by decide)) (hc.1.put (q := 12) (j := 6) (v := nI (m + 1)) (by decide))) ?_
  rintro _ _ ⟨rfl, I1, rfl, ht1, hf1⟩
  exact k_vret f29_52 ⟨rfl, I1, rfl, (FC.rfl.put (v := nI (m + 1)) (Or.inr ⟨rfl, Or.inr rfl⟩)).trans hf1.fc, fun i => (hf1 13 i (by omega)).trans (z_u_p _ _ _ _ (by decide)), ht1, (hf1 12 2 (by omega)).trans ((z_u_k _ _ _ (by decide)).trans hc.2.1), hc.2.2.1, (hf1 12 6 (by omega)).trans (z_u_same _ _ _ _), by omega⟩
def fsU (b : Nat → Nat) (n : Nat) (t : Sum Nat Nat) : Nat := if siT b n 42 t = true then 4 else if siT b n 47 t = true then 5 else 0
def tsU (b : Nat → Nat) (n : Nat) (t : Sum Nat Nat) : Nat := if siT b n 43 t = true then 2 else if siT b n 45 t = true then 3 else 0
def csU (b : Nat → Nat) (n : Nat) (t : Sum Nat Nat) : Nat := if siT b n 60 t = true then 6 else if siT b n 316 t = true then 7 else if siT b n 61 t = true then 8 else if siT b n 318 t = true then 9 else if siT b n 62 t = true then 10 else 0
def sgC (k : Nat) : Int32 := if k = 0 then 0 else eC (k, 0)
theorem s_cs {x : Nat × (Nat → Int32)} {d : Nat} {I : Nat → Nat → Int32} {J : Nat → Nat → Int64} {R : Nat → Nat → Option Nat} {G : zG} {b : Nat → Nat} {n m s : Nat} {t : Sum Nat Nat} (hR : Rs R) (hS : Sh G) (hT : TP I b n) (hc : RC I b n t m s) : zRn x (d + 1) 30 [.ref 12] (I, J, R, G) (some (.int (sgC (csU b n t)))) (I, J, R, G) := by
  show zOk x (d + 1) 30 0 [.ref 12] [] _ _
  refine k_aload f30_0 rfl ?_
  refine k_getr (q := 9) f30_1 hS.o12 rfl hR.r12_0 ?_
  refine k_iconst (v := 60) f30_4 rfl ?_
  refine e_v (as := [.int (60)]) (rest := []) f30_6 hS.o9 rfl rfl rfl (s_isSign (c := 60) hS hc.1 (by omega) hT) ?_
  refine k_beq f30_9 (fun g0 => ?_) (fun g0 => ?_)
  · refine k_aload f30_15 rfl ?_
    refine k_getr (q := 9) f30_16 hS.o12 rfl hR.r12_0 ?_
    refine k_iconst (v := 316) f30_19 rfl ?_
    refine e_v (as := [.int (316)]) (rest := []) f30_22 hS.o9 rfl rfl rfl (s_isSign (c := 316) hS hc.1 (by omega) hT) ?_
    refine k_beq f30_25 (fun g1 => ?_) (fun g1 => ?_)
    · refine k_aload f30_31 rfl ?_
      refine k_getr (q := 9) f30_32 hS.o12 rfl hR.r12_0 ?_
      refine k_iconst (v := 61) f30_35 rfl ?_
      refine e_v (as := [.int (61)]) (rest := []) f30_37 hS.o9 rfl rfl rfl (s_isSign (c := 61) hS hc.1 (by omega) hT) ?_
      refine k_beq f30_40 (fun g2 => ?_) (fun g2 => ?_)
      · refine k_aload f30_46 rfl ?_
        refine k_getr (q := 9) f30_47 hS.o12 rfl hR.r12_0 ?_
        refine k_iconst (v := 318) f30_50 rfl ?_
        refine e_v (as := [.int (318)]) (rest := []) f30_53 hS.o9 rfl rfl rfl (s_isSign (c := 318) hS hc.1 (by omega) hT) ?_
        refine k_beq f30_56 (fun g3 => ?_) (fun g3 => ?_)
        · refine k_aload f30_62 rfl ?_
          refine k_getr (q := 9) f30_63 hS.o12 rfl hR.r12_0 ?_
          refine k_iconst (v := 62) f30_66 rfl ?_
          refine e_v (as := [.int (62)]) (rest := []) f30_68 hS.o9 rfl rfl rfl (s_isSign (c := 62) hS hc.1 (by omega) hT) ?_
          refine k_beq f30_71 (fun g4 => ?_) (fun g4 => ?_)
          · refine k_iconst (v := 0) f30_79 rfl ?_
            exact k_iret f30_80 rfl ⟨congrArg (fun t => some (Value.int t)) (by rw [csU, if_neg g0, if_neg g1, if_neg g2, if_neg g3, if_neg g4]; decide), rfl⟩
          · refine k_iconst (v := (-18)) f30_74 rfl ?_
            refine k_goto f30_76 ?_
            exact k_iret f30_80 rfl ⟨congrArg (fun t => some (Value.int t)) (by rw [csU, if_neg g0, if_neg g1, if_neg g2, if_neg g3, if_pos g4]; decide), rfl⟩
        · refine k_iconst (v := (-17)) f30_59 rfl ?_
          exact k_iret f30_61 rfl ⟨congrArg (fun t => some (Value.int t)) (by rw [csU, if_neg g0, if_neg g1, if_neg g2, if_pos g3]; decide), rfl⟩
      · refine k_iconst (v := (-16)) f30_43 rfl ?_
        exact k_iret f30_45 rfl ⟨congrArg (fun t => some (Value.int t)) (by rw [csU, if_neg g0, if_neg g1, if_pos g2]; decide), rfl⟩
    · refine k_iconst (v := (-15)) f30_28 rfl ?_
      exact k_iret f30_30 rfl ⟨congrArg (fun t => some (Value.int t)) (by rw [csU, if_neg g0, if_pos g1]; decide), rfl⟩
  · refine k_iconst (v := (-14)) f30_12 rfl ?_
    exact k_iret f30_14 rfl ⟨congrArg (fun t => some (Value.int t)) (by rw [csU, if_pos g0]; decide), rfl⟩
theorem s_fs {x : Nat × (Nat → Int32)} {d : Nat} {I : Nat → Nat → Int32} {J : Nat → Nat → Int64} {R : Nat → Nat → Option Nat} {G : zG} {b : Nat → Nat} {n m s : Nat} {t : Sum Nat Nat} (hR : Rs R) (hS : Sh G) (hT : TP I b n) (hc : RC I b n t m s) : zRn x (d + 1) 31 [.ref 12] (I, J, R, G) (some (.int (sgC (fsU b n t)))) (I, J, R, G) := by
  show zOk x (d + 1) 31 0 [.ref 12] [] _ _
  refine k_aload f31_0 rfl ?_
  refine k_getr (q := 9) f31_1 hS.o12 rfl hR.r12_0 ?_
  refine k_iconst (v := 42) f31_4 rfl ?_
  refine e_v (as := [.int (42)]) (rest := []) f31_6 hS.o9 rfl rfl rfl (s_isSign (c := 42) hS hc.1 (by omega) hT) ?_
  refine k_beq f31_9 (fun g0 => ?_) (fun g0 => ?_)
  · refine k_aload f31_15 rfl ?_
    refine k_getr (q := 9) f31_16 hS.o12 rfl hR.r12_0 ?_
    refine k_iconst (v := 47) f31_19 rfl ?_
    refine e_v (as := [.int (47)]) (rest := []) f31_21 hS.o9 rfl rfl rfl (s_isSign (c := 47) hS hc.1 (by omega) hT) ?_
    refine k_beq f31_24 (fun g1 => ?_) (fun g1 => ?_)
    · refine k_iconst (v := 0) f31_32 rfl ?_
      exact k_iret f31_33 rfl ⟨congrArg (fun t => some (Value.int t)) (by rw [fsU, if_neg g0, if_neg g1]; decide), rfl⟩
    · refine k_iconst (v := (-13)) f31_27 rfl ?_
      refine k_goto f31_29 ?_
      exact k_iret f31_33 rfl ⟨congrArg (fun t => some (Value.int t)) (by rw [fsU, if_neg g0, if_pos g1]; decide), rfl⟩
  · refine k_iconst (v := (-12)) f31_12 rfl ?_
    exact k_iret f31_14 rfl ⟨congrArg (fun t => some (Value.int t)) (by rw [fsU, if_pos g0]; decide), rfl⟩
theorem s_ts {x : Nat × (Nat → Int32)} {d : Nat} {I : Nat → Nat → Int32} {J : Nat → Nat → Int64} {R : Nat → Nat → Option Nat} {G : zG} {b : Nat → Nat} {n m s : Nat} {t : Sum Nat Nat} (hR : Rs R) (hS : Sh G) (hT : TP I b n) (hc : RC I b n t m s) : zRn x (d + 1) 32 [.ref 12] (I, J, R, G) (some (.int (sgC (tsU b n t)))) (I, J, R, G) := by
  show zOk x (d + 1) 32 0 [.ref 12] [] _ _
  refine k_aload f32_0 rfl ?_
  refine k_getr (q := 9) f32_1 hS.o12 rfl hR.r12_0 ?_
  refine k_iconst (v := 43) f32_4 rfl ?_
  refine e_v (as := [.int (43)]) (rest := []) f32_6 hS.o9 rfl rfl rfl (s_isSign (c := 43) hS hc.1 (by omega) hT) ?_
  refine k_beq f32_9 (fun g0 => ?_) (fun g0 => ?_)
  · refine k_aload f32_15 rfl ?_
    refine k_getr (q := 9) f32_16 hS.o12 rfl hR.r12_0 ?_
    refine k_iconst (v := 45) f32_19 rfl ?_
    refine e_v (as := [.int (45)]) (rest := []) f32_21 hS.o9 rfl rfl rfl (s_isSign (c := 45) hS hc.1 (by omega) hT) ?_
    refine k_beq f32_24 (fun g1 => ?_) (fun g1 => ?_)
    · refine k_iconst (v := 0) f32_32 rfl ?_
      exact k_iret f32_33 rfl ⟨congrArg (fun t => some (Value.int t)) (by rw [tsU, if_neg g0, if_neg g1]; decide), rfl⟩
    · refine k_iconst (v := (-11)) f32_27 rfl ?_
      refine k_goto f32_29 ?_
      exact k_iret f32_33 rfl ⟨congrArg (fun t => some (Value.int t)) (by rw [tsU, if_neg g0, if_pos g1]; decide), rfl⟩
  · refine k_iconst (v := (-10)) f32_12 rfl ?_
    exact k_iret f32_14 rfl ⟨congrArg (fun t => some (Value.int t)) (by rw [tsU, if_pos g0]; decide), rfl⟩
theorem nx_num {b : Nat → Nat} {n q : Nat} (h : isD b n q = true) : nxT b n (.inr q) = .inr (bk b n (dg b n q)) := by
  show (Sum.inr (bk b n (ed b n q)) : Sum Nat Nat) = _
  rw [show ed b n q = dg b n q from (if_neg (isD_L h)).trans (if_pos h)]
theorem nx_wd {b : Nat → Nat} {n q : Nat} (h : isL b n q = true) : nxT b n (.inr q) = .inr (bk b n (wl b n q)) := by
  show (Sum.inr (bk b n (ed b n q)) : Sum Nat Nat) = _
  rw [show ed b n q = wl b n q from if_pos h]
theorem eC_n {v : Nat} : eC (0, v) = nI v := rfl
theorem eC_wd {k : Nat} (h : ¬ k = 0) : eC (1, k - 1) = -(nI k) := by
  show -(nI (k - 1 + 1)) = _
  rw [Nat.sub_add_cancel (by omega)]
theorem ng_0 : ∀ k, k < 10 → (-(nI k) = 0 ↔ k = 0) := by decide +kernel
theorem q_valueB {x : Nat × (Nat → Int32)} {d : Nat} {I : Nat → Nat → Int32} {J : Nat → Nat → Int64} {R : Nat → Nat → Option Nat} {G : zG} {b : Nat → Nat} {n m s e : Nat} (hR : Rs R) (hS : Sh G) (hT : TP I b n) (hc : RC I b n (.inl e) m s) : zOk x (d + 5) 28 0 [.ref 12, zU, zU] [] (I, J, R, G) (fun v mm => v = none ∧ ∃ I', mm = (I', J, R, G) ∧ FC I I' ∧ PO I I' b n s (.inl e)) := by
  refine k_aload f28_0 rfl ?_
  refine k_getr (q := 9) f28_1 hS.o12 rfl hR.r12_0 ?_
  refine e_v (as := []) (rest := []) f28_4 hS.o9 rfl rfl rfl (s_isNumber hS hc.1) ?_
  refine k_istore (L' := [.ref 12, .int (bI (nuT b n (.inl e) = true)), zU]) f28_7 rfl rfl ?_
  refine k_iload f28_8 rfl ?_
  refine k_beq f28_9 (fun _ => ?_) (fun h_ => (absurd h_ ((fun h => by cases h))))
  refine k_aload f28_22 rfl ?_
  refine k_getr (q := 9) f28_23 hS.o12 rfl hR.r12_0 ?_
  refine k_ldc f28_26 ?_
  refine e_v (as := [.retAddr 4]) (rest := []) f28_28 hS.o9 rfl rfl rfl ((show zRn x (d + 4) 54 [.ref 9, .retAddr 4] (I, J, R, G) (some (.int 0)) (I, J, R, G) from s_which (k := 4) hR hS hT (by omega) hc.1)) ?_
  refine k_ineg f28_31 ?_
  refine k_istore (L' := [.ref 12, .int (bI (nuT b n (.inl e) = true)), .int (-(0 : Int32))]) f28_32 rfl rfl ?_
  refine k_iload f28_33 rfl ?_
  refine k_beq f28_34 (fun _ => ?_) (fun h_ => (absurd h_ ((fun h => by cases h))))
  refine k_aload f28_53 rfl ?_
  refine k_iload f28_54 rfl ?_
  refine k_bne f28_55 (fun h_ => absurd h_ ((fun h => by cases h))) (fun _ => ?_)
  refine k_iload f28_58 rfl ?_
  refine k_if_eq f28_59 (fun _ => ?_) (fun h_ => absurd (by decide) h_)
  refine k_iconst (v := 0) f28_66 rfl ?_
  refine k_callv (as := [.int (0)]) (rest := []) f28_67 hS.o12 rfl rfl rfl rfl (q_take0 hR hS hT hc) ?_
  rintro _ _ ⟨rfl, I1, rfl, hf1, hs1, hc1⟩
  refine k_aload f28_70 rfl ?_
  refine k_iload f28_71 rfl ?_
  refine k_callv (as := [.int (-(0 : Int32))]) (rest := []) f28_72 hS.o12 rfl rfl rfl rfl (q_emitB (w := -(0 : Int32)) (e := e) hR hS hc1) ?_
  rintro _ _ ⟨rfl, I2, rfl, hf2, s2, hc2⟩
  exact k_vret f28_75 ⟨rfl, I2, rfl, hf1.trans hf2, m, s2, hc2⟩
theorem q_value {x : Nat × (Nat → Int32)} {d : Nat} {I : Nat → Nat → Int32} {J : Nat → Nat → Int64} {R : Nat → Nat → Option Nat} {G : zG} {b : Nat → Nat} {n m s p : Nat} (hR : Rs R) (hS : Sh G) (hT : TP I b n) (hp : p ≤ n) (hsp : s ≤ p) (hc : RC I b n (.inr (bk b n p)) m s) : zOk x (d + 5) 28 0 [.ref 12, zU, zU] [] (I, J, R, G) (fun v mm => v = none ∧ ∃ I', mm = (I', J, R, G) ∧ FC I I' ∧ PO I I' b n s (vaQ b n m p)) := by
  have h400 := hT.1
  have hq := bk_le (b := b) hp
  have hm6 := hc.2.2.2.2
  unfold vaQ
  obtain ⟨q, eq⟩ : ∃ q, q = bk b n p := ⟨_, rfl⟩
  rw [← eq] at hc hq ⊢
  by_cases hD : isD b n q = true
  · rw [if_pos hD]
    have qn := isD_lt hD
    by_cases h5 : dg b n q - q ≤ 5
    · rw [if_pos h5]
      have v5 := vN_lt (b := b) hq.2 h5
      have en : I 9 6 = nI (vN b n q) := (hc.1.2.2.2.2.1 (kd_2.mpr hD)).trans (if_pos h5)
      have nm : ¬ nI (vN b n q) = -1 := nI_m1 (by omega)
      by_cases h6 : 60 ≤ m
      · rw [if_pos h6]
        refine k_aload f28_0 rfl ?_
        refine k_getr (q := 9) f28_1 hS.o12 rfl hR.r12_0 ?_
        refine e_v (as := []) (rest := []) f28_4 hS.o9 rfl rfl rfl (s_isNumber hS hc.1) ?_
        refine k_istore (L' := [.ref 12, .int (bI (nuT b n (.inr q) = true)), zU]) f28_7 rfl rfl ?_
        refine k_iload f28_8 rfl ?_
        refine k_beq f28_9 (fun h_ => absurd ((decide_eq_true (kd_2.mpr hD))) h_) (fun _ => ?_)
        refine k_aload f28_12 rfl ?_
        refine k_getr (q := 9) f28_13 hS.o12 rfl hR.r12_0 ?_
        refine k_gI (w := nI (vN b n q)) f28_16 hS.o9 rfl en ?_
        refine k_goto f28_19 ?_
        refine k_istore (L' := [.ref 12, .int (bI (nuT b n (.inr q) = true)), .int (nI (vN b n q))]) f28_32 rfl rfl ?_
        refine k_iload f28_33 rfl ?_
        refine k_beq f28_34 (fun h_ => absurd ((decide_eq_true (kd_2.mpr hD))) h_) (fun _ => ?_)
        refine k_iload f28_37 rfl ?_
        refine k_iconst (v := (-1)) f28_38 rfl ?_
        refine k_ic_ne f28_39 (fun _ => ?_) (fun h_ => absurd (nm) h_)
        refine k_aload f28_53 rfl ?_
        refine k_iload f28_54 rfl ?_
        refine k_bne f28_55 (fun _ => ?_) (fun h_ => absurd ((decide_eq_true (kd_2.mpr hD))) h_)
        refine k_iconst (v := 1) f28_62 rfl ?_
        refine k_goto f28_63 ?_
        refine k_callv (as := [.int (1)]) (rest := []) f28_67 hS.o12 rfl rfl rfl rfl (q_take3 hR hS hT hc h6) ?_
        rintro _ _ ⟨rfl, I1, rfl, hf1, hs1, hc1⟩
        refine k_aload f28_70 rfl ?_
        refine k_iload f28_71 rfl ?_
        refine k_callv (as := [.int (nI (vN b n q))]) (rest := []) f28_72 hS.o12 rfl rfl rfl rfl (q_emitB (w := nI (vN b n q)) (e := 1 + 8 * q + 3) hR hS hc1) ?_
        rintro _ _ ⟨rfl, I2, rfl, hf2, s2, hc2⟩
        exact k_vret f28_75 ⟨rfl, I2, rfl, hf1.trans hf2, m, s2, hc2⟩
      · rw [if_neg h6]
        refine k_aload f28_0 rfl ?_
        refine k_getr (q := 9) f28_1 hS.o12 rfl hR.r12_0 ?_
        refine e_v (as := []) (rest := []) f28_4 hS.o9 rfl rfl rfl (s_isNumber hS hc.1) ?_
        refine k_istore (L' := [.ref 12, .int (bI (nuT b n (.inr q) = true)), zU]) f28_7 rfl rfl ?_
        refine k_iload f28_8 rfl ?_
        refine k_beq f28_9 (fun h_ => absurd ((decide_eq_true (kd_2.mpr hD))) h_) (fun _ => ?_)
        refine k_aload f28_12 rfl ?_
        refine k_getr (q := 9) f28_13 hS.o12 rfl hR.r12_0 ?_
        refine k_gI (w := nI (vN b n q)) f28_16 hS.o9 rfl en ?_
        refine k_goto f28_19 ?_
        refine k_istore (L' := [.ref 12, .int (bI (nuT b n (.inr q) = true)), .int (nI (vN b n q))]) f28_32 rfl rfl ?_
        refine k_iload f28_33 rfl ?_
        refine k_beq f28_34 (fun h_ => absurd ((decide_eq_true (kd_2.mpr hD))) h_) (fun _ => ?_)
        refine k_iload f28_37 rfl ?_
        refine k_iconst (v := (-1)) f28_38 rfl ?_
        refine k_ic_ne f28_39 (fun _ => ?_) (fun h_ => absurd (nm) h_)
        refine k_aload f28_53 rfl ?_
        refine k_iload f28_54 rfl ?_
        refine k_bne f28_55 (fun _ => ?_) (fun h_ => absurd ((decide_eq_true (kd_2.mpr hD))) h_)
        refine k_iconst (v := 1) f28_62 rfl ?_
        refine k_goto f28_63 ?_
        refine k_callv (as := [.int (1)]) (rest := []) f28_67 hS.o12 rfl rfl rfl rfl (q_take1 hR hS hT hc (by omega)) ?_
        rintro _ _ ⟨rfl, I1, rfl, hf1, hs1, hc1⟩
        refine k_aload f28_70 rfl ?_
        refine k_iload f28_71 rfl ?_
        refine k_callv (as := [.int (nI (vN b n q))]) (rest := []) f28_72 hS.o12 rfl rfl rfl rfl (q_emit (it := (0, vN b n q)) rfl hR hS hc1 (by omega)) ?_
        rintro _ _ ⟨rfl, I2, rfl, hf2, hc2, ha2⟩
        exact k_vret f28_75 ⟨rfl, I2, rfl, hf1.trans hf2, by rw [nx_num hD] at hc2; exact hc2, ((CA.nil hs1).app ha2)⟩
    · rw [if_neg h5]
      have en : I 9 6 = -1 := (hc.1.2.2.2.2.1 (kd_2.mpr hD)).trans (if_neg h5)
      refine k_aload f28_0 rfl ?_
      refine k_getr (q := 9) f28_1 hS.o12 rfl hR.r12_0 ?_
      refine e_v (as := []) (rest := []) f28_4 hS.o9 rfl rfl rfl (s_isNumber hS hc.1) ?_
      refine k_istore (L' := [.ref 12, .int (bI (nuT b n (.inr q) = true)), zU]) f28_7 rfl rfl ?_
      refine k_iload f28_8 rfl ?_
      refine k_beq f28_9 (fun h_ => absurd ((decide_eq_true (kd_2.mpr hD))) h_) (fun _ => ?_)
      refine k_aload f28_12 rfl ?_
      refine k_getr (q := 9) f28_13 hS.o12 rfl hR.r12_0 ?_
      refine k_gI (w := (-1)) f28_16 hS.o9 rfl en ?_
      refine k_goto f28_19 ?_
      refine k_istore (L' := [.ref 12, .int (bI (nuT b n (.inr q) = true)), .int ((-1))]) f28_32 rfl rfl ?_
      refine k_iload f28_33 rfl ?_
      refine k_beq f28_34 (fun h_ => absurd ((decide_eq_true (kd_2.mpr hD))) h_) (fun _ => ?_)
      refine k_iload f28_37 rfl ?_
      refine k_iconst (v := (-1)) f28_38 rfl ?_
      refine k_ic_ne f28_39 (fun h_ => absurd (rfl) h_) (fun _ => ?_)
      refine k_aload f28_42 rfl ?_
      refine k_getr (q := 9) f28_43 hS.o12 rfl hR.r12_0 ?_
      refine k_iconst (v := 1) f28_46 rfl ?_
      refine k_callv (as := [.int (1)]) (rest := []) f28_47 hS.o9 rfl rfl rfl rfl (q_fail (b := b) (n := n) (w := 1) hS hT.1 (by omega) hc.1) ?_
      rintro _ _ ⟨rfl, I1, rfl, ht1, hf1⟩
      refine k_goto f28_50 ?_
      exact k_vret f28_75 ⟨rfl, I1, rfl, hf1.fc, m, s, hc.f9 hf1 ht1⟩
  · rw [if_neg hD]
    have w9 := wh4_le (b := b) (n := n) (q := q)
    by_cases h0 : whT b n 4 (.inr q) = 0
    · rw [if_pos h0]
      refine k_aload f28_0 rfl ?_
      refine k_getr (q := 9) f28_1 hS.o12 rfl hR.r12_0 ?_
      refine e_v (as := []) (rest := []) f28_4 hS.o9 rfl rfl rfl (s_isNumber hS hc.1) ?_
      refine k_istore (L' := [.ref 12, .int (bI (nuT b n (.inr q) = true)), zU]) f28_7 rfl rfl ?_
      refine k_iload f28_8 rfl ?_
      refine k_beq f28_9 (fun _ => ?_) (fun h_ => (absurd h_ ((fun z => hD (kd_2.mp (of_decide_eq_true z))))))
      refine k_aload f28_22 rfl ?_
      refine k_getr (q := 9) f28_23 hS.o12 rfl hR.r12_0 ?_
      refine k_ldc f28_26 ?_
      refine e_v (as := [.retAddr 4]) (rest := []) f28_28 hS.o9 rfl rfl rfl ((show zRn x (d + 4) 54 [.ref 9, .retAddr 4] (I, J, R, G) (some (.int 0)) (I, J, R, G) from by have h := s_which (x := x) (d := d) (J := J) (k := 4) hR hS hT (by omega) hc.1; rw [h0] at h; exact h)) ?_
      refine k_ineg f28_31 ?_
      refine k_istore (L' := [.ref 12, .int (bI (nuT b n (.inr q) = true)), .int (-(0 : Int32))]) f28_32 rfl rfl ?_
      refine k_iload f28_33 rfl ?_
      refine k_beq f28_34 (fun _ => ?_) (fun h_ => (absurd h_ ((fun z => hD (kd_2.mp (of_decide_eq_true z))))))
      refine k_aload f28_53 rfl ?_
      refine k_iload f28_54 rfl ?_
      refine k_bne f28_55 (fun h_ => absurd h_ ((fun z => hD (kd_2.mp (of_decide_eq_true z))))) (fun _ => ?_)
      refine k_iload f28_58 rfl ?_
      refine k_if_eq f28_59 (fun _ => ?_) (fun h_ => absurd (by decide) h_)
      refine k_iconst (v := 0) f28_66 rfl ?_
      refine k_callv (as := [.int (0)]) (rest := []) f28_67 hS.o12 rfl rfl rfl rfl (q_take0 hR hS hT hc) ?_
      rintro _ _ ⟨rfl, I1, rfl, hf1, hs1, hc1⟩
      refine k_aload f28_70 rfl ?_
      refine k_iload f28_71 rfl ?_
      refine k_callv (as := [.int (-(0 : Int32))]) (rest := []) f28_72 hS.o12 rfl rfl rfl rfl (q_emitB (w := -(0 : Int32)) (e := 1 + 8 * q + 0) hR hS hc1) ?_
      rintro _ _ ⟨rfl, I2, rfl, hf2, s2, hc2⟩
      exact k_vret f28_75 ⟨rfl, I2, rfl, hf1.trans hf2, m, s2, hc2⟩
    · rw [if_neg h0]
      have hL := wh4_isL h0
      have qn := isL_lt hL
      have ng : ¬ -(nI (whT b n 4 (.inr q))) = 0 := fun z => h0 ((ng_0 _ (by omega)).mp z)
      by_cases h6 : 60 ≤ m
      · rw [if_pos h6]
        refine k_aload f28_0 rfl ?_
        refine k_getr (q := 9) f28_1 hS.o12 rfl hR.r12_0 ?_
        refine e_v (as := []) (rest := []) f28_4 hS.o9 rfl rfl rfl (s_isNumber hS hc.1) ?_
        refine k_istore (L' := [.ref 12, .int (bI (nuT b n (.inr q) = true)), zU]) f28_7 rfl rfl ?_
        refine k_iload f28_8 rfl ?_
        refine k_beq f28_9 (fun _ => ?_) (fun h_ => (absurd h_ ((fun z => hD (kd_2.mp (of_decide_eq_true z))))))
        refine k_aload f28_22 rfl ?_
        refine k_getr (q := 9) f28_23 hS.o12 rfl hR.r12_0 ?_
        refine k_ldc f28_26 ?_
        refine e_v (as := [.retAddr 4]) (rest := []) f28_28 hS.o9 rfl rfl rfl (s_which (k := 4) hR hS hT (by omega) hc.1) ?_
        refine k_ineg f28_31 ?_
        refine k_istore (L' := [.ref 12, .int (bI (nuT b n (.inr q) = true)), .int (-(nI (whT b n 4 (.inr q))))]) f28_32 rfl rfl ?_
        refine k_iload f28_33 rfl ?_
        refine k_beq f28_34 (fun _ => ?_) (fun h_ => (absurd h_ ((fun z => hD (kd_2.mp (of_decide_eq_true z))))))
        refine k_aload f28_53 rfl ?_
        refine k_iload f28_54 rfl ?_
        refine k_bne f28_55 (fun h_ => absurd h_ ((fun z => hD (kd_2.mp (of_decide_eq_true z))))) (fun _ => ?_)
        refine k_iload f28_58 rfl ?_
        refine k_if_eq f28_59 (fun h_ => absurd h_ (ng)) (fun _ => ?_)
        refine k_iconst (v := 1) f28_62 rfl ?_
        refine k_goto f28_63 ?_
        refine k_callv (as := [.int (1)]) (rest := []) f28_67 hS.o12 rfl rfl rfl rfl (q_take3 hR hS hT hc h6) ?_
        rintro _ _ ⟨rfl, I1, rfl, hf1, hs1, hc1⟩
        refine k_aload f28_70 rfl ?_
        refine k_iload f28_71 rfl ?_
        refine k_callv (as := [.int (-(nI (whT b n 4 (.inr q))))]) (rest := []) f28_72 hS.o12 rfl rfl rfl rfl (q_emitB (w := -(nI (whT b n 4 (.inr q)))) (e := 1 + 8 * q + 3) hR hS hc1) ?_
        rintro _ _ ⟨rfl, I2, rfl, hf2, s2, hc2⟩
        exact k_vret f28_75 ⟨rfl, I2, rfl, hf1.trans hf2, m, s2, hc2⟩
      · rw [if_neg h6]
        refine k_aload f28_0 rfl ?_
        refine k_getr (q := 9) f28_1 hS.o12 rfl hR.r12_0 ?_
        refine e_v (as := []) (rest := []) f28_4 hS.o9 rfl rfl rfl (s_isNumber hS hc.1) ?_
        refine k_istore (L' := [.ref 12, .int (bI (nuT b n (.inr q) = true)), zU]) f28_7 rfl rfl ?_
        refine k_iload f28_8 rfl ?_
        refine k_beq f28_9 (fun _ => ?_) (fun h_ => (absurd h_ ((fun z => hD (kd_2.mp (of_decide_eq_true z))))))
        refine k_aload f28_22 rfl ?_
        refine k_getr (q := 9) f28_23 hS.o12 rfl hR.r12_0 ?_
        refine k_ldc f28_26 ?_
        refine e_v (as := [.retAddr 4]) (rest := []) f28_28 hS.o9 rfl rfl rfl (s_which (k := 4) hR hS hT (by omega) hc.1) ?_
        refine k_ineg f28_31 ?_
        refine k_istore (L' := [.ref 12, .int (bI (nuT b n (.inr q) = true)), .int (-(nI (whT b n 4 (.inr q))))]) f28_32 rfl rfl ?_
        refine k_iload f28_33 rfl ?_
        refine k_beq f28_34 (fun _ => ?_) (fun h_ => (absurd h_ ((fun z => hD (kd_2.mp (of_decide_eq_true z))))))
        refine k_aload f28_53 rfl ?_
        refine k_iload f28_54 rfl ?_
        refine k_bne f28_55 (fun h_ => absurd h_ ((fun z => hD (kd_2.mp (of_decide_eq_true z))))) (fun _ => ?_)
        refine k_iload f28_58 rfl ?_
        refine k_if_eq f28_59 (fun h_ => absurd h_ (ng)) (fun _ => ?_)
        refine k_iconst (v := 1) f28_62 rfl ?_
        refine k_goto f28_63 ?_
        refine k_callv (as := [.int (1)]) (rest := []) f28_67 hS.o12 rfl rfl rfl rfl (q_take1 hR hS hT hc (by omega)) ?_
        rintro _ _ ⟨rfl, I1, rfl, hf1, hs1, hc1⟩
        refine k_aload f28_70 rfl ?_
        refine k_iload f28_71 rfl ?_
        refine k_callv (as := [.int (-(nI (whT b n 4 (.inr q))))]) (rest := []) f28_72 hS.o12 rfl rfl rfl rfl (q_emit (it := (1, whT b n 4 (.inr q) - 1)) (eC_wd h0).symm hR hS hc1 (by omega)) ?_
        rintro _ _ ⟨rfl, I2, rfl, hf2, hc2, ha2⟩
        exact k_vret f28_75 ⟨rfl, I2, rfl, hf1.trans hf2, by rw [nx_wd hL] at hc2; exact hc2, ((CA.nil hs1).app ha2)⟩
