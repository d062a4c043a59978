/-! RULES, read in the reference: a clause. -/
def FU (t : Nat) (I I' : Nat → Nat → Int32) : Prop := ∀ p k, ¬ (p = 51 ∧ ((13 ≤ k ∧ k ≤ 19 ∧ k ≠ 16) ∨ k = 21)) → p ≠ 59 → ¬ (p = 54 ∧ k = t) → ¬ (p = 56 ∧ k = t) → ¬ (p = 53 ∧ 400 * t ≤ k ∧ k < 400 * t + 400) → ¬ (p = 55 ∧ 36 * t ≤ k ∧ k < 36 * t + 36) → I' p k = I p k
theorem FU.rfl {t : Nat} {I : Nat → Nat → Int32} : FU t I I := fun _ _ _ _ _ _ _ _ => Eq.refl _
theorem FU.trans {t : Nat} {I I1 I2 : Nat → Nat → Int32} (h1 : FU t I I1) (h2 : FU t I1 I2) : FU t I I2 := fun p k a c e f g h => (h2 p k a c e f g h).trans (h1 p k a c e f g h)
theorem FT.fu {t : Nat} {I I' : Nat → Nat → Int32} (h : FT t I I') : FU t I I' := fun p k a c e _ g _ => h p k (fun z => a ⟨z.1, z.2.elim (fun w => Or.inl ⟨w.1, by omega, w.2.2⟩) Or.inr⟩) c e g
theorem LX.fu {t : Nat} {I I' : Nat → Nat → Int32} (h : LX I I') : FU t I I' := (h.ft (t := t)).fu
theorem FU.put {t q j : Nat} {v : Int32} {I I' : Nat → Nat → Int32} (h : FU t I I') (hq : (q = 51 ∧ ((13 ≤ j ∧ j ≤ 19 ∧ j ≠ 16) ∨ j = 21)) ∨ (q = 56 ∧ j = t) ∨ (q = 55 ∧ 36 * t ≤ j ∧ j < 36 * t + 36)) : FU t I (z_u I' q j v) := fun p k a c e f g h1 => (z_u_no _ _ (by rintro ⟨rfl, rfl⟩; rcases hq with z | z | z; exact a z; exact f z; exact h1 z)).trans (h p k a c e f g h1)
theorem FU.tp {t n : Nat} {I I' : Nat → Nat → Int32} {b : Nat → Nat} (h : FU t I I') (g : TP I b n) : TP I' b n := g.keep (fun k => h 10 k (by omega) (by omega) (by omega) (by omega) (by omega) (by omega)) (fun k => h 52 k (by omega) (by omega) (by omega) (by omega) (by omega) (by omega))
theorem at_ix (t c : Nat) : 36 * nI t + 3 * nI c = nI (36 * t + 3 * c) := by
  rw [show (36 : Int32) = nI 36 from rfl, show (3 : Int32) = nI 3 from rfl, ← nI_add, pk_mul, pk_mul]
def PH (I I' : Nat → Nat → Int32) (b : Nat → Nat) (n t L c s0 : Nat) (v : Option Value) : Sum Nat R3 → Prop
  | .inl e => v = some (.int 0) ∧ I' 51 14 = nI e
  | .inr z => v = some (.int 1) ∧ RX I' n (bk b n z.2.2) ∧ RT I' t z.2.1 (L + z.1.length) ∧ DA I I' t L z.1 ∧ I' 56 t = nI (c + 1) ∧ I' 55 (36 * t + 3 * c) = nI s0 ∧ I' 55 (36 * t + 3 * c + 1) = nI L ∧ I' 55 (36 * t + 3 * c + 2) = nI (L + z.1.length) ∧ I' 51 19 = I 51 19 ∧ ∀ k, k < 36 * t + 3 * c → I' 55 k = I 55 k
theorem q_tstH {x : Nat × (Nat → Int32)} {d : Nat} {I : Nat → Nat → Int32} {J : Nat → Nat → Int64} {R : Nat → Nat → Option Nat} {G : zG} {b : Nat → Nat} {n t m L c s0 q : Nat} (hR : Rs R) (hS : Sh G) (ht : t < 6) (hL : isL b n q = true) (hc : c < 12) (hLq : L ≤ q) (hT : TP I b n) (hx : RX I n q) (hr : RT I t m L) (h56 : I 56 t = nI c) : zOk x (d + 9) 137 0 [.ref 51, .int (nI s0), zU] [] (I, J, R, G) (fun v mm => ∃ I', mm = (I', J, R, G) ∧ FU t I I' ∧ PH I I' b n t L c s0 v (r34 (tsF b n 11 10 m (wl b n q)))) := by
  have h400 := hT.1
  have w1 := wl_lt hL
  have w2 := (wl_le (b := b) hx.2.1).2
  cases hv : r34 (tsF b n 11 10 m (wl b n q)) with
  | inl e =>
    refine k_aload f137_0 rfl ?_
    refine k_callv (as := []) (rest := []) f137_1 hS.o51 rfl rfl rfl rfl (q_pass (d := d + 7) hR hS hT hx) ?_
    rintro _ _ ⟨rfl, I1, rfl, hx1, hl1⟩
    have hT1 := hl1.tp hT
    have hr1 := hr.lx hl1
    have j56 : I1 56 t = nI c := (hl1 56 t (by omega)).trans h56
    refine k_iconst (v := 36) f137_4 rfl ?_
    refine k_aload f137_6 rfl ?_
    refine k_gI (w := nI t) f137_7 hS.o51 rfl hr1.1 ?_
    refine k_imul f137_10 ?_
    refine k_iconst (v := 3) f137_11 rfl ?_
    refine k_aload f137_12 rfl ?_
    refine k_getr (q := 56) f137_13 hS.o51 rfl hR.r51_6 ?_
    refine k_aload f137_16 rfl ?_
    refine k_gI (w := nI t) f137_17 hS.o51 rfl hr1.1 ?_
    refine k_ia (k := t) (w := nI c) f137_20 hS.a56 rfl (by omega) (by decide) j56 ?_
    refine k_imul f137_21 ?_
    refine k_iadd f137_22 ?_
    rw [at_ix t c]
    refine k_istore (L' := [.ref 51, .int (nI s0), .int (nI (36 * t + 3 * c))]) f137_23 rfl rfl ?_
    refine k_aload f137_24 rfl ?_
    refine k_getr (q := 55) f137_25 hS.o51 rfl hR.r51_5 ?_
    refine k_iload f137_28 rfl ?_
    refine k_iload f137_29 rfl ?_
    refine k_is (k := (36 * t + 3 * c)) f137_30 hS.a55 rfl (by omega) (by decide) ?_
    refine k_aload f137_31 rfl ?_
    refine k_getr (q := 55) f137_32 hS.o51 rfl hR.r51_5 ?_
    refine k_iload f137_35 rfl ?_
    refine k_iconst (v := 1) f137_36 rfl ?_
    refine k_iadd f137_37 ?_
    refine k_aload f137_38 rfl ?_
    refine k_getr (q := 54) f137_39 hS.o51 rfl hR.r51_4 ?_
    refine k_aload f137_42 rfl ?_
    refine k_gI (w := nI t) f137_43 hS.o51 rfl (Eq.trans (z_u_p _ _ _ _ (by decide)) hr1.1) ?_
    refine k_ia (k := t) (w := nI L) f137_46 hS.a54 rfl (by omega) (by decide) (Eq.trans (z_u_p _ _ _ _ (by decide)) hr1.2.1) ?_
    refine k_is (k := 36 * t + 3 * c + 1) f137_47 hS.a55 (nI_1 (36 * t + 3 * c)).symm (by omega) (by decide) ?_
    refine k_aload f137_48 rfl ?_
    refine k_callv (as := []) (rest := []) f137_49 hS.o51 rfl rfl rfl rfl (q_tested (d := d) (p := wl b n q) (m := m) (L := L) hR hS ht w2 (by omega) ((hT1.put (by decide) (by decide)).put (by decide) (by decide)) ⟨⟨_, (hx1.put (by omega)).put (by omega), rfl⟩, (hr1.put (by omega)).put (by omega)⟩) ?_
    rintro v2 _ ⟨I2, rfl, hf2, hv2⟩
    rw [hv] at hv2
    obtain ⟨rfl, hn2⟩ := hv2
    have fu2 : FU t I I2 := ((hl1.fu.put (by omega)).put (by omega)).trans hf2.fu
    have k56 : I2 56 t = nI c := (hf2 56 t (by omega) (by omega) (by omega) (by omega)).trans ((z_u_p _ _ _ _ (by decide)).trans ((z_u_p _ _ _ _ (by decide)).trans j56))
    have k55 : ∀ k, I2 55 k = (z_u (z_u I1 55 (36 * t + 3 * c) (nI s0)) 55 (36 * t + 3 * c + 1) (nI L)) 55 k := fun k => hf2 55 k (by omega) (by omega) (by omega) (by omega)
    refine k_if_ne f137_52 (fun h_ => absurd (by decide) h_) (fun _ => ?_)
    refine k_iconst (v := 0) f137_55 rfl ?_
    exact k_iret f137_56 (by decide) ⟨_, rfl, fu2, rfl, hn2⟩
  | inr z =>
    refine k_aload f137_0 rfl ?_
    refine k_callv (as := []) (rest := []) f137_1 hS.o51 rfl rfl rfl rfl (q_pass (d := d + 7) hR hS hT hx) ?_
    rintro _ _ ⟨rfl, I1, rfl, hx1, hl1⟩
    have hT1 := hl1.tp hT
    have hr1 := hr.lx hl1
    have j56 : I1 56 t = nI c := (hl1 56 t (by omega)).trans h56
    refine k_iconst (v := 36) f137_4 rfl ?_
    refine k_aload f137_6 rfl ?_
    refine k_gI (w := nI t) f137_7 hS.o51 rfl hr1.1 ?_
    refine k_imul f137_10 ?_
    refine k_iconst (v := 3) f137_11 rfl ?_
    refine k_aload f137_12 rfl ?_
    refine k_getr (q := 56) f137_13 hS.o51 rfl hR.r51_6 ?_
    refine k_aload f137_16 rfl ?_
    refine k_gI (w := nI t) f137_17 hS.o51 rfl hr1.1 ?_
    refine k_ia (k := t) (w := nI c) f137_20 hS.a56 rfl (by omega) (by decide) j56 ?_
    refine k_imul f137_21 ?_
    refine k_iadd f137_22 ?_
    rw [at_ix t c]
    refine k_istore (L' := [.ref 51, .int (nI s0), .int (nI (36 * t + 3 * c))]) f137_23 rfl rfl ?_
    refine k_aload f137_24 rfl ?_
    refine k_getr (q := 55) f137_25 hS.o51 rfl hR.r51_5 ?_
    refine k_iload f137_28 rfl ?_
    refine k_iload f137_29 rfl ?_
    refine k_is (k := (36 * t + 3 * c)) f137_30 hS.a55 rfl (by omega) (by decide) ?_
    refine k_aload f137_31 rfl ?_
    refine k_getr (q := 55) f137_32 hS.o51 rfl hR.r51_5 ?_
    refine k_iload f137_35 rfl ?_
    refine k_iconst (v := 1) f137_36 rfl ?_
    refine k_iadd f137_37 ?_
    refine k_aload f137_38 rfl ?_
    refine k_getr (q := 54) f137_39 hS.o51 rfl hR.r51_4 ?_
    refine k_aload f137_42 rfl ?_
    refine k_gI (w := nI t) f137_43 hS.o51 rfl (Eq.trans (z_u_p _ _ _ _ (by decide)) hr1.1) ?_
    refine k_ia (k := t) (w := nI L) f137_46 hS.a54 rfl (by omega) (by decide) (Eq.trans (z_u_p _ _ _ _ (by decide)) hr1.2.1) ?_
    refine k_is (k := 36 * t + 3 * c + 1) f137_47 hS.a55 (nI_1 (36 * t + 3 * c)).symm (by omega) (by decide) ?_
    refine k_aload f137_48 rfl ?_
    refine k_callv (as := []) (rest := []) f137_49 hS.o51 rfl rfl rfl rfl (q_tested (d := d) (p := wl b n q) (m := m) (L := L) hR hS ht w2 (by omega) ((hT1.put (by decide) (by decide)).put (by decide) (by decide)) ⟨⟨_, (hx1.put (by omega)).put (by omega), rfl⟩, (hr1.put (by omega)).put (by omega)⟩) ?_
    rintro v2 _ ⟨I2, rfl, hf2, hv2⟩
    rw [hv] at hv2
    obtain ⟨rfl, hx2, hr2, ha2⟩ := hv2
    have fu2 : FU t I I2 := ((hl1.fu.put (by omega)).put (by omega)).trans hf2.fu
    have k56 : I2 56 t = nI c := (hf2 56 t (by omega) (by omega) (by omega) (by omega)).trans ((z_u_p _ _ _ _ (by decide)).trans ((z_u_p _ _ _ _ (by decide)).trans j56))
    have k55 : ∀ k, I2 55 k = (z_u (z_u I1 55 (36 * t + 3 * c) (nI s0)) 55 (36 * t + 3 * c + 1) (nI L)) 55 k := fun k => hf2 55 k (by omega) (by omega) (by omega) (by omega)
    refine k_if_ne f137_52 (fun _ => ?_) (fun h_ => absurd (by decide) h_)
    refine k_aload f137_57 rfl ?_
    refine k_getr (q := 55) f137_58 hS.o51 rfl hR.r51_5 ?_
    refine k_iload f137_61 rfl ?_
    refine k_iconst (v := 2) f137_62 rfl ?_
    refine k_iadd f137_63 ?_
    refine k_aload f137_64 rfl ?_
    refine k_getr (q := 54) f137_65 hS.o51 rfl hR.r51_4 ?_
    refine k_aload f137_68 rfl ?_
    refine k_gI (w := nI t) f137_69 hS.o51 rfl hr2.1 ?_
    refine k_ia (k := t) (w := nI (L + z.1.length)) f137_72 hS.a54 rfl (by omega) (by decide) hr2.2.1 ?_
    refine k_is (k := 36 * t + 3 * c + 2) f137_73 hS.a55 (nI_add (36 * t + 3 * c) 2).symm (by omega) (by decide) ?_
    refine k_aload f137_74 rfl ?_
    refine k_getr (q := 56) f137_75 hS.o51 rfl hR.r51_6 ?_
    refine k_aload f137_78 rfl ?_
    refine k_gI (w := nI t) f137_79 hS.o51 rfl (Eq.trans (z_u_p _ _ _ _ (by decide)) hr2.1) ?_
    refine k_dup2 f137_82 ?_
    refine k_ia (k := t) (w := nI c) f137_83 hS.a56 rfl (by omega) (by decide) (Eq.trans (z_u_p _ _ _ _ (by decide)) k56) ?_
    refine k_iconst (v := 1) f137_84 rfl ?_
    refine k_iadd f137_85 ?_
    rw [nI_1 c]
    refine k_is (k := t) f137_86 hS.a56 rfl (by omega) (by decide) ?_
    refine k_iconst (v := 1) f137_87 rfl ?_
    exact k_iret f137_88 (by decide) ⟨_, rfl, (fu2.put (by omega)).put (by omega), rfl, (hx2.put (by omega)).put (by omega), (hr2.put (by omega)).put (by omega), (ha2.l (fun i => (z_u_p _ _ _ _ (by decide)).trans ((z_u_p _ _ _ _ (by decide)).trans (hl1 53 i (by omega))))).r (fun i => (z_u_p _ _ _ _ (by decide)).trans (z_u_p _ _ _ _ (by decide))), z_u_same _ _ _ _, (z_u_p _ _ _ _ (by decide)).trans ((z_u_k _ _ _ (by omega)).trans ((k55 _).trans ((z_u_k _ _ _ (by omega)).trans (z_u_same _ _ _ _)))), (z_u_p _ _ _ _ (by decide)).trans ((z_u_k _ _ _ (by omega)).trans ((k55 _).trans (z_u_same _ _ _ _))), (z_u_p _ _ _ _ (by decide)).trans (z_u_same _ _ _ _), (z_u_p _ _ _ _ (by decide)).trans ((z_u_p _ _ _ _ (by decide)).trans ((hf2 51 19 (by omega) (by omega) (by omega) (by omega)).trans ((z_u_p _ _ _ _ (by decide)).trans ((z_u_p _ _ _ _ (by decide)).trans (hl1 51 19 (by omega)))))), fun k hk => (z_u_p _ _ _ _ (by decide)).trans ((z_u_k _ _ _ (by omega)).trans ((k55 k).trans ((z_u_k _ _ _ (by omega)).trans ((z_u_k _ _ _ (by omega)).trans (hl1 55 k (by omega))))))⟩
theorem q_srt {x : Nat × (Nat → Int32)} {d : Nat} {I : Nat → Nat → Int32} {J : Nat → Nat → Int64} {R : Nat → Nat → Option Nat} {G : zG} {b : Nat → Nat} {n q : Nat} (hR : Rs R) (hS : Sh G) (hT : TP I b n) (hx : RX I n q) (hqq : bk b n q = q) : zOk x (d + 2) 143 0 [.ref 51] [] (I, J, R, G) (fun v m => v = some (.int (wdV (whT b n 0 (.inr q)))) ∧ ∃ I', m = (I', J, R, G) ∧ RX I' n q ∧ LX I I') := by
  have ll : LX I I := LX.rfl
  refine k_aload f143_0 rfl ?_
  refine k_lconst (v := 7364985) f143_1 rfl ?_
  refine k_callv (as := [.long (7364985)]) (rest := []) f143_4 hS.o51 rfl rfl rfl rfl (q_isWl (w := [112, 97, 121]) (by decide +kernel) hR hS hT hx hqq ⟨by decide, by decide, by decide⟩) ?_
  rintro _ _ ⟨rfl, I1, rfl, hx1, hl1⟩
  have hT1 := hl1.tp hT
  have ll1 := ll.trans hl1
  refine k_beq f143_7 (fun g0 => ?_) (fun g0 => ?_)
  · refine k_aload f143_14 rfl ?_
    refine k_lconst (v := 6447474) f143_15 rfl ?_
    refine k_callv (as := [.long (6447474)]) (rest := []) f143_18 hS.o51 rfl rfl rfl rfl (q_isWl (w := [98, 97, 114]) (by decide +kernel) hR hS hT1 hx1 hqq ⟨by decide, by decide, by decide⟩) ?_
    rintro _ _ ⟨rfl, I2, rfl, hx2, hl2⟩
    have hT2 := hl2.tp hT1
    have ll2 := ll1.trans hl2
    refine k_beq f143_21 (fun g1 => ?_) (fun g1 => ?_)
    · refine k_aload f143_28 rfl ?_
      refine k_lconst (v := 1752132965) f143_29 rfl ?_
      refine k_callv (as := [.long (1752132965)]) (rest := []) f143_32 hS.o51 rfl rfl rfl rfl (q_isWl (w := [104, 111, 109, 101]) (by decide +kernel) hR hS hT2 hx2 hqq ⟨by decide, by decide, by decide⟩) ?_
      rintro _ _ ⟨rfl, I3, rfl, hx3, hl3⟩
      have hT3 := hl3.tp hT2
      have ll3 := ll2.trans hl3
      refine k_beq f143_35 (fun g2 => ?_) (fun g2 => ?_)
      · refine k_iconst (v := (-1)) f143_42 rfl ?_
        exact k_iret f143_43 rfl ⟨congrArg (fun t => some (Value.int t)) (by rw [wdV, wh_0, if_neg g0, if_neg g1, if_neg g2]; decide), I3, rfl, hx3, ll3⟩
      · refine k_iconst (v := 2) f143_38 rfl ?_
        refine k_goto f143_39 ?_
        exact k_iret f143_43 rfl ⟨congrArg (fun t => some (Value.int t)) (by rw [wdV, wh_0, if_neg g0, if_neg g1, if_pos g2]; decide), I3, rfl, hx3, ll3⟩
    · refine k_iconst (v := 1) f143_24 rfl ?_
      refine k_goto f143_25 ?_
      exact k_iret f143_43 rfl ⟨congrArg (fun t => some (Value.int t)) (by rw [wdV, wh_0, if_neg g0, if_pos g1]; decide), I2, rfl, hx2, ll2⟩
  · refine k_iconst (v := 0) f143_10 rfl ?_
    refine k_goto f143_11 ?_
    exact k_iret f143_43 rfl ⟨congrArg (fun t => some (Value.int t)) (by rw [wdV, wh_0, if_pos g0]; decide), I1, rfl, hx1, ll1⟩
