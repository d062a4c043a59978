/-! RULES, read in the reference: sums and comparisons. -/
theorem se_si {b : Nat → Nat} {n q c : Nat} (h : q < n → b q < 256) (hc : plS c) : seV b n q = nI c ↔ siT b n c (.inr q) = true := by
  by_cases hq : q < n
  · rw [se_eq (h hq) hc.1, siT_i hc]
  · refine ⟨fun z => ?_, fun z => absurd ((siT_i hc).mp z).1 hq⟩
    unfold seV at z
    rw [if_neg hq] at z
    exact absurd z.symm (nI_m1 (by have := hc.1; omega))
theorem RX.at {I : Nat → Nat → Int32} {n q r : Nat} (h : RX I n q) (hr : r ≤ n) : RX (z_u I 51 13 (nI r)) n r := ⟨z_u_same _ _ _ _, hr, (z_u_k _ _ _ (by decide)).trans h.2.2.1, (z_u_k _ _ _ (by decide)).trans h.2.2.2⟩
theorem RT.at {I : Nat → Nat → Int32} {t m L r : Nat} (h : RT I t m L) : RT (z_u I 51 13 (nI r)) t m L := ⟨(z_u_k _ _ _ (by decide)).trans h.1, (z_u_p _ _ _ _ (by decide)).trans h.2.1, (z_u_k _ _ _ (by decide)).trans h.2.2.1, h.2.2.2⟩
theorem RX.same {I I' : Nat → Nat → Int32} {n q : Nat} (h : RX I n q) (hs : ∀ p k, p ≠ 53 → p ≠ 54 → I' p k = I p k) : RX I' n q := ⟨(hs 51 13 (by decide) (by decide)).trans h.1, h.2.1, (hs 51 14 (by decide) (by decide)).trans h.2.2.1, (hs 51 1 (by decide) (by decide)).trans h.2.2.2⟩
theorem lp_termR {x : Nat × (Nat → Int32)} {d : Nat} {J : Nat → Nat → Int64} {R : Nat → Nat → Option Nat} {G : zG} {b : Nat → Nat} {n t : Nat} (hR : Rs R) (hS : Sh G) (ht : t < 6) : ∀ (f m p L : Nat) (I : Nat → Nat → Int32) (g : Value), 61 ≤ m + f → p ≤ n → L ≤ p → TP I b n → RD I b n t p m L → zOk x (d + 4) 130 9 [.ref 51, g] [] (I, J, R, G) (fun v mm => ∃ I', mm = (I', J, R, G) ∧ FDt t I I' ∧ PM I I' b n t L v (lpQ (fsS b n) (vaQ b n) b n f m p)) := by
  intro f
  induction f with
  | zero =>
    intro m p L I g hf hp hLp hT hd
    have := hd.2.2.2.2
    omega
  | succ f ih =>
    intro m p L I g hf hp hLp hT hd
    obtain ⟨⟨q0, hx, hq0⟩, hr⟩ := hd
    have h400 := hT.1
    have hq := bk_le (b := b) hp
    have hqq := bk_bk (b := b) hp
    have hm6 := hr.2.2.2
    have b8 : bk b n p < n → b (bk b n p) < 256 := fun h => (hT.2 _ (by omega)).1
    have e1 : plS 42 := ⟨by omega, by omega, by omega, by omega, by omega⟩
    have e2 : plS 47 := ⟨by omega, by omega, by omega, by omega, by omega⟩
    have s1 := se_si b8 e1
    have s2 := se_si b8 e2
    rw [lpQ_s]
    by_cases g1 : siT b n 42 (.inr (bk b n p)) = true
    · have es : fsS b n (bk b n p) = 4 := if_pos g1
      have hz : ¬ fsS b n (bk b n p) = 0 := by rw [es]; decide
      have qc := (siT_i e1).mp g1
      rw [if_neg hz, es]
      cases hv : vaQ b n m (bk b n p + 1) with
      | inl e =>
        rw [bdS_l rfl]
        refine k_aload f130_9 rfl ?_
        refine k_callv (as := []) (rest := []) f130_10 hS.o51 rfl rfl rfl rfl (q_see hR hS hT hx) ?_
        rintro _ _ ⟨rfl, I1, rfl, hx1, hl1⟩
        rw [hq0] at hx1
        rw [hq0]
        have hT1 := hl1.tp hT
        have hr1 := hr.lx hl1
        refine k_iconst (v := 42) f130_13 rfl ?_
        refine k_ic_eq f130_15 (fun _ => ?_) (fun h_ => absurd (s1.mpr g1) h_)
        refine k_aload f130_27 rfl ?_
        refine k_getr (q := 52) f130_28 hS.o51 rfl hR.r51_0 ?_
        refine k_aload f130_31 rfl ?_
        refine k_gI (w := nI (bk b n p)) f130_32 hS.o51 rfl hx1.1 ?_
        refine k_ba (k := (bk b n p)) (w := 42) f130_35 hS.a52 rfl (by omega) (by decide) ((hT1.2 _ (by omega)).2.2.trans (by rw [qc.2]; decide)) ?_
        refine k_iconst (v := 42) f130_36 rfl ?_
        refine k_ic_ne f130_38 (fun h_ => absurd (by decide) h_) (fun _ => ?_)
        refine k_iconst (v := 4) f130_41 rfl ?_
        refine k_goto f130_42 ?_
        refine k_istore (L' := [.ref 51, .int (4)]) f130_46 rfl rfl ?_
        refine k_aload f130_47 rfl ?_
        refine k_dup f130_48 ?_
        refine k_gI (w := nI (bk b n p)) f130_49 hS.o51 rfl hx1.1 ?_
        refine k_iconst (v := 1) f130_52 rfl ?_
        refine k_iadd f130_53 ?_
        rw [nI_1 (bk b n p)]
        refine k_putI f130_54 hS.o51 rfl ?_
        refine k_aload f130_57 rfl ?_
        refine k_callv (as := []) (rest := []) f130_58 hS.o51 rfl rfl rfl rfl (q_valR (d := d) (p := bk b n p + 1) hR hS ht (by omega) (by omega) (hT1.put (by decide) (by decide)) ⟨⟨_, hx1.at (by omega), rfl⟩, hr1.at⟩) ?_
        rintro v2 _ ⟨I2, rfl, hf2, hv2⟩
        rw [hv] at hv2
        obtain ⟨rfl, hn2⟩ := hv2
        refine k_if_ne f130_61 (fun h_ => absurd (by decide) h_) (fun _ => ?_)
        refine k_iconst (v := 0) f130_64 rfl ?_
        exact k_iret f130_65 (by decide) ⟨_, rfl, ((hl1.fd).put (by omega)).trans hf2, rfl, hn2⟩
      | inr z =>
        rw [bdS_r rfl]
        obtain ⟨z1, z2, z3, z4, z5, z6⟩ := (va_ok (b := b) (n := n) m (bk b n p + 1) hm6 (by omega)).1 z hv
        have hl : (z.1 ++ [((4, 0) : It)]).length = z.1.length + 1 := by rw [List.length_append]; rfl
        refine k_aload f130_9 rfl ?_
        refine k_callv (as := []) (rest := []) f130_10 hS.o51 rfl rfl rfl rfl (q_see hR hS hT hx) ?_
        rintro _ _ ⟨rfl, I1, rfl, hx1, hl1⟩
        rw [hq0] at hx1
        rw [hq0]
        have hT1 := hl1.tp hT
        have hr1 := hr.lx hl1
        refine k_iconst (v := 42) f130_13 rfl ?_
        refine k_ic_eq f130_15 (fun _ => ?_) (fun h_ => absurd (s1.mpr g1) h_)
        refine k_aload f130_27 rfl ?_
        refine k_getr (q := 52) f130_28 hS.o51 rfl hR.r51_0 ?_
        refine k_aload f130_31 rfl ?_
        refine k_gI (w := nI (bk b n p)) f130_32 hS.o51 rfl hx1.1 ?_
        refine k_ba (k := (bk b n p)) (w := 42) f130_35 hS.a52 rfl (by omega) (by decide) ((hT1.2 _ (by omega)).2.2.trans (by rw [qc.2]; decide)) ?_
        refine k_iconst (v := 42) f130_36 rfl ?_
        refine k_ic_ne f130_38 (fun h_ => absurd (by decide) h_) (fun _ => ?_)
        refine k_iconst (v := 4) f130_41 rfl ?_
        refine k_goto f130_42 ?_
        refine k_istore (L' := [.ref 51, .int (4)]) f130_46 rfl rfl ?_
        refine k_aload f130_47 rfl ?_
        refine k_dup f130_48 ?_
        refine k_gI (w := nI (bk b n p)) f130_49 hS.o51 rfl hx1.1 ?_
        refine k_iconst (v := 1) f130_52 rfl ?_
        refine k_iadd f130_53 ?_
        rw [nI_1 (bk b n p)]
        refine k_putI f130_54 hS.o51 rfl ?_
        refine k_aload f130_57 rfl ?_
        refine k_callv (as := []) (rest := []) f130_58 hS.o51 rfl rfl rfl rfl (q_valR (d := d) (p := bk b n p + 1) hR hS ht (by omega) (by omega) (hT1.put (by decide) (by decide)) ⟨⟨_, hx1.at (by omega), rfl⟩, hr1.at⟩) ?_
        rintro v2 _ ⟨I2, rfl, hf2, hv2⟩
        rw [hv] at hv2
        obtain ⟨rfl, hd2, ha2⟩ := hv2
        refine k_if_ne f130_61 (fun _ => ?_) (fun h_ => absurd (by decide) h_)
        refine k_aload f130_66 rfl ?_
        refine k_iload f130_67 rfl ?_
        refine k_iconst (v := 0) f130_68 rfl ?_
        refine k_callv (as := [.int (0), .int (4)]) (rest := []) f130_69 hS.o51 rfl rfl rfl rfl (q_puts (it := (4, 0)) rfl rfl hR hS hd2.2 ht (by omega)) ?_
        rintro _ _ ⟨rfl, I3, rfl, hf3, hs3, hr3, ha3⟩
        refine k_goto f130_72 ?_
        have hfa := (((hl1.fd).put (v := nI (bk b n p + 1)) (q := 51) (j := 13) (by omega)).trans hf2).trans hf3
        have da : DA I I3 t L (z.1 ++ [(4, 0)]) := (ha2.l (fun i => (z_u_p _ _ _ _ (by decide)).trans ((hl1 53 i (by omega))))).app ha3
        obtain ⟨⟨q4, hx4, hq4⟩, hr5⟩ := hd2
        refine zOk.imp (ih z.2.1 z.2.2 (L + (z.1 ++ [(4, 0)]).length) I3 _ (by omega) z3 (by rw [hl]; omega) (hfa.tp hT) ⟨⟨q4, hx4.same hs3, hq4⟩, by rw [hl]; exact hr3⟩) ?_
        rintro v _ ⟨I', rfl, hf, h⟩
        exact ⟨I', rfl, hfa.trans hf, PM.app da h⟩
    · by_cases g2 : siT b n 47 (.inr (bk b n p)) = true
      · have es : fsS b n (bk b n p) = 5 := (if_neg g1).trans (if_pos g2)
        have hz : ¬ fsS b n (bk b n p) = 0 := by rw [es]; decide
        have qc := (siT_i e2).mp g2
        rw [if_neg hz, es]
        cases hv : vaQ b n m (bk b n p + 1) with
        | inl e =>
          rw [bdS_l rfl]
          refine k_aload f130_9 rfl ?_
          refine k_callv (as := []) (rest := []) f130_10 hS.o51 rfl rfl rfl rfl (q_see hR hS hT hx) ?_
          rintro _ _ ⟨rfl, I1, rfl, hx1, hl1⟩
          rw [hq0] at hx1
          rw [hq0]
          have hT1 := hl1.tp hT
          have hr1 := hr.lx hl1
          refine k_iconst (v := 42) f130_13 rfl ?_
          refine k_ic_eq f130_15 (fun h_ => absurd h_ (fun z => g1 (s1.mp z))) (fun _ => ?_)
          refine k_aload f130_18 rfl ?_
          refine k_callv (as := []) (rest := []) f130_19 hS.o51 rfl rfl rfl rfl (q_see hR hS hT1 hx1) ?_
          rintro _ _ ⟨rfl, I2, rfl, hx2, hl2⟩
          rw [hqq] at hx2
          rw [hqq]
          have hT2 := hl2.tp hT1
          have hr2 := hr1.lx hl2
          refine k_iconst (v := 47) f130_22 rfl ?_
          refine k_ic_ne f130_24 (fun h_ => absurd (s2.mpr g2) h_) (fun _ => ?_)
          refine k_aload f130_27 rfl ?_
          refine k_getr (q := 52) f130_28 hS.o51 rfl hR.r51_0 ?_
          refine k_aload f130_31 rfl ?_
          refine k_gI (w := nI (bk b n p)) f130_32 hS.o51 rfl hx2.1 ?_
          refine k_ba (k := (bk b n p)) (w := 47) f130_35 hS.a52 rfl (by omega) (by decide) ((hT2.2 _ (by omega)).2.2.trans (by rw [qc.2]; decide)) ?_
          refine k_iconst (v := 42) f130_36 rfl ?_
          refine k_ic_ne f130_38 (fun _ => ?_) (fun h_ => absurd (by decide) h_)
          refine k_iconst (v := 5) f130_45 rfl ?_
          refine k_istore (L' := [.ref 51, .int (5)]) f130_46 rfl rfl ?_
          refine k_aload f130_47 rfl ?_
          refine k_dup f130_48 ?_
          refine k_gI (w := nI (bk b n p)) f130_49 hS.o51 rfl hx2.1 ?_
          refine k_iconst (v := 1) f130_52 rfl ?_
          refine k_iadd f130_53 ?_
          rw [nI_1 (bk b n p)]
          refine k_putI f130_54 hS.o51 rfl ?_
          refine k_aload f130_57 rfl ?_
          refine k_callv (as := []) (rest := []) f130_58 hS.o51 rfl rfl rfl rfl (q_valR (d := d) (p := bk b n p + 1) hR hS ht (by omega) (by omega) (hT2.put (by decide) (by decide)) ⟨⟨_, hx2.at (by omega), rfl⟩, hr2.at⟩) ?_
          rintro v3 _ ⟨I3, rfl, hf3, hv3⟩
          rw [hv] at hv3
          obtain ⟨rfl, hn3⟩ := hv3
          refine k_if_ne f130_61 (fun h_ => absurd (by decide) h_) (fun _ => ?_)
          refine k_iconst (v := 0) f130_64 rfl ?_
          exact k_iret f130_65 (by decide) ⟨_, rfl, (((hl1.trans hl2).fd).put (by omega)).trans hf3, rfl, hn3⟩
        | inr z =>
          rw [bdS_r rfl]
          obtain ⟨z1, z2, z3, z4, z5, z6⟩ := (va_ok (b := b) (n := n) m (bk b n p + 1) hm6 (by omega)).1 z hv
          have hl : (z.1 ++ [((5, 0) : It)]).length = z.1.length + 1 := by rw [List.length_append]; rfl
          refine k_aload f130_9 rfl ?_
          refine k_callv (as := []) (rest := []) f130_10 hS.o51 rfl rfl rfl rfl (q_see hR hS hT hx) ?_
          rintro _ _ ⟨rfl, I1, rfl, hx1, hl1⟩
          rw [hq0] at hx1
          rw [hq0]
          have hT1 := hl1.tp hT
          have hr1 := hr.lx hl1
          refine k_iconst (v := 42) f130_13 rfl ?_
          refine k_ic_eq f130_15 (fun h_ => absurd h_ (fun z => g1 (s1.mp z))) (fun _ => ?_)
          refine k_aload f130_18 rfl ?_
          refine k_callv (as := []) (rest := []) f130_19 hS.o51 rfl rfl rfl rfl (q_see hR hS hT1 hx1) ?_
          rintro _ _ ⟨rfl, I2, rfl, hx2, hl2⟩
          rw [hqq] at hx2
          rw [hqq]
          have hT2 := hl2.tp hT1
          have hr2 := hr1.lx hl2
          refine k_iconst (v := 47) f130_22 rfl ?_
          refine k_ic_ne f130_24 (fun h_ => absurd (s2.mpr g2) h_) (fun _ => ?_)
          refine k_aload f130_27 rfl ?_
          refine k_getr (q := 52) f130_28 hS.o51 rfl hR.r51_0 ?_
          refine k_aload f130_31 rfl ?_
          refine k_gI (w := nI (bk b n p)) f130_32 hS.o51 rfl hx2.1 ?_
          refine k_ba (k := (bk b n p)) (w := 47) f130_35 hS.a52 rfl (by omega) (by decide) ((hT2.2 _ (by omega)).2.2.trans (by rw [qc.2]; decide)) ?_
          refine k_iconst (v := 42) f130_36 rfl ?_
          refine k_ic_ne f130_38 (fun _ => ?_) (fun h_ => absurd (by decide) h_)
          refine k_iconst (v := 5) f130_45 rfl ?_
          refine k_istore (L' := [.ref 51, .int (5)]) f130_46 rfl rfl ?_
          refine k_aload f130_47 rfl ?_
          refine k_dup f130_48 ?_
          refine k_gI (w := nI (bk b n p)) f130_49 hS.o51 rfl hx2.1 ?_
          refine k_iconst (v := 1) f130_52 rfl ?_
          refine k_iadd f130_53 ?_
          rw [nI_1 (bk b n p)]
          refine k_putI f130_54 hS.o51 rfl ?_
          refine k_aload f130_57 rfl ?_
          refine k_callv (as := []) (rest := []) f130_58 hS.o51 rfl rfl rfl rfl (q_valR (d := d) (p := bk b n p + 1) hR hS ht (by omega) (by omega) (hT2.put (by decide) (by decide)) ⟨⟨_, hx2.at (by omega), rfl⟩, hr2.at⟩) ?_
          rintro v3 _ ⟨I3, rfl, hf3, hv3⟩
          rw [hv] at hv3
          obtain ⟨rfl, hd3, ha3⟩ := hv3
          refine k_if_ne f130_61 (fun _ => ?_) (fun h_ => absurd (by decide) h_)
          refine k_aload f130_66 rfl ?_
          refine k_iload f130_67 rfl ?_
          refine k_iconst (v := 0) f130_68 rfl ?_
          refine k_callv (as := [.int (0), .int (5)]) (rest := []) f130_69 hS.o51 rfl rfl rfl rfl (q_puts (it := (5, 0)) rfl rfl hR hS hd3.2 ht (by omega)) ?_
          rintro _ _ ⟨rfl, I4, rfl, hf4, hs4, hr4, ha4⟩
          refine k_goto f130_72 ?_
          have hfa := ((((hl1.trans hl2).fd).put (v := nI (bk b n p + 1)) (q := 51) (j := 13) (by omega)).trans hf3).trans hf4
          have da : DA I I4 t L (z.1 ++ [(5, 0)]) := (ha3.l (fun i => (z_u_p _ _ _ _ (by decide)).trans (((hl1.trans hl2) 53 i (by omega))))).app ha4
          obtain ⟨⟨q4, hx4, hq4⟩, hr5⟩ := hd3
          refine zOk.imp (ih z.2.1 z.2.2 (L + (z.1 ++ [(5, 0)]).length) I4 _ (by omega) z3 (by rw [hl]; omega) (hfa.tp hT) ⟨⟨q4, hx4.same hs4, hq4⟩, by rw [hl]; exact hr4⟩) ?_
          rintro v _ ⟨I', rfl, hf, h⟩
          exact ⟨I', rfl, hfa.trans hf, PM.app da h⟩
      · have es : fsS b n (bk b n p) = 0 := (if_neg g1).trans (if_neg g2)
        rw [if_pos es]
        refine k_aload f130_9 rfl ?_
        refine k_callv (as := []) (rest := []) f130_10 hS.o51 rfl rfl rfl rfl (q_see hR hS hT hx) ?_
        rintro _ _ ⟨rfl, I1, rfl, hx1, hl1⟩
        rw [hq0] at hx1
        rw [hq0]
        have hT1 := hl1.tp hT
        have hr1 := hr.lx hl1
        refine k_iconst (v := 42) f130_13 rfl ?_
        refine k_ic_eq f130_15 (fun h_ => absurd h_ (fun z => g1 (s1.mp z))) (fun _ => ?_)
        refine k_aload f130_18 rfl ?_
        refine k_callv (as := []) (rest := []) f130_19 hS.o51 rfl rfl rfl rfl (q_see hR hS hT1 hx1) ?_
        rintro _ _ ⟨rfl, I2, rfl, hx2, hl2⟩
        rw [hqq] at hx2
        rw [hqq]
        have hT2 := hl2.tp hT1
        have hr2 := hr1.lx hl2
        refine k_iconst (v := 47) f130_22 rfl ?_
        refine k_ic_ne f130_24 (fun _ => ?_) (fun h_ => absurd (fun z => g2 (s2.mp z)) h_)
        refine k_iconst (v := 1) f130_75 rfl ?_
        exact k_iret f130_76 (by decide) ⟨_, rfl, (hl1.trans hl2).fd, rfl, ⟨⟨_, hx2, hqq⟩, hr2⟩, DA.nil (fun i => (hl1.trans hl2) 53 i (by omega))⟩
theorem q_termR {x : Nat × (Nat → Int32)} {d : Nat} {I : Nat → Nat → Int32} {J : Nat → Nat → Int64} {R : Nat → Nat → Option Nat} {G : zG} {b : Nat → Nat} {n t p m L : Nat} (hR : Rs R) (hS : Sh G) (ht : t < 6) (hp : p ≤ n) (hLp : L ≤ p) (hT : TP I b n) (hd : RD I b n t p m L) : zOk x (d + 4) 130 0 [.ref 51, zU] [] (I, J, R, G) (fun v mm => ∃ I', mm = (I', J, R, G) ∧ FDt t I I' ∧ PM I I' b n t L v (tmQ b n m p)) := by
  have hm6 := hd.2.2.2.2
  show zOk x (d + 4) 130 0 _ [] _ (fun v mm => ∃ I', mm = (I', J, R, G) ∧ FDt t I I' ∧ PM I I' b n t L v (fwQ (fsS b n) (vaQ b n) b n m p))
  rw [fwQ]
  cases hv : vaQ b n m p with
  | inl e =>
    rw [bdS_l rfl]
    refine k_aload f130_0 rfl ?_
    refine k_callv (as := []) (rest := []) f130_1 hS.o51 rfl rfl rfl rfl (q_valR (d := d) (p := p) hR hS ht hp hLp hT hd) ?_
    rintro v1 _ ⟨I1, rfl, hf1, hv1⟩
    rw [hv] at hv1
    obtain ⟨rfl, hn1⟩ := hv1
    refine k_if_ne f130_4 (fun h_ => absurd (by decide) h_) (fun _ => ?_)
    refine k_iconst (v := 0) f130_7 rfl ?_
    exact k_iret f130_8 (by decide) ⟨_, rfl, hf1, rfl, hn1⟩
  | inr z =>
    rw [bdS_r rfl]
    obtain ⟨z1, z2, z3, z4, z5, z6⟩ := (va_ok (b := b) (n := n) m p hm6 hp).1 z hv
    refine k_aload f130_0 rfl ?_
    refine k_callv (as := []) (rest := []) f130_1 hS.o51 rfl rfl rfl rfl (q_valR (d := d) (p := p) hR hS ht hp hLp hT hd) ?_
    rintro v1 _ ⟨I1, rfl, hf1, hv1⟩
    rw [hv] at hv1
    obtain ⟨rfl, hd1, ha1⟩ := hv1
    refine k_if_ne f130_4 (fun _ => ?_) (fun h_ => absurd (by decide) h_)
    refine zOk.imp (lp_termR (d := d) hR hS ht 61 z.2.1 z.2.2 (L + z.1.length) I1 _ (by omega) z3 (by omega) (hf1.tp hT) hd1) ?_
    rintro v _ ⟨I', rfl, hf, h⟩
    exact ⟨I', rfl, hf1.trans hf, PM.app ha1 h⟩
theorem lp_sumR {x : Nat × (Nat → Int32)} {d : Nat} {J : Nat → Nat → Int64} {R : Nat → Nat → Option Nat} {G : zG} {b : Nat → Nat} {n t : Nat} (hR : Rs R) (hS : Sh G) (ht : t < 6) : ∀ (f m p L : Nat) (I : Nat → Nat → Int32) (g : Value), 61 ≤ m + f → p ≤ n → L ≤ p → TP I b n → RD I b n t p m L → zOk x (d + 5) 131 9 [.ref 51, g] [] (I, J, R, G) (fun v mm => ∃ I', mm = (I', J, R, G) ∧ FDt t I I' ∧ PM I I' b n t L v (lpQ (tsS b n) (tmQ b n) b n f m p)) := by
  intro f
  induction f with
  | zero =>
    intro m p L I g hf hp hLp hT hd
    have := hd.2.2.2.2
    omega
  | succ f ih =>
    intro m p L I g hf hp hLp hT hd
    obtain ⟨⟨q0, hx, hq0⟩, hr⟩ := hd
    have h400 := hT.1
    have hq := bk_le (b := b) hp
    have hqq := bk_bk (b := b) hp
    have hm6 := hr.2.2.2
    have b8 : bk b n p < n → b (bk b n p) < 256 := fun h => (hT.2 _ (by omega)).1
    have e1 : plS 43 := ⟨by omega, by omega, by omega, by omega, by omega⟩
    have e2 : plS 45 := ⟨by omega, by omega, by omega, by omega, by omega⟩
    have s1 := se_si b8 e1
    have s2 := se_si b8 e2
    rw [lpQ_s]
    by_cases g1 : siT b n 43 (.inr (bk b n p)) = true
    · have es : tsS b n (bk b n p) = 2 := if_pos g1
      have hz : ¬ tsS b n (bk b n p) = 0 := by rw [es]; decide
      have qc := (siT_i e1).mp g1
      rw [if_neg hz, es]
      cases hv : tmQ b n m (bk b n p + 1) with
      | inl e =>
        rw [bdS_l rfl]
        refine k_aload f131_9 rfl ?_
        refine k_callv (as := []) (rest := []) f131_10 hS.o51 rfl rfl rfl rfl (q_see hR hS hT hx) ?_
        rintro _ _ ⟨rfl, I1, rfl, hx1, hl1⟩
        rw [hq0] at hx1
        rw [hq0]
        have hT1 := hl1.tp hT
        have hr1 := hr.lx hl1
        refine k_iconst (v := 43) f131_13 rfl ?_
        refine k_ic_eq f131_15 (fun _ => ?_) (fun h_ => absurd (s1.mpr g1) h_)
        refine k_aload f131_27 rfl ?_
        refine k_getr (q := 52) f131_28 hS.o51 rfl hR.r51_0 ?_
        refine k_aload f131_31 rfl ?_
        refine k_gI (w := nI (bk b n p)) f131_32 hS.o51 rfl hx1.1 ?_
        refine k_ba (k := (bk b n p)) (w := 43) f131_35 hS.a52 rfl (by omega) (by decide) ((hT1.2 _ (by omega)).2.2.trans (by rw [qc.2]; decide)) ?_
        refine k_iconst (v := 43) f131_36 rfl ?_
        refine k_ic_ne f131_38 (fun h_ => absurd (by decide) h_) (fun _ => ?_)
        refine k_iconst (v := 2) f131_41 rfl ?_
        refine k_goto f131_42 ?_
        refine k_istore (L' := [.ref 51, .int (2)]) f131_46 rfl rfl ?_
        refine k_aload f131_47 rfl ?_
        refine k_dup f131_48 ?_
        refine k_gI (w := nI (bk b n p)) f131_49 hS.o51 rfl hx1.1 ?_
        refine k_iconst (v := 1) f131_52 rfl ?_
        refine k_iadd f131_53 ?_
        rw [nI_1 (bk b n p)]
        refine k_putI f131_54 hS.o51 rfl ?_
        refine k_aload f131_57 rfl ?_
        refine k_callv (as := []) (rest := []) f131_58 hS.o51 rfl rfl rfl rfl (q_termR (d := d) (p := bk b n p + 1) hR hS ht (by omega) (by omega) (hT1.put (by decide) (by decide)) ⟨⟨_, hx1.at (by omega), rfl⟩, hr1.at⟩) ?_
        rintro v2 _ ⟨I2, rfl, hf2, hv2⟩
        rw [hv] at hv2
        obtain ⟨rfl, hn2⟩ := hv2
        refine k_if_ne f131_61 (fun h_ => absurd (by decide) h_) (fun _ => ?_)
        refine k_iconst (v := 0) f131_64 rfl ?_
        exact k_iret f131_65 (by decide) ⟨_, rfl, ((hl1.fd).put (by omega)).trans hf2, rfl, hn2⟩
      | inr z =>
        rw [bdS_r rfl]
        obtain ⟨z1, z2, z3, z4, z5, z6⟩ := (tm_ok (b := b) (n := n) m (bk b n p + 1) hm6 (by omega)).1 z hv
        have hl : (z.1 ++ [((2, 0) : It)]).length = z.1.length + 1 := by rw [List.length_append]; rfl
        refine k_aload f131_9 rfl ?_
        refine k_callv (as := []) (rest := []) f131_10 hS.o51 rfl rfl rfl rfl (q_see hR hS hT hx) ?_
        rintro _ _ ⟨rfl, I1, rfl, hx1, hl1⟩
        rw [hq0] at hx1
        rw [hq0]
        have hT1 := hl1.tp hT
        have hr1 := hr.lx hl1
        refine k_iconst (v := 43) f131_13 rfl ?_
        refine k_ic_eq f131_15 (fun _ => ?_) (fun h_ => absurd (s1.mpr g1) h_)
        refine k_aload f131_27 rfl ?_
        refine k_getr (q := 52) f131_28 hS.o51 rfl hR.r51_0 ?_
        refine k_aload f131_31 rfl ?_
        refine k_gI (w := nI (bk b n p)) f131_32 hS.o51 rfl hx1.1 ?_
        refine k_ba (k := (bk b n p)) (w := 43) f131_35 hS.a52 rfl (by omega) (by decide) ((hT1.2 _ (by omega)).2.2.trans (by rw [qc.2]; decide)) ?_
        refine k_iconst (v := 43) f131_36 rfl ?_
        refine k_ic_ne f131_38 (fun h_ => absurd (by decide) h_) (fun _ => ?_)
        refine k_iconst (v := 2) f131_41 rfl ?_
        refine k_goto f131_42 ?_
        refine k_istore (L' := [.ref 51, .int (2)]) f131_46 rfl rfl ?_
        refine k_aload f131_47 rfl ?_
        refine k_dup f131_48 ?_
        refine k_gI (w := nI (bk b n p)) f131_49 hS.o51 rfl hx1.1 ?_
        refine k_iconst (v := 1) f131_52 rfl ?_
        refine k_iadd f131_53 ?_
        rw [nI_1 (bk b n p)]
        refine k_putI f131_54 hS.o51 rfl ?_
        refine k_aload f131_57 rfl ?_
        refine k_callv (as := []) (rest := []) f131_58 hS.o51 rfl rfl rfl rfl (q_termR (d := d) (p := bk b n p + 1) hR hS ht (by omega) (by omega) (hT1.put (by decide) (by decide)) ⟨⟨_, hx1.at (by omega), rfl⟩, hr1.at⟩) ?_
        rintro v2 _ ⟨I2, rfl, hf2, hv2⟩
        rw [hv] at hv2
        obtain ⟨rfl, hd2, ha2⟩ := hv2
        refine k_if_ne f131_61 (fun _ => ?_) (fun h_ => absurd (by decide) h_)
        refine k_aload f131_66 rfl ?_
        refine k_iload f131_67 rfl ?_
        refine k_iconst (v := 0) f131_68 rfl ?_
        refine k_callv (as := [.int (0), .int (2)]) (rest := []) f131_69 hS.o51 rfl rfl rfl rfl (q_puts (it := (2, 0)) rfl rfl hR hS hd2.2 ht (by omega)) ?_
        rintro _ _ ⟨rfl, I3, rfl, hf3, hs3, hr3, ha3⟩
        refine k_goto f131_72 ?_
        have hfa := (((hl1.fd).put (v := nI (bk b n p + 1)) (q := 51) (j := 13) (by omega)).trans hf2).trans hf3
        have da : DA I I3 t L (z.1 ++ [(2, 0)]) := (ha2.l (fun i => (z_u_p _ _ _ _ (by decide)).trans ((hl1 53 i (by omega))))).app ha3
        obtain ⟨⟨q4, hx4, hq4⟩, hr5⟩ := hd2
        refine zOk.imp (ih z.2.1 z.2.2 (L + (z.1 ++ [(2, 0)]).length) I3 _ (by omega) z3 (by rw [hl]; omega) (hfa.tp hT) ⟨⟨q4, hx4.same hs3, hq4⟩, by rw [hl]; exact hr3⟩) ?_
        rintro v _ ⟨I', rfl, hf, h⟩
        exact ⟨I', rfl, hfa.trans hf, PM.app da h⟩
    · by_cases g2 : siT b n 45 (.inr (bk b n p)) = true
      · have es : tsS b n (bk b n p) = 3 := (if_neg g1).trans (if_pos g2)
        have hz : ¬ tsS b n (bk b n p) = 0 := by rw [es]; decide
        have qc := (siT_i e2).mp g2
        rw [if_neg hz, es]
        cases hv : tmQ b n m (bk b n p + 1) with
        | inl e =>
          rw [bdS_l rfl]
          refine k_aload f131_9 rfl ?_
          refine k_callv (as := []) (rest := []) f131_10 hS.o51 rfl rfl rfl rfl (q_see hR hS hT hx) ?_
          rintro _ _ ⟨rfl, I1, rfl, hx1, hl1⟩
          rw [hq0] at hx1
          rw [hq0]
          have hT1 := hl1.tp hT
          have hr1 := hr.lx hl1
          refine k_iconst (v := 43) f131_13 rfl ?_
          refine k_ic_eq f131_15 (fun h_ => absurd h_ (fun z => g1 (s1.mp z))) (fun _ => ?_)
          refine k_aload f131_18 rfl ?_
          refine k_callv (as := []) (rest := []) f131_19 hS.o51 rfl rfl rfl rfl (q_see hR hS hT1 hx1) ?_
          rintro _ _ ⟨rfl, I2, rfl, hx2, hl2⟩
          rw [hqq] at hx2
          rw [hqq]
          have hT2 := hl2.tp hT1
          have hr2 := hr1.lx hl2
          refine k_iconst (v := 45) f131_22 rfl ?_
          refine k_ic_ne f131_24 (fun h_ => absurd (s2.mpr g2) h_) (fun _ => ?_)
          refine k_aload f131_27 rfl ?_
          refine k_getr (q := 52) f131_28 hS.o51 rfl hR.r51_0 ?_
          refine k_aload f131_31 rfl ?_
          refine k_gI (w := nI (bk b n p)) f131_32 hS.o51 rfl hx2.1 ?_
          refine k_ba (k := (bk b n p)) (w := 45) f131_35 hS.a52 rfl (by omega) (by decide) ((hT2.2 _ (by omega)).2.2.trans (by rw [qc.2]; decide)) ?_
          refine k_iconst (v := 43) f131_36 rfl ?_
          refine k_ic_ne f131_38 (fun _ => ?_) (fun h_ => absurd (by decide) h_)
          refine k_iconst (v := 3) f131_45 rfl ?_
          refine k_istore (L' := [.ref 51, .int (3)]) f131_46 rfl rfl ?_
          refine k_aload f131_47 rfl ?_
          refine k_dup f131_48 ?_
          refine k_gI (w := nI (bk b n p)) f131_49 hS.o51 rfl hx2.1 ?_
          refine k_iconst (v := 1) f131_52 rfl ?_
          refine k_iadd f131_53 ?_
          rw [nI_1 (bk b n p)]
          refine k_putI f131_54 hS.o51 rfl ?_
          refine k_aload f131_57 rfl ?_
          refine k_callv (as := []) (rest := []) f131_58 hS.o51 rfl rfl rfl rfl (q_termR (d := d) (p := bk b n p + 1) hR hS ht (by omega) (by omega) (hT2.put (by decide) (by decide)) ⟨⟨_, hx2.at (by omega), rfl⟩, hr2.at⟩) ?_
          rintro v3 _ ⟨I3, rfl, hf3, hv3⟩
          rw [hv] at hv3
          obtain ⟨rfl, hn3⟩ := hv3
          refine k_if_ne f131_61 (fun h_ => absurd (by decide) h_) (fun _ => ?_)
          refine k_iconst (v := 0) f131_64 rfl ?_
          exact k_iret f131_65 (by decide) ⟨_, rfl, (((hl1.trans hl2).fd).put (by omega)).trans hf3, rfl, hn3⟩
        | inr z =>
          rw [bdS_r rfl]
          obtain ⟨z1, z2, z3, z4, z5, z6⟩ := (tm_ok (b := b) (n := n) m (bk b n p + 1) hm6 (by omega)).1 z hv
          have hl : (z.1 ++ [((3, 0) : It)]).length = z.1.length + 1 := by rw [List.length_append]; rfl
          refine k_aload f131_9 rfl ?_
          refine k_callv (as := []) (rest := []) f131_10 hS.o51 rfl rfl rfl rfl (q_see hR hS hT hx) ?_
          rintro _ _ ⟨rfl, I1, rfl, hx1, hl1⟩
          rw [hq0] at hx1
          rw [hq0]
          have hT1 := hl1.tp hT
          have hr1 := hr.lx hl1
          refine k_iconst (v := 43) f131_13 rfl ?_
          refine k_ic_eq f131_15 (fun h_ => absurd h_ (fun z => g1 (s1.mp z))) (fun _ => ?_)
          refine k_aload f131_18 rfl ?_
          refine k_callv (as := []) (rest := []) f131_19 hS.o51 rfl rfl rfl rfl (q_see hR hS hT1 hx1) ?_
          rintro _ _ ⟨rfl, I2, rfl, hx2, hl2⟩
          rw [hqq] at hx2
          rw [hqq]
          have hT2 := hl2.tp hT1
          have hr2 := hr1.lx hl2
          refine k_iconst (v := 45) f131_22 rfl ?_
          refine k_ic_ne f131_24 (fun h_ => absurd (s2.mpr g2) h_) (fun _ => ?_)
          refine k_aload f131_27 rfl ?_
          refine k_getr (q := 52) f131_28 hS.o51 rfl hR.r51_0 ?_
          refine k_aload f131_31 rfl ?_
          refine k_gI (w := nI (bk b n p)) f131_32 hS.o51 rfl hx2.1 ?_
          refine k_ba (k := (bk b n p)) (w := 45) f131_35 hS.a52 rfl (by omega) (by decide) ((hT2.2 _ (by omega)).2.2.trans (by rw [qc.2]; decide)) ?_
          refine k_iconst (v := 43) f131_36 rfl ?_
          refine k_ic_ne f131_38 (fun _ => ?_) (fun h_ => absurd (by decide) h_)
          refine k_iconst (v := 3) f131_45 rfl ?_
          refine k_istore (L' := [.ref 51, .int (3)]) f131_46 rfl rfl ?_
          refine k_aload f131_47 rfl ?_
          refine k_dup f131_48 ?_
          refine k_gI (w := nI (bk b n p)) f131_49 hS.o51 rfl hx2.1 ?_
          refine k_iconst (v := 1) f131_52 rfl ?_
          refine k_iadd f131_53 ?_
          rw [nI_1 (bk b n p)]
          refine k_putI f131_54 hS.o51 rfl ?_
          refine k_aload f131_57 rfl ?_
          refine k_callv (as := []) (rest := []) f131_58 hS.o51 rfl rfl rfl rfl (q_termR (d := d) (p := bk b n p + 1) hR hS ht (by omega) (by omega) (hT2.put (by decide) (by decide)) ⟨⟨_, hx2.at (by omega), rfl⟩, hr2.at⟩) ?_
          rintro v3 _ ⟨I3, rfl, hf3, hv3⟩
          rw [hv] at hv3
          obtain ⟨rfl, hd3, ha3⟩ := hv3
          refine k_if_ne f131_61 (fun _ => ?_) (fun h_ => absurd (by decide) h_)
          refine k_aload f131_66 rfl ?_
          refine k_iload f131_67 rfl ?_
          refine k_iconst (v := 0) f131_68 rfl ?_
          refine k_callv (as := [.int (0), .int (3)]) (rest := []) f131_69 hS.o51 rfl rfl rfl rfl (q_puts (it := (3, 0)) rfl rfl hR hS hd3.2 ht (by omega)) ?_
          rintro _ _ ⟨rfl, I4, rfl, hf4, hs4, hr4, ha4⟩
          refine k_goto f131_72 ?_
          have hfa := ((((hl1.trans hl2).fd).put (v := nI (bk b n p + 1)) (q := 51) (j := 13) (by omega)).trans hf3).trans hf4
          have da : DA I I4 t L (z.1 ++ [(3, 0)]) := (ha3.l (fun i => (z_u_p _ _ _ _ (by decide)).trans (((hl1.trans hl2) 53 i (by omega))))).app ha4
          obtain ⟨⟨q4, hx4, hq4⟩, hr5⟩ := hd3
          refine zOk.imp (ih z.2.1 z.2.2 (L + (z.1 ++ [(3, 0)]).length) I4 _ (by omega) z3 (by rw [hl]; omega) (hfa.tp hT) ⟨⟨q4, hx4.same hs4, hq4⟩, by rw [hl]; exact hr4⟩) ?_
          rintro v _ ⟨I', rfl, hf, h⟩
          exact ⟨I', rfl, hfa.trans hf, PM.app da h⟩
      · have es : tsS b n (bk b n p) = 0 := (if_neg g1).trans (if_neg g2)
        rw [if_pos es]
        refine k_aload f131_9 rfl ?_
        refine k_callv (as := []) (rest := []) f131_10 hS.o51 rfl rfl rfl rfl (q_see hR hS hT hx) ?_
        rintro _ _ ⟨rfl, I1, rfl, hx1, hl1⟩
        rw [hq0] at hx1
        rw [hq0]
        have hT1 := hl1.tp hT
        have hr1 := hr.lx hl1
        refine k_iconst (v := 43) f131_13 rfl ?_
        refine k_ic_eq f131_15 (fun h_ => absurd h_ (fun z => g1 (s1.mp z))) (fun _ => ?_)
        refine k_aload f131_18 rfl ?_
        refine k_callv (as := []) (rest := []) f131_19 hS.o51 rfl rfl rfl rfl (q_see hR hS hT1 hx1) ?_
        rintro _ _ ⟨rfl, I2, rfl, hx2, hl2⟩
        rw [hqq] at hx2
        rw [hqq]
        have hT2 := hl2.tp hT1
        have hr2 := hr1.lx hl2
        refine k_iconst (v := 45) f131_22 rfl ?_
        refine k_ic_ne f131_24 (fun _ => ?_) (fun h_ => absurd (fun z => g2 (s2.mp z)) h_)
        refine k_iconst (v := 1) f131_75 rfl ?_
        exact k_iret f131_76 (by decide) ⟨_, rfl, (hl1.trans hl2).fd, rfl, ⟨⟨_, hx2, hqq⟩, hr2⟩, DA.nil (fun i => (hl1.trans hl2) 53 i (by omega))⟩
theorem q_sumR {x : Nat × (Nat → Int32)} {d : Nat} {I : Nat → Nat → Int32} {J : Nat → Nat → Int64} {R : Nat → Nat → Option Nat} {G : zG} {b : Nat → Nat} {n t p m L : Nat} (hR : Rs R) (hS : Sh G) (ht : t < 6) (hp : p ≤ n) (hLp : L ≤ p) (hT : TP I b n) (hd : RD I b n t p m L) : zOk x (d + 5) 131 0 [.ref 51, zU] [] (I, J, R, G) (fun v mm => ∃ I', mm = (I', J, R, G) ∧ FDt t I I' ∧ PM I I' b n t L v (suQ b n m p)) := by
  have hm6 := hd.2.2.2.2
  show zOk x (d + 5) 131 0 _ [] _ (fun v mm => ∃ I', mm = (I', J, R, G) ∧ FDt t I I' ∧ PM I I' b n t L v (fwQ (tsS b n) (tmQ b n) b n m p))
  rw [fwQ]
  cases hv : tmQ b n m p with
  | inl e =>
    rw [bdS_l rfl]
    refine k_aload f131_0 rfl ?_
    refine k_callv (as := []) (rest := []) f131_1 hS.o51 rfl rfl rfl rfl (q_termR (d := d) (p := p) hR hS ht hp hLp hT hd) ?_
    rintro v1 _ ⟨I1, rfl, hf1, hv1⟩
    rw [hv] at hv1
    obtain ⟨rfl, hn1⟩ := hv1
    refine k_if_ne f131_4 (fun h_ => absurd (by decide) h_) (fun _ => ?_)
    refine k_iconst (v := 0) f131_7 rfl ?_
    exact k_iret f131_8 (by decide) ⟨_, rfl, hf1, rfl, hn1⟩
  | inr z =>
    rw [bdS_r rfl]
    obtain ⟨z1, z2, z3, z4, z5, z6⟩ := (tm_ok (b := b) (n := n) m p hm6 hp).1 z hv
    refine k_aload f131_0 rfl ?_
    refine k_callv (as := []) (rest := []) f131_1 hS.o51 rfl rfl rfl rfl (q_termR (d := d) (p := p) hR hS ht hp hLp hT hd) ?_
    rintro v1 _ ⟨I1, rfl, hf1, hv1⟩
    rw [hv] at hv1
    obtain ⟨rfl, hd1, ha1⟩ := hv1
    refine k_if_ne f131_4 (fun _ => ?_) (fun h_ => absurd (by decide) h_)
    refine zOk.imp (lp_sumR (d := d) hR hS ht 61 z.2.1 z.2.2 (L + z.1.length) I1 _ (by omega) z3 (by omega) (hf1.tp hT) hd1) ?_
    rintro v _ ⟨I', rfl, hf, h⟩
    exact ⟨I', rfl, hf1.trans hf, PM.app ha1 h⟩
