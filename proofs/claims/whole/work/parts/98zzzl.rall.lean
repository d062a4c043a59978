/-! A TOWN's clause, in the reference: the whole. -/
theorem TwR.ln {I : Nat → Nat → Int32} {P y c m ln : Nat} {cf mf : Nat → Nat × Nat × Nat} (h : TwR I (P, y, (c, cf), (m, mf), ln)) : TwR (z_u I 51 19 (nI (ln + 1))) (P, y, (c, cf), (m, mf), ln + 1) := by
  obtain ⟨a1, a2, a3, a4, a5, a6, a7, a8⟩ := h
  refine ⟨(z_u_k _ _ _ (by decide)).trans a1, (z_u_k _ _ _ (by decide)).trans a2, (z_u_k _ _ _ (by decide)).trans a3, (z_u_k _ _ _ (by decide)).trans a4, (z_u_k _ _ _ (by decide)).trans a5, z_u_same _ _ _ _, fun i hi => ?_, fun i hi => ?_⟩
  · obtain ⟨x1, x2, x3⟩ := a7 i hi
    exact ⟨(z_u_p _ _ _ _ (by decide)).trans x1, (z_u_p _ _ _ _ (by decide)).trans x2, (z_u_p _ _ _ _ (by decide)).trans x3⟩
  · obtain ⟨x1, x2, x3⟩ := a8 i hi
    exact ⟨(z_u_p _ _ _ _ (by decide)).trans x1, (z_u_p _ _ _ _ (by decide)).trans x2, (z_u_p _ _ _ _ (by decide)).trans x3⟩
theorem q_clauseR {x : Nat × (Nat → Int32)} {d : Nat} {I : Nat → Nat → Int32} {J : Nat → Nat → Int64} {R : Nat → Nat → Option Nat} {G : zG} {b : Nat → Nat} {n P y c m ln p : Nat} {cf mf : Nat → Nat × Nat × Nat} (hR : Rs R) (hS : Sh G) (hT : TP I b n) (hx : RX I n p) (hw : TwR I (P, y, (c, cf), (m, mf), ln)) (ho : tsO (P, y, (c, cf), (m, mf), ln)) : zOk x (d + 4) 144 0 [.ref 51, zU, zU, zU] [] (I, J, R, G) (fun v mm => ∃ I', mm = (I', J, R, G) ∧ FQ I I' ∧ ClR I' n v (clT b n (P, y, (c, cf), (m, mf), ln) (bk b n p))) := by
  have h400 := hT.1
  have hp := hx.2.1
  obtain ⟨q, eq⟩ : ∃ q, q = bk b n p := ⟨_, rfl⟩
  have hqq : bk b n q = q := by rw [eq]; exact bk_bk hp
  have hq : q ≤ n := by rw [eq]; exact (bk_le hp).2
  rw [← eq]
  have o6 : ln ≤ 40 := ho.2.2.2.2.2.1
  have fq : FQ I I := FQ.rfl
  obtain ⟨k, hk⟩ : ∃ k, whT b n 5 (.inr q) = k := ⟨_, rfl⟩
  rcases wh5 hk with ⟨e, t1⟩ | ⟨e, t1, t2⟩ | ⟨e, t1, t2, t3⟩ | ⟨e, t1, t2, t3, t4⟩ | ⟨e, t1, t2, t3, t4⟩
  · by_cases hl : ln = 40
    · refine k_aload f144_0 rfl ?_
      refine k_callv (as := []) (rest := []) f144_1 hS.o51 rfl rfl rfl rfl (q_see (p := p) hR hS hT hx) ?_
      rintro _ _ ⟨rfl, I1, rfl, hx1, hl1⟩
      rw [← eq] at hx1
      have hT1 := hl1.tp hT
      have hw1 := hw.lx hl1
      have fq1 := hl1.fq
      refine k_popi f144_4 ?_
      refine k_aload f144_5 rfl ?_
      refine k_gI (w := nI q) f144_6 hS.o51 rfl hx1.1 ?_
      refine k_istore (L' := [.ref 51, .int (nI q), zU, zU]) f144_9 rfl rfl ?_
      refine k_aload f144_10 rfl ?_
      refine k_gI (w := 6) f144_11 hS.o51 rfl hw1.2.2.2.2.1 ?_
      refine k_iconst (v := 6) f144_14 rfl ?_
      refine k_ic_ne f144_16 (fun h_ => absurd (by decide) h_) (fun _ => ?_)
      refine k_iconst (v := 1) f144_19 rfl ?_
      refine k_goto f144_20 ?_
      refine k_istore (L' := [.ref 51, .int (nI q), .int (1), zU]) f144_24 rfl rfl ?_
      refine k_iload f144_25 rfl ?_
      refine k_if_eq f144_26 (fun h_ => absurd h_ (by decide)) (fun _ => ?_)
      refine k_aload f144_29 rfl ?_
      refine k_lconst (v := 123580963646565) f144_30 rfl ?_
      refine k_callv (as := [.long (123580963646565)]) (rest := []) f144_33 hS.o51 rfl rfl rfl rfl (q_isWl (w := [112, 101, 111, 112, 108, 101]) (by decide +kernel) hR hS hT1 hx1 hqq ⟨by decide, by decide, by decide⟩) ?_
      rintro _ _ ⟨rfl, I2, rfl, hx2, hl2⟩
      have hT2 := hl2.tp hT1
      have hw2 := hw1.lx hl2
      have fq2 := fq1.trans hl2.fq
      refine k_bne f144_36 (fun _ => ?_) (fun h_ => absurd (t1) h_)
      refine k_iconst (v := 1) f144_69 rfl ?_
      refine k_goto f144_70 ?_
      refine k_istore (L' := [.ref 51, .int (nI q), .int (1), .int (1)]) f144_89 rfl rfl ?_
      refine k_iload f144_90 rfl ?_
      refine k_if_ne f144_91 (fun _ => ?_) (fun h_ => absurd (by decide) h_)
      refine k_aload f144_101 rfl ?_
      refine k_gI (w := nI ln) f144_102 hS.o51 rfl hw2.2.2.2.2.2.1 ?_
      refine k_iload f144_105 rfl ?_
      refine k_if_eq f144_106 (fun h_ => absurd h_ (by decide)) (fun _ => ?_)
      refine k_iconst (v := 40) f144_109 rfl ?_
      refine k_goto f144_111 ?_
      refine k_ic_ne f144_116 (fun h_ => absurd (congrArg nI hl) h_) (fun _ => ?_)
      refine k_aload f144_119 rfl ?_
      refine k_iconst (v := 4) f144_120 rfl ?_
      refine k_iload f144_121 rfl ?_
      refine e_v (as := [.int (nI q), .int (4)]) (rest := []) f144_122 hS.o51 rfl rfl rfl (s_fails (w := 4) (a := q) hS hx2.2.2.1) ?_
      exact k_iret f144_125 (by decide) ⟨_, rfl, fq2.put (by omega), by rw [show clT b n (P, y, (c, cf), (m, mf), ln) q = .inl (1 + 8 * q + 4) from by unfold clT; rw [hk, if_neg (by omega), if_pos (show tmB (P, y, (c, cf), (m, mf), ln) k = true from decide_eq_true (Or.inl (show 40 ≤ ln by omega)))]]; exact ⟨rfl, z_u_same _ _ _ _⟩⟩
    · refine k_aload f144_0 rfl ?_
      refine k_callv (as := []) (rest := []) f144_1 hS.o51 rfl rfl rfl rfl (q_see (p := p) hR hS hT hx) ?_
      rintro _ _ ⟨rfl, I1, rfl, hx1, hl1⟩
      rw [← eq] at hx1
      have hT1 := hl1.tp hT
      have hw1 := hw.lx hl1
      have fq1 := hl1.fq
      refine k_popi f144_4 ?_
      refine k_aload f144_5 rfl ?_
      refine k_gI (w := nI q) f144_6 hS.o51 rfl hx1.1 ?_
      refine k_istore (L' := [.ref 51, .int (nI q), zU, zU]) f144_9 rfl rfl ?_
      refine k_aload f144_10 rfl ?_
      refine k_gI (w := 6) f144_11 hS.o51 rfl hw1.2.2.2.2.1 ?_
      refine k_iconst (v := 6) f144_14 rfl ?_
      refine k_ic_ne f144_16 (fun h_ => absurd (by decide) h_) (fun _ => ?_)
      refine k_iconst (v := 1) f144_19 rfl ?_
      refine k_goto f144_20 ?_
      refine k_istore (L' := [.ref 51, .int (nI q), .int (1), zU]) f144_24 rfl rfl ?_
      refine k_iload f144_25 rfl ?_
      refine k_if_eq f144_26 (fun h_ => absurd h_ (by decide)) (fun _ => ?_)
      refine k_aload f144_29 rfl ?_
      refine k_lconst (v := 123580963646565) f144_30 rfl ?_
      refine k_callv (as := [.long (123580963646565)]) (rest := []) f144_33 hS.o51 rfl rfl rfl rfl (q_isWl (w := [112, 101, 111, 112, 108, 101]) (by decide +kernel) hR hS hT1 hx1 hqq ⟨by decide, by decide, by decide⟩) ?_
      rintro _ _ ⟨rfl, I2, rfl, hx2, hl2⟩
      have hT2 := hl2.tp hT1
      have hw2 := hw1.lx hl2
      have fq2 := fq1.trans hl2.fq
      refine k_bne f144_36 (fun _ => ?_) (fun h_ => absurd (t1) h_)
      refine k_iconst (v := 1) f144_69 rfl ?_
      refine k_goto f144_70 ?_
      refine k_istore (L' := [.ref 51, .int (nI q), .int (1), .int (1)]) f144_89 rfl rfl ?_
      refine k_iload f144_90 rfl ?_
      refine k_if_ne f144_91 (fun _ => ?_) (fun h_ => absurd (by decide) h_)
      refine k_aload f144_101 rfl ?_
      refine k_gI (w := nI ln) f144_102 hS.o51 rfl hw2.2.2.2.2.2.1 ?_
      refine k_iload f144_105 rfl ?_
      refine k_if_eq f144_106 (fun h_ => absurd h_ (by decide)) (fun _ => ?_)
      refine k_iconst (v := 40) f144_109 rfl ?_
      refine k_goto f144_111 ?_
      refine k_ic_ne f144_116 (fun _ => ?_) (fun h_ => absurd ((fun z => hl ((nI_eq (b := 40) (by omega) (by omega)).mp z))) h_)
      refine k_aload f144_126 rfl ?_
      refine k_dup f144_127 ?_
      refine k_gI (w := nI ln) f144_128 hS.o51 rfl hw2.2.2.2.2.2.1 ?_
      refine k_iconst (v := 1) f144_131 rfl ?_
      refine k_iadd f144_132 ?_
      rw [nI_1 ln]
      refine k_putI f144_133 hS.o51 rfl ?_
      refine k_iload f144_136 rfl ?_
      refine k_if_eq f144_137 (fun h_ => absurd h_ (by decide)) (fun _ => ?_)
      refine k_aload f144_140 rfl ?_
      refine k_iload f144_141 rfl ?_
      refine k_callv (as := [.int (nI q)]) (rest := []) f144_142 hS.o51 rfl rfl rfl rfl (q_line (d := d) (q := q) (k := k) hR hS (hT2.put (by decide) (by decide)) (hx2.put (by omega)) hw2.ln hqq hk (by omega) ho (by omega)) ?_
      rintro v9 _ ⟨I9, rfl, fq9, hv9⟩
      have fq9 := (fq2.put (by omega)).trans fq9
      refine k_goto f144_145 ?_
      have hC : clT b n (P, y, (c, cf), (m, mf), ln) q = if tmB (P, y, (c, cf), (m, mf), ln) k = true then .inl (1 + 8 * q + 4) else bdT b n k (P, y, (c, cf), (m, mf), ln) (wl b n q) := by unfold clT; rw [hk, if_neg (by omega)]
      rw [← hC] at hv9
      cases hv : clT b n (P, y, (c, cf), (m, mf), ln) q with
      | inl e =>
        rw [hv] at hv9
        obtain ⟨rfl, g⟩ := hv9
        exact k_iret f144_156 (by decide) ⟨I9, rfl, fq9, rfl, g⟩
      | inr z =>
        rw [hv] at hv9
        obtain ⟨rfl, g⟩ := hv9
        exact k_iret f144_156 (by decide) ⟨I9, rfl, fq9, rfl, g⟩
  · by_cases hl : ln = 40
    · refine k_aload f144_0 rfl ?_
      refine k_callv (as := []) (rest := []) f144_1 hS.o51 rfl rfl rfl rfl (q_see (p := p) hR hS hT hx) ?_
      rintro _ _ ⟨rfl, I1, rfl, hx1, hl1⟩
      rw [← eq] at hx1
      have hT1 := hl1.tp hT
      have hw1 := hw.lx hl1
      have fq1 := hl1.fq
      refine k_popi f144_4 ?_
      refine k_aload f144_5 rfl ?_
      refine k_gI (w := nI q) f144_6 hS.o51 rfl hx1.1 ?_
      refine k_istore (L' := [.ref 51, .int (nI q), zU, zU]) f144_9 rfl rfl ?_
      refine k_aload f144_10 rfl ?_
      refine k_gI (w := 6) f144_11 hS.o51 rfl hw1.2.2.2.2.1 ?_
      refine k_iconst (v := 6) f144_14 rfl ?_
      refine k_ic_ne f144_16 (fun h_ => absurd (by decide) h_) (fun _ => ?_)
      refine k_iconst (v := 1) f144_19 rfl ?_
      refine k_goto f144_20 ?_
      refine k_istore (L' := [.ref 51, .int (nI q), .int (1), zU]) f144_24 rfl rfl ?_
      refine k_iload f144_25 rfl ?_
      refine k_if_eq f144_26 (fun h_ => absurd h_ (by decide)) (fun _ => ?_)
      refine k_aload f144_29 rfl ?_
      refine k_lconst (v := 123580963646565) f144_30 rfl ?_
      refine k_callv (as := [.long (123580963646565)]) (rest := []) f144_33 hS.o51 rfl rfl rfl rfl (q_isWl (w := [112, 101, 111, 112, 108, 101]) (by decide +kernel) hR hS hT1 hx1 hqq ⟨by decide, by decide, by decide⟩) ?_
      rintro _ _ ⟨rfl, I2, rfl, hx2, hl2⟩
      have hT2 := hl2.tp hT1
      have hw2 := hw1.lx hl2
      have fq2 := fq1.trans hl2.fq
      refine k_bne f144_36 (fun h_ => absurd h_ (t1)) (fun _ => ?_)
      refine k_aload f144_39 rfl ?_
      refine k_lconst (v := 2036687218) f144_40 rfl ?_
      refine k_callv (as := [.long (2036687218)]) (rest := []) f144_43 hS.o51 rfl rfl rfl rfl (q_isWl (w := [121, 101, 97, 114]) (by decide +kernel) hR hS hT2 hx2 hqq ⟨by decide, by decide, by decide⟩) ?_
      rintro _ _ ⟨rfl, I3, rfl, hx3, hl3⟩
      have hT3 := hl3.tp hT2
      have hw3 := hw2.lx hl3
      have fq3 := fq2.trans hl3.fq
      refine k_bne f144_46 (fun _ => ?_) (fun h_ => absurd (t2) h_)
      refine k_iconst (v := 1) f144_69 rfl ?_
      refine k_goto f144_70 ?_
      refine k_istore (L' := [.ref 51, .int (nI q), .int (1), .int (1)]) f144_89 rfl rfl ?_
      refine k_iload f144_90 rfl ?_
      refine k_if_ne f144_91 (fun _ => ?_) (fun h_ => absurd (by decide) h_)
      refine k_aload f144_101 rfl ?_
      refine k_gI (w := nI ln) f144_102 hS.o51 rfl hw3.2.2.2.2.2.1 ?_
      refine k_iload f144_105 rfl ?_
      refine k_if_eq f144_106 (fun h_ => absurd h_ (by decide)) (fun _ => ?_)
      refine k_iconst (v := 40) f144_109 rfl ?_
      refine k_goto f144_111 ?_
      refine k_ic_ne f144_116 (fun h_ => absurd (congrArg nI hl) h_) (fun _ => ?_)
      refine k_aload f144_119 rfl ?_
      refine k_iconst (v := 4) f144_120 rfl ?_
      refine k_iload f144_121 rfl ?_
      refine e_v (as := [.int (nI q), .int (4)]) (rest := []) f144_122 hS.o51 rfl rfl rfl (s_fails (w := 4) (a := q) hS hx3.2.2.1) ?_
      exact k_iret f144_125 (by decide) ⟨_, rfl, fq3.put (by omega), by rw [show clT b n (P, y, (c, cf), (m, mf), ln) q = .inl (1 + 8 * q + 4) from by unfold clT; rw [hk, if_neg (by omega), if_pos (show tmB (P, y, (c, cf), (m, mf), ln) k = true from decide_eq_true (Or.inl (show 40 ≤ ln by omega)))]]; exact ⟨rfl, z_u_same _ _ _ _⟩⟩
    · refine k_aload f144_0 rfl ?_
      refine k_callv (as := []) (rest := []) f144_1 hS.o51 rfl rfl rfl rfl (q_see (p := p) hR hS hT hx) ?_
      rintro _ _ ⟨rfl, I1, rfl, hx1, hl1⟩
      rw [← eq] at hx1
      have hT1 := hl1.tp hT
      have hw1 := hw.lx hl1
      have fq1 := hl1.fq
      refine k_popi f144_4 ?_
      refine k_aload f144_5 rfl ?_
      refine k_gI (w := nI q) f144_6 hS.o51 rfl hx1.1 ?_
      refine k_istore (L' := [.ref 51, .int (nI q), zU, zU]) f144_9 rfl rfl ?_
      refine k_aload f144_10 rfl ?_
      refine k_gI (w := 6) f144_11 hS.o51 rfl hw1.2.2.2.2.1 ?_
      refine k_iconst (v := 6) f144_14 rfl ?_
      refine k_ic_ne f144_16 (fun h_ => absurd (by decide) h_) (fun _ => ?_)
      refine k_iconst (v := 1) f144_19 rfl ?_
      refine k_goto f144_20 ?_
      refine k_istore (L' := [.ref 51, .int (nI q), .int (1), zU]) f144_24 rfl rfl ?_
      refine k_iload f144_25 rfl ?_
      refine k_if_eq f144_26 (fun h_ => absurd h_ (by decide)) (fun _ => ?_)
      refine k_aload f144_29 rfl ?_
      refine k_lconst (v := 123580963646565) f144_30 rfl ?_
      refine k_callv (as := [.long (123580963646565)]) (rest := []) f144_33 hS.o51 rfl rfl rfl rfl (q_isWl (w := [112, 101, 111, 112, 108, 101]) (by decide +kernel) hR hS hT1 hx1 hqq ⟨by decide, by decide, by decide⟩) ?_
      rintro _ _ ⟨rfl, I2, rfl, hx2, hl2⟩
      have hT2 := hl2.tp hT1
      have hw2 := hw1.lx hl2
      have fq2 := fq1.trans hl2.fq
      refine k_bne f144_36 (fun h_ => absurd h_ (t1)) (fun _ => ?_)
      refine k_aload f144_39 rfl ?_
      refine k_lconst (v := 2036687218) f144_40 rfl ?_
      refine k_callv (as := [.long (2036687218)]) (rest := []) f144_43 hS.o51 rfl rfl rfl rfl (q_isWl (w := [121, 101, 97, 114]) (by decide +kernel) hR hS hT2 hx2 hqq ⟨by decide, by decide, by decide⟩) ?_
      rintro _ _ ⟨rfl, I3, rfl, hx3, hl3⟩
      have hT3 := hl3.tp hT2
      have hw3 := hw2.lx hl3
      have fq3 := fq2.trans hl3.fq
      refine k_bne f144_46 (fun _ => ?_) (fun h_ => absurd (t2) h_)
      refine k_iconst (v := 1) f144_69 rfl ?_
      refine k_goto f144_70 ?_
      refine k_istore (L' := [.ref 51, .int (nI q), .int (1), .int (1)]) f144_89 rfl rfl ?_
      refine k_iload f144_90 rfl ?_
      refine k_if_ne f144_91 (fun _ => ?_) (fun h_ => absurd (by decide) h_)
      refine k_aload f144_101 rfl ?_
      refine k_gI (w := nI ln) f144_102 hS.o51 rfl hw3.2.2.2.2.2.1 ?_
      refine k_iload f144_105 rfl ?_
      refine k_if_eq f144_106 (fun h_ => absurd h_ (by decide)) (fun _ => ?_)
      refine k_iconst (v := 40) f144_109 rfl ?_
      refine k_goto f144_111 ?_
      refine k_ic_ne f144_116 (fun _ => ?_) (fun h_ => absurd ((fun z => hl ((nI_eq (b := 40) (by omega) (by omega)).mp z))) h_)
      refine k_aload f144_126 rfl ?_
      refine k_dup f144_127 ?_
      refine k_gI (w := nI ln) f144_128 hS.o51 rfl hw3.2.2.2.2.2.1 ?_
      refine k_iconst (v := 1) f144_131 rfl ?_
      refine k_iadd f144_132 ?_
      rw [nI_1 ln]
      refine k_putI f144_133 hS.o51 rfl ?_
      refine k_iload f144_136 rfl ?_
      refine k_if_eq f144_137 (fun h_ => absurd h_ (by decide)) (fun _ => ?_)
      refine k_aload f144_140 rfl ?_
      refine k_iload f144_141 rfl ?_
      refine k_callv (as := [.int (nI q)]) (rest := []) f144_142 hS.o51 rfl rfl rfl rfl (q_line (d := d) (q := q) (k := k) hR hS (hT3.put (by decide) (by decide)) (hx3.put (by omega)) hw3.ln hqq hk (by omega) ho (by omega)) ?_
      rintro v9 _ ⟨I9, rfl, fq9, hv9⟩
      have fq9 := (fq3.put (by omega)).trans fq9
      refine k_goto f144_145 ?_
      have hC : clT b n (P, y, (c, cf), (m, mf), ln) q = if tmB (P, y, (c, cf), (m, mf), ln) k = true then .inl (1 + 8 * q + 4) else bdT b n k (P, y, (c, cf), (m, mf), ln) (wl b n q) := by unfold clT; rw [hk, if_neg (by omega)]
      rw [← hC] at hv9
      cases hv : clT b n (P, y, (c, cf), (m, mf), ln) q with
      | inl e =>
        rw [hv] at hv9
        obtain ⟨rfl, g⟩ := hv9
        exact k_iret f144_156 (by decide) ⟨I9, rfl, fq9, rfl, g⟩
      | inr z =>
        rw [hv] at hv9
        obtain ⟨rfl, g⟩ := hv9
        exact k_iret f144_156 (by decide) ⟨I9, rfl, fq9, rfl, g⟩
  · by_cases hl : ln = 40
    · refine k_aload f144_0 rfl ?_
      refine k_callv (as := []) (rest := []) f144_1 hS.o51 rfl rfl rfl rfl (q_see (p := p) hR hS hT hx) ?_
      rintro _ _ ⟨rfl, I1, rfl, hx1, hl1⟩
      rw [← eq] at hx1
      have hT1 := hl1.tp hT
      have hw1 := hw.lx hl1
      have fq1 := hl1.fq
      refine k_popi f144_4 ?_
      refine k_aload f144_5 rfl ?_
      refine k_gI (w := nI q) f144_6 hS.o51 rfl hx1.1 ?_
      refine k_istore (L' := [.ref 51, .int (nI q), zU, zU]) f144_9 rfl rfl ?_
      refine k_aload f144_10 rfl ?_
      refine k_gI (w := 6) f144_11 hS.o51 rfl hw1.2.2.2.2.1 ?_
      refine k_iconst (v := 6) f144_14 rfl ?_
      refine k_ic_ne f144_16 (fun h_ => absurd (by decide) h_) (fun _ => ?_)
      refine k_iconst (v := 1) f144_19 rfl ?_
      refine k_goto f144_20 ?_
      refine k_istore (L' := [.ref 51, .int (nI q), .int (1), zU]) f144_24 rfl rfl ?_
      refine k_iload f144_25 rfl ?_
      refine k_if_eq f144_26 (fun h_ => absurd h_ (by decide)) (fun _ => ?_)
      refine k_aload f144_29 rfl ?_
      refine k_lconst (v := 123580963646565) f144_30 rfl ?_
      refine k_callv (as := [.long (123580963646565)]) (rest := []) f144_33 hS.o51 rfl rfl rfl rfl (q_isWl (w := [112, 101, 111, 112, 108, 101]) (by decide +kernel) hR hS hT1 hx1 hqq ⟨by decide, by decide, by decide⟩) ?_
      rintro _ _ ⟨rfl, I2, rfl, hx2, hl2⟩
      have hT2 := hl2.tp hT1
      have hw2 := hw1.lx hl2
      have fq2 := fq1.trans hl2.fq
      refine k_bne f144_36 (fun h_ => absurd h_ (t1)) (fun _ => ?_)
      refine k_aload f144_39 rfl ?_
      refine k_lconst (v := 2036687218) f144_40 rfl ?_
      refine k_callv (as := [.long (2036687218)]) (rest := []) f144_43 hS.o51 rfl rfl rfl rfl (q_isWl (w := [121, 101, 97, 114]) (by decide +kernel) hR hS hT2 hx2 hqq ⟨by decide, by decide, by decide⟩) ?_
      rintro _ _ ⟨rfl, I3, rfl, hx3, hl3⟩
      have hT3 := hl3.tp hT2
      have hw3 := hw2.lx hl3
      have fq3 := fq2.trans hl3.fq
      refine k_bne f144_46 (fun h_ => absurd h_ (t2)) (fun _ => ?_)
      refine k_aload f144_49 rfl ?_
      refine k_lconst (v := 1668245870) f144_50 rfl ?_
      refine k_callv (as := [.long (1668245870)]) (rest := []) f144_53 hS.o51 rfl rfl rfl rfl (q_isWl (w := [99, 111, 105, 110]) (by decide +kernel) hR hS hT3 hx3 hqq ⟨by decide, by decide, by decide⟩) ?_
      rintro _ _ ⟨rfl, I4, rfl, hx4, hl4⟩
      have hT4 := hl4.tp hT3
      have hw4 := hw3.lx hl4
      have fq4 := fq3.trans hl4.fq
      refine k_bne f144_56 (fun _ => ?_) (fun h_ => absurd (t3) h_)
      refine k_iconst (v := 1) f144_69 rfl ?_
      refine k_goto f144_70 ?_
      refine k_istore (L' := [.ref 51, .int (nI q), .int (1), .int (1)]) f144_89 rfl rfl ?_
      refine k_iload f144_90 rfl ?_
      refine k_if_ne f144_91 (fun _ => ?_) (fun h_ => absurd (by decide) h_)
      refine k_aload f144_101 rfl ?_
      refine k_gI (w := nI ln) f144_102 hS.o51 rfl hw4.2.2.2.2.2.1 ?_
      refine k_iload f144_105 rfl ?_
      refine k_if_eq f144_106 (fun h_ => absurd h_ (by decide)) (fun _ => ?_)
      refine k_iconst (v := 40) f144_109 rfl ?_
      refine k_goto f144_111 ?_
      refine k_ic_ne f144_116 (fun h_ => absurd (congrArg nI hl) h_) (fun _ => ?_)
      refine k_aload f144_119 rfl ?_
      refine k_iconst (v := 4) f144_120 rfl ?_
      refine k_iload f144_121 rfl ?_
      refine e_v (as := [.int (nI q), .int (4)]) (rest := []) f144_122 hS.o51 rfl rfl rfl (s_fails (w := 4) (a := q) hS hx4.2.2.1) ?_
      exact k_iret f144_125 (by decide) ⟨_, rfl, fq4.put (by omega), by rw [show clT b n (P, y, (c, cf), (m, mf), ln) q = .inl (1 + 8 * q + 4) from by unfold clT; rw [hk, if_neg (by omega), if_pos (show tmB (P, y, (c, cf), (m, mf), ln) k = true from decide_eq_true (Or.inl (show 40 ≤ ln by omega)))]]; exact ⟨rfl, z_u_same _ _ _ _⟩⟩
    · refine k_aload f144_0 rfl ?_
      refine k_callv (as := []) (rest := []) f144_1 hS.o51 rfl rfl rfl rfl (q_see (p := p) hR hS hT hx) ?_
      rintro _ _ ⟨rfl, I1, rfl, hx1, hl1⟩
      rw [← eq] at hx1
      have hT1 := hl1.tp hT
      have hw1 := hw.lx hl1
      have fq1 := hl1.fq
      refine k_popi f144_4 ?_
      refine k_aload f144_5 rfl ?_
      refine k_gI (w := nI q) f144_6 hS.o51 rfl hx1.1 ?_
      refine k_istore (L' := [.ref 51, .int (nI q), zU, zU]) f144_9 rfl rfl ?_
      refine k_aload f144_10 rfl ?_
      refine k_gI (w := 6) f144_11 hS.o51 rfl hw1.2.2.2.2.1 ?_
      refine k_iconst (v := 6) f144_14 rfl ?_
      refine k_ic_ne f144_16 (fun h_ => absurd (by decide) h_) (fun _ => ?_)
      refine k_iconst (v := 1) f144_19 rfl ?_
      refine k_goto f144_20 ?_
      refine k_istore (L' := [.ref 51, .int (nI q), .int (1), zU]) f144_24 rfl rfl ?_
      refine k_iload f144_25 rfl ?_
      refine k_if_eq f144_26 (fun h_ => absurd h_ (by decide)) (fun _ => ?_)
      refine k_aload f144_29 rfl ?_
      refine k_lconst (v := 123580963646565) f144_30 rfl ?_
      refine k_callv (as := [.long (123580963646565)]) (rest := []) f144_33 hS.o51 rfl rfl rfl rfl (q_isWl (w := [112, 101, 111, 112, 108, 101]) (by decide +kernel) hR hS hT1 hx1 hqq ⟨by decide, by decide, by decide⟩) ?_
      rintro _ _ ⟨rfl, I2, rfl, hx2, hl2⟩
      have hT2 := hl2.tp hT1
      have hw2 := hw1.lx hl2
      have fq2 := fq1.trans hl2.fq
      refine k_bne f144_36 (fun h_ => absurd h_ (t1)) (fun _ => ?_)
      refine k_aload f144_39 rfl ?_
      refine k_lconst (v := 2036687218) f144_40 rfl ?_
      refine k_callv (as := [.long (2036687218)]) (rest := []) f144_43 hS.o51 rfl rfl rfl rfl (q_isWl (w := [121, 101, 97, 114]) (by decide +kernel) hR hS hT2 hx2 hqq ⟨by decide, by decide, by decide⟩) ?_
      rintro _ _ ⟨rfl, I3, rfl, hx3, hl3⟩
      have hT3 := hl3.tp hT2
      have hw3 := hw2.lx hl3
      have fq3 := fq2.trans hl3.fq
      refine k_bne f144_46 (fun h_ => absurd h_ (t2)) (fun _ => ?_)
      refine k_aload f144_49 rfl ?_
      refine k_lconst (v := 1668245870) f144_50 rfl ?_
      refine k_callv (as := [.long (1668245870)]) (rest := []) f144_53 hS.o51 rfl rfl rfl rfl (q_isWl (w := [99, 111, 105, 110]) (by decide +kernel) hR hS hT3 hx3 hqq ⟨by decide, by decide, by decide⟩) ?_
      rintro _ _ ⟨rfl, I4, rfl, hx4, hl4⟩
      have hT4 := hl4.tp hT3
      have hw4 := hw3.lx hl4
      have fq4 := fq3.trans hl4.fq
      refine k_bne f144_56 (fun _ => ?_) (fun h_ => absurd (t3) h_)
      refine k_iconst (v := 1) f144_69 rfl ?_
      refine k_goto f144_70 ?_
      refine k_istore (L' := [.ref 51, .int (nI q), .int (1), .int (1)]) f144_89 rfl rfl ?_
      refine k_iload f144_90 rfl ?_
      refine k_if_ne f144_91 (fun _ => ?_) (fun h_ => absurd (by decide) h_)
      refine k_aload f144_101 rfl ?_
      refine k_gI (w := nI ln) f144_102 hS.o51 rfl hw4.2.2.2.2.2.1 ?_
      refine k_iload f144_105 rfl ?_
      refine k_if_eq f144_106 (fun h_ => absurd h_ (by decide)) (fun _ => ?_)
      refine k_iconst (v := 40) f144_109 rfl ?_
      refine k_goto f144_111 ?_
      refine k_ic_ne f144_116 (fun _ => ?_) (fun h_ => absurd ((fun z => hl ((nI_eq (b := 40) (by omega) (by omega)).mp z))) h_)
      refine k_aload f144_126 rfl ?_
      refine k_dup f144_127 ?_
      refine k_gI (w := nI ln) f144_128 hS.o51 rfl hw4.2.2.2.2.2.1 ?_
      refine k_iconst (v := 1) f144_131 rfl ?_
      refine k_iadd f144_132 ?_
      rw [nI_1 ln]
      refine k_putI f144_133 hS.o51 rfl ?_
      refine k_iload f144_136 rfl ?_
      refine k_if_eq f144_137 (fun h_ => absurd h_ (by decide)) (fun _ => ?_)
      refine k_aload f144_140 rfl ?_
      refine k_iload f144_141 rfl ?_
      refine k_callv (as := [.int (nI q)]) (rest := []) f144_142 hS.o51 rfl rfl rfl rfl (q_line (d := d) (q := q) (k := k) hR hS (hT4.put (by decide) (by decide)) (hx4.put (by omega)) hw4.ln hqq hk (by omega) ho (by omega)) ?_
      rintro v9 _ ⟨I9, rfl, fq9, hv9⟩
      have fq9 := (fq4.put (by omega)).trans fq9
      refine k_goto f144_145 ?_
      have hC : clT b n (P, y, (c, cf), (m, mf), ln) q = if tmB (P, y, (c, cf), (m, mf), ln) k = true then .inl (1 + 8 * q + 4) else bdT b n k (P, y, (c, cf), (m, mf), ln) (wl b n q) := by unfold clT; rw [hk, if_neg (by omega)]
      rw [← hC] at hv9
      cases hv : clT b n (P, y, (c, cf), (m, mf), ln) q with
      | inl e =>
        rw [hv] at hv9
        obtain ⟨rfl, g⟩ := hv9
        exact k_iret f144_156 (by decide) ⟨I9, rfl, fq9, rfl, g⟩
      | inr z =>
        rw [hv] at hv9
        obtain ⟨rfl, g⟩ := hv9
        exact k_iret f144_156 (by decide) ⟨I9, rfl, fq9, rfl, g⟩
  · by_cases hl : ln = 40
    · refine k_aload f144_0 rfl ?_
      refine k_callv (as := []) (rest := []) f144_1 hS.o51 rfl rfl rfl rfl (q_see (p := p) hR hS hT hx) ?_
      rintro _ _ ⟨rfl, I1, rfl, hx1, hl1⟩
      rw [← eq] at hx1
      have hT1 := hl1.tp hT
      have hw1 := hw.lx hl1
      have fq1 := hl1.fq
      refine k_popi f144_4 ?_
      refine k_aload f144_5 rfl ?_
      refine k_gI (w := nI q) f144_6 hS.o51 rfl hx1.1 ?_
      refine k_istore (L' := [.ref 51, .int (nI q), zU, zU]) f144_9 rfl rfl ?_
      refine k_aload f144_10 rfl ?_
      refine k_gI (w := 6) f144_11 hS.o51 rfl hw1.2.2.2.2.1 ?_
      refine k_iconst (v := 6) f144_14 rfl ?_
      refine k_ic_ne f144_16 (fun h_ => absurd (by decide) h_) (fun _ => ?_)
      refine k_iconst (v := 1) f144_19 rfl ?_
      refine k_goto f144_20 ?_
      refine k_istore (L' := [.ref 51, .int (nI q), .int (1), zU]) f144_24 rfl rfl ?_
      refine k_iload f144_25 rfl ?_
      refine k_if_eq f144_26 (fun h_ => absurd h_ (by decide)) (fun _ => ?_)
      refine k_aload f144_29 rfl ?_
      refine k_lconst (v := 123580963646565) f144_30 rfl ?_
      refine k_callv (as := [.long (123580963646565)]) (rest := []) f144_33 hS.o51 rfl rfl rfl rfl (q_isWl (w := [112, 101, 111, 112, 108, 101]) (by decide +kernel) hR hS hT1 hx1 hqq ⟨by decide, by decide, by decide⟩) ?_
      rintro _ _ ⟨rfl, I2, rfl, hx2, hl2⟩
      have hT2 := hl2.tp hT1
      have hw2 := hw1.lx hl2
      have fq2 := fq1.trans hl2.fq
      refine k_bne f144_36 (fun h_ => absurd h_ (t1)) (fun _ => ?_)
      refine k_aload f144_39 rfl ?_
      refine k_lconst (v := 2036687218) f144_40 rfl ?_
      refine k_callv (as := [.long (2036687218)]) (rest := []) f144_43 hS.o51 rfl rfl rfl rfl (q_isWl (w := [121, 101, 97, 114]) (by decide +kernel) hR hS hT2 hx2 hqq ⟨by decide, by decide, by decide⟩) ?_
      rintro _ _ ⟨rfl, I3, rfl, hx3, hl3⟩
      have hT3 := hl3.tp hT2
      have hw3 := hw2.lx hl3
      have fq3 := fq2.trans hl3.fq
      refine k_bne f144_46 (fun h_ => absurd h_ (t2)) (fun _ => ?_)
      refine k_aload f144_49 rfl ?_
      refine k_lconst (v := 1668245870) f144_50 rfl ?_
      refine k_callv (as := [.long (1668245870)]) (rest := []) f144_53 hS.o51 rfl rfl rfl rfl (q_isWl (w := [99, 111, 105, 110]) (by decide +kernel) hR hS hT3 hx3 hqq ⟨by decide, by decide, by decide⟩) ?_
      rintro _ _ ⟨rfl, I4, rfl, hx4, hl4⟩
      have hT4 := hl4.tp hT3
      have hw4 := hw3.lx hl4
      have fq4 := fq3.trans hl4.fq
      refine k_bne f144_56 (fun h_ => absurd h_ (t3)) (fun _ => ?_)
      refine k_aload f144_59 rfl ?_
      refine k_lconst (v := 1835361652) f144_60 rfl ?_
      refine k_callv (as := [.long (1835361652)]) (rest := []) f144_63 hS.o51 rfl rfl rfl rfl (q_isWl (w := [109, 101, 101, 116]) (by decide +kernel) hR hS hT4 hx4 hqq ⟨by decide, by decide, by decide⟩) ?_
      rintro _ _ ⟨rfl, I5, rfl, hx5, hl5⟩
      have hT5 := hl5.tp hT4
      have hw5 := hw4.lx hl5
      have fq5 := fq4.trans hl5.fq
      refine k_beq f144_66 (fun h_ => absurd (t4) h_) (fun _ => ?_)
      refine k_iconst (v := 1) f144_69 rfl ?_
      refine k_goto f144_70 ?_
      refine k_istore (L' := [.ref 51, .int (nI q), .int (1), .int (1)]) f144_89 rfl rfl ?_
      refine k_iload f144_90 rfl ?_
      refine k_if_ne f144_91 (fun _ => ?_) (fun h_ => absurd (by decide) h_)
      refine k_aload f144_101 rfl ?_
      refine k_gI (w := nI ln) f144_102 hS.o51 rfl hw5.2.2.2.2.2.1 ?_
      refine k_iload f144_105 rfl ?_
      refine k_if_eq f144_106 (fun h_ => absurd h_ (by decide)) (fun _ => ?_)
      refine k_iconst (v := 40) f144_109 rfl ?_
      refine k_goto f144_111 ?_
      refine k_ic_ne f144_116 (fun h_ => absurd (congrArg nI hl) h_) (fun _ => ?_)
      refine k_aload f144_119 rfl ?_
      refine k_iconst (v := 4) f144_120 rfl ?_
      refine k_iload f144_121 rfl ?_
      refine e_v (as := [.int (nI q), .int (4)]) (rest := []) f144_122 hS.o51 rfl rfl rfl (s_fails (w := 4) (a := q) hS hx5.2.2.1) ?_
      exact k_iret f144_125 (by decide) ⟨_, rfl, fq5.put (by omega), by rw [show clT b n (P, y, (c, cf), (m, mf), ln) q = .inl (1 + 8 * q + 4) from by unfold clT; rw [hk, if_neg (by omega), if_pos (show tmB (P, y, (c, cf), (m, mf), ln) k = true from decide_eq_true (Or.inl (show 40 ≤ ln by omega)))]]; exact ⟨rfl, z_u_same _ _ _ _⟩⟩
    · refine k_aload f144_0 rfl ?_
      refine k_callv (as := []) (rest := []) f144_1 hS.o51 rfl rfl rfl rfl (q_see (p := p) hR hS hT hx) ?_
      rintro _ _ ⟨rfl, I1, rfl, hx1, hl1⟩
      rw [← eq] at hx1
      have hT1 := hl1.tp hT
      have hw1 := hw.lx hl1
      have fq1 := hl1.fq
      refine k_popi f144_4 ?_
      refine k_aload f144_5 rfl ?_
      refine k_gI (w := nI q) f144_6 hS.o51 rfl hx1.1 ?_
      refine k_istore (L' := [.ref 51, .int (nI q), zU, zU]) f144_9 rfl rfl ?_
      refine k_aload f144_10 rfl ?_
      refine k_gI (w := 6) f144_11 hS.o51 rfl hw1.2.2.2.2.1 ?_
      refine k_iconst (v := 6) f144_14 rfl ?_
      refine k_ic_ne f144_16 (fun h_ => absurd (by decide) h_) (fun _ => ?_)
      refine k_iconst (v := 1) f144_19 rfl ?_
      refine k_goto f144_20 ?_
      refine k_istore (L' := [.ref 51, .int (nI q), .int (1), zU]) f144_24 rfl rfl ?_
      refine k_iload f144_25 rfl ?_
      refine k_if_eq f144_26 (fun h_ => absurd h_ (by decide)) (fun _ => ?_)
      refine k_aload f144_29 rfl ?_
      refine k_lconst (v := 123580963646565) f144_30 rfl ?_
      refine k_callv (as := [.long (123580963646565)]) (rest := []) f144_33 hS.o51 rfl rfl rfl rfl (q_isWl (w := [112, 101, 111, 112, 108, 101]) (by decide +kernel) hR hS hT1 hx1 hqq ⟨by decide, by decide, by decide⟩) ?_
      rintro _ _ ⟨rfl, I2, rfl, hx2, hl2⟩
      have hT2 := hl2.tp hT1
      have hw2 := hw1.lx hl2
      have fq2 := fq1.trans hl2.fq
      refine k_bne f144_36 (fun h_ => absurd h_ (t1)) (fun _ => ?_)
      refine k_aload f144_39 rfl ?_
      refine k_lconst (v := 2036687218) f144_40 rfl ?_
      refine k_callv (as := [.long (2036687218)]) (rest := []) f144_43 hS.o51 rfl rfl rfl rfl (q_isWl (w := [121, 101, 97, 114]) (by decide +kernel) hR hS hT2 hx2 hqq ⟨by decide, by decide, by decide⟩) ?_
      rintro _ _ ⟨rfl, I3, rfl, hx3, hl3⟩
      have hT3 := hl3.tp hT2
      have hw3 := hw2.lx hl3
      have fq3 := fq2.trans hl3.fq
      refine k_bne f144_46 (fun h_ => absurd h_ (t2)) (fun _ => ?_)
      refine k_aload f144_49 rfl ?_
      refine k_lconst (v := 1668245870) f144_50 rfl ?_
      refine k_callv (as := [.long (1668245870)]) (rest := []) f144_53 hS.o51 rfl rfl rfl rfl (q_isWl (w := [99, 111, 105, 110]) (by decide +kernel) hR hS hT3 hx3 hqq ⟨by decide, by decide, by decide⟩) ?_
      rintro _ _ ⟨rfl, I4, rfl, hx4, hl4⟩
      have hT4 := hl4.tp hT3
      have hw4 := hw3.lx hl4
      have fq4 := fq3.trans hl4.fq
      refine k_bne f144_56 (fun h_ => absurd h_ (t3)) (fun _ => ?_)
      refine k_aload f144_59 rfl ?_
      refine k_lconst (v := 1835361652) f144_60 rfl ?_
      refine k_callv (as := [.long (1835361652)]) (rest := []) f144_63 hS.o51 rfl rfl rfl rfl (q_isWl (w := [109, 101, 101, 116]) (by decide +kernel) hR hS hT4 hx4 hqq ⟨by decide, by decide, by decide⟩) ?_
      rintro _ _ ⟨rfl, I5, rfl, hx5, hl5⟩
      have hT5 := hl5.tp hT4
      have hw5 := hw4.lx hl5
      have fq5 := fq4.trans hl5.fq
      refine k_beq f144_66 (fun h_ => absurd (t4) h_) (fun _ => ?_)
      refine k_iconst (v := 1) f144_69 rfl ?_
      refine k_goto f144_70 ?_
      refine k_istore (L' := [.ref 51, .int (nI q), .int (1), .int (1)]) f144_89 rfl rfl ?_
      refine k_iload f144_90 rfl ?_
      refine k_if_ne f144_91 (fun _ => ?_) (fun h_ => absurd (by decide) h_)
      refine k_aload f144_101 rfl ?_
      refine k_gI (w := nI ln) f144_102 hS.o51 rfl hw5.2.2.2.2.2.1 ?_
      refine k_iload f144_105 rfl ?_
      refine k_if_eq f144_106 (fun h_ => absurd h_ (by decide)) (fun _ => ?_)
      refine k_iconst (v := 40) f144_109 rfl ?_
      refine k_goto f144_111 ?_
      refine k_ic_ne f144_116 (fun _ => ?_) (fun h_ => absurd ((fun z => hl ((nI_eq (b := 40) (by omega) (by omega)).mp z))) h_)
      refine k_aload f144_126 rfl ?_
      refine k_dup f144_127 ?_
      refine k_gI (w := nI ln) f144_128 hS.o51 rfl hw5.2.2.2.2.2.1 ?_
      refine k_iconst (v := 1) f144_131 rfl ?_
      refine k_iadd f144_132 ?_
      rw [nI_1 ln]
      refine k_putI f144_133 hS.o51 rfl ?_
      refine k_iload f144_136 rfl ?_
      refine k_if_eq f144_137 (fun h_ => absurd h_ (by decide)) (fun _ => ?_)
      refine k_aload f144_140 rfl ?_
      refine k_iload f144_141 rfl ?_
      refine k_callv (as := [.int (nI q)]) (rest := []) f144_142 hS.o51 rfl rfl rfl rfl (q_line (d := d) (q := q) (k := k) hR hS (hT5.put (by decide) (by decide)) (hx5.put (by omega)) hw5.ln hqq hk (by omega) ho (by omega)) ?_
      rintro v9 _ ⟨I9, rfl, fq9, hv9⟩
      have fq9 := (fq5.put (by omega)).trans fq9
      refine k_goto f144_145 ?_
      have hC : clT b n (P, y, (c, cf), (m, mf), ln) q = if tmB (P, y, (c, cf), (m, mf), ln) k = true then .inl (1 + 8 * q + 4) else bdT b n k (P, y, (c, cf), (m, mf), ln) (wl b n q) := by unfold clT; rw [hk, if_neg (by omega)]
      rw [← hC] at hv9
      cases hv : clT b n (P, y, (c, cf), (m, mf), ln) q with
      | inl e =>
        rw [hv] at hv9
        obtain ⟨rfl, g⟩ := hv9
        exact k_iret f144_156 (by decide) ⟨I9, rfl, fq9, rfl, g⟩
      | inr z =>
        rw [hv] at hv9
        obtain ⟨rfl, g⟩ := hv9
        exact k_iret f144_156 (by decide) ⟨I9, rfl, fq9, rfl, g⟩
  · refine k_aload f144_0 rfl ?_
    refine k_callv (as := []) (rest := []) f144_1 hS.o51 rfl rfl rfl rfl (q_see (p := p) hR hS hT hx) ?_
    rintro _ _ ⟨rfl, I1, rfl, hx1, hl1⟩
    rw [← eq] at hx1
    have hT1 := hl1.tp hT
    have hw1 := hw.lx hl1
    have fq1 := hl1.fq
    refine k_popi f144_4 ?_
    refine k_aload f144_5 rfl ?_
    refine k_gI (w := nI q) f144_6 hS.o51 rfl hx1.1 ?_
    refine k_istore (L' := [.ref 51, .int (nI q), zU, zU]) f144_9 rfl rfl ?_
    refine k_aload f144_10 rfl ?_
    refine k_gI (w := 6) f144_11 hS.o51 rfl hw1.2.2.2.2.1 ?_
    refine k_iconst (v := 6) f144_14 rfl ?_
    refine k_ic_ne f144_16 (fun h_ => absurd (by decide) h_) (fun _ => ?_)
    refine k_iconst (v := 1) f144_19 rfl ?_
    refine k_goto f144_20 ?_
    refine k_istore (L' := [.ref 51, .int (nI q), .int (1), zU]) f144_24 rfl rfl ?_
    refine k_iload f144_25 rfl ?_
    refine k_if_eq f144_26 (fun h_ => absurd h_ (by decide)) (fun _ => ?_)
    refine k_aload f144_29 rfl ?_
    refine k_lconst (v := 123580963646565) f144_30 rfl ?_
    refine k_callv (as := [.long (123580963646565)]) (rest := []) f144_33 hS.o51 rfl rfl rfl rfl (q_isWl (w := [112, 101, 111, 112, 108, 101]) (by decide +kernel) hR hS hT1 hx1 hqq ⟨by decide, by decide, by decide⟩) ?_
    rintro _ _ ⟨rfl, I2, rfl, hx2, hl2⟩
    have hT2 := hl2.tp hT1
    have hw2 := hw1.lx hl2
    have fq2 := fq1.trans hl2.fq
    refine k_bne f144_36 (fun h_ => absurd h_ (t1)) (fun _ => ?_)
    refine k_aload f144_39 rfl ?_
    refine k_lconst (v := 2036687218) f144_40 rfl ?_
    refine k_callv (as := [.long (2036687218)]) (rest := []) f144_43 hS.o51 rfl rfl rfl rfl (q_isWl (w := [121, 101, 97, 114]) (by decide +kernel) hR hS hT2 hx2 hqq ⟨by decide, by decide, by decide⟩) ?_
    rintro _ _ ⟨rfl, I3, rfl, hx3, hl3⟩
    have hT3 := hl3.tp hT2
    have hw3 := hw2.lx hl3
    have fq3 := fq2.trans hl3.fq
    refine k_bne f144_46 (fun h_ => absurd h_ (t2)) (fun _ => ?_)
    refine k_aload f144_49 rfl ?_
    refine k_lconst (v := 1668245870) f144_50 rfl ?_
    refine k_callv (as := [.long (1668245870)]) (rest := []) f144_53 hS.o51 rfl rfl rfl rfl (q_isWl (w := [99, 111, 105, 110]) (by decide +kernel) hR hS hT3 hx3 hqq ⟨by decide, by decide, by decide⟩) ?_
    rintro _ _ ⟨rfl, I4, rfl, hx4, hl4⟩
    have hT4 := hl4.tp hT3
    have hw4 := hw3.lx hl4
    have fq4 := fq3.trans hl4.fq
    refine k_bne f144_56 (fun h_ => absurd h_ (t3)) (fun _ => ?_)
    refine k_aload f144_59 rfl ?_
    refine k_lconst (v := 1835361652) f144_60 rfl ?_
    refine k_callv (as := [.long (1835361652)]) (rest := []) f144_63 hS.o51 rfl rfl rfl rfl (q_isWl (w := [109, 101, 101, 116]) (by decide +kernel) hR hS hT4 hx4 hqq ⟨by decide, by decide, by decide⟩) ?_
    rintro _ _ ⟨rfl, I5, rfl, hx5, hl5⟩
    have hT5 := hl5.tp hT4
    have hw5 := hw4.lx hl5
    have fq5 := fq4.trans hl5.fq
    refine k_beq f144_66 (fun _ => ?_) (fun h_ => (absurd h_ (t4)))
    refine k_iconst (v := 0) f144_73 rfl ?_
    refine k_goto f144_74 ?_
    refine k_istore (L' := [.ref 51, .int (nI q), .int (1), .int (0)]) f144_89 rfl rfl ?_
    refine k_iload f144_90 rfl ?_
    refine k_if_ne f144_91 (fun h_ => absurd (by decide) h_) (fun _ => ?_)
    refine k_aload f144_94 rfl ?_
    refine k_iconst (v := 0) f144_95 rfl ?_
    refine k_iload f144_96 rfl ?_
    refine e_v (as := [.int (nI q), .int (0)]) (rest := []) f144_97 hS.o51 rfl rfl rfl (s_fails (w := 0) (a := q) hS hx5.2.2.1) ?_
    exact k_iret f144_100 (by decide) ⟨_, rfl, fq5.put (by omega), by rw [show clT b n (P, y, (c, cf), (m, mf), ln) q = .inl (1 + 8 * q) from if_pos (hk.trans e)]; exact ⟨rfl, z_u_same _ _ _ _⟩⟩
def rdG {σ : Type} (cl : σ → Nat → Sum Nat (σ × Nat)) (b : Nat → Nat) (n : Nat) : Nat → σ → Nat → Sum Nat σ
  | 0, s, _ => .inr s
  | f + 1, s, q => bdS (cl s q) fun z => if siT b n 59 (.inr (bk b n z.2)) = true then rdG cl b n f z.1 (bk b n (ed b n (bk b n z.2))) else if enT b n (.inr (bk b n z.2)) = true then .inr z.1 else .inl (1 + 8 * bk b n z.2)
theorem rdG_s {σ : Type} {cl : σ → Nat → Sum Nat (σ × Nat)} {b : Nat → Nat} {n f q : Nat} {s : σ} : rdG cl b n (f + 1) s q = bdS (cl s q) fun z => if siT b n 59 (.inr (bk b n z.2)) = true then rdG cl b n f z.1 (bk b n (ed b n (bk b n z.2))) else if enT b n (.inr (bk b n z.2)) = true then .inr z.1 else .inl (1 + 8 * bk b n z.2) := rfl
theorem rdG_T {b : Nat → Nat} {n : Nat} : ∀ (f : Nat) (s : TS) (q : Nat), rdT b n f s q = rdG (clT b n) b n f s q := by
  intro f
  induction f with
  | zero => intro s q; rfl
  | succ f ih =>
    intro s q
    rw [rdT_s, rdG_s]
    congr 1
    funext z
    rw [ih]
def ClG {σ : Type} (Rel : σ → (Nat → Nat → Int32) → Prop) (I : Nat → Nat → Int32) (n : Nat) (v : Int32) : Sum Nat (σ × Nat) → Prop
  | .inl e => v = 0 ∧ I 51 14 = nI e ∧ 0 < e ∧ e < 4000
  | .inr z => v = 1 ∧ RX I n z.2 ∧ Rel z.1 I
def RdG {σ : Type} (Rel : σ → (Nat → Nat → Int32) → Prop) (I : Nat → Nat → Int32) (v : Option Value) : Sum Nat σ → Prop
  | .inl e => v = some (.int 0) ∧ I 51 14 = nI e
  | .inr s => v = some (.int 1) ∧ Rel s I
theorem lp_reads {σ : Type} {cl : σ → Nat → Sum Nat (σ × Nat)} {Rel : σ → (Nat → Nat → Int32) → Prop} {F : (Nat → Nat → Int32) → (Nat → Nat → Int32) → Prop} {Gd : Nat → σ → Prop} {x : Nat × (Nat → Int32)} {d : Nat} {J : Nat → Nat → Int64} {R : Nat → Nat → Option Nat} {G : zG} {I0 : Nat → Nat → Int32} {b : Nat → Nat} {n : Nat} (hR : Rs R) (hS : Sh G) (hT0 : TP I0 b n)
    (hL : ∀ I I', LX I I' → F I I') (hFt : ∀ I I1 I2, F I I1 → F I1 I2 → F I I2) (hFp : ∀ I I', F I I' → TP I b n → TP I' b n) (hRl : ∀ s I I', Rel s I → LX I I' → Rel s I') (hR1 : ∀ s I, Rel s I → Rel s (z_u I 51 1 0))
    (hG0 : ∀ s, ¬ Gd 0 s) (hGs : ∀ f s q z, q ≤ n → Gd (f + 1) s → cl s q = .inr z → Gd f z.1 ∧ z.2 ≤ n)
    (hcl : ∀ f s p I, Gd (f + 1) s → TP I b n → RX I n p → Rel s I → zOk x (d + 4) 144 0 [.ref 51, zU, zU, zU] [] (I, J, R, G) (fun v mm => ∃ I' w, v = some (.int w) ∧ mm = (I', J, R, G) ∧ F I I' ∧ ClG Rel I' n w (cl s (bk b n p)))) : ∀ (f : Nat) (s : σ) (q : Nat) (w : Int32) (I : Nat → Nat → Int32), Gd (f + 1) s → q ≤ n → F I0 I → ClG Rel I n w (cl s q) → zOk x (d + 5) 145 35 [.ref 51, .int w] [] (I, J, R, G) (fun v m => ∃ I' I1, m = (I', J, R, G) ∧ F I0 I1 ∧ I' = z_u I1 51 1 0 ∧ RdG Rel I' v (rdG cl b n (f + 1) s q)) := by
  have h400 := hT0.1
  intro f
  induction f with
  | zero =>
    intro s q w I hg hq hF hC
    have hT := hFp _ _ hF hT0
    rw [rdG_s]
    cases hc : cl s q with
    | inl e =>
      rw [hc] at hC
      obtain ⟨rfl, c2, c3, c4⟩ := hC
      show zOk x (d + 5) 145 35 _ [] _ (fun v m => ∃ I' I1, m = (I', J, R, G) ∧ F I0 I1 ∧ I' = z_u I1 51 1 0 ∧ RdG Rel I' v (.inl e))
      refine k_iload f145_35 rfl ?_
      refine k_if_eq f145_36 (fun _ => ?_) (fun h_ => absurd (by decide) h_)
      refine k_iload f145_66 rfl ?_
      refine k_if_eq f145_67 (fun _ => ?_) (fun h_ => absurd (by decide) h_)
      refine k_aload f145_88 rfl ?_
      refine k_iconst (v := 0) f145_89 rfl ?_
      refine k_putI f145_90 hS.o51 rfl ?_
      refine k_aload f145_93 rfl ?_
      refine k_gI (w := nI e) f145_94 hS.o51 rfl (Eq.trans (z_u_k _ _ _ (by decide)) c2) ?_
      refine k_if_ne f145_97 (fun _ => ?_) (fun h_ => absurd ((fun z => absurd ((nI_eq (b := 0) (by omega) (by omega)).mp z) (by omega))) h_)
      refine k_iconst (v := 0) f145_104 rfl ?_
      exact k_iret f145_105 (by decide) ⟨_, I, rfl, hF, rfl, rfl, (z_u_k _ _ _ (by decide)).trans c2⟩
    | inr z =>
      obtain ⟨g1, k3⟩ := hGs _ _ _ _ hq hg hc
      exact absurd g1 (hG0 _)
  | succ f ih =>
    intro s q w I hg hq hF hC
    have hT := hFp _ _ hF hT0
    rw [rdG_s]
    cases hc : cl s q with
    | inl e =>
      rw [hc] at hC
      obtain ⟨rfl, c2, c3, c4⟩ := hC
      show zOk x (d + 5) 145 35 _ [] _ (fun v m => ∃ I' I1, m = (I', J, R, G) ∧ F I0 I1 ∧ I' = z_u I1 51 1 0 ∧ RdG Rel I' v (.inl e))
      refine k_iload f145_35 rfl ?_
      refine k_if_eq f145_36 (fun _ => ?_) (fun h_ => absurd (by decide) h_)
      refine k_iload f145_66 rfl ?_
      refine k_if_eq f145_67 (fun _ => ?_) (fun h_ => absurd (by decide) h_)
      refine k_aload f145_88 rfl ?_
      refine k_iconst (v := 0) f145_89 rfl ?_
      refine k_putI f145_90 hS.o51 rfl ?_
      refine k_aload f145_93 rfl ?_
      refine k_gI (w := nI e) f145_94 hS.o51 rfl (Eq.trans (z_u_k _ _ _ (by decide)) c2) ?_
      refine k_if_ne f145_97 (fun _ => ?_) (fun h_ => absurd ((fun z => absurd ((nI_eq (b := 0) (by omega) (by omega)).mp z) (by omega))) h_)
      refine k_iconst (v := 0) f145_104 rfl ?_
      exact k_iret f145_105 (by decide) ⟨_, I, rfl, hF, rfl, rfl, (z_u_k _ _ _ (by decide)).trans c2⟩
    | inr z =>
      obtain ⟨g1, k3⟩ := hGs _ _ _ _ hq hg hc
      rw [hc] at hC
      obtain ⟨rfl, hx, hz⟩ := hC
      have q2 : bk b n z.2 ≤ n := (bk_le k3).2
      have b8 : bk b n z.2 < n → b (bk b n z.2) < 256 := fun h => (hT0.2 _ (by omega)).1
      show zOk x (d + 5) 145 35 _ [] _ (fun v m => ∃ I' I1, m = (I', J, R, G) ∧ F I0 I1 ∧ I' = z_u I1 51 1 0 ∧ RdG Rel I' v (if siT b n 59 (.inr (bk b n z.2)) = true then rdG cl b n (f + 1) z.1 (bk b n (ed b n (bk b n z.2))) else if enT b n (.inr (bk b n z.2)) = true then .inr z.1 else .inl (1 + 8 * bk b n z.2)))
      have p59 : plS 59 := ⟨by omega, by omega, by omega, by omega, by omega⟩
      by_cases hs : siT b n 59 (.inr (bk b n z.2)) = true
      · rw [if_pos hs]
        have hsi := siT_i (b := b) (n := n) (q := bk b n z.2) p59
        rw [ed_i p59 hs]
        refine k_iload f145_35 rfl ?_
        refine k_if_eq f145_36 (fun h_ => absurd h_ (by decide)) (fun _ => ?_)
        refine k_aload f145_39 rfl ?_
        refine k_callv (as := []) (rest := []) f145_40 hS.o51 rfl rfl rfl rfl (q_see (p := z.2) hR hS hT hx) ?_
        rintro _ _ ⟨rfl, I1, rfl, hx1, hl1⟩
        have hT1 := hl1.tp hT
        have hz1 := hRl _ _ _ hz hl1
        have hF1 := hFt _ _ _ hF (hL _ _ hl1)
        refine k_iconst (v := 59) f145_43 rfl ?_
        refine k_ic_ne f145_45 (fun h_ => absurd ((se_eq (c := 59) (b8 (hsi.mp hs).1) (by omega)).mpr (hsi.mp hs)) h_) (fun _ => ?_)
        refine k_aload f145_48 rfl ?_
        refine k_dup f145_49 ?_
        refine k_gI (w := nI (bk b n z.2)) f145_50 hS.o51 rfl hx1.1 ?_
        refine k_iconst (v := 1) f145_53 rfl ?_
        refine k_iadd f145_54 ?_
        rw [nI_1 (bk b n z.2)]
        refine k_putI f145_55 hS.o51 rfl ?_
        refine k_aload f145_58 rfl ?_
        refine k_callv (as := []) (rest := []) f145_59 hS.o51 rfl rfl rfl rfl (hcl f z.1 (bk b n z.2 + 1) (z_u I1 51 13 (nI (bk b n z.2 + 1))) g1 (hT1.put (by decide) (by decide)) ⟨z_u_same _ _ _ _, by have := (hsi.mp hs).1; omega, (z_u_k _ _ _ (by decide)).trans hx1.2.2.1, (z_u_k _ _ _ (by decide)).trans hx1.2.2.2⟩ (hRl _ _ _ hz1 (LX.rfl.put (by omega)))) ?_
        rintro _ _ ⟨I3, w3, rfl, rfl, hF3, hC3⟩
        have hF3 := hFt _ _ _ (hFt _ _ _ hF1 (hL _ _ (LX.rfl.put (c := 13) (v := nI (bk b n z.2 + 1)) (by omega)))) hF3
        refine k_istore (L' := [.ref 51, .int (w3)]) f145_62 rfl rfl ?_
        refine k_goto f145_63 ?_
        exact ih z.1 _ w3 I3 g1 (bk_le (by have := (hsi.mp hs).1; omega)).2 hF3 hC3
      · rw [if_neg hs]
        have hsi := siT_i (b := b) (n := n) (q := bk b n z.2) p59
        have n59 : ¬ seV b n (bk b n z.2) = 59 := fun h => by
          by_cases hh : bk b n z.2 < n
          · exact hs (hsi.mpr ((se_eq (c := 59) (b8 hh) (by omega)).mp h))
          · unfold seV at h
            rw [if_neg hh] at h
            exact absurd h (by decide)
        by_cases hE : bk b n z.2 < n
        · have nm : ¬ seV b n (bk b n z.2) = (-1) := fun h => by
            have h : (if bk b n z.2 < n then nI (b (bk b n z.2)) else -1) = (-1 : Int32) := h
            rw [if_pos hE] at h
            exact nI_m1 (by have := b8 hE; omega) h
          refine k_iload f145_35 rfl ?_
          refine k_if_eq f145_36 (fun h_ => absurd h_ (by decide)) (fun _ => ?_)
          refine k_aload f145_39 rfl ?_
          refine k_callv (as := []) (rest := []) f145_40 hS.o51 rfl rfl rfl rfl (q_see (p := z.2) hR hS hT hx) ?_
          rintro _ _ ⟨rfl, I1, rfl, hx1, hl1⟩
          have hT1 := hl1.tp hT
          have hz1 := hRl _ _ _ hz hl1
          have hF1 := hFt _ _ _ hF (hL _ _ hl1)
          refine k_iconst (v := 59) f145_43 rfl ?_
          refine k_ic_ne f145_45 (fun _ => ?_) (fun h_ => absurd (n59) h_)
          refine k_iload f145_66 rfl ?_
          refine k_if_eq f145_67 (fun h_ => absurd h_ (by decide)) (fun _ => ?_)
          refine k_aload f145_70 rfl ?_
          refine k_callv (as := []) (rest := []) f145_71 hS.o51 rfl rfl rfl rfl (q_see (p := bk b n z.2) hR hS hT1 hx1) ?_
          rintro _ _ ⟨rfl, I2, rfl, hx2, hl2⟩
          rw [bk_bk k3] at hx2 ⊢
          have hT2 := hl2.tp hT1
          have hz2 := hRl _ _ _ hz1 hl2
          have hF2 := hFt _ _ _ hF1 (hL _ _ hl2)
          refine k_iconst (v := (-1)) f145_74 rfl ?_
          refine k_ic_eq f145_75 (fun h_ => absurd h_ (nm)) (fun _ => ?_)
          refine k_aload f145_78 rfl ?_
          refine k_iconst (v := 0) f145_79 rfl ?_
          refine k_aload f145_80 rfl ?_
          refine k_gI (w := nI (bk b n z.2)) f145_81 hS.o51 rfl hx2.1 ?_
          refine e_v (as := [.int (nI (bk b n z.2)), .int (0)]) (rest := []) f145_84 hS.o51 rfl rfl rfl (s_fails (w := 0) (a := bk b n z.2) hS hx2.2.2.1) ?_
          refine k_popi f145_87 ?_
          refine k_aload f145_88 rfl ?_
          refine k_iconst (v := 0) f145_89 rfl ?_
          refine k_putI f145_90 hS.o51 rfl ?_
          refine k_aload f145_93 rfl ?_
          refine k_gI (w := nI (1 + 8 * bk b n z.2 + 0)) f145_94 hS.o51 rfl (Eq.trans (z_u_k _ _ _ (by decide)) (z_u_same _ _ _ _)) ?_
          refine k_if_ne f145_97 (fun _ => ?_) (fun h_ => absurd ((fun z => absurd ((nI_eq (b := 0) (by omega) (by omega)).mp z) (by omega))) h_)
          refine k_iconst (v := 0) f145_104 rfl ?_
          exact k_iret f145_105 (by decide) ⟨_, _, rfl, hFt _ _ _ hF2 (hL _ _ (LX.rfl.put (c := 14) (v := nI (1 + 8 * bk b n z.2 + 0)) (by omega))), rfl, by rw [if_neg (fun z => (enT_i.mp z) hE)]; exact ⟨rfl, (z_u_k _ _ _ (by decide)).trans (z_u_same _ _ _ _)⟩⟩
        · refine k_iload f145_35 rfl ?_
          refine k_if_eq f145_36 (fun h_ => absurd h_ (by decide)) (fun _ => ?_)
          refine k_aload f145_39 rfl ?_
          refine k_callv (as := []) (rest := []) f145_40 hS.o51 rfl rfl rfl rfl (q_see (p := z.2) hR hS hT hx) ?_
          rintro _ _ ⟨rfl, I1, rfl, hx1, hl1⟩
          have hT1 := hl1.tp hT
          have hz1 := hRl _ _ _ hz hl1
          have hF1 := hFt _ _ _ hF (hL _ _ hl1)
          refine k_iconst (v := 59) f145_43 rfl ?_
          refine k_ic_ne f145_45 (fun _ => ?_) (fun h_ => absurd (n59) h_)
          refine k_iload f145_66 rfl ?_
          refine k_if_eq f145_67 (fun h_ => absurd h_ (by decide)) (fun _ => ?_)
          refine k_aload f145_70 rfl ?_
          refine k_callv (as := []) (rest := []) f145_71 hS.o51 rfl rfl rfl rfl (q_see (p := bk b n z.2) hR hS hT1 hx1) ?_
          rintro _ _ ⟨rfl, I2, rfl, hx2, hl2⟩
          rw [bk_bk k3] at hx2 ⊢
          have hT2 := hl2.tp hT1
          have hz2 := hRl _ _ _ hz1 hl2
          have hF2 := hFt _ _ _ hF1 (hL _ _ hl2)
          refine k_iconst (v := (-1)) f145_74 rfl ?_
          refine k_ic_eq f145_75 (fun _ => ?_) (fun h_ => absurd (if_neg hE) h_)
          refine k_aload f145_88 rfl ?_
          refine k_iconst (v := 0) f145_89 rfl ?_
          refine k_putI f145_90 hS.o51 rfl ?_
          refine k_aload f145_93 rfl ?_
          refine k_gI (w := 0) f145_94 hS.o51 rfl (Eq.trans (z_u_k _ _ _ (by decide)) hx2.2.2.1) ?_
          refine k_if_ne f145_97 (fun h_ => absurd (by decide) h_) (fun _ => ?_)
          refine k_iconst (v := 1) f145_100 rfl ?_
          refine k_goto f145_101 ?_
          exact k_iret f145_105 (by decide) ⟨_, I2, rfl, hF2, rfl, by rw [if_pos (enT_i.mpr hE)]; exact ⟨rfl, hR1 _ _ hz2⟩⟩
