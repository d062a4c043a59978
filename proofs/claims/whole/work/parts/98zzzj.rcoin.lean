/-! A TOWN's coin and meeting, in the reference. -/
theorem q_r_coin {x : Nat × (Nat → Int32)} {d : Nat} {I : Nat → Nat → Int32} {J : Nat → Nat → Int64} {R : Nat → Nat → Option Nat} {G : zG} {b : Nat → Nat} {n P y c m ln q : Nat} {cf mf : Nat → Nat × Nat × Nat} (hR : Rs R) (hS : Sh G) (hT : TP I b n) (hx : RX I n q) (hw : TwR I (P, y, (c, cf), (m, mf), ln + 1)) (hP : P ≤ 10) (hP2 : 2 ≤ P) (hcm : c ≤ 8) : zOk x (d + 2) 140 0 [.ref 51, .int (nI q), zU] [] (I, J, R, G) (fun v mm => ∃ I', mm = (I', J, R, G) ∧ FQ I I' ∧ ClR I' n v (if 8 ≤ c then .inl (1 + 8 * q + 4) else bdT b n 3 (P, y, (c, cf), (m, mf), ln) (wl b n q))) := by
  have hq := hx.2.1
  have h400 := hT.1
  have e7 : I 51 7 = nI P := hw.1
  have e8 : I 51 8 = (if y = 0 then -1 else nI y) := hw.2.1
  have e9 : I 51 9 = nI c := hw.2.2.1
  have e10 : I 51 10 = nI m := hw.2.2.2.1
  by_cases hc : 8 ≤ c
  · refine k_aload f140_0 rfl ?_
    refine k_gI (w := nI c) f140_1 hS.o51 rfl e9 ?_
    refine k_iconst (v := 8) f140_4 rfl ?_
    refine k_ic_ne f140_6 (fun h_ => absurd (congrArg nI (show c = 8 by omega)) h_) (fun _ => ?_)
    refine k_aload f140_9 rfl ?_
    refine k_iconst (v := 4) f140_10 rfl ?_
    refine k_iload f140_11 rfl ?_
    refine e_v (as := [.int (nI q), .int (4)]) (rest := []) f140_12 hS.o51 rfl rfl rfl (s_fails (w := 4) (a := q) hS hx.2.2.1) ?_
    exact k_iret f140_15 (by decide) ⟨_, rfl, FQ.rfl.put (by omega), by rw [if_pos hc]; exact ⟨rfl, z_u_same _ _ _ _⟩⟩
  · rw [if_neg hc]
    show zOk _ _ _ _ _ _ _ (fun v mm => ∃ I', mm = (I', J, R, G) ∧ FQ I I' ∧ ClR I' n v (bdS (nmQ b n 1 (99) (bk b n (wl b n q))) _))
    cases h1 : nmQ b n 1 (99) (bk b n (wl b n q)) with
    | inl e =>
      refine k_aload f140_0 rfl ?_
      refine k_gI (w := nI c) f140_1 hS.o51 rfl e9 ?_
      refine k_iconst (v := 8) f140_4 rfl ?_
      refine k_ic_ne f140_6 (fun _ => ?_) (fun h_ => absurd ((fun z => absurd ((nI_eq (b := 8) (by omega) (by omega)).mp z) (by omega))) h_)
      refine k_aload f140_16 rfl ?_
      refine k_callv (as := []) (rest := []) f140_17 hS.o51 rfl rfl rfl rfl (q_pass hR hS hT hx) ?_
      rintro _ _ ⟨rfl, I1, rfl, hx1, hl1⟩
      have hT1 := hl1.tp hT
      have hw1 := hw.lx hl1
      have fq1 := hl1.fq
      refine k_iconst (v := 3) f140_20 rfl ?_
      refine k_aload f140_21 rfl ?_
      refine k_gI (w := nI c) f140_22 hS.o51 rfl hw1.2.2.1 ?_
      refine k_imul f140_25 ?_
      rw [show (3 : Int32) * nI c = nI (3 * c) from pk_mul 3 c]
      refine k_istore (L' := [.ref 51, .int (nI q), .int (nI (3 * c))]) f140_26 rfl rfl ?_
      refine k_aload f140_27 rfl ?_
      refine k_iconst (v := 1) f140_28 rfl ?_
      refine k_iconst (v := 99) f140_29 rfl ?_
      refine k_callv (as := [.int (99), .int (1)]) (rest := []) f140_31 hS.o51 rfl rfl rfl rfl (q_num (lo := 1) (hi := 99) (p := wl b n q) hR hS hT1 hx1 (by omega) (by omega)) ?_
      rintro v2 _ ⟨I2, rfl, hl2, hv2⟩
      rw [h1] at hv2
      have fq2 := fq1.trans hl2.fq
      have hT2 := hl2.tp hT1
      have hw2 := hw1.lx hl2
      obtain ⟨rfl, hn2⟩ := hv2
      refine k_if_ne f140_34 (fun h_ => absurd (by decide) h_) (fun _ => ?_)
      refine k_iconst (v := 0) f140_37 rfl ?_
      exact k_iret f140_38 (by decide) ⟨_, rfl, fq2, rfl, hn2⟩
    | inr z1 =>
      have o1 := nmq_ok (v := z1.1) (p := z1.2) (bk_le (wl_le hq).2).2 h1
      show zOk _ _ _ _ _ _ _ (fun v mm => ∃ I', mm = (I', J, R, G) ∧ FQ I I' ∧ ClR I' n v (bdS (nmQ b n 0 (P - 1) (bk b n (z1.2))) _))
      cases h2 : nmQ b n 0 (P - 1) (bk b n z1.2) with
      | inl e =>
        refine k_aload f140_0 rfl ?_
        refine k_gI (w := nI c) f140_1 hS.o51 rfl e9 ?_
        refine k_iconst (v := 8) f140_4 rfl ?_
        refine k_ic_ne f140_6 (fun _ => ?_) (fun h_ => absurd ((fun z => absurd ((nI_eq (b := 8) (by omega) (by omega)).mp z) (by omega))) h_)
        refine k_aload f140_16 rfl ?_
        refine k_callv (as := []) (rest := []) f140_17 hS.o51 rfl rfl rfl rfl (q_pass hR hS hT hx) ?_
        rintro _ _ ⟨rfl, I1, rfl, hx1, hl1⟩
        have hT1 := hl1.tp hT
        have hw1 := hw.lx hl1
        have fq1 := hl1.fq
        refine k_iconst (v := 3) f140_20 rfl ?_
        refine k_aload f140_21 rfl ?_
        refine k_gI (w := nI c) f140_22 hS.o51 rfl hw1.2.2.1 ?_
        refine k_imul f140_25 ?_
        rw [show (3 : Int32) * nI c = nI (3 * c) from pk_mul 3 c]
        refine k_istore (L' := [.ref 51, .int (nI q), .int (nI (3 * c))]) f140_26 rfl rfl ?_
        refine k_aload f140_27 rfl ?_
        refine k_iconst (v := 1) f140_28 rfl ?_
        refine k_iconst (v := 99) f140_29 rfl ?_
        refine k_callv (as := [.int (99), .int (1)]) (rest := []) f140_31 hS.o51 rfl rfl rfl rfl (q_num (lo := 1) (hi := 99) (p := wl b n q) hR hS hT1 hx1 (by omega) (by omega)) ?_
        rintro v2 _ ⟨I2, rfl, hl2, hv2⟩
        rw [h1] at hv2
        have fq2 := fq1.trans hl2.fq
        have hT2 := hl2.tp hT1
        have hw2 := hw1.lx hl2
        obtain ⟨rfl, hx2, hn2⟩ := hv2
        refine k_if_ne f140_34 (fun _ => ?_) (fun h_ => absurd (by decide) h_)
        refine k_aload f140_39 rfl ?_
        refine k_getr (q := 57) f140_40 hS.o51 rfl hR.r51_11 ?_
        refine k_iload f140_43 rfl ?_
        refine k_aload f140_44 rfl ?_
        refine k_gI (w := nI z1.1) f140_45 hS.o51 rfl hn2 ?_
        refine k_is (k := (3 * c)) f140_48 hS.a57 rfl (by omega) (by decide) ?_
        refine k_aload f140_49 rfl ?_
        refine k_iconst (v := 0) f140_50 rfl ?_
        refine k_aload f140_51 rfl ?_
        refine k_gI (w := nI P) f140_52 hS.o51 rfl (Eq.trans (z_u_p _ _ _ _ (by decide)) hw2.1) ?_
        refine k_iconst (v := 1) f140_55 rfl ?_
        refine k_isub f140_56 ?_
        rw [show nI P - 1 = nI (P - 1) from nI_sb (i := P) (q := 1) (by omega)]
        refine k_callv (as := [.int (nI (P - 1)), .int (0)]) (rest := []) f140_57 hS.o51 rfl rfl rfl rfl (q_num (lo := 0) (hi := P - 1) (p := z1.2) hR hS (hT2.put (by decide) (by decide)) (hx2.put (by omega)) (by omega) (by omega)) ?_
        rintro v3 _ ⟨I3, rfl, hl3, hv3⟩
        rw [h2] at hv3
        have fq3 := (fq2.put (by omega)).trans hl3.fq
        have hT3 := hl3.tp (hT2.put (by decide) (by decide))
        have hw3 := (hw2.keep (I' := z_u I2 57 (3 * c) (nI z1.1)) fun p k h => z_u_no _ _ (by have h : (p = 51 ∧ 7 ≤ k ∧ k ≤ 19 ∧ ¬ (13 ≤ k ∧ k ≤ 15)) ∨ (p = 57 ∧ k < 3 * c) ∨ (p = 58 ∧ k < 3 * m) := h; omega)).lx hl3
        obtain ⟨rfl, hn3⟩ := hv3
        refine k_if_ne f140_60 (fun h_ => absurd (by decide) h_) (fun _ => ?_)
        refine k_iconst (v := 0) f140_63 rfl ?_
        exact k_iret f140_64 (by decide) ⟨_, rfl, fq3, rfl, hn3⟩
      | inr z2 =>
        have o2 := nmq_ok (v := z2.1) (p := z2.2) (bk_le o1.2.2.1).2 h2
        have hz2 := o2.2.2.1
        show zOk _ _ _ _ _ _ _ (fun v mm => ∃ I', mm = (I', J, R, G) ∧ FQ I I' ∧ ClR I' n v (bdS (nmQ b n 0 (999) (bk b n (z2.2))) _))
        cases h3 : nmQ b n 0 (999) (bk b n z2.2) with
        | inl e =>
          refine k_aload f140_0 rfl ?_
          refine k_gI (w := nI c) f140_1 hS.o51 rfl e9 ?_
          refine k_iconst (v := 8) f140_4 rfl ?_
          refine k_ic_ne f140_6 (fun _ => ?_) (fun h_ => absurd ((fun z => absurd ((nI_eq (b := 8) (by omega) (by omega)).mp z) (by omega))) h_)
          refine k_aload f140_16 rfl ?_
          refine k_callv (as := []) (rest := []) f140_17 hS.o51 rfl rfl rfl rfl (q_pass hR hS hT hx) ?_
          rintro _ _ ⟨rfl, I1, rfl, hx1, hl1⟩
          have hT1 := hl1.tp hT
          have hw1 := hw.lx hl1
          have fq1 := hl1.fq
          refine k_iconst (v := 3) f140_20 rfl ?_
          refine k_aload f140_21 rfl ?_
          refine k_gI (w := nI c) f140_22 hS.o51 rfl hw1.2.2.1 ?_
          refine k_imul f140_25 ?_
          rw [show (3 : Int32) * nI c = nI (3 * c) from pk_mul 3 c]
          refine k_istore (L' := [.ref 51, .int (nI q), .int (nI (3 * c))]) f140_26 rfl rfl ?_
          refine k_aload f140_27 rfl ?_
          refine k_iconst (v := 1) f140_28 rfl ?_
          refine k_iconst (v := 99) f140_29 rfl ?_
          refine k_callv (as := [.int (99), .int (1)]) (rest := []) f140_31 hS.o51 rfl rfl rfl rfl (q_num (lo := 1) (hi := 99) (p := wl b n q) hR hS hT1 hx1 (by omega) (by omega)) ?_
          rintro v2 _ ⟨I2, rfl, hl2, hv2⟩
          rw [h1] at hv2
          have fq2 := fq1.trans hl2.fq
          have hT2 := hl2.tp hT1
          have hw2 := hw1.lx hl2
          obtain ⟨rfl, hx2, hn2⟩ := hv2
          refine k_if_ne f140_34 (fun _ => ?_) (fun h_ => absurd (by decide) h_)
          refine k_aload f140_39 rfl ?_
          refine k_getr (q := 57) f140_40 hS.o51 rfl hR.r51_11 ?_
          refine k_iload f140_43 rfl ?_
          refine k_aload f140_44 rfl ?_
          refine k_gI (w := nI z1.1) f140_45 hS.o51 rfl hn2 ?_
          refine k_is (k := (3 * c)) f140_48 hS.a57 rfl (by omega) (by decide) ?_
          refine k_aload f140_49 rfl ?_
          refine k_iconst (v := 0) f140_50 rfl ?_
          refine k_aload f140_51 rfl ?_
          refine k_gI (w := nI P) f140_52 hS.o51 rfl (Eq.trans (z_u_p _ _ _ _ (by decide)) hw2.1) ?_
          refine k_iconst (v := 1) f140_55 rfl ?_
          refine k_isub f140_56 ?_
          rw [show nI P - 1 = nI (P - 1) from nI_sb (i := P) (q := 1) (by omega)]
          refine k_callv (as := [.int (nI (P - 1)), .int (0)]) (rest := []) f140_57 hS.o51 rfl rfl rfl rfl (q_num (lo := 0) (hi := P - 1) (p := z1.2) hR hS (hT2.put (by decide) (by decide)) (hx2.put (by omega)) (by omega) (by omega)) ?_
          rintro v3 _ ⟨I3, rfl, hl3, hv3⟩
          rw [h2] at hv3
          have fq3 := (fq2.put (by omega)).trans hl3.fq
          have hT3 := hl3.tp (hT2.put (by decide) (by decide))
          have hw3 := (hw2.keep (I' := z_u I2 57 (3 * c) (nI z1.1)) fun p k h => z_u_no _ _ (by have h : (p = 51 ∧ 7 ≤ k ∧ k ≤ 19 ∧ ¬ (13 ≤ k ∧ k ≤ 15)) ∨ (p = 57 ∧ k < 3 * c) ∨ (p = 58 ∧ k < 3 * m) := h; omega)).lx hl3
          obtain ⟨rfl, hx3, hn3⟩ := hv3
          refine k_if_ne f140_60 (fun _ => ?_) (fun h_ => absurd (by decide) h_)
          refine k_aload f140_65 rfl ?_
          refine k_getr (q := 57) f140_66 hS.o51 rfl hR.r51_11 ?_
          refine k_iload f140_69 rfl ?_
          refine k_iconst (v := 1) f140_70 rfl ?_
          refine k_iadd f140_71 ?_
          rw [nI_1 (3 * c)]
          refine k_aload f140_72 rfl ?_
          refine k_gI (w := nI z2.1) f140_73 hS.o51 rfl hn3 ?_
          refine k_is (k := (3 * c + 1)) f140_76 hS.a57 rfl (by omega) (by decide) ?_
          refine k_aload f140_77 rfl ?_
          refine k_iconst (v := 0) f140_78 rfl ?_
          refine k_iconst (v := 999) f140_79 rfl ?_
          refine k_callv (as := [.int (999), .int (0)]) (rest := []) f140_82 hS.o51 rfl rfl rfl rfl (q_num (lo := 0) (hi := 999) (p := z2.2) hR hS (hT3.put (by decide) (by decide)) (hx3.put (by omega)) (by omega) (by omega)) ?_
          rintro v4 _ ⟨I4, rfl, hl4, hv4⟩
          rw [h3] at hv4
          have fq4 := (fq3.put (by omega)).trans hl4.fq
          have hT4 := hl4.tp (hT3.put (by decide) (by decide))
          have hw4 := (hw3.keep (I' := z_u I3 57 (3 * c + 1) (nI z2.1)) fun p k h => z_u_no _ _ (by have h : (p = 51 ∧ 7 ≤ k ∧ k ≤ 19 ∧ ¬ (13 ≤ k ∧ k ≤ 15)) ∨ (p = 57 ∧ k < 3 * c) ∨ (p = 58 ∧ k < 3 * m) := h; omega)).lx hl4
          obtain ⟨rfl, hn4⟩ := hv4
          refine k_if_ne f140_85 (fun h_ => absurd (by decide) h_) (fun _ => ?_)
          refine k_iconst (v := 0) f140_88 rfl ?_
          exact k_iret f140_89 (by decide) ⟨_, rfl, fq4, rfl, hn4⟩
        | inr z3 =>
          have o3 := nmq_ok (v := z3.1) (p := z3.2) (bk_le o2.2.2.1).2 h3
          refine k_aload f140_0 rfl ?_
          refine k_gI (w := nI c) f140_1 hS.o51 rfl e9 ?_
          refine k_iconst (v := 8) f140_4 rfl ?_
          refine k_ic_ne f140_6 (fun _ => ?_) (fun h_ => absurd ((fun z => absurd ((nI_eq (b := 8) (by omega) (by omega)).mp z) (by omega))) h_)
          refine k_aload f140_16 rfl ?_
          refine k_callv (as := []) (rest := []) f140_17 hS.o51 rfl rfl rfl rfl (q_pass hR hS hT hx) ?_
          rintro _ _ ⟨rfl, I1, rfl, hx1, hl1⟩
          have hT1 := hl1.tp hT
          have hw1 := hw.lx hl1
          have fq1 := hl1.fq
          refine k_iconst (v := 3) f140_20 rfl ?_
          refine k_aload f140_21 rfl ?_
          refine k_gI (w := nI c) f140_22 hS.o51 rfl hw1.2.2.1 ?_
          refine k_imul f140_25 ?_
          rw [show (3 : Int32) * nI c = nI (3 * c) from pk_mul 3 c]
          refine k_istore (L' := [.ref 51, .int (nI q), .int (nI (3 * c))]) f140_26 rfl rfl ?_
          refine k_aload f140_27 rfl ?_
          refine k_iconst (v := 1) f140_28 rfl ?_
          refine k_iconst (v := 99) f140_29 rfl ?_
          refine k_callv (as := [.int (99), .int (1)]) (rest := []) f140_31 hS.o51 rfl rfl rfl rfl (q_num (lo := 1) (hi := 99) (p := wl b n q) hR hS hT1 hx1 (by omega) (by omega)) ?_
          rintro v2 _ ⟨I2, rfl, hl2, hv2⟩
          rw [h1] at hv2
          have fq2 := fq1.trans hl2.fq
          have hT2 := hl2.tp hT1
          have hw2 := hw1.lx hl2
          obtain ⟨rfl, hx2, hn2⟩ := hv2
          refine k_if_ne f140_34 (fun _ => ?_) (fun h_ => absurd (by decide) h_)
          refine k_aload f140_39 rfl ?_
          refine k_getr (q := 57) f140_40 hS.o51 rfl hR.r51_11 ?_
          refine k_iload f140_43 rfl ?_
          refine k_aload f140_44 rfl ?_
          refine k_gI (w := nI z1.1) f140_45 hS.o51 rfl hn2 ?_
          refine k_is (k := (3 * c)) f140_48 hS.a57 rfl (by omega) (by decide) ?_
          refine k_aload f140_49 rfl ?_
          refine k_iconst (v := 0) f140_50 rfl ?_
          refine k_aload f140_51 rfl ?_
          refine k_gI (w := nI P) f140_52 hS.o51 rfl (Eq.trans (z_u_p _ _ _ _ (by decide)) hw2.1) ?_
          refine k_iconst (v := 1) f140_55 rfl ?_
          refine k_isub f140_56 ?_
          rw [show nI P - 1 = nI (P - 1) from nI_sb (i := P) (q := 1) (by omega)]
          refine k_callv (as := [.int (nI (P - 1)), .int (0)]) (rest := []) f140_57 hS.o51 rfl rfl rfl rfl (q_num (lo := 0) (hi := P - 1) (p := z1.2) hR hS (hT2.put (by decide) (by decide)) (hx2.put (by omega)) (by omega) (by omega)) ?_
          rintro v3 _ ⟨I3, rfl, hl3, hv3⟩
          rw [h2] at hv3
          have fq3 := (fq2.put (by omega)).trans hl3.fq
          have hT3 := hl3.tp (hT2.put (by decide) (by decide))
          have hw3 := (hw2.keep (I' := z_u I2 57 (3 * c) (nI z1.1)) fun p k h => z_u_no _ _ (by have h : (p = 51 ∧ 7 ≤ k ∧ k ≤ 19 ∧ ¬ (13 ≤ k ∧ k ≤ 15)) ∨ (p = 57 ∧ k < 3 * c) ∨ (p = 58 ∧ k < 3 * m) := h; omega)).lx hl3
          obtain ⟨rfl, hx3, hn3⟩ := hv3
          refine k_if_ne f140_60 (fun _ => ?_) (fun h_ => absurd (by decide) h_)
          refine k_aload f140_65 rfl ?_
          refine k_getr (q := 57) f140_66 hS.o51 rfl hR.r51_11 ?_
          refine k_iload f140_69 rfl ?_
          refine k_iconst (v := 1) f140_70 rfl ?_
          refine k_iadd f140_71 ?_
          rw [nI_1 (3 * c)]
          refine k_aload f140_72 rfl ?_
          refine k_gI (w := nI z2.1) f140_73 hS.o51 rfl hn3 ?_
          refine k_is (k := (3 * c + 1)) f140_76 hS.a57 rfl (by omega) (by decide) ?_
          refine k_aload f140_77 rfl ?_
          refine k_iconst (v := 0) f140_78 rfl ?_
          refine k_iconst (v := 999) f140_79 rfl ?_
          refine k_callv (as := [.int (999), .int (0)]) (rest := []) f140_82 hS.o51 rfl rfl rfl rfl (q_num (lo := 0) (hi := 999) (p := z2.2) hR hS (hT3.put (by decide) (by decide)) (hx3.put (by omega)) (by omega) (by omega)) ?_
          rintro v4 _ ⟨I4, rfl, hl4, hv4⟩
          rw [h3] at hv4
          have fq4 := (fq3.put (by omega)).trans hl4.fq
          have hT4 := hl4.tp (hT3.put (by decide) (by decide))
          have hw4 := (hw3.keep (I' := z_u I3 57 (3 * c + 1) (nI z2.1)) fun p k h => z_u_no _ _ (by have h : (p = 51 ∧ 7 ≤ k ∧ k ≤ 19 ∧ ¬ (13 ≤ k ∧ k ≤ 15)) ∨ (p = 57 ∧ k < 3 * c) ∨ (p = 58 ∧ k < 3 * m) := h; omega)).lx hl4
          obtain ⟨rfl, hx4, hn4⟩ := hv4
          refine k_if_ne f140_85 (fun _ => ?_) (fun h_ => absurd (by decide) h_)
          refine k_aload f140_90 rfl ?_
          refine k_getr (q := 57) f140_91 hS.o51 rfl hR.r51_11 ?_
          refine k_iload f140_94 rfl ?_
          refine k_iconst (v := 2) f140_95 rfl ?_
          refine k_iadd f140_96 ?_
          rw [show nI (3 * c) + 2 = nI (3 * c + 2) from nI_add _ 2]
          refine k_aload f140_97 rfl ?_
          refine k_gI (w := nI z3.1) f140_98 hS.o51 rfl hn4 ?_
          refine k_is (k := (3 * c + 2)) f140_101 hS.a57 rfl (by omega) (by decide) ?_
          refine k_aload f140_102 rfl ?_
          refine k_dup f140_103 ?_
          refine k_gI (w := nI c) f140_104 hS.o51 rfl (Eq.trans (z_u_p _ _ _ _ (by decide)) hw4.2.2.1) ?_
          refine k_iconst (v := 1) f140_107 rfl ?_
          refine k_iadd f140_108 ?_
          rw [nI_1 c]
          refine k_putI f140_109 hS.o51 rfl ?_
          refine k_iconst (v := 1) f140_112 rfl ?_
          obtain ⟨a1, a2, a3, a4, a5, a6, a7, a8⟩ := hw4
          refine k_iret f140_113 (by decide) ⟨_, rfl, (fq4.put (by omega)).put (by omega), rfl, (hx4.put (by omega)).put (by omega), (z_u_k _ _ _ (by decide)).trans ((z_u_p _ _ _ _ (by decide)).trans a1), (z_u_k _ _ _ (by decide)).trans ((z_u_p _ _ _ _ (by decide)).trans a2), z_u_same _ _ _ _, (z_u_k _ _ _ (by decide)).trans ((z_u_p _ _ _ _ (by decide)).trans a4), (z_u_k _ _ _ (by decide)).trans ((z_u_p _ _ _ _ (by decide)).trans a5), (z_u_k _ _ _ (by decide)).trans ((z_u_p _ _ _ _ (by decide)).trans a6), fun i hi => ?_, fun i hi => ?_⟩
          · have hi : i < c + 1 := hi
            show _ = nI ((upF cf c (z1.1, z2.1, z3.1)) i).1 ∧ _ = nI ((upF cf c (z1.1, z2.1, z3.1)) i).2.1 ∧ _ = nI ((upF cf c (z1.1, z2.1, z3.1)) i).2.2
            by_cases e : i = c
            · rw [show (upF cf c (z1.1, z2.1, z3.1)) i = (z1.1, z2.1, z3.1) from if_pos e, e]
              exact ⟨(z_u_p _ _ _ _ (by decide)).trans ((z_u_k _ _ _ (by omega)).trans ((hl4 _ _ (by omega)).trans ((z_u_k _ _ _ (by omega)).trans ((hl3 _ _ (by omega)).trans (z_u_same _ _ _ _))))), (z_u_p _ _ _ _ (by decide)).trans ((z_u_k _ _ _ (by omega)).trans ((hl4 _ _ (by omega)).trans (z_u_same _ _ _ _))), (z_u_p _ _ _ _ (by decide)).trans (z_u_same _ _ _ _)⟩
            · obtain ⟨x1, x2, x3⟩ := a7 i (show i < c by omega)
              rw [show (upF cf c (z1.1, z2.1, z3.1)) i = cf i from if_neg e]
              exact ⟨(z_u_p _ _ _ _ (by decide)).trans ((z_u_k _ _ _ (by omega)).trans x1), (z_u_p _ _ _ _ (by decide)).trans ((z_u_k _ _ _ (by omega)).trans x2), (z_u_p _ _ _ _ (by decide)).trans ((z_u_k _ _ _ (by omega)).trans x3)⟩
          · obtain ⟨x1, x2, x3⟩ := a8 i hi
            exact ⟨(z_u_p _ _ _ _ (by decide)).trans ((z_u_p _ _ _ _ (by decide)).trans x1), (z_u_p _ _ _ _ (by decide)).trans ((z_u_p _ _ _ _ (by decide)).trans x2), (z_u_p _ _ _ _ (by decide)).trans ((z_u_p _ _ _ _ (by decide)).trans x3)⟩
theorem q_r_meet {x : Nat × (Nat → Int32)} {d : Nat} {I : Nat → Nat → Int32} {J : Nat → Nat → Int64} {R : Nat → Nat → Option Nat} {G : zG} {b : Nat → Nat} {n P y c m ln q : Nat} {cf mf : Nat → Nat × Nat × Nat} (hR : Rs R) (hS : Sh G) (hT : TP I b n) (hx : RX I n q) (hw : TwR I (P, y, (c, cf), (m, mf), ln + 1)) (hP : P ≤ 10) (hP2 : 2 ≤ P) (hcm : m ≤ 24) : zOk x (d + 2) 141 0 [.ref 51, .int (nI q), zU, zU] [] (I, J, R, G) (fun v mm => ∃ I', mm = (I', J, R, G) ∧ FQ I I' ∧ ClR I' n v (if 24 ≤ m then .inl (1 + 8 * q + 4) else bdT b n 4 (P, y, (c, cf), (m, mf), ln) (wl b n q))) := by
  have hq := hx.2.1
  have h400 := hT.1
  have e7 : I 51 7 = nI P := hw.1
  have e8 : I 51 8 = (if y = 0 then -1 else nI y) := hw.2.1
  have e9 : I 51 9 = nI c := hw.2.2.1
  have e10 : I 51 10 = nI m := hw.2.2.2.1
  by_cases hc : 24 ≤ m
  · refine k_aload f141_0 rfl ?_
    refine k_gI (w := nI m) f141_1 hS.o51 rfl e10 ?_
    refine k_iconst (v := 24) f141_4 rfl ?_
    refine k_ic_ne f141_6 (fun h_ => absurd (congrArg nI (show m = 24 by omega)) h_) (fun _ => ?_)
    refine k_aload f141_9 rfl ?_
    refine k_iconst (v := 4) f141_10 rfl ?_
    refine k_iload f141_11 rfl ?_
    refine e_v (as := [.int (nI q), .int (4)]) (rest := []) f141_12 hS.o51 rfl rfl rfl (s_fails (w := 4) (a := q) hS hx.2.2.1) ?_
    exact k_iret f141_15 (by decide) ⟨_, rfl, FQ.rfl.put (by omega), by rw [if_pos hc]; exact ⟨rfl, z_u_same _ _ _ _⟩⟩
  · rw [if_neg hc]
    show zOk _ _ _ _ _ _ _ (fun v mm => ∃ I', mm = (I', J, R, G) ∧ FQ I I' ∧ ClR I' n v (bdS (nmQ b n 0 (1999) (bk b n (wl b n q))) _))
    cases h1 : nmQ b n 0 (1999) (bk b n (wl b n q)) with
    | inl e =>
      refine k_aload f141_0 rfl ?_
      refine k_gI (w := nI m) f141_1 hS.o51 rfl e10 ?_
      refine k_iconst (v := 24) f141_4 rfl ?_
      refine k_ic_ne f141_6 (fun _ => ?_) (fun h_ => absurd ((fun z => absurd ((nI_eq (b := 24) (by omega) (by omega)).mp z) (by omega))) h_)
      refine k_aload f141_16 rfl ?_
      refine k_callv (as := []) (rest := []) f141_17 hS.o51 rfl rfl rfl rfl (q_pass hR hS hT hx) ?_
      rintro _ _ ⟨rfl, I1, rfl, hx1, hl1⟩
      have hT1 := hl1.tp hT
      have hw1 := hw.lx hl1
      have fq1 := hl1.fq
      refine k_iconst (v := 3) f141_20 rfl ?_
      refine k_aload f141_21 rfl ?_
      refine k_gI (w := nI m) f141_22 hS.o51 rfl hw1.2.2.2.1 ?_
      refine k_imul f141_25 ?_
      rw [show (3 : Int32) * nI m = nI (3 * m) from pk_mul 3 m]
      refine k_istore (L' := [.ref 51, .int (nI q), .int (nI (3 * m)), zU]) f141_26 rfl rfl ?_
      refine k_aload f141_27 rfl ?_
      refine k_iconst (v := 0) f141_28 rfl ?_
      refine k_iconst (v := 1999) f141_29 rfl ?_
      refine k_callv (as := [.int (1999), .int (0)]) (rest := []) f141_32 hS.o51 rfl rfl rfl rfl (q_num (lo := 0) (hi := 1999) (p := wl b n q) hR hS hT1 hx1 (by omega) (by omega)) ?_
      rintro v2 _ ⟨I2, rfl, hl2, hv2⟩
      rw [h1] at hv2
      have fq2 := fq1.trans hl2.fq
      have hT2 := hl2.tp hT1
      have hw2 := hw1.lx hl2
      obtain ⟨rfl, hn2⟩ := hv2
      refine k_if_ne f141_35 (fun h_ => absurd (by decide) h_) (fun _ => ?_)
      refine k_iconst (v := 0) f141_38 rfl ?_
      exact k_iret f141_39 (by decide) ⟨_, rfl, fq2, rfl, hn2⟩
    | inr z1 =>
      have o1 := nmq_ok (v := z1.1) (p := z1.2) (bk_le (wl_le hq).2).2 h1
      show zOk _ _ _ _ _ _ _ (fun v mm => ∃ I', mm = (I', J, R, G) ∧ FQ I I' ∧ ClR I' n v (bdS (nmQ b n 0 (P - 1) (bk b n (z1.2))) _))
      cases h2 : nmQ b n 0 (P - 1) (bk b n z1.2) with
      | inl e =>
        refine k_aload f141_0 rfl ?_
        refine k_gI (w := nI m) f141_1 hS.o51 rfl e10 ?_
        refine k_iconst (v := 24) f141_4 rfl ?_
        refine k_ic_ne f141_6 (fun _ => ?_) (fun h_ => absurd ((fun z => absurd ((nI_eq (b := 24) (by omega) (by omega)).mp z) (by omega))) h_)
        refine k_aload f141_16 rfl ?_
        refine k_callv (as := []) (rest := []) f141_17 hS.o51 rfl rfl rfl rfl (q_pass hR hS hT hx) ?_
        rintro _ _ ⟨rfl, I1, rfl, hx1, hl1⟩
        have hT1 := hl1.tp hT
        have hw1 := hw.lx hl1
        have fq1 := hl1.fq
        refine k_iconst (v := 3) f141_20 rfl ?_
        refine k_aload f141_21 rfl ?_
        refine k_gI (w := nI m) f141_22 hS.o51 rfl hw1.2.2.2.1 ?_
        refine k_imul f141_25 ?_
        rw [show (3 : Int32) * nI m = nI (3 * m) from pk_mul 3 m]
        refine k_istore (L' := [.ref 51, .int (nI q), .int (nI (3 * m)), zU]) f141_26 rfl rfl ?_
        refine k_aload f141_27 rfl ?_
        refine k_iconst (v := 0) f141_28 rfl ?_
        refine k_iconst (v := 1999) f141_29 rfl ?_
        refine k_callv (as := [.int (1999), .int (0)]) (rest := []) f141_32 hS.o51 rfl rfl rfl rfl (q_num (lo := 0) (hi := 1999) (p := wl b n q) hR hS hT1 hx1 (by omega) (by omega)) ?_
        rintro v2 _ ⟨I2, rfl, hl2, hv2⟩
        rw [h1] at hv2
        have fq2 := fq1.trans hl2.fq
        have hT2 := hl2.tp hT1
        have hw2 := hw1.lx hl2
        obtain ⟨rfl, hx2, hn2⟩ := hv2
        refine k_if_ne f141_35 (fun _ => ?_) (fun h_ => absurd (by decide) h_)
        refine k_aload f141_40 rfl ?_
        refine k_getr (q := 58) f141_41 hS.o51 rfl hR.r51_12 ?_
        refine k_iload f141_44 rfl ?_
        refine k_aload f141_45 rfl ?_
        refine k_gI (w := nI z1.1) f141_46 hS.o51 rfl hn2 ?_
        refine k_is (k := (3 * m)) f141_49 hS.a58 rfl (by omega) (by decide) ?_
        refine k_aload f141_50 rfl ?_
        refine k_iconst (v := 0) f141_51 rfl ?_
        refine k_aload f141_52 rfl ?_
        refine k_gI (w := nI P) f141_53 hS.o51 rfl (Eq.trans (z_u_p _ _ _ _ (by decide)) hw2.1) ?_
        refine k_iconst (v := 1) f141_56 rfl ?_
        refine k_isub f141_57 ?_
        rw [show nI P - 1 = nI (P - 1) from nI_sb (i := P) (q := 1) (by omega)]
        refine k_callv (as := [.int (nI (P - 1)), .int (0)]) (rest := []) f141_58 hS.o51 rfl rfl rfl rfl (q_num (lo := 0) (hi := P - 1) (p := z1.2) hR hS (hT2.put (by decide) (by decide)) (hx2.put (by omega)) (by omega) (by omega)) ?_
        rintro v3 _ ⟨I3, rfl, hl3, hv3⟩
        rw [h2] at hv3
        have fq3 := (fq2.put (by omega)).trans hl3.fq
        have hT3 := hl3.tp (hT2.put (by decide) (by decide))
        have hw3 := (hw2.keep (I' := z_u I2 58 (3 * m) (nI z1.1)) fun p k h => z_u_no _ _ (by have h : (p = 51 ∧ 7 ≤ k ∧ k ≤ 19 ∧ ¬ (13 ≤ k ∧ k ≤ 15)) ∨ (p = 57 ∧ k < 3 * c) ∨ (p = 58 ∧ k < 3 * m) := h; omega)).lx hl3
        obtain ⟨rfl, hn3⟩ := hv3
        refine k_if_ne f141_61 (fun h_ => absurd (by decide) h_) (fun _ => ?_)
        refine k_iconst (v := 0) f141_64 rfl ?_
        exact k_iret f141_65 (by decide) ⟨_, rfl, fq3, rfl, hn3⟩
      | inr z2 =>
        have o2 := nmq_ok (v := z2.1) (p := z2.2) (bk_le o1.2.2.1).2 h2
        have hz2 := o2.2.2.1
        show zOk _ _ _ _ _ _ _ (fun v mm => ∃ I', mm = (I', J, R, G) ∧ FQ I I' ∧ ClR I' n v (bdS (nmQ b n 0 (P - 1) (bk b n (z2.2))) _))
        cases h3 : nmQ b n 0 (P - 1) (bk b n z2.2) with
        | inl e =>
          refine k_aload f141_0 rfl ?_
          refine k_gI (w := nI m) f141_1 hS.o51 rfl e10 ?_
          refine k_iconst (v := 24) f141_4 rfl ?_
          refine k_ic_ne f141_6 (fun _ => ?_) (fun h_ => absurd ((fun z => absurd ((nI_eq (b := 24) (by omega) (by omega)).mp z) (by omega))) h_)
          refine k_aload f141_16 rfl ?_
          refine k_callv (as := []) (rest := []) f141_17 hS.o51 rfl rfl rfl rfl (q_pass hR hS hT hx) ?_
          rintro _ _ ⟨rfl, I1, rfl, hx1, hl1⟩
          have hT1 := hl1.tp hT
          have hw1 := hw.lx hl1
          have fq1 := hl1.fq
          refine k_iconst (v := 3) f141_20 rfl ?_
          refine k_aload f141_21 rfl ?_
          refine k_gI (w := nI m) f141_22 hS.o51 rfl hw1.2.2.2.1 ?_
          refine k_imul f141_25 ?_
          rw [show (3 : Int32) * nI m = nI (3 * m) from pk_mul 3 m]
          refine k_istore (L' := [.ref 51, .int (nI q), .int (nI (3 * m)), zU]) f141_26 rfl rfl ?_
          refine k_aload f141_27 rfl ?_
          refine k_iconst (v := 0) f141_28 rfl ?_
          refine k_iconst (v := 1999) f141_29 rfl ?_
          refine k_callv (as := [.int (1999), .int (0)]) (rest := []) f141_32 hS.o51 rfl rfl rfl rfl (q_num (lo := 0) (hi := 1999) (p := wl b n q) hR hS hT1 hx1 (by omega) (by omega)) ?_
          rintro v2 _ ⟨I2, rfl, hl2, hv2⟩
          rw [h1] at hv2
          have fq2 := fq1.trans hl2.fq
          have hT2 := hl2.tp hT1
          have hw2 := hw1.lx hl2
          obtain ⟨rfl, hx2, hn2⟩ := hv2
          refine k_if_ne f141_35 (fun _ => ?_) (fun h_ => absurd (by decide) h_)
          refine k_aload f141_40 rfl ?_
          refine k_getr (q := 58) f141_41 hS.o51 rfl hR.r51_12 ?_
          refine k_iload f141_44 rfl ?_
          refine k_aload f141_45 rfl ?_
          refine k_gI (w := nI z1.1) f141_46 hS.o51 rfl hn2 ?_
          refine k_is (k := (3 * m)) f141_49 hS.a58 rfl (by omega) (by decide) ?_
          refine k_aload f141_50 rfl ?_
          refine k_iconst (v := 0) f141_51 rfl ?_
          refine k_aload f141_52 rfl ?_
          refine k_gI (w := nI P) f141_53 hS.o51 rfl (Eq.trans (z_u_p _ _ _ _ (by decide)) hw2.1) ?_
          refine k_iconst (v := 1) f141_56 rfl ?_
          refine k_isub f141_57 ?_
          rw [show nI P - 1 = nI (P - 1) from nI_sb (i := P) (q := 1) (by omega)]
          refine k_callv (as := [.int (nI (P - 1)), .int (0)]) (rest := []) f141_58 hS.o51 rfl rfl rfl rfl (q_num (lo := 0) (hi := P - 1) (p := z1.2) hR hS (hT2.put (by decide) (by decide)) (hx2.put (by omega)) (by omega) (by omega)) ?_
          rintro v3 _ ⟨I3, rfl, hl3, hv3⟩
          rw [h2] at hv3
          have fq3 := (fq2.put (by omega)).trans hl3.fq
          have hT3 := hl3.tp (hT2.put (by decide) (by decide))
          have hw3 := (hw2.keep (I' := z_u I2 58 (3 * m) (nI z1.1)) fun p k h => z_u_no _ _ (by have h : (p = 51 ∧ 7 ≤ k ∧ k ≤ 19 ∧ ¬ (13 ≤ k ∧ k ≤ 15)) ∨ (p = 57 ∧ k < 3 * c) ∨ (p = 58 ∧ k < 3 * m) := h; omega)).lx hl3
          obtain ⟨rfl, hx3, hn3⟩ := hv3
          refine k_if_ne f141_61 (fun _ => ?_) (fun h_ => absurd (by decide) h_)
          refine k_aload f141_66 rfl ?_
          refine k_getr (q := 58) f141_67 hS.o51 rfl hR.r51_12 ?_
          refine k_iload f141_70 rfl ?_
          refine k_iconst (v := 1) f141_71 rfl ?_
          refine k_iadd f141_72 ?_
          rw [nI_1 (3 * m)]
          refine k_aload f141_73 rfl ?_
          refine k_gI (w := nI z2.1) f141_74 hS.o51 rfl hn3 ?_
          refine k_is (k := (3 * m + 1)) f141_77 hS.a58 rfl (by omega) (by decide) ?_
          refine k_aload f141_78 rfl ?_
          refine k_callv (as := []) (rest := []) f141_79 hS.o51 rfl rfl rfl rfl (q_see (p := z2.2) hR hS (hT3.put (by decide) (by decide)) (hx3.put (by omega))) ?_
          rintro _ _ ⟨rfl, I8, rfl, hx8, hl8⟩
          have hT8 := hl8.tp (hT3.put (by decide) (by decide))
          have fq8 := (fq3.put (by omega)).trans hl8.fq
          have hw8 := (hw3.keep (I' := z_u I3 58 (3 * m + 1) (nI z2.1)) fun p k h => z_u_no _ _ (by have h : (p = 51 ∧ 7 ≤ k ∧ k ≤ 19 ∧ ¬ (13 ≤ k ∧ k ≤ 15)) ∨ (p = 57 ∧ k < 3 * c) ∨ (p = 58 ∧ k < 3 * m) := h; omega)).lx hl8
          refine k_popi f141_82 ?_
          refine k_aload f141_83 rfl ?_
          refine k_gI (w := nI (bk b n z2.2)) f141_84 hS.o51 rfl hx8.1 ?_
          refine k_istore (L' := [.ref 51, .int (nI q), .int (nI (3 * m)), .int (nI (bk b n z2.2))]) f141_87 rfl rfl ?_
          refine k_aload f141_88 rfl ?_
          refine k_iconst (v := 0) f141_89 rfl ?_
          refine k_aload f141_90 rfl ?_
          refine k_gI (w := nI P) f141_91 hS.o51 rfl hw8.1 ?_
          refine k_iconst (v := 1) f141_94 rfl ?_
          refine k_isub f141_95 ?_
          rw [show nI P - 1 = nI (P - 1) from nI_sb (i := P) (q := 1) (by omega)]
          refine k_callv (as := [.int (nI (P - 1)), .int (0)]) (rest := []) f141_96 hS.o51 rfl rfl rfl rfl (q_num (lo := 0) (hi := P - 1) (p := bk b n z2.2) hR hS hT8 hx8 (by omega) (by omega)) ?_
          rintro v4 _ ⟨I4, rfl, hl4, hv4⟩
          rw [bk_bk hz2] at hv4
          rw [h3] at hv4
          have fq4 := fq8.trans hl4.fq
          have hT4 := hl4.tp hT8
          have hw4 := hw8.lx hl4
          obtain ⟨rfl, hn4⟩ := hv4
          refine k_if_ne f141_99 (fun h_ => absurd (by decide) h_) (fun _ => ?_)
          refine k_iconst (v := 0) f141_102 rfl ?_
          exact k_iret f141_103 (by decide) ⟨_, rfl, fq4, rfl, hn4⟩
        | inr z3 =>
          have o3 := nmq_ok (v := z3.1) (p := z3.2) (bk_le o2.2.2.1).2 h3
          show zOk _ _ _ _ _ _ _ (fun v mm => ∃ I', mm = (I', J, R, G) ∧ FQ I I' ∧ ClR I' n v (if z3.1 = z2.1 then _ else _))
          by_cases ez : z3.1 = z2.1
          · rw [if_pos ez]
            refine k_aload f141_0 rfl ?_
            refine k_gI (w := nI m) f141_1 hS.o51 rfl e10 ?_
            refine k_iconst (v := 24) f141_4 rfl ?_
            refine k_ic_ne f141_6 (fun _ => ?_) (fun h_ => absurd ((fun z => absurd ((nI_eq (b := 24) (by omega) (by omega)).mp z) (by omega))) h_)
            refine k_aload f141_16 rfl ?_
            refine k_callv (as := []) (rest := []) f141_17 hS.o51 rfl rfl rfl rfl (q_pass hR hS hT hx) ?_
            rintro _ _ ⟨rfl, I1, rfl, hx1, hl1⟩
            have hT1 := hl1.tp hT
            have hw1 := hw.lx hl1
            have fq1 := hl1.fq
            refine k_iconst (v := 3) f141_20 rfl ?_
            refine k_aload f141_21 rfl ?_
            refine k_gI (w := nI m) f141_22 hS.o51 rfl hw1.2.2.2.1 ?_
            refine k_imul f141_25 ?_
            rw [show (3 : Int32) * nI m = nI (3 * m) from pk_mul 3 m]
            refine k_istore (L' := [.ref 51, .int (nI q), .int (nI (3 * m)), zU]) f141_26 rfl rfl ?_
            refine k_aload f141_27 rfl ?_
            refine k_iconst (v := 0) f141_28 rfl ?_
            refine k_iconst (v := 1999) f141_29 rfl ?_
            refine k_callv (as := [.int (1999), .int (0)]) (rest := []) f141_32 hS.o51 rfl rfl rfl rfl (q_num (lo := 0) (hi := 1999) (p := wl b n q) hR hS hT1 hx1 (by omega) (by omega)) ?_
            rintro v2 _ ⟨I2, rfl, hl2, hv2⟩
            rw [h1] at hv2
            have fq2 := fq1.trans hl2.fq
            have hT2 := hl2.tp hT1
            have hw2 := hw1.lx hl2
            obtain ⟨rfl, hx2, hn2⟩ := hv2
            refine k_if_ne f141_35 (fun _ => ?_) (fun h_ => absurd (by decide) h_)
            refine k_aload f141_40 rfl ?_
            refine k_getr (q := 58) f141_41 hS.o51 rfl hR.r51_12 ?_
            refine k_iload f141_44 rfl ?_
            refine k_aload f141_45 rfl ?_
            refine k_gI (w := nI z1.1) f141_46 hS.o51 rfl hn2 ?_
            refine k_is (k := (3 * m)) f141_49 hS.a58 rfl (by omega) (by decide) ?_
            refine k_aload f141_50 rfl ?_
            refine k_iconst (v := 0) f141_51 rfl ?_
            refine k_aload f141_52 rfl ?_
            refine k_gI (w := nI P) f141_53 hS.o51 rfl (Eq.trans (z_u_p _ _ _ _ (by decide)) hw2.1) ?_
            refine k_iconst (v := 1) f141_56 rfl ?_
            refine k_isub f141_57 ?_
            rw [show nI P - 1 = nI (P - 1) from nI_sb (i := P) (q := 1) (by omega)]
            refine k_callv (as := [.int (nI (P - 1)), .int (0)]) (rest := []) f141_58 hS.o51 rfl rfl rfl rfl (q_num (lo := 0) (hi := P - 1) (p := z1.2) hR hS (hT2.put (by decide) (by decide)) (hx2.put (by omega)) (by omega) (by omega)) ?_
            rintro v3 _ ⟨I3, rfl, hl3, hv3⟩
            rw [h2] at hv3
            have fq3 := (fq2.put (by omega)).trans hl3.fq
            have hT3 := hl3.tp (hT2.put (by decide) (by decide))
            have hw3 := (hw2.keep (I' := z_u I2 58 (3 * m) (nI z1.1)) fun p k h => z_u_no _ _ (by have h : (p = 51 ∧ 7 ≤ k ∧ k ≤ 19 ∧ ¬ (13 ≤ k ∧ k ≤ 15)) ∨ (p = 57 ∧ k < 3 * c) ∨ (p = 58 ∧ k < 3 * m) := h; omega)).lx hl3
            obtain ⟨rfl, hx3, hn3⟩ := hv3
            refine k_if_ne f141_61 (fun _ => ?_) (fun h_ => absurd (by decide) h_)
            refine k_aload f141_66 rfl ?_
            refine k_getr (q := 58) f141_67 hS.o51 rfl hR.r51_12 ?_
            refine k_iload f141_70 rfl ?_
            refine k_iconst (v := 1) f141_71 rfl ?_
            refine k_iadd f141_72 ?_
            rw [nI_1 (3 * m)]
            refine k_aload f141_73 rfl ?_
            refine k_gI (w := nI z2.1) f141_74 hS.o51 rfl hn3 ?_
            refine k_is (k := (3 * m + 1)) f141_77 hS.a58 rfl (by omega) (by decide) ?_
            refine k_aload f141_78 rfl ?_
            refine k_callv (as := []) (rest := []) f141_79 hS.o51 rfl rfl rfl rfl (q_see (p := z2.2) hR hS (hT3.put (by decide) (by decide)) (hx3.put (by omega))) ?_
            rintro _ _ ⟨rfl, I8, rfl, hx8, hl8⟩
            have hT8 := hl8.tp (hT3.put (by decide) (by decide))
            have fq8 := (fq3.put (by omega)).trans hl8.fq
            have hw8 := (hw3.keep (I' := z_u I3 58 (3 * m + 1) (nI z2.1)) fun p k h => z_u_no _ _ (by have h : (p = 51 ∧ 7 ≤ k ∧ k ≤ 19 ∧ ¬ (13 ≤ k ∧ k ≤ 15)) ∨ (p = 57 ∧ k < 3 * c) ∨ (p = 58 ∧ k < 3 * m) := h; omega)).lx hl8
            refine k_popi f141_82 ?_
            refine k_aload f141_83 rfl ?_
            refine k_gI (w := nI (bk b n z2.2)) f141_84 hS.o51 rfl hx8.1 ?_
            refine k_istore (L' := [.ref 51, .int (nI q), .int (nI (3 * m)), .int (nI (bk b n z2.2))]) f141_87 rfl rfl ?_
            refine k_aload f141_88 rfl ?_
            refine k_iconst (v := 0) f141_89 rfl ?_
            refine k_aload f141_90 rfl ?_
            refine k_gI (w := nI P) f141_91 hS.o51 rfl hw8.1 ?_
            refine k_iconst (v := 1) f141_94 rfl ?_
            refine k_isub f141_95 ?_
            rw [show nI P - 1 = nI (P - 1) from nI_sb (i := P) (q := 1) (by omega)]
            refine k_callv (as := [.int (nI (P - 1)), .int (0)]) (rest := []) f141_96 hS.o51 rfl rfl rfl rfl (q_num (lo := 0) (hi := P - 1) (p := bk b n z2.2) hR hS hT8 hx8 (by omega) (by omega)) ?_
            rintro v4 _ ⟨I4, rfl, hl4, hv4⟩
            rw [bk_bk hz2] at hv4
            rw [h3] at hv4
            have fq4 := fq8.trans hl4.fq
            have hT4 := hl4.tp hT8
            have hw4 := hw8.lx hl4
            obtain ⟨rfl, hx4, hn4⟩ := hv4
            refine k_if_ne f141_99 (fun _ => ?_) (fun h_ => absurd (by decide) h_)
            refine k_aload f141_104 rfl ?_
            refine k_gI (w := nI z3.1) f141_105 hS.o51 rfl hn4 ?_
            refine k_aload f141_108 rfl ?_
            refine k_getr (q := 58) f141_109 hS.o51 rfl hR.r51_12 ?_
            refine k_iload f141_112 rfl ?_
            refine k_iconst (v := 1) f141_113 rfl ?_
            refine k_iadd f141_114 ?_
            rw [nI_1 (3 * m)]
            refine k_ia (k := (3 * m + 1)) (w := nI z2.1) f141_115 hS.a58 rfl (by omega) (by decide) ((hl4 _ _ (by omega)).trans ((hl8 _ _ (by omega)).trans (z_u_same _ _ _ _))) ?_
            refine k_ic_ne f141_116 (fun h_ => absurd (congrArg nI ez) h_) (fun _ => ?_)
            refine k_aload f141_119 rfl ?_
            refine k_iconst (v := 1) f141_120 rfl ?_
            refine k_iload f141_121 rfl ?_
            refine e_v (as := [.int (nI (bk b n z2.2)), .int (1)]) (rest := []) f141_122 hS.o51 rfl rfl rfl (s_fails (w := 1) (a := bk b n z2.2) hS hx4.2.2.1) ?_
            exact k_iret f141_125 (by decide) ⟨_, rfl, fq4.put (by omega), rfl, z_u_same _ _ _ _⟩
          · rw [if_neg ez]
            refine k_aload f141_0 rfl ?_
            refine k_gI (w := nI m) f141_1 hS.o51 rfl e10 ?_
            refine k_iconst (v := 24) f141_4 rfl ?_
            refine k_ic_ne f141_6 (fun _ => ?_) (fun h_ => absurd ((fun z => absurd ((nI_eq (b := 24) (by omega) (by omega)).mp z) (by omega))) h_)
            refine k_aload f141_16 rfl ?_
            refine k_callv (as := []) (rest := []) f141_17 hS.o51 rfl rfl rfl rfl (q_pass hR hS hT hx) ?_
            rintro _ _ ⟨rfl, I1, rfl, hx1, hl1⟩
            have hT1 := hl1.tp hT
            have hw1 := hw.lx hl1
            have fq1 := hl1.fq
            refine k_iconst (v := 3) f141_20 rfl ?_
            refine k_aload f141_21 rfl ?_
            refine k_gI (w := nI m) f141_22 hS.o51 rfl hw1.2.2.2.1 ?_
            refine k_imul f141_25 ?_
            rw [show (3 : Int32) * nI m = nI (3 * m) from pk_mul 3 m]
            refine k_istore (L' := [.ref 51, .int (nI q), .int (nI (3 * m)), zU]) f141_26 rfl rfl ?_
            refine k_aload f141_27 rfl ?_
            refine k_iconst (v := 0) f141_28 rfl ?_
            refine k_iconst (v := 1999) f141_29 rfl ?_
            refine k_callv (as := [.int (1999), .int (0)]) (rest := []) f141_32 hS.o51 rfl rfl rfl rfl (q_num (lo := 0) (hi := 1999) (p := wl b n q) hR hS hT1 hx1 (by omega) (by omega)) ?_
            rintro v2 _ ⟨I2, rfl, hl2, hv2⟩
            rw [h1] at hv2
            have fq2 := fq1.trans hl2.fq
            have hT2 := hl2.tp hT1
            have hw2 := hw1.lx hl2
            obtain ⟨rfl, hx2, hn2⟩ := hv2
            refine k_if_ne f141_35 (fun _ => ?_) (fun h_ => absurd (by decide) h_)
            refine k_aload f141_40 rfl ?_
            refine k_getr (q := 58) f141_41 hS.o51 rfl hR.r51_12 ?_
            refine k_iload f141_44 rfl ?_
            refine k_aload f141_45 rfl ?_
            refine k_gI (w := nI z1.1) f141_46 hS.o51 rfl hn2 ?_
            refine k_is (k := (3 * m)) f141_49 hS.a58 rfl (by omega) (by decide) ?_
            refine k_aload f141_50 rfl ?_
            refine k_iconst (v := 0) f141_51 rfl ?_
            refine k_aload f141_52 rfl ?_
            refine k_gI (w := nI P) f141_53 hS.o51 rfl (Eq.trans (z_u_p _ _ _ _ (by decide)) hw2.1) ?_
            refine k_iconst (v := 1) f141_56 rfl ?_
            refine k_isub f141_57 ?_
            rw [show nI P - 1 = nI (P - 1) from nI_sb (i := P) (q := 1) (by omega)]
            refine k_callv (as := [.int (nI (P - 1)), .int (0)]) (rest := []) f141_58 hS.o51 rfl rfl rfl rfl (q_num (lo := 0) (hi := P - 1) (p := z1.2) hR hS (hT2.put (by decide) (by decide)) (hx2.put (by omega)) (by omega) (by omega)) ?_
            rintro v3 _ ⟨I3, rfl, hl3, hv3⟩
            rw [h2] at hv3
            have fq3 := (fq2.put (by omega)).trans hl3.fq
            have hT3 := hl3.tp (hT2.put (by decide) (by decide))
            have hw3 := (hw2.keep (I' := z_u I2 58 (3 * m) (nI z1.1)) fun p k h => z_u_no _ _ (by have h : (p = 51 ∧ 7 ≤ k ∧ k ≤ 19 ∧ ¬ (13 ≤ k ∧ k ≤ 15)) ∨ (p = 57 ∧ k < 3 * c) ∨ (p = 58 ∧ k < 3 * m) := h; omega)).lx hl3
            obtain ⟨rfl, hx3, hn3⟩ := hv3
            refine k_if_ne f141_61 (fun _ => ?_) (fun h_ => absurd (by decide) h_)
            refine k_aload f141_66 rfl ?_
            refine k_getr (q := 58) f141_67 hS.o51 rfl hR.r51_12 ?_
            refine k_iload f141_70 rfl ?_
            refine k_iconst (v := 1) f141_71 rfl ?_
            refine k_iadd f141_72 ?_
            rw [nI_1 (3 * m)]
            refine k_aload f141_73 rfl ?_
            refine k_gI (w := nI z2.1) f141_74 hS.o51 rfl hn3 ?_
            refine k_is (k := (3 * m + 1)) f141_77 hS.a58 rfl (by omega) (by decide) ?_
            refine k_aload f141_78 rfl ?_
            refine k_callv (as := []) (rest := []) f141_79 hS.o51 rfl rfl rfl rfl (q_see (p := z2.2) hR hS (hT3.put (by decide) (by decide)) (hx3.put (by omega))) ?_
            rintro _ _ ⟨rfl, I8, rfl, hx8, hl8⟩
            have hT8 := hl8.tp (hT3.put (by decide) (by decide))
            have fq8 := (fq3.put (by omega)).trans hl8.fq
            have hw8 := (hw3.keep (I' := z_u I3 58 (3 * m + 1) (nI z2.1)) fun p k h => z_u_no _ _ (by have h : (p = 51 ∧ 7 ≤ k ∧ k ≤ 19 ∧ ¬ (13 ≤ k ∧ k ≤ 15)) ∨ (p = 57 ∧ k < 3 * c) ∨ (p = 58 ∧ k < 3 * m) := h; omega)).lx hl8
            refine k_popi f141_82 ?_
            refine k_aload f141_83 rfl ?_
            refine k_gI (w := nI (bk b n z2.2)) f141_84 hS.o51 rfl hx8.1 ?_
            refine k_istore (L' := [.ref 51, .int (nI q), .int (nI (3 * m)), .int (nI (bk b n z2.2))]) f141_87 rfl rfl ?_
            refine k_aload f141_88 rfl ?_
            refine k_iconst (v := 0) f141_89 rfl ?_
            refine k_aload f141_90 rfl ?_
            refine k_gI (w := nI P) f141_91 hS.o51 rfl hw8.1 ?_
            refine k_iconst (v := 1) f141_94 rfl ?_
            refine k_isub f141_95 ?_
            rw [show nI P - 1 = nI (P - 1) from nI_sb (i := P) (q := 1) (by omega)]
            refine k_callv (as := [.int (nI (P - 1)), .int (0)]) (rest := []) f141_96 hS.o51 rfl rfl rfl rfl (q_num (lo := 0) (hi := P - 1) (p := bk b n z2.2) hR hS hT8 hx8 (by omega) (by omega)) ?_
            rintro v4 _ ⟨I4, rfl, hl4, hv4⟩
            rw [bk_bk hz2] at hv4
            rw [h3] at hv4
            have fq4 := fq8.trans hl4.fq
            have hT4 := hl4.tp hT8
            have hw4 := hw8.lx hl4
            obtain ⟨rfl, hx4, hn4⟩ := hv4
            refine k_if_ne f141_99 (fun _ => ?_) (fun h_ => absurd (by decide) h_)
            refine k_aload f141_104 rfl ?_
            refine k_gI (w := nI z3.1) f141_105 hS.o51 rfl hn4 ?_
            refine k_aload f141_108 rfl ?_
            refine k_getr (q := 58) f141_109 hS.o51 rfl hR.r51_12 ?_
            refine k_iload f141_112 rfl ?_
            refine k_iconst (v := 1) f141_113 rfl ?_
            refine k_iadd f141_114 ?_
            rw [nI_1 (3 * m)]
            refine k_ia (k := (3 * m + 1)) (w := nI z2.1) f141_115 hS.a58 rfl (by omega) (by decide) ((hl4 _ _ (by omega)).trans ((hl8 _ _ (by omega)).trans (z_u_same _ _ _ _))) ?_
            refine k_ic_ne f141_116 (fun _ => ?_) (fun h_ => absurd ((fun z => ez ((nI_eq (by omega) (by omega)).mp z))) h_)
            refine k_aload f141_126 rfl ?_
            refine k_getr (q := 58) f141_127 hS.o51 rfl hR.r51_12 ?_
            refine k_iload f141_130 rfl ?_
            refine k_iconst (v := 2) f141_131 rfl ?_
            refine k_iadd f141_132 ?_
            rw [show nI (3 * m) + 2 = nI (3 * m + 2) from nI_add _ 2]
            refine k_aload f141_133 rfl ?_
            refine k_gI (w := nI z3.1) f141_134 hS.o51 rfl hn4 ?_
            refine k_is (k := (3 * m + 2)) f141_137 hS.a58 rfl (by omega) (by decide) ?_
            refine k_aload f141_138 rfl ?_
            refine k_dup f141_139 ?_
            refine k_gI (w := nI m) f141_140 hS.o51 rfl (Eq.trans (z_u_p _ _ _ _ (by decide)) hw4.2.2.2.1) ?_
            refine k_iconst (v := 1) f141_143 rfl ?_
            refine k_iadd f141_144 ?_
            rw [nI_1 m]
            refine k_putI f141_145 hS.o51 rfl ?_
            refine k_iconst (v := 1) f141_148 rfl ?_
            obtain ⟨a1, a2, a3, a4, a5, a6, a7, a8⟩ := hw4
            refine k_iret f141_149 (by decide) ⟨_, rfl, (fq4.put (by omega)).put (by omega), rfl, (hx4.put (by omega)).put (by omega), (z_u_k _ _ _ (by decide)).trans ((z_u_p _ _ _ _ (by decide)).trans a1), (z_u_k _ _ _ (by decide)).trans ((z_u_p _ _ _ _ (by decide)).trans a2), (z_u_k _ _ _ (by decide)).trans ((z_u_p _ _ _ _ (by decide)).trans a3), z_u_same _ _ _ _, (z_u_k _ _ _ (by decide)).trans ((z_u_p _ _ _ _ (by decide)).trans a5), (z_u_k _ _ _ (by decide)).trans ((z_u_p _ _ _ _ (by decide)).trans a6), fun i hi => ?_, fun i hi => ?_⟩
            · obtain ⟨x1, x2, x3⟩ := a7 i hi
              exact ⟨(z_u_p _ _ _ _ (by decide)).trans ((z_u_p _ _ _ _ (by decide)).trans x1), (z_u_p _ _ _ _ (by decide)).trans ((z_u_p _ _ _ _ (by decide)).trans x2), (z_u_p _ _ _ _ (by decide)).trans ((z_u_p _ _ _ _ (by decide)).trans x3)⟩
            · have hi : i < m + 1 := hi
              show _ = nI ((upF mf m (z1.1, z2.1, z3.1)) i).1 ∧ _ = nI ((upF mf m (z1.1, z2.1, z3.1)) i).2.1 ∧ _ = nI ((upF mf m (z1.1, z2.1, z3.1)) i).2.2
              by_cases e : i = m
              · rw [show (upF mf m (z1.1, z2.1, z3.1)) i = (z1.1, z2.1, z3.1) from if_pos e, e]
                exact ⟨(z_u_p _ _ _ _ (by decide)).trans ((z_u_k _ _ _ (by omega)).trans ((hl4 _ _ (by omega)).trans ((hl8 _ _ (by omega)).trans ((z_u_k _ _ _ (by omega)).trans ((hl3 _ _ (by omega)).trans (z_u_same _ _ _ _)))))), (z_u_p _ _ _ _ (by decide)).trans ((z_u_k _ _ _ (by omega)).trans ((hl4 _ _ (by omega)).trans ((hl8 _ _ (by omega)).trans (z_u_same _ _ _ _)))), (z_u_p _ _ _ _ (by decide)).trans (z_u_same _ _ _ _)⟩
              · obtain ⟨x1, x2, x3⟩ := a8 i (show i < m by omega)
                rw [show (upF mf m (z1.1, z2.1, z3.1)) i = mf i from if_neg e]
                exact ⟨(z_u_p _ _ _ _ (by decide)).trans ((z_u_k _ _ _ (by omega)).trans x1), (z_u_p _ _ _ _ (by decide)).trans ((z_u_k _ _ _ (by omega)).trans x2), (z_u_p _ _ _ _ (by decide)).trans ((z_u_k _ _ _ (by omega)).trans x3)⟩
