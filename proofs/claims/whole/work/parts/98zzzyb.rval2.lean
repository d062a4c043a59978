theorem q_valR {x : Nat × (Nat → Int32)} {d : Nat} {I : Nat → Nat → Int32} {J : Nat → Nat → Int64} {R : Nat → Nat → Option Nat} {G : zG} {b : Nat → Nat} {n t p m L : Nat} (hR : Rs R) (hS : Sh G) (ht : t < 6) (hp : p ≤ n) (hLp : L ≤ p) (hT : TP I b n) (hd : RD I b n t p m L) : zOk x (d + 3) 129 0 [.ref 51, zU, zU] [] (I, J, R, G) (fun v mm => ∃ I', mm = (I', J, R, G) ∧ FDt t I I' ∧ PM I I' b n t L v (vaQ b n m p)) := by
  obtain ⟨⟨q0, hx, hq0⟩, hr⟩ := hd
  have h400 := hT.1
  have hq := bk_le (b := b) hp
  have hqq := bk_bk (b := b) hp
  have hm6 := hr.2.2.2
  unfold vaQ
  obtain ⟨q, eq⟩ : ∃ q, q = bk b n p := ⟨_, rfl⟩
  rw [← eq] at hq hqq hq0 ⊢
  by_cases hD : isD b n q = true
  · rw [if_pos hD]
    have qn := isD_lt hD
    by_cases h5 : dg b n q - q ≤ 5
    · rw [if_pos h5]
      have v5 := vN_lt (b := b) hq.2 h5
      have hN : nmQ b n 0 99999 q = .inr (vN b n q, dg b n q) := (if_pos hD).trans (if_pos ⟨h5, by omega, by omega⟩)
      by_cases h6 : 60 ≤ m
      · rw [if_pos h6]
        refine k_aload f129_0 rfl ?_
        refine k_callv (as := []) (rest := []) f129_1 hS.o51 rfl rfl rfl rfl (q_see hR hS hT hx) ?_
        rintro _ _ ⟨rfl, I1, rfl, hx1, hl1⟩
        rw [hq0] at hx1
        have hT1 := hl1.tp hT
        have hr1 := hr.lx hl1
        refine k_popi f129_4 ?_
        refine k_aload f129_5 rfl ?_
        refine k_gI (w := nI q) f129_6 hS.o51 rfl hx1.1 ?_
        refine k_istore (L' := [.ref 51, .int (nI q), zU]) f129_9 rfl rfl ?_
        refine k_aload f129_10 rfl ?_
        refine k_aload f129_11 rfl ?_
        refine k_gI (w := nI q) f129_12 hS.o51 rfl hx1.1 ?_
        refine e_v (as := [.int (nI q)]) (rest := []) f129_15 hS.o51 rfl rfl rfl (s_isDigit (k := q) hR hS hT1 hx1.2.2.2 (by omega)) ?_
        refine k_beq f129_18 (fun h_ => absurd (hD) h_) (fun _ => ?_)
        refine k_aload f129_21 rfl ?_
        refine k_iconst (v := 0) f129_22 rfl ?_
        refine k_iconst (v := 99999) f129_23 rfl ?_
        refine k_callv (as := [.int (99999), .int (0)]) (rest := []) f129_25 hS.o51 rfl rfl rfl rfl (q_num (d := d + 1) (lo := 0) (hi := 99999) hR hS hT1 hx1 (by omega) (by omega)) ?_
        rintro v2 _ ⟨I2, rfl, hl2, hv2⟩
        rw [hqq, hN] at hv2
        obtain ⟨rfl, hx2, hn2⟩ := hv2
        have hr2 := hr1.lx hl2
        refine k_if_eq f129_28 (fun h_ => absurd h_ (by decide)) (fun _ => ?_)
        refine k_aload f129_31 rfl ?_
        refine k_iload f129_32 rfl ?_
        refine e_v (as := [.int (nI q)]) (rest := []) f129_33 hS.o51 rfl rfl rfl (s_make0 (d := d + 1) (a := q) (m := m) hS hx2.2.2.1 hr2.2.2.1 hm6 h6) ?_
        refine k_if_ne f129_36 (fun h_ => absurd (by decide) h_) (fun _ => ?_)
        refine k_iconst (v := 0) f129_39 rfl ?_
        exact k_iret f129_40 (by decide) ⟨_, rfl, ((hl1.trans hl2).fd).put (by omega), rfl, z_u_same _ _ _ _⟩
      · rw [if_neg h6]
        refine k_aload f129_0 rfl ?_
        refine k_callv (as := []) (rest := []) f129_1 hS.o51 rfl rfl rfl rfl (q_see hR hS hT hx) ?_
        rintro _ _ ⟨rfl, I1, rfl, hx1, hl1⟩
        rw [hq0] at hx1
        have hT1 := hl1.tp hT
        have hr1 := hr.lx hl1
        refine k_popi f129_4 ?_
        refine k_aload f129_5 rfl ?_
        refine k_gI (w := nI q) f129_6 hS.o51 rfl hx1.1 ?_
        refine k_istore (L' := [.ref 51, .int (nI q), zU]) f129_9 rfl rfl ?_
        refine k_aload f129_10 rfl ?_
        refine k_aload f129_11 rfl ?_
        refine k_gI (w := nI q) f129_12 hS.o51 rfl hx1.1 ?_
        refine e_v (as := [.int (nI q)]) (rest := []) f129_15 hS.o51 rfl rfl rfl (s_isDigit (k := q) hR hS hT1 hx1.2.2.2 (by omega)) ?_
        refine k_beq f129_18 (fun h_ => absurd (hD) h_) (fun _ => ?_)
        refine k_aload f129_21 rfl ?_
        refine k_iconst (v := 0) f129_22 rfl ?_
        refine k_iconst (v := 99999) f129_23 rfl ?_
        refine k_callv (as := [.int (99999), .int (0)]) (rest := []) f129_25 hS.o51 rfl rfl rfl rfl (q_num (d := d + 1) (lo := 0) (hi := 99999) hR hS hT1 hx1 (by omega) (by omega)) ?_
        rintro v2 _ ⟨I2, rfl, hl2, hv2⟩
        rw [hqq, hN] at hv2
        obtain ⟨rfl, hx2, hn2⟩ := hv2
        have hr2 := hr1.lx hl2
        refine k_if_eq f129_28 (fun h_ => absurd h_ (by decide)) (fun _ => ?_)
        refine k_aload f129_31 rfl ?_
        refine k_iload f129_32 rfl ?_
        refine e_v (as := [.int (nI q)]) (rest := []) f129_33 hS.o51 rfl rfl rfl (s_make1 (d := d + 2) (m := m) hS hr2.2.2.1 (by omega)) ?_
        refine k_if_ne f129_36 (fun _ => ?_) (fun h_ => absurd (by decide) h_)
        refine k_aload f129_41 rfl ?_
        refine k_iconst (v := 0) f129_42 rfl ?_
        refine k_aload f129_43 rfl ?_
        refine k_gI (w := nI (vN b n q)) f129_44 hS.o51 rfl (Eq.trans (z_u_k _ _ _ (by decide)) hn2) ?_
        refine k_callv (as := [.int (nI (vN b n q)), .int (0)]) (rest := []) f129_47 hS.o51 rfl rfl rfl rfl (q_puts (m := m + 1) (it := (0, vN b n q)) rfl rfl hR hS (hr2.mk (by omega)) ht (by omega)) ?_
        rintro _ _ ⟨rfl, I4, rfl, hf4, hs4, hr4, ha4⟩
        refine k_iconst (v := 1) f129_50 rfl ?_
        exact k_iret f129_51 (by decide) ⟨I4, rfl, (((hl1.trans hl2).fd).put (by omega)).trans hf4, rfl, ⟨⟨_, ⟨(hs4 51 13 (by decide) (by decide)).trans ((z_u_k _ _ _ (by decide)).trans hx2.1), hx2.2.1, (hs4 51 14 (by decide) (by decide)).trans ((z_u_k _ _ _ (by decide)).trans hx2.2.2.1), (hs4 51 1 (by decide) (by decide)).trans ((z_u_k _ _ _ (by decide)).trans hx2.2.2.2)⟩, rfl⟩, hr4⟩, ha4.l (fun i => (z_u_p _ _ _ _ (by decide)).trans (((hl1.trans hl2) 53 i (by omega))))⟩
    · rw [if_neg h5]
      have hN : nmQ b n 0 99999 q = .inl (1 + 8 * q + 1) := (if_pos hD).trans (if_neg (fun z => h5 z.1))
      refine k_aload f129_0 rfl ?_
      refine k_callv (as := []) (rest := []) f129_1 hS.o51 rfl rfl rfl rfl (q_see hR hS hT hx) ?_
      rintro _ _ ⟨rfl, I1, rfl, hx1, hl1⟩
      rw [hq0] at hx1
      have hT1 := hl1.tp hT
      have hr1 := hr.lx hl1
      refine k_popi f129_4 ?_
      refine k_aload f129_5 rfl ?_
      refine k_gI (w := nI q) f129_6 hS.o51 rfl hx1.1 ?_
      refine k_istore (L' := [.ref 51, .int (nI q), zU]) f129_9 rfl rfl ?_
      refine k_aload f129_10 rfl ?_
      refine k_aload f129_11 rfl ?_
      refine k_gI (w := nI q) f129_12 hS.o51 rfl hx1.1 ?_
      refine e_v (as := [.int (nI q)]) (rest := []) f129_15 hS.o51 rfl rfl rfl (s_isDigit (k := q) hR hS hT1 hx1.2.2.2 (by omega)) ?_
      refine k_beq f129_18 (fun h_ => absurd (hD) h_) (fun _ => ?_)
      refine k_aload f129_21 rfl ?_
      refine k_iconst (v := 0) f129_22 rfl ?_
      refine k_iconst (v := 99999) f129_23 rfl ?_
      refine k_callv (as := [.int (99999), .int (0)]) (rest := []) f129_25 hS.o51 rfl rfl rfl rfl (q_num (d := d + 1) (lo := 0) (hi := 99999) hR hS hT1 hx1 (by omega) (by omega)) ?_
      rintro v2 _ ⟨I2, rfl, hl2, hv2⟩
      rw [hqq, hN] at hv2
      obtain ⟨rfl, hn2⟩ := hv2
      have hr2 := hr1.lx hl2
      refine k_if_eq f129_28 (fun _ => ?_) (fun h_ => absurd (by decide) h_)
      refine k_iconst (v := 0) f129_39 rfl ?_
      exact k_iret f129_40 (by decide) ⟨_, rfl, (hl1.trans hl2).fd, rfl, hn2⟩
  · rw [if_neg hD]
    have w9 := wh4_le (b := b) (n := n) (q := q)
    by_cases h0 : whT b n 4 (.inr q) = 0
    · rw [if_pos h0]
      refine k_aload f129_0 rfl ?_
      refine k_callv (as := []) (rest := []) f129_1 hS.o51 rfl rfl rfl rfl (q_see hR hS hT hx) ?_
      rintro _ _ ⟨rfl, I1, rfl, hx1, hl1⟩
      rw [hq0] at hx1
      have hT1 := hl1.tp hT
      have hr1 := hr.lx hl1
      refine k_popi f129_4 ?_
      refine k_aload f129_5 rfl ?_
      refine k_gI (w := nI q) f129_6 hS.o51 rfl hx1.1 ?_
      refine k_istore (L' := [.ref 51, .int (nI q), zU]) f129_9 rfl rfl ?_
      refine k_aload f129_10 rfl ?_
      refine k_aload f129_11 rfl ?_
      refine k_gI (w := nI q) f129_12 hS.o51 rfl hx1.1 ?_
      refine e_v (as := [.int (nI q)]) (rest := []) f129_15 hS.o51 rfl rfl rfl (s_isDigit (k := q) hR hS hT1 hx1.2.2.2 (by omega)) ?_
      refine k_beq f129_18 (fun _ => ?_) (fun h_ => (absurd h_ (hD)))
      refine k_aload f129_52 rfl ?_
      refine k_callv (as := []) (rest := []) f129_53 hS.o51 rfl rfl rfl rfl (q_wdH (d := d) hR hS hT1 hx1 hqq) ?_
      rintro _ _ ⟨rfl, I2, rfl, hx2, hl2⟩
      rw [show wdV (whT b n 4 (.inr q)) = -1 from by rw [h0]; rfl]
      have hT2 := hl2.tp hT1
      have hr2 := hr1.lx hl2
      refine k_istore (L' := [.ref 51, .int (nI q), .int ((-1))]) f129_56 rfl rfl ?_
      refine k_iload f129_57 rfl ?_
      refine k_if_ge f129_58 (fun h_ => absurd h_ (by decide)) (fun _ => ?_)
      refine k_aload f129_61 rfl ?_
      refine k_iconst (v := 0) f129_62 rfl ?_
      refine k_iload f129_63 rfl ?_
      refine e_v (as := [.int (nI q), .int (0)]) (rest := []) f129_64 hS.o51 rfl rfl rfl (s_fails (w := 0) (a := q) hS hx2.2.2.1) ?_
      exact k_iret f129_67 (by decide) ⟨_, rfl, ((hl1.trans hl2).fd).put (by omega), rfl, z_u_same _ _ _ _⟩
    · rw [if_neg h0]
      have hL := wh4_isL h0
      have qn := isL_lt hL
      have ew : wdV (whT b n 4 (.inr q)) = nI (whT b n 4 (.inr q) - 1) := if_neg h0
      by_cases h6 : 60 ≤ m
      · rw [if_pos h6]
        refine k_aload f129_0 rfl ?_
        refine k_callv (as := []) (rest := []) f129_1 hS.o51 rfl rfl rfl rfl (q_see hR hS hT hx) ?_
        rintro _ _ ⟨rfl, I1, rfl, hx1, hl1⟩
        rw [hq0] at hx1
        have hT1 := hl1.tp hT
        have hr1 := hr.lx hl1
        refine k_popi f129_4 ?_
        refine k_aload f129_5 rfl ?_
        refine k_gI (w := nI q) f129_6 hS.o51 rfl hx1.1 ?_
        refine k_istore (L' := [.ref 51, .int (nI q), zU]) f129_9 rfl rfl ?_
        refine k_aload f129_10 rfl ?_
        refine k_aload f129_11 rfl ?_
        refine k_gI (w := nI q) f129_12 hS.o51 rfl hx1.1 ?_
        refine e_v (as := [.int (nI q)]) (rest := []) f129_15 hS.o51 rfl rfl rfl (s_isDigit (k := q) hR hS hT1 hx1.2.2.2 (by omega)) ?_
        refine k_beq f129_18 (fun _ => ?_) (fun h_ => (absurd h_ (hD)))
        refine k_aload f129_52 rfl ?_
        refine k_callv (as := []) (rest := []) f129_53 hS.o51 rfl rfl rfl rfl (q_wdH (d := d) hR hS hT1 hx1 hqq) ?_
        rintro _ _ ⟨rfl, I2, rfl, hx2, hl2⟩
        rw [ew]
        have hT2 := hl2.tp hT1
        have hr2 := hr1.lx hl2
        refine k_istore (L' := [.ref 51, .int (nI q), .int (nI (whT b n 4 (.inr q) - 1))]) f129_56 rfl rfl ?_
        refine k_iload f129_57 rfl ?_
        refine k_if_ge f129_58 (fun _ => ?_) (fun h_ => absurd (nI_pos' (by omega)) h_)
        refine k_aload f129_68 rfl ?_
        refine k_iload f129_69 rfl ?_
        refine e_v (as := [.int (nI q)]) (rest := []) f129_70 hS.o51 rfl rfl rfl (s_make0 (d := d + 1) (a := q) (m := m) hS hx2.2.2.1 hr2.2.2.1 hm6 h6) ?_
        refine k_if_ne f129_73 (fun h_ => absurd (by decide) h_) (fun _ => ?_)
        refine k_iconst (v := 0) f129_76 rfl ?_
        exact k_iret f129_77 (by decide) ⟨_, rfl, ((hl1.trans hl2).fd).put (by omega), rfl, z_u_same _ _ _ _⟩
      · rw [if_neg h6]
        refine k_aload f129_0 rfl ?_
        refine k_callv (as := []) (rest := []) f129_1 hS.o51 rfl rfl rfl rfl (q_see hR hS hT hx) ?_
        rintro _ _ ⟨rfl, I1, rfl, hx1, hl1⟩
        rw [hq0] at hx1
        have hT1 := hl1.tp hT
        have hr1 := hr.lx hl1
        refine k_popi f129_4 ?_
        refine k_aload f129_5 rfl ?_
        refine k_gI (w := nI q) f129_6 hS.o51 rfl hx1.1 ?_
        refine k_istore (L' := [.ref 51, .int (nI q), zU]) f129_9 rfl rfl ?_
        refine k_aload f129_10 rfl ?_
        refine k_aload f129_11 rfl ?_
        refine k_gI (w := nI q) f129_12 hS.o51 rfl hx1.1 ?_
        refine e_v (as := [.int (nI q)]) (rest := []) f129_15 hS.o51 rfl rfl rfl (s_isDigit (k := q) hR hS hT1 hx1.2.2.2 (by omega)) ?_
        refine k_beq f129_18 (fun _ => ?_) (fun h_ => (absurd h_ (hD)))
        refine k_aload f129_52 rfl ?_
        refine k_callv (as := []) (rest := []) f129_53 hS.o51 rfl rfl rfl rfl (q_wdH (d := d) hR hS hT1 hx1 hqq) ?_
        rintro _ _ ⟨rfl, I2, rfl, hx2, hl2⟩
        rw [ew]
        have hT2 := hl2.tp hT1
        have hr2 := hr1.lx hl2
        refine k_istore (L' := [.ref 51, .int (nI q), .int (nI (whT b n 4 (.inr q) - 1))]) f129_56 rfl rfl ?_
        refine k_iload f129_57 rfl ?_
        refine k_if_ge f129_58 (fun _ => ?_) (fun h_ => absurd (nI_pos' (by omega)) h_)
        refine k_aload f129_68 rfl ?_
        refine k_iload f129_69 rfl ?_
        refine e_v (as := [.int (nI q)]) (rest := []) f129_70 hS.o51 rfl rfl rfl (s_make1 (d := d + 2) (m := m) hS hr2.2.2.1 (by omega)) ?_
        refine k_if_ne f129_73 (fun _ => ?_) (fun h_ => absurd (by decide) h_)
        refine k_aload f129_78 rfl ?_
        refine k_callv (as := []) (rest := []) f129_79 hS.o51 rfl rfl rfl rfl (q_pass (d := d + 1) hR hS (hT2.put (q := 51) (j := 17) (v := nI (m + 1)) (by decide) (by decide)) (hx2.put (by omega))) ?_
        rintro _ _ ⟨rfl, I3, rfl, hx3, hl3⟩
        have hr3 : RT I3 t (m + 1) L := (hr2.mk (by omega)).lx hl3
        refine k_aload f129_82 rfl ?_
        refine k_iconst (v := 1) f129_83 rfl ?_
        refine k_iload f129_84 rfl ?_
        refine k_callv (as := [.int (nI (whT b n 4 (.inr q) - 1)), .int (1)]) (rest := []) f129_85 hS.o51 rfl rfl rfl rfl (q_puts (m := m + 1) (it := (1, whT b n 4 (.inr q) - 1)) rfl rfl hR hS hr3 ht (by omega)) ?_
        rintro _ _ ⟨rfl, I4, rfl, hf4, hs4, hr4, ha4⟩
        refine k_iconst (v := 1) f129_88 rfl ?_
        exact k_iret f129_89 (by decide) ⟨I4, rfl, ((((hl1.trans hl2).fd).put (v := nI (m + 1)) (by omega)).trans hl3.fd).trans hf4, rfl, ⟨⟨_, ⟨(hs4 51 13 (by decide) (by decide)).trans hx3.1, hx3.2.1, (hs4 51 14 (by decide) (by decide)).trans hx3.2.2.1, (hs4 51 1 (by decide) (by decide)).trans hx3.2.2.2⟩, rfl⟩, hr4⟩, ha4.l (fun i => (hl3 53 i (by omega)).trans ((z_u_p _ _ _ _ (by decide)).trans (((hl1.trans hl2) 53 i (by omega)))))⟩
