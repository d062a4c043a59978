/-! A TOWN's clause, in the reference. -/
theorem q_isWl {x : Nat × (Nat → Int32)} {d : Nat} {I : Nat → Nat → Int32} {J : Nat → Nat → Int64} {R : Nat → Nat → Option Nat} {G : zG} {b : Nat → Nat} {n q : Nat} {w : List Nat} {W : Int64} (hW : pW w = W) (hR : Rs R) (hS : Sh G) (hT : TP I b n) (hx : RX I n q) (hq : bk b n q = q) (hw : WdL w) : zOk x (d + 1) 120 0 [.ref 51, .long W, zU, zU, zU, zU] [] (I, J, R, G) (fun v m => v = some (.int (bI (tkB b n q w = true))) ∧ ∃ I', m = (I', J, R, G) ∧ RX I' n q ∧ LX I I') := by
  subst hW
  have h := q_isW (x := x) (d := d) (J := J) hR hS hT hx hw
  rw [hq] at h
  exact h
theorem wh5 {b : Nat → Nat} {n q k : Nat} (h : whT b n 5 (.inr q) = k) : (k = 1 ∧ tkB b n q [112, 101, 111, 112, 108, 101] = true) ∨ (k = 2 ∧ ¬ tkB b n q [112, 101, 111, 112, 108, 101] = true ∧ tkB b n q [121, 101, 97, 114] = true) ∨ (k = 3 ∧ ¬ tkB b n q [112, 101, 111, 112, 108, 101] = true ∧ ¬ tkB b n q [121, 101, 97, 114] = true ∧ tkB b n q [99, 111, 105, 110] = true) ∨ (k = 4 ∧ ¬ tkB b n q [112, 101, 111, 112, 108, 101] = true ∧ ¬ tkB b n q [121, 101, 97, 114] = true ∧ ¬ tkB b n q [99, 111, 105, 110] = true ∧ tkB b n q [109, 101, 101, 116] = true) ∨ (k = 0 ∧ ¬ tkB b n q [112, 101, 111, 112, 108, 101] = true ∧ ¬ tkB b n q [121, 101, 97, 114] = true ∧ ¬ tkB b n q [99, 111, 105, 110] = true ∧ ¬ tkB b n q [109, 101, 101, 116] = true) := by
  rw [wh_5] at h
  split at h
  · next a => exact Or.inl ⟨h.symm, a⟩
  · next a =>
    split at h
    · next c => exact Or.inr (Or.inl ⟨h.symm, a, c⟩)
    · next c =>
      split at h
      · next e => exact Or.inr (Or.inr (Or.inl ⟨h.symm, a, c, e⟩))
      · next e =>
        split at h
        · next g => exact Or.inr (Or.inr (Or.inr (Or.inl ⟨h.symm, a, c, e, g⟩)))
        · next g => exact Or.inr (Or.inr (Or.inr (Or.inr ⟨h.symm, a, c, e, g⟩)))
theorem q_line {x : Nat × (Nat → Int32)} {d : Nat} {I : Nat → Nat → Int32} {J : Nat → Nat → Int64} {R : Nat → Nat → Option Nat} {G : zG} {b : Nat → Nat} {n P y c m ln q : Nat} {cf mf : Nat → Nat × Nat × Nat} (hR : Rs R) (hS : Sh G) (hT : TP I b n) (hx : RX I n q) (hw : TwR I (P, y, (c, cf), (m, mf), ln + 1)) {k : Nat} (hqq : bk b n q = q) (hk : whT b n 5 (.inr q) = k) (hk0 : ¬ k = 0) (ho : tsO (P, y, (c, cf), (m, mf), ln)) (hln : ln < 40) : zOk x (d + 3) 142 0 [.ref 51, .int (nI q)] [] (I, J, R, G) (fun v mm => ∃ I', mm = (I', J, R, G) ∧ FQ I I' ∧ ClR I' n v (if tmB (P, y, (c, cf), (m, mf), ln) k = true then .inl (1 + 8 * q + 4) else bdT b n k (P, y, (c, cf), (m, mf), ln) (wl b n q))) := by
  have hq := hx.2.1
  have h400 := hT.1
  have e7 : I 51 7 = nI P := hw.1
  have e8 : I 51 8 = (if y = 0 then -1 else nI y) := hw.2.1
  have e9 : I 51 9 = nI c := hw.2.2.1
  have e10 : I 51 10 = nI m := hw.2.2.2.1
  have o1 : P = 0 ↔ ln = 0 := ho.1
  have o2 : P ≤ 10 := ho.2.1
  have o3 : y ≤ 999 := ho.2.2.1
  have o4 : c ≤ 8 := ho.2.2.2.1
  have o5 : m ≤ 24 := ho.2.2.2.2.1
  have o7 : P = 0 ∨ 2 ≤ P := ho.2.2.2.2.2.2.2.2.2
  have fq : FQ I I := FQ.rfl
  rcases wh5 hk with ⟨rfl, t1⟩ | ⟨rfl, t1, t2⟩ | ⟨rfl, t1, t2, t3⟩ | ⟨rfl, t1, t2, t3, t4⟩ | ⟨rfl, _⟩
  · rw [show (if tmB (P, y, (c, cf), (m, mf), ln) 1 = true then (Sum.inl (1 + 8 * q + 4) : Sum Nat (TS × Nat)) else bdT b n 1 (P, y, (c, cf), (m, mf), ln) (wl b n q)) = if 0 < P then .inl (1 + 8 * q + 4) else bdT b n 1 (P, y, (c, cf), (m, mf), ln) (wl b n q) from by
      by_cases z : 0 < P
      · rw [if_pos z, if_pos (show tmB (P, y, (c, cf), (m, mf), ln) 1 = true from decide_eq_true (show 40 ≤ ln ∨ (1 = 1 ∧ 0 < P) ∨ (1 ≠ 1 ∧ P = 0) ∨ (1 = 2 ∧ 0 < y) ∨ (1 = 3 ∧ 8 ≤ c) ∨ (1 = 4 ∧ 24 ≤ m) by omega))]
      · rw [if_neg z, if_neg (fun w : tmB (P, y, (c, cf), (m, mf), ln) 1 = true => absurd (of_decide_eq_true w) (show ¬ (40 ≤ ln ∨ (1 = 1 ∧ 0 < P) ∨ (1 ≠ 1 ∧ P = 0) ∨ (1 = 2 ∧ 0 < y) ∨ (1 = 3 ∧ 8 ≤ c) ∨ (1 = 4 ∧ 24 ≤ m)) by omega))]]
    refine k_aload f142_0 rfl ?_
    refine k_lconst (v := 123580963646565) f142_1 rfl ?_
    refine k_callv (as := [.long (123580963646565)]) (rest := []) f142_4 hS.o51 rfl rfl rfl rfl (q_isWl (w := [112, 101, 111, 112, 108, 101]) (by decide +kernel) hR hS hT hx hqq ⟨by decide, by decide, by decide⟩) ?_
    rintro _ _ ⟨rfl, I1, rfl, hx1, hl1⟩
    have hT1 := hl1.tp hT
    have hw1 := hw.lx hl1
    have fq1 := fq.trans hl1.fq
    refine k_beq f142_7 (fun h_ => absurd (t1) h_) (fun _ => ?_)
    refine k_aload f142_10 rfl ?_
    refine k_iload f142_11 rfl ?_
    refine k_callv (as := [.int (nI q)]) (rest := []) f142_12 hS.o51 rfl rfl rfl rfl (q_people (d := d) hR hS hT1 hx1 hw1 o2) ?_
    rintro v9 _ ⟨I9, rfl, fq9, hv9⟩
    have fq9 := fq1.trans fq9
    cases hv : (if 0 < P then (Sum.inl (1 + 8 * q + 4) : Sum Nat (TS × Nat)) else bdT b n 1 (P, y, (c, cf), (m, mf), ln) (wl b n q)) with
    | inl e =>
      rw [hv] at hv9
      obtain ⟨rfl, g⟩ := hv9
      exact k_iret f142_15 (by decide) ⟨I9, rfl, fq9, rfl, g⟩
    | inr z =>
      rw [hv] at hv9
      obtain ⟨rfl, g⟩ := hv9
      exact k_iret f142_15 (by decide) ⟨I9, rfl, fq9, rfl, g⟩
  · by_cases hz : P = 0
    · refine k_aload f142_0 rfl ?_
      refine k_lconst (v := 123580963646565) f142_1 rfl ?_
      refine k_callv (as := [.long (123580963646565)]) (rest := []) f142_4 hS.o51 rfl rfl rfl rfl (q_isWl (w := [112, 101, 111, 112, 108, 101]) (by decide +kernel) hR hS hT hx hqq ⟨by decide, by decide, by decide⟩) ?_
      rintro _ _ ⟨rfl, I1, rfl, hx1, hl1⟩
      have hT1 := hl1.tp hT
      have hw1 := hw.lx hl1
      have fq1 := fq.trans hl1.fq
      refine k_beq f142_7 (fun _ => ?_) (fun h_ => (absurd h_ (t1)))
      refine k_aload f142_16 rfl ?_
      refine k_gI (w := nI P) f142_17 hS.o51 rfl hw1.1 ?_
      refine k_if_ne f142_20 (fun h_ => absurd (congrArg nI hz) h_) (fun _ => ?_)
      refine k_aload f142_23 rfl ?_
      refine k_iconst (v := 4) f142_24 rfl ?_
      refine k_iload f142_25 rfl ?_
      refine e_v (as := [.int (nI q), .int (4)]) (rest := []) f142_26 hS.o51 rfl rfl rfl (s_fails (w := 4) (a := q) hS hx1.2.2.1) ?_
      exact k_iret f142_29 (by decide) ⟨_, rfl, fq1.put (by omega), by rw [if_pos (show tmB (P, y, (c, cf), (m, mf), ln) 2 = true from decide_eq_true (show 40 ≤ ln ∨ (2 = 1 ∧ 0 < P) ∨ (2 ≠ 1 ∧ P = 0) ∨ (2 = 2 ∧ 0 < y) ∨ (2 = 3 ∧ 8 ≤ c) ∨ (2 = 4 ∧ 24 ≤ m) by omega))]; exact ⟨rfl, z_u_same _ _ _ _⟩⟩
    · rw [show (if tmB (P, y, (c, cf), (m, mf), ln) 2 = true then (Sum.inl (1 + 8 * q + 4) : Sum Nat (TS × Nat)) else bdT b n 2 (P, y, (c, cf), (m, mf), ln) (wl b n q)) = if 0 < y then .inl (1 + 8 * q + 4) else bdT b n 2 (P, y, (c, cf), (m, mf), ln) (wl b n q) from by
        by_cases z : 0 < y
        · rw [if_pos z, if_pos (show tmB (P, y, (c, cf), (m, mf), ln) 2 = true from decide_eq_true (show 40 ≤ ln ∨ (2 = 1 ∧ 0 < P) ∨ (2 ≠ 1 ∧ P = 0) ∨ (2 = 2 ∧ 0 < y) ∨ (2 = 3 ∧ 8 ≤ c) ∨ (2 = 4 ∧ 24 ≤ m) by omega))]
        · rw [if_neg z, if_neg (fun w : tmB (P, y, (c, cf), (m, mf), ln) 2 = true => absurd (of_decide_eq_true w) (show ¬ (40 ≤ ln ∨ (2 = 1 ∧ 0 < P) ∨ (2 ≠ 1 ∧ P = 0) ∨ (2 = 2 ∧ 0 < y) ∨ (2 = 3 ∧ 8 ≤ c) ∨ (2 = 4 ∧ 24 ≤ m)) by omega))]]
      refine k_aload f142_0 rfl ?_
      refine k_lconst (v := 123580963646565) f142_1 rfl ?_
      refine k_callv (as := [.long (123580963646565)]) (rest := []) f142_4 hS.o51 rfl rfl rfl rfl (q_isWl (w := [112, 101, 111, 112, 108, 101]) (by decide +kernel) hR hS hT hx hqq ⟨by decide, by decide, by decide⟩) ?_
      rintro _ _ ⟨rfl, I1, rfl, hx1, hl1⟩
      have hT1 := hl1.tp hT
      have hw1 := hw.lx hl1
      have fq1 := fq.trans hl1.fq
      refine k_beq f142_7 (fun _ => ?_) (fun h_ => (absurd h_ (t1)))
      refine k_aload f142_16 rfl ?_
      refine k_gI (w := nI P) f142_17 hS.o51 rfl hw1.1 ?_
      refine k_if_ne f142_20 (fun _ => ?_) (fun h_ => absurd ((fun z => hz ((nI_eq (b := 0) (by omega) (by omega)).mp z))) h_)
      refine k_aload f142_30 rfl ?_
      refine k_lconst (v := 2036687218) f142_31 rfl ?_
      refine k_callv (as := [.long (2036687218)]) (rest := []) f142_34 hS.o51 rfl rfl rfl rfl (q_isWl (w := [121, 101, 97, 114]) (by decide +kernel) hR hS hT1 hx1 hqq ⟨by decide, by decide, by decide⟩) ?_
      rintro _ _ ⟨rfl, I2, rfl, hx2, hl2⟩
      have hT2 := hl2.tp hT1
      have hw2 := hw1.lx hl2
      have fq2 := fq1.trans hl2.fq
      refine k_beq f142_37 (fun h_ => absurd (t2) h_) (fun _ => ?_)
      refine k_aload f142_40 rfl ?_
      refine k_iload f142_41 rfl ?_
      refine k_callv (as := [.int (nI q)]) (rest := []) f142_42 hS.o51 rfl rfl rfl rfl (q_year (d := d) hR hS hT2 hx2 hw2 o3) ?_
      rintro v9 _ ⟨I9, rfl, fq9, hv9⟩
      have fq9 := fq2.trans fq9
      refine k_goto f142_45 ?_
      cases hv : (if 0 < y then (Sum.inl (1 + 8 * q + 4) : Sum Nat (TS × Nat)) else bdT b n 2 (P, y, (c, cf), (m, mf), ln) (wl b n q)) with
      | inl e =>
        rw [hv] at hv9
        obtain ⟨rfl, g⟩ := hv9
        exact k_iret f142_71 (by decide) ⟨I9, rfl, fq9, rfl, g⟩
      | inr z =>
        rw [hv] at hv9
        obtain ⟨rfl, g⟩ := hv9
        exact k_iret f142_71 (by decide) ⟨I9, rfl, fq9, rfl, g⟩
  · by_cases hz : P = 0
    · refine k_aload f142_0 rfl ?_
      refine k_lconst (v := 123580963646565) f142_1 rfl ?_
      refine k_callv (as := [.long (123580963646565)]) (rest := []) f142_4 hS.o51 rfl rfl rfl rfl (q_isWl (w := [112, 101, 111, 112, 108, 101]) (by decide +kernel) hR hS hT hx hqq ⟨by decide, by decide, by decide⟩) ?_
      rintro _ _ ⟨rfl, I1, rfl, hx1, hl1⟩
      have hT1 := hl1.tp hT
      have hw1 := hw.lx hl1
      have fq1 := fq.trans hl1.fq
      refine k_beq f142_7 (fun _ => ?_) (fun h_ => (absurd h_ (t1)))
      refine k_aload f142_16 rfl ?_
      refine k_gI (w := nI P) f142_17 hS.o51 rfl hw1.1 ?_
      refine k_if_ne f142_20 (fun h_ => absurd (congrArg nI hz) h_) (fun _ => ?_)
      refine k_aload f142_23 rfl ?_
      refine k_iconst (v := 4) f142_24 rfl ?_
      refine k_iload f142_25 rfl ?_
      refine e_v (as := [.int (nI q), .int (4)]) (rest := []) f142_26 hS.o51 rfl rfl rfl (s_fails (w := 4) (a := q) hS hx1.2.2.1) ?_
      exact k_iret f142_29 (by decide) ⟨_, rfl, fq1.put (by omega), by rw [if_pos (show tmB (P, y, (c, cf), (m, mf), ln) 3 = true from decide_eq_true (show 40 ≤ ln ∨ (3 = 1 ∧ 0 < P) ∨ (3 ≠ 1 ∧ P = 0) ∨ (3 = 2 ∧ 0 < y) ∨ (3 = 3 ∧ 8 ≤ c) ∨ (3 = 4 ∧ 24 ≤ m) by omega))]; exact ⟨rfl, z_u_same _ _ _ _⟩⟩
    · rw [show (if tmB (P, y, (c, cf), (m, mf), ln) 3 = true then (Sum.inl (1 + 8 * q + 4) : Sum Nat (TS × Nat)) else bdT b n 3 (P, y, (c, cf), (m, mf), ln) (wl b n q)) = if 8 ≤ c then .inl (1 + 8 * q + 4) else bdT b n 3 (P, y, (c, cf), (m, mf), ln) (wl b n q) from by
        by_cases z : 8 ≤ c
        · rw [if_pos z, if_pos (show tmB (P, y, (c, cf), (m, mf), ln) 3 = true from decide_eq_true (show 40 ≤ ln ∨ (3 = 1 ∧ 0 < P) ∨ (3 ≠ 1 ∧ P = 0) ∨ (3 = 2 ∧ 0 < y) ∨ (3 = 3 ∧ 8 ≤ c) ∨ (3 = 4 ∧ 24 ≤ m) by omega))]
        · rw [if_neg z, if_neg (fun w : tmB (P, y, (c, cf), (m, mf), ln) 3 = true => absurd (of_decide_eq_true w) (show ¬ (40 ≤ ln ∨ (3 = 1 ∧ 0 < P) ∨ (3 ≠ 1 ∧ P = 0) ∨ (3 = 2 ∧ 0 < y) ∨ (3 = 3 ∧ 8 ≤ c) ∨ (3 = 4 ∧ 24 ≤ m)) by omega))]]
      refine k_aload f142_0 rfl ?_
      refine k_lconst (v := 123580963646565) f142_1 rfl ?_
      refine k_callv (as := [.long (123580963646565)]) (rest := []) f142_4 hS.o51 rfl rfl rfl rfl (q_isWl (w := [112, 101, 111, 112, 108, 101]) (by decide +kernel) hR hS hT hx hqq ⟨by decide, by decide, by decide⟩) ?_
      rintro _ _ ⟨rfl, I1, rfl, hx1, hl1⟩
      have hT1 := hl1.tp hT
      have hw1 := hw.lx hl1
      have fq1 := fq.trans hl1.fq
      refine k_beq f142_7 (fun _ => ?_) (fun h_ => (absurd h_ (t1)))
      refine k_aload f142_16 rfl ?_
      refine k_gI (w := nI P) f142_17 hS.o51 rfl hw1.1 ?_
      refine k_if_ne f142_20 (fun _ => ?_) (fun h_ => absurd ((fun z => hz ((nI_eq (b := 0) (by omega) (by omega)).mp z))) h_)
      refine k_aload f142_30 rfl ?_
      refine k_lconst (v := 2036687218) f142_31 rfl ?_
      refine k_callv (as := [.long (2036687218)]) (rest := []) f142_34 hS.o51 rfl rfl rfl rfl (q_isWl (w := [121, 101, 97, 114]) (by decide +kernel) hR hS hT1 hx1 hqq ⟨by decide, by decide, by decide⟩) ?_
      rintro _ _ ⟨rfl, I2, rfl, hx2, hl2⟩
      have hT2 := hl2.tp hT1
      have hw2 := hw1.lx hl2
      have fq2 := fq1.trans hl2.fq
      refine k_beq f142_37 (fun _ => ?_) (fun h_ => (absurd h_ (t2)))
      refine k_aload f142_48 rfl ?_
      refine k_lconst (v := 1668245870) f142_49 rfl ?_
      refine k_callv (as := [.long (1668245870)]) (rest := []) f142_52 hS.o51 rfl rfl rfl rfl (q_isWl (w := [99, 111, 105, 110]) (by decide +kernel) hR hS hT2 hx2 hqq ⟨by decide, by decide, by decide⟩) ?_
      rintro _ _ ⟨rfl, I3, rfl, hx3, hl3⟩
      have hT3 := hl3.tp hT2
      have hw3 := hw2.lx hl3
      have fq3 := fq2.trans hl3.fq
      refine k_beq f142_55 (fun h_ => absurd (t3) h_) (fun _ => ?_)
      refine k_aload f142_58 rfl ?_
      refine k_iload f142_59 rfl ?_
      refine k_callv (as := [.int (nI q)]) (rest := []) f142_60 hS.o51 rfl rfl rfl rfl (q_r_coin (d := d) hR hS hT3 hx3 hw3 o2 (by omega) o4) ?_
      rintro v9 _ ⟨I9, rfl, fq9, hv9⟩
      have fq9 := fq3.trans fq9
      refine k_goto f142_63 ?_
      cases hv : (if 8 ≤ c then (Sum.inl (1 + 8 * q + 4) : Sum Nat (TS × Nat)) else bdT b n 3 (P, y, (c, cf), (m, mf), ln) (wl b n q)) with
      | inl e =>
        rw [hv] at hv9
        obtain ⟨rfl, g⟩ := hv9
        exact k_iret f142_71 (by decide) ⟨I9, rfl, fq9, rfl, g⟩
      | inr z =>
        rw [hv] at hv9
        obtain ⟨rfl, g⟩ := hv9
        exact k_iret f142_71 (by decide) ⟨I9, rfl, fq9, rfl, g⟩
  · by_cases hz : P = 0
    · refine k_aload f142_0 rfl ?_
      refine k_lconst (v := 123580963646565) f142_1 rfl ?_
      refine k_callv (as := [.long (123580963646565)]) (rest := []) f142_4 hS.o51 rfl rfl rfl rfl (q_isWl (w := [112, 101, 111, 112, 108, 101]) (by decide +kernel) hR hS hT hx hqq ⟨by decide, by decide, by decide⟩) ?_
      rintro _ _ ⟨rfl, I1, rfl, hx1, hl1⟩
      have hT1 := hl1.tp hT
      have hw1 := hw.lx hl1
      have fq1 := fq.trans hl1.fq
      refine k_beq f142_7 (fun _ => ?_) (fun h_ => (absurd h_ (t1)))
      refine k_aload f142_16 rfl ?_
      refine k_gI (w := nI P) f142_17 hS.o51 rfl hw1.1 ?_
      refine k_if_ne f142_20 (fun h_ => absurd (congrArg nI hz) h_) (fun _ => ?_)
      refine k_aload f142_23 rfl ?_
      refine k_iconst (v := 4) f142_24 rfl ?_
      refine k_iload f142_25 rfl ?_
      refine e_v (as := [.int (nI q), .int (4)]) (rest := []) f142_26 hS.o51 rfl rfl rfl (s_fails (w := 4) (a := q) hS hx1.2.2.1) ?_
      exact k_iret f142_29 (by decide) ⟨_, rfl, fq1.put (by omega), by rw [if_pos (show tmB (P, y, (c, cf), (m, mf), ln) 4 = true from decide_eq_true (show 40 ≤ ln ∨ (4 = 1 ∧ 0 < P) ∨ (4 ≠ 1 ∧ P = 0) ∨ (4 = 2 ∧ 0 < y) ∨ (4 = 3 ∧ 8 ≤ c) ∨ (4 = 4 ∧ 24 ≤ m) by omega))]; exact ⟨rfl, z_u_same _ _ _ _⟩⟩
    · rw [show (if tmB (P, y, (c, cf), (m, mf), ln) 4 = true then (Sum.inl (1 + 8 * q + 4) : Sum Nat (TS × Nat)) else bdT b n 4 (P, y, (c, cf), (m, mf), ln) (wl b n q)) = if 24 ≤ m then .inl (1 + 8 * q + 4) else bdT b n 4 (P, y, (c, cf), (m, mf), ln) (wl b n q) from by
        by_cases z : 24 ≤ m
        · rw [if_pos z, if_pos (show tmB (P, y, (c, cf), (m, mf), ln) 4 = true from decide_eq_true (show 40 ≤ ln ∨ (4 = 1 ∧ 0 < P) ∨ (4 ≠ 1 ∧ P = 0) ∨ (4 = 2 ∧ 0 < y) ∨ (4 = 3 ∧ 8 ≤ c) ∨ (4 = 4 ∧ 24 ≤ m) by omega))]
        · rw [if_neg z, if_neg (fun w : tmB (P, y, (c, cf), (m, mf), ln) 4 = true => absurd (of_decide_eq_true w) (show ¬ (40 ≤ ln ∨ (4 = 1 ∧ 0 < P) ∨ (4 ≠ 1 ∧ P = 0) ∨ (4 = 2 ∧ 0 < y) ∨ (4 = 3 ∧ 8 ≤ c) ∨ (4 = 4 ∧ 24 ≤ m)) by omega))]]
      refine k_aload f142_0 rfl ?_
      refine k_lconst (v := 123580963646565) f142_1 rfl ?_
      refine k_callv (as := [.long (123580963646565)]) (rest := []) f142_4 hS.o51 rfl rfl rfl rfl (q_isWl (w := [112, 101, 111, 112, 108, 101]) (by decide +kernel) hR hS hT hx hqq ⟨by decide, by decide, by decide⟩) ?_
      rintro _ _ ⟨rfl, I1, rfl, hx1, hl1⟩
      have hT1 := hl1.tp hT
      have hw1 := hw.lx hl1
      have fq1 := fq.trans hl1.fq
      refine k_beq f142_7 (fun _ => ?_) (fun h_ => (absurd h_ (t1)))
      refine k_aload f142_16 rfl ?_
      refine k_gI (w := nI P) f142_17 hS.o51 rfl hw1.1 ?_
      refine k_if_ne f142_20 (fun _ => ?_) (fun h_ => absurd ((fun z => hz ((nI_eq (b := 0) (by omega) (by omega)).mp z))) h_)
      refine k_aload f142_30 rfl ?_
      refine k_lconst (v := 2036687218) f142_31 rfl ?_
      refine k_callv (as := [.long (2036687218)]) (rest := []) f142_34 hS.o51 rfl rfl rfl rfl (q_isWl (w := [121, 101, 97, 114]) (by decide +kernel) hR hS hT1 hx1 hqq ⟨by decide, by decide, by decide⟩) ?_
      rintro _ _ ⟨rfl, I2, rfl, hx2, hl2⟩
      have hT2 := hl2.tp hT1
      have hw2 := hw1.lx hl2
      have fq2 := fq1.trans hl2.fq
      refine k_beq f142_37 (fun _ => ?_) (fun h_ => (absurd h_ (t2)))
      refine k_aload f142_48 rfl ?_
      refine k_lconst (v := 1668245870) f142_49 rfl ?_
      refine k_callv (as := [.long (1668245870)]) (rest := []) f142_52 hS.o51 rfl rfl rfl rfl (q_isWl (w := [99, 111, 105, 110]) (by decide +kernel) hR hS hT2 hx2 hqq ⟨by decide, by decide, by decide⟩) ?_
      rintro _ _ ⟨rfl, I3, rfl, hx3, hl3⟩
      have hT3 := hl3.tp hT2
      have hw3 := hw2.lx hl3
      have fq3 := fq2.trans hl3.fq
      refine k_beq f142_55 (fun _ => ?_) (fun h_ => (absurd h_ (t3)))
      refine k_aload f142_66 rfl ?_
      refine k_iload f142_67 rfl ?_
      refine k_callv (as := [.int (nI q)]) (rest := []) f142_68 hS.o51 rfl rfl rfl rfl (q_r_meet (d := d) hR hS hT3 hx3 hw3 o2 (by omega) o5) ?_
      rintro v9 _ ⟨I9, rfl, fq9, hv9⟩
      have fq9 := fq3.trans fq9
      cases hv : (if 24 ≤ m then (Sum.inl (1 + 8 * q + 4) : Sum Nat (TS × Nat)) else bdT b n 4 (P, y, (c, cf), (m, mf), ln) (wl b n q)) with
      | inl e =>
        rw [hv] at hv9
        obtain ⟨rfl, g⟩ := hv9
        exact k_iret f142_71 (by decide) ⟨I9, rfl, fq9, rfl, g⟩
      | inr z =>
        rw [hv] at hv9
        obtain ⟨rfl, g⟩ := hv9
        exact k_iret f142_71 (by decide) ⟨I9, rfl, fq9, rfl, g⟩
  · exact absurd rfl hk0
