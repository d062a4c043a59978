/-! RULES, read in the reference: a comparison. -/
theorem cs_v {b : Nat → Nat} {n q : Nat} (hq : q < n) (hb : b q < 256) : csS b n q = if b q = 60 then (if sgB b n q = true then 7 else 6) else if b q = 61 then 8 else if b q = 62 then (if sgB b n q = true then 9 else 10) else 0 := by
  have nL : 60 ≤ b q → b q ≤ 62 → ¬ isL b n q = true := fun h1 h2 z => by have := (of_decide_eq_true z).2; omega
  have nD : 60 ≤ b q → b q ≤ 62 → ¬ isD b n q = true := fun h1 h2 z => by have := (of_decide_eq_true z).2; omega
  have k3 : 60 ≤ b q → b q ≤ 62 → kd b n q = 3 := fun h1 h2 => by unfold kd; rw [if_neg (nL h1 h2), if_neg (nD h1 h2), if_pos hq]
  have key : ∀ c, siT b n c (.inr q) = true ↔ kd b n q = 3 ∧ sg b n q = c := fun c => decide_eq_true_iff
  unfold csS
  by_cases s : sgB b n q = true
  · have h := (of_decide_eq_true s).1
    have es : sg b n q = b q + 256 := if_pos s
    rcases h with h | h
    · rw [if_neg (fun z => by have := ((key _).mp z).2; omega), if_pos ((key _).mpr ⟨k3 (by omega) (by omega), by omega⟩), if_pos h, if_pos s]
    · rw [if_neg (fun z => by have := ((key _).mp z).2; omega), if_neg (fun z => by have := ((key _).mp z).2; omega), if_neg (fun z => by have := ((key _).mp z).2; omega), if_pos ((key _).mpr ⟨k3 (by omega) (by omega), by omega⟩), if_neg (by omega), if_neg (by omega), if_pos h, if_pos s]
  · have es : sg b n q = b q := if_neg s
    by_cases h0 : b q = 60
    · rw [if_pos ((key _).mpr ⟨k3 (by omega) (by omega), by omega⟩), if_pos h0, if_neg s]
    · rw [if_neg (fun z => by have := ((key _).mp z).2; omega), if_neg (fun z => by have := ((key _).mp z).2; omega), if_neg h0]
      by_cases h1 : b q = 61
      · rw [if_pos ((key _).mpr ⟨k3 (by omega) (by omega), by omega⟩), if_pos h1]
      · rw [if_neg (fun z => by have := ((key _).mp z).2; omega), if_neg (fun z => by have := ((key _).mp z).2; omega), if_neg h1]
        by_cases h2 : b q = 62
        · rw [if_pos ((key _).mpr ⟨k3 (by omega) (by omega), by omega⟩), if_pos h2, if_neg s]
        · rw [if_neg (fun z => by have := ((key _).mp z).2; omega), if_neg h2]
theorem ed_v {b : Nat → Nat} {n q : Nat} (hq : q < n) (h1 : 60 ≤ b q) (h2 : b q ≤ 62) : ed b n q = if sgB b n q = true then q + 2 else q + 1 := by
  unfold ed
  rw [if_neg (fun z => by have := (of_decide_eq_true z).2; omega), if_neg (fun z => by have := (of_decide_eq_true z).2; omega), if_pos hq]
theorem t8_61 : ∀ v, v < 256 → ((nI v).toInt8.toInt32 = 61 ↔ v = 61) := by decide +kernel
theorem q_cmpR {x : Nat × (Nat → Int32)} {d : Nat} {I : Nat → Nat → Int32} {J : Nat → Nat → Int64} {R : Nat → Nat → Option Nat} {G : zG} {b : Nat → Nat} {n t p m L : Nat} (hR : Rs R) (hS : Sh G) (ht : t < 6) (hp : p ≤ n) (hLp : L ≤ p) (hT : TP I b n) (hd : RD I b n t p m L) : zOk x (d + 6) 132 0 [.ref 51, zU, zU, zU, zU] [] (I, J, R, G) (fun v mm => ∃ I', mm = (I', J, R, G) ∧ FDt t I I' ∧ PM I I' b n t L v (coQ b n m p)) := by
  have hm6 := hd.2.2.2.2
  have h400 := hT.1
  rw [coQ]
  cases hv : suQ b n m p with
  | inl e =>
    rw [bdS_l rfl]
    refine k_aload f132_0 rfl ?_
    refine k_callv (as := []) (rest := []) f132_1 hS.o51 rfl rfl rfl rfl (q_sumR (d := d) (p := p) hR hS ht hp hLp hT hd) ?_
    rintro v1 _ ⟨I1, rfl, hf1, hv1⟩
    rw [hv] at hv1
    obtain ⟨rfl, hn1⟩ := hv1
    refine k_if_ne f132_4 (fun h_ => absurd (by decide) h_) (fun _ => ?_)
    refine k_iconst (v := 0) f132_7 rfl ?_
    exact k_iret f132_8 (by decide) ⟨_, rfl, hf1, rfl, hn1⟩
  | inr z =>
    rw [bdS_r rfl]
    obtain ⟨z1, z2, z3, z4, z5, z6⟩ := (su_ok (b := b) (n := n) m p hm6 hp).1 z hv
    have hq := bk_le (b := b) z3
    have hqq := bk_bk (b := b) z3
    have b8 : ∀ k, k < n → b k < 256 := fun k h => (hT.2 _ (by omega)).1
    by_cases qn : bk b n z.2.2 < n
    · have hcs := cs_v (b := b) qn (b8 _ qn)
      by_cases hc : b (bk b n z.2.2) = 60
      · have hev := ed_v (b := b) qn (by omega) (by omega)
        by_cases sg : sgB b n (bk b n z.2.2) = true
        · have s2 := (of_decide_eq_true sg).2
          have es : csS b n (bk b n z.2.2) = 7 := by rw [hcs, if_pos hc, if_pos sg]
          have ee : ed b n (bk b n z.2.2) = bk b n z.2.2 + 2 := by rw [hev, if_pos sg]
          have se : seV b n (bk b n z.2.2) = 60 := (if_pos qn).trans (by rw [hc]; rfl)
          have hz : ¬ csS b n (bk b n z.2.2) = 0 := by rw [es]; decide
          rw [if_neg hz]
          by_cases h6 : 60 ≤ z.2.1
          · rw [if_pos h6]
            refine k_aload f132_0 rfl ?_
            refine k_callv (as := []) (rest := []) f132_1 hS.o51 rfl rfl rfl rfl (q_sumR (d := d) (p := p) hR hS ht hp hLp hT hd) ?_
            rintro v1 _ ⟨I1, rfl, hf1, hv1⟩
            rw [hv] at hv1
            obtain ⟨rfl, ⟨⟨q1, hx1, hq1⟩, hr1⟩, ha1⟩ := hv1
            have hT1 := hf1.tp hT
            refine k_if_ne f132_4 (fun _ => ?_) (fun h_ => absurd (by decide) h_)
            refine k_aload f132_9 rfl ?_
            refine k_callv (as := []) (rest := []) f132_10 hS.o51 rfl rfl rfl rfl (q_see hR hS hT1 hx1) ?_
            rintro _ _ ⟨rfl, I2, rfl, hx2, hl2⟩
            rw [hq1] at hx2
            rw [hq1]
            have hT2 := hl2.tp hT1
            have hr2 := hr1.lx hl2
            have hf2 : FDt t I I2 := hf1.trans hl2.fd
            rw [se]
            refine k_istore (L' := [.ref 51, .int (60), zU, zU, zU]) f132_13 rfl rfl ?_
            refine k_aload f132_14 rfl ?_
            refine k_gI (w := nI (bk b n z.2.2)) f132_15 hS.o51 rfl hx2.1 ?_
            refine k_istore (L' := [.ref 51, .int (60), .int (nI (bk b n z.2.2)), zU, zU]) f132_18 rfl rfl ?_
            refine k_iload f132_19 rfl ?_
            refine k_iconst (v := 60) f132_20 rfl ?_
            refine k_ic_eq f132_22 (fun _ => ?_) (fun h_ => absurd (by decide) h_)
            refine k_aload f132_44 rfl ?_
            refine k_dup f132_45 ?_
            refine k_gI (w := nI (bk b n z.2.2)) f132_46 hS.o51 rfl hx2.1 ?_
            refine k_iconst (v := 1) f132_49 rfl ?_
            refine k_iadd f132_50 ?_
            rw [nI_1 (bk b n z.2.2)]
            refine k_putI f132_51 hS.o51 rfl ?_
            refine k_iload f132_54 rfl ?_
            refine k_iconst (v := 61) f132_55 rfl ?_
            refine k_ic_eq f132_57 (fun h_ => absurd h_ (by decide)) (fun _ => ?_)
            refine k_aload f132_60 rfl ?_
            refine k_gI (w := nI (bk b n z.2.2 + 1)) f132_61 hS.o51 rfl (z_u_same _ _ _ _) ?_
            refine k_aload f132_64 rfl ?_
            refine k_gI (w := nI n) f132_65 hS.o51 rfl (Eq.trans (z_u_k _ _ _ (by decide)) hx2.2.2.2) ?_
            refine k_ic_ge f132_68 (fun h_ => absurd h_ (nI_ge (by have := (of_decide_eq_true sg).2.1; omega) (by omega))) (fun _ => ?_)
            refine k_aload f132_71 rfl ?_
            refine k_getr (q := 52) f132_72 hS.o51 rfl hR.r51_0 ?_
            refine k_aload f132_75 rfl ?_
            refine k_gI (w := nI (bk b n z.2.2 + 1)) f132_76 hS.o51 rfl (z_u_same _ _ _ _) ?_
            refine k_ba (k := (bk b n z.2.2 + 1)) (w := (nI (b (bk b n z.2.2 + 1))).toInt8.toInt32) f132_79 hS.a52 rfl (by omega) (by decide) (Eq.trans (z_u_p _ _ _ _ (by decide)) (hT2.2 _ (by omega)).2.2) ?_
            refine k_iconst (v := 61) f132_80 rfl ?_
            refine k_ic_ne f132_82 (fun h_ => absurd ((t8_61 _ (b8 _ (of_decide_eq_true sg).2.1)).mpr (of_decide_eq_true sg).2.2) h_) (fun _ => ?_)
            refine k_iconst (v := 1) f132_85 rfl ?_
            refine k_goto f132_86 ?_
            refine k_istore (L' := [.ref 51, .int (60), .int (nI (bk b n z.2.2)), .int (1), zU]) f132_90 rfl rfl ?_
            refine k_iload f132_91 rfl ?_
            refine k_if_eq f132_92 (fun h_ => absurd h_ (by decide)) (fun _ => ?_)
            refine k_aload f132_95 rfl ?_
            refine k_dup f132_96 ?_
            refine k_gI (w := nI (bk b n z.2.2 + 1)) f132_97 hS.o51 rfl (z_u_same _ _ _ _) ?_
            refine k_iconst (v := 1) f132_100 rfl ?_
            refine k_iadd f132_101 ?_
            rw [nI_1 (bk b n z.2.2 + 1)]
            refine k_putI f132_102 hS.o51 rfl ?_
            refine k_aload f132_105 rfl ?_
            refine k_iload f132_106 rfl ?_
            refine e_v (as := [.int (nI (bk b n z.2.2))]) (rest := []) f132_107 hS.o51 rfl rfl rfl (s_make0 (d := d + 4) (a := bk b n z.2.2) (m := z.2.1) hS ((hx2.at (r := bk b n z.2.2 + 1) (by omega)).at (r := bk b n z.2.2 + 1 + 1) (by omega)).2.2.1 ((hr2.at (r := bk b n z.2.2 + 1)).at (r := bk b n z.2.2 + 1 + 1)).2.2.1 z2 h6) ?_
            refine k_if_ne f132_110 (fun h_ => absurd (by decide) h_) (fun _ => ?_)
            refine k_iconst (v := 0) f132_113 rfl ?_
            exact k_iret f132_114 (by decide) ⟨_, rfl, ((hf2.put (q := 51) (j := 13) (v := nI (bk b n z.2.2 + 1)) (by omega)).put (q := 51) (j := 13) (v := nI (bk b n z.2.2 + 1 + 1)) (by omega)).put (by omega), rfl, z_u_same _ _ _ _⟩
          · rw [if_neg h6, ee, es]
            cases hw : suQ b n (z.2.1 + 1) (bk b n z.2.2 + 2) with
            | inl e =>
              rw [bdS_l rfl]
              refine k_aload f132_0 rfl ?_
              refine k_callv (as := []) (rest := []) f132_1 hS.o51 rfl rfl rfl rfl (q_sumR (d := d) (p := p) hR hS ht hp hLp hT hd) ?_
              rintro v1 _ ⟨I1, rfl, hf1, hv1⟩
              rw [hv] at hv1
              obtain ⟨rfl, ⟨⟨q1, hx1, hq1⟩, hr1⟩, ha1⟩ := hv1
              have hT1 := hf1.tp hT
              refine k_if_ne f132_4 (fun _ => ?_) (fun h_ => absurd (by decide) h_)
              refine k_aload f132_9 rfl ?_
              refine k_callv (as := []) (rest := []) f132_10 hS.o51 rfl rfl rfl rfl (q_see hR hS hT1 hx1) ?_
              rintro _ _ ⟨rfl, I2, rfl, hx2, hl2⟩
              rw [hq1] at hx2
              rw [hq1]
              have hT2 := hl2.tp hT1
              have hr2 := hr1.lx hl2
              have hf2 : FDt t I I2 := hf1.trans hl2.fd
              rw [se]
              refine k_istore (L' := [.ref 51, .int (60), zU, zU, zU]) f132_13 rfl rfl ?_
              refine k_aload f132_14 rfl ?_
              refine k_gI (w := nI (bk b n z.2.2)) f132_15 hS.o51 rfl hx2.1 ?_
              refine k_istore (L' := [.ref 51, .int (60), .int (nI (bk b n z.2.2)), zU, zU]) f132_18 rfl rfl ?_
              refine k_iload f132_19 rfl ?_
              refine k_iconst (v := 60) f132_20 rfl ?_
              refine k_ic_eq f132_22 (fun _ => ?_) (fun h_ => absurd (by decide) h_)
              refine k_aload f132_44 rfl ?_
              refine k_dup f132_45 ?_
              refine k_gI (w := nI (bk b n z.2.2)) f132_46 hS.o51 rfl hx2.1 ?_
              refine k_iconst (v := 1) f132_49 rfl ?_
              refine k_iadd f132_50 ?_
              rw [nI_1 (bk b n z.2.2)]
              refine k_putI f132_51 hS.o51 rfl ?_
              refine k_iload f132_54 rfl ?_
              refine k_iconst (v := 61) f132_55 rfl ?_
              refine k_ic_eq f132_57 (fun h_ => absurd h_ (by decide)) (fun _ => ?_)
              refine k_aload f132_60 rfl ?_
              refine k_gI (w := nI (bk b n z.2.2 + 1)) f132_61 hS.o51 rfl (z_u_same _ _ _ _) ?_
              refine k_aload f132_64 rfl ?_
              refine k_gI (w := nI n) f132_65 hS.o51 rfl (Eq.trans (z_u_k _ _ _ (by decide)) hx2.2.2.2) ?_
              refine k_ic_ge f132_68 (fun h_ => absurd h_ (nI_ge (by have := (of_decide_eq_true sg).2.1; omega) (by omega))) (fun _ => ?_)
              refine k_aload f132_71 rfl ?_
              refine k_getr (q := 52) f132_72 hS.o51 rfl hR.r51_0 ?_
              refine k_aload f132_75 rfl ?_
              refine k_gI (w := nI (bk b n z.2.2 + 1)) f132_76 hS.o51 rfl (z_u_same _ _ _ _) ?_
              refine k_ba (k := (bk b n z.2.2 + 1)) (w := (nI (b (bk b n z.2.2 + 1))).toInt8.toInt32) f132_79 hS.a52 rfl (by omega) (by decide) (Eq.trans (z_u_p _ _ _ _ (by decide)) (hT2.2 _ (by omega)).2.2) ?_
              refine k_iconst (v := 61) f132_80 rfl ?_
              refine k_ic_ne f132_82 (fun h_ => absurd ((t8_61 _ (b8 _ (of_decide_eq_true sg).2.1)).mpr (of_decide_eq_true sg).2.2) h_) (fun _ => ?_)
              refine k_iconst (v := 1) f132_85 rfl ?_
              refine k_goto f132_86 ?_
              refine k_istore (L' := [.ref 51, .int (60), .int (nI (bk b n z.2.2)), .int (1), zU]) f132_90 rfl rfl ?_
              refine k_iload f132_91 rfl ?_
              refine k_if_eq f132_92 (fun h_ => absurd h_ (by decide)) (fun _ => ?_)
              refine k_aload f132_95 rfl ?_
              refine k_dup f132_96 ?_
              refine k_gI (w := nI (bk b n z.2.2 + 1)) f132_97 hS.o51 rfl (z_u_same _ _ _ _) ?_
              refine k_iconst (v := 1) f132_100 rfl ?_
              refine k_iadd f132_101 ?_
              rw [nI_1 (bk b n z.2.2 + 1)]
              refine k_putI f132_102 hS.o51 rfl ?_
              refine k_aload f132_105 rfl ?_
              refine k_iload f132_106 rfl ?_
              refine e_v (as := [.int (nI (bk b n z.2.2))]) (rest := []) f132_107 hS.o51 rfl rfl rfl (s_make1 (d := d + 5) (m := z.2.1) hS ((hr2.at (r := bk b n z.2.2 + 1)).at (r := bk b n z.2.2 + 1 + 1)).2.2.1 (by omega)) ?_
              refine k_if_ne f132_110 (fun _ => ?_) (fun h_ => absurd (by decide) h_)
              refine k_iload f132_115 rfl ?_
              refine k_iconst (v := 60) f132_116 rfl ?_
              refine k_ic_ne f132_118 (fun h_ => absurd (by decide) h_) (fun _ => ?_)
              refine k_iload f132_121 rfl ?_
              refine k_if_eq f132_122 (fun h_ => absurd h_ (by decide)) (fun _ => ?_)
              refine k_iconst (v := 1) f132_125 rfl ?_
              refine k_goto f132_126 ?_
              refine k_istore (L' := [.ref 51, .int (60), .int (nI (bk b n z.2.2)), .int (1), .int (1)]) f132_152 rfl rfl ?_
              refine k_aload f132_154 rfl ?_
              refine k_callv (as := []) (rest := []) f132_155 hS.o51 rfl rfl rfl rfl (q_sumR (d := d) (p := bk b n z.2.2 + 1 + 1) hR hS ht (by omega) (by omega) (((hT2.put (q := 51) (j := 13) (v := nI (bk b n z.2.2 + 1)) (by decide) (by decide)).put (q := 51) (j := 13) (v := nI (bk b n z.2.2 + 1 + 1)) (by decide) (by decide)).put (by decide) (by decide)) ⟨⟨_, ((hx2.at (r := bk b n z.2.2 + 1) (by omega)).at (r := bk b n z.2.2 + 1 + 1) (by omega)).put (by omega), rfl⟩, ((hr2.at (r := bk b n z.2.2 + 1)).at (r := bk b n z.2.2 + 1 + 1)).mk (by omega)⟩) ?_
              rintro v3 _ ⟨I3, rfl, hf3, hv3⟩
              have hv3 : PM _ I3 b n t _ v3 (suQ b n (z.2.1 + 1) (bk b n z.2.2 + 2)) := hv3
              rw [hw] at hv3
              obtain ⟨rfl, hn3⟩ := hv3
              have hfa : FDt t I I3 := (((hf2.put (q := 51) (j := 13) (v := nI (bk b n z.2.2 + 1)) (by omega)).put (q := 51) (j := 13) (v := nI (bk b n z.2.2 + 1 + 1)) (by omega)).put (by omega)).trans hf3
              refine k_if_ne f132_158 (fun h_ => absurd (by decide) h_) (fun _ => ?_)
              refine k_iconst (v := 0) f132_161 rfl ?_
              exact k_iret f132_162 (by decide) ⟨_, rfl, hfa, rfl, hn3⟩
            | inr w =>
              rw [bdS_r rfl]
              obtain ⟨w1, w2, w3, w4, w5, w6⟩ := (su_ok (b := b) (n := n) (z.2.1 + 1) (bk b n z.2.2 + 2) (by omega) (by omega)).1 w hw
              refine k_aload f132_0 rfl ?_
              refine k_callv (as := []) (rest := []) f132_1 hS.o51 rfl rfl rfl rfl (q_sumR (d := d) (p := p) hR hS ht hp hLp hT hd) ?_
              rintro v1 _ ⟨I1, rfl, hf1, hv1⟩
              rw [hv] at hv1
              obtain ⟨rfl, ⟨⟨q1, hx1, hq1⟩, hr1⟩, ha1⟩ := hv1
              have hT1 := hf1.tp hT
              refine k_if_ne f132_4 (fun _ => ?_) (fun h_ => absurd (by decide) h_)
              refine k_aload f132_9 rfl ?_
              refine k_callv (as := []) (rest := []) f132_10 hS.o51 rfl rfl rfl rfl (q_see hR hS hT1 hx1) ?_
              rintro _ _ ⟨rfl, I2, rfl, hx2, hl2⟩
              rw [hq1] at hx2
              rw [hq1]
              have hT2 := hl2.tp hT1
              have hr2 := hr1.lx hl2
              have hf2 : FDt t I I2 := hf1.trans hl2.fd
              rw [se]
              refine k_istore (L' := [.ref 51, .int (60), zU, zU, zU]) f132_13 rfl rfl ?_
              refine k_aload f132_14 rfl ?_
              refine k_gI (w := nI (bk b n z.2.2)) f132_15 hS.o51 rfl hx2.1 ?_
              refine k_istore (L' := [.ref 51, .int (60), .int (nI (bk b n z.2.2)), zU, zU]) f132_18 rfl rfl ?_
              refine k_iload f132_19 rfl ?_
              refine k_iconst (v := 60) f132_20 rfl ?_
              refine k_ic_eq f132_22 (fun _ => ?_) (fun h_ => absurd (by decide) h_)
              refine k_aload f132_44 rfl ?_
              refine k_dup f132_45 ?_
              refine k_gI (w := nI (bk b n z.2.2)) f132_46 hS.o51 rfl hx2.1 ?_
              refine k_iconst (v := 1) f132_49 rfl ?_
              refine k_iadd f132_50 ?_
              rw [nI_1 (bk b n z.2.2)]
              refine k_putI f132_51 hS.o51 rfl ?_
              refine k_iload f132_54 rfl ?_
              refine k_iconst (v := 61) f132_55 rfl ?_
              refine k_ic_eq f132_57 (fun h_ => absurd h_ (by decide)) (fun _ => ?_)
              refine k_aload f132_60 rfl ?_
              refine k_gI (w := nI (bk b n z.2.2 + 1)) f132_61 hS.o51 rfl (z_u_same _ _ _ _) ?_
              refine k_aload f132_64 rfl ?_
              refine k_gI (w := nI n) f132_65 hS.o51 rfl (Eq.trans (z_u_k _ _ _ (by decide)) hx2.2.2.2) ?_
              refine k_ic_ge f132_68 (fun h_ => absurd h_ (nI_ge (by have := (of_decide_eq_true sg).2.1; omega) (by omega))) (fun _ => ?_)
              refine k_aload f132_71 rfl ?_
              refine k_getr (q := 52) f132_72 hS.o51 rfl hR.r51_0 ?_
              refine k_aload f132_75 rfl ?_
              refine k_gI (w := nI (bk b n z.2.2 + 1)) f132_76 hS.o51 rfl (z_u_same _ _ _ _) ?_
              refine k_ba (k := (bk b n z.2.2 + 1)) (w := (nI (b (bk b n z.2.2 + 1))).toInt8.toInt32) f132_79 hS.a52 rfl (by omega) (by decide) (Eq.trans (z_u_p _ _ _ _ (by decide)) (hT2.2 _ (by omega)).2.2) ?_
              refine k_iconst (v := 61) f132_80 rfl ?_
              refine k_ic_ne f132_82 (fun h_ => absurd ((t8_61 _ (b8 _ (of_decide_eq_true sg).2.1)).mpr (of_decide_eq_true sg).2.2) h_) (fun _ => ?_)
              refine k_iconst (v := 1) f132_85 rfl ?_
              refine k_goto f132_86 ?_
              refine k_istore (L' := [.ref 51, .int (60), .int (nI (bk b n z.2.2)), .int (1), zU]) f132_90 rfl rfl ?_
              refine k_iload f132_91 rfl ?_
              refine k_if_eq f132_92 (fun h_ => absurd h_ (by decide)) (fun _ => ?_)
              refine k_aload f132_95 rfl ?_
              refine k_dup f132_96 ?_
              refine k_gI (w := nI (bk b n z.2.2 + 1)) f132_97 hS.o51 rfl (z_u_same _ _ _ _) ?_
              refine k_iconst (v := 1) f132_100 rfl ?_
              refine k_iadd f132_101 ?_
              rw [nI_1 (bk b n z.2.2 + 1)]
              refine k_putI f132_102 hS.o51 rfl ?_
              refine k_aload f132_105 rfl ?_
              refine k_iload f132_106 rfl ?_
              refine e_v (as := [.int (nI (bk b n z.2.2))]) (rest := []) f132_107 hS.o51 rfl rfl rfl (s_make1 (d := d + 5) (m := z.2.1) hS ((hr2.at (r := bk b n z.2.2 + 1)).at (r := bk b n z.2.2 + 1 + 1)).2.2.1 (by omega)) ?_
              refine k_if_ne f132_110 (fun _ => ?_) (fun h_ => absurd (by decide) h_)
              refine k_iload f132_115 rfl ?_
              refine k_iconst (v := 60) f132_116 rfl ?_
              refine k_ic_ne f132_118 (fun h_ => absurd (by decide) h_) (fun _ => ?_)
              refine k_iload f132_121 rfl ?_
              refine k_if_eq f132_122 (fun h_ => absurd h_ (by decide)) (fun _ => ?_)
              refine k_iconst (v := 1) f132_125 rfl ?_
              refine k_goto f132_126 ?_
              refine k_istore (L' := [.ref 51, .int (60), .int (nI (bk b n z.2.2)), .int (1), .int (1)]) f132_152 rfl rfl ?_
              refine k_aload f132_154 rfl ?_
              refine k_callv (as := []) (rest := []) f132_155 hS.o51 rfl rfl rfl rfl (q_sumR (d := d) (p := bk b n z.2.2 + 1 + 1) hR hS ht (by omega) (by omega) (((hT2.put (q := 51) (j := 13) (v := nI (bk b n z.2.2 + 1)) (by decide) (by decide)).put (q := 51) (j := 13) (v := nI (bk b n z.2.2 + 1 + 1)) (by decide) (by decide)).put (by decide) (by decide)) ⟨⟨_, ((hx2.at (r := bk b n z.2.2 + 1) (by omega)).at (r := bk b n z.2.2 + 1 + 1) (by omega)).put (by omega), rfl⟩, ((hr2.at (r := bk b n z.2.2 + 1)).at (r := bk b n z.2.2 + 1 + 1)).mk (by omega)⟩) ?_
              rintro v3 _ ⟨I3, rfl, hf3, hv3⟩
              have hv3 : PM _ I3 b n t _ v3 (suQ b n (z.2.1 + 1) (bk b n z.2.2 + 2)) := hv3
              rw [hw] at hv3
              obtain ⟨rfl, hd3, ha3⟩ := hv3
              have hfa : FDt t I I3 := (((hf2.put (q := 51) (j := 13) (v := nI (bk b n z.2.2 + 1)) (by omega)).put (q := 51) (j := 13) (v := nI (bk b n z.2.2 + 1 + 1)) (by omega)).put (by omega)).trans hf3
              refine k_if_ne f132_158 (fun _ => ?_) (fun h_ => absurd (by decide) h_)
              refine k_aload f132_163 rfl ?_
              refine k_iconst (v := 6) f132_164 rfl ?_
              refine k_iload f132_166 rfl ?_
              refine k_iadd f132_168 ?_
              refine k_iconst (v := 0) f132_169 rfl ?_
              refine k_callv (as := [.int (0), .int ((6) + (1))]) (rest := []) f132_170 hS.o51 rfl rfl rfl rfl (q_puts (it := (7, 0)) (by decide) rfl hR hS hd3.2 ht (by omega)) ?_
              rintro _ _ ⟨rfl, I4, rfl, hf4, hs4, hr4, ha4⟩
              obtain ⟨⟨q3, hx3, hq3⟩, hr3⟩ := hd3
              have ha3 := ha3.l (fun i => (z_u_p _ _ _ _ (by decide)).trans (((z_u_p _ _ _ _ (by decide)).trans (z_u_p _ _ _ _ (by decide))).trans (hl2 53 i (by omega))))
              refine k_iconst (v := 1) f132_173 rfl ?_
              exact k_iret f132_174 (by decide) ⟨_, rfl, hfa.trans hf4, rfl, ⟨⟨q3, hx3.same hs4, hq3⟩, by show RT I4 t w.2.1 (L + (z.1 ++ (w.1 ++ [(7, 0)])).length); rw [List.length_append, List.length_append, ← Nat.add_assoc, ← Nat.add_assoc]; exact hr4⟩, ha1.app (by have h := ha3.app ha4; exact h)⟩
        · have es : csS b n (bk b n z.2.2) = 6 := by rw [hcs, if_pos hc, if_neg sg]
          have ee : ed b n (bk b n z.2.2) = bk b n z.2.2 + 1 := by rw [hev, if_neg sg]
          by_cases qs : bk b n z.2.2 + 1 < n
          · have nb : ¬ b (bk b n z.2.2 + 1) = 61 := fun z => sg (decide_eq_true ⟨by omega, qs, z⟩)
            have se : seV b n (bk b n z.2.2) = 60 := (if_pos qn).trans (by rw [hc]; rfl)
            have hz : ¬ csS b n (bk b n z.2.2) = 0 := by rw [es]; decide
            rw [if_neg hz]
            by_cases h6 : 60 ≤ z.2.1
            · rw [if_pos h6]
              refine k_aload f132_0 rfl ?_
              refine k_callv (as := []) (rest := []) f132_1 hS.o51 rfl rfl rfl rfl (q_sumR (d := d) (p := p) hR hS ht hp hLp hT hd) ?_
              rintro v1 _ ⟨I1, rfl, hf1, hv1⟩
              rw [hv] at hv1
              obtain ⟨rfl, ⟨⟨q1, hx1, hq1⟩, hr1⟩, ha1⟩ := hv1
              have hT1 := hf1.tp hT
              refine k_if_ne f132_4 (fun _ => ?_) (fun h_ => absurd (by decide) h_)
              refine k_aload f132_9 rfl ?_
              refine k_callv (as := []) (rest := []) f132_10 hS.o51 rfl rfl rfl rfl (q_see hR hS hT1 hx1) ?_
              rintro _ _ ⟨rfl, I2, rfl, hx2, hl2⟩
              rw [hq1] at hx2
              rw [hq1]
              have hT2 := hl2.tp hT1
              have hr2 := hr1.lx hl2
              have hf2 : FDt t I I2 := hf1.trans hl2.fd
              rw [se]
              refine k_istore (L' := [.ref 51, .int (60), zU, zU, zU]) f132_13 rfl rfl ?_
              refine k_aload f132_14 rfl ?_
              refine k_gI (w := nI (bk b n z.2.2)) f132_15 hS.o51 rfl hx2.1 ?_
              refine k_istore (L' := [.ref 51, .int (60), .int (nI (bk b n z.2.2)), zU, zU]) f132_18 rfl rfl ?_
              refine k_iload f132_19 rfl ?_
              refine k_iconst (v := 60) f132_20 rfl ?_
              refine k_ic_eq f132_22 (fun _ => ?_) (fun h_ => absurd (by decide) h_)
              refine k_aload f132_44 rfl ?_
              refine k_dup f132_45 ?_
              refine k_gI (w := nI (bk b n z.2.2)) f132_46 hS.o51 rfl hx2.1 ?_
              refine k_iconst (v := 1) f132_49 rfl ?_
              refine k_iadd f132_50 ?_
              rw [nI_1 (bk b n z.2.2)]
              refine k_putI f132_51 hS.o51 rfl ?_
              refine k_iload f132_54 rfl ?_
              refine k_iconst (v := 61) f132_55 rfl ?_
              refine k_ic_eq f132_57 (fun h_ => absurd h_ (by decide)) (fun _ => ?_)
              refine k_aload f132_60 rfl ?_
              refine k_gI (w := nI (bk b n z.2.2 + 1)) f132_61 hS.o51 rfl (z_u_same _ _ _ _) ?_
              refine k_aload f132_64 rfl ?_
              refine k_gI (w := nI n) f132_65 hS.o51 rfl (Eq.trans (z_u_k _ _ _ (by decide)) hx2.2.2.2) ?_
              refine k_ic_ge f132_68 (fun h_ => absurd h_ (nI_ge qs (by omega))) (fun _ => ?_)
              refine k_aload f132_71 rfl ?_
              refine k_getr (q := 52) f132_72 hS.o51 rfl hR.r51_0 ?_
              refine k_aload f132_75 rfl ?_
              refine k_gI (w := nI (bk b n z.2.2 + 1)) f132_76 hS.o51 rfl (z_u_same _ _ _ _) ?_
              refine k_ba (k := (bk b n z.2.2 + 1)) (w := (nI (b (bk b n z.2.2 + 1))).toInt8.toInt32) f132_79 hS.a52 rfl (by omega) (by decide) (Eq.trans (z_u_p _ _ _ _ (by decide)) (hT2.2 _ (by omega)).2.2) ?_
              refine k_iconst (v := 61) f132_80 rfl ?_
              refine k_ic_ne f132_82 (fun _ => ?_) (fun h_ => absurd ((fun z => nb ((t8_61 _ (b8 _ qs)).mp z))) h_)
              refine k_iconst (v := 0) f132_89 rfl ?_
              refine k_istore (L' := [.ref 51, .int (60), .int (nI (bk b n z.2.2)), .int (0), zU]) f132_90 rfl rfl ?_
              refine k_iload f132_91 rfl ?_
              refine k_if_eq f132_92 (fun _ => ?_) (fun h_ => absurd (by decide) h_)
              refine k_aload f132_105 rfl ?_
              refine k_iload f132_106 rfl ?_
              refine e_v (as := [.int (nI (bk b n z.2.2))]) (rest := []) f132_107 hS.o51 rfl rfl rfl (s_make0 (d := d + 4) (a := bk b n z.2.2) (m := z.2.1) hS (hx2.at (r := bk b n z.2.2 + 1) (by omega)).2.2.1 (hr2.at (r := bk b n z.2.2 + 1)).2.2.1 z2 h6) ?_
              refine k_if_ne f132_110 (fun h_ => absurd (by decide) h_) (fun _ => ?_)
              refine k_iconst (v := 0) f132_113 rfl ?_
              exact k_iret f132_114 (by decide) ⟨_, rfl, (hf2.put (q := 51) (j := 13) (v := nI (bk b n z.2.2 + 1)) (by omega)).put (by omega), rfl, z_u_same _ _ _ _⟩
            · rw [if_neg h6, ee, es]
              cases hw : suQ b n (z.2.1 + 1) (bk b n z.2.2 + 1) with
              | inl e =>
                rw [bdS_l rfl]
                refine k_aload f132_0 rfl ?_
                refine k_callv (as := []) (rest := []) f132_1 hS.o51 rfl rfl rfl rfl (q_sumR (d := d) (p := p) hR hS ht hp hLp hT hd) ?_
                rintro v1 _ ⟨I1, rfl, hf1, hv1⟩
                rw [hv] at hv1
                obtain ⟨rfl, ⟨⟨q1, hx1, hq1⟩, hr1⟩, ha1⟩ := hv1
                have hT1 := hf1.tp hT
                refine k_if_ne f132_4 (fun _ => ?_) (fun h_ => absurd (by decide) h_)
                refine k_aload f132_9 rfl ?_
                refine k_callv (as := []) (rest := []) f132_10 hS.o51 rfl rfl rfl rfl (q_see hR hS hT1 hx1) ?_
                rintro _ _ ⟨rfl, I2, rfl, hx2, hl2⟩
                rw [hq1] at hx2
                rw [hq1]
                have hT2 := hl2.tp hT1
                have hr2 := hr1.lx hl2
                have hf2 : FDt t I I2 := hf1.trans hl2.fd
                rw [se]
                refine k_istore (L' := [.ref 51, .int (60), zU, zU, zU]) f132_13 rfl rfl ?_
                refine k_aload f132_14 rfl ?_
                refine k_gI (w := nI (bk b n z.2.2)) f132_15 hS.o51 rfl hx2.1 ?_
                refine k_istore (L' := [.ref 51, .int (60), .int (nI (bk b n z.2.2)), zU, zU]) f132_18 rfl rfl ?_
                refine k_iload f132_19 rfl ?_
                refine k_iconst (v := 60) f132_20 rfl ?_
                refine k_ic_eq f132_22 (fun _ => ?_) (fun h_ => absurd (by decide) h_)
                refine k_aload f132_44 rfl ?_
                refine k_dup f132_45 ?_
                refine k_gI (w := nI (bk b n z.2.2)) f132_46 hS.o51 rfl hx2.1 ?_
                refine k_iconst (v := 1) f132_49 rfl ?_
                refine k_iadd f132_50 ?_
                rw [nI_1 (bk b n z.2.2)]
                refine k_putI f132_51 hS.o51 rfl ?_
                refine k_iload f132_54 rfl ?_
                refine k_iconst (v := 61) f132_55 rfl ?_
                refine k_ic_eq f132_57 (fun h_ => absurd h_ (by decide)) (fun _ => ?_)
                refine k_aload f132_60 rfl ?_
                refine k_gI (w := nI (bk b n z.2.2 + 1)) f132_61 hS.o51 rfl (z_u_same _ _ _ _) ?_
                refine k_aload f132_64 rfl ?_
                refine k_gI (w := nI n) f132_65 hS.o51 rfl (Eq.trans (z_u_k _ _ _ (by decide)) hx2.2.2.2) ?_
                refine k_ic_ge f132_68 (fun h_ => absurd h_ (nI_ge qs (by omega))) (fun _ => ?_)
                refine k_aload f132_71 rfl ?_
                refine k_getr (q := 52) f132_72 hS.o51 rfl hR.r51_0 ?_
                refine k_aload f132_75 rfl ?_
                refine k_gI (w := nI (bk b n z.2.2 + 1)) f132_76 hS.o51 rfl (z_u_same _ _ _ _) ?_
                refine k_ba (k := (bk b n z.2.2 + 1)) (w := (nI (b (bk b n z.2.2 + 1))).toInt8.toInt32) f132_79 hS.a52 rfl (by omega) (by decide) (Eq.trans (z_u_p _ _ _ _ (by decide)) (hT2.2 _ (by omega)).2.2) ?_
                refine k_iconst (v := 61) f132_80 rfl ?_
                refine k_ic_ne f132_82 (fun _ => ?_) (fun h_ => absurd ((fun z => nb ((t8_61 _ (b8 _ qs)).mp z))) h_)
                refine k_iconst (v := 0) f132_89 rfl ?_
                refine k_istore (L' := [.ref 51, .int (60), .int (nI (bk b n z.2.2)), .int (0), zU]) f132_90 rfl rfl ?_
                refine k_iload f132_91 rfl ?_
                refine k_if_eq f132_92 (fun _ => ?_) (fun h_ => absurd (by decide) h_)
                refine k_aload f132_105 rfl ?_
                refine k_iload f132_106 rfl ?_
                refine e_v (as := [.int (nI (bk b n z.2.2))]) (rest := []) f132_107 hS.o51 rfl rfl rfl (s_make1 (d := d + 5) (m := z.2.1) hS (hr2.at (r := bk b n z.2.2 + 1)).2.2.1 (by omega)) ?_
                refine k_if_ne f132_110 (fun _ => ?_) (fun h_ => absurd (by decide) h_)
                refine k_iload f132_115 rfl ?_
                refine k_iconst (v := 60) f132_116 rfl ?_
                refine k_ic_ne f132_118 (fun h_ => absurd (by decide) h_) (fun _ => ?_)
                refine k_iload f132_121 rfl ?_
                refine k_if_eq f132_122 (fun _ => ?_) (fun h_ => absurd (by decide) h_)
                refine k_iconst (v := 0) f132_129 rfl ?_
                refine k_goto f132_130 ?_
                refine k_istore (L' := [.ref 51, .int (60), .int (nI (bk b n z.2.2)), .int (0), .int (0)]) f132_152 rfl rfl ?_
                refine k_aload f132_154 rfl ?_
                refine k_callv (as := []) (rest := []) f132_155 hS.o51 rfl rfl rfl rfl (q_sumR (d := d) (p := bk b n z.2.2 + 1) hR hS ht (by omega) (by omega) ((hT2.put (q := 51) (j := 13) (v := nI (bk b n z.2.2 + 1)) (by decide) (by decide)).put (by decide) (by decide)) ⟨⟨_, (hx2.at (r := bk b n z.2.2 + 1) (by omega)).put (by omega), rfl⟩, (hr2.at (r := bk b n z.2.2 + 1)).mk (by omega)⟩) ?_
                rintro v3 _ ⟨I3, rfl, hf3, hv3⟩
                have hv3 : PM _ I3 b n t _ v3 (suQ b n (z.2.1 + 1) (bk b n z.2.2 + 1)) := hv3
                rw [hw] at hv3
                obtain ⟨rfl, hn3⟩ := hv3
                have hfa : FDt t I I3 := ((hf2.put (q := 51) (j := 13) (v := nI (bk b n z.2.2 + 1)) (by omega)).put (by omega)).trans hf3
                refine k_if_ne f132_158 (fun h_ => absurd (by decide) h_) (fun _ => ?_)
                refine k_iconst (v := 0) f132_161 rfl ?_
                exact k_iret f132_162 (by decide) ⟨_, rfl, hfa, rfl, hn3⟩
              | inr w =>
                rw [bdS_r rfl]
                obtain ⟨w1, w2, w3, w4, w5, w6⟩ := (su_ok (b := b) (n := n) (z.2.1 + 1) (bk b n z.2.2 + 1) (by omega) (by omega)).1 w hw
                refine k_aload f132_0 rfl ?_
                refine k_callv (as := []) (rest := []) f132_1 hS.o51 rfl rfl rfl rfl (q_sumR (d := d) (p := p) hR hS ht hp hLp hT hd) ?_
                rintro v1 _ ⟨I1, rfl, hf1, hv1⟩
                rw [hv] at hv1
                obtain ⟨rfl, ⟨⟨q1, hx1, hq1⟩, hr1⟩, ha1⟩ := hv1
                have hT1 := hf1.tp hT
                refine k_if_ne f132_4 (fun _ => ?_) (fun h_ => absurd (by decide) h_)
                refine k_aload f132_9 rfl ?_
                refine k_callv (as := []) (rest := []) f132_10 hS.o51 rfl rfl rfl rfl (q_see hR hS hT1 hx1) ?_
                rintro _ _ ⟨rfl, I2, rfl, hx2, hl2⟩
                rw [hq1] at hx2
                rw [hq1]
                have hT2 := hl2.tp hT1
                have hr2 := hr1.lx hl2
                have hf2 : FDt t I I2 := hf1.trans hl2.fd
                rw [se]
                refine k_istore (L' := [.ref 51, .int (60), zU, zU, zU]) f132_13 rfl rfl ?_
                refine k_aload f132_14 rfl ?_
                refine k_gI (w := nI (bk b n z.2.2)) f132_15 hS.o51 rfl hx2.1 ?_
                refine k_istore (L' := [.ref 51, .int (60), .int (nI (bk b n z.2.2)), zU, zU]) f132_18 rfl rfl ?_
                refine k_iload f132_19 rfl ?_
                refine k_iconst (v := 60) f132_20 rfl ?_
                refine k_ic_eq f132_22 (fun _ => ?_) (fun h_ => absurd (by decide) h_)
                refine k_aload f132_44 rfl ?_
                refine k_dup f132_45 ?_
                refine k_gI (w := nI (bk b n z.2.2)) f132_46 hS.o51 rfl hx2.1 ?_
                refine k_iconst (v := 1) f132_49 rfl ?_
                refine k_iadd f132_50 ?_
                rw [nI_1 (bk b n z.2.2)]
                refine k_putI f132_51 hS.o51 rfl ?_
                refine k_iload f132_54 rfl ?_
                refine k_iconst (v := 61) f132_55 rfl ?_
                refine k_ic_eq f132_57 (fun h_ => absurd h_ (by decide)) (fun _ => ?_)
                refine k_aload f132_60 rfl ?_
                refine k_gI (w := nI (bk b n z.2.2 + 1)) f132_61 hS.o51 rfl (z_u_same _ _ _ _) ?_
                refine k_aload f132_64 rfl ?_
                refine k_gI (w := nI n) f132_65 hS.o51 rfl (Eq.trans (z_u_k _ _ _ (by decide)) hx2.2.2.2) ?_
                refine k_ic_ge f132_68 (fun h_ => absurd h_ (nI_ge qs (by omega))) (fun _ => ?_)
                refine k_aload f132_71 rfl ?_
                refine k_getr (q := 52) f132_72 hS.o51 rfl hR.r51_0 ?_
                refine k_aload f132_75 rfl ?_
                refine k_gI (w := nI (bk b n z.2.2 + 1)) f132_76 hS.o51 rfl (z_u_same _ _ _ _) ?_
                refine k_ba (k := (bk b n z.2.2 + 1)) (w := (nI (b (bk b n z.2.2 + 1))).toInt8.toInt32) f132_79 hS.a52 rfl (by omega) (by decide) (Eq.trans (z_u_p _ _ _ _ (by decide)) (hT2.2 _ (by omega)).2.2) ?_
                refine k_iconst (v := 61) f132_80 rfl ?_
                refine k_ic_ne f132_82 (fun _ => ?_) (fun h_ => absurd ((fun z => nb ((t8_61 _ (b8 _ qs)).mp z))) h_)
                refine k_iconst (v := 0) f132_89 rfl ?_
                refine k_istore (L' := [.ref 51, .int (60), .int (nI (bk b n z.2.2)), .int (0), zU]) f132_90 rfl rfl ?_
                refine k_iload f132_91 rfl ?_
                refine k_if_eq f132_92 (fun _ => ?_) (fun h_ => absurd (by decide) h_)
                refine k_aload f132_105 rfl ?_
                refine k_iload f132_106 rfl ?_
                refine e_v (as := [.int (nI (bk b n z.2.2))]) (rest := []) f132_107 hS.o51 rfl rfl rfl (s_make1 (d := d + 5) (m := z.2.1) hS (hr2.at (r := bk b n z.2.2 + 1)).2.2.1 (by omega)) ?_
                refine k_if_ne f132_110 (fun _ => ?_) (fun h_ => absurd (by decide) h_)
                refine k_iload f132_115 rfl ?_
                refine k_iconst (v := 60) f132_116 rfl ?_
                refine k_ic_ne f132_118 (fun h_ => absurd (by decide) h_) (fun _ => ?_)
                refine k_iload f132_121 rfl ?_
                refine k_if_eq f132_122 (fun _ => ?_) (fun h_ => absurd (by decide) h_)
                refine k_iconst (v := 0) f132_129 rfl ?_
                refine k_goto f132_130 ?_
                refine k_istore (L' := [.ref 51, .int (60), .int (nI (bk b n z.2.2)), .int (0), .int (0)]) f132_152 rfl rfl ?_
                refine k_aload f132_154 rfl ?_
                refine k_callv (as := []) (rest := []) f132_155 hS.o51 rfl rfl rfl rfl (q_sumR (d := d) (p := bk b n z.2.2 + 1) hR hS ht (by omega) (by omega) ((hT2.put (q := 51) (j := 13) (v := nI (bk b n z.2.2 + 1)) (by decide) (by decide)).put (by decide) (by decide)) ⟨⟨_, (hx2.at (r := bk b n z.2.2 + 1) (by omega)).put (by omega), rfl⟩, (hr2.at (r := bk b n z.2.2 + 1)).mk (by omega)⟩) ?_
                rintro v3 _ ⟨I3, rfl, hf3, hv3⟩
                have hv3 : PM _ I3 b n t _ v3 (suQ b n (z.2.1 + 1) (bk b n z.2.2 + 1)) := hv3
                rw [hw] at hv3
                obtain ⟨rfl, hd3, ha3⟩ := hv3
                have hfa : FDt t I I3 := ((hf2.put (q := 51) (j := 13) (v := nI (bk b n z.2.2 + 1)) (by omega)).put (by omega)).trans hf3
                refine k_if_ne f132_158 (fun _ => ?_) (fun h_ => absurd (by decide) h_)
                refine k_aload f132_163 rfl ?_
                refine k_iconst (v := 6) f132_164 rfl ?_
                refine k_iload f132_166 rfl ?_
                refine k_iadd f132_168 ?_
                refine k_iconst (v := 0) f132_169 rfl ?_
                refine k_callv (as := [.int (0), .int ((6) + (0))]) (rest := []) f132_170 hS.o51 rfl rfl rfl rfl (q_puts (it := (6, 0)) (by decide) rfl hR hS hd3.2 ht (by omega)) ?_
                rintro _ _ ⟨rfl, I4, rfl, hf4, hs4, hr4, ha4⟩
                obtain ⟨⟨q3, hx3, hq3⟩, hr3⟩ := hd3
                have ha3 := ha3.l (fun i => (z_u_p _ _ _ _ (by decide)).trans ((z_u_p _ _ _ _ (by decide)).trans (hl2 53 i (by omega))))
                refine k_iconst (v := 1) f132_173 rfl ?_
                exact k_iret f132_174 (by decide) ⟨_, rfl, hfa.trans hf4, rfl, ⟨⟨q3, hx3.same hs4, hq3⟩, by show RT I4 t w.2.1 (L + (z.1 ++ (w.1 ++ [(6, 0)])).length); rw [List.length_append, List.length_append, ← Nat.add_assoc, ← Nat.add_assoc]; exact hr4⟩, ha1.app (by have h := ha3.app ha4; exact h)⟩
          · have _u := qs
            have se : seV b n (bk b n z.2.2) = 60 := (if_pos qn).trans (by rw [hc]; rfl)
            have hz : ¬ csS b n (bk b n z.2.2) = 0 := by rw [es]; decide
            rw [if_neg hz]
            by_cases h6 : 60 ≤ z.2.1
            · rw [if_pos h6]
              refine k_aload f132_0 rfl ?_
              refine k_callv (as := []) (rest := []) f132_1 hS.o51 rfl rfl rfl rfl (q_sumR (d := d) (p := p) hR hS ht hp hLp hT hd) ?_
              rintro v1 _ ⟨I1, rfl, hf1, hv1⟩
              rw [hv] at hv1
              obtain ⟨rfl, ⟨⟨q1, hx1, hq1⟩, hr1⟩, ha1⟩ := hv1
              have hT1 := hf1.tp hT
              refine k_if_ne f132_4 (fun _ => ?_) (fun h_ => absurd (by decide) h_)
              refine k_aload f132_9 rfl ?_
              refine k_callv (as := []) (rest := []) f132_10 hS.o51 rfl rfl rfl rfl (q_see hR hS hT1 hx1) ?_
              rintro _ _ ⟨rfl, I2, rfl, hx2, hl2⟩
              rw [hq1] at hx2
              rw [hq1]
              have hT2 := hl2.tp hT1
              have hr2 := hr1.lx hl2
              have hf2 : FDt t I I2 := hf1.trans hl2.fd
              rw [se]
              refine k_istore (L' := [.ref 51, .int (60), zU, zU, zU]) f132_13 rfl rfl ?_
              refine k_aload f132_14 rfl ?_
              refine k_gI (w := nI (bk b n z.2.2)) f132_15 hS.o51 rfl hx2.1 ?_
              refine k_istore (L' := [.ref 51, .int (60), .int (nI (bk b n z.2.2)), zU, zU]) f132_18 rfl rfl ?_
              refine k_iload f132_19 rfl ?_
              refine k_iconst (v := 60) f132_20 rfl ?_
              refine k_ic_eq f132_22 (fun _ => ?_) (fun h_ => absurd (by decide) h_)
              refine k_aload f132_44 rfl ?_
              refine k_dup f132_45 ?_
              refine k_gI (w := nI (bk b n z.2.2)) f132_46 hS.o51 rfl hx2.1 ?_
              refine k_iconst (v := 1) f132_49 rfl ?_
              refine k_iadd f132_50 ?_
              rw [nI_1 (bk b n z.2.2)]
              refine k_putI f132_51 hS.o51 rfl ?_
              refine k_iload f132_54 rfl ?_
              refine k_iconst (v := 61) f132_55 rfl ?_
              refine k_ic_eq f132_57 (fun h_ => absurd h_ (by decide)) (fun _ => ?_)
              refine k_aload f132_60 rfl ?_
              refine k_gI (w := nI (bk b n z.2.2 + 1)) f132_61 hS.o51 rfl (z_u_same _ _ _ _) ?_
              refine k_aload f132_64 rfl ?_
              refine k_gI (w := nI n) f132_65 hS.o51 rfl (Eq.trans (z_u_k _ _ _ (by decide)) hx2.2.2.2) ?_
              refine k_ic_ge f132_68 (fun _ => ?_) (fun h_ => absurd (nI_le (by omega) (by omega)) h_)
              refine k_iconst (v := 0) f132_89 rfl ?_
              refine k_istore (L' := [.ref 51, .int (60), .int (nI (bk b n z.2.2)), .int (0), zU]) f132_90 rfl rfl ?_
              refine k_iload f132_91 rfl ?_
              refine k_if_eq f132_92 (fun _ => ?_) (fun h_ => absurd (by decide) h_)
              refine k_aload f132_105 rfl ?_
              refine k_iload f132_106 rfl ?_
              refine e_v (as := [.int (nI (bk b n z.2.2))]) (rest := []) f132_107 hS.o51 rfl rfl rfl (s_make0 (d := d + 4) (a := bk b n z.2.2) (m := z.2.1) hS (hx2.at (r := bk b n z.2.2 + 1) (by omega)).2.2.1 (hr2.at (r := bk b n z.2.2 + 1)).2.2.1 z2 h6) ?_
              refine k_if_ne f132_110 (fun h_ => absurd (by decide) h_) (fun _ => ?_)
              refine k_iconst (v := 0) f132_113 rfl ?_
              exact k_iret f132_114 (by decide) ⟨_, rfl, (hf2.put (q := 51) (j := 13) (v := nI (bk b n z.2.2 + 1)) (by omega)).put (by omega), rfl, z_u_same _ _ _ _⟩
            · rw [if_neg h6, ee, es]
              cases hw : suQ b n (z.2.1 + 1) (bk b n z.2.2 + 1) with
              | inl e =>
                rw [bdS_l rfl]
                refine k_aload f132_0 rfl ?_
                refine k_callv (as := []) (rest := []) f132_1 hS.o51 rfl rfl rfl rfl (q_sumR (d := d) (p := p) hR hS ht hp hLp hT hd) ?_
                rintro v1 _ ⟨I1, rfl, hf1, hv1⟩
                rw [hv] at hv1
                obtain ⟨rfl, ⟨⟨q1, hx1, hq1⟩, hr1⟩, ha1⟩ := hv1
                have hT1 := hf1.tp hT
                refine k_if_ne f132_4 (fun _ => ?_) (fun h_ => absurd (by decide) h_)
                refine k_aload f132_9 rfl ?_
                refine k_callv (as := []) (rest := []) f132_10 hS.o51 rfl rfl rfl rfl (q_see hR hS hT1 hx1) ?_
                rintro _ _ ⟨rfl, I2, rfl, hx2, hl2⟩
                rw [hq1] at hx2
                rw [hq1]
                have hT2 := hl2.tp hT1
                have hr2 := hr1.lx hl2
                have hf2 : FDt t I I2 := hf1.trans hl2.fd
                rw [se]
                refine k_istore (L' := [.ref 51, .int (60), zU, zU, zU]) f132_13 rfl rfl ?_
                refine k_aload f132_14 rfl ?_
                refine k_gI (w := nI (bk b n z.2.2)) f132_15 hS.o51 rfl hx2.1 ?_
                refine k_istore (L' := [.ref 51, .int (60), .int (nI (bk b n z.2.2)), zU, zU]) f132_18 rfl rfl ?_
                refine k_iload f132_19 rfl ?_
                refine k_iconst (v := 60) f132_20 rfl ?_
                refine k_ic_eq f132_22 (fun _ => ?_) (fun h_ => absurd (by decide) h_)
                refine k_aload f132_44 rfl ?_
                refine k_dup f132_45 ?_
                refine k_gI (w := nI (bk b n z.2.2)) f132_46 hS.o51 rfl hx2.1 ?_
                refine k_iconst (v := 1) f132_49 rfl ?_
                refine k_iadd f132_50 ?_
                rw [nI_1 (bk b n z.2.2)]
                refine k_putI f132_51 hS.o51 rfl ?_
                refine k_iload f132_54 rfl ?_
                refine k_iconst (v := 61) f132_55 rfl ?_
                refine k_ic_eq f132_57 (fun h_ => absurd h_ (by decide)) (fun _ => ?_)
                refine k_aload f132_60 rfl ?_
                refine k_gI (w := nI (bk b n z.2.2 + 1)) f132_61 hS.o51 rfl (z_u_same _ _ _ _) ?_
                refine k_aload f132_64 rfl ?_
                refine k_gI (w := nI n) f132_65 hS.o51 rfl (Eq.trans (z_u_k _ _ _ (by decide)) hx2.2.2.2) ?_
                refine k_ic_ge f132_68 (fun _ => ?_) (fun h_ => absurd (nI_le (by omega) (by omega)) h_)
                refine k_iconst (v := 0) f132_89 rfl ?_
                refine k_istore (L' := [.ref 51, .int (60), .int (nI (bk b n z.2.2)), .int (0), zU]) f132_90 rfl rfl ?_
                refine k_iload f132_91 rfl ?_
                refine k_if_eq f132_92 (fun _ => ?_) (fun h_ => absurd (by decide) h_)
                refine k_aload f132_105 rfl ?_
                refine k_iload f132_106 rfl ?_
                refine e_v (as := [.int (nI (bk b n z.2.2))]) (rest := []) f132_107 hS.o51 rfl rfl rfl (s_make1 (d := d + 5) (m := z.2.1) hS (hr2.at (r := bk b n z.2.2 + 1)).2.2.1 (by omega)) ?_
                refine k_if_ne f132_110 (fun _ => ?_) (fun h_ => absurd (by decide) h_)
                refine k_iload f132_115 rfl ?_
                refine k_iconst (v := 60) f132_116 rfl ?_
                refine k_ic_ne f132_118 (fun h_ => absurd (by decide) h_) (fun _ => ?_)
                refine k_iload f132_121 rfl ?_
                refine k_if_eq f132_122 (fun _ => ?_) (fun h_ => absurd (by decide) h_)
                refine k_iconst (v := 0) f132_129 rfl ?_
                refine k_goto f132_130 ?_
                refine k_istore (L' := [.ref 51, .int (60), .int (nI (bk b n z.2.2)), .int (0), .int (0)]) f132_152 rfl rfl ?_
                refine k_aload f132_154 rfl ?_
                refine k_callv (as := []) (rest := []) f132_155 hS.o51 rfl rfl rfl rfl (q_sumR (d := d) (p := bk b n z.2.2 + 1) hR hS ht (by omega) (by omega) ((hT2.put (q := 51) (j := 13) (v := nI (bk b n z.2.2 + 1)) (by decide) (by decide)).put (by decide) (by decide)) ⟨⟨_, (hx2.at (r := bk b n z.2.2 + 1) (by omega)).put (by omega), rfl⟩, (hr2.at (r := bk b n z.2.2 + 1)).mk (by omega)⟩) ?_
                rintro v3 _ ⟨I3, rfl, hf3, hv3⟩
                have hv3 : PM _ I3 b n t _ v3 (suQ b n (z.2.1 + 1) (bk b n z.2.2 + 1)) := hv3
                rw [hw] at hv3
                obtain ⟨rfl, hn3⟩ := hv3
                have hfa : FDt t I I3 := ((hf2.put (q := 51) (j := 13) (v := nI (bk b n z.2.2 + 1)) (by omega)).put (by omega)).trans hf3
                refine k_if_ne f132_158 (fun h_ => absurd (by decide) h_) (fun _ => ?_)
                refine k_iconst (v := 0) f132_161 rfl ?_
                exact k_iret f132_162 (by decide) ⟨_, rfl, hfa, rfl, hn3⟩
              | inr w =>
                rw [bdS_r rfl]
                obtain ⟨w1, w2, w3, w4, w5, w6⟩ := (su_ok (b := b) (n := n) (z.2.1 + 1) (bk b n z.2.2 + 1) (by omega) (by omega)).1 w hw
                refine k_aload f132_0 rfl ?_
                refine k_callv (as := []) (rest := []) f132_1 hS.o51 rfl rfl rfl rfl (q_sumR (d := d) (p := p) hR hS ht hp hLp hT hd) ?_
                rintro v1 _ ⟨I1, rfl, hf1, hv1⟩
                rw [hv] at hv1
                obtain ⟨rfl, ⟨⟨q1, hx1, hq1⟩, hr1⟩, ha1⟩ := hv1
                have hT1 := hf1.tp hT
                refine k_if_ne f132_4 (fun _ => ?_) (fun h_ => absurd (by decide) h_)
                refine k_aload f132_9 rfl ?_
                refine k_callv (as := []) (rest := []) f132_10 hS.o51 rfl rfl rfl rfl (q_see hR hS hT1 hx1) ?_
                rintro _ _ ⟨rfl, I2, rfl, hx2, hl2⟩
                rw [hq1] at hx2
                rw [hq1]
                have hT2 := hl2.tp hT1
                have hr2 := hr1.lx hl2
                have hf2 : FDt t I I2 := hf1.trans hl2.fd
                rw [se]
                refine k_istore (L' := [.ref 51, .int (60), zU, zU, zU]) f132_13 rfl rfl ?_
                refine k_aload f132_14 rfl ?_
                refine k_gI (w := nI (bk b n z.2.2)) f132_15 hS.o51 rfl hx2.1 ?_
                refine k_istore (L' := [.ref 51, .int (60), .int (nI (bk b n z.2.2)), zU, zU]) f132_18 rfl rfl ?_
                refine k_iload f132_19 rfl ?_
                refine k_iconst (v := 60) f132_20 rfl ?_
                refine k_ic_eq f132_22 (fun _ => ?_) (fun h_ => absurd (by decide) h_)
                refine k_aload f132_44 rfl ?_
                refine k_dup f132_45 ?_
                refine k_gI (w := nI (bk b n z.2.2)) f132_46 hS.o51 rfl hx2.1 ?_
                refine k_iconst (v := 1) f132_49 rfl ?_
                refine k_iadd f132_50 ?_
                rw [nI_1 (bk b n z.2.2)]
                refine k_putI f132_51 hS.o51 rfl ?_
                refine k_iload f132_54 rfl ?_
                refine k_iconst (v := 61) f132_55 rfl ?_
                refine k_ic_eq f132_57 (fun h_ => absurd h_ (by decide)) (fun _ => ?_)
                refine k_aload f132_60 rfl ?_
                refine k_gI (w := nI (bk b n z.2.2 + 1)) f132_61 hS.o51 rfl (z_u_same _ _ _ _) ?_
                refine k_aload f132_64 rfl ?_
                refine k_gI (w := nI n) f132_65 hS.o51 rfl (Eq.trans (z_u_k _ _ _ (by decide)) hx2.2.2.2) ?_
                refine k_ic_ge f132_68 (fun _ => ?_) (fun h_ => absurd (nI_le (by omega) (by omega)) h_)
                refine k_iconst (v := 0) f132_89 rfl ?_
                refine k_istore (L' := [.ref 51, .int (60), .int (nI (bk b n z.2.2)), .int (0), zU]) f132_90 rfl rfl ?_
                refine k_iload f132_91 rfl ?_
                refine k_if_eq f132_92 (fun _ => ?_) (fun h_ => absurd (by decide) h_)
                refine k_aload f132_105 rfl ?_
                refine k_iload f132_106 rfl ?_
                refine e_v (as := [.int (nI (bk b n z.2.2))]) (rest := []) f132_107 hS.o51 rfl rfl rfl (s_make1 (d := d + 5) (m := z.2.1) hS (hr2.at (r := bk b n z.2.2 + 1)).2.2.1 (by omega)) ?_
                refine k_if_ne f132_110 (fun _ => ?_) (fun h_ => absurd (by decide) h_)
                refine k_iload f132_115 rfl ?_
                refine k_iconst (v := 60) f132_116 rfl ?_
                refine k_ic_ne f132_118 (fun h_ => absurd (by decide) h_) (fun _ => ?_)
                refine k_iload f132_121 rfl ?_
                refine k_if_eq f132_122 (fun _ => ?_) (fun h_ => absurd (by decide) h_)
                refine k_iconst (v := 0) f132_129 rfl ?_
                refine k_goto f132_130 ?_
                refine k_istore (L' := [.ref 51, .int (60), .int (nI (bk b n z.2.2)), .int (0), .int (0)]) f132_152 rfl rfl ?_
                refine k_aload f132_154 rfl ?_
                refine k_callv (as := []) (rest := []) f132_155 hS.o51 rfl rfl rfl rfl (q_sumR (d := d) (p := bk b n z.2.2 + 1) hR hS ht (by omega) (by omega) ((hT2.put (q := 51) (j := 13) (v := nI (bk b n z.2.2 + 1)) (by decide) (by decide)).put (by decide) (by decide)) ⟨⟨_, (hx2.at (r := bk b n z.2.2 + 1) (by omega)).put (by omega), rfl⟩, (hr2.at (r := bk b n z.2.2 + 1)).mk (by omega)⟩) ?_
                rintro v3 _ ⟨I3, rfl, hf3, hv3⟩
                have hv3 : PM _ I3 b n t _ v3 (suQ b n (z.2.1 + 1) (bk b n z.2.2 + 1)) := hv3
                rw [hw] at hv3
                obtain ⟨rfl, hd3, ha3⟩ := hv3
                have hfa : FDt t I I3 := ((hf2.put (q := 51) (j := 13) (v := nI (bk b n z.2.2 + 1)) (by omega)).put (by omega)).trans hf3
                refine k_if_ne f132_158 (fun _ => ?_) (fun h_ => absurd (by decide) h_)
                refine k_aload f132_163 rfl ?_
                refine k_iconst (v := 6) f132_164 rfl ?_
                refine k_iload f132_166 rfl ?_
                refine k_iadd f132_168 ?_
                refine k_iconst (v := 0) f132_169 rfl ?_
                refine k_callv (as := [.int (0), .int ((6) + (0))]) (rest := []) f132_170 hS.o51 rfl rfl rfl rfl (q_puts (it := (6, 0)) (by decide) rfl hR hS hd3.2 ht (by omega)) ?_
                rintro _ _ ⟨rfl, I4, rfl, hf4, hs4, hr4, ha4⟩
                obtain ⟨⟨q3, hx3, hq3⟩, hr3⟩ := hd3
                have ha3 := ha3.l (fun i => (z_u_p _ _ _ _ (by decide)).trans ((z_u_p _ _ _ _ (by decide)).trans (hl2 53 i (by omega))))
                refine k_iconst (v := 1) f132_173 rfl ?_
                exact k_iret f132_174 (by decide) ⟨_, rfl, hfa.trans hf4, rfl, ⟨⟨q3, hx3.same hs4, hq3⟩, by show RT I4 t w.2.1 (L + (z.1 ++ (w.1 ++ [(6, 0)])).length); rw [List.length_append, List.length_append, ← Nat.add_assoc, ← Nat.add_assoc]; exact hr4⟩, ha1.app (by have h := ha3.app ha4; exact h)⟩
      · by_cases hc1 : b (bk b n z.2.2) = 61
        · have hev := ed_v (b := b) qn (by omega) (by omega)
          have hc := hc1
          have ns : ¬ sgB b n (bk b n z.2.2) = true := fun z => by have := (of_decide_eq_true z).1; omega
          have es : csS b n (bk b n z.2.2) = 8 := by rw [hcs, if_neg (by omega), if_pos hc1]
          have ee : ed b n (bk b n z.2.2) = bk b n z.2.2 + 1 := by rw [hev, if_neg ns]
          have se : seV b n (bk b n z.2.2) = 61 := (if_pos qn).trans (by rw [hc]; rfl)
          have hz : ¬ csS b n (bk b n z.2.2) = 0 := by rw [es]; decide
          rw [if_neg hz]
          by_cases h6 : 60 ≤ z.2.1
          · rw [if_pos h6]
            refine k_aload f132_0 rfl ?_
            refine k_callv (as := []) (rest := []) f132_1 hS.o51 rfl rfl rfl rfl (q_sumR (d := d) (p := p) hR hS ht hp hLp hT hd) ?_
            rintro v1 _ ⟨I1, rfl, hf1, hv1⟩
            rw [hv] at hv1
            obtain ⟨rfl, ⟨⟨q1, hx1, hq1⟩, hr1⟩, ha1⟩ := hv1
            have hT1 := hf1.tp hT
            refine k_if_ne f132_4 (fun _ => ?_) (fun h_ => absurd (by decide) h_)
            refine k_aload f132_9 rfl ?_
            refine k_callv (as := []) (rest := []) f132_10 hS.o51 rfl rfl rfl rfl (q_see hR hS hT1 hx1) ?_
            rintro _ _ ⟨rfl, I2, rfl, hx2, hl2⟩
            rw [hq1] at hx2
            rw [hq1]
            have hT2 := hl2.tp hT1
            have hr2 := hr1.lx hl2
            have hf2 : FDt t I I2 := hf1.trans hl2.fd
            rw [se]
            refine k_istore (L' := [.ref 51, .int (61), zU, zU, zU]) f132_13 rfl rfl ?_
            refine k_aload f132_14 rfl ?_
            refine k_gI (w := nI (bk b n z.2.2)) f132_15 hS.o51 rfl hx2.1 ?_
            refine k_istore (L' := [.ref 51, .int (61), .int (nI (bk b n z.2.2)), zU, zU]) f132_18 rfl rfl ?_
            refine k_iload f132_19 rfl ?_
            refine k_iconst (v := 60) f132_20 rfl ?_
            refine k_ic_eq f132_22 (fun h_ => absurd h_ (by decide)) (fun _ => ?_)
            refine k_iload f132_25 rfl ?_
            refine k_iconst (v := 61) f132_26 rfl ?_
            refine k_ic_eq f132_28 (fun _ => ?_) (fun h_ => absurd (by decide) h_)
            refine k_aload f132_44 rfl ?_
            refine k_dup f132_45 ?_
            refine k_gI (w := nI (bk b n z.2.2)) f132_46 hS.o51 rfl hx2.1 ?_
            refine k_iconst (v := 1) f132_49 rfl ?_
            refine k_iadd f132_50 ?_
            rw [nI_1 (bk b n z.2.2)]
            refine k_putI f132_51 hS.o51 rfl ?_
            refine k_iload f132_54 rfl ?_
            refine k_iconst (v := 61) f132_55 rfl ?_
            refine k_ic_eq f132_57 (fun _ => ?_) (fun h_ => absurd (by decide) h_)
            refine k_iconst (v := 0) f132_89 rfl ?_
            refine k_istore (L' := [.ref 51, .int (61), .int (nI (bk b n z.2.2)), .int (0), zU]) f132_90 rfl rfl ?_
            refine k_iload f132_91 rfl ?_
            refine k_if_eq f132_92 (fun _ => ?_) (fun h_ => absurd (by decide) h_)
            refine k_aload f132_105 rfl ?_
            refine k_iload f132_106 rfl ?_
            refine e_v (as := [.int (nI (bk b n z.2.2))]) (rest := []) f132_107 hS.o51 rfl rfl rfl (s_make0 (d := d + 4) (a := bk b n z.2.2) (m := z.2.1) hS (hx2.at (r := bk b n z.2.2 + 1) (by omega)).2.2.1 (hr2.at (r := bk b n z.2.2 + 1)).2.2.1 z2 h6) ?_
            refine k_if_ne f132_110 (fun h_ => absurd (by decide) h_) (fun _ => ?_)
            refine k_iconst (v := 0) f132_113 rfl ?_
            exact k_iret f132_114 (by decide) ⟨_, rfl, (hf2.put (q := 51) (j := 13) (v := nI (bk b n z.2.2 + 1)) (by omega)).put (by omega), rfl, z_u_same _ _ _ _⟩
          · rw [if_neg h6, ee, es]
            cases hw : suQ b n (z.2.1 + 1) (bk b n z.2.2 + 1) with
            | inl e =>
              rw [bdS_l rfl]
              refine k_aload f132_0 rfl ?_
              refine k_callv (as := []) (rest := []) f132_1 hS.o51 rfl rfl rfl rfl (q_sumR (d := d) (p := p) hR hS ht hp hLp hT hd) ?_
              rintro v1 _ ⟨I1, rfl, hf1, hv1⟩
              rw [hv] at hv1
              obtain ⟨rfl, ⟨⟨q1, hx1, hq1⟩, hr1⟩, ha1⟩ := hv1
              have hT1 := hf1.tp hT
              refine k_if_ne f132_4 (fun _ => ?_) (fun h_ => absurd (by decide) h_)
              refine k_aload f132_9 rfl ?_
              refine k_callv (as := []) (rest := []) f132_10 hS.o51 rfl rfl rfl rfl (q_see hR hS hT1 hx1) ?_
              rintro _ _ ⟨rfl, I2, rfl, hx2, hl2⟩
              rw [hq1] at hx2
              rw [hq1]
              have hT2 := hl2.tp hT1
              have hr2 := hr1.lx hl2
              have hf2 : FDt t I I2 := hf1.trans hl2.fd
              rw [se]
              refine k_istore (L' := [.ref 51, .int (61), zU, zU, zU]) f132_13 rfl rfl ?_
              refine k_aload f132_14 rfl ?_
              refine k_gI (w := nI (bk b n z.2.2)) f132_15 hS.o51 rfl hx2.1 ?_
              refine k_istore (L' := [.ref 51, .int (61), .int (nI (bk b n z.2.2)), zU, zU]) f132_18 rfl rfl ?_
              refine k_iload f132_19 rfl ?_
              refine k_iconst (v := 60) f132_20 rfl ?_
              refine k_ic_eq f132_22 (fun h_ => absurd h_ (by decide)) (fun _ => ?_)
              refine k_iload f132_25 rfl ?_
              refine k_iconst (v := 61) f132_26 rfl ?_
              refine k_ic_eq f132_28 (fun _ => ?_) (fun h_ => absurd (by decide) h_)
              refine k_aload f132_44 rfl ?_
              refine k_dup f132_45 ?_
              refine k_gI (w := nI (bk b n z.2.2)) f132_46 hS.o51 rfl hx2.1 ?_
              refine k_iconst (v := 1) f132_49 rfl ?_
              refine k_iadd f132_50 ?_
              rw [nI_1 (bk b n z.2.2)]
              refine k_putI f132_51 hS.o51 rfl ?_
              refine k_iload f132_54 rfl ?_
              refine k_iconst (v := 61) f132_55 rfl ?_
              refine k_ic_eq f132_57 (fun _ => ?_) (fun h_ => absurd (by decide) h_)
              refine k_iconst (v := 0) f132_89 rfl ?_
              refine k_istore (L' := [.ref 51, .int (61), .int (nI (bk b n z.2.2)), .int (0), zU]) f132_90 rfl rfl ?_
              refine k_iload f132_91 rfl ?_
              refine k_if_eq f132_92 (fun _ => ?_) (fun h_ => absurd (by decide) h_)
              refine k_aload f132_105 rfl ?_
              refine k_iload f132_106 rfl ?_
              refine e_v (as := [.int (nI (bk b n z.2.2))]) (rest := []) f132_107 hS.o51 rfl rfl rfl (s_make1 (d := d + 5) (m := z.2.1) hS (hr2.at (r := bk b n z.2.2 + 1)).2.2.1 (by omega)) ?_
              refine k_if_ne f132_110 (fun _ => ?_) (fun h_ => absurd (by decide) h_)
              refine k_iload f132_115 rfl ?_
              refine k_iconst (v := 60) f132_116 rfl ?_
              refine k_ic_ne f132_118 (fun _ => ?_) (fun h_ => absurd (by decide) h_)
              refine k_iload f132_133 rfl ?_
              refine k_iconst (v := 61) f132_134 rfl ?_
              refine k_ic_ne f132_136 (fun h_ => absurd (by decide) h_) (fun _ => ?_)
              refine k_iconst (v := 2) f132_139 rfl ?_
              refine k_goto f132_140 ?_
              refine k_istore (L' := [.ref 51, .int (61), .int (nI (bk b n z.2.2)), .int (0), .int (2)]) f132_152 rfl rfl ?_
              refine k_aload f132_154 rfl ?_
              refine k_callv (as := []) (rest := []) f132_155 hS.o51 rfl rfl rfl rfl (q_sumR (d := d) (p := bk b n z.2.2 + 1) hR hS ht (by omega) (by omega) ((hT2.put (q := 51) (j := 13) (v := nI (bk b n z.2.2 + 1)) (by decide) (by decide)).put (by decide) (by decide)) ⟨⟨_, (hx2.at (r := bk b n z.2.2 + 1) (by omega)).put (by omega), rfl⟩, (hr2.at (r := bk b n z.2.2 + 1)).mk (by omega)⟩) ?_
              rintro v3 _ ⟨I3, rfl, hf3, hv3⟩
              have hv3 : PM _ I3 b n t _ v3 (suQ b n (z.2.1 + 1) (bk b n z.2.2 + 1)) := hv3
              rw [hw] at hv3
              obtain ⟨rfl, hn3⟩ := hv3
              have hfa : FDt t I I3 := ((hf2.put (q := 51) (j := 13) (v := nI (bk b n z.2.2 + 1)) (by omega)).put (by omega)).trans hf3
              refine k_if_ne f132_158 (fun h_ => absurd (by decide) h_) (fun _ => ?_)
              refine k_iconst (v := 0) f132_161 rfl ?_
              exact k_iret f132_162 (by decide) ⟨_, rfl, hfa, rfl, hn3⟩
            | inr w =>
              rw [bdS_r rfl]
              obtain ⟨w1, w2, w3, w4, w5, w6⟩ := (su_ok (b := b) (n := n) (z.2.1 + 1) (bk b n z.2.2 + 1) (by omega) (by omega)).1 w hw
              refine k_aload f132_0 rfl ?_
              refine k_callv (as := []) (rest := []) f132_1 hS.o51 rfl rfl rfl rfl (q_sumR (d := d) (p := p) hR hS ht hp hLp hT hd) ?_
              rintro v1 _ ⟨I1, rfl, hf1, hv1⟩
              rw [hv] at hv1
              obtain ⟨rfl, ⟨⟨q1, hx1, hq1⟩, hr1⟩, ha1⟩ := hv1
              have hT1 := hf1.tp hT
              refine k_if_ne f132_4 (fun _ => ?_) (fun h_ => absurd (by decide) h_)
              refine k_aload f132_9 rfl ?_
              refine k_callv (as := []) (rest := []) f132_10 hS.o51 rfl rfl rfl rfl (q_see hR hS hT1 hx1) ?_
              rintro _ _ ⟨rfl, I2, rfl, hx2, hl2⟩
              rw [hq1] at hx2
              rw [hq1]
              have hT2 := hl2.tp hT1
              have hr2 := hr1.lx hl2
              have hf2 : FDt t I I2 := hf1.trans hl2.fd
              rw [se]
              refine k_istore (L' := [.ref 51, .int (61), zU, zU, zU]) f132_13 rfl rfl ?_
              refine k_aload f132_14 rfl ?_
              refine k_gI (w := nI (bk b n z.2.2)) f132_15 hS.o51 rfl hx2.1 ?_
              refine k_istore (L' := [.ref 51, .int (61), .int (nI (bk b n z.2.2)), zU, zU]) f132_18 rfl rfl ?_
              refine k_iload f132_19 rfl ?_
              refine k_iconst (v := 60) f132_20 rfl ?_
              refine k_ic_eq f132_22 (fun h_ => absurd h_ (by decide)) (fun _ => ?_)
              refine k_iload f132_25 rfl ?_
              refine k_iconst (v := 61) f132_26 rfl ?_
              refine k_ic_eq f132_28 (fun _ => ?_) (fun h_ => absurd (by decide) h_)
              refine k_aload f132_44 rfl ?_
              refine k_dup f132_45 ?_
              refine k_gI (w := nI (bk b n z.2.2)) f132_46 hS.o51 rfl hx2.1 ?_
              refine k_iconst (v := 1) f132_49 rfl ?_
              refine k_iadd f132_50 ?_
              rw [nI_1 (bk b n z.2.2)]
              refine k_putI f132_51 hS.o51 rfl ?_
              refine k_iload f132_54 rfl ?_
              refine k_iconst (v := 61) f132_55 rfl ?_
              refine k_ic_eq f132_57 (fun _ => ?_) (fun h_ => absurd (by decide) h_)
              refine k_iconst (v := 0) f132_89 rfl ?_
              refine k_istore (L' := [.ref 51, .int (61), .int (nI (bk b n z.2.2)), .int (0), zU]) f132_90 rfl rfl ?_
              refine k_iload f132_91 rfl ?_
              refine k_if_eq f132_92 (fun _ => ?_) (fun h_ => absurd (by decide) h_)
              refine k_aload f132_105 rfl ?_
              refine k_iload f132_106 rfl ?_
              refine e_v (as := [.int (nI (bk b n z.2.2))]) (rest := []) f132_107 hS.o51 rfl rfl rfl (s_make1 (d := d + 5) (m := z.2.1) hS (hr2.at (r := bk b n z.2.2 + 1)).2.2.1 (by omega)) ?_
              refine k_if_ne f132_110 (fun _ => ?_) (fun h_ => absurd (by decide) h_)
              refine k_iload f132_115 rfl ?_
              refine k_iconst (v := 60) f132_116 rfl ?_
              refine k_ic_ne f132_118 (fun _ => ?_) (fun h_ => absurd (by decide) h_)
              refine k_iload f132_133 rfl ?_
              refine k_iconst (v := 61) f132_134 rfl ?_
              refine k_ic_ne f132_136 (fun h_ => absurd (by decide) h_) (fun _ => ?_)
              refine k_iconst (v := 2) f132_139 rfl ?_
              refine k_goto f132_140 ?_
              refine k_istore (L' := [.ref 51, .int (61), .int (nI (bk b n z.2.2)), .int (0), .int (2)]) f132_152 rfl rfl ?_
              refine k_aload f132_154 rfl ?_
              refine k_callv (as := []) (rest := []) f132_155 hS.o51 rfl rfl rfl rfl (q_sumR (d := d) (p := bk b n z.2.2 + 1) hR hS ht (by omega) (by omega) ((hT2.put (q := 51) (j := 13) (v := nI (bk b n z.2.2 + 1)) (by decide) (by decide)).put (by decide) (by decide)) ⟨⟨_, (hx2.at (r := bk b n z.2.2 + 1) (by omega)).put (by omega), rfl⟩, (hr2.at (r := bk b n z.2.2 + 1)).mk (by omega)⟩) ?_
              rintro v3 _ ⟨I3, rfl, hf3, hv3⟩
              have hv3 : PM _ I3 b n t _ v3 (suQ b n (z.2.1 + 1) (bk b n z.2.2 + 1)) := hv3
              rw [hw] at hv3
              obtain ⟨rfl, hd3, ha3⟩ := hv3
              have hfa : FDt t I I3 := ((hf2.put (q := 51) (j := 13) (v := nI (bk b n z.2.2 + 1)) (by omega)).put (by omega)).trans hf3
              refine k_if_ne f132_158 (fun _ => ?_) (fun h_ => absurd (by decide) h_)
              refine k_aload f132_163 rfl ?_
              refine k_iconst (v := 6) f132_164 rfl ?_
              refine k_iload f132_166 rfl ?_
              refine k_iadd f132_168 ?_
              refine k_iconst (v := 0) f132_169 rfl ?_
              refine k_callv (as := [.int (0), .int ((6) + (2))]) (rest := []) f132_170 hS.o51 rfl rfl rfl rfl (q_puts (it := (8, 0)) (by decide) rfl hR hS hd3.2 ht (by omega)) ?_
              rintro _ _ ⟨rfl, I4, rfl, hf4, hs4, hr4, ha4⟩
              obtain ⟨⟨q3, hx3, hq3⟩, hr3⟩ := hd3
              have ha3 := ha3.l (fun i => (z_u_p _ _ _ _ (by decide)).trans ((z_u_p _ _ _ _ (by decide)).trans (hl2 53 i (by omega))))
              refine k_iconst (v := 1) f132_173 rfl ?_
              exact k_iret f132_174 (by decide) ⟨_, rfl, hfa.trans hf4, rfl, ⟨⟨q3, hx3.same hs4, hq3⟩, by show RT I4 t w.2.1 (L + (z.1 ++ (w.1 ++ [(8, 0)])).length); rw [List.length_append, List.length_append, ← Nat.add_assoc, ← Nat.add_assoc]; exact hr4⟩, ha1.app (by have h := ha3.app ha4; exact h)⟩
        · by_cases hc2 : b (bk b n z.2.2) = 62
          · have hc0 := hc
            have hc := hc2
            have hev := ed_v (b := b) qn (by omega) (by omega)
            by_cases sg : sgB b n (bk b n z.2.2) = true
            · have s2 := (of_decide_eq_true sg).2
              have es : csS b n (bk b n z.2.2) = 9 := by rw [hcs, if_neg hc0, if_neg hc1, if_pos hc2, if_pos sg]
              have ee : ed b n (bk b n z.2.2) = bk b n z.2.2 + 2 := by rw [hev, if_pos sg]
              have se : seV b n (bk b n z.2.2) = 62 := (if_pos qn).trans (by rw [hc]; rfl)
              have hz : ¬ csS b n (bk b n z.2.2) = 0 := by rw [es]; decide
              rw [if_neg hz]
              by_cases h6 : 60 ≤ z.2.1
              · rw [if_pos h6]
                refine k_aload f132_0 rfl ?_
                refine k_callv (as := []) (rest := []) f132_1 hS.o51 rfl rfl rfl rfl (q_sumR (d := d) (p := p) hR hS ht hp hLp hT hd) ?_
                rintro v1 _ ⟨I1, rfl, hf1, hv1⟩
                rw [hv] at hv1
                obtain ⟨rfl, ⟨⟨q1, hx1, hq1⟩, hr1⟩, ha1⟩ := hv1
                have hT1 := hf1.tp hT
                refine k_if_ne f132_4 (fun _ => ?_) (fun h_ => absurd (by decide) h_)
                refine k_aload f132_9 rfl ?_
                refine k_callv (as := []) (rest := []) f132_10 hS.o51 rfl rfl rfl rfl (q_see hR hS hT1 hx1) ?_
                rintro _ _ ⟨rfl, I2, rfl, hx2, hl2⟩
                rw [hq1] at hx2
                rw [hq1]
                have hT2 := hl2.tp hT1
                have hr2 := hr1.lx hl2
                have hf2 : FDt t I I2 := hf1.trans hl2.fd
                rw [se]
                refine k_istore (L' := [.ref 51, .int (62), zU, zU, zU]) f132_13 rfl rfl ?_
                refine k_aload f132_14 rfl ?_
                refine k_gI (w := nI (bk b n z.2.2)) f132_15 hS.o51 rfl hx2.1 ?_
                refine k_istore (L' := [.ref 51, .int (62), .int (nI (bk b n z.2.2)), zU, zU]) f132_18 rfl rfl ?_
                refine k_iload f132_19 rfl ?_
                refine k_iconst (v := 60) f132_20 rfl ?_
                refine k_ic_eq f132_22 (fun h_ => absurd h_ (by decide)) (fun _ => ?_)
                refine k_iload f132_25 rfl ?_
                refine k_iconst (v := 61) f132_26 rfl ?_
                refine k_ic_eq f132_28 (fun h_ => absurd h_ (by decide)) (fun _ => ?_)
                refine k_iload f132_31 rfl ?_
                refine k_iconst (v := 62) f132_32 rfl ?_
                refine k_ic_eq f132_34 (fun _ => ?_) (fun h_ => absurd (by decide) h_)
                refine k_aload f132_44 rfl ?_
                refine k_dup f132_45 ?_
                refine k_gI (w := nI (bk b n z.2.2)) f132_46 hS.o51 rfl hx2.1 ?_
                refine k_iconst (v := 1) f132_49 rfl ?_
                refine k_iadd f132_50 ?_
                rw [nI_1 (bk b n z.2.2)]
                refine k_putI f132_51 hS.o51 rfl ?_
                refine k_iload f132_54 rfl ?_
                refine k_iconst (v := 61) f132_55 rfl ?_
                refine k_ic_eq f132_57 (fun h_ => absurd h_ (by decide)) (fun _ => ?_)
                refine k_aload f132_60 rfl ?_
                refine k_gI (w := nI (bk b n z.2.2 + 1)) f132_61 hS.o51 rfl (z_u_same _ _ _ _) ?_
                refine k_aload f132_64 rfl ?_
                refine k_gI (w := nI n) f132_65 hS.o51 rfl (Eq.trans (z_u_k _ _ _ (by decide)) hx2.2.2.2) ?_
                refine k_ic_ge f132_68 (fun h_ => absurd h_ (nI_ge (by have := (of_decide_eq_true sg).2.1; omega) (by omega))) (fun _ => ?_)
                refine k_aload f132_71 rfl ?_
                refine k_getr (q := 52) f132_72 hS.o51 rfl hR.r51_0 ?_
                refine k_aload f132_75 rfl ?_
                refine k_gI (w := nI (bk b n z.2.2 + 1)) f132_76 hS.o51 rfl (z_u_same _ _ _ _) ?_
                refine k_ba (k := (bk b n z.2.2 + 1)) (w := (nI (b (bk b n z.2.2 + 1))).toInt8.toInt32) f132_79 hS.a52 rfl (by omega) (by decide) (Eq.trans (z_u_p _ _ _ _ (by decide)) (hT2.2 _ (by omega)).2.2) ?_
                refine k_iconst (v := 61) f132_80 rfl ?_
                refine k_ic_ne f132_82 (fun h_ => absurd ((t8_61 _ (b8 _ (of_decide_eq_true sg).2.1)).mpr (of_decide_eq_true sg).2.2) h_) (fun _ => ?_)
                refine k_iconst (v := 1) f132_85 rfl ?_
                refine k_goto f132_86 ?_
                refine k_istore (L' := [.ref 51, .int (62), .int (nI (bk b n z.2.2)), .int (1), zU]) f132_90 rfl rfl ?_
                refine k_iload f132_91 rfl ?_
                refine k_if_eq f132_92 (fun h_ => absurd h_ (by decide)) (fun _ => ?_)
                refine k_aload f132_95 rfl ?_
                refine k_dup f132_96 ?_
                refine k_gI (w := nI (bk b n z.2.2 + 1)) f132_97 hS.o51 rfl (z_u_same _ _ _ _) ?_
                refine k_iconst (v := 1) f132_100 rfl ?_
                refine k_iadd f132_101 ?_
                rw [nI_1 (bk b n z.2.2 + 1)]
                refine k_putI f132_102 hS.o51 rfl ?_
                refine k_aload f132_105 rfl ?_
                refine k_iload f132_106 rfl ?_
                refine e_v (as := [.int (nI (bk b n z.2.2))]) (rest := []) f132_107 hS.o51 rfl rfl rfl (s_make0 (d := d + 4) (a := bk b n z.2.2) (m := z.2.1) hS ((hx2.at (r := bk b n z.2.2 + 1) (by omega)).at (r := bk b n z.2.2 + 1 + 1) (by omega)).2.2.1 ((hr2.at (r := bk b n z.2.2 + 1)).at (r := bk b n z.2.2 + 1 + 1)).2.2.1 z2 h6) ?_
                refine k_if_ne f132_110 (fun h_ => absurd (by decide) h_) (fun _ => ?_)
                refine k_iconst (v := 0) f132_113 rfl ?_
                exact k_iret f132_114 (by decide) ⟨_, rfl, ((hf2.put (q := 51) (j := 13) (v := nI (bk b n z.2.2 + 1)) (by omega)).put (q := 51) (j := 13) (v := nI (bk b n z.2.2 + 1 + 1)) (by omega)).put (by omega), rfl, z_u_same _ _ _ _⟩
              · rw [if_neg h6, ee, es]
                cases hw : suQ b n (z.2.1 + 1) (bk b n z.2.2 + 2) with
                | inl e =>
                  rw [bdS_l rfl]
                  refine k_aload f132_0 rfl ?_
                  refine k_callv (as := []) (rest := []) f132_1 hS.o51 rfl rfl rfl rfl (q_sumR (d := d) (p := p) hR hS ht hp hLp hT hd) ?_
                  rintro v1 _ ⟨I1, rfl, hf1, hv1⟩
                  rw [hv] at hv1
                  obtain ⟨rfl, ⟨⟨q1, hx1, hq1⟩, hr1⟩, ha1⟩ := hv1
                  have hT1 := hf1.tp hT
                  refine k_if_ne f132_4 (fun _ => ?_) (fun h_ => absurd (by decide) h_)
                  refine k_aload f132_9 rfl ?_
                  refine k_callv (as := []) (rest := []) f132_10 hS.o51 rfl rfl rfl rfl (q_see hR hS hT1 hx1) ?_
                  rintro _ _ ⟨rfl, I2, rfl, hx2, hl2⟩
                  rw [hq1] at hx2
                  rw [hq1]
                  have hT2 := hl2.tp hT1
                  have hr2 := hr1.lx hl2
                  have hf2 : FDt t I I2 := hf1.trans hl2.fd
                  rw [se]
                  refine k_istore (L' := [.ref 51, .int (62), zU, zU, zU]) f132_13 rfl rfl ?_
                  refine k_aload f132_14 rfl ?_
                  refine k_gI (w := nI (bk b n z.2.2)) f132_15 hS.o51 rfl hx2.1 ?_
                  refine k_istore (L' := [.ref 51, .int (62), .int (nI (bk b n z.2.2)), zU, zU]) f132_18 rfl rfl ?_
                  refine k_iload f132_19 rfl ?_
                  refine k_iconst (v := 60) f132_20 rfl ?_
                  refine k_ic_eq f132_22 (fun h_ => absurd h_ (by decide)) (fun _ => ?_)
                  refine k_iload f132_25 rfl ?_
                  refine k_iconst (v := 61) f132_26 rfl ?_
                  refine k_ic_eq f132_28 (fun h_ => absurd h_ (by decide)) (fun _ => ?_)
                  refine k_iload f132_31 rfl ?_
                  refine k_iconst (v := 62) f132_32 rfl ?_
                  refine k_ic_eq f132_34 (fun _ => ?_) (fun h_ => absurd (by decide) h_)
                  refine k_aload f132_44 rfl ?_
                  refine k_dup f132_45 ?_
                  refine k_gI (w := nI (bk b n z.2.2)) f132_46 hS.o51 rfl hx2.1 ?_
                  refine k_iconst (v := 1) f132_49 rfl ?_
                  refine k_iadd f132_50 ?_
                  rw [nI_1 (bk b n z.2.2)]
                  refine k_putI f132_51 hS.o51 rfl ?_
                  refine k_iload f132_54 rfl ?_
                  refine k_iconst (v := 61) f132_55 rfl ?_
                  refine k_ic_eq f132_57 (fun h_ => absurd h_ (by decide)) (fun _ => ?_)
                  refine k_aload f132_60 rfl ?_
                  refine k_gI (w := nI (bk b n z.2.2 + 1)) f132_61 hS.o51 rfl (z_u_same _ _ _ _) ?_
                  refine k_aload f132_64 rfl ?_
                  refine k_gI (w := nI n) f132_65 hS.o51 rfl (Eq.trans (z_u_k _ _ _ (by decide)) hx2.2.2.2) ?_
                  refine k_ic_ge f132_68 (fun h_ => absurd h_ (nI_ge (by have := (of_decide_eq_true sg).2.1; omega) (by omega))) (fun _ => ?_)
                  refine k_aload f132_71 rfl ?_
                  refine k_getr (q := 52) f132_72 hS.o51 rfl hR.r51_0 ?_
                  refine k_aload f132_75 rfl ?_
                  refine k_gI (w := nI (bk b n z.2.2 + 1)) f132_76 hS.o51 rfl (z_u_same _ _ _ _) ?_
                  refine k_ba (k := (bk b n z.2.2 + 1)) (w := (nI (b (bk b n z.2.2 + 1))).toInt8.toInt32) f132_79 hS.a52 rfl (by omega) (by decide) (Eq.trans (z_u_p _ _ _ _ (by decide)) (hT2.2 _ (by omega)).2.2) ?_
                  refine k_iconst (v := 61) f132_80 rfl ?_
                  refine k_ic_ne f132_82 (fun h_ => absurd ((t8_61 _ (b8 _ (of_decide_eq_true sg).2.1)).mpr (of_decide_eq_true sg).2.2) h_) (fun _ => ?_)
                  refine k_iconst (v := 1) f132_85 rfl ?_
                  refine k_goto f132_86 ?_
                  refine k_istore (L' := [.ref 51, .int (62), .int (nI (bk b n z.2.2)), .int (1), zU]) f132_90 rfl rfl ?_
                  refine k_iload f132_91 rfl ?_
                  refine k_if_eq f132_92 (fun h_ => absurd h_ (by decide)) (fun _ => ?_)
                  refine k_aload f132_95 rfl ?_
                  refine k_dup f132_96 ?_
                  refine k_gI (w := nI (bk b n z.2.2 + 1)) f132_97 hS.o51 rfl (z_u_same _ _ _ _) ?_
                  refine k_iconst (v := 1) f132_100 rfl ?_
                  refine k_iadd f132_101 ?_
                  rw [nI_1 (bk b n z.2.2 + 1)]
                  refine k_putI f132_102 hS.o51 rfl ?_
                  refine k_aload f132_105 rfl ?_
                  refine k_iload f132_106 rfl ?_
                  refine e_v (as := [.int (nI (bk b n z.2.2))]) (rest := []) f132_107 hS.o51 rfl rfl rfl (s_make1 (d := d + 5) (m := z.2.1) hS ((hr2.at (r := bk b n z.2.2 + 1)).at (r := bk b n z.2.2 + 1 + 1)).2.2.1 (by omega)) ?_
                  refine k_if_ne f132_110 (fun _ => ?_) (fun h_ => absurd (by decide) h_)
                  refine k_iload f132_115 rfl ?_
                  refine k_iconst (v := 60) f132_116 rfl ?_
                  refine k_ic_ne f132_118 (fun _ => ?_) (fun h_ => absurd (by decide) h_)
                  refine k_iload f132_133 rfl ?_
                  refine k_iconst (v := 61) f132_134 rfl ?_
                  refine k_ic_ne f132_136 (fun _ => ?_) (fun h_ => absurd (by decide) h_)
                  refine k_iload f132_143 rfl ?_
                  refine k_if_eq f132_144 (fun h_ => absurd h_ (by decide)) (fun _ => ?_)
                  refine k_iconst (v := 3) f132_147 rfl ?_
                  refine k_goto f132_148 ?_
                  refine k_istore (L' := [.ref 51, .int (62), .int (nI (bk b n z.2.2)), .int (1), .int (3)]) f132_152 rfl rfl ?_
                  refine k_aload f132_154 rfl ?_
                  refine k_callv (as := []) (rest := []) f132_155 hS.o51 rfl rfl rfl rfl (q_sumR (d := d) (p := bk b n z.2.2 + 1 + 1) hR hS ht (by omega) (by omega) (((hT2.put (q := 51) (j := 13) (v := nI (bk b n z.2.2 + 1)) (by decide) (by decide)).put (q := 51) (j := 13) (v := nI (bk b n z.2.2 + 1 + 1)) (by decide) (by decide)).put (by decide) (by decide)) ⟨⟨_, ((hx2.at (r := bk b n z.2.2 + 1) (by omega)).at (r := bk b n z.2.2 + 1 + 1) (by omega)).put (by omega), rfl⟩, ((hr2.at (r := bk b n z.2.2 + 1)).at (r := bk b n z.2.2 + 1 + 1)).mk (by omega)⟩) ?_
                  rintro v3 _ ⟨I3, rfl, hf3, hv3⟩
                  have hv3 : PM _ I3 b n t _ v3 (suQ b n (z.2.1 + 1) (bk b n z.2.2 + 2)) := hv3
                  rw [hw] at hv3
                  obtain ⟨rfl, hn3⟩ := hv3
                  have hfa : FDt t I I3 := (((hf2.put (q := 51) (j := 13) (v := nI (bk b n z.2.2 + 1)) (by omega)).put (q := 51) (j := 13) (v := nI (bk b n z.2.2 + 1 + 1)) (by omega)).put (by omega)).trans hf3
                  refine k_if_ne f132_158 (fun h_ => absurd (by decide) h_) (fun _ => ?_)
                  refine k_iconst (v := 0) f132_161 rfl ?_
                  exact k_iret f132_162 (by decide) ⟨_, rfl, hfa, rfl, hn3⟩
                | inr w =>
                  rw [bdS_r rfl]
                  obtain ⟨w1, w2, w3, w4, w5, w6⟩ := (su_ok (b := b) (n := n) (z.2.1 + 1) (bk b n z.2.2 + 2) (by omega) (by omega)).1 w hw
                  refine k_aload f132_0 rfl ?_
                  refine k_callv (as := []) (rest := []) f132_1 hS.o51 rfl rfl rfl rfl (q_sumR (d := d) (p := p) hR hS ht hp hLp hT hd) ?_
                  rintro v1 _ ⟨I1, rfl, hf1, hv1⟩
                  rw [hv] at hv1
                  obtain ⟨rfl, ⟨⟨q1, hx1, hq1⟩, hr1⟩, ha1⟩ := hv1
                  have hT1 := hf1.tp hT
                  refine k_if_ne f132_4 (fun _ => ?_) (fun h_ => absurd (by decide) h_)
                  refine k_aload f132_9 rfl ?_
                  refine k_callv (as := []) (rest := []) f132_10 hS.o51 rfl rfl rfl rfl (q_see hR hS hT1 hx1) ?_
                  rintro _ _ ⟨rfl, I2, rfl, hx2, hl2⟩
                  rw [hq1] at hx2
                  rw [hq1]
                  have hT2 := hl2.tp hT1
                  have hr2 := hr1.lx hl2
                  have hf2 : FDt t I I2 := hf1.trans hl2.fd
                  rw [se]
                  refine k_istore (L' := [.ref 51, .int (62), zU, zU, zU]) f132_13 rfl rfl ?_
                  refine k_aload f132_14 rfl ?_
                  refine k_gI (w := nI (bk b n z.2.2)) f132_15 hS.o51 rfl hx2.1 ?_
                  refine k_istore (L' := [.ref 51, .int (62), .int (nI (bk b n z.2.2)), zU, zU]) f132_18 rfl rfl ?_
                  refine k_iload f132_19 rfl ?_
                  refine k_iconst (v := 60) f132_20 rfl ?_
                  refine k_ic_eq f132_22 (fun h_ => absurd h_ (by decide)) (fun _ => ?_)
                  refine k_iload f132_25 rfl ?_
                  refine k_iconst (v := 61) f132_26 rfl ?_
                  refine k_ic_eq f132_28 (fun h_ => absurd h_ (by decide)) (fun _ => ?_)
                  refine k_iload f132_31 rfl ?_
                  refine k_iconst (v := 62) f132_32 rfl ?_
                  refine k_ic_eq f132_34 (fun _ => ?_) (fun h_ => absurd (by decide) h_)
                  refine k_aload f132_44 rfl ?_
                  refine k_dup f132_45 ?_
                  refine k_gI (w := nI (bk b n z.2.2)) f132_46 hS.o51 rfl hx2.1 ?_
                  refine k_iconst (v := 1) f132_49 rfl ?_
                  refine k_iadd f132_50 ?_
                  rw [nI_1 (bk b n z.2.2)]
                  refine k_putI f132_51 hS.o51 rfl ?_
                  refine k_iload f132_54 rfl ?_
                  refine k_iconst (v := 61) f132_55 rfl ?_
                  refine k_ic_eq f132_57 (fun h_ => absurd h_ (by decide)) (fun _ => ?_)
                  refine k_aload f132_60 rfl ?_
                  refine k_gI (w := nI (bk b n z.2.2 + 1)) f132_61 hS.o51 rfl (z_u_same _ _ _ _) ?_
                  refine k_aload f132_64 rfl ?_
                  refine k_gI (w := nI n) f132_65 hS.o51 rfl (Eq.trans (z_u_k _ _ _ (by decide)) hx2.2.2.2) ?_
                  refine k_ic_ge f132_68 (fun h_ => absurd h_ (nI_ge (by have := (of_decide_eq_true sg).2.1; omega) (by omega))) (fun _ => ?_)
                  refine k_aload f132_71 rfl ?_
                  refine k_getr (q := 52) f132_72 hS.o51 rfl hR.r51_0 ?_
                  refine k_aload f132_75 rfl ?_
                  refine k_gI (w := nI (bk b n z.2.2 + 1)) f132_76 hS.o51 rfl (z_u_same _ _ _ _) ?_
                  refine k_ba (k := (bk b n z.2.2 + 1)) (w := (nI (b (bk b n z.2.2 + 1))).toInt8.toInt32) f132_79 hS.a52 rfl (by omega) (by decide) (Eq.trans (z_u_p _ _ _ _ (by decide)) (hT2.2 _ (by omega)).2.2) ?_
                  refine k_iconst (v := 61) f132_80 rfl ?_
                  refine k_ic_ne f132_82 (fun h_ => absurd ((t8_61 _ (b8 _ (of_decide_eq_true sg).2.1)).mpr (of_decide_eq_true sg).2.2) h_) (fun _ => ?_)
                  refine k_iconst (v := 1) f132_85 rfl ?_
                  refine k_goto f132_86 ?_
                  refine k_istore (L' := [.ref 51, .int (62), .int (nI (bk b n z.2.2)), .int (1), zU]) f132_90 rfl rfl ?_
                  refine k_iload f132_91 rfl ?_
                  refine k_if_eq f132_92 (fun h_ => absurd h_ (by decide)) (fun _ => ?_)
                  refine k_aload f132_95 rfl ?_
                  refine k_dup f132_96 ?_
                  refine k_gI (w := nI (bk b n z.2.2 + 1)) f132_97 hS.o51 rfl (z_u_same _ _ _ _) ?_
                  refine k_iconst (v := 1) f132_100 rfl ?_
                  refine k_iadd f132_101 ?_
                  rw [nI_1 (bk b n z.2.2 + 1)]
                  refine k_putI f132_102 hS.o51 rfl ?_
                  refine k_aload f132_105 rfl ?_
                  refine k_iload f132_106 rfl ?_
                  refine e_v (as := [.int (nI (bk b n z.2.2))]) (rest := []) f132_107 hS.o51 rfl rfl rfl (s_make1 (d := d + 5) (m := z.2.1) hS ((hr2.at (r := bk b n z.2.2 + 1)).at (r := bk b n z.2.2 + 1 + 1)).2.2.1 (by omega)) ?_
                  refine k_if_ne f132_110 (fun _ => ?_) (fun h_ => absurd (by decide) h_)
                  refine k_iload f132_115 rfl ?_
                  refine k_iconst (v := 60) f132_116 rfl ?_
                  refine k_ic_ne f132_118 (fun _ => ?_) (fun h_ => absurd (by decide) h_)
                  refine k_iload f132_133 rfl ?_
                  refine k_iconst (v := 61) f132_134 rfl ?_
                  refine k_ic_ne f132_136 (fun _ => ?_) (fun h_ => absurd (by decide) h_)
                  refine k_iload f132_143 rfl ?_
                  refine k_if_eq f132_144 (fun h_ => absurd h_ (by decide)) (fun _ => ?_)
                  refine k_iconst (v := 3) f132_147 rfl ?_
                  refine k_goto f132_148 ?_
                  refine k_istore (L' := [.ref 51, .int (62), .int (nI (bk b n z.2.2)), .int (1), .int (3)]) f132_152 rfl rfl ?_
                  refine k_aload f132_154 rfl ?_
                  refine k_callv (as := []) (rest := []) f132_155 hS.o51 rfl rfl rfl rfl (q_sumR (d := d) (p := bk b n z.2.2 + 1 + 1) hR hS ht (by omega) (by omega) (((hT2.put (q := 51) (j := 13) (v := nI (bk b n z.2.2 + 1)) (by decide) (by decide)).put (q := 51) (j := 13) (v := nI (bk b n z.2.2 + 1 + 1)) (by decide) (by decide)).put (by decide) (by decide)) ⟨⟨_, ((hx2.at (r := bk b n z.2.2 + 1) (by omega)).at (r := bk b n z.2.2 + 1 + 1) (by omega)).put (by omega), rfl⟩, ((hr2.at (r := bk b n z.2.2 + 1)).at (r := bk b n z.2.2 + 1 + 1)).mk (by omega)⟩) ?_
                  rintro v3 _ ⟨I3, rfl, hf3, hv3⟩
                  have hv3 : PM _ I3 b n t _ v3 (suQ b n (z.2.1 + 1) (bk b n z.2.2 + 2)) := hv3
                  rw [hw] at hv3
                  obtain ⟨rfl, hd3, ha3⟩ := hv3
                  have hfa : FDt t I I3 := (((hf2.put (q := 51) (j := 13) (v := nI (bk b n z.2.2 + 1)) (by omega)).put (q := 51) (j := 13) (v := nI (bk b n z.2.2 + 1 + 1)) (by omega)).put (by omega)).trans hf3
                  refine k_if_ne f132_158 (fun _ => ?_) (fun h_ => absurd (by decide) h_)
                  refine k_aload f132_163 rfl ?_
                  refine k_iconst (v := 6) f132_164 rfl ?_
                  refine k_iload f132_166 rfl ?_
                  refine k_iadd f132_168 ?_
                  refine k_iconst (v := 0) f132_169 rfl ?_
                  refine k_callv (as := [.int (0), .int ((6) + (3))]) (rest := []) f132_170 hS.o51 rfl rfl rfl rfl (q_puts (it := (9, 0)) (by decide) rfl hR hS hd3.2 ht (by omega)) ?_
                  rintro _ _ ⟨rfl, I4, rfl, hf4, hs4, hr4, ha4⟩
                  obtain ⟨⟨q3, hx3, hq3⟩, hr3⟩ := hd3
                  have ha3 := ha3.l (fun i => (z_u_p _ _ _ _ (by decide)).trans (((z_u_p _ _ _ _ (by decide)).trans (z_u_p _ _ _ _ (by decide))).trans (hl2 53 i (by omega))))
                  refine k_iconst (v := 1) f132_173 rfl ?_
                  exact k_iret f132_174 (by decide) ⟨_, rfl, hfa.trans hf4, rfl, ⟨⟨q3, hx3.same hs4, hq3⟩, by show RT I4 t w.2.1 (L + (z.1 ++ (w.1 ++ [(9, 0)])).length); rw [List.length_append, List.length_append, ← Nat.add_assoc, ← Nat.add_assoc]; exact hr4⟩, ha1.app (by have h := ha3.app ha4; exact h)⟩
            · have es : csS b n (bk b n z.2.2) = 10 := by rw [hcs, if_neg hc0, if_neg hc1, if_pos hc2, if_neg sg]
              have ee : ed b n (bk b n z.2.2) = bk b n z.2.2 + 1 := by rw [hev, if_neg sg]
              by_cases qs : bk b n z.2.2 + 1 < n
              · have nb : ¬ b (bk b n z.2.2 + 1) = 61 := fun z => sg (decide_eq_true ⟨by omega, qs, z⟩)
                have se : seV b n (bk b n z.2.2) = 62 := (if_pos qn).trans (by rw [hc]; rfl)
                have hz : ¬ csS b n (bk b n z.2.2) = 0 := by rw [es]; decide
                rw [if_neg hz]
                by_cases h6 : 60 ≤ z.2.1
                · rw [if_pos h6]
                  refine k_aload f132_0 rfl ?_
                  refine k_callv (as := []) (rest := []) f132_1 hS.o51 rfl rfl rfl rfl (q_sumR (d := d) (p := p) hR hS ht hp hLp hT hd) ?_
                  rintro v1 _ ⟨I1, rfl, hf1, hv1⟩
                  rw [hv] at hv1
                  obtain ⟨rfl, ⟨⟨q1, hx1, hq1⟩, hr1⟩, ha1⟩ := hv1
                  have hT1 := hf1.tp hT
                  refine k_if_ne f132_4 (fun _ => ?_) (fun h_ => absurd (by decide) h_)
                  refine k_aload f132_9 rfl ?_
                  refine k_callv (as := []) (rest := []) f132_10 hS.o51 rfl rfl rfl rfl (q_see hR hS hT1 hx1) ?_
                  rintro _ _ ⟨rfl, I2, rfl, hx2, hl2⟩
                  rw [hq1] at hx2
                  rw [hq1]
                  have hT2 := hl2.tp hT1
                  have hr2 := hr1.lx hl2
                  have hf2 : FDt t I I2 := hf1.trans hl2.fd
                  rw [se]
                  refine k_istore (L' := [.ref 51, .int (62), zU, zU, zU]) f132_13 rfl rfl ?_
                  refine k_aload f132_14 rfl ?_
                  refine k_gI (w := nI (bk b n z.2.2)) f132_15 hS.o51 rfl hx2.1 ?_
                  refine k_istore (L' := [.ref 51, .int (62), .int (nI (bk b n z.2.2)), zU, zU]) f132_18 rfl rfl ?_
                  refine k_iload f132_19 rfl ?_
                  refine k_iconst (v := 60) f132_20 rfl ?_
                  refine k_ic_eq f132_22 (fun h_ => absurd h_ (by decide)) (fun _ => ?_)
                  refine k_iload f132_25 rfl ?_
                  refine k_iconst (v := 61) f132_26 rfl ?_
                  refine k_ic_eq f132_28 (fun h_ => absurd h_ (by decide)) (fun _ => ?_)
                  refine k_iload f132_31 rfl ?_
                  refine k_iconst (v := 62) f132_32 rfl ?_
                  refine k_ic_eq f132_34 (fun _ => ?_) (fun h_ => absurd (by decide) h_)
                  refine k_aload f132_44 rfl ?_
                  refine k_dup f132_45 ?_
                  refine k_gI (w := nI (bk b n z.2.2)) f132_46 hS.o51 rfl hx2.1 ?_
                  refine k_iconst (v := 1) f132_49 rfl ?_
                  refine k_iadd f132_50 ?_
                  rw [nI_1 (bk b n z.2.2)]
                  refine k_putI f132_51 hS.o51 rfl ?_
                  refine k_iload f132_54 rfl ?_
                  refine k_iconst (v := 61) f132_55 rfl ?_
                  refine k_ic_eq f132_57 (fun h_ => absurd h_ (by decide)) (fun _ => ?_)
                  refine k_aload f132_60 rfl ?_
                  refine k_gI (w := nI (bk b n z.2.2 + 1)) f132_61 hS.o51 rfl (z_u_same _ _ _ _) ?_
                  refine k_aload f132_64 rfl ?_
                  refine k_gI (w := nI n) f132_65 hS.o51 rfl (Eq.trans (z_u_k _ _ _ (by decide)) hx2.2.2.2) ?_
                  refine k_ic_ge f132_68 (fun h_ => absurd h_ (nI_ge qs (by omega))) (fun _ => ?_)
                  refine k_aload f132_71 rfl ?_
                  refine k_getr (q := 52) f132_72 hS.o51 rfl hR.r51_0 ?_
                  refine k_aload f132_75 rfl ?_
                  refine k_gI (w := nI (bk b n z.2.2 + 1)) f132_76 hS.o51 rfl (z_u_same _ _ _ _) ?_
                  refine k_ba (k := (bk b n z.2.2 + 1)) (w := (nI (b (bk b n z.2.2 + 1))).toInt8.toInt32) f132_79 hS.a52 rfl (by omega) (by decide) (Eq.trans (z_u_p _ _ _ _ (by decide)) (hT2.2 _ (by omega)).2.2) ?_
                  refine k_iconst (v := 61) f132_80 rfl ?_
                  refine k_ic_ne f132_82 (fun _ => ?_) (fun h_ => absurd ((fun z => nb ((t8_61 _ (b8 _ qs)).mp z))) h_)
                  refine k_iconst (v := 0) f132_89 rfl ?_
                  refine k_istore (L' := [.ref 51, .int (62), .int (nI (bk b n z.2.2)), .int (0), zU]) f132_90 rfl rfl ?_
                  refine k_iload f132_91 rfl ?_
                  refine k_if_eq f132_92 (fun _ => ?_) (fun h_ => absurd (by decide) h_)
                  refine k_aload f132_105 rfl ?_
                  refine k_iload f132_106 rfl ?_
                  refine e_v (as := [.int (nI (bk b n z.2.2))]) (rest := []) f132_107 hS.o51 rfl rfl rfl (s_make0 (d := d + 4) (a := bk b n z.2.2) (m := z.2.1) hS (hx2.at (r := bk b n z.2.2 + 1) (by omega)).2.2.1 (hr2.at (r := bk b n z.2.2 + 1)).2.2.1 z2 h6) ?_
                  refine k_if_ne f132_110 (fun h_ => absurd (by decide) h_) (fun _ => ?_)
                  refine k_iconst (v := 0) f132_113 rfl ?_
                  exact k_iret f132_114 (by decide) ⟨_, rfl, (hf2.put (q := 51) (j := 13) (v := nI (bk b n z.2.2 + 1)) (by omega)).put (by omega), rfl, z_u_same _ _ _ _⟩
                · rw [if_neg h6, ee, es]
                  cases hw : suQ b n (z.2.1 + 1) (bk b n z.2.2 + 1) with
                  | inl e =>
                    rw [bdS_l rfl]
                    refine k_aload f132_0 rfl ?_
                    refine k_callv (as := []) (rest := []) f132_1 hS.o51 rfl rfl rfl rfl (q_sumR (d := d) (p := p) hR hS ht hp hLp hT hd) ?_
                    rintro v1 _ ⟨I1, rfl, hf1, hv1⟩
                    rw [hv] at hv1
                    obtain ⟨rfl, ⟨⟨q1, hx1, hq1⟩, hr1⟩, ha1⟩ := hv1
                    have hT1 := hf1.tp hT
                    refine k_if_ne f132_4 (fun _ => ?_) (fun h_ => absurd (by decide) h_)
                    refine k_aload f132_9 rfl ?_
                    refine k_callv (as := []) (rest := []) f132_10 hS.o51 rfl rfl rfl rfl (q_see hR hS hT1 hx1) ?_
                    rintro _ _ ⟨rfl, I2, rfl, hx2, hl2⟩
                    rw [hq1] at hx2
                    rw [hq1]
                    have hT2 := hl2.tp hT1
                    have hr2 := hr1.lx hl2
                    have hf2 : FDt t I I2 := hf1.trans hl2.fd
                    rw [se]
                    refine k_istore (L' := [.ref 51, .int (62), zU, zU, zU]) f132_13 rfl rfl ?_
                    refine k_aload f132_14 rfl ?_
                    refine k_gI (w := nI (bk b n z.2.2)) f132_15 hS.o51 rfl hx2.1 ?_
                    refine k_istore (L' := [.ref 51, .int (62), .int (nI (bk b n z.2.2)), zU, zU]) f132_18 rfl rfl ?_
                    refine k_iload f132_19 rfl ?_
                    refine k_iconst (v := 60) f132_20 rfl ?_
                    refine k_ic_eq f132_22 (fun h_ => absurd h_ (by decide)) (fun _ => ?_)
                    refine k_iload f132_25 rfl ?_
                    refine k_iconst (v := 61) f132_26 rfl ?_
                    refine k_ic_eq f132_28 (fun h_ => absurd h_ (by decide)) (fun _ => ?_)
                    refine k_iload f132_31 rfl ?_
                    refine k_iconst (v := 62) f132_32 rfl ?_
                    refine k_ic_eq f132_34 (fun _ => ?_) (fun h_ => absurd (by decide) h_)
                    refine k_aload f132_44 rfl ?_
                    refine k_dup f132_45 ?_
                    refine k_gI (w := nI (bk b n z.2.2)) f132_46 hS.o51 rfl hx2.1 ?_
                    refine k_iconst (v := 1) f132_49 rfl ?_
                    refine k_iadd f132_50 ?_
                    rw [nI_1 (bk b n z.2.2)]
                    refine k_putI f132_51 hS.o51 rfl ?_
                    refine k_iload f132_54 rfl ?_
                    refine k_iconst (v := 61) f132_55 rfl ?_
                    refine k_ic_eq f132_57 (fun h_ => absurd h_ (by decide)) (fun _ => ?_)
                    refine k_aload f132_60 rfl ?_
                    refine k_gI (w := nI (bk b n z.2.2 + 1)) f132_61 hS.o51 rfl (z_u_same _ _ _ _) ?_
                    refine k_aload f132_64 rfl ?_
                    refine k_gI (w := nI n) f132_65 hS.o51 rfl (Eq.trans (z_u_k _ _ _ (by decide)) hx2.2.2.2) ?_
                    refine k_ic_ge f132_68 (fun h_ => absurd h_ (nI_ge qs (by omega))) (fun _ => ?_)
                    refine k_aload f132_71 rfl ?_
                    refine k_getr (q := 52) f132_72 hS.o51 rfl hR.r51_0 ?_
                    refine k_aload f132_75 rfl ?_
                    refine k_gI (w := nI (bk b n z.2.2 + 1)) f132_76 hS.o51 rfl (z_u_same _ _ _ _) ?_
                    refine k_ba (k := (bk b n z.2.2 + 1)) (w := (nI (b (bk b n z.2.2 + 1))).toInt8.toInt32) f132_79 hS.a52 rfl (by omega) (by decide) (Eq.trans (z_u_p _ _ _ _ (by decide)) (hT2.2 _ (by omega)).2.2) ?_
                    refine k_iconst (v := 61) f132_80 rfl ?_
                    refine k_ic_ne f132_82 (fun _ => ?_) (fun h_ => absurd ((fun z => nb ((t8_61 _ (b8 _ qs)).mp z))) h_)
                    refine k_iconst (v := 0) f132_89 rfl ?_
                    refine k_istore (L' := [.ref 51, .int (62), .int (nI (bk b n z.2.2)), .int (0), zU]) f132_90 rfl rfl ?_
                    refine k_iload f132_91 rfl ?_
                    refine k_if_eq f132_92 (fun _ => ?_) (fun h_ => absurd (by decide) h_)
                    refine k_aload f132_105 rfl ?_
                    refine k_iload f132_106 rfl ?_
                    refine e_v (as := [.int (nI (bk b n z.2.2))]) (rest := []) f132_107 hS.o51 rfl rfl rfl (s_make1 (d := d + 5) (m := z.2.1) hS (hr2.at (r := bk b n z.2.2 + 1)).2.2.1 (by omega)) ?_
                    refine k_if_ne f132_110 (fun _ => ?_) (fun h_ => absurd (by decide) h_)
                    refine k_iload f132_115 rfl ?_
                    refine k_iconst (v := 60) f132_116 rfl ?_
                    refine k_ic_ne f132_118 (fun _ => ?_) (fun h_ => absurd (by decide) h_)
                    refine k_iload f132_133 rfl ?_
                    refine k_iconst (v := 61) f132_134 rfl ?_
                    refine k_ic_ne f132_136 (fun _ => ?_) (fun h_ => absurd (by decide) h_)
                    refine k_iload f132_143 rfl ?_
                    refine k_if_eq f132_144 (fun _ => ?_) (fun h_ => absurd (by decide) h_)
                    refine k_iconst (v := 4) f132_151 rfl ?_
                    refine k_istore (L' := [.ref 51, .int (62), .int (nI (bk b n z.2.2)), .int (0), .int (4)]) f132_152 rfl rfl ?_
                    refine k_aload f132_154 rfl ?_
                    refine k_callv (as := []) (rest := []) f132_155 hS.o51 rfl rfl rfl rfl (q_sumR (d := d) (p := bk b n z.2.2 + 1) hR hS ht (by omega) (by omega) ((hT2.put (q := 51) (j := 13) (v := nI (bk b n z.2.2 + 1)) (by decide) (by decide)).put (by decide) (by decide)) ⟨⟨_, (hx2.at (r := bk b n z.2.2 + 1) (by omega)).put (by omega), rfl⟩, (hr2.at (r := bk b n z.2.2 + 1)).mk (by omega)⟩) ?_
                    rintro v3 _ ⟨I3, rfl, hf3, hv3⟩
                    have hv3 : PM _ I3 b n t _ v3 (suQ b n (z.2.1 + 1) (bk b n z.2.2 + 1)) := hv3
                    rw [hw] at hv3
                    obtain ⟨rfl, hn3⟩ := hv3
                    have hfa : FDt t I I3 := ((hf2.put (q := 51) (j := 13) (v := nI (bk b n z.2.2 + 1)) (by omega)).put (by omega)).trans hf3
                    refine k_if_ne f132_158 (fun h_ => absurd (by decide) h_) (fun _ => ?_)
                    refine k_iconst (v := 0) f132_161 rfl ?_
                    exact k_iret f132_162 (by decide) ⟨_, rfl, hfa, rfl, hn3⟩
                  | inr w =>
                    rw [bdS_r rfl]
                    obtain ⟨w1, w2, w3, w4, w5, w6⟩ := (su_ok (b := b) (n := n) (z.2.1 + 1) (bk b n z.2.2 + 1) (by omega) (by omega)).1 w hw
                    refine k_aload f132_0 rfl ?_
                    refine k_callv (as := []) (rest := []) f132_1 hS.o51 rfl rfl rfl rfl (q_sumR (d := d) (p := p) hR hS ht hp hLp hT hd) ?_
                    rintro v1 _ ⟨I1, rfl, hf1, hv1⟩
                    rw [hv] at hv1
                    obtain ⟨rfl, ⟨⟨q1, hx1, hq1⟩, hr1⟩, ha1⟩ := hv1
                    have hT1 := hf1.tp hT
                    refine k_if_ne f132_4 (fun _ => ?_) (fun h_ => absurd (by decide) h_)
                    refine k_aload f132_9 rfl ?_
                    refine k_callv (as := []) (rest := []) f132_10 hS.o51 rfl rfl rfl rfl (q_see hR hS hT1 hx1) ?_
                    rintro _ _ ⟨rfl, I2, rfl, hx2, hl2⟩
                    rw [hq1] at hx2
                    rw [hq1]
                    have hT2 := hl2.tp hT1
                    have hr2 := hr1.lx hl2
                    have hf2 : FDt t I I2 := hf1.trans hl2.fd
                    rw [se]
                    refine k_istore (L' := [.ref 51, .int (62), zU, zU, zU]) f132_13 rfl rfl ?_
                    refine k_aload f132_14 rfl ?_
                    refine k_gI (w := nI (bk b n z.2.2)) f132_15 hS.o51 rfl hx2.1 ?_
                    refine k_istore (L' := [.ref 51, .int (62), .int (nI (bk b n z.2.2)), zU, zU]) f132_18 rfl rfl ?_
                    refine k_iload f132_19 rfl ?_
                    refine k_iconst (v := 60) f132_20 rfl ?_
                    refine k_ic_eq f132_22 (fun h_ => absurd h_ (by decide)) (fun _ => ?_)
                    refine k_iload f132_25 rfl ?_
                    refine k_iconst (v := 61) f132_26 rfl ?_
                    refine k_ic_eq f132_28 (fun h_ => absurd h_ (by decide)) (fun _ => ?_)
                    refine k_iload f132_31 rfl ?_
                    refine k_iconst (v := 62) f132_32 rfl ?_
                    refine k_ic_eq f132_34 (fun _ => ?_) (fun h_ => absurd (by decide) h_)
                    refine k_aload f132_44 rfl ?_
                    refine k_dup f132_45 ?_
                    refine k_gI (w := nI (bk b n z.2.2)) f132_46 hS.o51 rfl hx2.1 ?_
                    refine k_iconst (v := 1) f132_49 rfl ?_
                    refine k_iadd f132_50 ?_
                    rw [nI_1 (bk b n z.2.2)]
                    refine k_putI f132_51 hS.o51 rfl ?_
                    refine k_iload f132_54 rfl ?_
                    refine k_iconst (v := 61) f132_55 rfl ?_
                    refine k_ic_eq f132_57 (fun h_ => absurd h_ (by decide)) (fun _ => ?_)
                    refine k_aload f132_60 rfl ?_
                    refine k_gI (w := nI (bk b n z.2.2 + 1)) f132_61 hS.o51 rfl (z_u_same _ _ _ _) ?_
                    refine k_aload f132_64 rfl ?_
                    refine k_gI (w := nI n) f132_65 hS.o51 rfl (Eq.trans (z_u_k _ _ _ (by decide)) hx2.2.2.2) ?_
                    refine k_ic_ge f132_68 (fun h_ => absurd h_ (nI_ge qs (by omega))) (fun _ => ?_)
                    refine k_aload f132_71 rfl ?_
                    refine k_getr (q := 52) f132_72 hS.o51 rfl hR.r51_0 ?_
                    refine k_aload f132_75 rfl ?_
                    refine k_gI (w := nI (bk b n z.2.2 + 1)) f132_76 hS.o51 rfl (z_u_same _ _ _ _) ?_
                    refine k_ba (k := (bk b n z.2.2 + 1)) (w := (nI (b (bk b n z.2.2 + 1))).toInt8.toInt32) f132_79 hS.a52 rfl (by omega) (by decide) (Eq.trans (z_u_p _ _ _ _ (by decide)) (hT2.2 _ (by omega)).2.2) ?_
                    refine k_iconst (v := 61) f132_80 rfl ?_
                    refine k_ic_ne f132_82 (fun _ => ?_) (fun h_ => absurd ((fun z => nb ((t8_61 _ (b8 _ qs)).mp z))) h_)
                    refine k_iconst (v := 0) f132_89 rfl ?_
                    refine k_istore (L' := [.ref 51, .int (62), .int (nI (bk b n z.2.2)), .int (0), zU]) f132_90 rfl rfl ?_
                    refine k_iload f132_91 rfl ?_
                    refine k_if_eq f132_92 (fun _ => ?_) (fun h_ => absurd (by decide) h_)
                    refine k_aload f132_105 rfl ?_
                    refine k_iload f132_106 rfl ?_
                    refine e_v (as := [.int (nI (bk b n z.2.2))]) (rest := []) f132_107 hS.o51 rfl rfl rfl (s_make1 (d := d + 5) (m := z.2.1) hS (hr2.at (r := bk b n z.2.2 + 1)).2.2.1 (by omega)) ?_
                    refine k_if_ne f132_110 (fun _ => ?_) (fun h_ => absurd (by decide) h_)
                    refine k_iload f132_115 rfl ?_
                    refine k_iconst (v := 60) f132_116 rfl ?_
                    refine k_ic_ne f132_118 (fun _ => ?_) (fun h_ => absurd (by decide) h_)
                    refine k_iload f132_133 rfl ?_
                    refine k_iconst (v := 61) f132_134 rfl ?_
                    refine k_ic_ne f132_136 (fun _ => ?_) (fun h_ => absurd (by decide) h_)
                    refine k_iload f132_143 rfl ?_
                    refine k_if_eq f132_144 (fun _ => ?_) (fun h_ => absurd (by decide) h_)
                    refine k_iconst (v := 4) f132_151 rfl ?_
                    refine k_istore (L' := [.ref 51, .int (62), .int (nI (bk b n z.2.2)), .int (0), .int (4)]) f132_152 rfl rfl ?_
                    refine k_aload f132_154 rfl ?_
                    refine k_callv (as := []) (rest := []) f132_155 hS.o51 rfl rfl rfl rfl (q_sumR (d := d) (p := bk b n z.2.2 + 1) hR hS ht (by omega) (by omega) ((hT2.put (q := 51) (j := 13) (v := nI (bk b n z.2.2 + 1)) (by decide) (by decide)).put (by decide) (by decide)) ⟨⟨_, (hx2.at (r := bk b n z.2.2 + 1) (by omega)).put (by omega), rfl⟩, (hr2.at (r := bk b n z.2.2 + 1)).mk (by omega)⟩) ?_
                    rintro v3 _ ⟨I3, rfl, hf3, hv3⟩
                    have hv3 : PM _ I3 b n t _ v3 (suQ b n (z.2.1 + 1) (bk b n z.2.2 + 1)) := hv3
                    rw [hw] at hv3
                    obtain ⟨rfl, hd3, ha3⟩ := hv3
                    have hfa : FDt t I I3 := ((hf2.put (q := 51) (j := 13) (v := nI (bk b n z.2.2 + 1)) (by omega)).put (by omega)).trans hf3
                    refine k_if_ne f132_158 (fun _ => ?_) (fun h_ => absurd (by decide) h_)
                    refine k_aload f132_163 rfl ?_
                    refine k_iconst (v := 6) f132_164 rfl ?_
                    refine k_iload f132_166 rfl ?_
                    refine k_iadd f132_168 ?_
                    refine k_iconst (v := 0) f132_169 rfl ?_
                    refine k_callv (as := [.int (0), .int ((6) + (4))]) (rest := []) f132_170 hS.o51 rfl rfl rfl rfl (q_puts (it := (10, 0)) (by decide) rfl hR hS hd3.2 ht (by omega)) ?_
                    rintro _ _ ⟨rfl, I4, rfl, hf4, hs4, hr4, ha4⟩
                    obtain ⟨⟨q3, hx3, hq3⟩, hr3⟩ := hd3
                    have ha3 := ha3.l (fun i => (z_u_p _ _ _ _ (by decide)).trans ((z_u_p _ _ _ _ (by decide)).trans (hl2 53 i (by omega))))
                    refine k_iconst (v := 1) f132_173 rfl ?_
                    exact k_iret f132_174 (by decide) ⟨_, rfl, hfa.trans hf4, rfl, ⟨⟨q3, hx3.same hs4, hq3⟩, by show RT I4 t w.2.1 (L + (z.1 ++ (w.1 ++ [(10, 0)])).length); rw [List.length_append, List.length_append, ← Nat.add_assoc, ← Nat.add_assoc]; exact hr4⟩, ha1.app (by have h := ha3.app ha4; exact h)⟩
              · have _u := qs
                have se : seV b n (bk b n z.2.2) = 62 := (if_pos qn).trans (by rw [hc]; rfl)
                have hz : ¬ csS b n (bk b n z.2.2) = 0 := by rw [es]; decide
                rw [if_neg hz]
                by_cases h6 : 60 ≤ z.2.1
                · rw [if_pos h6]
                  refine k_aload f132_0 rfl ?_
                  refine k_callv (as := []) (rest := []) f132_1 hS.o51 rfl rfl rfl rfl (q_sumR (d := d) (p := p) hR hS ht hp hLp hT hd) ?_
                  rintro v1 _ ⟨I1, rfl, hf1, hv1⟩
                  rw [hv] at hv1
                  obtain ⟨rfl, ⟨⟨q1, hx1, hq1⟩, hr1⟩, ha1⟩ := hv1
                  have hT1 := hf1.tp hT
                  refine k_if_ne f132_4 (fun _ => ?_) (fun h_ => absurd (by decide) h_)
                  refine k_aload f132_9 rfl ?_
                  refine k_callv (as := []) (rest := []) f132_10 hS.o51 rfl rfl rfl rfl (q_see hR hS hT1 hx1) ?_
                  rintro _ _ ⟨rfl, I2, rfl, hx2, hl2⟩
                  rw [hq1] at hx2
                  rw [hq1]
                  have hT2 := hl2.tp hT1
                  have hr2 := hr1.lx hl2
                  have hf2 : FDt t I I2 := hf1.trans hl2.fd
                  rw [se]
                  refine k_istore (L' := [.ref 51, .int (62), zU, zU, zU]) f132_13 rfl rfl ?_
                  refine k_aload f132_14 rfl ?_
                  refine k_gI (w := nI (bk b n z.2.2)) f132_15 hS.o51 rfl hx2.1 ?_
                  refine k_istore (L' := [.ref 51, .int (62), .int (nI (bk b n z.2.2)), zU, zU]) f132_18 rfl rfl ?_
                  refine k_iload f132_19 rfl ?_
                  refine k_iconst (v := 60) f132_20 rfl ?_
                  refine k_ic_eq f132_22 (fun h_ => absurd h_ (by decide)) (fun _ => ?_)
                  refine k_iload f132_25 rfl ?_
                  refine k_iconst (v := 61) f132_26 rfl ?_
                  refine k_ic_eq f132_28 (fun h_ => absurd h_ (by decide)) (fun _ => ?_)
                  refine k_iload f132_31 rfl ?_
                  refine k_iconst (v := 62) f132_32 rfl ?_
                  refine k_ic_eq f132_34 (fun _ => ?_) (fun h_ => absurd (by decide) h_)
                  refine k_aload f132_44 rfl ?_
                  refine k_dup f132_45 ?_
                  refine k_gI (w := nI (bk b n z.2.2)) f132_46 hS.o51 rfl hx2.1 ?_
                  refine k_iconst (v := 1) f132_49 rfl ?_
                  refine k_iadd f132_50 ?_
                  rw [nI_1 (bk b n z.2.2)]
                  refine k_putI f132_51 hS.o51 rfl ?_
                  refine k_iload f132_54 rfl ?_
                  refine k_iconst (v := 61) f132_55 rfl ?_
                  refine k_ic_eq f132_57 (fun h_ => absurd h_ (by decide)) (fun _ => ?_)
                  refine k_aload f132_60 rfl ?_
                  refine k_gI (w := nI (bk b n z.2.2 + 1)) f132_61 hS.o51 rfl (z_u_same _ _ _ _) ?_
                  refine k_aload f132_64 rfl ?_
                  refine k_gI (w := nI n) f132_65 hS.o51 rfl (Eq.trans (z_u_k _ _ _ (by decide)) hx2.2.2.2) ?_
                  refine k_ic_ge f132_68 (fun _ => ?_) (fun h_ => absurd (nI_le (by omega) (by omega)) h_)
                  refine k_iconst (v := 0) f132_89 rfl ?_
                  refine k_istore (L' := [.ref 51, .int (62), .int (nI (bk b n z.2.2)), .int (0), zU]) f132_90 rfl rfl ?_
                  refine k_iload f132_91 rfl ?_
                  refine k_if_eq f132_92 (fun _ => ?_) (fun h_ => absurd (by decide) h_)
                  refine k_aload f132_105 rfl ?_
                  refine k_iload f132_106 rfl ?_
                  refine e_v (as := [.int (nI (bk b n z.2.2))]) (rest := []) f132_107 hS.o51 rfl rfl rfl (s_make0 (d := d + 4) (a := bk b n z.2.2) (m := z.2.1) hS (hx2.at (r := bk b n z.2.2 + 1) (by omega)).2.2.1 (hr2.at (r := bk b n z.2.2 + 1)).2.2.1 z2 h6) ?_
                  refine k_if_ne f132_110 (fun h_ => absurd (by decide) h_) (fun _ => ?_)
                  refine k_iconst (v := 0) f132_113 rfl ?_
                  exact k_iret f132_114 (by decide) ⟨_, rfl, (hf2.put (q := 51) (j := 13) (v := nI (bk b n z.2.2 + 1)) (by omega)).put (by omega), rfl, z_u_same _ _ _ _⟩
                · rw [if_neg h6, ee, es]
                  cases hw : suQ b n (z.2.1 + 1) (bk b n z.2.2 + 1) with
                  | inl e =>
                    rw [bdS_l rfl]
                    refine k_aload f132_0 rfl ?_
                    refine k_callv (as := []) (rest := []) f132_1 hS.o51 rfl rfl rfl rfl (q_sumR (d := d) (p := p) hR hS ht hp hLp hT hd) ?_
                    rintro v1 _ ⟨I1, rfl, hf1, hv1⟩
                    rw [hv] at hv1
                    obtain ⟨rfl, ⟨⟨q1, hx1, hq1⟩, hr1⟩, ha1⟩ := hv1
                    have hT1 := hf1.tp hT
                    refine k_if_ne f132_4 (fun _ => ?_) (fun h_ => absurd (by decide) h_)
                    refine k_aload f132_9 rfl ?_
                    refine k_callv (as := []) (rest := []) f132_10 hS.o51 rfl rfl rfl rfl (q_see hR hS hT1 hx1) ?_
                    rintro _ _ ⟨rfl, I2, rfl, hx2, hl2⟩
                    rw [hq1] at hx2
                    rw [hq1]
                    have hT2 := hl2.tp hT1
                    have hr2 := hr1.lx hl2
                    have hf2 : FDt t I I2 := hf1.trans hl2.fd
                    rw [se]
                    refine k_istore (L' := [.ref 51, .int (62), zU, zU, zU]) f132_13 rfl rfl ?_
                    refine k_aload f132_14 rfl ?_
                    refine k_gI (w := nI (bk b n z.2.2)) f132_15 hS.o51 rfl hx2.1 ?_
                    refine k_istore (L' := [.ref 51, .int (62), .int (nI (bk b n z.2.2)), zU, zU]) f132_18 rfl rfl ?_
                    refine k_iload f132_19 rfl ?_
                    refine k_iconst (v := 60) f132_20 rfl ?_
                    refine k_ic_eq f132_22 (fun h_ => absurd h_ (by decide)) (fun _ => ?_)
                    refine k_iload f132_25 rfl ?_
                    refine k_iconst (v := 61) f132_26 rfl ?_
                    refine k_ic_eq f132_28 (fun h_ => absurd h_ (by decide)) (fun _ => ?_)
                    refine k_iload f132_31 rfl ?_
                    refine k_iconst (v := 62) f132_32 rfl ?_
                    refine k_ic_eq f132_34 (fun _ => ?_) (fun h_ => absurd (by decide) h_)
                    refine k_aload f132_44 rfl ?_
                    refine k_dup f132_45 ?_
                    refine k_gI (w := nI (bk b n z.2.2)) f132_46 hS.o51 rfl hx2.1 ?_
                    refine k_iconst (v := 1) f132_49 rfl ?_
                    refine k_iadd f132_50 ?_
                    rw [nI_1 (bk b n z.2.2)]
                    refine k_putI f132_51 hS.o51 rfl ?_
                    refine k_iload f132_54 rfl ?_
                    refine k_iconst (v := 61) f132_55 rfl ?_
                    refine k_ic_eq f132_57 (fun h_ => absurd h_ (by decide)) (fun _ => ?_)
                    refine k_aload f132_60 rfl ?_
                    refine k_gI (w := nI (bk b n z.2.2 + 1)) f132_61 hS.o51 rfl (z_u_same _ _ _ _) ?_
                    refine k_aload f132_64 rfl ?_
                    refine k_gI (w := nI n) f132_65 hS.o51 rfl (Eq.trans (z_u_k _ _ _ (by decide)) hx2.2.2.2) ?_
                    refine k_ic_ge f132_68 (fun _ => ?_) (fun h_ => absurd (nI_le (by omega) (by omega)) h_)
                    refine k_iconst (v := 0) f132_89 rfl ?_
                    refine k_istore (L' := [.ref 51, .int (62), .int (nI (bk b n z.2.2)), .int (0), zU]) f132_90 rfl rfl ?_
                    refine k_iload f132_91 rfl ?_
                    refine k_if_eq f132_92 (fun _ => ?_) (fun h_ => absurd (by decide) h_)
                    refine k_aload f132_105 rfl ?_
                    refine k_iload f132_106 rfl ?_
                    refine e_v (as := [.int (nI (bk b n z.2.2))]) (rest := []) f132_107 hS.o51 rfl rfl rfl (s_make1 (d := d + 5) (m := z.2.1) hS (hr2.at (r := bk b n z.2.2 + 1)).2.2.1 (by omega)) ?_
                    refine k_if_ne f132_110 (fun _ => ?_) (fun h_ => absurd (by decide) h_)
                    refine k_iload f132_115 rfl ?_
                    refine k_iconst (v := 60) f132_116 rfl ?_
                    refine k_ic_ne f132_118 (fun _ => ?_) (fun h_ => absurd (by decide) h_)
                    refine k_iload f132_133 rfl ?_
                    refine k_iconst (v := 61) f132_134 rfl ?_
                    refine k_ic_ne f132_136 (fun _ => ?_) (fun h_ => absurd (by decide) h_)
                    refine k_iload f132_143 rfl ?_
                    refine k_if_eq f132_144 (fun _ => ?_) (fun h_ => absurd (by decide) h_)
                    refine k_iconst (v := 4) f132_151 rfl ?_
                    refine k_istore (L' := [.ref 51, .int (62), .int (nI (bk b n z.2.2)), .int (0), .int (4)]) f132_152 rfl rfl ?_
                    refine k_aload f132_154 rfl ?_
                    refine k_callv (as := []) (rest := []) f132_155 hS.o51 rfl rfl rfl rfl (q_sumR (d := d) (p := bk b n z.2.2 + 1) hR hS ht (by omega) (by omega) ((hT2.put (q := 51) (j := 13) (v := nI (bk b n z.2.2 + 1)) (by decide) (by decide)).put (by decide) (by decide)) ⟨⟨_, (hx2.at (r := bk b n z.2.2 + 1) (by omega)).put (by omega), rfl⟩, (hr2.at (r := bk b n z.2.2 + 1)).mk (by omega)⟩) ?_
                    rintro v3 _ ⟨I3, rfl, hf3, hv3⟩
                    have hv3 : PM _ I3 b n t _ v3 (suQ b n (z.2.1 + 1) (bk b n z.2.2 + 1)) := hv3
                    rw [hw] at hv3
                    obtain ⟨rfl, hn3⟩ := hv3
                    have hfa : FDt t I I3 := ((hf2.put (q := 51) (j := 13) (v := nI (bk b n z.2.2 + 1)) (by omega)).put (by omega)).trans hf3
                    refine k_if_ne f132_158 (fun h_ => absurd (by decide) h_) (fun _ => ?_)
                    refine k_iconst (v := 0) f132_161 rfl ?_
                    exact k_iret f132_162 (by decide) ⟨_, rfl, hfa, rfl, hn3⟩
                  | inr w =>
                    rw [bdS_r rfl]
                    obtain ⟨w1, w2, w3, w4, w5, w6⟩ := (su_ok (b := b) (n := n) (z.2.1 + 1) (bk b n z.2.2 + 1) (by omega) (by omega)).1 w hw
                    refine k_aload f132_0 rfl ?_
                    refine k_callv (as := []) (rest := []) f132_1 hS.o51 rfl rfl rfl rfl (q_sumR (d := d) (p := p) hR hS ht hp hLp hT hd) ?_
                    rintro v1 _ ⟨I1, rfl, hf1, hv1⟩
                    rw [hv] at hv1
                    obtain ⟨rfl, ⟨⟨q1, hx1, hq1⟩, hr1⟩, ha1⟩ := hv1
                    have hT1 := hf1.tp hT
                    refine k_if_ne f132_4 (fun _ => ?_) (fun h_ => absurd (by decide) h_)
                    refine k_aload f132_9 rfl ?_
                    refine k_callv (as := []) (rest := []) f132_10 hS.o51 rfl rfl rfl rfl (q_see hR hS hT1 hx1) ?_
                    rintro _ _ ⟨rfl, I2, rfl, hx2, hl2⟩
                    rw [hq1] at hx2
                    rw [hq1]
                    have hT2 := hl2.tp hT1
                    have hr2 := hr1.lx hl2
                    have hf2 : FDt t I I2 := hf1.trans hl2.fd
                    rw [se]
                    refine k_istore (L' := [.ref 51, .int (62), zU, zU, zU]) f132_13 rfl rfl ?_
                    refine k_aload f132_14 rfl ?_
                    refine k_gI (w := nI (bk b n z.2.2)) f132_15 hS.o51 rfl hx2.1 ?_
                    refine k_istore (L' := [.ref 51, .int (62), .int (nI (bk b n z.2.2)), zU, zU]) f132_18 rfl rfl ?_
                    refine k_iload f132_19 rfl ?_
                    refine k_iconst (v := 60) f132_20 rfl ?_
                    refine k_ic_eq f132_22 (fun h_ => absurd h_ (by decide)) (fun _ => ?_)
                    refine k_iload f132_25 rfl ?_
                    refine k_iconst (v := 61) f132_26 rfl ?_
                    refine k_ic_eq f132_28 (fun h_ => absurd h_ (by decide)) (fun _ => ?_)
                    refine k_iload f132_31 rfl ?_
                    refine k_iconst (v := 62) f132_32 rfl ?_
                    refine k_ic_eq f132_34 (fun _ => ?_) (fun h_ => absurd (by decide) h_)
                    refine k_aload f132_44 rfl ?_
                    refine k_dup f132_45 ?_
                    refine k_gI (w := nI (bk b n z.2.2)) f132_46 hS.o51 rfl hx2.1 ?_
                    refine k_iconst (v := 1) f132_49 rfl ?_
                    refine k_iadd f132_50 ?_
                    rw [nI_1 (bk b n z.2.2)]
                    refine k_putI f132_51 hS.o51 rfl ?_
                    refine k_iload f132_54 rfl ?_
                    refine k_iconst (v := 61) f132_55 rfl ?_
                    refine k_ic_eq f132_57 (fun h_ => absurd h_ (by decide)) (fun _ => ?_)
                    refine k_aload f132_60 rfl ?_
                    refine k_gI (w := nI (bk b n z.2.2 + 1)) f132_61 hS.o51 rfl (z_u_same _ _ _ _) ?_
                    refine k_aload f132_64 rfl ?_
                    refine k_gI (w := nI n) f132_65 hS.o51 rfl (Eq.trans (z_u_k _ _ _ (by decide)) hx2.2.2.2) ?_
                    refine k_ic_ge f132_68 (fun _ => ?_) (fun h_ => absurd (nI_le (by omega) (by omega)) h_)
                    refine k_iconst (v := 0) f132_89 rfl ?_
                    refine k_istore (L' := [.ref 51, .int (62), .int (nI (bk b n z.2.2)), .int (0), zU]) f132_90 rfl rfl ?_
                    refine k_iload f132_91 rfl ?_
                    refine k_if_eq f132_92 (fun _ => ?_) (fun h_ => absurd (by decide) h_)
                    refine k_aload f132_105 rfl ?_
                    refine k_iload f132_106 rfl ?_
                    refine e_v (as := [.int (nI (bk b n z.2.2))]) (rest := []) f132_107 hS.o51 rfl rfl rfl (s_make1 (d := d + 5) (m := z.2.1) hS (hr2.at (r := bk b n z.2.2 + 1)).2.2.1 (by omega)) ?_
                    refine k_if_ne f132_110 (fun _ => ?_) (fun h_ => absurd (by decide) h_)
                    refine k_iload f132_115 rfl ?_
                    refine k_iconst (v := 60) f132_116 rfl ?_
                    refine k_ic_ne f132_118 (fun _ => ?_) (fun h_ => absurd (by decide) h_)
                    refine k_iload f132_133 rfl ?_
                    refine k_iconst (v := 61) f132_134 rfl ?_
                    refine k_ic_ne f132_136 (fun _ => ?_) (fun h_ => absurd (by decide) h_)
                    refine k_iload f132_143 rfl ?_
                    refine k_if_eq f132_144 (fun _ => ?_) (fun h_ => absurd (by decide) h_)
                    refine k_iconst (v := 4) f132_151 rfl ?_
                    refine k_istore (L' := [.ref 51, .int (62), .int (nI (bk b n z.2.2)), .int (0), .int (4)]) f132_152 rfl rfl ?_
                    refine k_aload f132_154 rfl ?_
                    refine k_callv (as := []) (rest := []) f132_155 hS.o51 rfl rfl rfl rfl (q_sumR (d := d) (p := bk b n z.2.2 + 1) hR hS ht (by omega) (by omega) ((hT2.put (q := 51) (j := 13) (v := nI (bk b n z.2.2 + 1)) (by decide) (by decide)).put (by decide) (by decide)) ⟨⟨_, (hx2.at (r := bk b n z.2.2 + 1) (by omega)).put (by omega), rfl⟩, (hr2.at (r := bk b n z.2.2 + 1)).mk (by omega)⟩) ?_
                    rintro v3 _ ⟨I3, rfl, hf3, hv3⟩
                    have hv3 : PM _ I3 b n t _ v3 (suQ b n (z.2.1 + 1) (bk b n z.2.2 + 1)) := hv3
                    rw [hw] at hv3
                    obtain ⟨rfl, hd3, ha3⟩ := hv3
                    have hfa : FDt t I I3 := ((hf2.put (q := 51) (j := 13) (v := nI (bk b n z.2.2 + 1)) (by omega)).put (by omega)).trans hf3
                    refine k_if_ne f132_158 (fun _ => ?_) (fun h_ => absurd (by decide) h_)
                    refine k_aload f132_163 rfl ?_
                    refine k_iconst (v := 6) f132_164 rfl ?_
                    refine k_iload f132_166 rfl ?_
                    refine k_iadd f132_168 ?_
                    refine k_iconst (v := 0) f132_169 rfl ?_
                    refine k_callv (as := [.int (0), .int ((6) + (4))]) (rest := []) f132_170 hS.o51 rfl rfl rfl rfl (q_puts (it := (10, 0)) (by decide) rfl hR hS hd3.2 ht (by omega)) ?_
                    rintro _ _ ⟨rfl, I4, rfl, hf4, hs4, hr4, ha4⟩
                    obtain ⟨⟨q3, hx3, hq3⟩, hr3⟩ := hd3
                    have ha3 := ha3.l (fun i => (z_u_p _ _ _ _ (by decide)).trans ((z_u_p _ _ _ _ (by decide)).trans (hl2 53 i (by omega))))
                    refine k_iconst (v := 1) f132_173 rfl ?_
                    exact k_iret f132_174 (by decide) ⟨_, rfl, hfa.trans hf4, rfl, ⟨⟨q3, hx3.same hs4, hq3⟩, by show RT I4 t w.2.1 (L + (z.1 ++ (w.1 ++ [(10, 0)])).length); rw [List.length_append, List.length_append, ← Nat.add_assoc, ← Nat.add_assoc]; exact hr4⟩, ha1.app (by have h := ha3.app ha4; exact h)⟩
          · have ev : seV b n (bk b n z.2.2) = nI (b (bk b n z.2.2)) := if_pos qn
            have hb := b8 _ qn
            have n60 : ¬ seV b n (bk b n z.2.2) = 60 := fun z => hc ((nI_eq (b := 60) (by omega) (by omega)).mp (ev.symm.trans z))
            have n61 : ¬ seV b n (bk b n z.2.2) = 61 := fun z => hc1 ((nI_eq (b := 61) (by omega) (by omega)).mp (ev.symm.trans z))
            have n62 : ¬ seV b n (bk b n z.2.2) = 62 := fun z => hc2 ((nI_eq (b := 62) (by omega) (by omega)).mp (ev.symm.trans z))
            rw [if_pos (show csS b n (bk b n z.2.2) = 0 from by rw [hcs, if_neg hc, if_neg hc1, if_neg hc2])]
            refine k_aload f132_0 rfl ?_
            refine k_callv (as := []) (rest := []) f132_1 hS.o51 rfl rfl rfl rfl (q_sumR (d := d) (p := p) hR hS ht hp hLp hT hd) ?_
            rintro v1 _ ⟨I1, rfl, hf1, hv1⟩
            rw [hv] at hv1
            obtain ⟨rfl, ⟨⟨q1, hx1, hq1⟩, hr1⟩, ha1⟩ := hv1
            have hT1 := hf1.tp hT
            refine k_if_ne f132_4 (fun _ => ?_) (fun h_ => absurd (by decide) h_)
            refine k_aload f132_9 rfl ?_
            refine k_callv (as := []) (rest := []) f132_10 hS.o51 rfl rfl rfl rfl (q_see hR hS hT1 hx1) ?_
            rintro _ _ ⟨rfl, I2, rfl, hx2, hl2⟩
            rw [hq1] at hx2
            rw [hq1]
            have hT2 := hl2.tp hT1
            have hr2 := hr1.lx hl2
            have hf2 : FDt t I I2 := hf1.trans hl2.fd
            refine k_istore (L' := [.ref 51, .int (seV b n (bk b n z.2.2)), zU, zU, zU]) f132_13 rfl rfl ?_
            refine k_aload f132_14 rfl ?_
            refine k_gI (w := nI (bk b n z.2.2)) f132_15 hS.o51 rfl hx2.1 ?_
            refine k_istore (L' := [.ref 51, .int (seV b n (bk b n z.2.2)), .int (nI (bk b n z.2.2)), zU, zU]) f132_18 rfl rfl ?_
            refine k_iload f132_19 rfl ?_
            refine k_iconst (v := 60) f132_20 rfl ?_
            refine k_ic_eq f132_22 (fun h_ => absurd h_ (n60)) (fun _ => ?_)
            refine k_iload f132_25 rfl ?_
            refine k_iconst (v := 61) f132_26 rfl ?_
            refine k_ic_eq f132_28 (fun h_ => absurd h_ (n61)) (fun _ => ?_)
            refine k_iload f132_31 rfl ?_
            refine k_iconst (v := 62) f132_32 rfl ?_
            refine k_ic_eq f132_34 (fun h_ => absurd h_ (n62)) (fun _ => ?_)
            refine k_aload f132_37 rfl ?_
            refine k_iconst (v := 0) f132_38 rfl ?_
            refine k_iload f132_39 rfl ?_
            refine e_v (as := [.int (nI (bk b n z.2.2)), .int (0)]) (rest := []) f132_40 hS.o51 rfl rfl rfl (s_fails (w := 0) (a := bk b n z.2.2) hS hx2.2.2.1) ?_
            exact k_iret f132_43 (by decide) ⟨_, rfl, hf2.put (by omega), rfl, z_u_same _ _ _ _⟩
    · have ev : seV b n (bk b n z.2.2) = -1 := if_neg qn
      have n60 : ¬ seV b n (bk b n z.2.2) = 60 := fun z => absurd (ev.symm.trans z) (by decide)
      have n61 : ¬ seV b n (bk b n z.2.2) = 61 := fun z => absurd (ev.symm.trans z) (by decide)
      have n62 : ¬ seV b n (bk b n z.2.2) = 62 := fun z => absurd (ev.symm.trans z) (by decide)
      rw [if_pos (show csS b n (bk b n z.2.2) = 0 from Classical.byContradiction fun z => qn (cs_ok z).2.1)]
      refine k_aload f132_0 rfl ?_
      refine k_callv (as := []) (rest := []) f132_1 hS.o51 rfl rfl rfl rfl (q_sumR (d := d) (p := p) hR hS ht hp hLp hT hd) ?_
      rintro v1 _ ⟨I1, rfl, hf1, hv1⟩
      rw [hv] at hv1
      obtain ⟨rfl, ⟨⟨q1, hx1, hq1⟩, hr1⟩, ha1⟩ := hv1
      have hT1 := hf1.tp hT
      refine k_if_ne f132_4 (fun _ => ?_) (fun h_ => absurd (by decide) h_)
      refine k_aload f132_9 rfl ?_
      refine k_callv (as := []) (rest := []) f132_10 hS.o51 rfl rfl rfl rfl (q_see hR hS hT1 hx1) ?_
      rintro _ _ ⟨rfl, I2, rfl, hx2, hl2⟩
      rw [hq1] at hx2
      rw [hq1]
      have hT2 := hl2.tp hT1
      have hr2 := hr1.lx hl2
      have hf2 : FDt t I I2 := hf1.trans hl2.fd
      refine k_istore (L' := [.ref 51, .int (seV b n (bk b n z.2.2)), zU, zU, zU]) f132_13 rfl rfl ?_
      refine k_aload f132_14 rfl ?_
      refine k_gI (w := nI (bk b n z.2.2)) f132_15 hS.o51 rfl hx2.1 ?_
      refine k_istore (L' := [.ref 51, .int (seV b n (bk b n z.2.2)), .int (nI (bk b n z.2.2)), zU, zU]) f132_18 rfl rfl ?_
      refine k_iload f132_19 rfl ?_
      refine k_iconst (v := 60) f132_20 rfl ?_
      refine k_ic_eq f132_22 (fun h_ => absurd h_ (n60)) (fun _ => ?_)
      refine k_iload f132_25 rfl ?_
      refine k_iconst (v := 61) f132_26 rfl ?_
      refine k_ic_eq f132_28 (fun h_ => absurd h_ (n61)) (fun _ => ?_)
      refine k_iload f132_31 rfl ?_
      refine k_iconst (v := 62) f132_32 rfl ?_
      refine k_ic_eq f132_34 (fun h_ => absurd h_ (n62)) (fun _ => ?_)
      refine k_aload f132_37 rfl ?_
      refine k_iconst (v := 0) f132_38 rfl ?_
      refine k_iload f132_39 rfl ?_
      refine e_v (as := [.int (nI (bk b n z.2.2)), .int (0)]) (rest := []) f132_40 hS.o51 rfl rfl rfl (s_fails (w := 0) (a := bk b n z.2.2) hS hx2.2.2.1) ?_
      exact k_iret f132_43 (by decide) ⟨_, rfl, hf2.put (by omega), rfl, z_u_same _ _ _ _⟩
