/-! RULES, read in the reference: a test. -/
def PTe (I I' : Nat → Nat → Int32) (b : Nat → Nat) (n t L : Nat) (v : Option Value) : Sum Nat R3 → Prop
  | .inl e => v = some (.int 0) ∧ I' 51 14 = nI e
  | .inr z => v = some (.int 1) ∧ RX I' n (bk b n z.2.2) ∧ RT I' t z.2.1 (L + z.1.length) ∧ DA I I' t L z.1
theorem PTe.ap {I I1 I' : Nat → Nat → Int32} {b : Nat → Nat} {n t L : Nat} {o : List It} {v : Option Value} {r : Sum Nat R3} (ha : DA I I1 t L o) (h : PTe I1 I' b n t (L + o.length) v r) : PTe I I' b n t L v (apR o r) := by
  cases r with
  | inl e => exact h
  | inr y =>
    refine ⟨h.1, h.2.1, ?_, ha.app h.2.2.2⟩
    have h := h.2.2.1
    show RT I' t y.2.1 (L + (o ++ y.1).length)
    rw [List.length_append, ← Nat.add_assoc]
    exact h
theorem lp_test {x : Nat × (Nat → Int32)} {d : Nat} {J : Nat → Nat → Int64} {R : Nat → Nat → Option Nat} {G : zG} {b : Nat → Nat} {n t : Nat} (hR : Rs R) (hS : Sh G) (ht : t < 6) : ∀ (N k : Nat) (S : List Nat) (dd p L m : Nat) (r : Sum Nat R3) (I : Nat → Nat → Int32) (u : Value), k ≤ N → p ≤ n → L + S.length ≤ p → TP I b n → RD I b n t p m L → SK I S dd → MR b n k true S dd m p r → zOk x (d + 8) 136 12 [.ref 51, .int 1, u] [] (I, J, R, G) (fun v mm => ∃ I', mm = (I', J, R, G) ∧ FT t I I' ∧ PTe I I' b n t L v r) := by
  intro N
  induction N with
  | zero =>
    intro k S dd p L m r I u hk hp hL hT hd hs hm
    obtain rfl : k = 0 := by omega
    exact hm.elim
  | succ N ih =>
    intro k S dd p L m r I u hk hp hL hT hd hs hm
    have h400 := hT.1
    refine k_iload f136_12 rfl ?_
    refine k_if_eq f136_13 (fun h_ => absurd h_ (by decide)) (fun _ => ?_)
    refine k_aload f136_16 rfl ?_
    refine k_callv (as := []) (rest := []) f136_17 hS.o51 rfl rfl rfl rfl (q_fact (d := d) hR hS ht hp hL hT hd hs hm) ?_
    rintro v1 _ ⟨I1, rfl, hf1, hv1⟩
    rcases hv1 with ⟨e, rfl, rfl, he⟩ | ⟨S', d', z, k', r', rfl, z2, rfl, z4, z5, z6, z7, z8, z9, z10⟩
    · have _e := he
      refine k_if_ne f136_20 (fun h_ => absurd (by decide) h_) (fun _ => ?_)
      refine k_iconst (v := 0) f136_23 rfl ?_
      exact k_iret f136_24 (by decide) ⟨_, rfl, hf1, rfl, he⟩
    · have _e := z10
      refine k_if_ne f136_20 (fun _ => ?_) (fun h_ => absurd (by decide) h_)
      refine k_aload f136_25 rfl ?_
      refine k_callv (as := []) (rest := []) f136_26 hS.o51 rfl rfl rfl rfl (q_closes (d := d + 5) hR hS ht z9 z8 (hf1.tp hT) z5 z7 z4) ?_
      rintro _ _ ⟨rfl, I2, rfl, hf2, hc2⟩
      obtain ⟨S3, d3, o3, p3, k3, r3, hk3, he3, hm3, hn3, hd3, ha3, hs3, hL3, hp3⟩ := hc2
      obtain ⟨k4, rfl⟩ : ∃ k4, k3 = k4 + 1 := by
        cases k3 with
        | zero => exact hm3.elim
        | succ k => exact ⟨k, rfl⟩
      rw [MR_B, if_neg hn3] at hm3
      obtain ⟨⟨q3, hx3, hq3⟩, hr3⟩ := hd3
      have er : apR (z.1 ++ (stQ 3 S' d').2.2) r' = apR (z.1 ++ o3) r3 := by rw [← apR_a, he3, apR_a]
      rw [er]
      have ft2 : FT t I I2 := hf1.trans hf2
      have da2 : DA I I2 t L (z.1 ++ o3) := z6.app ha3
      have hT2 := ft2.tp hT
      have hq := bk_le (b := b) hp3
      have hqq := bk_bk (b := b) hp3
      obtain ⟨oo, eo⟩ : ∃ oo, oo = z.1 ++ o3 := ⟨_, rfl⟩
      have lo : L + z.1.length + o3.length = L + oo.length := by rw [eo, List.length_append]; omega
      rw [lo] at hr3 hL3
      rw [← eo] at da2
      rw [← eo]
      by_cases ga : tkB b n (bk b n p3) wAnd = true
      · rw [if_pos ga] at hm3
        obtain ⟨r4, rfl, hm⟩ := hm3
        have hLw := (tk_iff.mp ga).1
        have w1 := wl_lt hLw
        have w2 := (wl_le (b := b) hq.2).2
        refine k_aload f136_29 rfl ?_
        refine k_lconst (v := 6385252) f136_30 rfl ?_
        refine k_callv (as := [.long (6385252)]) (rest := []) f136_33 hS.o51 rfl rfl rfl rfl (q_isWg (d := d + 6) (w := wAnd) wA_v hR hS hT2 hx3 wA_l) ?_
        rintro _ _ ⟨rfl, I3, rfl, hx4, hl3⟩
        rw [hq3] at hx4
        rw [hq3]
        have hT3 := hl3.tp hT2
        have hr4 := hr3.lx hl3
        have hs4 := hs3.lx hl3
        have ft3 : FT t I I3 := ft2.trans hl3.ft
        have da3 := da2.r (fun i => hl3 53 i (by omega))
        refine k_bne f136_36 (fun _ => ?_) (fun h_ => absurd (ga) h_)
        refine k_iconst (v := 1) f136_49 rfl ?_
        refine k_goto f136_50 ?_
        refine k_istore (L' := [.ref 51, .int (1), u]) f136_54 rfl rfl ?_
        refine k_iload f136_55 rfl ?_
        refine k_if_eq f136_56 (fun h_ => absurd h_ (by decide)) (fun _ => ?_)
        refine k_aload f136_59 rfl ?_
        refine k_lconst (v := 6385252) f136_60 rfl ?_
        refine k_callv (as := [.long (6385252)]) (rest := []) f136_63 hS.o51 rfl rfl rfl rfl (q_isWg (d := d + 6) (w := wAnd) wA_v hR hS hT3 hx4 wA_l) ?_
        rintro _ _ ⟨rfl, I4, rfl, hx5, hl4⟩
        rw [hqq] at hx5
        rw [hqq]
        have hT4 := hl4.tp hT3
        have hr5 := hr4.lx hl4
        have hs5 := hs4.lx hl4
        have ft4 : FT t I I4 := ft3.trans hl4.ft
        have da4 := da3.r (fun i => hl4 53 i (by omega))
        refine k_beq f136_66 (fun h_ => absurd (ga) h_) (fun _ => ?_)
        refine k_iconst (v := 12) f136_69 rfl ?_
        refine k_goto f136_71 ?_
        refine k_istore (L' := [.ref 51, .int (1), .int (12)]) f136_76 rfl rfl ?_
        refine k_aload f136_77 rfl ?_
        refine k_callv (as := []) (rest := []) f136_78 hS.o51 rfl rfl rfl rfl (q_pass (d := d + 6) hR hS hT4 hx5) ?_
        rintro _ _ ⟨rfl, I5, rfl, hx6, hl5⟩
        have hr6 := hr5.lx hl5
        have hs6 := hs5.lx hl5
        have ft5 : FT t I I5 := ft4.trans hl5.ft
        have da5 := da4.r (fun i => hl5 53 i (by omega))
        refine k_aload f136_81 rfl ?_
        refine k_iload f136_82 rfl ?_
        refine e_s (as := [.int (12)]) (rest := [.ref 51]) f136_83 rfl rfl rfl ((show zRn x _ 127 [.int 12] _ (some (.int 2)) _ from s_strg (s := 12) (by omega))) ?_
        refine k_callv (as := [.int (2)]) (rest := []) f136_86 hS.o51 rfl rfl rfl rfl (q_settles (d := d + 6) (t := t) (m := z.2.1) (k := 2) hR hS ht (by omega) (by omega) S3 (L + oo.length) d3 I5 (by omega) hr6 hs6) ?_
        rintro _ _ ⟨rfl, I6, rfl, hp6⟩
        obtain ⟨f6, fs6, hr7, hs7, ha6⟩ := hp6
        have hx7 := hx6.fs fs6
        have ft6 : FT t I I6 := ft5.trans f6
        have sl := st_len (k := 2) S3 d3
        have da6 := da5.app ha6
        obtain ⟨X, eX⟩ : ∃ X, X = (stQ 2 S3 d3).1 := ⟨_, rfl⟩
        obtain ⟨o4, eo4⟩ : ∃ o4, o4 = (stQ 2 S3 d3).2.2 := ⟨_, rfl⟩
        rw [← eX] at hs7 sl hm
        rw [← eo4] at hr7 sl da6
        have e21 := hs7.1
        have X4 : X.length ≤ 399 := by omega
        refine k_aload f136_89 rfl ?_
        refine k_getr (q := 59) f136_90 hS.o51 rfl hR.r51_20 ?_
        refine k_aload f136_93 rfl ?_
        refine k_gI (w := nI X.length) f136_94 hS.o51 rfl e21 ?_
        refine k_iload f136_97 rfl ?_
        refine k_is (k := X.length) f136_98 hS.a59 rfl (by omega) (by decide) ?_
        refine k_aload f136_99 rfl ?_
        refine k_dup f136_100 ?_
        refine k_gI (w := nI X.length) f136_101 hS.o51 rfl (Eq.trans (z_u_p _ _ _ _ (by decide)) e21) ?_
        refine k_iconst (v := 1) f136_104 rfl ?_
        refine k_iadd f136_105 ?_
        rw [nI_1 X.length]
        refine k_putI f136_106 hS.o51 rfl ?_
        refine k_goto f136_109 ?_
        have ftm : FT t I (z_u (z_u I6 59 X.length 12) 51 21 (nI (X.length + 1))) := (ft6.put (by omega)).put (by omega)
        have dam : DA I (z_u (z_u I6 59 X.length 12) 51 21 (nI (X.length + 1))) t L (oo ++ o4) := da6.r (fun i => (z_u_p _ _ _ _ (by decide)).trans (z_u_p _ _ _ _ (by decide)))
        have ll : L + oo.length + o4.length = L + (oo ++ o4).length := by rw [List.length_append]; omega
        have hrm : RT (z_u (z_u I6 59 X.length 12) 51 21 (nI (X.length + 1))) t z.2.1 (L + (oo ++ o4).length) := by rw [← ll]; exact (hr7.put (by omega)).put (by omega)
        refine zOk.imp (ih k4 (12 :: X) (stQ 2 S3 d3).2.1 (wl b n (bk b n p3)) (L + (oo ++ o4).length) z.2.1 r4 (z_u (z_u I6 59 X.length 12) 51 21 (nI (X.length + 1))) _ (by omega) w2 (by show _ + (X.length + 1) ≤ _; omega) (ftm.tp hT) ⟨⟨_, (hx7.put (by omega)).put (by omega), rfl⟩, hrm⟩ (hs7.join (w := 12) (by omega)) hm) ?_
        rintro v _ ⟨I', rfl, hf, h⟩
        refine ⟨I', rfl, ftm.trans hf, ?_⟩
        rw [apR_a, ← eo4]
        exact PTe.ap dam h
      · by_cases go : tkB b n (bk b n p3) wOr = true
        · rw [if_neg ga, if_pos go] at hm3
          obtain ⟨r4, rfl, hm⟩ := hm3
          have hLw := (tk_iff.mp go).1
          have w1 := wl_lt hLw
          have w2 := (wl_le (b := b) hq.2).2
          refine k_aload f136_29 rfl ?_
          refine k_lconst (v := 6385252) f136_30 rfl ?_
          refine k_callv (as := [.long (6385252)]) (rest := []) f136_33 hS.o51 rfl rfl rfl rfl (q_isWg (d := d + 6) (w := wAnd) wA_v hR hS hT2 hx3 wA_l) ?_
          rintro _ _ ⟨rfl, I3, rfl, hx4, hl3⟩
          rw [hq3] at hx4
          rw [hq3]
          have hT3 := hl3.tp hT2
          have hr4 := hr3.lx hl3
          have hs4 := hs3.lx hl3
          have ft3 : FT t I I3 := ft2.trans hl3.ft
          have da3 := da2.r (fun i => hl3 53 i (by omega))
          refine k_bne f136_36 (fun h_ => absurd h_ (ga)) (fun _ => ?_)
          refine k_aload f136_39 rfl ?_
          refine k_lconst (v := 28530) f136_40 rfl ?_
          refine k_callv (as := [.long (28530)]) (rest := []) f136_43 hS.o51 rfl rfl rfl rfl (q_isWg (d := d + 6) (w := wOr) wO_v hR hS hT3 hx4 wO_l) ?_
          rintro _ _ ⟨rfl, I4, rfl, hx5, hl4⟩
          rw [hqq] at hx5
          rw [hqq]
          have hT4 := hl4.tp hT3
          have hr5 := hr4.lx hl4
          have hs5 := hs4.lx hl4
          have ft4 : FT t I I4 := ft3.trans hl4.ft
          have da4 := da3.r (fun i => hl4 53 i (by omega))
          refine k_beq f136_46 (fun h_ => absurd (go) h_) (fun _ => ?_)
          refine k_iconst (v := 1) f136_49 rfl ?_
          refine k_goto f136_50 ?_
          refine k_istore (L' := [.ref 51, .int (1), u]) f136_54 rfl rfl ?_
          refine k_iload f136_55 rfl ?_
          refine k_if_eq f136_56 (fun h_ => absurd h_ (by decide)) (fun _ => ?_)
          refine k_aload f136_59 rfl ?_
          refine k_lconst (v := 6385252) f136_60 rfl ?_
          refine k_callv (as := [.long (6385252)]) (rest := []) f136_63 hS.o51 rfl rfl rfl rfl (q_isWg (d := d + 6) (w := wAnd) wA_v hR hS hT4 hx5 wA_l) ?_
          rintro _ _ ⟨rfl, I5, rfl, hx6, hl5⟩
          rw [hqq] at hx6
          rw [hqq]
          have hT5 := hl5.tp hT4
          have hr6 := hr5.lx hl5
          have hs6 := hs5.lx hl5
          have ft5 : FT t I I5 := ft4.trans hl5.ft
          have da5 := da4.r (fun i => hl5 53 i (by omega))
          refine k_beq f136_66 (fun _ => ?_) (fun h_ => (absurd h_ (ga)))
          refine k_iconst (v := 13) f136_74 rfl ?_
          refine k_istore (L' := [.ref 51, .int (1), .int (13)]) f136_76 rfl rfl ?_
          refine k_aload f136_77 rfl ?_
          refine k_callv (as := []) (rest := []) f136_78 hS.o51 rfl rfl rfl rfl (q_pass (d := d + 6) hR hS hT5 hx6) ?_
          rintro _ _ ⟨rfl, I6, rfl, hx7, hl6⟩
          have hr7 := hr6.lx hl6
          have hs7 := hs6.lx hl6
          have ft6 : FT t I I6 := ft5.trans hl6.ft
          have da6 := da5.r (fun i => hl6 53 i (by omega))
          refine k_aload f136_81 rfl ?_
          refine k_iload f136_82 rfl ?_
          refine e_s (as := [.int (13)]) (rest := [.ref 51]) f136_83 rfl rfl rfl ((show zRn x _ 127 [.int 13] _ (some (.int 1)) _ from s_strg (s := 13) (by omega))) ?_
          refine k_callv (as := [.int (1)]) (rest := []) f136_86 hS.o51 rfl rfl rfl rfl (q_settles (d := d + 6) (t := t) (m := z.2.1) (k := 1) hR hS ht (by omega) (by omega) S3 (L + oo.length) d3 I6 (by omega) hr7 hs7) ?_
          rintro _ _ ⟨rfl, I7, rfl, hp7⟩
          obtain ⟨f7, fs7, hr8, hs8, ha7⟩ := hp7
          have hx8 := hx7.fs fs7
          have ft7 : FT t I I7 := ft6.trans f7
          have sl := st_len (k := 1) S3 d3
          have da7 := da6.app ha7
          obtain ⟨X, eX⟩ : ∃ X, X = (stQ 1 S3 d3).1 := ⟨_, rfl⟩
          obtain ⟨o4, eo4⟩ : ∃ o4, o4 = (stQ 1 S3 d3).2.2 := ⟨_, rfl⟩
          rw [← eX] at hs8 sl hm
          rw [← eo4] at hr8 sl da7
          have e21 := hs8.1
          have X4 : X.length ≤ 399 := by omega
          refine k_aload f136_89 rfl ?_
          refine k_getr (q := 59) f136_90 hS.o51 rfl hR.r51_20 ?_
          refine k_aload f136_93 rfl ?_
          refine k_gI (w := nI X.length) f136_94 hS.o51 rfl e21 ?_
          refine k_iload f136_97 rfl ?_
          refine k_is (k := X.length) f136_98 hS.a59 rfl (by omega) (by decide) ?_
          refine k_aload f136_99 rfl ?_
          refine k_dup f136_100 ?_
          refine k_gI (w := nI X.length) f136_101 hS.o51 rfl (Eq.trans (z_u_p _ _ _ _ (by decide)) e21) ?_
          refine k_iconst (v := 1) f136_104 rfl ?_
          refine k_iadd f136_105 ?_
          rw [nI_1 X.length]
          refine k_putI f136_106 hS.o51 rfl ?_
          refine k_goto f136_109 ?_
          have ftm : FT t I (z_u (z_u I7 59 X.length 13) 51 21 (nI (X.length + 1))) := (ft7.put (by omega)).put (by omega)
          have dam : DA I (z_u (z_u I7 59 X.length 13) 51 21 (nI (X.length + 1))) t L (oo ++ o4) := da7.r (fun i => (z_u_p _ _ _ _ (by decide)).trans (z_u_p _ _ _ _ (by decide)))
          have ll : L + oo.length + o4.length = L + (oo ++ o4).length := by rw [List.length_append]; omega
          have hrm : RT (z_u (z_u I7 59 X.length 13) 51 21 (nI (X.length + 1))) t z.2.1 (L + (oo ++ o4).length) := by rw [← ll]; exact (hr8.put (by omega)).put (by omega)
          refine zOk.imp (ih k4 (13 :: X) (stQ 1 S3 d3).2.1 (wl b n (bk b n p3)) (L + (oo ++ o4).length) z.2.1 r4 (z_u (z_u I7 59 X.length 13) 51 21 (nI (X.length + 1))) _ (by omega) w2 (by show _ + (X.length + 1) ≤ _; omega) (ftm.tp hT) ⟨⟨_, (hx8.put (by omega)).put (by omega), rfl⟩, hrm⟩ (hs8.join (w := 13) (by omega)) hm) ?_
          rintro v _ ⟨I', rfl, hf, h⟩
          refine ⟨I', rfl, ftm.trans hf, ?_⟩
          rw [apR_a, ← eo4]
          exact PTe.ap dam h
        · by_cases g9 : 91 ∈ S3
          · rw [if_neg ga, if_neg go, if_pos g9] at hm3
            subst hm3
            refine k_aload f136_29 rfl ?_
            refine k_lconst (v := 6385252) f136_30 rfl ?_
            refine k_callv (as := [.long (6385252)]) (rest := []) f136_33 hS.o51 rfl rfl rfl rfl (q_isWg (d := d + 6) (w := wAnd) wA_v hR hS hT2 hx3 wA_l) ?_
            rintro _ _ ⟨rfl, I3, rfl, hx4, hl3⟩
            rw [hq3] at hx4
            rw [hq3]
            have hT3 := hl3.tp hT2
            have hr4 := hr3.lx hl3
            have hs4 := hs3.lx hl3
            have ft3 : FT t I I3 := ft2.trans hl3.ft
            have da3 := da2.r (fun i => hl3 53 i (by omega))
            refine k_bne f136_36 (fun h_ => absurd h_ (ga)) (fun _ => ?_)
            refine k_aload f136_39 rfl ?_
            refine k_lconst (v := 28530) f136_40 rfl ?_
            refine k_callv (as := [.long (28530)]) (rest := []) f136_43 hS.o51 rfl rfl rfl rfl (q_isWg (d := d + 6) (w := wOr) wO_v hR hS hT3 hx4 wO_l) ?_
            rintro _ _ ⟨rfl, I4, rfl, hx5, hl4⟩
            rw [hqq] at hx5
            rw [hqq]
            have hT4 := hl4.tp hT3
            have hr5 := hr4.lx hl4
            have hs5 := hs4.lx hl4
            have ft4 : FT t I I4 := ft3.trans hl4.ft
            have da4 := da3.r (fun i => hl4 53 i (by omega))
            refine k_beq f136_46 (fun _ => ?_) (fun h_ => (absurd h_ (go)))
            refine k_iconst (v := 0) f136_53 rfl ?_
            refine k_istore (L' := [.ref 51, .int (0), u]) f136_54 rfl rfl ?_
            refine k_iload f136_55 rfl ?_
            refine k_if_eq f136_56 (fun _ => ?_) (fun h_ => absurd (by decide) h_)
            refine k_iload f136_12 rfl ?_
            refine k_if_eq f136_13 (fun _ => ?_) (fun h_ => absurd (by decide) h_)
            refine k_aload f136_112 rfl ?_
            refine e_v (as := []) (rest := []) f136_113 hS.o51 rfl rfl rfl (s_isIn hR hS hs5 (by omega)) ?_
            refine k_beq f136_116 (fun h_ => absurd (g9) h_) (fun _ => ?_)
            refine k_aload f136_119 rfl ?_
            refine k_callv (as := []) (rest := []) f136_120 hS.o51 rfl rfl rfl rfl (q_see hR hS hT4 hx5) ?_
            rintro _ _ ⟨rfl, I5, rfl, hx6, hl5⟩
            rw [hqq] at hx6
            rw [hqq]
            have ft5 : FT t I I5 := ft4.trans hl5.ft
            refine k_popi f136_123 ?_
            refine k_aload f136_124 rfl ?_
            refine k_iconst (v := 0) f136_125 rfl ?_
            refine k_aload f136_126 rfl ?_
            refine k_gI (w := nI (bk b n p3)) f136_127 hS.o51 rfl hx6.1 ?_
            refine e_v (as := [.int (nI (bk b n p3)), .int (0)]) (rest := []) f136_130 hS.o51 rfl rfl rfl (s_fails (w := 0) (a := bk b n p3) hS hx6.2.2.1) ?_
            exact k_iret f136_133 (by decide) ⟨_, rfl, ft5.put (by omega), rfl, z_u_same _ _ _ _⟩
          · rw [if_neg ga, if_neg go, if_neg g9] at hm3
            subst hm3
            refine k_aload f136_29 rfl ?_
            refine k_lconst (v := 6385252) f136_30 rfl ?_
            refine k_callv (as := [.long (6385252)]) (rest := []) f136_33 hS.o51 rfl rfl rfl rfl (q_isWg (d := d + 6) (w := wAnd) wA_v hR hS hT2 hx3 wA_l) ?_
            rintro _ _ ⟨rfl, I3, rfl, hx4, hl3⟩
            rw [hq3] at hx4
            rw [hq3]
            have hT3 := hl3.tp hT2
            have hr4 := hr3.lx hl3
            have hs4 := hs3.lx hl3
            have ft3 : FT t I I3 := ft2.trans hl3.ft
            have da3 := da2.r (fun i => hl3 53 i (by omega))
            refine k_bne f136_36 (fun h_ => absurd h_ (ga)) (fun _ => ?_)
            refine k_aload f136_39 rfl ?_
            refine k_lconst (v := 28530) f136_40 rfl ?_
            refine k_callv (as := [.long (28530)]) (rest := []) f136_43 hS.o51 rfl rfl rfl rfl (q_isWg (d := d + 6) (w := wOr) wO_v hR hS hT3 hx4 wO_l) ?_
            rintro _ _ ⟨rfl, I4, rfl, hx5, hl4⟩
            rw [hqq] at hx5
            rw [hqq]
            have hT4 := hl4.tp hT3
            have hr5 := hr4.lx hl4
            have hs5 := hs4.lx hl4
            have ft4 : FT t I I4 := ft3.trans hl4.ft
            have da4 := da3.r (fun i => hl4 53 i (by omega))
            refine k_beq f136_46 (fun _ => ?_) (fun h_ => (absurd h_ (go)))
            refine k_iconst (v := 0) f136_53 rfl ?_
            refine k_istore (L' := [.ref 51, .int (0), u]) f136_54 rfl rfl ?_
            refine k_iload f136_55 rfl ?_
            refine k_if_eq f136_56 (fun _ => ?_) (fun h_ => absurd (by decide) h_)
            refine k_iload f136_12 rfl ?_
            refine k_if_eq f136_13 (fun _ => ?_) (fun h_ => absurd (by decide) h_)
            refine k_aload f136_112 rfl ?_
            refine e_v (as := []) (rest := []) f136_113 hS.o51 rfl rfl rfl (s_isIn hR hS hs5 (by omega)) ?_
            refine k_beq f136_116 (fun _ => ?_) (fun h_ => (absurd h_ (g9)))
            refine k_aload f136_134 rfl ?_
            refine k_iconst (v := 1) f136_135 rfl ?_
            refine k_callv (as := [.int (1)]) (rest := []) f136_136 hS.o51 rfl rfl rfl rfl (q_settles (d := d + 6) (t := t) (m := z.2.1) (k := 1) hR hS ht (by omega) (by omega) S3 (L + oo.length) d3 I4 (by omega) hr5 hs5) ?_
            rintro _ _ ⟨rfl, I5, rfl, hp5⟩
            obtain ⟨f5, fs5, hr6, hs6, ha5⟩ := hp5
            refine k_iconst (v := 1) f136_139 rfl ?_
            exact k_iret f136_140 (by decide) ⟨_, rfl, ft4.trans f5, PTe.ap (r := .inr ((stQ 1 S3 d3).2.2, z.2.1, p3)) da4 ⟨rfl, hx5.fs fs5, hr6, ha5⟩⟩
theorem q_tested {x : Nat × (Nat → Int32)} {d : Nat} {I : Nat → Nat → Int32} {J : Nat → Nat → Int64} {R : Nat → Nat → Option Nat} {G : zG} {b : Nat → Nat} {n t m L p : Nat} (hR : Rs R) (hS : Sh G) (ht : t < 6) (hp : p ≤ n) (hL : L ≤ p) (hT : TP I b n) (hd : RD I b n t p m L) : zOk x (d + 8) 136 0 [.ref 51, zU, zU] [] (I, J, R, G) (fun v mm => ∃ I', mm = (I', J, R, G) ∧ FT t I I' ∧ PTe I I' b n t L v (r34 (tsF b n 11 10 m p))) := by
  obtain ⟨⟨q0, hx, hq0⟩, hr⟩ := hd
  obtain ⟨k, hm⟩ := me_ts (b := b) (n := n) (ma := m) (p := p) hr.2.2.2 hp
  refine k_aload f136_0 rfl ?_
  refine k_iconst (v := 0) f136_1 rfl ?_
  refine k_putI f136_2 hS.o51 rfl ?_
  refine k_aload f136_5 rfl ?_
  refine k_iconst (v := 0) f136_6 rfl ?_
  refine k_putI f136_7 hS.o51 rfl ?_
  refine k_iconst (v := 1) f136_10 rfl ?_
  refine k_istore (L' := [.ref 51, .int (1), zU]) f136_11 rfl rfl ?_
  have sk : SK (z_u (z_u I 51 21 0) 51 18 0) [] 10 := ⟨(z_u_k _ _ _ (by decide)).trans (z_u_same _ _ _ _), z_u_same _ _ _ _, rfl, trivial, fun s hs => absurd hs List.not_mem_nil⟩
  have ft : FT t I (z_u (z_u I 51 21 0) 51 18 0) := (FT.rfl.put (by omega)).put (by omega)
  refine zOk.imp (lp_test (d := d) hR hS ht k k [] 10 p L m _ (z_u (z_u I 51 21 0) 51 18 0) _ (Nat.le_refl _) hp (by show L + 0 ≤ p; omega) (ft.tp hT) ⟨⟨_, (hx.put (by omega)).put (by omega), hq0⟩, (hr.put (by omega)).put (by omega)⟩ sk hm) ?_
  rintro v _ ⟨I', rfl, hf, h⟩
  refine ⟨I', rfl, ft.trans hf, ?_⟩
  have da : DA I (z_u (z_u I 51 21 0) 51 18 0) t L [] := DA.nil (fun i => (z_u_p _ _ _ _ (by decide)).trans (z_u_p _ _ _ _ (by decide)))
  have h := PTe.ap da h
  rw [apR_n] at h
  exact h
