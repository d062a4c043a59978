/-! YEARS, the pair. -/
theorem RuR.rr {I : Nat → Nat → Int32} {G : zG} {R R' : Nat → Nat → Option Nat} {t r : Nat} (h : RuR I R G t r) (hr : ∀ p k, 71 ≤ p → R' p k = R p k) : RuR I R' G t r :=
  h.keep Gk.rfl (fun _ _ _ _ => rfl) (fun p k _ hp => hr p k hp) (fun _ _ => rfl) (fun _ _ => rfl) rfl (fun _ _ _ _ _ _ => rfl)
theorem lp_yrC {x : Nat × (Nat → Int32)} {d : Nat} {R0 : Nat → Nat → Option Nat} {G : zG} {I0 : Nat → Nat → Int32} {s : Nat → Int32} {t r pl P M D rn : Nat} {wh : Int32} {qf : Nat × Int32 × Int32} (hR0 : Rs R0) (hS : Sh G) (hst0 : StR I0 R0 G 17 pl s) (hru0 : RuR I0 R0 G t r) (hO : SOk s rn) (h0 : s 0 = nI P) (hP : 0 < P) (hP11 : P < 11) (hD : D ≤ 400) (hM : M ≤ 10) : ∀ (f i : Nat) (q : Nat × Int32 × Int32) (I : Nat → Nat → Int32) (J : Nat → Nat → Int64) (R : Nat → Nat → Option Nat), i + f = M → ((∀ p k, ¬ (27 ≤ p ∧ p < 37) → ¬ (p = 42 ∧ k = 1) → I p k = I0 p k) ∧ (∀ p k, ¬ (p = 27 ∧ k = 0) → R p k = R0 p k) ∧ q.1 < 2147483648 ∧ foL (fun _ => yrC (soB I0 t) (cl (s 1)) (cl (s 2)) P D s) i f q = qf) → zOk x (d + 7) 94 75 [.ref 0, .int (nI t), .int (nI M), .int (nI D), .int (wh), .ref r, .int (nI q.1), .int (q.2.1), .int (q.2.2), .int (nI i)] [] (I, J, R, G) (fun v mm => v = some (.int (if wh = 0 then qf.2.1 else qf.2.2)) ∧ ∃ I' J' R', mm = (I', J', R', G) ∧ (∀ p k, ¬ (27 ≤ p ∧ p < 37) → ¬ (p = 42 ∧ k = 1) → I' p k = I0 p k) ∧ (∀ p k, ¬ (p = 27 ∧ k = 0) → R' p k = R0 p k)) := by
  intro f
  induction f with
  | zero =>
    intro i q I J R hi hz
    obtain ⟨hfI, hfR, hX, hf⟩ := hz
    have hpl := hst0.2.2.1.1
    have hn9 := hO.2.1.2
    have hm25 := hO.2.2.1.2
    have hR : Rs R := rs_keep hS hR0 (fun p k _ h1 _ => hfR p k (by omega))
    have hst : StR I R G 17 pl s := hst0.keep (by omega) Gk.rfl (fun p k _ hp => hfI p k (by omega) (by omega)) (fun p k _ hp => hfR p k (by omega))
    have hkr : Kr I0 I := fun p k hp => hfI p k (by omega) (by omega)
    have hru : RuR I R G t r := (hru0.kr hkr).rr fun p k hp => hfR p k (by omega)
    have hz4 : zo G r 4 := by obtain ⟨_, _, _, _, _, h, _⟩ := hru; exact h.2.1
    refine k_iload f94_75 rfl ?_
    refine k_iload f94_77 rfl ?_
    refine k_ic_ge f94_78 (fun _ => ?_) (fun h_ => absurd (nI_le (by omega) (by omega)) h_)
    refine k_iload f94_167 rfl ?_
    refine k_if_ne f94_169 (fun g0 => ?_) (fun g0 => ?_)
    · refine k_iload f94_177 rfl ?_
      exact k_iret f94_179 rfl ⟨by rw [if_neg g0, ← hf]; rfl, I, J, R, rfl, hfI, hfR⟩
    · refine k_iload f94_172 rfl ?_
      refine k_goto f94_174 ?_
      exact k_iret f94_179 rfl ⟨by rw [if_pos (Classical.not_not.mp g0), ← hf]; rfl, I, J, R, rfl, hfI, hfR⟩
  | succ f ih =>
    intro i q I J R hi hz
    obtain ⟨hfI, hfR, hX, hf⟩ := hz
    have hpl := hst0.2.2.1.1
    have hn9 := hO.2.1.2
    have hm25 := hO.2.2.1.2
    have hR : Rs R := rs_keep hS hR0 (fun p k _ h1 _ => hfR p k (by omega))
    have hst : StR I R G 17 pl s := hst0.keep (by omega) Gk.rfl (fun p k _ hp => hfI p k (by omega) (by omega)) (fun p k _ hp => hfR p k (by omega))
    have hkr : Kr I0 I := fun p k hp => hfI p k (by omega) (by omega)
    have hru : RuR I R G t r := (hru0.kr hkr).rr fun p k hp => hfR p k (by omega)
    have hz4 : zo G r 4 := by obtain ⟨_, _, _, _, _, h, _⟩ := hru; exact h.2.1
    have hin : i < M := by omega
    refine k_iload f94_75 rfl ?_
    refine k_iload f94_77 rfl ?_
    refine k_ic_ge f94_78 (fun h_ => absurd h_ (nI_ge hin (by omega))) (fun _ => ?_)
    refine k_aload f94_81 rfl ?_
    refine k_getr (q := 27) f94_82 hS.o0 rfl hR.r0_6 ?_
    refine k_aload f94_85 rfl ?_
    refine k_getr (q := 17) f94_86 hS.o0 rfl hR.r0_5 ?_
    refine k_callv (as := [.ref 17]) (rest := []) f94_89 hS.o27 rfl rfl rfl rfl (q_trial hR hS hst hO.sw hO.2.1.1 (by omega)) ?_
    rintro _ _ ⟨rfl, I1, rfl, ht27, f1⟩
    obtain ⟨R1, eR1⟩ : ∃ R1, R1 = z_u R 27 0 (some pl) := ⟨_, rfl⟩
    rw [← eR1] at ht27 ⊢
    have hR1 : Rs R1 := eR1 ▸ rs27 hS hR _
    have kr1 : Kr I I1 := fun p k hp => f1 p k (by omega)
    have hru1 : RuR I1 R1 G t r := eR1 ▸ ru27 (hru.kr kr1) _
    have eso1 : soB I1 t = soB I0 t := funext fun w => funext fun k => (soB_kr kr1 t w k).trans (soB_kr hkr t w k)
    refine k_aload f94_92 rfl ?_
    refine k_getr (q := 27) f94_93 hS.o0 rfl hR1.r0_6 ?_
    refine k_iload f94_96 rfl ?_
    refine k_putI f94_98 hS.o27 rfl ?_
    refine k_aload f94_101 rfl ?_
    refine k_getr (q := 42) f94_102 hS.o0 rfl hR1.r0_10 ?_
    refine k_aload f94_105 rfl ?_
    refine k_getr (q := 27) f94_106 hS.o0 rfl hR1.r0_6 ?_
    refine k_aload f94_109 rfl ?_
    refine k_iload f94_111 rfl ?_
    refine k_iconst (v := 1) f94_112 rfl ?_
    refine k_callv (as := [.int (1), .int (nI D), .ref r, .ref 27]) (rest := []) f94_113 hS.o42 rfl rfl rfl rfl (q_goBy1 (st := 27) (I0 := I1) (y := (q.1, (fu s 5 (nI q.1), I1 42 1))) (n := cl (s 1)) (m := cl (s 2)) (P := P) hR1 hS (Or.inr rfl) hru1 (by omega) (by omega) hP hP11 hD (CZ.x (z := (s, I1 42 1)) (nI q.1) ⟨ht27, rfl, hO.sw, AF.rfl, fun _ _ _ _ => rfl⟩ (Or.inr rfl) (Nat.le_of_lt hm25)) (show fu s 5 (nI q.1) 1 = nI (cl (s 1)) from (fu_no _ _ (by omega)).trans hO.2.1.1) hO.mw.x (show fu s 5 (nI q.1) 0 = nI P from (fu_no _ _ (by omega)).trans h0) (show fu s 5 (nI q.1) 5 = nI q.1 from fu_same _ _ _) hX) ?_
    rintro _ _ ⟨rfl, I2, J2, rfl, hz2, hx5, hxl⟩
    rw [eso1] at hz2 hx5 hxl ⊢
    obtain ⟨yc, eyc⟩ : ∃ yc, foL (fun _ => yC (soB I0 t) (cl (s 1)) (cl (s 2)) P) 0 D (q.1, (fu s 5 (nI q.1), 0)) = yc := ⟨_, rfl⟩
    rw [eyc] at hz2 hx5 hxl ⊢
    have hq : yrC (soB I0 t) (cl (s 1)) (cl (s 2)) P D s q = (yc.1, q.2.1 + (yc.2.1 4 - s 4), q.2.2 + nI (popc (cl (acc (fV yc.2.1) (cl (s 1)))))) := by
      unfold yrC
      rw [eyc]
    obtain ⟨kv, kv1, kv2⟩ := acc_bits (fV_or yc.2.1) (cl (s 1)) (by omega)
    have kv9 : kv < 1024 := lt_1024 kv1 (by omega)
    have ec1 : yc.2.1 1 = nI (cl (s 1)) := hz2.1.2.2.2.1.2.2.1.symm.trans ((hz2.2.2.2.2 pl 2 (by omega) (by omega)).trans (ht27.2.2.2.1.2.2.1.trans hO.2.1.1))
    refine k_popi f94_116 ?_
    refine k_aload f94_117 rfl ?_
    refine k_getr (q := 27) f94_118 hS.o0 rfl hR1.r0_6 ?_
    refine k_gI (w := nI yc.1) f94_121 hS.o27 rfl (hz2.1.2.2.2.2.2.2.2.1.trans hx5) ?_
    refine k_istore (L' := [.ref 0, .int (nI t), .int (nI M), .int (nI D), .int (wh), .ref r, .int (nI yc.1), .int (q.2.1), .int (q.2.2), .int (nI i)]) f94_124 rfl rfl ?_
    refine k_iload f94_126 rfl ?_
    refine k_aload f94_128 rfl ?_
    refine k_getr (q := 27) f94_129 hS.o0 rfl hR1.r0_6 ?_
    refine k_gI (w := yc.2.1 4) f94_132 hS.o27 rfl hz2.1.2.2.2.2.2.1 ?_
    refine k_aload f94_135 rfl ?_
    refine k_getr (q := 17) f94_136 hS.o0 rfl hR1.r0_5 ?_
    refine k_gI (w := s 4) f94_139 hS.o17 rfl ((hz2.2.2.2.2 17 2 (by omega) (by omega)).trans ((f1 17 2 (by omega)).trans hst.2.2.2.2.2.1)) ?_
    refine k_isub f94_142 ?_
    refine k_iadd f94_143 ?_
    refine k_istore (L' := [.ref 0, .int (nI t), .int (nI M), .int (nI D), .int (wh), .ref r, .int (nI yc.1), .int ((q.2.1) + ((yc.2.1 4) - (s 4))), .int (q.2.2), .int (nI i)]) f94_144 rfl rfl ?_
    refine k_iload f94_146 rfl ?_
    refine k_aload f94_148 rfl ?_
    refine k_getr (q := 27) f94_149 hS.o0 rfl hR1.r0_6 ?_
    refine e_v (as := []) (rest := [.int (q.2.2)]) f94_152 hS.o27 rfl rfl rfl ((by have h := s_voids (x := x) (d := d + 5) (J := J2) (st := 27) hz2.1 ec1 (by omega); rw [kv2] at h; exact h)) ?_
    refine e_s (as := [.int (nI kv)]) (rest := [.int (q.2.2)]) f94_155 rfl rfl rfl (s_bitCount kv9) ?_
    refine k_iadd f94_158 ?_
    refine k_istore (L' := [.ref 0, .int (nI t), .int (nI M), .int (nI D), .int (wh), .ref r, .int (nI yc.1), .int ((q.2.1) + ((yc.2.1 4) - (s 4))), .int ((q.2.2) + (nI (popc kv))), .int (nI i)]) f94_159 rfl rfl ?_
    refine k_iinc (w := nI (i + 1)) (L' := [.ref 0, .int (nI t), .int (nI M), .int (nI D), .int (wh), .ref r, .int (nI yc.1), .int ((q.2.1) + ((yc.2.1 4) - (s 4))), .int ((q.2.2) + (nI (popc kv))), .int (nI (i + 1))]) f94_161 rfl (nI_1 i) rfl rfl ?_
    refine k_goto f94_164 ?_
    rw [foL_s] at hf
    have e1 : yc.1 = (yrC (soB I0 t) (cl (s 1)) (cl (s 2)) P D s q).1 := by rw [hq]
    have e2 : (q.2.1) + ((yc.2.1 4) - (s 4)) = (yrC (soB I0 t) (cl (s 1)) (cl (s 2)) P D s q).2.1 := by rw [hq]
    have e3 : (q.2.2) + (nI (popc kv)) = (yrC (soB I0 t) (cl (s 1)) (cl (s 2)) P D s q).2.2 := by rw [hq, kv2, cl_nI (by omega)]
    rw [e2, e3, e1]
    exact ih (i + 1) (yrC (soB I0 t) (cl (s 1)) (cl (s 2)) P D s q) I2 J2 R1 (by omega) ⟨fun p k g1 g2 => (hz2.2.2.2.2 p k g1 g2).trans ((f1 p k g1).trans (hfI p k g1 g2)), fun p k g => by rw [eR1, z_u_no _ _ g]; exact hfR p k g, by rw [hq]; exact hxl, hf⟩
theorem sw2 (a : Int32) : (a < 0 ∨ 1 < a) ∨ a = 0 ∨ a = 1 := by
  rcases sw3 a with (h | h) | h | h | h
  · exact Or.inl (Or.inl h)
  · exact Or.inl (Or.inr (Int32.lt_trans (by decide) h))
  · exact Or.inr (Or.inl h)
  · exact Or.inr (Or.inr h)
  · exact Or.inl (Or.inr (by rw [h]; decide))
theorem op_years {x : Nat × (Nat → Int32)} (rule m n what : Int32) : Op Inv x 94 201 [.int rule, .int m, .int n, .int what] := by
  refine Op.of2 fun j I J R G hj hI => ?_
  have hS : Sh G := hI.1
  have hR : Rs R := hI.2.1
  have hT1 : Rg (I 9 1) 401 := hI.2.2.2.2.1.1
  have hT2 : I 51 1 = I 9 1 := hI.2.2.2.2.1.2.1
  have hN1 : Rg (I 0 4) 7 := hI.2.2.2.2.2.1.1
  have hN2 : I 51 2 = I 0 4 := hI.2.2.2.2.2.1.2.1
  have hN3 : ∀ t, t < cl (I 0 4) → ∃ r, R 16 t = some r ∧ RuR I R G t r := hI.2.2.2.2.2.1.2.2
  obtain ⟨pl, hst⟩ : ∃ pl, StR I R G 17 pl (I 62) := hI.2.2.2.2.2.2.1
  have hO : SOk (I 62) (cl (I 0 4)) := hI.2.2.2.2.2.2.2.1
  by_cases hr : ¬ rule < 0 ∧ ¬ I 0 4 ≤ rule
  · have e5 : I 62 5 = nI (cl (I 62 5)) := hO.2.2.2.2.1.1
    obtain ⟨t, htl, rfl⟩ := ix_of hN1 (by omega) hr
    have ht6 : t < 6 := by have := hN1.2; omega
    obtain ⟨r, hr1, hru⟩ := hN3 t htl
    have hz4 : zo G r 4 := by obtain ⟨_, _, _, _, _, h, _⟩ := hru; exact h.2.1
    by_cases hT : ¬ I 62 0 ≤ 0
    · by_cases g1 : m < 1
      · show zOk x 399 94 0 [.ref 0, .int (nI t), .int (m), .int (n), .int (what), zU, zU, zU, zU, zU] [] _ _
        refine k_aload f94_0 rfl ?_
        refine k_iload f94_1 rfl ?_
        refine e_v (as := [.int (nI t)]) (rest := []) f94_2 hS.o0 rfl rfl rfl (s_ruleAt1 (t := t) hR hS ht6 hr.2 hr1) ?_
        refine k_astore (L' := [.ref 0, .int (nI t), .int (m), .int (n), .int (what), .ref r, zU, zU, zU, zU]) f94_5 rfl rfl ?_
        refine k_aload f94_7 rfl ?_
        refine k_nullr f94_9 ?_
        refine k_aload f94_12 rfl ?_
        refine e_v (as := []) (rest := []) f94_13 hS.o0 rfl rfl rfl (s_hasTown hR hS hst) ?_
        refine k_beq f94_16 (fun h_ => absurd (hT) h_) (fun _ => ?_)
        refine k_iload f94_19 rfl ?_
        refine k_iconst (v := 1) f94_20 rfl ?_
        refine k_ic_lt f94_21 (fun _ => ?_) (fun h_ => absurd (g1) h_)
        refine k_iconst (v := (-1)) f94_42 rfl ?_
        refine k_iret f94_43 rfl ⟨_, rfl, ?_⟩
        show zOk x 399 201 0 [.ref 51, .int (nI t), .int (m), .int (n), .int (what), zU, zU, zU, zU, zU, zU, zU, zU] [] _ _
        refine k_aload f201_0 rfl ?_
        refine k_getr (q := 62) f201_1 hS.o51 rfl hR.r51_25 ?_
        refine k_iconst (v := 0) f201_4 rfl ?_
        refine k_ia (k := 0) (w := I 62 0) f201_5 hS.a62 rfl (by decide) (by decide) rfl ?_
        refine k_if_eq f201_6 (fun h_ => absurd h_ ((fun e => hT (by rw [e]; decide)))) (fun _ => ?_)
        refine k_aload f201_9 rfl ?_
        refine k_iload f201_10 rfl ?_
        refine e_v (as := [.int (nI t)]) (rest := []) f201_11 hS.o51 rfl rfl rfl (s_isRule (w := I 0 4) hS hN2) ?_
        refine k_beq f201_14 (fun h_ => absurd (hr) h_) (fun _ => ?_)
        refine k_iload f201_17 rfl ?_
        refine k_i2l f201_18 ?_
        refine k_lconst (v := 1) f201_19 rfl ?_
        refine k_lconst (v := 10) f201_20 rfl ?_
        refine e_s (as := [.long (10), .long (1), .long ((m).toInt64)]) (rest := []) f201_23 rfl rfl rfl (s_in (1) (10) rfl rfl) ?_
        refine k_beq f201_26 (fun _ => ?_) (fun h_ => (absurd h_ ((fun h => h.1 g1))))
        refine k_iconst (v := (-1)) f201_52 rfl ?_
        refine k_iret f201_53 rfl ⟨rfl, ?_⟩
        exact inv_q hI (by omega) Kq.rfl KS.rfl
      · by_cases g2 : 10 < m
        · show zOk x 399 94 0 [.ref 0, .int (nI t), .int (m), .int (n), .int (what), zU, zU, zU, zU, zU] [] _ _
          refine k_aload f94_0 rfl ?_
          refine k_iload f94_1 rfl ?_
          refine e_v (as := [.int (nI t)]) (rest := []) f94_2 hS.o0 rfl rfl rfl (s_ruleAt1 (t := t) hR hS ht6 hr.2 hr1) ?_
          refine k_astore (L' := [.ref 0, .int (nI t), .int (m), .int (n), .int (what), .ref r, zU, zU, zU, zU]) f94_5 rfl rfl ?_
          refine k_aload f94_7 rfl ?_
          refine k_nullr f94_9 ?_
          refine k_aload f94_12 rfl ?_
          refine e_v (as := []) (rest := []) f94_13 hS.o0 rfl rfl rfl (s_hasTown hR hS hst) ?_
          refine k_beq f94_16 (fun h_ => absurd (hT) h_) (fun _ => ?_)
          refine k_iload f94_19 rfl ?_
          refine k_iconst (v := 1) f94_20 rfl ?_
          refine k_ic_lt f94_21 (fun h_ => absurd h_ (g1)) (fun _ => ?_)
          refine k_iload f94_24 rfl ?_
          refine k_iconst (v := 10) f94_25 rfl ?_
          refine k_ic_gt f94_27 (fun _ => ?_) (fun h_ => absurd (g2) h_)
          refine k_iconst (v := (-1)) f94_42 rfl ?_
          refine k_iret f94_43 rfl ⟨_, rfl, ?_⟩
          show zOk x 399 201 0 [.ref 51, .int (nI t), .int (m), .int (n), .int (what), zU, zU, zU, zU, zU, zU, zU, zU] [] _ _
          refine k_aload f201_0 rfl ?_
          refine k_getr (q := 62) f201_1 hS.o51 rfl hR.r51_25 ?_
          refine k_iconst (v := 0) f201_4 rfl ?_
          refine k_ia (k := 0) (w := I 62 0) f201_5 hS.a62 rfl (by decide) (by decide) rfl ?_
          refine k_if_eq f201_6 (fun h_ => absurd h_ ((fun e => hT (by rw [e]; decide)))) (fun _ => ?_)
          refine k_aload f201_9 rfl ?_
          refine k_iload f201_10 rfl ?_
          refine e_v (as := [.int (nI t)]) (rest := []) f201_11 hS.o51 rfl rfl rfl (s_isRule (w := I 0 4) hS hN2) ?_
          refine k_beq f201_14 (fun h_ => absurd (hr) h_) (fun _ => ?_)
          refine k_iload f201_17 rfl ?_
          refine k_i2l f201_18 ?_
          refine k_lconst (v := 1) f201_19 rfl ?_
          refine k_lconst (v := 10) f201_20 rfl ?_
          refine e_s (as := [.long (10), .long (1), .long ((m).toInt64)]) (rest := []) f201_23 rfl rfl rfl (s_in (1) (10) rfl rfl) ?_
          refine k_beq f201_26 (fun _ => ?_) (fun h_ => (absurd h_ ((fun h => h.2 g2))))
          refine k_iconst (v := (-1)) f201_52 rfl ?_
          refine k_iret f201_53 rfl ⟨rfl, ?_⟩
          exact inv_q hI (by omega) Kq.rfl KS.rfl
        · obtain ⟨M, hM, rfl⟩ := nI_of2 (x := m) (M := 10) (n := 10) (by decide) (fun q => g1 (Int32.lt_trans q (by decide))) (Int32.not_lt.mp g2)
          by_cases g3 : n < 1
          · show zOk x 399 94 0 [.ref 0, .int (nI t), .int (nI M), .int (n), .int (what), zU, zU, zU, zU, zU] [] _ _
            refine k_aload f94_0 rfl ?_
            refine k_iload f94_1 rfl ?_
            refine e_v (as := [.int (nI t)]) (rest := []) f94_2 hS.o0 rfl rfl rfl (s_ruleAt1 (t := t) hR hS ht6 hr.2 hr1) ?_
            refine k_astore (L' := [.ref 0, .int (nI t), .int (nI M), .int (n), .int (what), .ref r, zU, zU, zU, zU]) f94_5 rfl rfl ?_
            refine k_aload f94_7 rfl ?_
            refine k_nullr f94_9 ?_
            refine k_aload f94_12 rfl ?_
            refine e_v (as := []) (rest := []) f94_13 hS.o0 rfl rfl rfl (s_hasTown hR hS hst) ?_
            refine k_beq f94_16 (fun h_ => absurd (hT) h_) (fun _ => ?_)
            refine k_iload f94_19 rfl ?_
            refine k_iconst (v := 1) f94_20 rfl ?_
            refine k_ic_lt f94_21 (fun h_ => absurd h_ (g1)) (fun _ => ?_)
            refine k_iload f94_24 rfl ?_
            refine k_iconst (v := 10) f94_25 rfl ?_
            refine k_ic_gt f94_27 (fun h_ => absurd h_ (g2)) (fun _ => ?_)
            refine k_iload f94_30 rfl ?_
            refine k_iconst (v := 1) f94_31 rfl ?_
            refine k_ic_lt f94_32 (fun _ => ?_) (fun h_ => absurd (g3) h_)
            refine k_iconst (v := (-1)) f94_42 rfl ?_
            refine k_iret f94_43 rfl ⟨_, rfl, ?_⟩
            show zOk x 399 201 0 [.ref 51, .int (nI t), .int (nI M), .int (n), .int (what), zU, zU, zU, zU, zU, zU, zU, zU] [] _ _
            refine k_aload f201_0 rfl ?_
            refine k_getr (q := 62) f201_1 hS.o51 rfl hR.r51_25 ?_
            refine k_iconst (v := 0) f201_4 rfl ?_
            refine k_ia (k := 0) (w := I 62 0) f201_5 hS.a62 rfl (by decide) (by decide) rfl ?_
            refine k_if_eq f201_6 (fun h_ => absurd h_ ((fun e => hT (by rw [e]; decide)))) (fun _ => ?_)
            refine k_aload f201_9 rfl ?_
            refine k_iload f201_10 rfl ?_
            refine e_v (as := [.int (nI t)]) (rest := []) f201_11 hS.o51 rfl rfl rfl (s_isRule (w := I 0 4) hS hN2) ?_
            refine k_beq f201_14 (fun h_ => absurd (hr) h_) (fun _ => ?_)
            refine k_iload f201_17 rfl ?_
            refine k_i2l f201_18 ?_
            refine k_lconst (v := 1) f201_19 rfl ?_
            refine k_lconst (v := 10) f201_20 rfl ?_
            refine e_s (as := [.long (10), .long (1), .long ((nI M).toInt64)]) (rest := []) f201_23 rfl rfl rfl (s_in (1) (10) rfl rfl) ?_
            refine k_beq f201_26 (fun h_ => absurd (⟨g1, g2⟩) h_) (fun _ => ?_)
            refine k_iload f201_29 rfl ?_
            refine k_i2l f201_30 ?_
            refine k_lconst (v := 1) f201_31 rfl ?_
            refine k_lconst (v := 400) f201_32 rfl ?_
            refine e_s (as := [.long (400), .long (1), .long ((n).toInt64)]) (rest := []) f201_35 rfl rfl rfl (s_in (1) (400) rfl rfl) ?_
            refine k_beq f201_38 (fun _ => ?_) (fun h_ => (absurd h_ ((fun h => h.1 g3))))
            refine k_iconst (v := (-1)) f201_52 rfl ?_
            refine k_iret f201_53 rfl ⟨rfl, ?_⟩
            exact inv_q hI (by omega) Kq.rfl KS.rfl
          · by_cases g4 : n ≤ 400
            · obtain ⟨D, hD, rfl⟩ := nI_of2 (x := n) (M := 400) (n := 400) (by decide) (fun q => g3 (Int32.lt_trans q (by decide))) g4
              have hP11 := hO.1.2
              have hX5 : cl (I 62 5) < 2147483648 := hO.2.2.2.2.1.2
              obtain ⟨P, hP0, eP⟩ : ∃ P, I 62 0 = nI P ∧ P = cl (I 62 0) := ⟨_, hO.1.1, rfl⟩
              rw [← eP] at hP11
              have hPp : 0 < P := by
                apply Nat.pos_of_ne_zero
                intro e
                rw [e] at hP0
                exact hT (by rw [hP0]; decide)
              rcases sw2 what with (gw | gw) | rfl | rfl
              · show zOk x 399 94 0 [.ref 0, .int (nI t), .int (nI M), .int (nI D), .int (what), zU, zU, zU, zU, zU] [] _ _
                refine k_aload f94_0 rfl ?_
                refine k_iload f94_1 rfl ?_
                refine e_v (as := [.int (nI t)]) (rest := []) f94_2 hS.o0 rfl rfl rfl (s_ruleAt1 (t := t) hR hS ht6 hr.2 hr1) ?_
                refine k_astore (L' := [.ref 0, .int (nI t), .int (nI M), .int (nI D), .int (what), .ref r, zU, zU, zU, zU]) f94_5 rfl rfl ?_
                refine k_aload f94_7 rfl ?_
                refine k_nullr f94_9 ?_
                refine k_aload f94_12 rfl ?_
                refine e_v (as := []) (rest := []) f94_13 hS.o0 rfl rfl rfl (s_hasTown hR hS hst) ?_
                refine k_beq f94_16 (fun h_ => absurd (hT) h_) (fun _ => ?_)
                refine k_iload f94_19 rfl ?_
                refine k_iconst (v := 1) f94_20 rfl ?_
                refine k_ic_lt f94_21 (fun h_ => absurd h_ (g1)) (fun _ => ?_)
                refine k_iload f94_24 rfl ?_
                refine k_iconst (v := 10) f94_25 rfl ?_
                refine k_ic_gt f94_27 (fun h_ => absurd h_ (g2)) (fun _ => ?_)
                refine k_iload f94_30 rfl ?_
                refine k_iconst (v := 1) f94_31 rfl ?_
                refine k_ic_lt f94_32 (fun h_ => absurd h_ (g3)) (fun _ => ?_)
                refine k_iload f94_35 rfl ?_
                refine k_iconst (v := 400) f94_36 rfl ?_
                refine k_ic_le f94_39 (fun _ => ?_) (fun h_ => absurd (g4) h_)
                refine k_iload f94_44 rfl ?_
                refine k_if_lt f94_46 (fun _ => ?_) (fun h_ => absurd (gw) h_)
                refine k_iconst (v := (-1)) f94_55 rfl ?_
                refine k_iret f94_56 rfl ⟨_, rfl, ?_⟩
                show zOk x 399 201 0 [.ref 51, .int (nI t), .int (nI M), .int (nI D), .int (what), zU, zU, zU, zU, zU, zU, zU, zU] [] _ _
                refine k_aload f201_0 rfl ?_
                refine k_getr (q := 62) f201_1 hS.o51 rfl hR.r51_25 ?_
                refine k_iconst (v := 0) f201_4 rfl ?_
                refine k_ia (k := 0) (w := I 62 0) f201_5 hS.a62 rfl (by decide) (by decide) rfl ?_
                refine k_if_eq f201_6 (fun h_ => absurd h_ ((fun e => hT (by rw [e]; decide)))) (fun _ => ?_)
                refine k_aload f201_9 rfl ?_
                refine k_iload f201_10 rfl ?_
                refine e_v (as := [.int (nI t)]) (rest := []) f201_11 hS.o51 rfl rfl rfl (s_isRule (w := I 0 4) hS hN2) ?_
                refine k_beq f201_14 (fun h_ => absurd (hr) h_) (fun _ => ?_)
                refine k_iload f201_17 rfl ?_
                refine k_i2l f201_18 ?_
                refine k_lconst (v := 1) f201_19 rfl ?_
                refine k_lconst (v := 10) f201_20 rfl ?_
                refine e_s (as := [.long (10), .long (1), .long ((nI M).toInt64)]) (rest := []) f201_23 rfl rfl rfl (s_in (1) (10) rfl rfl) ?_
                refine k_beq f201_26 (fun h_ => absurd (⟨g1, g2⟩) h_) (fun _ => ?_)
                refine k_iload f201_29 rfl ?_
                refine k_i2l f201_30 ?_
                refine k_lconst (v := 1) f201_31 rfl ?_
                refine k_lconst (v := 400) f201_32 rfl ?_
                refine e_s (as := [.long (400), .long (1), .long ((nI D).toInt64)]) (rest := []) f201_35 rfl rfl rfl (s_in (1) (400) rfl rfl) ?_
                refine k_beq f201_38 (fun h_ => absurd (⟨g3, Int32.not_lt.mpr g4⟩) h_) (fun _ => ?_)
                refine k_iload f201_41 rfl ?_
                refine k_i2l f201_43 ?_
                refine k_lconst (v := 0) f201_44 rfl ?_
                refine k_lconst (v := 1) f201_45 rfl ?_
                refine e_s (as := [.long (1), .long (0), .long ((what).toInt64)]) (rest := []) f201_46 rfl rfl rfl (s_in (0) (1) rfl rfl) ?_
                refine k_bne f201_49 (fun h_ => absurd h_ ((fun h => h.1 gw))) (fun _ => ?_)
                refine k_iconst (v := (-1)) f201_52 rfl ?_
                refine k_iret f201_53 rfl ⟨rfl, ?_⟩
                exact inv_q hI (by omega) Kq.rfl KS.rfl
              · show zOk x 399 94 0 [.ref 0, .int (nI t), .int (nI M), .int (nI D), .int (what), zU, zU, zU, zU, zU] [] _ _
                refine k_aload f94_0 rfl ?_
                refine k_iload f94_1 rfl ?_
                refine e_v (as := [.int (nI t)]) (rest := []) f94_2 hS.o0 rfl rfl rfl (s_ruleAt1 (t := t) hR hS ht6 hr.2 hr1) ?_
                refine k_astore (L' := [.ref 0, .int (nI t), .int (nI M), .int (nI D), .int (what), .ref r, zU, zU, zU, zU]) f94_5 rfl rfl ?_
                refine k_aload f94_7 rfl ?_
                refine k_nullr f94_9 ?_
                refine k_aload f94_12 rfl ?_
                refine e_v (as := []) (rest := []) f94_13 hS.o0 rfl rfl rfl (s_hasTown hR hS hst) ?_
                refine k_beq f94_16 (fun h_ => absurd (hT) h_) (fun _ => ?_)
                refine k_iload f94_19 rfl ?_
                refine k_iconst (v := 1) f94_20 rfl ?_
                refine k_ic_lt f94_21 (fun h_ => absurd h_ (g1)) (fun _ => ?_)
                refine k_iload f94_24 rfl ?_
                refine k_iconst (v := 10) f94_25 rfl ?_
                refine k_ic_gt f94_27 (fun h_ => absurd h_ (g2)) (fun _ => ?_)
                refine k_iload f94_30 rfl ?_
                refine k_iconst (v := 1) f94_31 rfl ?_
                refine k_ic_lt f94_32 (fun h_ => absurd h_ (g3)) (fun _ => ?_)
                refine k_iload f94_35 rfl ?_
                refine k_iconst (v := 400) f94_36 rfl ?_
                refine k_ic_le f94_39 (fun _ => ?_) (fun h_ => absurd (g4) h_)
                refine k_iload f94_44 rfl ?_
                refine k_if_lt f94_46 (fun g0 => ?_) (fun g0 => ?_)
                · refine k_iconst (v := (-1)) f94_55 rfl ?_
                  refine k_iret f94_56 rfl ⟨_, rfl, ?_⟩
                  show zOk x 399 201 0 [.ref 51, .int (nI t), .int (nI M), .int (nI D), .int (what), zU, zU, zU, zU, zU, zU, zU, zU] [] _ _
                  refine k_aload f201_0 rfl ?_
                  refine k_getr (q := 62) f201_1 hS.o51 rfl hR.r51_25 ?_
                  refine k_iconst (v := 0) f201_4 rfl ?_
                  refine k_ia (k := 0) (w := I 62 0) f201_5 hS.a62 rfl (by decide) (by decide) rfl ?_
                  refine k_if_eq f201_6 (fun h_ => absurd h_ ((fun e => hT (by rw [e]; decide)))) (fun _ => ?_)
                  refine k_aload f201_9 rfl ?_
                  refine k_iload f201_10 rfl ?_
                  refine e_v (as := [.int (nI t)]) (rest := []) f201_11 hS.o51 rfl rfl rfl (s_isRule (w := I 0 4) hS hN2) ?_
                  refine k_beq f201_14 (fun h_ => absurd (hr) h_) (fun _ => ?_)
                  refine k_iload f201_17 rfl ?_
                  refine k_i2l f201_18 ?_
                  refine k_lconst (v := 1) f201_19 rfl ?_
                  refine k_lconst (v := 10) f201_20 rfl ?_
                  refine e_s (as := [.long (10), .long (1), .long ((nI M).toInt64)]) (rest := []) f201_23 rfl rfl rfl (s_in (1) (10) rfl rfl) ?_
                  refine k_beq f201_26 (fun h_ => absurd (⟨g1, g2⟩) h_) (fun _ => ?_)
                  refine k_iload f201_29 rfl ?_
                  refine k_i2l f201_30 ?_
                  refine k_lconst (v := 1) f201_31 rfl ?_
                  refine k_lconst (v := 400) f201_32 rfl ?_
                  refine e_s (as := [.long (400), .long (1), .long ((nI D).toInt64)]) (rest := []) f201_35 rfl rfl rfl (s_in (1) (400) rfl rfl) ?_
                  refine k_beq f201_38 (fun h_ => absurd (⟨g3, Int32.not_lt.mpr g4⟩) h_) (fun _ => ?_)
                  refine k_iload f201_41 rfl ?_
                  refine k_i2l f201_43 ?_
                  refine k_lconst (v := 0) f201_44 rfl ?_
                  refine k_lconst (v := 1) f201_45 rfl ?_
                  refine e_s (as := [.long (1), .long (0), .long ((what).toInt64)]) (rest := []) f201_46 rfl rfl rfl (s_in (0) (1) rfl rfl) ?_
                  refine k_bne f201_49 (fun h_ => absurd h_ ((fun h => h.2 gw))) (fun _ => ?_)
                  refine k_iconst (v := (-1)) f201_52 rfl ?_
                  refine k_iret f201_53 rfl ⟨rfl, ?_⟩
                  exact inv_q hI (by omega) Kq.rfl KS.rfl
                · refine k_iload f94_49 rfl ?_
                  refine k_iconst (v := 1) f94_51 rfl ?_
                  refine k_ic_le f94_52 (fun h_ => absurd h_ (Int32.not_le.mpr gw)) (fun _ => ?_)
                  refine k_iconst (v := (-1)) f94_55 rfl ?_
                  refine k_iret f94_56 rfl ⟨_, rfl, ?_⟩
                  show zOk x 399 201 0 [.ref 51, .int (nI t), .int (nI M), .int (nI D), .int (what), zU, zU, zU, zU, zU, zU, zU, zU] [] _ _
                  refine k_aload f201_0 rfl ?_
                  refine k_getr (q := 62) f201_1 hS.o51 rfl hR.r51_25 ?_
                  refine k_iconst (v := 0) f201_4 rfl ?_
                  refine k_ia (k := 0) (w := I 62 0) f201_5 hS.a62 rfl (by decide) (by decide) rfl ?_
                  refine k_if_eq f201_6 (fun h_ => absurd h_ ((fun e => hT (by rw [e]; decide)))) (fun _ => ?_)
                  refine k_aload f201_9 rfl ?_
                  refine k_iload f201_10 rfl ?_
                  refine e_v (as := [.int (nI t)]) (rest := []) f201_11 hS.o51 rfl rfl rfl (s_isRule (w := I 0 4) hS hN2) ?_
                  refine k_beq f201_14 (fun h_ => absurd (hr) h_) (fun _ => ?_)
                  refine k_iload f201_17 rfl ?_
                  refine k_i2l f201_18 ?_
                  refine k_lconst (v := 1) f201_19 rfl ?_
                  refine k_lconst (v := 10) f201_20 rfl ?_
                  refine e_s (as := [.long (10), .long (1), .long ((nI M).toInt64)]) (rest := []) f201_23 rfl rfl rfl (s_in (1) (10) rfl rfl) ?_
                  refine k_beq f201_26 (fun h_ => absurd (⟨g1, g2⟩) h_) (fun _ => ?_)
                  refine k_iload f201_29 rfl ?_
                  refine k_i2l f201_30 ?_
                  refine k_lconst (v := 1) f201_31 rfl ?_
                  refine k_lconst (v := 400) f201_32 rfl ?_
                  refine e_s (as := [.long (400), .long (1), .long ((nI D).toInt64)]) (rest := []) f201_35 rfl rfl rfl (s_in (1) (400) rfl rfl) ?_
                  refine k_beq f201_38 (fun h_ => absurd (⟨g3, Int32.not_lt.mpr g4⟩) h_) (fun _ => ?_)
                  refine k_iload f201_41 rfl ?_
                  refine k_i2l f201_43 ?_
                  refine k_lconst (v := 0) f201_44 rfl ?_
                  refine k_lconst (v := 1) f201_45 rfl ?_
                  refine e_s (as := [.long (1), .long (0), .long ((what).toInt64)]) (rest := []) f201_46 rfl rfl rfl (s_in (0) (1) rfl rfl) ?_
                  refine k_bne f201_49 (fun h_ => absurd h_ ((fun h => h.2 gw))) (fun _ => ?_)
                  refine k_iconst (v := (-1)) f201_52 rfl ?_
                  refine k_iret f201_53 rfl ⟨rfl, ?_⟩
                  exact inv_q hI (by omega) Kq.rfl KS.rfl
              · show zOk x 399 94 0 [.ref 0, .int (nI t), .int (nI M), .int (nI D), .int (0), zU, zU, zU, zU, zU] [] _ _
                refine k_aload f94_0 rfl ?_
                refine k_iload f94_1 rfl ?_
                refine e_v (as := [.int (nI t)]) (rest := []) f94_2 hS.o0 rfl rfl rfl (s_ruleAt1 (t := t) hR hS ht6 hr.2 hr1) ?_
                refine k_astore (L' := [.ref 0, .int (nI t), .int (nI M), .int (nI D), .int (0), .ref r, zU, zU, zU, zU]) f94_5 rfl rfl ?_
                refine k_aload f94_7 rfl ?_
                refine k_nullr f94_9 ?_
                refine k_aload f94_12 rfl ?_
                refine e_v (as := []) (rest := []) f94_13 hS.o0 rfl rfl rfl (s_hasTown hR hS hst) ?_
                refine k_beq f94_16 (fun h_ => absurd (hT) h_) (fun _ => ?_)
                refine k_iload f94_19 rfl ?_
                refine k_iconst (v := 1) f94_20 rfl ?_
                refine k_ic_lt f94_21 (fun h_ => absurd h_ (g1)) (fun _ => ?_)
                refine k_iload f94_24 rfl ?_
                refine k_iconst (v := 10) f94_25 rfl ?_
                refine k_ic_gt f94_27 (fun h_ => absurd h_ (g2)) (fun _ => ?_)
                refine k_iload f94_30 rfl ?_
                refine k_iconst (v := 1) f94_31 rfl ?_
                refine k_ic_lt f94_32 (fun h_ => absurd h_ (g3)) (fun _ => ?_)
                refine k_iload f94_35 rfl ?_
                refine k_iconst (v := 400) f94_36 rfl ?_
                refine k_ic_le f94_39 (fun _ => ?_) (fun h_ => absurd (g4) h_)
                refine k_iload f94_44 rfl ?_
                refine k_if_lt f94_46 (fun h_ => absurd h_ (by decide)) (fun _ => ?_)
                refine k_iload f94_49 rfl ?_
                refine k_iconst (v := 1) f94_51 rfl ?_
                refine k_ic_le f94_52 (fun _ => ?_) (fun h_ => absurd (by decide) h_)
                refine k_aload f94_57 rfl ?_
                refine k_getr (q := 17) f94_58 hS.o0 rfl hR.r0_5 ?_
                refine k_gI (w := nI (cl (I 62 5))) f94_61 hS.o17 rfl (hst.2.2.2.2.2.2.2.1.trans e5) ?_
                refine k_istore (L' := [.ref 0, .int (nI t), .int (nI M), .int (nI D), .int (0), .ref r, .int (nI (cl (I 62 5))), zU, zU, zU]) f94_64 rfl rfl ?_
                refine k_iconst (v := 0) f94_66 rfl ?_
                refine k_istore (L' := [.ref 0, .int (nI t), .int (nI M), .int (nI D), .int (0), .ref r, .int (nI (cl (I 62 5))), .int (0), zU, zU]) f94_67 rfl rfl ?_
                refine k_iconst (v := 0) f94_69 rfl ?_
                refine k_istore (L' := [.ref 0, .int (nI t), .int (nI M), .int (nI D), .int (0), .ref r, .int (nI (cl (I 62 5))), .int (0), .int (0), zU]) f94_70 rfl rfl ?_
                refine k_iconst (v := 0) f94_72 rfl ?_
                refine k_istore (L' := [.ref 0, .int (nI t), .int (nI M), .int (nI D), .int (0), .ref r, .int (nI (cl (I 62 5))), .int (0), .int (0), .int (0)]) f94_73 rfl rfl ?_
                obtain ⟨qf, eqf⟩ : ∃ qf, foL (fun _ => yrC (soB I t) (cl (I 62 1)) (cl (I 62 2)) P D (I 62)) 0 M (cl (I 62 5), (0, 0)) = qf := ⟨_, rfl⟩
                refine zOk.imp (lp_yrC (wh := 0) (qf := qf) (I0 := I) (R0 := R) (s := I 62) (P := P) hR hS hst hru hO hP0 hPp hP11 hD hM M 0 (cl (I 62 5), (0, 0)) I J R (by omega) ⟨fun _ _ _ _ => rfl, fun _ _ _ => rfl, hX5, eqf⟩) ?_
                rintro _ _ ⟨rfl, I2, J2, R2, rfl, hfI, hfR⟩
                refine ⟨_, rfl, ?_⟩
                rw [show (if (0 : Int32) = 0 then qf.2.1 else qf.2.2) = qf.2.1 from if_pos rfl]
                have hR2 : Rs R2 := rs_keep hS hR (fun p k _ h1 _ => hfR p k (by omega))
                have kr2 : Kr I I2 := fun p k hp => hfI p k (by omega) (by omega)
                have hA2 : RuA I2 R2 G := ⟨by rw [kr2 0 4 (by omega)]; exact hN1, fun t ht => by
                  rw [kr2 0 4 (by omega)] at ht
                  obtain ⟨r, g1, g2⟩ := hN3 t ht
                  exact ⟨r, (hfR 16 t (by omega)).trans g1, (g2.kr kr2).rr fun p k hp => hfR p k (by omega)⟩⟩
                have hs2 : I2 62 = I 62 := funext fun k => hfI 62 k (by omega) (by omega)
                show zOk x 399 201 0 [.ref 51, .int (nI t), .int (nI M), .int (nI D), .int (0), zU, zU, zU, zU, zU, zU, zU, zU] [] _ _
                refine k_aload f201_0 rfl ?_
                refine k_getr (q := 62) f201_1 hS.o51 rfl hR2.r51_25 ?_
                refine k_iconst (v := 0) f201_4 rfl ?_
                refine k_ia (k := 0) (w := I 62 0) f201_5 hS.a62 rfl (by decide) (by decide) (congrFun hs2 _) ?_
                refine k_if_eq f201_6 (fun h_ => absurd h_ ((fun e => hT (by rw [e]; decide)))) (fun _ => ?_)
                refine k_aload f201_9 rfl ?_
                refine k_iload f201_10 rfl ?_
                refine e_v (as := [.int (nI t)]) (rest := []) f201_11 hS.o51 rfl rfl rfl (s_isRule (w := I 0 4) hS ((hfI 51 2 (by omega) (by omega)).trans hN2)) ?_
                refine k_beq f201_14 (fun h_ => absurd (hr) h_) (fun _ => ?_)
                refine k_iload f201_17 rfl ?_
                refine k_i2l f201_18 ?_
                refine k_lconst (v := 1) f201_19 rfl ?_
                refine k_lconst (v := 10) f201_20 rfl ?_
                refine e_s (as := [.long (10), .long (1), .long ((nI M).toInt64)]) (rest := []) f201_23 rfl rfl rfl (s_in (1) (10) rfl rfl) ?_
                refine k_beq f201_26 (fun h_ => absurd (⟨g1, g2⟩) h_) (fun _ => ?_)
                refine k_iload f201_29 rfl ?_
                refine k_i2l f201_30 ?_
                refine k_lconst (v := 1) f201_31 rfl ?_
                refine k_lconst (v := 400) f201_32 rfl ?_
                refine e_s (as := [.long (400), .long (1), .long ((nI D).toInt64)]) (rest := []) f201_35 rfl rfl rfl (s_in (1) (400) rfl rfl) ?_
                refine k_beq f201_38 (fun h_ => absurd (⟨g3, Int32.not_lt.mpr g4⟩) h_) (fun _ => ?_)
                refine k_iload f201_41 rfl ?_
                refine k_i2l f201_43 ?_
                refine k_lconst (v := 0) f201_44 rfl ?_
                refine k_lconst (v := 1) f201_45 rfl ?_
                refine e_s (as := [.long (1), .long (0), .long ((0 : Int32).toInt64)]) (rest := []) f201_46 rfl rfl rfl (s_in (0) (1) rfl rfl) ?_
                refine k_bne f201_49 (fun _ => ?_) (fun h_ => absurd (by decide) h_)
                refine k_aload f201_54 rfl ?_
                refine k_callv (as := []) (rest := []) f201_55 hS.o51 rfl rfl rfl rfl (q_keeps hR2 hS) ?_
                rintro _ _ ⟨rfl, I3, rfl, w3⟩
                have hs3 : I3 62 = I 62 := (funext fun k => w3.1 62 k (by omega)).trans hs2
                refine k_aload f201_58 rfl ?_
                refine k_getr (q := 62) f201_59 hS.o51 rfl hR2.r51_25 ?_
                refine k_iconst (v := 5) f201_62 rfl ?_
                refine k_ia (k := 5) (w := nI (cl (I 62 5))) f201_63 hS.a62 rfl (by decide) (by decide) ((congrFun hs3 5).trans e5) ?_
                refine k_i2l f201_64 ?_
                rw [nI_l (by omega)]
                refine k_lstore (L' := [.ref 51, .int (nI t), .int (nI M), .int (nI D), .int (0), .long (lN (cl (I 62 5))), zU, zU, zU, zU, zU, zU, zU]) f201_65 rfl rfl ?_
                refine k_iconst (v := 0) f201_67 rfl ?_
                refine k_istore (L' := [.ref 51, .int (nI t), .int (nI M), .int (nI D), .int (0), .long (lN (cl (I 62 5))), zU, .int (0), zU, zU, zU, zU, zU]) f201_68 rfl rfl ?_
                refine k_iconst (v := 0) f201_70 rfl ?_
                refine k_istore (L' := [.ref 51, .int (nI t), .int (nI M), .int (nI D), .int (0), .long (lN (cl (I 62 5))), zU, .int (0), .int (0), zU, zU, zU, zU]) f201_71 rfl rfl ?_
                have k63 : ∀ k, k < 139 → I3 63 k = I 62 k := fun k hk => by
                  have a := w3.2 k hk
                  rw [Nat.zero_add] at a
                  rw [a, hs2]
                have kr3 : Kr I2 I3 := fun p k hp => w3.1 p k (by omega)
                have eso3 : soB I3 t = soB I t := funext fun w => funext fun k => (soB_kr kr3 t w k).trans (soB_kr kr2 t w k)
                refine zOk.imp (lp_yr20 (qf := qf) (I0 := I3) (s := I 62) (P := P) hR2 hS ht6 (hA2.kr kr3) (by rw [kr3 0 4 (by omega), kr2 0 4 (by omega)]; exact htl) hO hP0 hPp hP11 hD hM hs3 k63 M 0 (cl (I 62 5), (0, 0)) I3 J2 _ _ _ _ (by omega) ⟨hs3, fun _ _ _ _ => rfl, hX5, by rw [eso3]; exact eqf⟩) ?_
                rintro _ _ ⟨rfl, I6, J6, rfl, h62, hf6⟩
                refine ⟨rfl, inv_q hI (by omega) (fun p k hp hs => ?_) (fun p k _ h1 _ => hfR p k h1)⟩
                by_cases e : p = 62
                · subst e
                  rw [h62]
                · rw [hf6 p k e (fun h => hs (by unfold sc0; omega)), w3.1 p k (fun h => hs (by unfold sc0; omega)), hfI p k (fun h => hs (by unfold sc0; omega)) (fun h => hs (by unfold sc0; omega))]
              · show zOk x 399 94 0 [.ref 0, .int (nI t), .int (nI M), .int (nI D), .int (1), zU, zU, zU, zU, zU] [] _ _
                refine k_aload f94_0 rfl ?_
                refine k_iload f94_1 rfl ?_
                refine e_v (as := [.int (nI t)]) (rest := []) f94_2 hS.o0 rfl rfl rfl (s_ruleAt1 (t := t) hR hS ht6 hr.2 hr1) ?_
                refine k_astore (L' := [.ref 0, .int (nI t), .int (nI M), .int (nI D), .int (1), .ref r, zU, zU, zU, zU]) f94_5 rfl rfl ?_
                refine k_aload f94_7 rfl ?_
                refine k_nullr f94_9 ?_
                refine k_aload f94_12 rfl ?_
                refine e_v (as := []) (rest := []) f94_13 hS.o0 rfl rfl rfl (s_hasTown hR hS hst) ?_
                refine k_beq f94_16 (fun h_ => absurd (hT) h_) (fun _ => ?_)
                refine k_iload f94_19 rfl ?_
                refine k_iconst (v := 1) f94_20 rfl ?_
                refine k_ic_lt f94_21 (fun h_ => absurd h_ (g1)) (fun _ => ?_)
                refine k_iload f94_24 rfl ?_
                refine k_iconst (v := 10) f94_25 rfl ?_
                refine k_ic_gt f94_27 (fun h_ => absurd h_ (g2)) (fun _ => ?_)
                refine k_iload f94_30 rfl ?_
                refine k_iconst (v := 1) f94_31 rfl ?_
                refine k_ic_lt f94_32 (fun h_ => absurd h_ (g3)) (fun _ => ?_)
                refine k_iload f94_35 rfl ?_
                refine k_iconst (v := 400) f94_36 rfl ?_
                refine k_ic_le f94_39 (fun _ => ?_) (fun h_ => absurd (g4) h_)
                refine k_iload f94_44 rfl ?_
                refine k_if_lt f94_46 (fun h_ => absurd h_ (by decide)) (fun _ => ?_)
                refine k_iload f94_49 rfl ?_
                refine k_iconst (v := 1) f94_51 rfl ?_
                refine k_ic_le f94_52 (fun _ => ?_) (fun h_ => absurd (by decide) h_)
                refine k_aload f94_57 rfl ?_
                refine k_getr (q := 17) f94_58 hS.o0 rfl hR.r0_5 ?_
                refine k_gI (w := nI (cl (I 62 5))) f94_61 hS.o17 rfl (hst.2.2.2.2.2.2.2.1.trans e5) ?_
                refine k_istore (L' := [.ref 0, .int (nI t), .int (nI M), .int (nI D), .int (1), .ref r, .int (nI (cl (I 62 5))), zU, zU, zU]) f94_64 rfl rfl ?_
                refine k_iconst (v := 0) f94_66 rfl ?_
                refine k_istore (L' := [.ref 0, .int (nI t), .int (nI M), .int (nI D), .int (1), .ref r, .int (nI (cl (I 62 5))), .int (0), zU, zU]) f94_67 rfl rfl ?_
                refine k_iconst (v := 0) f94_69 rfl ?_
                refine k_istore (L' := [.ref 0, .int (nI t), .int (nI M), .int (nI D), .int (1), .ref r, .int (nI (cl (I 62 5))), .int (0), .int (0), zU]) f94_70 rfl rfl ?_
                refine k_iconst (v := 0) f94_72 rfl ?_
                refine k_istore (L' := [.ref 0, .int (nI t), .int (nI M), .int (nI D), .int (1), .ref r, .int (nI (cl (I 62 5))), .int (0), .int (0), .int (0)]) f94_73 rfl rfl ?_
                obtain ⟨qf, eqf⟩ : ∃ qf, foL (fun _ => yrC (soB I t) (cl (I 62 1)) (cl (I 62 2)) P D (I 62)) 0 M (cl (I 62 5), (0, 0)) = qf := ⟨_, rfl⟩
                refine zOk.imp (lp_yrC (wh := 1) (qf := qf) (I0 := I) (R0 := R) (s := I 62) (P := P) hR hS hst hru hO hP0 hPp hP11 hD hM M 0 (cl (I 62 5), (0, 0)) I J R (by omega) ⟨fun _ _ _ _ => rfl, fun _ _ _ => rfl, hX5, eqf⟩) ?_
                rintro _ _ ⟨rfl, I2, J2, R2, rfl, hfI, hfR⟩
                refine ⟨_, rfl, ?_⟩
                rw [show (if (1 : Int32) = 0 then qf.2.1 else qf.2.2) = qf.2.2 from if_neg (by decide)]
                have hR2 : Rs R2 := rs_keep hS hR (fun p k _ h1 _ => hfR p k (by omega))
                have kr2 : Kr I I2 := fun p k hp => hfI p k (by omega) (by omega)
                have hA2 : RuA I2 R2 G := ⟨by rw [kr2 0 4 (by omega)]; exact hN1, fun t ht => by
                  rw [kr2 0 4 (by omega)] at ht
                  obtain ⟨r, g1, g2⟩ := hN3 t ht
                  exact ⟨r, (hfR 16 t (by omega)).trans g1, (g2.kr kr2).rr fun p k hp => hfR p k (by omega)⟩⟩
                have hs2 : I2 62 = I 62 := funext fun k => hfI 62 k (by omega) (by omega)
                show zOk x 399 201 0 [.ref 51, .int (nI t), .int (nI M), .int (nI D), .int (1), zU, zU, zU, zU, zU, zU, zU, zU] [] _ _
                refine k_aload f201_0 rfl ?_
                refine k_getr (q := 62) f201_1 hS.o51 rfl hR2.r51_25 ?_
                refine k_iconst (v := 0) f201_4 rfl ?_
                refine k_ia (k := 0) (w := I 62 0) f201_5 hS.a62 rfl (by decide) (by decide) (congrFun hs2 _) ?_
                refine k_if_eq f201_6 (fun h_ => absurd h_ ((fun e => hT (by rw [e]; decide)))) (fun _ => ?_)
                refine k_aload f201_9 rfl ?_
                refine k_iload f201_10 rfl ?_
                refine e_v (as := [.int (nI t)]) (rest := []) f201_11 hS.o51 rfl rfl rfl (s_isRule (w := I 0 4) hS ((hfI 51 2 (by omega) (by omega)).trans hN2)) ?_
                refine k_beq f201_14 (fun h_ => absurd (hr) h_) (fun _ => ?_)
                refine k_iload f201_17 rfl ?_
                refine k_i2l f201_18 ?_
                refine k_lconst (v := 1) f201_19 rfl ?_
                refine k_lconst (v := 10) f201_20 rfl ?_
                refine e_s (as := [.long (10), .long (1), .long ((nI M).toInt64)]) (rest := []) f201_23 rfl rfl rfl (s_in (1) (10) rfl rfl) ?_
                refine k_beq f201_26 (fun h_ => absurd (⟨g1, g2⟩) h_) (fun _ => ?_)
                refine k_iload f201_29 rfl ?_
                refine k_i2l f201_30 ?_
                refine k_lconst (v := 1) f201_31 rfl ?_
                refine k_lconst (v := 400) f201_32 rfl ?_
                refine e_s (as := [.long (400), .long (1), .long ((nI D).toInt64)]) (rest := []) f201_35 rfl rfl rfl (s_in (1) (400) rfl rfl) ?_
                refine k_beq f201_38 (fun h_ => absurd (⟨g3, Int32.not_lt.mpr g4⟩) h_) (fun _ => ?_)
                refine k_iload f201_41 rfl ?_
                refine k_i2l f201_43 ?_
                refine k_lconst (v := 0) f201_44 rfl ?_
                refine k_lconst (v := 1) f201_45 rfl ?_
                refine e_s (as := [.long (1), .long (0), .long ((1 : Int32).toInt64)]) (rest := []) f201_46 rfl rfl rfl (s_in (0) (1) rfl rfl) ?_
                refine k_bne f201_49 (fun _ => ?_) (fun h_ => absurd (by decide) h_)
                refine k_aload f201_54 rfl ?_
                refine k_callv (as := []) (rest := []) f201_55 hS.o51 rfl rfl rfl rfl (q_keeps hR2 hS) ?_
                rintro _ _ ⟨rfl, I3, rfl, w3⟩
                have hs3 : I3 62 = I 62 := (funext fun k => w3.1 62 k (by omega)).trans hs2
                refine k_aload f201_58 rfl ?_
                refine k_getr (q := 62) f201_59 hS.o51 rfl hR2.r51_25 ?_
                refine k_iconst (v := 5) f201_62 rfl ?_
                refine k_ia (k := 5) (w := nI (cl (I 62 5))) f201_63 hS.a62 rfl (by decide) (by decide) ((congrFun hs3 5).trans e5) ?_
                refine k_i2l f201_64 ?_
                rw [nI_l (by omega)]
                refine k_lstore (L' := [.ref 51, .int (nI t), .int (nI M), .int (nI D), .int (1), .long (lN (cl (I 62 5))), zU, zU, zU, zU, zU, zU, zU]) f201_65 rfl rfl ?_
                refine k_iconst (v := 0) f201_67 rfl ?_
                refine k_istore (L' := [.ref 51, .int (nI t), .int (nI M), .int (nI D), .int (1), .long (lN (cl (I 62 5))), zU, .int (0), zU, zU, zU, zU, zU]) f201_68 rfl rfl ?_
                refine k_iconst (v := 0) f201_70 rfl ?_
                refine k_istore (L' := [.ref 51, .int (nI t), .int (nI M), .int (nI D), .int (1), .long (lN (cl (I 62 5))), zU, .int (0), .int (0), zU, zU, zU, zU]) f201_71 rfl rfl ?_
                have k63 : ∀ k, k < 139 → I3 63 k = I 62 k := fun k hk => by
                  have a := w3.2 k hk
                  rw [Nat.zero_add] at a
                  rw [a, hs2]
                have kr3 : Kr I2 I3 := fun p k hp => w3.1 p k (by omega)
                have eso3 : soB I3 t = soB I t := funext fun w => funext fun k => (soB_kr kr3 t w k).trans (soB_kr kr2 t w k)
                refine zOk.imp (lp_yr21 (qf := qf) (I0 := I3) (s := I 62) (P := P) hR2 hS ht6 (hA2.kr kr3) (by rw [kr3 0 4 (by omega), kr2 0 4 (by omega)]; exact htl) hO hP0 hPp hP11 hD hM hs3 k63 M 0 (cl (I 62 5), (0, 0)) I3 J2 _ _ _ _ (by omega) ⟨hs3, fun _ _ _ _ => rfl, hX5, by rw [eso3]; exact eqf⟩) ?_
                rintro _ _ ⟨rfl, I6, J6, rfl, h62, hf6⟩
                refine ⟨rfl, inv_q hI (by omega) (fun p k hp hs => ?_) (fun p k _ h1 _ => hfR p k h1)⟩
                by_cases e : p = 62
                · subst e
                  rw [h62]
                · rw [hf6 p k e (fun h => hs (by unfold sc0; omega)), w3.1 p k (fun h => hs (by unfold sc0; omega)), hfI p k (fun h => hs (by unfold sc0; omega)) (fun h => hs (by unfold sc0; omega))]
            · show zOk x 399 94 0 [.ref 0, .int (nI t), .int (nI M), .int (n), .int (what), zU, zU, zU, zU, zU] [] _ _
              refine k_aload f94_0 rfl ?_
              refine k_iload f94_1 rfl ?_
              refine e_v (as := [.int (nI t)]) (rest := []) f94_2 hS.o0 rfl rfl rfl (s_ruleAt1 (t := t) hR hS ht6 hr.2 hr1) ?_
              refine k_astore (L' := [.ref 0, .int (nI t), .int (nI M), .int (n), .int (what), .ref r, zU, zU, zU, zU]) f94_5 rfl rfl ?_
              refine k_aload f94_7 rfl ?_
              refine k_nullr f94_9 ?_
              refine k_aload f94_12 rfl ?_
              refine e_v (as := []) (rest := []) f94_13 hS.o0 rfl rfl rfl (s_hasTown hR hS hst) ?_
              refine k_beq f94_16 (fun h_ => absurd (hT) h_) (fun _ => ?_)
              refine k_iload f94_19 rfl ?_
              refine k_iconst (v := 1) f94_20 rfl ?_
              refine k_ic_lt f94_21 (fun h_ => absurd h_ (g1)) (fun _ => ?_)
              refine k_iload f94_24 rfl ?_
              refine k_iconst (v := 10) f94_25 rfl ?_
              refine k_ic_gt f94_27 (fun h_ => absurd h_ (g2)) (fun _ => ?_)
              refine k_iload f94_30 rfl ?_
              refine k_iconst (v := 1) f94_31 rfl ?_
              refine k_ic_lt f94_32 (fun h_ => absurd h_ (g3)) (fun _ => ?_)
              refine k_iload f94_35 rfl ?_
              refine k_iconst (v := 400) f94_36 rfl ?_
              refine k_ic_le f94_39 (fun h_ => absurd h_ (g4)) (fun _ => ?_)
              refine k_iconst (v := (-1)) f94_42 rfl ?_
              refine k_iret f94_43 rfl ⟨_, rfl, ?_⟩
              show zOk x 399 201 0 [.ref 51, .int (nI t), .int (nI M), .int (n), .int (what), zU, zU, zU, zU, zU, zU, zU, zU] [] _ _
              refine k_aload f201_0 rfl ?_
              refine k_getr (q := 62) f201_1 hS.o51 rfl hR.r51_25 ?_
              refine k_iconst (v := 0) f201_4 rfl ?_
              refine k_ia (k := 0) (w := I 62 0) f201_5 hS.a62 rfl (by decide) (by decide) rfl ?_
              refine k_if_eq f201_6 (fun h_ => absurd h_ ((fun e => hT (by rw [e]; decide)))) (fun _ => ?_)
              refine k_aload f201_9 rfl ?_
              refine k_iload f201_10 rfl ?_
              refine e_v (as := [.int (nI t)]) (rest := []) f201_11 hS.o51 rfl rfl rfl (s_isRule (w := I 0 4) hS hN2) ?_
              refine k_beq f201_14 (fun h_ => absurd (hr) h_) (fun _ => ?_)
              refine k_iload f201_17 rfl ?_
              refine k_i2l f201_18 ?_
              refine k_lconst (v := 1) f201_19 rfl ?_
              refine k_lconst (v := 10) f201_20 rfl ?_
              refine e_s (as := [.long (10), .long (1), .long ((nI M).toInt64)]) (rest := []) f201_23 rfl rfl rfl (s_in (1) (10) rfl rfl) ?_
              refine k_beq f201_26 (fun h_ => absurd (⟨g1, g2⟩) h_) (fun _ => ?_)
              refine k_iload f201_29 rfl ?_
              refine k_i2l f201_30 ?_
              refine k_lconst (v := 1) f201_31 rfl ?_
              refine k_lconst (v := 400) f201_32 rfl ?_
              refine e_s (as := [.long (400), .long (1), .long ((n).toInt64)]) (rest := []) f201_35 rfl rfl rfl (s_in (1) (400) rfl rfl) ?_
              refine k_beq f201_38 (fun _ => ?_) (fun h_ => (absurd h_ ((fun h => g4 (Int32.not_lt.mp h.2)))))
              refine k_iconst (v := (-1)) f201_52 rfl ?_
              refine k_iret f201_53 rfl ⟨rfl, ?_⟩
              exact inv_q hI (by omega) Kq.rfl KS.rfl
    · show zOk x 399 94 0 [.ref 0, .int (nI t), .int (m), .int (n), .int (what), zU, zU, zU, zU, zU] [] _ _
      refine k_aload f94_0 rfl ?_
      refine k_iload f94_1 rfl ?_
      refine e_v (as := [.int (nI t)]) (rest := []) f94_2 hS.o0 rfl rfl rfl (s_ruleAt1 (t := t) hR hS ht6 hr.2 hr1) ?_
      refine k_astore (L' := [.ref 0, .int (nI t), .int (m), .int (n), .int (what), .ref r, zU, zU, zU, zU]) f94_5 rfl rfl ?_
      refine k_aload f94_7 rfl ?_
      refine k_nullr f94_9 ?_
      refine k_aload f94_12 rfl ?_
      refine e_v (as := []) (rest := []) f94_13 hS.o0 rfl rfl rfl (s_hasTown hR hS hst) ?_
      refine k_beq f94_16 (fun _ => ?_) (fun h_ => (absurd h_ (hT)))
      refine k_iconst (v := (-1)) f94_42 rfl ?_
      refine k_iret f94_43 rfl ⟨_, rfl, ?_⟩
      show zOk x 399 201 0 [.ref 51, .int (nI t), .int (m), .int (n), .int (what), zU, zU, zU, zU, zU, zU, zU, zU] [] _ _
      refine k_aload f201_0 rfl ?_
      refine k_getr (q := 62) f201_1 hS.o51 rfl hR.r51_25 ?_
      refine k_iconst (v := 0) f201_4 rfl ?_
      refine k_ia (k := 0) (w := I 62 0) f201_5 hS.a62 rfl (by decide) (by decide) rfl ?_
      refine k_if_eq f201_6 (fun _ => ?_) (fun h_ => absurd (so_z hO.1 (by omega) hT) h_)
      refine k_iconst (v := (-1)) f201_52 rfl ?_
      refine k_iret f201_53 rfl ⟨rfl, ?_⟩
      exact inv_q hI (by omega) Kq.rfl KS.rfl
  · show zOk x 399 94 0 [.ref 0, .int (rule), .int (m), .int (n), .int (what), zU, zU, zU, zU, zU] [] _ _
    refine k_aload f94_0 rfl ?_
    refine k_iload f94_1 rfl ?_
    refine e_v (as := [.int (rule)]) (rest := []) f94_2 hS.o0 rfl rfl rfl (s_ruleAt0 hS hr) ?_
    refine k_astoren (L' := [.ref 0, .int (rule), .int (m), .int (n), .int (what), .null, zU, zU, zU, zU]) f94_5 rfl rfl ?_
    refine k_aloadn f94_7 rfl ?_
    refine k_nulln f94_9 ?_
    refine k_iconst (v := (-1)) f94_42 rfl ?_
    refine k_iret f94_43 rfl ⟨_, rfl, ?_⟩
    show zOk x 399 201 0 [.ref 51, .int (rule), .int (m), .int (n), .int (what), zU, zU, zU, zU, zU, zU, zU, zU] [] _ _
    refine k_aload f201_0 rfl ?_
    refine k_getr (q := 62) f201_1 hS.o51 rfl hR.r51_25 ?_
    refine k_iconst (v := 0) f201_4 rfl ?_
    refine k_ia (k := 0) (w := I 62 0) f201_5 hS.a62 rfl (by decide) (by decide) rfl ?_
    refine k_if_eq f201_6 (fun g0 => ?_) (fun g0 => ?_)
    · refine k_iconst (v := (-1)) f201_52 rfl ?_
      refine k_iret f201_53 rfl ⟨rfl, ?_⟩
      exact inv_q hI (by omega) Kq.rfl KS.rfl
    · refine k_aload f201_9 rfl ?_
      refine k_iload f201_10 rfl ?_
      refine e_v (as := [.int (rule)]) (rest := []) f201_11 hS.o51 rfl rfl rfl (s_isRule (w := I 0 4) hS hN2) ?_
      refine k_beq f201_14 (fun _ => ?_) (fun h_ => (absurd h_ (hr)))
      refine k_iconst (v := (-1)) f201_52 rfl ?_
      refine k_iret f201_53 rfl ⟨rfl, ?_⟩
      exact inv_q hI (by omega) Kq.rfl KS.rfl
