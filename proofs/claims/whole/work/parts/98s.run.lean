/-! RUN. -/
theorem SOk.mw {s : Nat → Int32} {rn : Nat} (h : SOk s rn) : MW s (cl (s 2)) := ⟨h.2.2.1.1, Nat.le_of_lt h.2.2.1.2, fun i hi => let g := h.2.2.2.2.2.2.2.2 i hi; ⟨g.2.1, g.2.2.1, g.2.2.2⟩⟩
theorem az_eq {m : Nat} {e : Int32} {s : Nat → Int32} {z z' : (Nat → Int32) × Int32} (h : AZ m e z z') (h1 : AE s z.1) (h2 : AE s z'.1) : z'.1 = z.1 := by
  funext i
  by_cases q : i < 56 ∧ i ≠ 2 ∧ i ≠ 5 ∧ i ≠ 6
  · exact h.1 i (Or.inl q)
  · rw [h1 i (by omega), h2 i (by omega)]
theorem az_0 {m : Nat} {s : Nat → Int32} (e : Int32) : AZ m e (s, 0) (s, e) := ⟨fun _ _ => rfl, (Int32.zero_add e).symm⟩
theorem op_run {x : Nat × (Nat → Int32)} (rule n : Int32) : Op Inv x 82 179 [.int rule, .int n] := by
  refine Op.of2 fun j I J R G hj hI => ?_
  have hS : Sh G := hI.1
  have hR : Rs R := hI.2.1
  have hT1 : Rg (I 9 1) 401 := hI.2.2.2.2.1.1
  have hT2 : I 51 1 = I 9 1 := hI.2.2.2.2.1.2.1
  have hN1 : Rg (I 0 4) 7 := hI.2.2.2.2.2.1.1
  have hN2 : I 51 2 = I 0 4 := hI.2.2.2.2.2.1.2.1
  have hN3 : ∀ t, t < cl (I 0 4) → ∃ r, R 16 t = some r ∧ RuR I R G t r := hI.2.2.2.2.2.1.2.2
  obtain ⟨pl, hst⟩ : ∃ pl, StR I R G 17 pl (I 62) := hI.2.2.2.2.2.2.1
  have hO : SOk (I 62) (cl (I 0 4)) := hI.2.2.2.2.2.2.2.1
  by_cases hr : ¬ rule < 0 ∧ ¬ I 0 4 ≤ rule
  · obtain ⟨t, htl, rfl⟩ := ix_of hN1 (by omega) hr
    have ht6 : t < 6 := by have := hN1.2; omega
    obtain ⟨r, hr1, hru⟩ := hN3 t htl
    have hz4 : zo G r 4 := by obtain ⟨_, _, _, _, _, h, _⟩ := hru; exact h.2.1
    by_cases hT : ¬ I 62 0 ≤ 0
    · by_cases g1 : n < 1
      · show zOk x 399 82 0 [.ref 0, .int (nI t), .int (n), zU] [] _ _
        refine k_aload f82_0 rfl ?_
        refine k_iload f82_1 rfl ?_
        refine e_v (as := [.int (nI t)]) (rest := []) f82_2 hS.o0 rfl rfl rfl (s_ruleAt1 (t := t) hR hS ht6 hr.2 hr1) ?_
        refine k_astore (L' := [.ref 0, .int (nI t), .int (n), .ref r]) f82_5 rfl rfl ?_
        refine k_aload f82_6 rfl ?_
        refine k_nullr f82_7 ?_
        refine k_aload f82_10 rfl ?_
        refine e_v (as := []) (rest := []) f82_11 hS.o0 rfl rfl rfl (s_hasTown hR hS hst) ?_
        refine k_beq f82_14 (fun h_ => absurd (hT) h_) (fun _ => ?_)
        refine k_iload f82_17 rfl ?_
        refine k_iconst (v := 1) f82_18 rfl ?_
        refine k_ic_lt f82_19 (fun _ => ?_) (fun h_ => absurd (g1) h_)
        refine k_iconst (v := (-1)) f82_44 rfl ?_
        refine k_iret f82_45 rfl ⟨_, rfl, ?_⟩
        show zOk x 399 179 0 [.ref 51, .int (nI t), .int (n), zU] [] _ _
        refine k_aload f179_0 rfl ?_
        refine k_getr (q := 62) f179_1 hS.o51 rfl hR.r51_25 ?_
        refine k_iconst (v := 0) f179_4 rfl ?_
        refine k_ia (k := 0) (w := I 62 0) f179_5 hS.a62 rfl (by decide) (by decide) rfl ?_
        refine k_if_eq f179_6 (fun h_ => absurd h_ ((fun e => hT (by rw [e]; decide)))) (fun _ => ?_)
        refine k_aload f179_9 rfl ?_
        refine k_iload f179_10 rfl ?_
        refine e_v (as := [.int (nI t)]) (rest := []) f179_11 hS.o51 rfl rfl rfl (s_isRule (w := I 0 4) hS hN2) ?_
        refine k_beq f179_14 (fun h_ => absurd (hr) h_) (fun _ => ?_)
        refine k_iload f179_17 rfl ?_
        refine k_i2l f179_18 ?_
        refine k_lconst (v := 1) f179_19 rfl ?_
        refine k_lconst (v := 400) f179_20 rfl ?_
        refine e_s (as := [.long (400), .long (1), .long ((n).toInt64)]) (rest := []) f179_23 rfl rfl rfl (s_in (1) (400) rfl rfl) ?_
        refine k_beq f179_26 (fun _ => ?_) (fun h_ => (absurd h_ ((fun h => h.1 g1))))
        refine k_iconst (v := (-1)) f179_43 rfl ?_
        refine k_iret f179_44 rfl ⟨rfl, ?_⟩
        exact inv_q hI (by omega) Kq.rfl KS.rfl
      · by_cases g2 : 400 < n
        · show zOk x 399 82 0 [.ref 0, .int (nI t), .int (n), zU] [] _ _
          refine k_aload f82_0 rfl ?_
          refine k_iload f82_1 rfl ?_
          refine e_v (as := [.int (nI t)]) (rest := []) f82_2 hS.o0 rfl rfl rfl (s_ruleAt1 (t := t) hR hS ht6 hr.2 hr1) ?_
          refine k_astore (L' := [.ref 0, .int (nI t), .int (n), .ref r]) f82_5 rfl rfl ?_
          refine k_aload f82_6 rfl ?_
          refine k_nullr f82_7 ?_
          refine k_aload f82_10 rfl ?_
          refine e_v (as := []) (rest := []) f82_11 hS.o0 rfl rfl rfl (s_hasTown hR hS hst) ?_
          refine k_beq f82_14 (fun h_ => absurd (hT) h_) (fun _ => ?_)
          refine k_iload f82_17 rfl ?_
          refine k_iconst (v := 1) f82_18 rfl ?_
          refine k_ic_lt f82_19 (fun h_ => absurd h_ (g1)) (fun _ => ?_)
          refine k_iload f82_22 rfl ?_
          refine k_iconst (v := 400) f82_23 rfl ?_
          refine k_ic_gt f82_26 (fun _ => ?_) (fun h_ => absurd (g2) h_)
          refine k_iconst (v := (-1)) f82_44 rfl ?_
          refine k_iret f82_45 rfl ⟨_, rfl, ?_⟩
          show zOk x 399 179 0 [.ref 51, .int (nI t), .int (n), zU] [] _ _
          refine k_aload f179_0 rfl ?_
          refine k_getr (q := 62) f179_1 hS.o51 rfl hR.r51_25 ?_
          refine k_iconst (v := 0) f179_4 rfl ?_
          refine k_ia (k := 0) (w := I 62 0) f179_5 hS.a62 rfl (by decide) (by decide) rfl ?_
          refine k_if_eq f179_6 (fun h_ => absurd h_ ((fun e => hT (by rw [e]; decide)))) (fun _ => ?_)
          refine k_aload f179_9 rfl ?_
          refine k_iload f179_10 rfl ?_
          refine e_v (as := [.int (nI t)]) (rest := []) f179_11 hS.o51 rfl rfl rfl (s_isRule (w := I 0 4) hS hN2) ?_
          refine k_beq f179_14 (fun h_ => absurd (hr) h_) (fun _ => ?_)
          refine k_iload f179_17 rfl ?_
          refine k_i2l f179_18 ?_
          refine k_lconst (v := 1) f179_19 rfl ?_
          refine k_lconst (v := 400) f179_20 rfl ?_
          refine e_s (as := [.long (400), .long (1), .long ((n).toInt64)]) (rest := []) f179_23 rfl rfl rfl (s_in (1) (400) rfl rfl) ?_
          refine k_beq f179_26 (fun _ => ?_) (fun h_ => (absurd h_ ((fun h => h.2 g2))))
          refine k_iconst (v := (-1)) f179_43 rfl ?_
          refine k_iret f179_44 rfl ⟨rfl, ?_⟩
          exact inv_q hI (by omega) Kq.rfl KS.rfl
        · by_cases g3 : (I 62 3) + (n) ≤ 19999
          · obtain ⟨D, hD, rfl⟩ := nI_of2 (x := n) (M := 400) (n := 400) (by decide) (fun q => g1 (Int32.lt_trans q (by decide))) (Int32.not_lt.mp g2)
            have hA : RuA I R G := ⟨hN1, hN3⟩
            have hn9 := hO.2.1.2
            have hm25 := hO.2.2.1.2
            have hz0 : CZ I R G 17 pl (I 62) (I 62, I 42 1) I := ⟨hst, rfl, hO.sw, AF.rfl, fun _ _ _ _ => rfl⟩
            have hd2 := hO.2.2.2.1.2
            have hDn : cl (I 62 3) + D ≤ 19999 := by
              have g := g3
              rw [hO.2.2.2.1.1, nI_add, show (19999 : Int32) = nI 19999 from rfl, nI_leI (by omega) (by omega)] at g
              exact g
            show zOk x 399 82 0 [.ref 0, .int (nI t), .int (nI D), zU] [] _ _
            refine k_aload f82_0 rfl ?_
            refine k_iload f82_1 rfl ?_
            refine e_v (as := [.int (nI t)]) (rest := []) f82_2 hS.o0 rfl rfl rfl (s_ruleAt1 (t := t) hR hS ht6 hr.2 hr1) ?_
            refine k_astore (L' := [.ref 0, .int (nI t), .int (nI D), .ref r]) f82_5 rfl rfl ?_
            refine k_aload f82_6 rfl ?_
            refine k_nullr f82_7 ?_
            refine k_aload f82_10 rfl ?_
            refine e_v (as := []) (rest := []) f82_11 hS.o0 rfl rfl rfl (s_hasTown hR hS hst) ?_
            refine k_beq f82_14 (fun h_ => absurd (hT) h_) (fun _ => ?_)
            refine k_iload f82_17 rfl ?_
            refine k_iconst (v := 1) f82_18 rfl ?_
            refine k_ic_lt f82_19 (fun h_ => absurd h_ (g1)) (fun _ => ?_)
            refine k_iload f82_22 rfl ?_
            refine k_iconst (v := 400) f82_23 rfl ?_
            refine k_ic_gt f82_26 (fun h_ => absurd h_ (g2)) (fun _ => ?_)
            refine k_aload f82_29 rfl ?_
            refine k_getr (q := 17) f82_30 hS.o0 rfl hR.r0_5 ?_
            refine k_gI (w := I 62 3) f82_33 hS.o17 rfl hst.2.2.2.2.1 ?_
            refine k_iload f82_36 rfl ?_
            refine k_iadd f82_37 ?_
            refine k_iconst (v := 19999) f82_38 rfl ?_
            refine k_ic_le f82_41 (fun _ => ?_) (fun h_ => absurd (g3) h_)
            refine k_aload f82_46 rfl ?_
            refine k_getr (q := 42) f82_47 hS.o0 rfl hR.r0_10 ?_
            refine k_aload f82_50 rfl ?_
            refine k_getr (q := 17) f82_51 hS.o0 rfl hR.r0_5 ?_
            refine k_aload f82_54 rfl ?_
            refine k_iload f82_55 rfl ?_
            refine k_iconst (v := 0) f82_56 rfl ?_
            refine k_callv (as := [.int (0), .int (nI D), .ref r, .ref 17]) (rest := []) f82_57 hS.o42 rfl rfl rfl rfl (q_goBy0 (st := 17) (z := (I 62, I 42 1)) (P := I 62 0) hR hS (Or.inl rfl) hru (by omega) (by omega) hT hD hz0 hO.2.1.1 hO.mw rfl) ?_
            rintro _ _ ⟨rfl, I1, J1, rfl, hz1⟩
            obtain ⟨zc, ezc⟩ : ∃ zc, zc = foL (fun _ => dC (soB I t) (cl (I 62 1)) (cl (I 62 2)) 0 0) 0 D (I 62, 0) := ⟨_, rfl⟩
            rw [← ezc] at hz1 ⊢
            refine k_popi f82_60 ?_
            refine k_aload f82_61 rfl ?_
            refine k_getr (q := 17) f82_62 hS.o0 rfl hR.r0_5 ?_
            refine k_gI (w := zc.1 3) f82_65 hS.o17 rfl hz1.1.2.2.2.2.1 ?_
            refine k_iret f82_68 rfl ⟨_, rfl, ?_⟩
            have hs1 : I1 62 = I 62 := funext fun k => hz1.2.2.2.2 62 k (by omega) (by omega)
            have kr1 : Kr I I1 := hz1.kr (Or.inl rfl)
            have eso : soB I1 t = soB I t := funext fun w => funext fun k => soB_kr kr1 t w k
            show zOk x 399 179 0 [.ref 51, .int (nI t), .int (nI D), zU] [] _ _
            refine k_aload f179_0 rfl ?_
            refine k_getr (q := 62) f179_1 hS.o51 rfl hR.r51_25 ?_
            refine k_iconst (v := 0) f179_4 rfl ?_
            refine k_ia (k := 0) (w := I 62 0) f179_5 hS.a62 rfl (by decide) (by decide) (congrFun hs1 _) ?_
            refine k_if_eq f179_6 (fun h_ => absurd h_ ((fun e => hT (by rw [e]; decide)))) (fun _ => ?_)
            refine k_aload f179_9 rfl ?_
            refine k_iload f179_10 rfl ?_
            refine e_v (as := [.int (nI t)]) (rest := []) f179_11 hS.o51 rfl rfl rfl (s_isRule (w := I 0 4) hS ((hz1.2.2.2.2 51 2 (by omega) (by omega)).trans hN2)) ?_
            refine k_beq f179_14 (fun h_ => absurd (hr) h_) (fun _ => ?_)
            refine k_iload f179_17 rfl ?_
            refine k_i2l f179_18 ?_
            refine k_lconst (v := 1) f179_19 rfl ?_
            refine k_lconst (v := 400) f179_20 rfl ?_
            refine e_s (as := [.long (400), .long (1), .long ((nI D).toInt64)]) (rest := []) f179_23 rfl rfl rfl (s_in (1) (400) rfl rfl) ?_
            refine k_beq f179_26 (fun h_ => absurd (⟨g1, g2⟩) h_) (fun _ => ?_)
            refine k_aload f179_29 rfl ?_
            refine k_getr (q := 62) f179_30 hS.o51 rfl hR.r51_25 ?_
            refine k_iconst (v := 3) f179_33 rfl ?_
            refine k_ia (k := 3) (w := I 62 3) f179_34 hS.a62 rfl (by decide) (by decide) (congrFun hs1 _) ?_
            refine k_iload f179_35 rfl ?_
            refine k_iadd f179_36 ?_
            refine k_iconst (v := 19999) f179_37 rfl ?_
            refine k_ic_le f179_40 (fun _ => ?_) (fun h_ => absurd (g3) h_)
            refine k_iconst (v := 0) f179_45 rfl ?_
            refine k_istore (L' := [.ref 51, .int (nI t), .int (nI D), .int (0)]) f179_46 rfl rfl ?_
            refine zOk.imp (lp_run (t := t) (n := cl (I 62 1)) (m := cl (I 62 2)) hR hS ht6 (hA.kr kr1) (by rw [kr1 0 4 (by omega)]; exact htl) (by omega) hD D 0 (I 62, I1 51 26) I1 J1 (by omega) ⟨⟨hs1, rfl, hO.sw, AF.rfl, fun _ _ _ _ => rfl⟩, hO.2.1.1, hO.mw⟩) ?_
            rintro _ _ ⟨rfl, I3, J3, rfl, hz3⟩
            rw [eso] at hz3 ⊢
            have hx := days_x (so := soB I t) (m := cl (I 62 2)) (n := cl (I 62 1)) (by omega) D 0 (cl (I 62 3)) (I 62, 0) (I 62, I1 51 26) hDn hO.2.2.2.1.1 (az_0 _)
            have he := az_eq hx.1 (dC_ae (by omega) D 0 (I 62, 0)) (dD_ae (by omega) D 0 (I 62, I1 51 26))
            have hok := days_so (so := soB I t) (rn := cl (I 0 4)) (n := cl (I 62 1)) (m := cl (I 62 2)) (by omega) D 0 (cl (I 62 3)) (I 62, 0) hO hO.2.1.1 rfl hO.2.2.2.1.1 hDn
            rw [← ezc] at he hok
            rw [he] at hz3 ⊢
            refine ⟨rfl, inv_two (I1 := I1) hI hz1.1 (hz3.1.trans he) hok (fun p k h1 h2 => hz1.2.2.2.2 p k (by omega) (fun e => h2 (by unfold sc0; omega))) (fun p k h1 h2 => hz3.2.2.2.2 p k h1 (by omega))⟩
          · show zOk x 399 82 0 [.ref 0, .int (nI t), .int (n), zU] [] _ _
            refine k_aload f82_0 rfl ?_
            refine k_iload f82_1 rfl ?_
            refine e_v (as := [.int (nI t)]) (rest := []) f82_2 hS.o0 rfl rfl rfl (s_ruleAt1 (t := t) hR hS ht6 hr.2 hr1) ?_
            refine k_astore (L' := [.ref 0, .int (nI t), .int (n), .ref r]) f82_5 rfl rfl ?_
            refine k_aload f82_6 rfl ?_
            refine k_nullr f82_7 ?_
            refine k_aload f82_10 rfl ?_
            refine e_v (as := []) (rest := []) f82_11 hS.o0 rfl rfl rfl (s_hasTown hR hS hst) ?_
            refine k_beq f82_14 (fun h_ => absurd (hT) h_) (fun _ => ?_)
            refine k_iload f82_17 rfl ?_
            refine k_iconst (v := 1) f82_18 rfl ?_
            refine k_ic_lt f82_19 (fun h_ => absurd h_ (g1)) (fun _ => ?_)
            refine k_iload f82_22 rfl ?_
            refine k_iconst (v := 400) f82_23 rfl ?_
            refine k_ic_gt f82_26 (fun h_ => absurd h_ (g2)) (fun _ => ?_)
            refine k_aload f82_29 rfl ?_
            refine k_getr (q := 17) f82_30 hS.o0 rfl hR.r0_5 ?_
            refine k_gI (w := I 62 3) f82_33 hS.o17 rfl hst.2.2.2.2.1 ?_
            refine k_iload f82_36 rfl ?_
            refine k_iadd f82_37 ?_
            refine k_iconst (v := 19999) f82_38 rfl ?_
            refine k_ic_le f82_41 (fun h_ => absurd h_ (g3)) (fun _ => ?_)
            refine k_iconst (v := (-1)) f82_44 rfl ?_
            refine k_iret f82_45 rfl ⟨_, rfl, ?_⟩
            show zOk x 399 179 0 [.ref 51, .int (nI t), .int (n), zU] [] _ _
            refine k_aload f179_0 rfl ?_
            refine k_getr (q := 62) f179_1 hS.o51 rfl hR.r51_25 ?_
            refine k_iconst (v := 0) f179_4 rfl ?_
            refine k_ia (k := 0) (w := I 62 0) f179_5 hS.a62 rfl (by decide) (by decide) rfl ?_
            refine k_if_eq f179_6 (fun h_ => absurd h_ ((fun e => hT (by rw [e]; decide)))) (fun _ => ?_)
            refine k_aload f179_9 rfl ?_
            refine k_iload f179_10 rfl ?_
            refine e_v (as := [.int (nI t)]) (rest := []) f179_11 hS.o51 rfl rfl rfl (s_isRule (w := I 0 4) hS hN2) ?_
            refine k_beq f179_14 (fun h_ => absurd (hr) h_) (fun _ => ?_)
            refine k_iload f179_17 rfl ?_
            refine k_i2l f179_18 ?_
            refine k_lconst (v := 1) f179_19 rfl ?_
            refine k_lconst (v := 400) f179_20 rfl ?_
            refine e_s (as := [.long (400), .long (1), .long ((n).toInt64)]) (rest := []) f179_23 rfl rfl rfl (s_in (1) (400) rfl rfl) ?_
            refine k_beq f179_26 (fun h_ => absurd (⟨g1, g2⟩) h_) (fun _ => ?_)
            refine k_aload f179_29 rfl ?_
            refine k_getr (q := 62) f179_30 hS.o51 rfl hR.r51_25 ?_
            refine k_iconst (v := 3) f179_33 rfl ?_
            refine k_ia (k := 3) (w := I 62 3) f179_34 hS.a62 rfl (by decide) (by decide) rfl ?_
            refine k_iload f179_35 rfl ?_
            refine k_iadd f179_36 ?_
            refine k_iconst (v := 19999) f179_37 rfl ?_
            refine k_ic_le f179_40 (fun h_ => absurd h_ (g3)) (fun _ => ?_)
            refine k_iconst (v := (-1)) f179_43 rfl ?_
            refine k_iret f179_44 rfl ⟨rfl, ?_⟩
            exact inv_q hI (by omega) Kq.rfl KS.rfl
    · show zOk x 399 82 0 [.ref 0, .int (nI t), .int (n), zU] [] _ _
      refine k_aload f82_0 rfl ?_
      refine k_iload f82_1 rfl ?_
      refine e_v (as := [.int (nI t)]) (rest := []) f82_2 hS.o0 rfl rfl rfl (s_ruleAt1 (t := t) hR hS ht6 hr.2 hr1) ?_
      refine k_astore (L' := [.ref 0, .int (nI t), .int (n), .ref r]) f82_5 rfl rfl ?_
      refine k_aload f82_6 rfl ?_
      refine k_nullr f82_7 ?_
      refine k_aload f82_10 rfl ?_
      refine e_v (as := []) (rest := []) f82_11 hS.o0 rfl rfl rfl (s_hasTown hR hS hst) ?_
      refine k_beq f82_14 (fun _ => ?_) (fun h_ => (absurd h_ (hT)))
      refine k_iconst (v := (-1)) f82_44 rfl ?_
      refine k_iret f82_45 rfl ⟨_, rfl, ?_⟩
      show zOk x 399 179 0 [.ref 51, .int (nI t), .int (n), zU] [] _ _
      refine k_aload f179_0 rfl ?_
      refine k_getr (q := 62) f179_1 hS.o51 rfl hR.r51_25 ?_
      refine k_iconst (v := 0) f179_4 rfl ?_
      refine k_ia (k := 0) (w := I 62 0) f179_5 hS.a62 rfl (by decide) (by decide) rfl ?_
      refine k_if_eq f179_6 (fun _ => ?_) (fun h_ => absurd (so_z hO.1 (by omega) hT) h_)
      refine k_iconst (v := (-1)) f179_43 rfl ?_
      refine k_iret f179_44 rfl ⟨rfl, ?_⟩
      exact inv_q hI (by omega) Kq.rfl KS.rfl
  · show zOk x 399 82 0 [.ref 0, .int (rule), .int (n), zU] [] _ _
    refine k_aload f82_0 rfl ?_
    refine k_iload f82_1 rfl ?_
    refine e_v (as := [.int (rule)]) (rest := []) f82_2 hS.o0 rfl rfl rfl (s_ruleAt0 hS hr) ?_
    refine k_astoren (L' := [.ref 0, .int (rule), .int (n), .null]) f82_5 rfl rfl ?_
    refine k_aloadn f82_6 rfl ?_
    refine k_nulln f82_7 ?_
    refine k_iconst (v := (-1)) f82_44 rfl ?_
    refine k_iret f82_45 rfl ⟨_, rfl, ?_⟩
    show zOk x 399 179 0 [.ref 51, .int (rule), .int (n), zU] [] _ _
    refine k_aload f179_0 rfl ?_
    refine k_getr (q := 62) f179_1 hS.o51 rfl hR.r51_25 ?_
    refine k_iconst (v := 0) f179_4 rfl ?_
    refine k_ia (k := 0) (w := I 62 0) f179_5 hS.a62 rfl (by decide) (by decide) rfl ?_
    refine k_if_eq f179_6 (fun g0 => ?_) (fun g0 => ?_)
    · refine k_iconst (v := (-1)) f179_43 rfl ?_
      refine k_iret f179_44 rfl ⟨rfl, ?_⟩
      exact inv_q hI (by omega) Kq.rfl KS.rfl
    · refine k_aload f179_9 rfl ?_
      refine k_iload f179_10 rfl ?_
      refine e_v (as := [.int (rule)]) (rest := []) f179_11 hS.o51 rfl rfl rfl (s_isRule (w := I 0 4) hS hN2) ?_
      refine k_beq f179_14 (fun _ => ?_) (fun h_ => (absurd h_ (hr)))
      refine k_iconst (v := (-1)) f179_43 rfl ?_
      refine k_iret f179_44 rfl ⟨rfl, ?_⟩
      exact inv_q hI (by omega) Kq.rfl KS.rfl
