/-! NEVER, the pair. -/
theorem lp_neverM {x : Nat × (Nat → Int32)} {d : Nat} {G : zG} {I0 : Nat → Nat → Int32} {R : Nat → Nat → Option Nat} {s : Nat → Int32} {p N E : Nat} (hR : Rs R) (hS : Sh G) (hs0 : I0 62 = s) (hO : SOk s (cl (I0 0 4))) (hA0 : RuA I0 R G) (hp : p < 10) (hN : N ≤ 400) (eE : E = cl (s 3) + N) : ∀ (f i : Nat) (I : Nat → Nat → Int32) (J : Nat → Nat → Int64), i + f = E → RF2 I0 I → zOk x (d + 6) 196 29 [.ref 51, .int (nI p), .int (nI N), .int (nI i)] [] (I, J, R, G) (fun v mm => v = some (.int (nvF I0 s p f i)) ∧ ∃ I' J', mm = (I', J', R, G) ∧ RF2 I0 I') := by
  intro f
  induction f with
  | zero =>
    intro i I J hi hz
    have hn9 := hO.2.1.2
    have hm25 := hO.2.2.1.2
    have hd20 := hO.2.2.2.1.2
    have hs : I 62 = s := (funext fun k => hz 62 k (by omega) (by omega)).trans hs0
    have kr := hz.kr
    have hA := hA0.kr kr
    have hO1 : SOk s (cl (I 0 4)) := by rw [kr 0 4 (by omega)]; exact hO
    refine k_iload f196_29 rfl ?_
    refine k_aload f196_30 rfl ?_
    refine k_getr (q := 62) f196_31 hS.o51 rfl hR.r51_25 ?_
    refine k_iconst (v := 3) f196_34 rfl ?_
    refine k_ia (k := 3) (w := nI (cl (s 3))) f196_35 hS.a62 rfl (by decide) (by decide) ((congrFun hs 3).trans hO.2.2.2.1.1) ?_
    refine k_iload f196_36 rfl ?_
    refine k_iadd f196_37 ?_
    rw [nI_add, ← eE]
    refine k_ic_ge f196_38 (fun _ => ?_) (fun h_ => absurd (nI_le (by omega) (by omega)) h_)
    refine k_iconst (v := (-2)) f196_75 rfl ?_
    exact k_iret f196_77 rfl ⟨rfl, I, J, rfl, hz⟩
  | succ f ih =>
    intro i I J hi hz
    have hn9 := hO.2.1.2
    have hm25 := hO.2.2.1.2
    have hd20 := hO.2.2.2.1.2
    have hs : I 62 = s := (funext fun k => hz 62 k (by omega) (by omega)).trans hs0
    have kr := hz.kr
    have hA := hA0.kr kr
    have hO1 : SOk s (cl (I 0 4)) := by rw [kr 0 4 (by omega)]; exact hO
    have hin : i < E := by omega
    have he := sen (b := I0) hO hp (show i < 30000 by omega)
    by_cases hd : 0 ≤ (FDn I0 s p i).1
    · refine k_iload f196_29 rfl ?_
      refine k_aload f196_30 rfl ?_
      refine k_getr (q := 62) f196_31 hS.o51 rfl hR.r51_25 ?_
      refine k_iconst (v := 3) f196_34 rfl ?_
      refine k_ia (k := 3) (w := nI (cl (s 3))) f196_35 hS.a62 rfl (by decide) (by decide) ((congrFun hs 3).trans hO.2.2.2.1.1) ?_
      refine k_iload f196_36 rfl ?_
      refine k_iadd f196_37 ?_
      rw [nI_add, ← eE]
      refine k_ic_ge f196_38 (fun h_ => absurd h_ (nI_ge hin (by omega))) (fun _ => ?_)
      refine k_aload f196_41 rfl ?_
      refine k_aload f196_42 rfl ?_
      refine k_getr (q := 62) f196_43 hS.o51 rfl hR.r51_25 ?_
      refine k_iconst (v := 1) f196_46 rfl ?_
      refine k_ia (k := 1) (w := s 1) f196_47 hS.a62 rfl (by decide) (by decide) (congrFun hs 1) ?_
      refine k_iconst (v := 1) f196_48 rfl ?_
      refine k_iload f196_49 rfl ?_
      refine k_iload f196_50 rfl ?_
      refine k_iconst (v := 1) f196_51 rfl ?_
      refine k_iload f196_52 rfl ?_
      refine k_ishl f196_53 ?_
      rw [sh_1 p (by omega)]
      refine k_iconst (v := 0) f196_54 rfl ?_
      refine k_iload f196_55 rfl ?_
      refine k_iconst (v := 0) f196_56 rfl ?_
      refine k_callv (as := [.int (0), .int (nI i), .int (0), .int (nI (2 ^ p)), .int (nI i), .int (nI p), .int (1), .int (s 1)]) (rest := []) f196_57 hS.o51 rfl rfl rfl rfl (q_search0 (n := cl (s 1)) (m := cl (s 2)) (fo := s 6) (fe := 0) (p := p) (h := 2 ^ p) (g := 0) hR hS hA hO1.2.2.2.2.2.1 hs rfl hO.2.1.1 (by omega) hO.mw (by omega) hO.1.2 (p_1024 hp) hp (by omega) rfl) ?_
      rintro _ _ ⟨rfl, I1, J1, rfl, hz1, hf1⟩
      have hz1 : RSt I1 (SEn I s p i) := hz1
      rw [SEn_kr kr] at hz1
      have hz2 : RF2 I0 I1 := hz.trans hf1
      refine k_aload f196_60 rfl ?_
      refine k_gI (w := (FDn I0 s p i).1) f196_61 hS.o51 rfl (hz1.2.2.2.1.trans he.1) ?_
      refine k_if_ge f196_64 (fun _ => ?_) (fun h_ => absurd (hd) h_)
      refine k_iinc (w := nI (i + 1)) (L' := [.ref 51, .int (nI p), .int (nI N), .int (nI (i + 1))]) f196_69 rfl (nI_1 i) rfl rfl ?_
      refine k_goto f196_72 ?_
      rw [show nvF I0 s p (f + 1) i = nvF I0 s p f (i + 1) from if_neg (fun q => by rw [q] at hd; exact absurd hd (by decide))]
      exact ih (i + 1) I1 J1 (by omega) hz2
    · refine k_iload f196_29 rfl ?_
      refine k_aload f196_30 rfl ?_
      refine k_getr (q := 62) f196_31 hS.o51 rfl hR.r51_25 ?_
      refine k_iconst (v := 3) f196_34 rfl ?_
      refine k_ia (k := 3) (w := nI (cl (s 3))) f196_35 hS.a62 rfl (by decide) (by decide) ((congrFun hs 3).trans hO.2.2.2.1.1) ?_
      refine k_iload f196_36 rfl ?_
      refine k_iadd f196_37 ?_
      rw [nI_add, ← eE]
      refine k_ic_ge f196_38 (fun h_ => absurd h_ (nI_ge hin (by omega))) (fun _ => ?_)
      refine k_aload f196_41 rfl ?_
      refine k_aload f196_42 rfl ?_
      refine k_getr (q := 62) f196_43 hS.o51 rfl hR.r51_25 ?_
      refine k_iconst (v := 1) f196_46 rfl ?_
      refine k_ia (k := 1) (w := s 1) f196_47 hS.a62 rfl (by decide) (by decide) (congrFun hs 1) ?_
      refine k_iconst (v := 1) f196_48 rfl ?_
      refine k_iload f196_49 rfl ?_
      refine k_iload f196_50 rfl ?_
      refine k_iconst (v := 1) f196_51 rfl ?_
      refine k_iload f196_52 rfl ?_
      refine k_ishl f196_53 ?_
      rw [sh_1 p (by omega)]
      refine k_iconst (v := 0) f196_54 rfl ?_
      refine k_iload f196_55 rfl ?_
      refine k_iconst (v := 0) f196_56 rfl ?_
      refine k_callv (as := [.int (0), .int (nI i), .int (0), .int (nI (2 ^ p)), .int (nI i), .int (nI p), .int (1), .int (s 1)]) (rest := []) f196_57 hS.o51 rfl rfl rfl rfl (q_search0 (n := cl (s 1)) (m := cl (s 2)) (fo := s 6) (fe := 0) (p := p) (h := 2 ^ p) (g := 0) hR hS hA hO1.2.2.2.2.2.1 hs rfl hO.2.1.1 (by omega) hO.mw (by omega) hO.1.2 (p_1024 hp) hp (by omega) rfl) ?_
      rintro _ _ ⟨rfl, I1, J1, rfl, hz1, hf1⟩
      have hz1 : RSt I1 (SEn I s p i) := hz1
      rw [SEn_kr kr] at hz1
      have hz2 : RF2 I0 I1 := hz.trans hf1
      refine k_aload f196_60 rfl ?_
      refine k_gI (w := (FDn I0 s p i).1) f196_61 hS.o51 rfl (hz1.2.2.2.1.trans he.1) ?_
      refine k_if_ge f196_64 (fun h_ => absurd h_ (hd)) (fun _ => ?_)
      refine k_iload f196_67 rfl ?_
      exact k_iret f196_68 rfl ⟨by rw [show nvF I0 s p (f + 1) i = nI i from if_pos (he.2.resolve_right hd)], I1, J1, rfl, hz2⟩
theorem op_never {x : Nat × (Nat → Int32)} (person n : Int32) : Op Inv x 90 196 [.int person, .int n] := by
  refine Op.of2 fun j I J R G hj hI => ?_
  have hS : Sh G := hI.1
  have hR : Rs R := hI.2.1
  have hT1 : Rg (I 9 1) 401 := hI.2.2.2.2.1.1
  have hT2 : I 51 1 = I 9 1 := hI.2.2.2.2.1.2.1
  have hN1 : Rg (I 0 4) 7 := hI.2.2.2.2.2.1.1
  have hN2 : I 51 2 = I 0 4 := hI.2.2.2.2.2.1.2.1
  have hN3 : ∀ t, t < cl (I 0 4) → ∃ r, R 16 t = some r ∧ RuR I R G t r := hI.2.2.2.2.2.1.2.2
  obtain ⟨pl, hst⟩ : ∃ pl, StR I R G 17 pl (I 62) := hI.2.2.2.2.2.2.1
  have hO : SOk (I 62) (cl (I 0 4)) := hI.2.2.2.2.2.2.2.1
  by_cases hc : ¬ person < 0 ∧ ¬ I 62 0 ≤ person
  · by_cases g1 : n < 1
    · show zOk x 399 90 0 [.ref 0, .int (person), .int (n), zU, zU, zU] [] _ _
      refine k_aload f90_0 rfl ?_
      refine k_iload f90_1 rfl ?_
      refine e_v (as := [.int (person)]) (rest := []) f90_2 hS.o0 rfl rfl rfl (s_hasPerson hR hS hst) ?_
      refine k_beq f90_5 (fun h_ => absurd (hc) h_) (fun _ => ?_)
      refine k_iload f90_8 rfl ?_
      refine k_iconst (v := 1) f90_9 rfl ?_
      refine k_ic_lt f90_10 (fun _ => ?_) (fun h_ => absurd (g1) h_)
      refine k_iconst (v := (-1)) f90_20 rfl ?_
      refine k_iret f90_21 rfl ⟨_, rfl, ?_⟩
      show zOk x 399 196 0 [.ref 51, .int (person), .int (n), zU] [] _ _
      refine k_aload f196_0 rfl ?_
      refine k_iload f196_1 rfl ?_
      refine e_v (as := [.int (person)]) (rest := []) f196_2 hS.o51 rfl rfl rfl (s_isPerson (w := I 62 0) hR hS rfl) ?_
      refine k_beq f196_5 (fun h_ => absurd (hc) h_) (fun _ => ?_)
      refine k_iload f196_8 rfl ?_
      refine k_i2l f196_9 ?_
      refine k_lconst (v := 1) f196_10 rfl ?_
      refine k_lconst (v := 400) f196_11 rfl ?_
      refine e_s (as := [.long (400), .long (1), .long ((n).toInt64)]) (rest := []) f196_14 rfl rfl rfl (s_in (1) (400) rfl rfl) ?_
      refine k_bne f196_17 (fun h_ => absurd h_ ((fun h => h.1 g1))) (fun _ => ?_)
      refine k_iconst (v := (-1)) f196_20 rfl ?_
      refine k_iret f196_21 rfl ⟨rfl, ?_⟩
      exact inv_q hI (by omega) Kq.rfl KS.rfl
    · by_cases g2 : n ≤ 400
      · obtain ⟨p, hpn, rfl⟩ := ix_of hO.1 (by omega) hc
        have hp11 := hO.1.2
        have hp10 : p < 10 := by omega
        obtain ⟨D, hD, rfl⟩ := nI_of2 (x := n) (M := 400) (n := 400) (by decide) (fun q => g1 (Int32.lt_trans q (by decide))) g2
        rcases hO.2.2.2.2.2.1 with h6 | h6
        · have h3 : I 17 3 = (-1) := hst.2.2.2.2.2.2.1.trans h6
          have hbr : BR I R G none (I 62 6) := Or.inl ⟨h6, rfl⟩
          show zOk x 399 90 0 [.ref 0, .int (nI p), .int (nI D), zU, zU, zU] [] _ _
          refine k_aload f90_0 rfl ?_
          refine k_iload f90_1 rfl ?_
          refine e_v (as := [.int (nI p)]) (rest := []) f90_2 hS.o0 rfl rfl rfl (s_hasPerson hR hS hst) ?_
          refine k_beq f90_5 (fun h_ => absurd (hc) h_) (fun _ => ?_)
          refine k_iload f90_8 rfl ?_
          refine k_iconst (v := 1) f90_9 rfl ?_
          refine k_ic_lt f90_10 (fun h_ => absurd h_ (g1)) (fun _ => ?_)
          refine k_iload f90_13 rfl ?_
          refine k_iconst (v := 400) f90_14 rfl ?_
          refine k_ic_le f90_17 (fun _ => ?_) (fun h_ => absurd (g2) h_)
          refine k_aload f90_22 rfl ?_
          refine k_aload f90_23 rfl ?_
          refine k_getr (q := 17) f90_24 hS.o0 rfl hR.r0_5 ?_
          refine k_gI (w := (-1)) f90_27 hS.o17 rfl h3 ?_
          refine e_v (as := [.int ((-1))]) (rest := []) f90_30 hS.o0 rfl rfl rfl (s_ruleAt0 hS (fun q => q.1 (by decide))) ?_
          refine k_astoren (L' := [.ref 0, .int (nI p), .int (nI D), .null, zU, zU]) f90_33 rfl rfl ?_
          refine k_iconst (v := 0) f90_34 rfl ?_
          refine k_istore (L' := [.ref 0, .int (nI p), .int (nI D), .null, .int (0), zU]) f90_35 rfl rfl ?_
          refine zOk.imp (lp_never0 (d := 393) (p := p) hR hS hst hO hbr hp10 hD D 0 I J R _ (by omega) ⟨fun _ _ _ _ => rfl, fun _ _ _ => rfl⟩) ?_
          rintro _ _ ⟨rfl, I2, J2, R2, rfl, hc2⟩
          refine ⟨_, rfl, ?_⟩
          have hR2 : Rs R2 := hc2.rs hS hR
          have hs2 : I2 62 = I 62 := funext fun k => hc2.1 62 k (by omega) (by omega)
          have hA2 : RuA I2 R2 G := ⟨by rw [hc2.kr 0 4 (by omega)]; exact hN1, fun t ht => by
            rw [hc2.kr 0 4 (by omega)] at ht
            obtain ⟨r, g1, g2⟩ := hN3 t ht
            exact ⟨r, (hc2.2 16 t (by omega)).trans g1, (g2.kr hc2.kr).rr fun p k hp => hc2.2 p k (by omega)⟩⟩
          show zOk x 399 196 0 [.ref 51, .int (nI p), .int (nI D), zU] [] _ _
          refine k_aload f196_0 rfl ?_
          refine k_iload f196_1 rfl ?_
          refine e_v (as := [.int (nI p)]) (rest := []) f196_2 hS.o51 rfl rfl rfl (s_isPerson (w := I 62 0) hR2 hS (congrFun hs2 0)) ?_
          refine k_beq f196_5 (fun h_ => absurd (hc) h_) (fun _ => ?_)
          refine k_iload f196_8 rfl ?_
          refine k_i2l f196_9 ?_
          refine k_lconst (v := 1) f196_10 rfl ?_
          refine k_lconst (v := 400) f196_11 rfl ?_
          refine e_s (as := [.long (400), .long (1), .long ((nI D).toInt64)]) (rest := []) f196_14 rfl rfl rfl (s_in (1) (400) rfl rfl) ?_
          refine k_bne f196_17 (fun _ => ?_) (fun h_ => absurd (⟨g1, Int32.not_lt.mpr g2⟩) h_)
          refine k_aload f196_22 rfl ?_
          refine k_getr (q := 62) f196_23 hS.o51 rfl hR2.r51_25 ?_
          refine k_iconst (v := 3) f196_26 rfl ?_
          refine k_ia (k := 3) (w := nI (cl (I 62 3))) f196_27 hS.a62 rfl (by decide) (by decide) ((congrFun hs2 3).trans hO.2.2.2.1.1) ?_
          refine k_istore (L' := [.ref 51, .int (nI p), .int (nI D), .int (nI (cl (I 62 3)))]) f196_28 rfl rfl ?_
          refine zOk.imp (lp_neverM (d := 393) (I0 := I2) (s := I 62) (p := p) (N := D) hR2 hS hs2 (by rw [hc2.kr 0 4 (by omega)]; exact hO) hA2 hp10 hD rfl D (cl (I 62 3)) I2 J2 (by omega) (fun _ _ _ _ => rfl)) ?_
          rintro _ _ ⟨rfl, I3, J3, rfl, hf3⟩
          have en : ∀ k D, nvF I2 (I 62) p k D = nvF I (I 62) p k D := by
            intro k
            induction k with
            | zero => intro D; rfl
            | succ k ih =>
              intro D
              rw [nvF, nvF, FDn_kr hc2.kr, ih]
          refine ⟨by rw [en]; rfl, inv_q hI (by omega) (fun p k _ hs => ?_) (fun p k _ _ h => hc2.2 p k h)⟩
          rw [hf3 p k (fun h => hs (by unfold sc0; omega)) (fun h => hs (by unfold sc0; omega)), hc2.1 p k (fun h => hs (by unfold sc0; omega)) (fun h => hs (by unfold sc0; omega))]
        · obtain ⟨t, et⟩ : ∃ t, t = cl (I 62 6) := ⟨_, rfl⟩
          have htl : t < cl (I 0 4) := by rw [et]; exact h6.2
          obtain ⟨r, r1, r2⟩ := hN3 t htl
          have ht6 : t < 6 := by have := hN1.2; omega
          have e6 : I 62 6 = nI t := by rw [et]; exact h6.1
          have h3 : I 17 3 = nI t := hst.2.2.2.2.2.2.1.trans e6
          have hlt : ¬ I 0 4 ≤ nI t := by
            rw [hN1.1]
            exact nI_ge htl (by have := hN1.2; omega)
          have hbr : BR I R G (some r) (I 62 6) := Or.inr ⟨t, r, ht6, e6, rfl, r2⟩
          show zOk x 399 90 0 [.ref 0, .int (nI p), .int (nI D), zU, zU, zU] [] _ _
          refine k_aload f90_0 rfl ?_
          refine k_iload f90_1 rfl ?_
          refine e_v (as := [.int (nI p)]) (rest := []) f90_2 hS.o0 rfl rfl rfl (s_hasPerson hR hS hst) ?_
          refine k_beq f90_5 (fun h_ => absurd (hc) h_) (fun _ => ?_)
          refine k_iload f90_8 rfl ?_
          refine k_iconst (v := 1) f90_9 rfl ?_
          refine k_ic_lt f90_10 (fun h_ => absurd h_ (g1)) (fun _ => ?_)
          refine k_iload f90_13 rfl ?_
          refine k_iconst (v := 400) f90_14 rfl ?_
          refine k_ic_le f90_17 (fun _ => ?_) (fun h_ => absurd (g2) h_)
          refine k_aload f90_22 rfl ?_
          refine k_aload f90_23 rfl ?_
          refine k_getr (q := 17) f90_24 hS.o0 rfl hR.r0_5 ?_
          refine k_gI (w := nI t) f90_27 hS.o17 rfl h3 ?_
          refine e_v (as := [.int (nI t)]) (rest := []) f90_30 hS.o0 rfl rfl rfl (s_ruleAt1 (t := t) hR hS ht6 hlt r1) ?_
          refine k_astore (L' := [.ref 0, .int (nI p), .int (nI D), .ref r, zU, zU]) f90_33 rfl rfl ?_
          refine k_iconst (v := 0) f90_34 rfl ?_
          refine k_istore (L' := [.ref 0, .int (nI p), .int (nI D), .ref r, .int (0), zU]) f90_35 rfl rfl ?_
          refine zOk.imp (lp_never1 (d := 393) (p := p) hR hS hst hO hbr hp10 hD D 0 I J R _ (by omega) ⟨fun _ _ _ _ => rfl, fun _ _ _ => rfl⟩) ?_
          rintro _ _ ⟨rfl, I2, J2, R2, rfl, hc2⟩
          refine ⟨_, rfl, ?_⟩
          have hR2 : Rs R2 := hc2.rs hS hR
          have hs2 : I2 62 = I 62 := funext fun k => hc2.1 62 k (by omega) (by omega)
          have hA2 : RuA I2 R2 G := ⟨by rw [hc2.kr 0 4 (by omega)]; exact hN1, fun t ht => by
            rw [hc2.kr 0 4 (by omega)] at ht
            obtain ⟨r, g1, g2⟩ := hN3 t ht
            exact ⟨r, (hc2.2 16 t (by omega)).trans g1, (g2.kr hc2.kr).rr fun p k hp => hc2.2 p k (by omega)⟩⟩
          show zOk x 399 196 0 [.ref 51, .int (nI p), .int (nI D), zU] [] _ _
          refine k_aload f196_0 rfl ?_
          refine k_iload f196_1 rfl ?_
          refine e_v (as := [.int (nI p)]) (rest := []) f196_2 hS.o51 rfl rfl rfl (s_isPerson (w := I 62 0) hR2 hS (congrFun hs2 0)) ?_
          refine k_beq f196_5 (fun h_ => absurd (hc) h_) (fun _ => ?_)
          refine k_iload f196_8 rfl ?_
          refine k_i2l f196_9 ?_
          refine k_lconst (v := 1) f196_10 rfl ?_
          refine k_lconst (v := 400) f196_11 rfl ?_
          refine e_s (as := [.long (400), .long (1), .long ((nI D).toInt64)]) (rest := []) f196_14 rfl rfl rfl (s_in (1) (400) rfl rfl) ?_
          refine k_bne f196_17 (fun _ => ?_) (fun h_ => absurd (⟨g1, Int32.not_lt.mpr g2⟩) h_)
          refine k_aload f196_22 rfl ?_
          refine k_getr (q := 62) f196_23 hS.o51 rfl hR2.r51_25 ?_
          refine k_iconst (v := 3) f196_26 rfl ?_
          refine k_ia (k := 3) (w := nI (cl (I 62 3))) f196_27 hS.a62 rfl (by decide) (by decide) ((congrFun hs2 3).trans hO.2.2.2.1.1) ?_
          refine k_istore (L' := [.ref 51, .int (nI p), .int (nI D), .int (nI (cl (I 62 3)))]) f196_28 rfl rfl ?_
          refine zOk.imp (lp_neverM (d := 393) (I0 := I2) (s := I 62) (p := p) (N := D) hR2 hS hs2 (by rw [hc2.kr 0 4 (by omega)]; exact hO) hA2 hp10 hD rfl D (cl (I 62 3)) I2 J2 (by omega) (fun _ _ _ _ => rfl)) ?_
          rintro _ _ ⟨rfl, I3, J3, rfl, hf3⟩
          have en : ∀ k D, nvF I2 (I 62) p k D = nvF I (I 62) p k D := by
            intro k
            induction k with
            | zero => intro D; rfl
            | succ k ih =>
              intro D
              rw [nvF, nvF, FDn_kr hc2.kr, ih]
          refine ⟨by rw [en]; rfl, inv_q hI (by omega) (fun p k _ hs => ?_) (fun p k _ _ h => hc2.2 p k h)⟩
          rw [hf3 p k (fun h => hs (by unfold sc0; omega)) (fun h => hs (by unfold sc0; omega)), hc2.1 p k (fun h => hs (by unfold sc0; omega)) (fun h => hs (by unfold sc0; omega))]
      · show zOk x 399 90 0 [.ref 0, .int (person), .int (n), zU, zU, zU] [] _ _
        refine k_aload f90_0 rfl ?_
        refine k_iload f90_1 rfl ?_
        refine e_v (as := [.int (person)]) (rest := []) f90_2 hS.o0 rfl rfl rfl (s_hasPerson hR hS hst) ?_
        refine k_beq f90_5 (fun h_ => absurd (hc) h_) (fun _ => ?_)
        refine k_iload f90_8 rfl ?_
        refine k_iconst (v := 1) f90_9 rfl ?_
        refine k_ic_lt f90_10 (fun h_ => absurd h_ (g1)) (fun _ => ?_)
        refine k_iload f90_13 rfl ?_
        refine k_iconst (v := 400) f90_14 rfl ?_
        refine k_ic_le f90_17 (fun h_ => absurd h_ (g2)) (fun _ => ?_)
        refine k_iconst (v := (-1)) f90_20 rfl ?_
        refine k_iret f90_21 rfl ⟨_, rfl, ?_⟩
        show zOk x 399 196 0 [.ref 51, .int (person), .int (n), zU] [] _ _
        refine k_aload f196_0 rfl ?_
        refine k_iload f196_1 rfl ?_
        refine e_v (as := [.int (person)]) (rest := []) f196_2 hS.o51 rfl rfl rfl (s_isPerson (w := I 62 0) hR hS rfl) ?_
        refine k_beq f196_5 (fun h_ => absurd (hc) h_) (fun _ => ?_)
        refine k_iload f196_8 rfl ?_
        refine k_i2l f196_9 ?_
        refine k_lconst (v := 1) f196_10 rfl ?_
        refine k_lconst (v := 400) f196_11 rfl ?_
        refine e_s (as := [.long (400), .long (1), .long ((n).toInt64)]) (rest := []) f196_14 rfl rfl rfl (s_in (1) (400) rfl rfl) ?_
        refine k_bne f196_17 (fun h_ => absurd h_ ((fun h => g2 (Int32.not_lt.mp h.2)))) (fun _ => ?_)
        refine k_iconst (v := (-1)) f196_20 rfl ?_
        refine k_iret f196_21 rfl ⟨rfl, ?_⟩
        exact inv_q hI (by omega) Kq.rfl KS.rfl
  · show zOk x 399 90 0 [.ref 0, .int (person), .int (n), zU, zU, zU] [] _ _
    refine k_aload f90_0 rfl ?_
    refine k_iload f90_1 rfl ?_
    refine e_v (as := [.int (person)]) (rest := []) f90_2 hS.o0 rfl rfl rfl (s_hasPerson hR hS hst) ?_
    refine k_beq f90_5 (fun _ => ?_) (fun h_ => (absurd h_ (hc)))
    refine k_iconst (v := (-1)) f90_20 rfl ?_
    refine k_iret f90_21 rfl ⟨_, rfl, ?_⟩
    show zOk x 399 196 0 [.ref 51, .int (person), .int (n), zU] [] _ _
    refine k_aload f196_0 rfl ?_
    refine k_iload f196_1 rfl ?_
    refine e_v (as := [.int (person)]) (rest := []) f196_2 hS.o51 rfl rfl rfl (s_isPerson (w := I 62 0) hR hS rfl) ?_
    refine k_beq f196_5 (fun _ => ?_) (fun h_ => (absurd h_ (hc)))
    refine k_iconst (v := (-1)) f196_20 rfl ?_
    refine k_iret f196_21 rfl ⟨rfl, ?_⟩
    exact inv_q hI (by omega) Kq.rfl KS.rfl
