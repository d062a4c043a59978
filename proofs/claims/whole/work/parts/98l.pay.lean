/-! PAY and HOME. -/
/-- what RULES read stays -/
def Kr (I I' : Nat → Nat → Int32) : Prop := ∀ p k, ((p = 0 ∧ k = 4) ∨ p = 53 ∨ p = 55 ∨ p = 56 ∨ 71 ≤ p) → I' p k = I p k
theorem Kr.rfl {I : Nat → Nat → Int32} : Kr I I := fun _ _ _ => Eq.refl _
theorem Kr.trans {I I1 I2 : Nat → Nat → Int32} (h1 : Kr I I1) (h2 : Kr I1 I2) : Kr I I2 := fun p k h => (h2 p k h).trans (h1 p k h)
theorem soB_kr {I I' : Nat → Nat → Int32} (h : Kr I I') (t : Nat) (w : Nat → Int64) (kd : Nat) : soB I' t w kd = soB I t w kd := by
  have e : soP I' t w kd = soP I t w kd := by
    funext i
    unfold soP
    rw [h 55 _ (by omega), h 55 _ (by omega), h 55 _ (by omega), show I' 53 = I 53 from funext fun k => h 53 k (by omega)]
  unfold soB
  rw [e, h 56 _ (by omega)]
theorem baB_kr {I I' : Nat → Nat → Int32} (h : Kr I I') (f : Int32) (w : Nat → Int64) : baB I' f w = baB I f w := by
  unfold baB
  rw [soB_kr h]
theorem RuR.kr {I I' : Nat → Nat → Int32} {R : Nat → Nat → Option Nat} {G : zG} {t r : Nat} (h : Kr I I') (g : RuR I R G t r) : RuR I' R G t r :=
  g.keep Gk.rfl (fun p k _ hp => h p k (by omega)) (fun _ _ _ _ => Eq.refl _) (fun k _ => h _ _ (by omega)) (fun k _ => h _ _ (by omega)) (h _ _ (by omega)) fun w f u q _ _ => ruD_congr _ _ _ fun k _ => h 53 _ (by omega)
theorem RuA.kr {I I' : Nat → Nat → Int32} {R : Nat → Nat → Option Nat} {G : zG} (h : Kr I I') (g : RuA I R G) : RuA I' R G := by
  have e := h 0 4 (by omega)
  refine ⟨by rw [e]; exact g.1, fun t ht => ?_⟩
  rw [e] at ht
  obtain ⟨r, r1, r2⟩ := g.2 t ht
  exact ⟨r, r1, r2.kr h⟩
/-- the class told its State anew, the reference its row -/
theorem inv_two {j pl : Nat} {I I1 I' : Nat → Nat → Int32} {J J' : Nat → Nat → Int64} {R : Nat → Nat → Option Nat} {G : zG} {s' : Nat → Int32} (h : Inv j (I, J, R, G)) (h1 : StR I1 R G 17 pl s') (hs : I' 62 = s') (ho : SOk s' (cl (I 0 4))) (f1 : ∀ p k, ¬ (17 ≤ p ∧ p ≤ 26) → ¬ sc0 p k → I1 p k = I p k) (f2 : ∀ p k, p ≠ 62 → ¬ (p = 51 ∧ 3 ≤ k) → I' p k = I1 p k) : Inv (j + 1) (I', J', R, G) := by
  have hpl := h1.2.2.1.1
  refine inv_st h (by omega) (fun p k hp hq => ?_) KR.rfl ⟨pl, ?_⟩ ?_
  · unfold sc2 at hq
    by_cases q : p = 51 ∧ 3 ≤ k
    · exact absurd (Or.inl (by unfold sc0; omega)) hq
    · exact (f2 p k (by omega) q).trans (f1 p k (by omega) fun h => hq (Or.inl h))
  · rw [hs]
    exact h1.keep (Nat.le_of_lt_succ ho.2.1.2) Gk.rfl (fun p k hp hq => f2 p k (by omega) (by omega)) (fun _ _ _ _ => Eq.refl _)
  · rw [hs]
    exact ho
theorem met_none {s : Nat → Int32} {p : Int32} : ∀ n, (∀ m, m < n → s (56 + 3 * m) ≠ s 3) → acc (fM s p) n = 0 := by
  intro n
  induction n with
  | zero => intro _; rfl
  | succ n ih =>
    intro h
    rw [acc_s, fM, if_neg (h n (by omega)), ih fun m hm => h m (by omega)]
theorem met_day {s : Nat → Int32} {rn k p : Nat} {h : Int32} (hO : SOk s rn) (hmm : ∀ m, m < cl (s 2) → Rg (s (56 + 3 * m + 1)) 10 ∧ Rg (s (56 + 3 * m + 2)) 10) (k2 : acc (fM s h) (cl (s 2)) = nI k) (k1 : k < 1024) (hM : k.testBit p = true) : cl (s 3) ≤ 1999 := by
  apply Classical.byContradiction
  intro hd
  have e := met_none (s := s) (p := h) (cl (s 2)) fun m hm e => hd (by have := (hO.2.2.2.2.2.2.2.2 m hm).1.2; rw [e] at this; omega)
  rw [e, show (0 : Int32) = nI 0 from rfl, nI_eq (by omega) (by omega)] at k2
  rw [← k2] at hM
  simp at hM
theorem op_pay {x : Nat × (Nat → Int32)} (coin to : Int32) : Op Inv x 79 174 [.int coin, .int to] := by
  refine Op.of2 fun j I J R G hj hI => ?_
  have hS : Sh G := hI.1
  have hR : Rs R := hI.2.1
  have hT1 : Rg (I 9 1) 401 := hI.2.2.2.2.1.1
  have hT2 : I 51 1 = I 9 1 := hI.2.2.2.2.1.2.1
  have hN1 : Rg (I 0 4) 7 := hI.2.2.2.2.2.1.1
  have hN2 : I 51 2 = I 0 4 := hI.2.2.2.2.2.1.2.1
  have hN3 : ∀ t, t < cl (I 0 4) → ∃ r, R 16 t = some r ∧ RuR I R G t r := hI.2.2.2.2.2.1.2.2
  obtain ⟨pl, hst⟩ : ∃ pl, StR I R G 17 pl (I 62) := hI.2.2.2.2.2.2.1
  have hO : SOk (I 62) (cl (I 0 4)) := hI.2.2.2.2.2.2.2.1
  by_cases hc : ¬ coin < 0 ∧ ¬ I 62 1 ≤ coin
  · by_cases hp : ¬ to < 0 ∧ ¬ I 62 0 ≤ to
    · obtain ⟨c, hcn, rfl⟩ := ix_of hO.2.1 (by omega) hc
      have hpl := hst.2.2.1.1
      have hm25 : cl (I 62 2) ≤ 25 := Nat.le_of_lt hO.2.2.1.2
      have hA : RuA I R G := ⟨hN1, hN3⟩
      have hm24 := hO.2.2.1.2
      have hn9 := hO.2.1.2
      have hc8 : c < 8 := by omega
      have cn := hst.2.2.2.2.2.2.2.2 c hcn
      have cok := hO.2.2.2.2.2.2.2.1 c hcn
      obtain ⟨p, hpn, rfl⟩ := ix_of hO.1 (by omega) hp
      have hp11 := hO.1.2
      have hp10 : p < 10 := by omega
      have hmm : ∀ m, m < cl (I 62 2) → Rg (I 62 (56 + 3 * m + 1)) 10 ∧ Rg (I 62 (56 + 3 * m + 2)) 10 := fun m hm => ⟨(hO.2.2.2.2.2.2.2.2 m hm).2.1.le (by omega), (hO.2.2.2.2.2.2.2.2 m hm).2.2.1.le (by omega)⟩
      obtain ⟨k, k1, k2, k3⟩ := met_eq (s := I 62) (p := I 62 (8 + 6 * c + 1)) (cl (I 62 2)) hmm
      by_cases hT : I 62 (8 + 6 * c + 1) = nI p
      · show zOk x 399 79 0 [.ref 0, .int (nI c), .int (nI p), zU] [] _ _
        refine k_aload f79_0 rfl ?_
        refine k_iload f79_1 rfl ?_
        refine e_v (as := [.int (nI c)]) (rest := []) f79_2 hS.o0 rfl rfl rfl (s_hasCoin hR hS hst) ?_
        refine k_beq f79_5 (fun h_ => absurd (hc) h_) (fun _ => ?_)
        refine k_aload f79_8 rfl ?_
        refine k_iload f79_9 rfl ?_
        refine e_v (as := [.int (nI p)]) (rest := []) f79_10 hS.o0 rfl rfl rfl (s_hasPerson hR hS hst) ?_
        refine k_bne f79_13 (fun _ => ?_) (fun h_ => absurd (hp) h_)
        refine k_aload f79_18 rfl ?_
        refine k_getr (q := 17) f79_19 hS.o0 rfl hR.r0_5 ?_
        refine k_getr (q := 18) f79_22 hS.o17 rfl hR.r17_5 ?_
        refine k_iload f79_25 rfl ?_
        refine k_aar (k := c) (q := 17 + 2 + c) f79_26 hS.a18 rfl rfl (by omega) (by decide) (hst.1.2.2.2 c hc8).1 ?_
        refine k_astore (L' := [.ref 0, .int (nI c), .int (nI p), .ref (17 + 2 + c)]) f79_27 rfl rfl ?_
        refine k_aload f79_28 rfl ?_
        refine k_gI (w := I 62 (8 + 6 * c + 1)) f79_29 (hst.1.2.2.2 c hc8).2 rfl cn.2.1 ?_
        refine k_iload f79_32 rfl ?_
        refine k_ic_ne f79_33 (fun h_ => absurd (hT) h_) (fun _ => ?_)
        refine k_iconst (v := (-1)) f79_36 rfl ?_
        refine k_iret f79_37 rfl ⟨_, rfl, ?_⟩
        show zOk x 399 174 0 [.ref 51, .int (nI c), .int (nI p), zU] [] _ _
        refine k_aload f174_0 rfl ?_
        refine k_iload f174_1 rfl ?_
        refine e_v (as := [.int (nI c)]) (rest := []) f174_2 hS.o51 rfl rfl rfl (s_isCoin (w := I 62 1) hR hS rfl) ?_
        refine k_beq f174_5 (fun h_ => absurd (hc) h_) (fun _ => ?_)
        refine k_aload f174_8 rfl ?_
        refine k_iload f174_9 rfl ?_
        refine e_v (as := [.int (nI p)]) (rest := []) f174_10 hS.o51 rfl rfl rfl (s_isPerson (w := I 62 0) hR hS rfl) ?_
        refine k_beq f174_13 (fun h_ => absurd (hp) h_) (fun _ => ?_)
        refine k_aload f174_16 rfl ?_
        refine k_iload f174_17 rfl ?_
        refine k_iconst (v := 1) f174_18 rfl ?_
        refine e_v (as := [.int (1), .int (nI c)]) (rest := []) f174_19 hS.o51 rfl rfl rfl (s_coinOf (c := c) (k := 1) (v := I 62 (8 + 6 * c + 1)) hR hS (by omega) rfl) ?_
        refine k_iload f174_22 rfl ?_
        refine k_ic_ne f174_23 (fun h_ => absurd (hT) h_) (fun _ => ?_)
        refine k_iconst (v := (-1)) f174_26 rfl ?_
        refine k_iret f174_27 rfl ⟨rfl, ?_⟩
        exact inv_q hI (by omega) Kq.rfl KS.rfl
      · by_cases hV : ¬ I 62 3 - I 62 (8 + 6 * c + 2) ≤ I 62 7
        · show zOk x 399 79 0 [.ref 0, .int (nI c), .int (nI p), zU] [] _ _
          refine k_aload f79_0 rfl ?_
          refine k_iload f79_1 rfl ?_
          refine e_v (as := [.int (nI c)]) (rest := []) f79_2 hS.o0 rfl rfl rfl (s_hasCoin hR hS hst) ?_
          refine k_beq f79_5 (fun h_ => absurd (hc) h_) (fun _ => ?_)
          refine k_aload f79_8 rfl ?_
          refine k_iload f79_9 rfl ?_
          refine e_v (as := [.int (nI p)]) (rest := []) f79_10 hS.o0 rfl rfl rfl (s_hasPerson hR hS hst) ?_
          refine k_bne f79_13 (fun _ => ?_) (fun h_ => absurd (hp) h_)
          refine k_aload f79_18 rfl ?_
          refine k_getr (q := 17) f79_19 hS.o0 rfl hR.r0_5 ?_
          refine k_getr (q := 18) f79_22 hS.o17 rfl hR.r17_5 ?_
          refine k_iload f79_25 rfl ?_
          refine k_aar (k := c) (q := 17 + 2 + c) f79_26 hS.a18 rfl rfl (by omega) (by decide) (hst.1.2.2.2 c hc8).1 ?_
          refine k_astore (L' := [.ref 0, .int (nI c), .int (nI p), .ref (17 + 2 + c)]) f79_27 rfl rfl ?_
          refine k_aload f79_28 rfl ?_
          refine k_gI (w := I 62 (8 + 6 * c + 1)) f79_29 (hst.1.2.2.2 c hc8).2 rfl cn.2.1 ?_
          refine k_iload f79_32 rfl ?_
          refine k_ic_ne f79_33 (fun _ => ?_) (fun h_ => absurd (hT) h_)
          refine k_aload f79_38 rfl ?_
          refine k_getr (q := 17) f79_39 hS.o0 rfl hR.r0_5 ?_
          refine k_aload f79_42 rfl ?_
          refine e_v (as := [.ref (17 + 2 + c)]) (rest := []) f79_43 hS.o17 rfl rfl rfl (s_isVoidC (st := 17) hst cn (hst.1.2.2.2 c hc8).2) ?_
          refine k_beq f79_46 (fun h_ => absurd (hV) h_) (fun _ => ?_)
          refine k_iconst (v := (-3)) f79_49 rfl ?_
          refine k_iret f79_51 rfl ⟨_, rfl, ?_⟩
          show zOk x 399 174 0 [.ref 51, .int (nI c), .int (nI p), zU] [] _ _
          refine k_aload f174_0 rfl ?_
          refine k_iload f174_1 rfl ?_
          refine e_v (as := [.int (nI c)]) (rest := []) f174_2 hS.o51 rfl rfl rfl (s_isCoin (w := I 62 1) hR hS rfl) ?_
          refine k_beq f174_5 (fun h_ => absurd (hc) h_) (fun _ => ?_)
          refine k_aload f174_8 rfl ?_
          refine k_iload f174_9 rfl ?_
          refine e_v (as := [.int (nI p)]) (rest := []) f174_10 hS.o51 rfl rfl rfl (s_isPerson (w := I 62 0) hR hS rfl) ?_
          refine k_beq f174_13 (fun h_ => absurd (hp) h_) (fun _ => ?_)
          refine k_aload f174_16 rfl ?_
          refine k_iload f174_17 rfl ?_
          refine k_iconst (v := 1) f174_18 rfl ?_
          refine e_v (as := [.int (1), .int (nI c)]) (rest := []) f174_19 hS.o51 rfl rfl rfl (s_coinOf (c := c) (k := 1) (v := I 62 (8 + 6 * c + 1)) hR hS (by omega) rfl) ?_
          refine k_iload f174_22 rfl ?_
          refine k_ic_ne f174_23 (fun _ => ?_) (fun h_ => absurd (hT) h_)
          refine k_aload f174_28 rfl ?_
          refine k_iload f174_29 rfl ?_
          refine k_iload f174_30 rfl ?_
          refine k_aload f174_31 rfl ?_
          refine k_getr (q := 62) f174_32 hS.o51 rfl hR.r51_25 ?_
          refine k_iconst (v := 6) f174_35 rfl ?_
          refine k_ia (k := 6) (w := I 62 6) f174_37 hS.a62 rfl (by decide) (by decide) rfl ?_
          refine e_v (as := [.int (I 62 6), .int (nI p), .int (nI c)]) (rest := []) f174_38 hS.o51 rfl rfl rfl (bP1 (p := p) (f := I 62 6) (s := I 62) (c := c) hR hS rfl hO.2.1.1 (by omega) hcn hV) ?_
          refine k_istore (L' := [.ref 51, .int (nI c), .int (nI p), .int (1)]) f174_41 rfl rfl ?_
          refine k_iload f174_42 rfl ?_
          refine k_if_le f174_43 (fun h_ => absurd h_ (by decide)) (fun _ => ?_)
          refine k_iconst (v := (-2)) f174_46 rfl ?_
          refine k_iload f174_48 rfl ?_
          refine k_isub f174_49 ?_
          refine k_iret f174_50 rfl ⟨congrArg (fun t => some (Value.int t)) (by decide), ?_⟩
          exact inv_q hI (by omega) Kq.rfl KS.rfl
        · by_cases hM : k.testBit p = true
          · by_cases hB : baB I (I 62 6) (wP (I 62) (cl (I 62 1)) c p) = true
            · show zOk x 399 79 0 [.ref 0, .int (nI c), .int (nI p), zU] [] _ _
              refine k_aload f79_0 rfl ?_
              refine k_iload f79_1 rfl ?_
              refine e_v (as := [.int (nI c)]) (rest := []) f79_2 hS.o0 rfl rfl rfl (s_hasCoin hR hS hst) ?_
              refine k_beq f79_5 (fun h_ => absurd (hc) h_) (fun _ => ?_)
              refine k_aload f79_8 rfl ?_
              refine k_iload f79_9 rfl ?_
              refine e_v (as := [.int (nI p)]) (rest := []) f79_10 hS.o0 rfl rfl rfl (s_hasPerson hR hS hst) ?_
              refine k_bne f79_13 (fun _ => ?_) (fun h_ => absurd (hp) h_)
              refine k_aload f79_18 rfl ?_
              refine k_getr (q := 17) f79_19 hS.o0 rfl hR.r0_5 ?_
              refine k_getr (q := 18) f79_22 hS.o17 rfl hR.r17_5 ?_
              refine k_iload f79_25 rfl ?_
              refine k_aar (k := c) (q := 17 + 2 + c) f79_26 hS.a18 rfl rfl (by omega) (by decide) (hst.1.2.2.2 c hc8).1 ?_
              refine k_astore (L' := [.ref 0, .int (nI c), .int (nI p), .ref (17 + 2 + c)]) f79_27 rfl rfl ?_
              refine k_aload f79_28 rfl ?_
              refine k_gI (w := I 62 (8 + 6 * c + 1)) f79_29 (hst.1.2.2.2 c hc8).2 rfl cn.2.1 ?_
              refine k_iload f79_32 rfl ?_
              refine k_ic_ne f79_33 (fun _ => ?_) (fun h_ => absurd (hT) h_)
              refine k_aload f79_38 rfl ?_
              refine k_getr (q := 17) f79_39 hS.o0 rfl hR.r0_5 ?_
              refine k_aload f79_42 rfl ?_
              refine e_v (as := [.ref (17 + 2 + c)]) (rest := []) f79_43 hS.o17 rfl rfl rfl (s_isVoidC (st := 17) hst cn (hst.1.2.2.2 c hc8).2) ?_
              refine k_beq f79_46 (fun _ => ?_) (fun h_ => (absurd h_ (hV)))
              refine k_aload f79_52 rfl ?_
              refine k_getr (q := 17) f79_53 hS.o0 rfl hR.r0_5 ?_
              refine k_aload f79_56 rfl ?_
              refine k_gI (w := I 62 (8 + 6 * c + 1)) f79_57 (hst.1.2.2.2 c hc8).2 rfl cn.2.1 ?_
              refine e_v (as := [.int (I 62 (8 + 6 * c + 1))]) (rest := []) f79_60 hS.o17 rfl rfl rfl (s_metToday (st := 17) hst hO.2.2.1.1 (by omega)) ?_
              refine k_iload f79_63 rfl ?_
              refine e_s (as := [.int (nI p), .int (acc (fM (I 62) (I 62 (8 + 6 * c + 1))) (cl (I 62 2)))]) (rest := []) f79_64 rfl rfl rfl ((by rw [k2]; exact s_has (b := k) (p := p) (by omega) (by omega))) ?_
              refine k_bne f79_67 (fun _ => ?_) (fun h_ => absurd (hM) h_)
              refine k_aload f79_73 rfl ?_
              refine k_getr (q := 39) f79_74 hS.o0 rfl hR.r0_9 ?_
              refine k_aload f79_77 rfl ?_
              refine k_getr (q := 17) f79_78 hS.o0 rfl hR.r0_5 ?_
              refine k_iload f79_81 rfl ?_
              refine k_iload f79_82 rfl ?_
              refine k_callv (as := [.int (nI p), .int (nI c), .ref 17]) (rest := []) f79_83 hS.o39 rfl rfl rfl rfl (q_pay (c := c) hR hS hst hO.2.1.1 (by omega) hcn cok.2.2.2.1 hp10) ?_
              rintro _ _ ⟨rfl, J1, rfl, hJ1⟩
              refine k_aload f79_86 rfl ?_
              refine k_callv (as := []) (rest := []) f79_87 hS.o0 rfl rfl rfl rfl (q_barC (f := I 62 6) (w := (wP (I 62) (cl (I 62 1)) c p)) hR hS hA hst.2.2.2.2.2.2.1 hO.2.2.2.2.2.1 hJ1) ?_
              rintro _ _ ⟨rfl, J2, rfl, hJ2⟩
              refine k_beq f79_90 (fun h_ => absurd (hB) h_) (fun _ => ?_)
              refine k_iconst (v := (-5)) f79_93 rfl ?_
              refine k_iret f79_95 rfl ⟨_, rfl, ?_⟩
              show zOk x 399 174 0 [.ref 51, .int (nI c), .int (nI p), zU] [] _ _
              refine k_aload f174_0 rfl ?_
              refine k_iload f174_1 rfl ?_
              refine e_v (as := [.int (nI c)]) (rest := []) f174_2 hS.o51 rfl rfl rfl (s_isCoin (w := I 62 1) hR hS rfl) ?_
              refine k_beq f174_5 (fun h_ => absurd (hc) h_) (fun _ => ?_)
              refine k_aload f174_8 rfl ?_
              refine k_iload f174_9 rfl ?_
              refine e_v (as := [.int (nI p)]) (rest := []) f174_10 hS.o51 rfl rfl rfl (s_isPerson (w := I 62 0) hR hS rfl) ?_
              refine k_beq f174_13 (fun h_ => absurd (hp) h_) (fun _ => ?_)
              refine k_aload f174_16 rfl ?_
              refine k_iload f174_17 rfl ?_
              refine k_iconst (v := 1) f174_18 rfl ?_
              refine e_v (as := [.int (1), .int (nI c)]) (rest := []) f174_19 hS.o51 rfl rfl rfl (s_coinOf (c := c) (k := 1) (v := I 62 (8 + 6 * c + 1)) hR hS (by omega) rfl) ?_
              refine k_iload f174_22 rfl ?_
              refine k_ic_ne f174_23 (fun _ => ?_) (fun h_ => absurd (hT) h_)
              refine k_aload f174_28 rfl ?_
              refine k_iload f174_29 rfl ?_
              refine k_iload f174_30 rfl ?_
              refine k_aload f174_31 rfl ?_
              refine k_getr (q := 62) f174_32 hS.o51 rfl hR.r51_25 ?_
              refine k_iconst (v := 6) f174_35 rfl ?_
              refine k_ia (k := 6) (w := I 62 6) f174_37 hS.a62 rfl (by decide) (by decide) rfl ?_
              refine k_callv (as := [.int (I 62 6), .int (nI p), .int (nI c)]) (rest := []) f174_38 hS.o51 rfl rfl rfl rfl (bP3 (f := I 62 6) (p := p) (s := I 62) (c := c) hR hS rfl hO.2.1.1 (by omega) hcn hO.2.2.1.1 (by omega) (fun i hi => (hO.2.2.2.2.2.2.2.2 i hi).2.2.2) k2 k1 hp10 hA hO.2.2.2.2.2.1 cok.2.2.2.1 hV hM hB) ?_
              rintro _ _ ⟨rfl, I2, J3, rfl, hI2⟩
              refine k_istore (L' := [.ref 51, .int (nI c), .int (nI p), .int (3)]) f174_41 rfl rfl ?_
              refine k_iload f174_42 rfl ?_
              refine k_if_le f174_43 (fun h_ => absurd h_ (by decide)) (fun _ => ?_)
              refine k_iconst (v := (-2)) f174_46 rfl ?_
              refine k_iload f174_48 rfl ?_
              refine k_isub f174_49 ?_
              refine k_iret f174_50 rfl ⟨congrArg (fun t => some (Value.int t)) (by decide), ?_⟩
              exact inv_q hI (by omega) (fun p k hp hs => hI2 p k (fun e => hs (by unfold sc0; omega))) KS.rfl
            · have hd : cl (I 62 3) ≤ 1999 := met_day hO hmm k2 k1 hM
              show zOk x 399 79 0 [.ref 0, .int (nI c), .int (nI p), zU] [] _ _
              refine k_aload f79_0 rfl ?_
              refine k_iload f79_1 rfl ?_
              refine e_v (as := [.int (nI c)]) (rest := []) f79_2 hS.o0 rfl rfl rfl (s_hasCoin hR hS hst) ?_
              refine k_beq f79_5 (fun h_ => absurd (hc) h_) (fun _ => ?_)
              refine k_aload f79_8 rfl ?_
              refine k_iload f79_9 rfl ?_
              refine e_v (as := [.int (nI p)]) (rest := []) f79_10 hS.o0 rfl rfl rfl (s_hasPerson hR hS hst) ?_
              refine k_bne f79_13 (fun _ => ?_) (fun h_ => absurd (hp) h_)
              refine k_aload f79_18 rfl ?_
              refine k_getr (q := 17) f79_19 hS.o0 rfl hR.r0_5 ?_
              refine k_getr (q := 18) f79_22 hS.o17 rfl hR.r17_5 ?_
              refine k_iload f79_25 rfl ?_
              refine k_aar (k := c) (q := 17 + 2 + c) f79_26 hS.a18 rfl rfl (by omega) (by decide) (hst.1.2.2.2 c hc8).1 ?_
              refine k_astore (L' := [.ref 0, .int (nI c), .int (nI p), .ref (17 + 2 + c)]) f79_27 rfl rfl ?_
              refine k_aload f79_28 rfl ?_
              refine k_gI (w := I 62 (8 + 6 * c + 1)) f79_29 (hst.1.2.2.2 c hc8).2 rfl cn.2.1 ?_
              refine k_iload f79_32 rfl ?_
              refine k_ic_ne f79_33 (fun _ => ?_) (fun h_ => absurd (hT) h_)
              refine k_aload f79_38 rfl ?_
              refine k_getr (q := 17) f79_39 hS.o0 rfl hR.r0_5 ?_
              refine k_aload f79_42 rfl ?_
              refine e_v (as := [.ref (17 + 2 + c)]) (rest := []) f79_43 hS.o17 rfl rfl rfl (s_isVoidC (st := 17) hst cn (hst.1.2.2.2 c hc8).2) ?_
              refine k_beq f79_46 (fun _ => ?_) (fun h_ => (absurd h_ (hV)))
              refine k_aload f79_52 rfl ?_
              refine k_getr (q := 17) f79_53 hS.o0 rfl hR.r0_5 ?_
              refine k_aload f79_56 rfl ?_
              refine k_gI (w := I 62 (8 + 6 * c + 1)) f79_57 (hst.1.2.2.2 c hc8).2 rfl cn.2.1 ?_
              refine e_v (as := [.int (I 62 (8 + 6 * c + 1))]) (rest := []) f79_60 hS.o17 rfl rfl rfl (s_metToday (st := 17) hst hO.2.2.1.1 (by omega)) ?_
              refine k_iload f79_63 rfl ?_
              refine e_s (as := [.int (nI p), .int (acc (fM (I 62) (I 62 (8 + 6 * c + 1))) (cl (I 62 2)))]) (rest := []) f79_64 rfl rfl rfl ((by rw [k2]; exact s_has (b := k) (p := p) (by omega) (by omega))) ?_
              refine k_bne f79_67 (fun _ => ?_) (fun h_ => absurd (hM) h_)
              refine k_aload f79_73 rfl ?_
              refine k_getr (q := 39) f79_74 hS.o0 rfl hR.r0_9 ?_
              refine k_aload f79_77 rfl ?_
              refine k_getr (q := 17) f79_78 hS.o0 rfl hR.r0_5 ?_
              refine k_iload f79_81 rfl ?_
              refine k_iload f79_82 rfl ?_
              refine k_callv (as := [.int (nI p), .int (nI c), .ref 17]) (rest := []) f79_83 hS.o39 rfl rfl rfl rfl (q_pay (c := c) hR hS hst hO.2.1.1 (by omega) hcn cok.2.2.2.1 hp10) ?_
              rintro _ _ ⟨rfl, J1, rfl, hJ1⟩
              refine k_aload f79_86 rfl ?_
              refine k_callv (as := []) (rest := []) f79_87 hS.o0 rfl rfl rfl rfl (q_barC (f := I 62 6) (w := (wP (I 62) (cl (I 62 1)) c p)) hR hS hA hst.2.2.2.2.2.2.1 hO.2.2.2.2.2.1 hJ1) ?_
              rintro _ _ ⟨rfl, J2, rfl, hJ2⟩
              refine k_beq f79_90 (fun _ => ?_) (fun h_ => (absurd h_ (hB)))
              refine k_aload f79_96 rfl ?_
              refine k_iload f79_97 rfl ?_
              refine e_v (as := [.int (nI p)]) (rest := []) f79_98 (hst.1.2.2.2 c hc8).2 rfl rfl rfl (s_goTo (q := 17 + 2 + c) (h := cl (I 62 (8 + 6 * c + 3))) (p := p) (hst.1.2.2.2 c hc8).2 (cn.2.2.2.1.trans cok.2.2.2.1.1) cok.2.2.2.1.2 hp10) ?_
              refine k_iconst (v := 0) f79_101 rfl ?_
              refine k_iret f79_102 rfl ⟨_, rfl, ?_⟩
              obtain ⟨I1, eI1⟩ : ∃ I1, I1 = z_u (z_u (z_u I (17 + 2 + c) 4 (bI (¬ (cl (I 62 (8 + 6 * c + 3))).testBit p = true))) (17 + 2 + c) 3 ((nI (cl (I 62 (8 + 6 * c + 3)))) ||| ((1) <<< ((nI p) &&& 31)))) (17 + 2 + c) 1 (nI p) := ⟨_, rfl⟩
              rw [← eI1]
              have hs1 : I1 62 = I 62 := by
                rw [eI1, z_u_row' _ _ _ (by omega), z_u_row' _ _ _ (by omega), z_u_row' _ _ _ (by omega)]
              have f1 : ∀ p k, ¬ (17 ≤ p ∧ p ≤ 26) → I1 p k = I p k := by
                intro p k hp
                rw [eI1, z_u_p _ _ _ _ (by omega), z_u_p _ _ _ _ (by omega), z_u_p _ _ _ _ (by omega)]
              have kr1 : Kr I I1 := fun p k hp => f1 p k (by omega)
              have hst1 : StR I1 R G 17 pl (payR (I 62) c p) := by
                rw [eI1]
                exact hst.pay (p := p) (by omega) (by omega) hm25 hc8
              show zOk x 399 174 0 [.ref 51, .int (nI c), .int (nI p), zU] [] _ _
              refine k_aload f174_0 rfl ?_
              refine k_iload f174_1 rfl ?_
              refine e_v (as := [.int (nI c)]) (rest := []) f174_2 hS.o51 rfl rfl rfl (s_isCoin (w := I 62 1) hR hS (congrFun hs1 _)) ?_
              refine k_beq f174_5 (fun h_ => absurd (hc) h_) (fun _ => ?_)
              refine k_aload f174_8 rfl ?_
              refine k_iload f174_9 rfl ?_
              refine e_v (as := [.int (nI p)]) (rest := []) f174_10 hS.o51 rfl rfl rfl (s_isPerson (w := I 62 0) hR hS (congrFun hs1 _)) ?_
              refine k_beq f174_13 (fun h_ => absurd (hp) h_) (fun _ => ?_)
              refine k_aload f174_16 rfl ?_
              refine k_iload f174_17 rfl ?_
              refine k_iconst (v := 1) f174_18 rfl ?_
              refine e_v (as := [.int (1), .int (nI c)]) (rest := []) f174_19 hS.o51 rfl rfl rfl (s_coinOf (c := c) (k := 1) (v := I 62 (8 + 6 * c + 1)) hR hS (by omega) (congrFun hs1 _)) ?_
              refine k_iload f174_22 rfl ?_
              refine k_ic_ne f174_23 (fun _ => ?_) (fun h_ => absurd (hT) h_)
              refine k_aload f174_28 rfl ?_
              refine k_iload f174_29 rfl ?_
              refine k_iload f174_30 rfl ?_
              refine k_aload f174_31 rfl ?_
              refine k_getr (q := 62) f174_32 hS.o51 rfl hR.r51_25 ?_
              refine k_iconst (v := 6) f174_35 rfl ?_
              refine k_ia (k := 6) (w := I 62 6) f174_37 hS.a62 rfl (by decide) (by decide) (congrFun hs1 _) ?_
              refine k_callv (as := [.int (I 62 6), .int (nI p), .int (nI c)]) (rest := []) f174_38 hS.o51 rfl rfl rfl rfl (bP0 (f := I 62 6) (p := p) (s := I 62) (c := c) hR hS hs1 hO.2.1.1 (by omega) hcn hO.2.2.1.1 (by omega) (fun i hi => (hO.2.2.2.2.2.2.2.2 i hi).2.2.2) k2 k1 hp10 (hA.kr kr1) (by rw [kr1 0 4 (by omega)]; exact hO.2.2.2.2.2.1) cok.2.2.2.1 hV hM (by rw [baB_kr kr1]; exact hB)) ?_
              rintro _ _ ⟨rfl, I2, J3, rfl, hI2⟩
              refine k_istore (L' := [.ref 51, .int (nI c), .int (nI p), .int (0)]) f174_41 rfl rfl ?_
              refine k_iload f174_42 rfl ?_
              refine k_if_le f174_43 (fun _ => ?_) (fun h_ => absurd (by decide) h_)
              refine k_aload f174_51 rfl ?_
              refine k_iload f174_52 rfl ?_
              refine k_iload f174_53 rfl ?_
              have hs2 : I2 62 = I 62 := (funext fun k => hI2 62 k (by omega)).trans hs1
              refine e_v (as := [.int (nI p), .int (nI c)]) (rest := []) f174_54 hS.o51 rfl rfl rfl (s_pays (c := c) (h := cl (I 62 (8 + 6 * c + 3))) (p := p) hR hS hc8 ((congrFun hs2 _).trans cok.2.2.2.1.1) cok.2.2.2.1.2 hp10) ?_
              refine k_iconst (v := 0) f174_57 rfl ?_
              refine k_iret f174_58 rfl ⟨rfl, ?_⟩
              refine inv_two (I1 := I1) hI hst1 ?_ ?_ (fun p k h _ => f1 p k h) (fun p k h h2 => ?_)
              · rw [z_u_row' _ _ _ (by omega), z_u_row, z_u_row, z_u_row, hs2, payR_fu]
              · exact hO.pay hcn hpn hd
              · rw [z_u_no _ _ (by omega), z_u_no _ _ (by omega), z_u_no _ _ (by omega), z_u_no _ _ (by omega)]
                exact hI2 p k (by omega)
          · show zOk x 399 79 0 [.ref 0, .int (nI c), .int (nI p), zU] [] _ _
            refine k_aload f79_0 rfl ?_
            refine k_iload f79_1 rfl ?_
            refine e_v (as := [.int (nI c)]) (rest := []) f79_2 hS.o0 rfl rfl rfl (s_hasCoin hR hS hst) ?_
            refine k_beq f79_5 (fun h_ => absurd (hc) h_) (fun _ => ?_)
            refine k_aload f79_8 rfl ?_
            refine k_iload f79_9 rfl ?_
            refine e_v (as := [.int (nI p)]) (rest := []) f79_10 hS.o0 rfl rfl rfl (s_hasPerson hR hS hst) ?_
            refine k_bne f79_13 (fun _ => ?_) (fun h_ => absurd (hp) h_)
            refine k_aload f79_18 rfl ?_
            refine k_getr (q := 17) f79_19 hS.o0 rfl hR.r0_5 ?_
            refine k_getr (q := 18) f79_22 hS.o17 rfl hR.r17_5 ?_
            refine k_iload f79_25 rfl ?_
            refine k_aar (k := c) (q := 17 + 2 + c) f79_26 hS.a18 rfl rfl (by omega) (by decide) (hst.1.2.2.2 c hc8).1 ?_
            refine k_astore (L' := [.ref 0, .int (nI c), .int (nI p), .ref (17 + 2 + c)]) f79_27 rfl rfl ?_
            refine k_aload f79_28 rfl ?_
            refine k_gI (w := I 62 (8 + 6 * c + 1)) f79_29 (hst.1.2.2.2 c hc8).2 rfl cn.2.1 ?_
            refine k_iload f79_32 rfl ?_
            refine k_ic_ne f79_33 (fun _ => ?_) (fun h_ => absurd (hT) h_)
            refine k_aload f79_38 rfl ?_
            refine k_getr (q := 17) f79_39 hS.o0 rfl hR.r0_5 ?_
            refine k_aload f79_42 rfl ?_
            refine e_v (as := [.ref (17 + 2 + c)]) (rest := []) f79_43 hS.o17 rfl rfl rfl (s_isVoidC (st := 17) hst cn (hst.1.2.2.2 c hc8).2) ?_
            refine k_beq f79_46 (fun _ => ?_) (fun h_ => (absurd h_ (hV)))
            refine k_aload f79_52 rfl ?_
            refine k_getr (q := 17) f79_53 hS.o0 rfl hR.r0_5 ?_
            refine k_aload f79_56 rfl ?_
            refine k_gI (w := I 62 (8 + 6 * c + 1)) f79_57 (hst.1.2.2.2 c hc8).2 rfl cn.2.1 ?_
            refine e_v (as := [.int (I 62 (8 + 6 * c + 1))]) (rest := []) f79_60 hS.o17 rfl rfl rfl (s_metToday (st := 17) hst hO.2.2.1.1 (by omega)) ?_
            refine k_iload f79_63 rfl ?_
            refine e_s (as := [.int (nI p), .int (acc (fM (I 62) (I 62 (8 + 6 * c + 1))) (cl (I 62 2)))]) (rest := []) f79_64 rfl rfl rfl ((by rw [k2]; exact s_has (b := k) (p := p) (by omega) (by omega))) ?_
            refine k_bne f79_67 (fun h_ => absurd h_ (hM)) (fun _ => ?_)
            refine k_iconst (v := (-4)) f79_70 rfl ?_
            refine k_iret f79_72 rfl ⟨_, rfl, ?_⟩
            show zOk x 399 174 0 [.ref 51, .int (nI c), .int (nI p), zU] [] _ _
            refine k_aload f174_0 rfl ?_
            refine k_iload f174_1 rfl ?_
            refine e_v (as := [.int (nI c)]) (rest := []) f174_2 hS.o51 rfl rfl rfl (s_isCoin (w := I 62 1) hR hS rfl) ?_
            refine k_beq f174_5 (fun h_ => absurd (hc) h_) (fun _ => ?_)
            refine k_aload f174_8 rfl ?_
            refine k_iload f174_9 rfl ?_
            refine e_v (as := [.int (nI p)]) (rest := []) f174_10 hS.o51 rfl rfl rfl (s_isPerson (w := I 62 0) hR hS rfl) ?_
            refine k_beq f174_13 (fun h_ => absurd (hp) h_) (fun _ => ?_)
            refine k_aload f174_16 rfl ?_
            refine k_iload f174_17 rfl ?_
            refine k_iconst (v := 1) f174_18 rfl ?_
            refine e_v (as := [.int (1), .int (nI c)]) (rest := []) f174_19 hS.o51 rfl rfl rfl (s_coinOf (c := c) (k := 1) (v := I 62 (8 + 6 * c + 1)) hR hS (by omega) rfl) ?_
            refine k_iload f174_22 rfl ?_
            refine k_ic_ne f174_23 (fun _ => ?_) (fun h_ => absurd (hT) h_)
            refine k_aload f174_28 rfl ?_
            refine k_iload f174_29 rfl ?_
            refine k_iload f174_30 rfl ?_
            refine k_aload f174_31 rfl ?_
            refine k_getr (q := 62) f174_32 hS.o51 rfl hR.r51_25 ?_
            refine k_iconst (v := 6) f174_35 rfl ?_
            refine k_ia (k := 6) (w := I 62 6) f174_37 hS.a62 rfl (by decide) (by decide) rfl ?_
            refine e_v (as := [.int (I 62 6), .int (nI p), .int (nI c)]) (rest := []) f174_38 hS.o51 rfl rfl rfl (bP2 (p := p) (f := I 62 6) (s := I 62) (c := c) hR hS rfl hO.2.1.1 (by omega) hcn hO.2.2.1.1 (by omega) (fun i hi => (hO.2.2.2.2.2.2.2.2 i hi).2.2.2) k2 k1 hp10 hV hM) ?_
            refine k_istore (L' := [.ref 51, .int (nI c), .int (nI p), .int (2)]) f174_41 rfl rfl ?_
            refine k_iload f174_42 rfl ?_
            refine k_if_le f174_43 (fun h_ => absurd h_ (by decide)) (fun _ => ?_)
            refine k_iconst (v := (-2)) f174_46 rfl ?_
            refine k_iload f174_48 rfl ?_
            refine k_isub f174_49 ?_
            refine k_iret f174_50 rfl ⟨congrArg (fun t => some (Value.int t)) (by decide), ?_⟩
            exact inv_q hI (by omega) Kq.rfl KS.rfl
    · show zOk x 399 79 0 [.ref 0, .int (coin), .int (to), zU] [] _ _
      refine k_aload f79_0 rfl ?_
      refine k_iload f79_1 rfl ?_
      refine e_v (as := [.int (coin)]) (rest := []) f79_2 hS.o0 rfl rfl rfl (s_hasCoin hR hS hst) ?_
      refine k_beq f79_5 (fun h_ => absurd (hc) h_) (fun _ => ?_)
      refine k_aload f79_8 rfl ?_
      refine k_iload f79_9 rfl ?_
      refine e_v (as := [.int (to)]) (rest := []) f79_10 hS.o0 rfl rfl rfl (s_hasPerson hR hS hst) ?_
      refine k_bne f79_13 (fun h_ => absurd h_ (hp)) (fun _ => ?_)
      refine k_iconst (v := (-1)) f79_16 rfl ?_
      refine k_iret f79_17 rfl ⟨_, rfl, ?_⟩
      show zOk x 399 174 0 [.ref 51, .int (coin), .int (to), zU] [] _ _
      refine k_aload f174_0 rfl ?_
      refine k_iload f174_1 rfl ?_
      refine e_v (as := [.int (coin)]) (rest := []) f174_2 hS.o51 rfl rfl rfl (s_isCoin (w := I 62 1) hR hS rfl) ?_
      refine k_beq f174_5 (fun h_ => absurd (hc) h_) (fun _ => ?_)
      refine k_aload f174_8 rfl ?_
      refine k_iload f174_9 rfl ?_
      refine e_v (as := [.int (to)]) (rest := []) f174_10 hS.o51 rfl rfl rfl (s_isPerson (w := I 62 0) hR hS rfl) ?_
      refine k_beq f174_13 (fun _ => ?_) (fun h_ => (absurd h_ (hp)))
      refine k_iconst (v := (-1)) f174_26 rfl ?_
      refine k_iret f174_27 rfl ⟨rfl, ?_⟩
      exact inv_q hI (by omega) Kq.rfl KS.rfl
  · show zOk x 399 79 0 [.ref 0, .int (coin), .int (to), zU] [] _ _
    refine k_aload f79_0 rfl ?_
    refine k_iload f79_1 rfl ?_
    refine e_v (as := [.int (coin)]) (rest := []) f79_2 hS.o0 rfl rfl rfl (s_hasCoin hR hS hst) ?_
    refine k_beq f79_5 (fun _ => ?_) (fun h_ => (absurd h_ (hc)))
    refine k_iconst (v := (-1)) f79_16 rfl ?_
    refine k_iret f79_17 rfl ⟨_, rfl, ?_⟩
    show zOk x 399 174 0 [.ref 51, .int (coin), .int (to), zU] [] _ _
    refine k_aload f174_0 rfl ?_
    refine k_iload f174_1 rfl ?_
    refine e_v (as := [.int (coin)]) (rest := []) f174_2 hS.o51 rfl rfl rfl (s_isCoin (w := I 62 1) hR hS rfl) ?_
    refine k_beq f174_5 (fun _ => ?_) (fun h_ => (absurd h_ (hc)))
    refine k_iconst (v := (-1)) f174_26 rfl ?_
    refine k_iret f174_27 rfl ⟨rfl, ?_⟩
    exact inv_q hI (by omega) Kq.rfl KS.rfl
theorem op_home {x : Nat × (Nat → Int32)} (coin : Int32) : Op Inv x 80 175 [.int coin] := by
  refine Op.of2 fun j I J R G hj hI => ?_
  have hS : Sh G := hI.1
  have hR : Rs R := hI.2.1
  have hT1 : Rg (I 9 1) 401 := hI.2.2.2.2.1.1
  have hT2 : I 51 1 = I 9 1 := hI.2.2.2.2.1.2.1
  have hN1 : Rg (I 0 4) 7 := hI.2.2.2.2.2.1.1
  have hN2 : I 51 2 = I 0 4 := hI.2.2.2.2.2.1.2.1
  have hN3 : ∀ t, t < cl (I 0 4) → ∃ r, R 16 t = some r ∧ RuR I R G t r := hI.2.2.2.2.2.1.2.2
  obtain ⟨pl, hst⟩ : ∃ pl, StR I R G 17 pl (I 62) := hI.2.2.2.2.2.2.1
  have hO : SOk (I 62) (cl (I 0 4)) := hI.2.2.2.2.2.2.2.1
  by_cases hc : ¬ coin < 0 ∧ ¬ I 62 1 ≤ coin
  · obtain ⟨c, hcn, rfl⟩ := ix_of hO.2.1 (by omega) hc
    have hpl := hst.2.2.1.1
    have hm25 : cl (I 62 2) ≤ 25 := Nat.le_of_lt hO.2.2.1.2
    have hA : RuA I R G := ⟨hN1, hN3⟩
    have hm24 := hO.2.2.1.2
    have hn9 := hO.2.1.2
    have hc8 : c < 8 := by omega
    have cn := hst.2.2.2.2.2.2.2.2 c hcn
    have cok := hO.2.2.2.2.2.2.2.1 c hcn
    by_cases hV : ¬ I 62 3 - I 62 (8 + 6 * c + 2) ≤ I 62 7
    · show zOk x 399 80 0 [.ref 0, .int (nI c), zU] [] _ _
      refine k_aload f80_0 rfl ?_
      refine k_iload f80_1 rfl ?_
      refine e_v (as := [.int (nI c)]) (rest := []) f80_2 hS.o0 rfl rfl rfl (s_hasCoin hR hS hst) ?_
      refine k_bne f80_5 (fun _ => ?_) (fun h_ => absurd (hc) h_)
      refine k_aload f80_10 rfl ?_
      refine k_getr (q := 17) f80_11 hS.o0 rfl hR.r0_5 ?_
      refine k_getr (q := 18) f80_14 hS.o17 rfl hR.r17_5 ?_
      refine k_iload f80_17 rfl ?_
      refine k_aar (k := c) (q := 17 + 2 + c) f80_18 hS.a18 rfl rfl (by omega) (by decide) (hst.1.2.2.2 c hc8).1 ?_
      refine k_astore (L' := [.ref 0, .int (nI c), .ref (17 + 2 + c)]) f80_19 rfl rfl ?_
      refine k_aload f80_20 rfl ?_
      refine k_getr (q := 17) f80_21 hS.o0 rfl hR.r0_5 ?_
      refine k_aload f80_24 rfl ?_
      refine e_v (as := [.ref (17 + 2 + c)]) (rest := []) f80_25 hS.o17 rfl rfl rfl (s_isVoidC (st := 17) hst cn (hst.1.2.2.2 c hc8).2) ?_
      refine k_beq f80_28 (fun h_ => absurd (hV) h_) (fun _ => ?_)
      refine k_iconst (v := (-3)) f80_31 rfl ?_
      refine k_iret f80_33 rfl ⟨_, rfl, ?_⟩
      show zOk x 399 175 0 [.ref 51, .int (nI c), zU] [] _ _
      refine k_aload f175_0 rfl ?_
      refine k_iload f175_1 rfl ?_
      refine e_v (as := [.int (nI c)]) (rest := []) f175_2 hS.o51 rfl rfl rfl (s_isCoin (w := I 62 1) hR hS rfl) ?_
      refine k_bne f175_5 (fun _ => ?_) (fun h_ => absurd (hc) h_)
      refine k_aload f175_10 rfl ?_
      refine k_iload f175_11 rfl ?_
      refine k_aload f175_12 rfl ?_
      refine k_getr (q := 62) f175_13 hS.o51 rfl hR.r51_25 ?_
      refine k_iconst (v := 6) f175_16 rfl ?_
      refine k_ia (k := 6) (w := I 62 6) f175_18 hS.a62 rfl (by decide) (by decide) rfl ?_
      refine e_v (as := [.int (I 62 6), .int (nI c)]) (rest := []) f175_19 hS.o51 rfl rfl rfl (bH1 (f := I 62 6) (s := I 62) (c := c) hR hS rfl hO.2.1.1 (by omega) hcn hV) ?_
      refine k_istore (L' := [.ref 51, .int (nI c), .int (1)]) f175_22 rfl rfl ?_
      refine k_iload f175_23 rfl ?_
      refine k_if_le f175_24 (fun h_ => absurd h_ (by decide)) (fun _ => ?_)
      refine k_iconst (v := (-2)) f175_27 rfl ?_
      refine k_iload f175_29 rfl ?_
      refine k_isub f175_30 ?_
      refine k_iret f175_31 rfl ⟨congrArg (fun t => some (Value.int t)) (by decide), ?_⟩
      exact inv_q hI (by omega) Kq.rfl KS.rfl
    · by_cases hF : I 62 (8 + 6 * c + 4) = 0
      · show zOk x 399 80 0 [.ref 0, .int (nI c), zU] [] _ _
        refine k_aload f80_0 rfl ?_
        refine k_iload f80_1 rfl ?_
        refine e_v (as := [.int (nI c)]) (rest := []) f80_2 hS.o0 rfl rfl rfl (s_hasCoin hR hS hst) ?_
        refine k_bne f80_5 (fun _ => ?_) (fun h_ => absurd (hc) h_)
        refine k_aload f80_10 rfl ?_
        refine k_getr (q := 17) f80_11 hS.o0 rfl hR.r0_5 ?_
        refine k_getr (q := 18) f80_14 hS.o17 rfl hR.r17_5 ?_
        refine k_iload f80_17 rfl ?_
        refine k_aar (k := c) (q := 17 + 2 + c) f80_18 hS.a18 rfl rfl (by omega) (by decide) (hst.1.2.2.2 c hc8).1 ?_
        refine k_astore (L' := [.ref 0, .int (nI c), .ref (17 + 2 + c)]) f80_19 rfl rfl ?_
        refine k_aload f80_20 rfl ?_
        refine k_getr (q := 17) f80_21 hS.o0 rfl hR.r0_5 ?_
        refine k_aload f80_24 rfl ?_
        refine e_v (as := [.ref (17 + 2 + c)]) (rest := []) f80_25 hS.o17 rfl rfl rfl (s_isVoidC (st := 17) hst cn (hst.1.2.2.2 c hc8).2) ?_
        refine k_beq f80_28 (fun _ => ?_) (fun h_ => (absurd h_ (hV)))
        refine k_aload f80_34 rfl ?_
        refine k_gI (w := I 62 (8 + 6 * c + 4)) f80_35 (hst.1.2.2.2 c hc8).2 rfl cn.2.2.2.2.1 ?_
        refine k_if_ne f80_38 (fun h_ => absurd (hF) h_) (fun _ => ?_)
        refine k_iconst (v := (-4)) f80_41 rfl ?_
        refine k_iret f80_43 rfl ⟨_, rfl, ?_⟩
        show zOk x 399 175 0 [.ref 51, .int (nI c), zU] [] _ _
        refine k_aload f175_0 rfl ?_
        refine k_iload f175_1 rfl ?_
        refine e_v (as := [.int (nI c)]) (rest := []) f175_2 hS.o51 rfl rfl rfl (s_isCoin (w := I 62 1) hR hS rfl) ?_
        refine k_bne f175_5 (fun _ => ?_) (fun h_ => absurd (hc) h_)
        refine k_aload f175_10 rfl ?_
        refine k_iload f175_11 rfl ?_
        refine k_aload f175_12 rfl ?_
        refine k_getr (q := 62) f175_13 hS.o51 rfl hR.r51_25 ?_
        refine k_iconst (v := 6) f175_16 rfl ?_
        refine k_ia (k := 6) (w := I 62 6) f175_18 hS.a62 rfl (by decide) (by decide) rfl ?_
        refine e_v (as := [.int (I 62 6), .int (nI c)]) (rest := []) f175_19 hS.o51 rfl rfl rfl (bH2 (f := I 62 6) (s := I 62) (c := c) hR hS rfl hO.2.1.1 (by omega) hcn hV hF) ?_
        refine k_istore (L' := [.ref 51, .int (nI c), .int (2)]) f175_22 rfl rfl ?_
        refine k_iload f175_23 rfl ?_
        refine k_if_le f175_24 (fun h_ => absurd h_ (by decide)) (fun _ => ?_)
        refine k_iconst (v := (-2)) f175_27 rfl ?_
        refine k_iload f175_29 rfl ?_
        refine k_isub f175_30 ?_
        refine k_iret f175_31 rfl ⟨congrArg (fun t => some (Value.int t)) (by decide), ?_⟩
        exact inv_q hI (by omega) Kq.rfl KS.rfl
      · by_cases hB : baB I (I 62 6) (wH (I 62) (cl (I 62 1)) c) = true
        · show zOk x 399 80 0 [.ref 0, .int (nI c), zU] [] _ _
          refine k_aload f80_0 rfl ?_
          refine k_iload f80_1 rfl ?_
          refine e_v (as := [.int (nI c)]) (rest := []) f80_2 hS.o0 rfl rfl rfl (s_hasCoin hR hS hst) ?_
          refine k_bne f80_5 (fun _ => ?_) (fun h_ => absurd (hc) h_)
          refine k_aload f80_10 rfl ?_
          refine k_getr (q := 17) f80_11 hS.o0 rfl hR.r0_5 ?_
          refine k_getr (q := 18) f80_14 hS.o17 rfl hR.r17_5 ?_
          refine k_iload f80_17 rfl ?_
          refine k_aar (k := c) (q := 17 + 2 + c) f80_18 hS.a18 rfl rfl (by omega) (by decide) (hst.1.2.2.2 c hc8).1 ?_
          refine k_astore (L' := [.ref 0, .int (nI c), .ref (17 + 2 + c)]) f80_19 rfl rfl ?_
          refine k_aload f80_20 rfl ?_
          refine k_getr (q := 17) f80_21 hS.o0 rfl hR.r0_5 ?_
          refine k_aload f80_24 rfl ?_
          refine e_v (as := [.ref (17 + 2 + c)]) (rest := []) f80_25 hS.o17 rfl rfl rfl (s_isVoidC (st := 17) hst cn (hst.1.2.2.2 c hc8).2) ?_
          refine k_beq f80_28 (fun _ => ?_) (fun h_ => (absurd h_ (hV)))
          refine k_aload f80_34 rfl ?_
          refine k_gI (w := I 62 (8 + 6 * c + 4)) f80_35 (hst.1.2.2.2 c hc8).2 rfl cn.2.2.2.2.1 ?_
          refine k_if_ne f80_38 (fun _ => ?_) (fun h_ => absurd (hF) h_)
          refine k_aload f80_44 rfl ?_
          refine k_getr (q := 39) f80_45 hS.o0 rfl hR.r0_9 ?_
          refine k_aload f80_48 rfl ?_
          refine k_getr (q := 17) f80_49 hS.o0 rfl hR.r0_5 ?_
          refine k_iload f80_52 rfl ?_
          refine k_callv (as := [.int (nI c), .ref 17]) (rest := []) f80_53 hS.o39 rfl rfl rfl rfl (q_home (c := c) hR hS hst hO.2.1.1 (by omega) hcn cok.2.2.2.1 cok.2.2.2.2.1) ?_
          rintro _ _ ⟨rfl, J1, rfl, hJ1⟩
          refine k_aload f80_56 rfl ?_
          refine k_callv (as := []) (rest := []) f80_57 hS.o0 rfl rfl rfl rfl (q_barC (f := I 62 6) (w := (wH (I 62) (cl (I 62 1)) c)) hR hS hA hst.2.2.2.2.2.2.1 hO.2.2.2.2.2.1 hJ1) ?_
          rintro _ _ ⟨rfl, J2, rfl, hJ2⟩
          refine k_beq f80_60 (fun h_ => absurd (hB) h_) (fun _ => ?_)
          refine k_iconst (v := (-5)) f80_63 rfl ?_
          refine k_iret f80_65 rfl ⟨_, rfl, ?_⟩
          show zOk x 399 175 0 [.ref 51, .int (nI c), zU] [] _ _
          refine k_aload f175_0 rfl ?_
          refine k_iload f175_1 rfl ?_
          refine e_v (as := [.int (nI c)]) (rest := []) f175_2 hS.o51 rfl rfl rfl (s_isCoin (w := I 62 1) hR hS rfl) ?_
          refine k_bne f175_5 (fun _ => ?_) (fun h_ => absurd (hc) h_)
          refine k_aload f175_10 rfl ?_
          refine k_iload f175_11 rfl ?_
          refine k_aload f175_12 rfl ?_
          refine k_getr (q := 62) f175_13 hS.o51 rfl hR.r51_25 ?_
          refine k_iconst (v := 6) f175_16 rfl ?_
          refine k_ia (k := 6) (w := I 62 6) f175_18 hS.a62 rfl (by decide) (by decide) rfl ?_
          refine k_callv (as := [.int (I 62 6), .int (nI c)]) (rest := []) f175_19 hS.o51 rfl rfl rfl rfl (bH3 (f := I 62 6) (s := I 62) (c := c) hR hS rfl hO.2.1.1 (by omega) hcn hA hO.2.2.2.2.2.1 cok.2.2.2.1 hV hF hB) ?_
          rintro _ _ ⟨rfl, I2, J3, rfl, hI2⟩
          refine k_istore (L' := [.ref 51, .int (nI c), .int (3)]) f175_22 rfl rfl ?_
          refine k_iload f175_23 rfl ?_
          refine k_if_le f175_24 (fun h_ => absurd h_ (by decide)) (fun _ => ?_)
          refine k_iconst (v := (-2)) f175_27 rfl ?_
          refine k_iload f175_29 rfl ?_
          refine k_isub f175_30 ?_
          refine k_iret f175_31 rfl ⟨congrArg (fun t => some (Value.int t)) (by decide), ?_⟩
          exact inv_q hI (by omega) (fun p k hp hs => hI2 p k (fun e => hs (by unfold sc0; omega))) KS.rfl
        · show zOk x 399 80 0 [.ref 0, .int (nI c), zU] [] _ _
          refine k_aload f80_0 rfl ?_
          refine k_iload f80_1 rfl ?_
          refine e_v (as := [.int (nI c)]) (rest := []) f80_2 hS.o0 rfl rfl rfl (s_hasCoin hR hS hst) ?_
          refine k_bne f80_5 (fun _ => ?_) (fun h_ => absurd (hc) h_)
          refine k_aload f80_10 rfl ?_
          refine k_getr (q := 17) f80_11 hS.o0 rfl hR.r0_5 ?_
          refine k_getr (q := 18) f80_14 hS.o17 rfl hR.r17_5 ?_
          refine k_iload f80_17 rfl ?_
          refine k_aar (k := c) (q := 17 + 2 + c) f80_18 hS.a18 rfl rfl (by omega) (by decide) (hst.1.2.2.2 c hc8).1 ?_
          refine k_astore (L' := [.ref 0, .int (nI c), .ref (17 + 2 + c)]) f80_19 rfl rfl ?_
          refine k_aload f80_20 rfl ?_
          refine k_getr (q := 17) f80_21 hS.o0 rfl hR.r0_5 ?_
          refine k_aload f80_24 rfl ?_
          refine e_v (as := [.ref (17 + 2 + c)]) (rest := []) f80_25 hS.o17 rfl rfl rfl (s_isVoidC (st := 17) hst cn (hst.1.2.2.2 c hc8).2) ?_
          refine k_beq f80_28 (fun _ => ?_) (fun h_ => (absurd h_ (hV)))
          refine k_aload f80_34 rfl ?_
          refine k_gI (w := I 62 (8 + 6 * c + 4)) f80_35 (hst.1.2.2.2 c hc8).2 rfl cn.2.2.2.2.1 ?_
          refine k_if_ne f80_38 (fun _ => ?_) (fun h_ => absurd (hF) h_)
          refine k_aload f80_44 rfl ?_
          refine k_getr (q := 39) f80_45 hS.o0 rfl hR.r0_9 ?_
          refine k_aload f80_48 rfl ?_
          refine k_getr (q := 17) f80_49 hS.o0 rfl hR.r0_5 ?_
          refine k_iload f80_52 rfl ?_
          refine k_callv (as := [.int (nI c), .ref 17]) (rest := []) f80_53 hS.o39 rfl rfl rfl rfl (q_home (c := c) hR hS hst hO.2.1.1 (by omega) hcn cok.2.2.2.1 cok.2.2.2.2.1) ?_
          rintro _ _ ⟨rfl, J1, rfl, hJ1⟩
          refine k_aload f80_56 rfl ?_
          refine k_callv (as := []) (rest := []) f80_57 hS.o0 rfl rfl rfl rfl (q_barC (f := I 62 6) (w := (wH (I 62) (cl (I 62 1)) c)) hR hS hA hst.2.2.2.2.2.2.1 hO.2.2.2.2.2.1 hJ1) ?_
          rintro _ _ ⟨rfl, J2, rfl, hJ2⟩
          refine k_beq f80_60 (fun _ => ?_) (fun h_ => (absurd h_ (hB)))
          refine k_aload f80_66 rfl ?_
          refine k_getr (q := 17) f80_67 hS.o0 rfl hR.r0_5 ?_
          refine k_aload f80_70 rfl ?_
          refine e_v (as := [.ref (17 + 2 + c)]) (rest := []) f80_71 hS.o17 rfl rfl rfl (s_bringHome (st := 17) (q := 17 + 2 + c) hS.o17 (hst.1.2.2.2 c hc8).2 (by omega) hst.2.2.2.2.1 hst.2.2.2.2.2.1 cn.2.1 cn.2.2.2.2.2.1) ?_
          refine k_aload f80_74 rfl ?_
          refine k_gI (w := (I 62 (8 + 6 * c + 5)) + (1)) f80_75 (hst.1.2.2.2 c hc8).2 rfl (Eq.trans (z_u_k _ _ _ (by decide)) (z_u_same _ _ _ _)) ?_
          refine k_iret f80_78 rfl ⟨_, rfl, ?_⟩
          obtain ⟨I1, eI1⟩ : ∃ I1, I1 = z_u (z_u (z_u (z_u (z_u I (17 + 2 + c) 2 (I 62 3)) (17 + 2 + c) 3 ((1) <<< ((I 62 (8 + 6 * c + 1)) &&& 31))) (17 + 2 + c) 4 0) (17 + 2 + c) 5 ((I 62 (8 + 6 * c + 5)) + (1))) 17 2 ((I 62 4) + (1)) := ⟨_, rfl⟩
          rw [← eI1]
          have hs1 : I1 62 = I 62 := by
            rw [eI1, z_u_row' _ _ _ (by omega), z_u_row' _ _ _ (by omega), z_u_row' _ _ _ (by omega), z_u_row' _ _ _ (by omega), z_u_row' _ _ _ (by omega)]
          have f1 : ∀ p k, ¬ (17 ≤ p ∧ p ≤ 26) → I1 p k = I p k := by
            intro p k hp
            rw [eI1, z_u_p _ _ _ _ (by omega), z_u_p _ _ _ _ (by omega), z_u_p _ _ _ _ (by omega), z_u_p _ _ _ _ (by omega), z_u_p _ _ _ _ (by omega)]
          have kr1 : Kr I I1 := fun p k hp => f1 p k (by omega)
          have hst1 : StR I1 R G 17 pl (homR (I 62) c) := by
            rw [eI1]
            exact hst.hom (by omega) (by omega) hm25 hc8
          show zOk x 399 175 0 [.ref 51, .int (nI c), zU] [] _ _
          refine k_aload f175_0 rfl ?_
          refine k_iload f175_1 rfl ?_
          refine e_v (as := [.int (nI c)]) (rest := []) f175_2 hS.o51 rfl rfl rfl (s_isCoin (w := I 62 1) hR hS (congrFun hs1 _)) ?_
          refine k_bne f175_5 (fun _ => ?_) (fun h_ => absurd (hc) h_)
          refine k_aload f175_10 rfl ?_
          refine k_iload f175_11 rfl ?_
          refine k_aload f175_12 rfl ?_
          refine k_getr (q := 62) f175_13 hS.o51 rfl hR.r51_25 ?_
          refine k_iconst (v := 6) f175_16 rfl ?_
          refine k_ia (k := 6) (w := I 62 6) f175_18 hS.a62 rfl (by decide) (by decide) (congrFun hs1 _) ?_
          refine k_callv (as := [.int (I 62 6), .int (nI c)]) (rest := []) f175_19 hS.o51 rfl rfl rfl rfl (bH0 (f := I 62 6) (s := I 62) (c := c) hR hS hs1 hO.2.1.1 (by omega) hcn (hA.kr kr1) (by rw [kr1 0 4 (by omega)]; exact hO.2.2.2.2.2.1) cok.2.2.2.1 hV hF (by rw [baB_kr kr1]; exact hB)) ?_
          rintro _ _ ⟨rfl, I2, J3, rfl, hI2⟩
          refine k_istore (L' := [.ref 51, .int (nI c), .int (0)]) f175_22 rfl rfl ?_
          refine k_iload f175_23 rfl ?_
          refine k_if_le f175_24 (fun _ => ?_) (fun h_ => absurd (by decide) h_)
          refine k_aload f175_32 rfl ?_
          refine k_iload f175_33 rfl ?_
          have hs2 : I2 62 = I 62 := (funext fun k => hI2 62 k (by omega)).trans hs1
          refine e_v (as := [.int (nI c)]) (rest := []) f175_34 hS.o51 rfl rfl rfl (s_brings (c := c) (dy := I 62 3) (ho := I 62 (8 + 6 * c + 1)) (hm := I 62 (8 + 6 * c + 5)) (hc := I 62 4) hR hS hc8 (congrFun hs2 _) (congrFun hs2 _) (congrFun hs2 _) (congrFun hs2 _)) ?_
          have hlast : (z_u (z_u (z_u (z_u (z_u I2 62 (8 + 6 * c + 2) (I 62 3)) 62 (8 + 6 * c + 3) ((1) <<< ((I 62 (8 + 6 * c + 1)) &&& 31))) 62 (8 + 6 * c + 4) 0) 62 (8 + 6 * c + 5) ((I 62 (8 + 6 * c + 5)) + (1))) 62 4 ((I 62 4) + (1))) 62 (8 + 6 * c + 5) = (I 62 (8 + 6 * c + 5)) + (1) := by
            rw [z_u_k _ _ _ (by omega), z_u_same]
          refine k_aload f175_37 rfl ?_
          refine k_iload f175_38 rfl ?_
          refine k_iconst (v := 5) f175_39 rfl ?_
          refine e_v (as := [.int (5), .int (nI c)]) (rest := []) f175_40 hS.o51 rfl rfl rfl (s_coinOf (c := c) (k := 5) (v := (I 62 (8 + 6 * c + 5)) + (1)) hR hS (by omega) hlast) ?_
          refine k_iret f175_43 rfl ⟨rfl, ?_⟩
          refine inv_two (I1 := I1) hI hst1 ?_ ?_ (fun p k h _ => f1 p k h) (fun p k h h2 => ?_)
          · rw [z_u_row, z_u_row, z_u_row, z_u_row, z_u_row, hs2, homR_fu]
          · exact hO.hom hcn (Classical.not_not.mp hV) (rg2_1 cok.2.2.2.2.1 hF)
          · rw [z_u_no _ _ (by omega), z_u_no _ _ (by omega), z_u_no _ _ (by omega), z_u_no _ _ (by omega), z_u_no _ _ (by omega)]
            exact hI2 p k (by omega)
  · show zOk x 399 80 0 [.ref 0, .int (coin), zU] [] _ _
    refine k_aload f80_0 rfl ?_
    refine k_iload f80_1 rfl ?_
    refine e_v (as := [.int (coin)]) (rest := []) f80_2 hS.o0 rfl rfl rfl (s_hasCoin hR hS hst) ?_
    refine k_bne f80_5 (fun h_ => absurd h_ (hc)) (fun _ => ?_)
    refine k_iconst (v := (-1)) f80_8 rfl ?_
    refine k_iret f80_9 rfl ⟨_, rfl, ?_⟩
    show zOk x 399 175 0 [.ref 51, .int (coin), zU] [] _ _
    refine k_aload f175_0 rfl ?_
    refine k_iload f175_1 rfl ?_
    refine e_v (as := [.int (coin)]) (rest := []) f175_2 hS.o51 rfl rfl rfl (s_isCoin (w := I 62 1) hR hS rfl) ?_
    refine k_bne f175_5 (fun h_ => absurd h_ (hc)) (fun _ => ?_)
    refine k_iconst (v := (-1)) f175_8 rfl ?_
    refine k_iret f175_9 rfl ⟨rfl, ?_⟩
    exact inv_q hI (by omega) Kq.rfl KS.rfl
