/-! A TOWN read, in the class. -/
def plN (i : Nat) : Nat := if i < 3 then 8 else 24
def NP (I0 : Nat → Nat → Int32) (R0 : Nat → Nat → Option Nat) (G0 : zG) (pl i : Nat) (I : Nat → Nat → Int32) (R : Nat → Nat → Option Nat) (G : zG) : Prop :=
  G.2.2.1 = pl + 1 + i ∧ G.2.2.2 ≤ G0.2.2.2 + 24 * i ∧ zo G pl 3 ∧ (∀ j, j < i → R pl (4 + j) = some (pl + 1 + j) ∧ za G (pl + 1 + j) 14 (plN j)) ∧ (∀ p k, p ≤ pl → I p k = I0 p k) ∧ (∀ p k, p < pl → R p k = R0 p k) ∧ Gk G0 G
theorem NP.s {I0 I : Nat → Nat → Int32} {R0 R : Nat → Nat → Option Nat} {G0 G : zG} {pl i : Nat} (h : NP I0 R0 G0 pl i I R G) : NP I0 R0 G0 pl (i + 1) (z_r I (pl + 1 + i) (fun _ => 0)) (z_u (z_r R (pl + 1 + i) (fun _ => none)) pl (4 + i) (some (pl + 1 + i))) (zGn G 14 (plN i)) := by
  obtain ⟨n1, n2, n3, n4, n5, n6, n7⟩ := h
  refine ⟨by show G.2.2.1 + 1 = _; omega, ?_, n3.keep (Gk.new _ _), fun j hj => ?_, fun p k hp => ?_, fun p k hp => ?_, n7.trans (Gk.new _ _)⟩
  · show G.2.2.2 + plN i ≤ _
    have : plN i ≤ 24 := by unfold plN; split <;> omega
    omega
  · by_cases e : j = i
    · subst e
      rw [z_u_same]
      have z : za (zGn G 14 (plN j)) G.2.2.1 14 (plN j) := za.new
      rw [n1] at z
      exact ⟨rfl, z⟩
    · rw [z_u_k _ _ _ (by omega), z_r_o _ _ _ (by omega)]
      exact ⟨(n4 j (by omega)).1, (n4 j (by omega)).2.keep (Gk.new _ _)⟩
  · rw [z_r_o _ _ _ (by omega)]
    exact n5 p k hp
  · rw [z_u_p _ _ _ _ (by omega), z_r_o _ _ _ (by omega)]
    exact n6 p k hp
theorem q_newP {x : Nat × (Nat → Int32)} {d : Nat} {I : Nat → Nat → Int32} {J : Nat → Nat → Int64} {R : Nat → Nat → Option Nat} {G : zG} {pl : Nat} (hpl : pl < 500000) (hT : G.2.2.2 < 7000000) (hG : G.2.2.1 = pl + 1) (h3 : zo G pl 3) : zOk x d 18 0 [.ref pl] [] (I, J, R, G) (fun v m => v = none ∧ ∃ I' J' R' G', m = (I', J', R', G') ∧ NP I R G pl 7 I' R' G') := by
  have hN0 : NP I R G pl 0 I R G := ⟨by omega, by omega, h3, fun j hj => absurd hj (Nat.not_lt_zero _), fun _ _ _ => rfl, fun _ _ _ => rfl, Gk.rfl⟩
  refine k_aload f18_0 rfl ?_
  refine k_objinit f18_1 rfl ?_
  suffices kk : ∀ I1 J1 R1 G1, NP I R G pl 1 I1 R1 G1 → zOk x d 18 12 [.ref pl] [] (I1, J1, R1, G1) (fun v m => v = none ∧ ∃ I' J' R' G', m = (I', J', R', G') ∧ NP I R G pl 7 I' R' G') by
    refine k_aload f18_4 rfl ?_
    refine k_iconst (v := 8) f18_5 rfl ?_
    refine k_newa (N := 8) (kd := 14) f18_7 (by decide) (by decide) (by decide) rfl (by decide) ⟨by have := hN0.1; omega, by have := hN0.2.1; omega⟩ ?_
    refine k_putR f18_9 (hN0.2.2.1.keep (Gk.new _ _)) rfl ?_
    rw [hN0.1]
    exact kk _ _ _ _ hN0.s
  intro I1 J1 R1 G1 hN1
  suffices kk : ∀ I1 J1 R1 G1, NP I R G pl 2 I1 R1 G1 → zOk x d 18 20 [.ref pl] [] (I1, J1, R1, G1) (fun v m => v = none ∧ ∃ I' J' R' G', m = (I', J', R', G') ∧ NP I R G pl 7 I' R' G') by
    refine k_aload f18_12 rfl ?_
    refine k_iconst (v := 8) f18_13 rfl ?_
    refine k_newa (N := 8) (kd := 14) f18_15 (by decide) (by decide) (by decide) rfl (by decide) ⟨by have := hN1.1; omega, by have := hN1.2.1; omega⟩ ?_
    refine k_putR f18_17 (hN1.2.2.1.keep (Gk.new _ _)) rfl ?_
    rw [hN1.1]
    exact kk _ _ _ _ hN1.s
  intro I2 J2 R2 G2 hN2
  suffices kk : ∀ I1 J1 R1 G1, NP I R G pl 3 I1 R1 G1 → zOk x d 18 28 [.ref pl] [] (I1, J1, R1, G1) (fun v m => v = none ∧ ∃ I' J' R' G', m = (I', J', R', G') ∧ NP I R G pl 7 I' R' G') by
    refine k_aload f18_20 rfl ?_
    refine k_iconst (v := 8) f18_21 rfl ?_
    refine k_newa (N := 8) (kd := 14) f18_23 (by decide) (by decide) (by decide) rfl (by decide) ⟨by have := hN2.1; omega, by have := hN2.2.1; omega⟩ ?_
    refine k_putR f18_25 (hN2.2.2.1.keep (Gk.new _ _)) rfl ?_
    rw [hN2.1]
    exact kk _ _ _ _ hN2.s
  intro I3 J3 R3 G3 hN3
  suffices kk : ∀ I1 J1 R1 G1, NP I R G pl 4 I1 R1 G1 → zOk x d 18 36 [.ref pl] [] (I1, J1, R1, G1) (fun v m => v = none ∧ ∃ I' J' R' G', m = (I', J', R', G') ∧ NP I R G pl 7 I' R' G') by
    refine k_aload f18_28 rfl ?_
    refine k_iconst (v := 24) f18_29 rfl ?_
    refine k_newa (N := 24) (kd := 14) f18_31 (by decide) (by decide) (by decide) rfl (by decide) ⟨by have := hN3.1; omega, by have := hN3.2.1; omega⟩ ?_
    refine k_putR f18_33 (hN3.2.2.1.keep (Gk.new _ _)) rfl ?_
    rw [hN3.1]
    exact kk _ _ _ _ hN3.s
  intro I4 J4 R4 G4 hN4
  suffices kk : ∀ I1 J1 R1 G1, NP I R G pl 5 I1 R1 G1 → zOk x d 18 44 [.ref pl] [] (I1, J1, R1, G1) (fun v m => v = none ∧ ∃ I' J' R' G', m = (I', J', R', G') ∧ NP I R G pl 7 I' R' G') by
    refine k_aload f18_36 rfl ?_
    refine k_iconst (v := 24) f18_37 rfl ?_
    refine k_newa (N := 24) (kd := 14) f18_39 (by decide) (by decide) (by decide) rfl (by decide) ⟨by have := hN4.1; omega, by have := hN4.2.1; omega⟩ ?_
    refine k_putR f18_41 (hN4.2.2.1.keep (Gk.new _ _)) rfl ?_
    rw [hN4.1]
    exact kk _ _ _ _ hN4.s
  intro I5 J5 R5 G5 hN5
  suffices kk : ∀ I1 J1 R1 G1, NP I R G pl 6 I1 R1 G1 → zOk x d 18 52 [.ref pl] [] (I1, J1, R1, G1) (fun v m => v = none ∧ ∃ I' J' R' G', m = (I', J', R', G') ∧ NP I R G pl 7 I' R' G') by
    refine k_aload f18_44 rfl ?_
    refine k_iconst (v := 24) f18_45 rfl ?_
    refine k_newa (N := 24) (kd := 14) f18_47 (by decide) (by decide) (by decide) rfl (by decide) ⟨by have := hN5.1; omega, by have := hN5.2.1; omega⟩ ?_
    refine k_putR f18_49 (hN5.2.2.1.keep (Gk.new _ _)) rfl ?_
    rw [hN5.1]
    exact kk _ _ _ _ hN5.s
  intro I6 J6 R6 G6 hN6
  suffices kk : ∀ I1 J1 R1 G1, NP I R G pl 7 I1 R1 G1 → zOk x d 18 60 [.ref pl] [] (I1, J1, R1, G1) (fun v m => v = none ∧ ∃ I' J' R' G', m = (I', J', R', G') ∧ NP I R G pl 7 I' R' G') by
    refine k_aload f18_52 rfl ?_
    refine k_iconst (v := 24) f18_53 rfl ?_
    refine k_newa (N := 24) (kd := 14) f18_55 (by decide) (by decide) (by decide) rfl (by decide) ⟨by have := hN6.1; omega, by have := hN6.2.1; omega⟩ ?_
    refine k_putR f18_57 (hN6.2.2.1.keep (Gk.new _ _)) rfl ?_
    rw [hN6.1]
    exact kk _ _ _ _ hN6.s
  intro I7 J7 R7 G7 hN7
  exact k_vret f18_60 ⟨rfl, _, _, _, _, rfl, hN7⟩
theorem NP.x {I0 I : Nat → Nat → Int32} {R0 R : Nat → Nat → Option Nat} {G0 G : zG} {pl : Nat} (h : NP I0 R0 G0 pl 7 I R G) : PlX R G pl := by
  obtain ⟨n1, n2, n3, n4, n5, n6, n7⟩ := h
  refine ⟨n3, fun i hi => (n4 i hi).1, fun i hi => ?_, fun i hi => ?_⟩
  · have := (n4 i (by omega)).2
    rw [show plN i = 8 from if_pos hi] at this
    exact this
  · have := (n4 (3 + i) (by omega)).2
    rw [show plN (3 + i) = 24 from if_neg (by omega), show pl + 1 + (3 + i) = pl + 4 + i by omega] at this
    exact this
def RdP (v : Option Value) (I : Nat → Nat → Int32) (R : Nat → Nat → Option Nat) (G : zG) (pl : Nat) : Sum Nat TS → Prop
  | .inl e => v = some .null ∧ I 9 7 = nI e
  | .inr s => v = some (.ref pl) ∧ TwC I R G pl s
theorem lp_read {x : Nat × (Nat → Int32)} {d : Nat} {J : Nat → Nat → Int64} {R : Nat → Nat → Option Nat} {G : zG} {I0 : Nat → Nat → Int32} {b : Nat → Nat} {n pl : Nat} (hR : Rs R) (hS : Sh G) (hT0 : TP I0 b n) (hpl : 71 ≤ pl) : ∀ (f : Nat) (s : TS) (q i : Nat) (I : Nat → Nat → Int32), s.2.2.2.2 + f = 40 → i + f = 40 → q ≤ n → tsO s → FP pl I0 I → ClP I R G b n pl (clT b n s q) → zOk x (d + 7) 57 39 [.ref 11, .ref pl, .int (nI i)] [] (I, J, R, G) (fun v m => ∃ I', m = (I', J, R, G) ∧ FP pl I0 I' ∧ RdP v I' R G pl (rdT b n (f + 1) s q)) := by
  have h400 := hT0.1
  intro f
  induction f with
  | zero =>
    intro s q i I hln hi hq ho hF hC
    have hT := hF.tp hpl hT0
    rw [rdT_s]
    cases hc : clT b n s q with
    | inl e =>
      rw [hc] at hC
      have ht : CX I b n (.inl e) := hC
      show zOk x (d + 7) 57 39 _ [] _ (fun v m => ∃ I', m = (I', J, R, G) ∧ FP pl I0 I' ∧ RdP v I' R G pl (.inl e))
      refine k_iload f57_39 rfl ?_
      refine k_iconst (v := 400) f57_40 rfl ?_
      refine k_ic_ge f57_43 (fun h_ => absurd h_ (nI_ge (b := 400) (by omega) (by omega))) (fun _ => ?_)
      refine k_aload f57_46 rfl ?_
      refine k_getr (q := 9) f57_47 hS.o11 rfl hR.r11_0 ?_
      refine k_iconst (v := 59) f57_50 rfl ?_
      refine e_v (as := [.int (59)]) (rest := []) f57_52 hS.o9 rfl rfl rfl (s_isSign (c := 59) hS ht (by omega) hT) ?_
      refine k_beq f57_55 (fun _ => ?_) (fun h_ => (absurd h_ ((fun z => by cases z))))
      refine k_aload f57_76 rfl ?_
      refine k_getr (q := 9) f57_77 hS.o11 rfl hR.r11_0 ?_
      refine e_v (as := []) (rest := []) f57_80 hS.o9 rfl rfl rfl (s_isEnd hS ht) ?_
      refine k_bne f57_83 (fun h_ => absurd h_ ((fun z => by cases z))) (fun _ => ?_)
      refine k_aload f57_86 rfl ?_
      refine k_getr (q := 9) f57_87 hS.o11 rfl hR.r11_0 ?_
      refine k_iconst (v := 0) f57_90 rfl ?_
      refine k_callv (as := [.int (0)]) (rest := []) f57_91 hS.o9 rfl rfl rfl rfl (q_fail (b := b) (n := n) (w := 0) (t := .inl e) hS hT.1 (by omega) ht) ?_
      rintro _ _ ⟨rfl, I1, rfl, ht1, hf1⟩
      refine k_aload f57_94 rfl ?_
      refine k_getr (q := 9) f57_95 hS.o11 rfl hR.r11_0 ?_
      refine k_gI (w := nI e) f57_98 hS.o9 rfl ht1.2.1 ?_
      refine k_if_ne f57_101 (fun _ => ?_) (fun h_ => absurd ((fun z => absurd ((nI_eq (b := 0) (by have := ht1.2.2.2.1; omega) (by omega)).mp z) (by have := ht1.2.2.1; omega))) h_)
      refine k_null f57_108 ?_
      exact k_nret f57_109 ⟨I1, rfl, hF.trans hf1.fp, rfl, ht1.2.1⟩
    | inr z =>
      exact absurd (cl_40 (s' := z.1) (p := z.2) hc) (by omega)
  | succ f ih =>
    intro s q i I hln hi hq ho hF hC
    have hT := hF.tp hpl hT0
    rw [rdT_s]
    cases hc : clT b n s q with
    | inl e =>
      rw [hc] at hC
      have ht : CX I b n (.inl e) := hC
      show zOk x (d + 7) 57 39 _ [] _ (fun v m => ∃ I', m = (I', J, R, G) ∧ FP pl I0 I' ∧ RdP v I' R G pl (.inl e))
      refine k_iload f57_39 rfl ?_
      refine k_iconst (v := 400) f57_40 rfl ?_
      refine k_ic_ge f57_43 (fun h_ => absurd h_ (nI_ge (b := 400) (by omega) (by omega))) (fun _ => ?_)
      refine k_aload f57_46 rfl ?_
      refine k_getr (q := 9) f57_47 hS.o11 rfl hR.r11_0 ?_
      refine k_iconst (v := 59) f57_50 rfl ?_
      refine e_v (as := [.int (59)]) (rest := []) f57_52 hS.o9 rfl rfl rfl (s_isSign (c := 59) hS ht (by omega) hT) ?_
      refine k_beq f57_55 (fun _ => ?_) (fun h_ => (absurd h_ ((fun z => by cases z))))
      refine k_aload f57_76 rfl ?_
      refine k_getr (q := 9) f57_77 hS.o11 rfl hR.r11_0 ?_
      refine e_v (as := []) (rest := []) f57_80 hS.o9 rfl rfl rfl (s_isEnd hS ht) ?_
      refine k_bne f57_83 (fun h_ => absurd h_ ((fun z => by cases z))) (fun _ => ?_)
      refine k_aload f57_86 rfl ?_
      refine k_getr (q := 9) f57_87 hS.o11 rfl hR.r11_0 ?_
      refine k_iconst (v := 0) f57_90 rfl ?_
      refine k_callv (as := [.int (0)]) (rest := []) f57_91 hS.o9 rfl rfl rfl rfl (q_fail (b := b) (n := n) (w := 0) (t := .inl e) hS hT.1 (by omega) ht) ?_
      rintro _ _ ⟨rfl, I1, rfl, ht1, hf1⟩
      refine k_aload f57_94 rfl ?_
      refine k_getr (q := 9) f57_95 hS.o11 rfl hR.r11_0 ?_
      refine k_gI (w := nI e) f57_98 hS.o9 rfl ht1.2.1 ?_
      refine k_if_ne f57_101 (fun _ => ?_) (fun h_ => absurd ((fun z => absurd ((nI_eq (b := 0) (by have := ht1.2.2.2.1; omega) (by omega)).mp z) (by have := ht1.2.2.1; omega))) h_)
      refine k_null f57_108 ?_
      exact k_nret f57_109 ⟨I1, rfl, hF.trans hf1.fp, rfl, ht1.2.1⟩
    | inr z =>
      rw [hc] at hC
      obtain ⟨ht, hw⟩ := hC
      obtain ⟨k1, k2, k3⟩ := cl_ok (s' := z.1) (p := z.2) hq ho hc
      have q2 : bk b n z.2 ≤ n := (bk_le k3).2
      show zOk x (d + 7) 57 39 _ [] _ (fun v m => ∃ I', m = (I', J, R, G) ∧ FP pl I0 I' ∧ RdP v I' R G pl (if siT b n 59 (.inr (bk b n z.2)) = true then rdT b n (f + 1) z.1 (bk b n (ed b n (bk b n z.2))) else if enT b n (.inr (bk b n z.2)) = true then .inr z.1 else .inl (1 + 8 * bk b n z.2)))
      by_cases hs : siT b n 59 (.inr (bk b n z.2)) = true
      · rw [if_pos hs]
        refine k_iload f57_39 rfl ?_
        refine k_iconst (v := 400) f57_40 rfl ?_
        refine k_ic_ge f57_43 (fun h_ => absurd h_ (nI_ge (b := 400) (by omega) (by omega))) (fun _ => ?_)
        refine k_aload f57_46 rfl ?_
        refine k_getr (q := 9) f57_47 hS.o11 rfl hR.r11_0 ?_
        refine k_iconst (v := 59) f57_50 rfl ?_
        refine e_v (as := [.int (59)]) (rest := []) f57_52 hS.o9 rfl rfl rfl (s_isSign (c := 59) hS ht (by omega) hT) ?_
        refine k_beq f57_55 (fun h_ => absurd (hs) h_) (fun _ => ?_)
        refine k_aload f57_58 rfl ?_
        refine k_getr (q := 9) f57_59 hS.o11 rfl hR.r11_0 ?_
        refine k_callv (as := []) (rest := []) f57_62 hS.o9 rfl rfl rfl rfl (q_next hR hS hT ht) ?_
        rintro _ _ ⟨rfl, I1, rfl, ht1, hf1⟩
        have hT1 := hf1.tp hT
        have hw1 : TwC I1 R G pl z.1 := hw.keep fun p k h => hf1 p k (by omega)
        obtain ⟨⟨P, y, ⟨c, cf⟩, ⟨m, mf⟩, ln⟩, zp⟩ := z
        refine k_aload f57_65 rfl ?_
        refine k_aload f57_66 rfl ?_
        refine k_callv (as := [.ref pl]) (rest := []) f57_67 hS.o11 rfl rfl rfl rfl (q_clauseC (q := bk b n (ed b n (bk b n zp))) hR hS hT1 ht1 hw1 k1) ?_
        rintro _ _ ⟨rfl, I2, rfl, hf2, hC2⟩
        refine k_iinc (w := nI (i + 1)) (L' := [.ref 11, .ref pl, .int (nI (i + 1))]) f57_70 rfl (nI_1 i) rfl rfl ?_
        refine k_goto f57_73 ?_
        exact ih _ _ (i + 1) I2 (by have k2 : ln = s.2.2.2.2 + 1 := k2; show ln + f = 40; omega) (by omega) (bk_le (ed_le q2).2).2 k1 (hF.trans (hf1.fp.trans hf2)) hC2
      · rw [if_neg hs]
        by_cases hE : enT b n (.inr (bk b n z.2)) = true
        · refine k_iload f57_39 rfl ?_
          refine k_iconst (v := 400) f57_40 rfl ?_
          refine k_ic_ge f57_43 (fun h_ => absurd h_ (nI_ge (b := 400) (by omega) (by omega))) (fun _ => ?_)
          refine k_aload f57_46 rfl ?_
          refine k_getr (q := 9) f57_47 hS.o11 rfl hR.r11_0 ?_
          refine k_iconst (v := 59) f57_50 rfl ?_
          refine e_v (as := [.int (59)]) (rest := []) f57_52 hS.o9 rfl rfl rfl (s_isSign (c := 59) hS ht (by omega) hT) ?_
          refine k_beq f57_55 (fun _ => ?_) (fun h_ => (absurd h_ (hs)))
          refine k_aload f57_76 rfl ?_
          refine k_getr (q := 9) f57_77 hS.o11 rfl hR.r11_0 ?_
          refine e_v (as := []) (rest := []) f57_80 hS.o9 rfl rfl rfl (s_isEnd hS ht) ?_
          refine k_bne f57_83 (fun _ => ?_) (fun h_ => absurd (hE) h_)
          refine k_aload f57_94 rfl ?_
          refine k_getr (q := 9) f57_95 hS.o11 rfl hR.r11_0 ?_
          refine k_gI (w := 0) f57_98 hS.o9 rfl ht.2.2.2.2.2.1 ?_
          refine k_if_ne f57_101 (fun h_ => absurd (by decide) h_) (fun _ => ?_)
          refine k_aload f57_104 rfl ?_
          refine k_goto f57_105 ?_
          exact k_aret f57_109 ⟨I, rfl, hF, by rw [if_pos hE]; exact ⟨rfl, hw⟩⟩
        · refine k_iload f57_39 rfl ?_
          refine k_iconst (v := 400) f57_40 rfl ?_
          refine k_ic_ge f57_43 (fun h_ => absurd h_ (nI_ge (b := 400) (by omega) (by omega))) (fun _ => ?_)
          refine k_aload f57_46 rfl ?_
          refine k_getr (q := 9) f57_47 hS.o11 rfl hR.r11_0 ?_
          refine k_iconst (v := 59) f57_50 rfl ?_
          refine e_v (as := [.int (59)]) (rest := []) f57_52 hS.o9 rfl rfl rfl (s_isSign (c := 59) hS ht (by omega) hT) ?_
          refine k_beq f57_55 (fun _ => ?_) (fun h_ => (absurd h_ (hs)))
          refine k_aload f57_76 rfl ?_
          refine k_getr (q := 9) f57_77 hS.o11 rfl hR.r11_0 ?_
          refine e_v (as := []) (rest := []) f57_80 hS.o9 rfl rfl rfl (s_isEnd hS ht) ?_
          refine k_bne f57_83 (fun h_ => absurd h_ (hE)) (fun _ => ?_)
          refine k_aload f57_86 rfl ?_
          refine k_getr (q := 9) f57_87 hS.o11 rfl hR.r11_0 ?_
          refine k_iconst (v := 0) f57_90 rfl ?_
          refine k_callv (as := [.int (0)]) (rest := []) f57_91 hS.o9 rfl rfl rfl rfl (q_fail (b := b) (n := n) (w := 0) (t := .inr (bk b n z.2)) hS hT.1 (by omega) ht) ?_
          rintro _ _ ⟨rfl, I1, rfl, ht1, hf1⟩
          refine k_aload f57_94 rfl ?_
          refine k_getr (q := 9) f57_95 hS.o11 rfl hR.r11_0 ?_
          refine k_gI (w := nI (1 + 8 * bk b n z.2 + 0)) f57_98 hS.o9 rfl ht1.2.1 ?_
          refine k_if_ne f57_101 (fun _ => ?_) (fun h_ => absurd ((fun z => absurd ((nI_eq (b := 0) (by have := ht1.2.2.2.1; omega) (by omega)).mp z) (by have := ht1.2.2.1; omega))) h_)
          refine k_null f57_108 ?_
          exact k_nret f57_109 ⟨I1, rfl, hF.trans hf1.fp, by rw [if_neg hE]; exact ⟨rfl, ht1.2.1⟩⟩
