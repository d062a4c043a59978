/-! RULES, read in the reference: a fact. -/
def PF (I I' : Nat → Nat → Int32) (b : Nat → Nat) (n t L k : Nat) (v : Option Value) (r : Sum Nat R3) : Prop := (∃ e, r = .inl e ∧ v = some (.int 0) ∧ I' 51 14 = nI e) ∨ ∃ (S' : List Nat) (d' : Nat) (z : R3) (k' : Nat) (r' : Sum Nat R3), v = some (.int 1) ∧ k' < k ∧ r = apR (z.1 ++ (stQ 3 S' d').2.2) r' ∧ MR b n k' false (stQ 3 S' d').1 (stQ 3 S' d').2.1 z.2.1 z.2.2 r' ∧ RD I' b n t z.2.2 z.2.1 (L + z.1.length) ∧ DA I I' t L z.1 ∧ SK I' S' d' ∧ L + z.1.length + S'.length ≤ z.2.2 ∧ z.2.2 ≤ n ∧ z.2.1 ≤ 60
theorem PF.l {I I1 I' : Nat → Nat → Int32} {b : Nat → Nat} {n t L k k1 : Nat} {v : Option Value} {r : Sum Nat R3} (h : PF I1 I' b n t L k1 v r) (hk : k1 ≤ k) (e : ∀ i, I1 53 i = I 53 i) : PF I I' b n t L k v r := by
  rcases h with h | ⟨S', d', z, k', r', h1, h2, h3, h4, h5, h6, h7⟩
  · exact Or.inl h
  · exact Or.inr ⟨S', d', z, k', r', h1, by omega, h3, h4, h5, h6.l e, h7⟩
theorem q_isWg {x : Nat × (Nat → Int32)} {d : Nat} {I : Nat → Nat → Int32} {J : Nat → Nat → Int64} {R : Nat → Nat → Option Nat} {G : zG} {b : Nat → Nat} {n p : Nat} {w : List Nat} {W : Int64} (hW : pW w = W) (hR : Rs R) (hS : Sh G) (hT : TP I b n) (hx : RX I n p) (hw : WdL w) : zOk x (d + 1) 120 0 [.ref 51, .long W, zU, zU, zU, zU] [] (I, J, R, G) (fun v m => v = some (.int (bI (tkB b n (bk b n p) w = true))) ∧ ∃ I', m = (I', J, R, G) ∧ RX I' n (bk b n p) ∧ LX I I') := by
  subst hW
  exact q_isW hR hS hT hx hw
theorem wN_l : WdL wNot := ⟨by decide, by decide, by decide⟩
theorem wA_l : WdL wAnd := ⟨by decide, by decide, by decide⟩
theorem wO_l : WdL wOr := ⟨by decide, by decide, by decide⟩
theorem wN_v : pW wNot = 7237492 := by decide +kernel
theorem wA_v : pW wAnd = 6385252 := by decide +kernel
theorem wO_v : pW wOr = 28530 := by decide +kernel
theorem lp_fact {x : Nat × (Nat → Int32)} {d : Nat} {J : Nat → Nat → Int64} {R : Nat → Nat → Option Nat} {G : zG} {b : Nat → Nat} {n t m L : Nat} {r : Sum Nat R3} (hR : Rs R) (hS : Sh G) (ht : t < 6) : ∀ (k : Nat) (S : List Nat) (dd p : Nat) (I : Nat → Nat → Int32) (u : Value), p ≤ n → L + S.length ≤ p → TP I b n → RD I b n t p m L → SK I S dd → MR b n k true S dd m p r → zOk x (d + 7) 133 2 [.ref 51, .int 1, u] [] (I, J, R, G) (fun v mm => ∃ I', mm = (I', J, R, G) ∧ FT t I I' ∧ PF I I' b n t L k v r) := by
  intro k
  induction k with
  | zero => intro S dd p I u _ _ _ _ _ hm; exact hm.elim
  | succ k ih =>
    intro S dd p I u hp hL hT hd hs hm
    have hdk := hd
    obtain ⟨⟨q0, hx, hq0⟩, hr⟩ := hd
    have h400 := hT.1
    have hq := bk_le (b := b) hp
    have hqq := bk_bk (b := b) hp
    have hm6 := hr.2.2.2
    have b8 : bk b n p < n → b (bk b n p) < 256 := fun h => (hT.2 _ (by omega)).1
    have s1 := se_si b8 pl91
    have e18 := hs.2.1
    have e21 := hs.1
    rw [MR_A] at hm
    by_cases g1 : tkB b n (bk b n p) wNot = true
    · rw [if_pos g1] at hm
      have hL1 := (tk_iff.mp g1).1
      have w1 := wl_lt hL1
      have w2 := (wl_le (b := b) hq.2).2
      by_cases d0 : dd = 0
      · rw [if_pos d0] at hm
        subst d0
        refine k_iload f133_2 rfl ?_
        refine k_if_eq f133_3 (fun h_ => absurd h_ (by decide)) (fun _ => ?_)
        refine k_iconst (v := 0) f133_6 rfl ?_
        refine k_istore (L' := [.ref 51, .int (0), u]) f133_7 rfl rfl ?_
        refine k_aload f133_8 rfl ?_
        refine k_callv (as := []) (rest := []) f133_9 hS.o51 rfl rfl rfl rfl (q_see hR hS hT hx) ?_
        rintro _ _ ⟨rfl, I1, rfl, hx1, hl1⟩
        rw [hq0] at hx1
        rw [hq0]
        have hT1 := hl1.tp hT
        have hr1 := hr.lx hl1
        have hs1 := hs.lx hl1
        refine k_istore (L' := [.ref 51, .int (0), .int (seV b n (bk b n p))]) f133_12 rfl rfl ?_
        refine k_aload f133_13 rfl ?_
        refine k_lconst (v := 7237492) f133_14 rfl ?_
        refine k_callv (as := [.long (7237492)]) (rest := []) f133_17 hS.o51 rfl rfl rfl rfl (q_isWl (w := wNot) wN_v hR hS hT1 hx1 hqq wN_l) ?_
        rintro _ _ ⟨rfl, I2, rfl, hx2, hl2⟩
        have hT2 := hl2.tp hT1
        have hr2 := hr1.lx hl2
        have hs2 := hs1.lx hl2
        have ll := hl1.trans hl2
        refine k_beq f133_20 (fun h_ => absurd (g1) h_) (fun _ => ?_)
        refine k_aload f133_23 rfl ?_
        refine k_iconst (v := 11) f133_24 rfl ?_
        refine e_v (as := [.int (11)]) (rest := []) f133_26 hS.o51 rfl rfl rfl (s_open0 (d := d + 5) (q := bk b n p) (w := 11) hS (hs2.2.1) hx2.1 hx2.2.2.1) ?_
        refine k_if_ne f133_29 (fun h_ => absurd (by decide) h_) (fun _ => ?_)
        refine k_iconst (v := 0) f133_32 rfl ?_
        exact k_iret f133_33 (by decide) ⟨_, rfl, ll.ft.put (by omega), Or.inl ⟨_, hm, rfl, z_u_same _ _ _ _⟩⟩
      · rw [if_neg d0] at hm
        have hc := hs.2.2.1
        refine k_iload f133_2 rfl ?_
        refine k_if_eq f133_3 (fun h_ => absurd h_ (by decide)) (fun _ => ?_)
        refine k_iconst (v := 0) f133_6 rfl ?_
        refine k_istore (L' := [.ref 51, .int (0), u]) f133_7 rfl rfl ?_
        refine k_aload f133_8 rfl ?_
        refine k_callv (as := []) (rest := []) f133_9 hS.o51 rfl rfl rfl rfl (q_see hR hS hT hx) ?_
        rintro _ _ ⟨rfl, I1, rfl, hx1, hl1⟩
        rw [hq0] at hx1
        rw [hq0]
        have hT1 := hl1.tp hT
        have hr1 := hr.lx hl1
        have hs1 := hs.lx hl1
        refine k_istore (L' := [.ref 51, .int (0), .int (seV b n (bk b n p))]) f133_12 rfl rfl ?_
        refine k_aload f133_13 rfl ?_
        refine k_lconst (v := 7237492) f133_14 rfl ?_
        refine k_callv (as := [.long (7237492)]) (rest := []) f133_17 hS.o51 rfl rfl rfl rfl (q_isWl (w := wNot) wN_v hR hS hT1 hx1 hqq wN_l) ?_
        rintro _ _ ⟨rfl, I2, rfl, hx2, hl2⟩
        have hT2 := hl2.tp hT1
        have hr2 := hr1.lx hl2
        have hs2 := hs1.lx hl2
        have ll := hl1.trans hl2
        refine k_beq f133_20 (fun h_ => absurd (g1) h_) (fun _ => ?_)
        refine k_aload f133_23 rfl ?_
        refine k_iconst (v := 11) f133_24 rfl ?_
        refine e_v (as := [.int (11)]) (rest := []) f133_26 hS.o51 rfl rfl rfl (s_open1 (w := 11) hR hS hs2.2.1 (by omega) hs2.1 (by omega)) ?_
        refine k_if_ne f133_29 (fun _ => ?_) (fun h_ => absurd (by decide) h_)
        refine k_aload f133_34 rfl ?_
        refine k_callv (as := []) (rest := []) f133_35 hS.o51 rfl rfl rfl rfl (q_pass (d := d + 5) hR hS (((hT2.put (by decide) (by decide)).put (by decide) (by decide)).put (by decide) (by decide)) (((hx2.put (q := 51) (j := 18) (by omega)).put (q := 59) (by omega)).put (q := 51) (j := 21) (by omega))) ?_
        rintro _ _ ⟨rfl, I3, rfl, hx3, hl3⟩
        have ft : FT t I I3 := (((ll.ft.put (by omega)).put (by omega)).put (by omega)).trans hl3.ft
        have hr3 := (((hr2.put (q := 51) (j := 18) (v := nI (10 - dd + 1)) (by omega)).put (q := 59) (j := S.length) (v := nI 11) (by omega)).put (q := 51) (j := 21) (v := nI (S.length + 1)) (by omega)).lx hl3
        have hs3 := (hs2.push (w := 11) (by omega) (Or.inl rfl)).lx hl3
        refine k_iconst (v := 1) f133_38 rfl ?_
        refine k_istore (L' := [.ref 51, .int (1), .int (seV b n (bk b n p))]) f133_39 rfl rfl ?_
        refine k_goto f133_40 ?_
        refine k_goto f133_72 ?_
        refine zOk.imp (ih (11 :: S) (dd - 1) (wl b n (bk b n p)) I3 _ w2 (by show L + (S.length + 1) ≤ _; omega) (ft.tp hT) ⟨⟨_, hx3, rfl⟩, hr3⟩ hs3 hm) ?_
        rintro v _ ⟨I', rfl, hf, h⟩
        exact ⟨I', rfl, ft.trans hf, h.l (by omega) (fun i => (hl3 53 i (by omega)).trans ((z_u_p _ _ _ _ (by decide)).trans ((z_u_p _ _ _ _ (by decide)).trans ((z_u_p _ _ _ _ (by decide)).trans (ll 53 i (by omega))))))⟩
    · rw [if_neg g1] at hm
      by_cases g2 : siT b n 91 (.inr (bk b n p)) = true
      · rw [if_pos g2] at hm
        have qn := si_lt g2
        by_cases d0 : dd = 0
        · rw [if_pos d0] at hm
          subst d0
          refine k_iload f133_2 rfl ?_
          refine k_if_eq f133_3 (fun h_ => absurd h_ (by decide)) (fun _ => ?_)
          refine k_iconst (v := 0) f133_6 rfl ?_
          refine k_istore (L' := [.ref 51, .int (0), u]) f133_7 rfl rfl ?_
          refine k_aload f133_8 rfl ?_
          refine k_callv (as := []) (rest := []) f133_9 hS.o51 rfl rfl rfl rfl (q_see hR hS hT hx) ?_
          rintro _ _ ⟨rfl, I1, rfl, hx1, hl1⟩
          rw [hq0] at hx1
          rw [hq0]
          have hT1 := hl1.tp hT
          have hr1 := hr.lx hl1
          have hs1 := hs.lx hl1
          refine k_istore (L' := [.ref 51, .int (0), .int (seV b n (bk b n p))]) f133_12 rfl rfl ?_
          refine k_aload f133_13 rfl ?_
          refine k_lconst (v := 7237492) f133_14 rfl ?_
          refine k_callv (as := [.long (7237492)]) (rest := []) f133_17 hS.o51 rfl rfl rfl rfl (q_isWl (w := wNot) wN_v hR hS hT1 hx1 hqq wN_l) ?_
          rintro _ _ ⟨rfl, I2, rfl, hx2, hl2⟩
          have hT2 := hl2.tp hT1
          have hr2 := hr1.lx hl2
          have hs2 := hs1.lx hl2
          have ll := hl1.trans hl2
          refine k_beq f133_20 (fun _ => ?_) (fun h_ => (absurd h_ (g1)))
          refine k_iload f133_43 rfl ?_
          refine k_iconst (v := 91) f133_44 rfl ?_
          refine k_ic_ne f133_46 (fun h_ => absurd (s1.mpr g2) h_) (fun _ => ?_)
          refine k_aload f133_49 rfl ?_
          refine k_iconst (v := 91) f133_50 rfl ?_
          refine e_v (as := [.int (91)]) (rest := []) f133_52 hS.o51 rfl rfl rfl (s_open0 (d := d + 5) (q := bk b n p) (w := 91) hS (hs2.2.1) hx2.1 hx2.2.2.1) ?_
          refine k_if_ne f133_55 (fun h_ => absurd (by decide) h_) (fun _ => ?_)
          refine k_iconst (v := 0) f133_58 rfl ?_
          exact k_iret f133_59 (by decide) ⟨_, rfl, ll.ft.put (by omega), Or.inl ⟨_, hm, rfl, z_u_same _ _ _ _⟩⟩
        · rw [if_neg d0] at hm
          have hc := hs.2.2.1
          refine k_iload f133_2 rfl ?_
          refine k_if_eq f133_3 (fun h_ => absurd h_ (by decide)) (fun _ => ?_)
          refine k_iconst (v := 0) f133_6 rfl ?_
          refine k_istore (L' := [.ref 51, .int (0), u]) f133_7 rfl rfl ?_
          refine k_aload f133_8 rfl ?_
          refine k_callv (as := []) (rest := []) f133_9 hS.o51 rfl rfl rfl rfl (q_see hR hS hT hx) ?_
          rintro _ _ ⟨rfl, I1, rfl, hx1, hl1⟩
          rw [hq0] at hx1
          rw [hq0]
          have hT1 := hl1.tp hT
          have hr1 := hr.lx hl1
          have hs1 := hs.lx hl1
          refine k_istore (L' := [.ref 51, .int (0), .int (seV b n (bk b n p))]) f133_12 rfl rfl ?_
          refine k_aload f133_13 rfl ?_
          refine k_lconst (v := 7237492) f133_14 rfl ?_
          refine k_callv (as := [.long (7237492)]) (rest := []) f133_17 hS.o51 rfl rfl rfl rfl (q_isWl (w := wNot) wN_v hR hS hT1 hx1 hqq wN_l) ?_
          rintro _ _ ⟨rfl, I2, rfl, hx2, hl2⟩
          have hT2 := hl2.tp hT1
          have hr2 := hr1.lx hl2
          have hs2 := hs1.lx hl2
          have ll := hl1.trans hl2
          refine k_beq f133_20 (fun _ => ?_) (fun h_ => (absurd h_ (g1)))
          refine k_iload f133_43 rfl ?_
          refine k_iconst (v := 91) f133_44 rfl ?_
          refine k_ic_ne f133_46 (fun h_ => absurd (s1.mpr g2) h_) (fun _ => ?_)
          refine k_aload f133_49 rfl ?_
          refine k_iconst (v := 91) f133_50 rfl ?_
          refine e_v (as := [.int (91)]) (rest := []) f133_52 hS.o51 rfl rfl rfl (s_open1 (w := 91) hR hS hs2.2.1 (by omega) hs2.1 (by omega)) ?_
          refine k_if_ne f133_55 (fun _ => ?_) (fun h_ => absurd (by decide) h_)
          refine k_aload f133_60 rfl ?_
          refine k_dup f133_61 ?_
          refine k_gI (w := nI (bk b n p)) f133_62 hS.o51 rfl (Eq.trans (z_u_k _ _ _ (by decide)) (Eq.trans (z_u_p _ _ _ _ (by decide)) (Eq.trans (z_u_k _ _ _ (by decide)) hx2.1))) ?_
          refine k_iconst (v := 1) f133_65 rfl ?_
          refine k_iadd f133_66 ?_
          rw [nI_1 (bk b n p)]
          refine k_putI f133_67 hS.o51 rfl ?_
          refine k_iconst (v := 1) f133_70 rfl ?_
          refine k_istore (L' := [.ref 51, .int (1), .int (seV b n (bk b n p))]) f133_71 rfl rfl ?_
          refine k_goto f133_72 ?_
          have ft : FT t I (z_u (z_u (z_u (z_u I2 51 18 (nI (10 - dd + 1))) 59 S.length (nI 91)) 51 21 (nI (S.length + 1))) 51 13 (nI (bk b n p + 1))) := (((ll.ft.put (by omega)).put (by omega)).put (by omega)).put (by omega)
          refine zOk.imp (ih (91 :: S) (dd - 1) (bk b n p + 1) (z_u (z_u (z_u (z_u I2 51 18 (nI (10 - dd + 1))) 59 S.length (nI 91)) 51 21 (nI (S.length + 1))) 51 13 (nI (bk b n p + 1))) _ (by omega) (by show L + (S.length + 1) ≤ _; omega) (ft.tp hT) ⟨⟨_, ((((hx2.put (q := 51) (j := 18) (v := nI (10 - dd + 1)) (by omega)).put (q := 59) (j := S.length) (v := nI 91) (by omega)).put (q := 51) (j := 21) (v := nI (S.length + 1)) (by omega)).at (r := bk b n p + 1) (by omega)), rfl⟩, ((((hr2.put (q := 51) (j := 18) (v := nI (10 - dd + 1)) (by omega)).put (q := 59) (j := S.length) (v := nI 91) (by omega)).put (q := 51) (j := 21) (v := nI (S.length + 1)) (by omega)).put (q := 51) (j := 13) (v := nI (bk b n p + 1)) (by omega))⟩ ((hs2.push (w := 91) (by omega) (Or.inr rfl)).put (by decide)) hm) ?_
          rintro v _ ⟨I', rfl, hf, h⟩
          exact ⟨I', rfl, ft.trans hf, h.l (by omega) (fun i => (z_u_p _ _ _ _ (by decide)).trans ((z_u_p _ _ _ _ (by decide)).trans ((z_u_p _ _ _ _ (by decide)).trans ((z_u_p _ _ _ _ (by decide)).trans (ll 53 i (by omega))))))⟩
      · rw [if_neg g2] at hm
        rcases hm with ⟨e, hc, rfl⟩ | ⟨z, r', hc, rfl, hm⟩
        · refine k_iload f133_2 rfl ?_
          refine k_if_eq f133_3 (fun h_ => absurd h_ (by decide)) (fun _ => ?_)
          refine k_iconst (v := 0) f133_6 rfl ?_
          refine k_istore (L' := [.ref 51, .int (0), u]) f133_7 rfl rfl ?_
          refine k_aload f133_8 rfl ?_
          refine k_callv (as := []) (rest := []) f133_9 hS.o51 rfl rfl rfl rfl (q_see hR hS hT hx) ?_
          rintro _ _ ⟨rfl, I1, rfl, hx1, hl1⟩
          rw [hq0] at hx1
          rw [hq0]
          have hT1 := hl1.tp hT
          have hr1 := hr.lx hl1
          have hs1 := hs.lx hl1
          refine k_istore (L' := [.ref 51, .int (0), .int (seV b n (bk b n p))]) f133_12 rfl rfl ?_
          refine k_aload f133_13 rfl ?_
          refine k_lconst (v := 7237492) f133_14 rfl ?_
          refine k_callv (as := [.long (7237492)]) (rest := []) f133_17 hS.o51 rfl rfl rfl rfl (q_isWl (w := wNot) wN_v hR hS hT1 hx1 hqq wN_l) ?_
          rintro _ _ ⟨rfl, I2, rfl, hx2, hl2⟩
          have hT2 := hl2.tp hT1
          have hr2 := hr1.lx hl2
          have hs2 := hs1.lx hl2
          have ll := hl1.trans hl2
          refine k_beq f133_20 (fun _ => ?_) (fun h_ => (absurd h_ (g1)))
          refine k_iload f133_43 rfl ?_
          refine k_iconst (v := 91) f133_44 rfl ?_
          refine k_ic_ne f133_46 (fun _ => ?_) (fun h_ => absurd ((fun z => g2 (s1.mp z))) h_)
          refine k_goto f133_72 ?_
          refine k_iload f133_2 rfl ?_
          refine k_if_eq f133_3 (fun _ => ?_) (fun h_ => absurd (by decide) h_)
          refine k_aload f133_75 rfl ?_
          refine k_callv (as := []) (rest := []) f133_76 hS.o51 rfl rfl rfl rfl (q_cmpR (d := d) (p := p) hR hS ht hp (by omega) hT2 ⟨⟨_, hx2, hqq⟩, hr2⟩) ?_
          rintro v3 _ ⟨I3, rfl, hf3, hv3⟩
          rw [hc] at hv3
          obtain ⟨rfl, hn3⟩ := hv3
          have ft : FT t I I3 := ll.ft.trans hf3.ft
          exact k_iret f133_79 (by decide) ⟨_, rfl, ft, Or.inl ⟨_, rfl, rfl, hn3⟩⟩
        · obtain ⟨z1, z2, z3, z4, z5, z6, z7⟩ := (co_ok (b := b) (n := n) (p := p) hm6 hp).1 z hc
          have z3 : z.2.2 ≤ n := z3
          have z4 : z.1.length + p ≤ z.2.2 := z4
          refine k_iload f133_2 rfl ?_
          refine k_if_eq f133_3 (fun h_ => absurd h_ (by decide)) (fun _ => ?_)
          refine k_iconst (v := 0) f133_6 rfl ?_
          refine k_istore (L' := [.ref 51, .int (0), u]) f133_7 rfl rfl ?_
          refine k_aload f133_8 rfl ?_
          refine k_callv (as := []) (rest := []) f133_9 hS.o51 rfl rfl rfl rfl (q_see hR hS hT hx) ?_
          rintro _ _ ⟨rfl, I1, rfl, hx1, hl1⟩
          rw [hq0] at hx1
          rw [hq0]
          have hT1 := hl1.tp hT
          have hr1 := hr.lx hl1
          have hs1 := hs.lx hl1
          refine k_istore (L' := [.ref 51, .int (0), .int (seV b n (bk b n p))]) f133_12 rfl rfl ?_
          refine k_aload f133_13 rfl ?_
          refine k_lconst (v := 7237492) f133_14 rfl ?_
          refine k_callv (as := [.long (7237492)]) (rest := []) f133_17 hS.o51 rfl rfl rfl rfl (q_isWl (w := wNot) wN_v hR hS hT1 hx1 hqq wN_l) ?_
          rintro _ _ ⟨rfl, I2, rfl, hx2, hl2⟩
          have hT2 := hl2.tp hT1
          have hr2 := hr1.lx hl2
          have hs2 := hs1.lx hl2
          have ll := hl1.trans hl2
          refine k_beq f133_20 (fun _ => ?_) (fun h_ => (absurd h_ (g1)))
          refine k_iload f133_43 rfl ?_
          refine k_iconst (v := 91) f133_44 rfl ?_
          refine k_ic_ne f133_46 (fun _ => ?_) (fun h_ => absurd ((fun z => g2 (s1.mp z))) h_)
          refine k_goto f133_72 ?_
          refine k_iload f133_2 rfl ?_
          refine k_if_eq f133_3 (fun _ => ?_) (fun h_ => absurd (by decide) h_)
          refine k_aload f133_75 rfl ?_
          refine k_callv (as := []) (rest := []) f133_76 hS.o51 rfl rfl rfl rfl (q_cmpR (d := d) (p := p) hR hS ht hp (by omega) hT2 ⟨⟨_, hx2, hqq⟩, hr2⟩) ?_
          rintro v3 _ ⟨I3, rfl, hf3, hv3⟩
          rw [hc] at hv3
          obtain ⟨rfl, hd3, ha3⟩ := hv3
          have ft : FT t I I3 := ll.ft.trans hf3.ft
          exact k_iret f133_79 (by decide) ⟨_, rfl, ft, Or.inr ⟨S, dd, z, k, r', rfl, Nat.lt_succ_self _, rfl, hm, hd3, ha3.l (fun i => ll 53 i (by omega)), hs2.fd hf3, by omega, z3, z2⟩⟩
theorem q_fact {x : Nat × (Nat → Int32)} {d : Nat} {I : Nat → Nat → Int32} {J : Nat → Nat → Int64} {R : Nat → Nat → Option Nat} {G : zG} {b : Nat → Nat} {n t m L k dd p : Nat} {S : List Nat} {r : Sum Nat R3} (hR : Rs R) (hS : Sh G) (ht : t < 6) (hp : p ≤ n) (hL : L + S.length ≤ p) (hT : TP I b n) (hd : RD I b n t p m L) (hs : SK I S dd) (hm : MR b n k true S dd m p r) : zOk x (d + 7) 133 0 [.ref 51, zU, zU] [] (I, J, R, G) (fun v mm => ∃ I', mm = (I', J, R, G) ∧ FT t I I' ∧ PF I I' b n t L k v r) := by
  refine k_iconst (v := 1) f133_0 rfl ?_
  refine k_istore (L' := [.ref 51, .int (1), zU]) f133_1 rfl rfl ?_
  exact lp_fact hR hS ht k S dd p I _ hp hL hT hd hs hm
