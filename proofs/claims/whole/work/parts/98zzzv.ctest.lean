/-! RULES, read in the class: tests. -/
theorem PO.app4 {I I1 I2 : Nat → Nat → Int32} {b : Nat → Nat} {n s : Nat} {a o : List It} {r : Sum Nat R4} (h1 : CA I I1 s o) (h2 : PO I1 I2 b n (s + o.length) (cR r)) : PO I I2 b n s (cR (bdS r fun y => .inr (a ++ y.1, o ++ y.2.1, y.2.2.1, y.2.2.2))) := by
  cases r with
  | inl e => exact h2
  | inr y =>
    refine ⟨?_, h1.app h2.2⟩
    have h := h2.1
    show RC I2 b n (.inr (bk b n y.2.2.2)) y.2.2.1 (s + (o ++ y.2.1).length)
    rw [List.length_append, ← Nat.add_assoc]
    exact h
theorem lp_and {x : Nat × (Nat → Int32)} {d : Nat} {J : Nat → Nat → Int64} {R : Nat → Nat → Option Nat} {G : zG} {b : Nat → Nat} {n : Nat} {Q : Option Value → zM → Prop} {P : Nat → Nat → Sum Nat R4} {dp : Int32} (hR : Rs R) (hS : Sh G) (hP : ∀ (m' p' s' : Nat) (I' : Nat → Nat → Int32), p' ≤ n → s' ≤ p' → TP I' b n → RC I' b n (.inr (bk b n p')) m' s' → zOk x (d + 7) 26 0 [.ref 12, .int dp, zU, zU, zU] [] (I', J, R, G) (fun v mm => v = none ∧ ∃ I2, mm = (I2, J, R, G) ∧ FC I' I2 ∧ PO I' I2 b n s' (cR (P m' p')))) (hOk : OkQ n P) {Mo : Value} {iv : Int32} : ∀ (f m p s k : Nat) (I : Nat → Nat → Int32), 61 ≤ m + f → p ≤ n → s ≤ p → k ≤ m → TP I b n → RC I b n (.inr (bk b n p)) m s → (∀ I' k', FC I I' → PO I I' b n s (cR (lpW wAnd 12 P b n f m p)) → zOk x (d + 8) 25 67 [.ref 12, .int dp, Mo, .int iv, k'] [] (I', J, R, G) Q) → zOk x (d + 8) 25 23 [.ref 12, .int dp, Mo, .int iv, .int (nI k)] [] (I, J, R, G) Q := by
  intro f
  induction f with
  | zero =>
    intro m p s k I hf hp hsp hkm hT hc hk
    have := hc.2.2.2.2
    omega
  | succ f ih =>
    intro m p s k I hf hp hsp hkm hT hc hk
    have hm6 := hc.2.2.2.2
    have h400 := hT.1
    have hq := bk_le (b := b) hp
    by_cases hz : tkB b n (bk b n p) wAnd = true
    · have hL := (tk_iff.mp hz).1
      have w1 := wl_lt hL
      have w2 := (wl_le (b := b) hq.2).2
      cases hv : P m (wl b n (bk b n p)) with
      | inl e =>
        refine k_iload f25_23 rfl ?_
        refine k_iconst (v := 400) f25_25 rfl ?_
        refine k_ic_ge f25_28 (fun h_ => absurd h_ (nI_ge (b := 400) (by omega) (by omega))) (fun _ => ?_)
        refine k_aload f25_31 rfl ?_
        refine k_getr (q := 9) f25_32 hS.o12 rfl hR.r12_0 ?_
        refine k_ldc f25_35 ?_
        refine e_v (as := [.retAddr 1]) (rest := []) f25_37 hS.o9 rfl rfl rfl (s_isWd (d := d + 3) (k := 1) hR hS hT (by omega) hc.1) ?_
        refine k_beq f25_40 (fun h_ => absurd (hz) h_) (fun _ => ?_)
        refine k_aload f25_43 rfl ?_
        refine k_getr (q := 9) f25_44 hS.o12 rfl hR.r12_0 ?_
        refine k_callv (as := []) (rest := []) f25_47 hS.o9 rfl rfl rfl rfl (q_next hR hS hT hc.1) ?_
        rintro _ _ ⟨rfl, I1, rfl, ht1, hf1⟩
        have hT1 := hf1.tp hT
        have hc1 := hc.f9 hf1 ht1
        rw [nx_wd hL] at hc1
        refine k_aload f25_50 rfl ?_
        refine k_iload f25_51 rfl ?_
        refine k_callv (as := [.int (dp)]) (rest := []) f25_52 hS.o12 rfl rfl rfl rfl (hP m (wl b n (bk b n p)) s I1 w2 (by omega) hT1 hc1) ?_
        rintro _ _ ⟨rfl, I2, rfl, hf2, hv2⟩
        rw [hv] at hv2
        obtain ⟨m2, s2, hc2⟩ := hv2
        refine k_aload f25_55 rfl ?_
        refine k_iconst (v := (-19)) f25_56 rfl ?_
        refine k_callv (as := [.int ((-19))]) (rest := []) f25_58 hS.o12 rfl rfl rfl rfl (q_emitB (w := (-19)) hR hS hc2) ?_
        rintro _ _ ⟨rfl, I3, rfl, hf3, s3, hc3⟩
        have hf13 := hf1.fc.trans (hf2.trans hf3)
        have hT3 := hf13.tp hT
        refine k_iinc (w := nI (k + 1)) (L' := [.ref 12, .int (dp), Mo, .int (iv), .int (nI (k + 1))]) f25_61 rfl (nI_1 k) rfl rfl ?_
        refine k_goto f25_64 ?_
        refine k_iload f25_23 rfl ?_
        refine k_iconst (v := 400) f25_25 rfl ?_
        refine k_ic_ge f25_28 (fun h_ => absurd h_ (nI_ge (b := 400) (by omega) (by omega))) (fun _ => ?_)
        refine k_aload f25_31 rfl ?_
        refine k_getr (q := 9) f25_32 hS.o12 rfl hR.r12_0 ?_
        refine k_ldc f25_35 ?_
        refine e_v (as := [.retAddr 1]) (rest := []) f25_37 hS.o9 rfl rfl rfl (s_isWd (d := d + 3) (k := 1) hR hS hT3 (by omega) hc3.1) ?_
        refine k_beq f25_40 (fun _ => ?_) (fun h_ => (absurd h_ ((fun z => by cases z))))
        exact hk I3 _ hf13 (by rw [lpW_s, if_pos hz, bdS_l hv]; exact ⟨m2, s3, hc3⟩)
      | inr z =>
        obtain ⟨z1, z2, z3, z4, z5, z6, z7⟩ := (hOk m (wl b n (bk b n p)) hm6 w2).1 z hv
        have hl : (z.2.1 ++ [((12, 0) : It)]).length = z.2.1.length + 1 := by rw [List.length_append]; rfl
        refine k_iload f25_23 rfl ?_
        refine k_iconst (v := 400) f25_25 rfl ?_
        refine k_ic_ge f25_28 (fun h_ => absurd h_ (nI_ge (b := 400) (by omega) (by omega))) (fun _ => ?_)
        refine k_aload f25_31 rfl ?_
        refine k_getr (q := 9) f25_32 hS.o12 rfl hR.r12_0 ?_
        refine k_ldc f25_35 ?_
        refine e_v (as := [.retAddr 1]) (rest := []) f25_37 hS.o9 rfl rfl rfl (s_isWd (d := d + 3) (k := 1) hR hS hT (by omega) hc.1) ?_
        refine k_beq f25_40 (fun h_ => absurd (hz) h_) (fun _ => ?_)
        refine k_aload f25_43 rfl ?_
        refine k_getr (q := 9) f25_44 hS.o12 rfl hR.r12_0 ?_
        refine k_callv (as := []) (rest := []) f25_47 hS.o9 rfl rfl rfl rfl (q_next hR hS hT hc.1) ?_
        rintro _ _ ⟨rfl, I1, rfl, ht1, hf1⟩
        have hT1 := hf1.tp hT
        have hc1 := hc.f9 hf1 ht1
        rw [nx_wd hL] at hc1
        refine k_aload f25_50 rfl ?_
        refine k_iload f25_51 rfl ?_
        refine k_callv (as := [.int (dp)]) (rest := []) f25_52 hS.o12 rfl rfl rfl rfl (hP m (wl b n (bk b n p)) s I1 w2 (by omega) hT1 hc1) ?_
        rintro _ _ ⟨rfl, I2, rfl, hf2, hv2⟩
        rw [hv] at hv2
        obtain ⟨hc2, ha2⟩ := hv2
        refine k_aload f25_55 rfl ?_
        refine k_iconst (v := (-19)) f25_56 rfl ?_
        refine k_callv (as := [.int ((-19))]) (rest := []) f25_58 hS.o12 rfl rfl rfl rfl (q_emit (it := (12, 0)) (by decide) hR hS hc2 (by show s + z.2.1.length < 400; omega)) ?_
        rintro _ _ ⟨rfl, I3, rfl, hf3, hc3, ha3⟩
        have hf13 := hf1.fc.trans (hf2.trans hf3)
        have hT3 := hf13.tp hT
        have ca : CA I I3 s (z.2.1 ++ [(12, 0)]) := (ha2.l (fun i => hf1 13 i (by omega))).app ha3
        have hc4 : RC I3 b n (.inr (bk b n z.2.2.2)) z.2.2.1 (s + (z.2.1 ++ [(12, 0)]).length) := by rw [hl]; exact hc3
        refine k_iinc (w := nI (k + 1)) (L' := [.ref 12, .int (dp), Mo, .int (iv), .int (nI (k + 1))]) f25_61 rfl (nI_1 k) rfl rfl ?_
        refine k_goto f25_64 ?_
        exact ih z.2.2.1 z.2.2.2 _ (k + 1) I3 (by omega) z3 (by rw [hl]; omega) (by omega) hT3 hc4 fun I' k' hf h => hk I' k' (hf13.trans hf) (by rw [lpW_s, if_pos hz, bdS_r hv]; exact PO.app4 ca h)
    · refine k_iload f25_23 rfl ?_
      refine k_iconst (v := 400) f25_25 rfl ?_
      refine k_ic_ge f25_28 (fun h_ => absurd h_ (nI_ge (b := 400) (by omega) (by omega))) (fun _ => ?_)
      refine k_aload f25_31 rfl ?_
      refine k_getr (q := 9) f25_32 hS.o12 rfl hR.r12_0 ?_
      refine k_ldc f25_35 ?_
      refine e_v (as := [.retAddr 1]) (rest := []) f25_37 hS.o9 rfl rfl rfl (s_isWd (d := d + 3) (k := 1) hR hS hT (by omega) hc.1) ?_
      refine k_beq f25_40 (fun _ => ?_) (fun h_ => (absurd h_ (hz)))
      exact hk I _ FC.rfl (by rw [lpW_s, if_neg hz]; exact ⟨hc, CA.nil fun _ => rfl⟩)
theorem q_conjC {x : Nat × (Nat → Int32)} {d : Nat} {J : Nat → Nat → Int64} {R : Nat → Nat → Option Nat} {G : zG} {b : Nat → Nat} {n : Nat} {Q : Option Value → zM → Prop} {P : Nat → Nat → Sum Nat R4} {dp : Int32} (hR : Rs R) (hS : Sh G) (hP : ∀ (m' p' s' : Nat) (I' : Nat → Nat → Int32), p' ≤ n → s' ≤ p' → TP I' b n → RC I' b n (.inr (bk b n p')) m' s' → zOk x (d + 7) 26 0 [.ref 12, .int dp, zU, zU, zU] [] (I', J, R, G) (fun v mm => v = none ∧ ∃ I2, mm = (I2, J, R, G) ∧ FC I' I2 ∧ PO I' I2 b n s' (cR (P m' p')))) (hOk : OkQ n P) {m p s : Nat} {I : Nat → Nat → Int32} {Mo k : Value} {iv : Int32} (hp : p ≤ n) (hsp : s ≤ p) (hT : TP I b n) (hc : RC I b n (.inr (bk b n p)) m s) (hk : ∀ I' k', FC I I' → PO I I' b n s (cR (fwW wAnd 12 P b n m p)) → zOk x (d + 8) 25 67 [.ref 12, .int dp, Mo, .int iv, k'] [] (I', J, R, G) Q) : zOk x (d + 8) 25 15 [.ref 12, .int dp, Mo, .int iv, k] [] (I, J, R, G) Q := by
  have hm6 := hc.2.2.2.2
  rw [fwW] at hk
  cases hv : P m p with
  | inl e =>
    rw [bdS_l hv] at hk
    refine k_aload f25_15 rfl ?_
    refine k_iload f25_16 rfl ?_
    refine k_callv (as := [.int (dp)]) (rest := []) f25_17 hS.o12 rfl rfl rfl rfl (hP m p s I hp hsp hT hc) ?_
    rintro _ _ ⟨rfl, I1, rfl, hf1, hv1⟩
    have hT1 := hf1.tp hT
    rw [hv] at hv1
    obtain ⟨m1, s1, hc1⟩ := hv1
    refine k_iconst (v := 0) f25_20 rfl ?_
    refine k_istore (L' := [.ref 12, .int (dp), Mo, .int (iv), .int (0)]) f25_21 rfl rfl ?_
    refine k_iload f25_23 rfl ?_
    refine k_iconst (v := 400) f25_25 rfl ?_
    refine k_ic_ge f25_28 (fun h_ => absurd h_ (by decide)) (fun _ => ?_)
    refine k_aload f25_31 rfl ?_
    refine k_getr (q := 9) f25_32 hS.o12 rfl hR.r12_0 ?_
    refine k_ldc f25_35 ?_
    refine e_v (as := [.retAddr 1]) (rest := []) f25_37 hS.o9 rfl rfl rfl (s_isWd (d := d + 3) (k := 1) hR hS hT1 (by omega) hc1.1) ?_
    refine k_beq f25_40 (fun _ => ?_) (fun h_ => (absurd h_ ((fun z => by cases z))))
    exact hk I1 _ hf1 ⟨m1, s1, hc1⟩
  | inr z =>
    rw [bdS_r hv] at hk
    obtain ⟨z1, z2, z3, z4, z5, z6, z7⟩ := (hOk m p hm6 hp).1 z hv
    refine k_aload f25_15 rfl ?_
    refine k_iload f25_16 rfl ?_
    refine k_callv (as := [.int (dp)]) (rest := []) f25_17 hS.o12 rfl rfl rfl rfl (hP m p s I hp hsp hT hc) ?_
    rintro _ _ ⟨rfl, I1, rfl, hf1, hv1⟩
    have hT1 := hf1.tp hT
    rw [hv] at hv1
    obtain ⟨hc1, ha1⟩ := hv1
    refine k_iconst (v := 0) f25_20 rfl ?_
    refine k_istore (L' := [.ref 12, .int (dp), Mo, .int (iv), .int (0)]) f25_21 rfl rfl ?_
    exact lp_and hR hS hP hOk 61 z.2.2.1 z.2.2.2 (s + z.2.1.length) 0 I1 (by omega) z3 (by omega) (by omega) hT1 hc1 fun I' k' hf h => hk I' k' (hf1.trans hf) (PO.app4 ha1 h)
theorem tst_brk {x : Nat × (Nat → Int32)} {d : Nat} {J : Nat → Nat → Int64} {R : Nat → Nat → Option Nat} {G : zG} {b : Nat → Nat} {n : Nat} {m s e i : Nat} {I : Nat → Nat → Int32} {dp : Int32} {Mo k : Value} (hR : Rs R) (hS : Sh G) (hi : i ≤ 61) (hT : TP I b n) (hc : RC I b n (.inl e) m s) : zOk x (d + 8) 25 67 [.ref 12, .int dp, Mo, .int (nI i), k] [] (I, J, R, G) (fun v mm => v = none ∧ ∃ I', mm = (I', J, R, G) ∧ FC I I' ∧ ∃ m' s', RC I' b n (.inl e) m' s') := by
  refine k_iload f25_67 rfl ?_
  refine k_if_le f25_68 (fun g0 => ?_) (fun g0 => ?_)
  · refine k_aload f25_77 rfl ?_
    refine k_getr (q := 9) f25_78 hS.o12 rfl hR.r12_0 ?_
    refine k_ldc f25_81 ?_
    refine e_v (as := [.retAddr 2]) (rest := []) f25_83 hS.o9 rfl rfl rfl (s_isWd (d := d + 3) (k := 2) hR hS hT (by omega) hc.1) ?_
    refine k_istore (L' := [.ref 12, .int (dp), .int (bI (wdT b n 2 (.inl e) = true)), .int (nI i), k]) f25_86 rfl rfl ?_
    refine k_iload f25_87 rfl ?_
    refine k_beq f25_88 (fun _ => ?_) (fun h_ => (absurd h_ ((fun z => by cases z))))
    refine k_iinc (w := nI (i + 1)) (L' := [.ref 12, .int (dp), .int (bI (wdT b n 2 (.inl e) = true)), .int (nI (i + 1)), k]) f25_98 rfl (nI_1 i) rfl rfl ?_
    refine k_goto f25_101 ?_
    refine k_iload f25_4 rfl ?_
    refine k_iconst (v := 400) f25_5 rfl ?_
    refine k_ic_ge f25_8 (fun h_ => absurd h_ (nI_ge (b := 400) (by omega) (by omega))) (fun _ => ?_)
    refine k_iload f25_11 rfl ?_
    refine k_beq f25_12 (fun _ => ?_) (fun h_ => (absurd h_ ((fun z => by cases z))))
    exact k_vret f25_104 ⟨rfl, I, rfl, FC.rfl, m, s, hc⟩
  · refine k_aload f25_71 rfl ?_
    refine k_iconst (v := (-20)) f25_72 rfl ?_
    refine k_callv (as := [.int ((-20))]) (rest := []) f25_74 hS.o12 rfl rfl rfl rfl (q_emitB (w := (-20)) hR hS hc) ?_
    rintro _ _ ⟨rfl, I1, rfl, hf1, s1, hc1⟩
    have hT1 := hf1.tp hT
    refine k_aload f25_77 rfl ?_
    refine k_getr (q := 9) f25_78 hS.o12 rfl hR.r12_0 ?_
    refine k_ldc f25_81 ?_
    refine e_v (as := [.retAddr 2]) (rest := []) f25_83 hS.o9 rfl rfl rfl (s_isWd (d := d + 3) (k := 2) hR hS hT1 (by omega) hc1.1) ?_
    refine k_istore (L' := [.ref 12, .int (dp), .int (bI (wdT b n 2 (.inl e) = true)), .int (nI i), k]) f25_86 rfl rfl ?_
    refine k_iload f25_87 rfl ?_
    refine k_beq f25_88 (fun _ => ?_) (fun h_ => (absurd h_ ((fun z => by cases z))))
    refine k_iinc (w := nI (i + 1)) (L' := [.ref 12, .int (dp), .int (bI (wdT b n 2 (.inl e) = true)), .int (nI (i + 1)), k]) f25_98 rfl (nI_1 i) rfl rfl ?_
    refine k_goto f25_101 ?_
    refine k_iload f25_4 rfl ?_
    refine k_iconst (v := 400) f25_5 rfl ?_
    refine k_ic_ge f25_8 (fun h_ => absurd h_ (nI_ge (b := 400) (by omega) (by omega))) (fun _ => ?_)
    refine k_iload f25_11 rfl ?_
    refine k_beq f25_12 (fun _ => ?_) (fun h_ => (absurd h_ ((fun z => by cases z))))
    exact k_vret f25_104 ⟨rfl, I1, rfl, hf1, m, s1, hc1⟩
theorem lp_or {x : Nat × (Nat → Int32)} {d : Nat} {J : Nat → Nat → Int64} {R : Nat → Nat → Option Nat} {G : zG} {b : Nat → Nat} {n : Nat} {P : Nat → Nat → Sum Nat R4} {dp : Int32} (hR : Rs R) (hS : Sh G) (hP : ∀ (m' p' s' : Nat) (I' : Nat → Nat → Int32), p' ≤ n → s' ≤ p' → TP I' b n → RC I' b n (.inr (bk b n p')) m' s' → zOk x (d + 7) 26 0 [.ref 12, .int dp, zU, zU, zU] [] (I', J, R, G) (fun v mm => v = none ∧ ∃ I2, mm = (I2, J, R, G) ∧ FC I' I2 ∧ PO I' I2 b n s' (cR (P m' p')))) (hOk : OkQ n P) : ∀ (f m p s i : Nat) (I : Nat → Nat → Int32) (Mo k : Value), 61 ≤ m + f → p ≤ n → s ≤ p → i ≤ m → TP I b n → RC I b n (.inr (bk b n p)) m s → zOk x (d + 8) 25 77 [.ref 12, .int dp, Mo, .int (nI i), k] [] (I, J, R, G) (fun v mm => v = none ∧ ∃ I', mm = (I', J, R, G) ∧ FC I I' ∧ PO I I' b n s (cR (lpW wOr 13 (fwW wAnd 12 P b n) b n f m p))) := by
  have hO2 : OkQ n (fwW wAnd 12 P b n) := fwW_ok (Or.inl rfl) hOk
  intro f
  induction f with
  | zero =>
    intro m p s i I Mo k hf hp hsp him hT hc
    have := hc.2.2.2.2
    omega
  | succ f ih =>
    intro m p s i I Mo k hf hp hsp him hT hc
    have hm6 := hc.2.2.2.2
    have h400 := hT.1
    have hq := bk_le (b := b) hp
    by_cases hz : tkB b n (bk b n p) wOr = true
    · have hL := (tk_iff.mp hz).1
      have w1 := wl_lt hL
      have w2 := (wl_le (b := b) hq.2).2
      rw [lpW_s, if_pos hz]
      refine k_aload f25_77 rfl ?_
      refine k_getr (q := 9) f25_78 hS.o12 rfl hR.r12_0 ?_
      refine k_ldc f25_81 ?_
      refine e_v (as := [.retAddr 2]) (rest := []) f25_83 hS.o9 rfl rfl rfl (s_isWd (d := d + 3) (k := 2) hR hS hT (by omega) hc.1) ?_
      refine k_istore (L' := [.ref 12, .int (dp), .int (bI (wdT b n 2 (.inr (bk b n p)) = true)), .int (nI i), k]) f25_86 rfl rfl ?_
      refine k_iload f25_87 rfl ?_
      refine k_beq f25_88 (fun h_ => absurd (hz) h_) (fun _ => ?_)
      refine k_aload f25_91 rfl ?_
      refine k_getr (q := 9) f25_92 hS.o12 rfl hR.r12_0 ?_
      refine k_callv (as := []) (rest := []) f25_95 hS.o9 rfl rfl rfl rfl (q_next hR hS hT hc.1) ?_
      rintro _ _ ⟨rfl, I1, rfl, ht1, hf1⟩
      have hT1 := hf1.tp hT
      have hc1 := hc.f9 hf1 ht1
      rw [nx_wd hL] at hc1
      refine k_iinc (w := nI (i + 1)) (L' := [.ref 12, .int (dp), .int (bI (wdT b n 2 (.inr (bk b n p)) = true)), .int (nI (i + 1)), k]) f25_98 rfl (nI_1 i) rfl rfl ?_
      refine k_goto f25_101 ?_
      refine k_iload f25_4 rfl ?_
      refine k_iconst (v := 400) f25_5 rfl ?_
      refine k_ic_ge f25_8 (fun h_ => absurd h_ (nI_ge (b := 400) (by omega) (by omega))) (fun _ => ?_)
      refine k_iload f25_11 rfl ?_
      refine k_beq f25_12 (fun h_ => absurd (hz) h_) (fun _ => ?_)
      refine q_conjC (m := m) (p := wl b n (bk b n p)) hR hS hP hOk w2 (by omega) hT1 hc1 fun I2 k hf2 hv2 => ?_
      have hT2 := hf2.tp hT1
      cases hv : fwW wAnd 12 P b n m (wl b n (bk b n p)) with
      | inl e =>
        rw [hv] at hv2
        obtain ⟨m2, s2, hc2⟩ := hv2
        refine zOk.imp (tst_brk hR hS (by omega) hT2 hc2) ?_
        rintro v _ ⟨rfl, I3, rfl, hf3, h3⟩
        exact ⟨rfl, I3, rfl, hf1.fc.trans (hf2.trans hf3), h3⟩
      | inr z =>
        rw [hv] at hv2
        obtain ⟨hc2, ha2⟩ := hv2
        obtain ⟨z1, z2, z3, z4, z5, z6, z7⟩ := (hO2 m (wl b n (bk b n p)) hm6 w2).1 z hv
        have hl : (z.2.1 ++ [((13, 0) : It)]).length = z.2.1.length + 1 := by rw [List.length_append]; rfl
        refine k_iload f25_67 rfl ?_
        refine k_if_le f25_68 (fun h_ => absurd h_ (nI_ge (a := 0) (show 0 < i + 1 by omega) (by omega))) (fun _ => ?_)
        refine k_aload f25_71 rfl ?_
        refine k_iconst (v := (-20)) f25_72 rfl ?_
        refine k_callv (as := [.int ((-20))]) (rest := []) f25_74 hS.o12 rfl rfl rfl rfl (q_emit (it := (13, 0)) (by decide) hR hS hc2 (by show s + z.2.1.length < 400; omega)) ?_
        rintro _ _ ⟨rfl, I3, rfl, hf3, hc3, ha3⟩
        have hf13 := hf1.fc.trans (hf2.trans hf3)
        have hT3 := hf13.tp hT
        have ca : CA I I3 s (z.2.1 ++ [(13, 0)]) := (ha2.l (fun i => hf1 13 i (by omega))).app ha3
        have hc4 : RC I3 b n (.inr (bk b n z.2.2.2)) z.2.2.1 (s + (z.2.1 ++ [(13, 0)]).length) := by rw [hl]; exact hc3
        refine zOk.imp (ih z.2.2.1 z.2.2.2 _ (i + 1) I3 _ k (by omega) z3 (by rw [hl]; omega) (by omega) hT3 hc4) ?_
        rintro v _ ⟨rfl, I', rfl, hf, h⟩
        exact ⟨rfl, I', rfl, hf13.trans hf, PO.app4 ca h⟩
    · refine k_aload f25_77 rfl ?_
      refine k_getr (q := 9) f25_78 hS.o12 rfl hR.r12_0 ?_
      refine k_ldc f25_81 ?_
      refine e_v (as := [.retAddr 2]) (rest := []) f25_83 hS.o9 rfl rfl rfl (s_isWd (d := d + 3) (k := 2) hR hS hT (by omega) hc.1) ?_
      refine k_istore (L' := [.ref 12, .int (dp), .int (bI (wdT b n 2 (.inr (bk b n p)) = true)), .int (nI i), k]) f25_86 rfl rfl ?_
      refine k_iload f25_87 rfl ?_
      refine k_beq f25_88 (fun _ => ?_) (fun h_ => (absurd h_ (hz)))
      refine k_iinc (w := nI (i + 1)) (L' := [.ref 12, .int (dp), .int (bI (wdT b n 2 (.inr (bk b n p)) = true)), .int (nI (i + 1)), k]) f25_98 rfl (nI_1 i) rfl rfl ?_
      refine k_goto f25_101 ?_
      refine k_iload f25_4 rfl ?_
      refine k_iconst (v := 400) f25_5 rfl ?_
      refine k_ic_ge f25_8 (fun h_ => absurd h_ (nI_ge (b := 400) (by omega) (by omega))) (fun _ => ?_)
      refine k_iload f25_11 rfl ?_
      refine k_beq f25_12 (fun _ => ?_) (fun h_ => (absurd h_ (hz)))
      exact k_vret f25_104 ⟨rfl, I, rfl, FC.rfl, by rw [lpW_s, if_neg hz]; exact ⟨hc, CA.nil fun _ => rfl⟩⟩
theorem q_testP {x : Nat × (Nat → Int32)} {d : Nat} {J : Nat → Nat → Int64} {R : Nat → Nat → Option Nat} {G : zG} {b : Nat → Nat} {n : Nat} {P : Nat → Nat → Sum Nat R4} {dp : Int32} (hR : Rs R) (hS : Sh G) (hP : ∀ (m' p' s' : Nat) (I' : Nat → Nat → Int32), p' ≤ n → s' ≤ p' → TP I' b n → RC I' b n (.inr (bk b n p')) m' s' → zOk x (d + 7) 26 0 [.ref 12, .int dp, zU, zU, zU] [] (I', J, R, G) (fun v mm => v = none ∧ ∃ I2, mm = (I2, J, R, G) ∧ FC I' I2 ∧ PO I' I2 b n s' (cR (P m' p')))) (hOk : OkQ n P) {m p s : Nat} {I : Nat → Nat → Int32} (hp : p ≤ n) (hsp : s ≤ p) (hT : TP I b n) (hc : RC I b n (.inr (bk b n p)) m s) : zOk x (d + 8) 25 0 [.ref 12, .int dp, zU, zU, zU] [] (I, J, R, G) (fun v mm => v = none ∧ ∃ I', mm = (I', J, R, G) ∧ FC I I' ∧ PO I I' b n s (cR (fwW wOr 13 (fwW wAnd 12 P b n) b n m p))) := by
  have hm6 := hc.2.2.2.2
  have hO2 : OkQ n (fwW wAnd 12 P b n) := fwW_ok (Or.inl rfl) hOk
  refine k_iconst (v := 1) f25_0 rfl ?_
  refine k_istore (L' := [.ref 12, .int (dp), .int (1), zU, zU]) f25_1 rfl rfl ?_
  refine k_iconst (v := 0) f25_2 rfl ?_
  refine k_istore (L' := [.ref 12, .int (dp), .int (1), .int (0), zU]) f25_3 rfl rfl ?_
  refine k_iload f25_4 rfl ?_
  refine k_iconst (v := 400) f25_5 rfl ?_
  refine k_ic_ge f25_8 (fun h_ => absurd h_ (by decide)) (fun _ => ?_)
  refine k_iload f25_11 rfl ?_
  refine k_if_eq f25_12 (fun h_ => absurd h_ (by decide)) (fun _ => ?_)
  refine q_conjC (m := m) (p := p) hR hS hP hOk hp hsp hT hc fun I1 k hf1 hv1 => ?_
  have hT1 := hf1.tp hT
  rw [show fwW wOr 13 (fwW wAnd 12 P b n) b n m p = bdS (fwW wAnd 12 P b n m p) fun z => bdS (lpW wOr 13 (fwW wAnd 12 P b n) b n 61 z.2.2.1 z.2.2.2) fun y => .inr (z.1 ++ y.1, z.2.1 ++ y.2.1, y.2.2.1, y.2.2.2) from rfl]
  cases hv : fwW wAnd 12 P b n m p with
  | inl e =>
    rw [hv] at hv1
    obtain ⟨m1, s1, hc1⟩ := hv1
    refine zOk.imp (tst_brk (i := 0) hR hS (by omega) hT1 hc1) ?_
    rintro v _ ⟨rfl, I3, rfl, hf3, h3⟩
    exact ⟨rfl, I3, rfl, hf1.trans hf3, h3⟩
  | inr z =>
    rw [hv] at hv1
    obtain ⟨hc1, ha1⟩ := hv1
    obtain ⟨z1, z2, z3, z4, z5, z6, z7⟩ := (hO2 m p hm6 hp).1 z hv
    refine k_iload f25_67 rfl ?_
    refine k_if_le f25_68 (fun _ => ?_) (fun h_ => absurd (by decide) h_)
    refine zOk.imp (lp_or hR hS hP hOk 61 z.2.2.1 z.2.2.2 (s + z.2.1.length) 0 I1 _ k (by omega) z3 (by omega) (by omega) hT1 hc1) ?_
    rintro v _ ⟨rfl, I', rfl, hf, h⟩
    exact ⟨rfl, I', rfl, hf1.trans hf, PO.app4 ha1 h⟩
theorem q_testC {x : Nat × (Nat → Int32)} {d : Nat} {J : Nat → Nat → Int64} {R : Nat → Nat → Option Nat} {G : zG} {b : Nat → Nat} {n : Nat} (hR : Rs R) (hS : Sh G) : ∀ (g dd k m p s : Nat) (I : Nat → Nat → Int32), dd < g → k + dd = 10 → p ≤ n → s ≤ p → TP I b n → RC I b n (.inr (bk b n p)) m s → zOk x (d + 2 * g + 6) 25 0 [.ref 12, .int (nI k), zU, zU, zU] [] (I, J, R, G) (fun v mm => v = none ∧ ∃ I2, mm = (I2, J, R, G) ∧ FC I I2 ∧ PO I I2 b n s (cR (tsF b n g dd m p))) := by
  intro g
  induction g with
  | zero => intro dd k m p s I h; exact absurd h (Nat.not_lt_zero _)
  | succ g ih =>
    intro dd k m p s I hd hk hp hsp hT hc
    rw [tsF_s, show d + 2 * (g + 1) + 6 = d + 2 * g + 8 by omega]
    have hO : ∀ dd', dd' < dd → OkQ n (tsF b n g dd') := fun dd' h => ts_okQ g dd' (by omega)
    exact q_testP (d := d + 2 * g) hR hS (fun m' p' s' I' h1 h2 h3 h4 => q_factC (d := d + 2 * g) hR hS hk (fun dd' k' m' p' s' I' e1 e2 e3 e4 e5 e6 => ih dd' k' m' p' s' I' (by omega) e2 e3 e4 e5 e6) hO h1 h2 h3 h4) (fa_ok hO) hp hsp hT hc
