/-! RULES, read in the class: sums. -/
theorem sgC_n : ∀ k, k < 14 → ¬ k = 0 → ¬ sgC k = 0 := by decide +kernel
theorem sgC_e {k : Nat} (h : ¬ k = 0) : sgC k = eC (k, 0) := if_neg h
theorem nx_s {b : Nat → Nat} {n q c : Nat} (hc : plS c) (h : siT b n c (.inr q) = true) : nxT b n (.inr q) = .inr (bk b n (q + 1)) := by
  show (Sum.inr (bk b n (ed b n q)) : Sum Nat Nat) = _
  rw [ed_i hc h]
theorem nx_fs {b : Nat → Nat} {n q : Nat} (h : ¬ fsS b n q = 0) : nxT b n (.inr q) = .inr (bk b n (q + 1)) := by
  unfold fsS at h
  by_cases g1 : siT b n 42 (.inr q) = true
  · exact nx_s ⟨by omega, by omega, by omega, by omega, by omega⟩ g1
  · rw [if_neg g1] at h
    by_cases g2 : siT b n 47 (.inr q) = true
    · exact nx_s ⟨by omega, by omega, by omega, by omega, by omega⟩ g2
    · rw [if_neg g2] at h
      exact absurd rfl h
theorem nx_ts {b : Nat → Nat} {n q : Nat} (h : ¬ tsS b n q = 0) : nxT b n (.inr q) = .inr (bk b n (q + 1)) := by
  unfold tsS at h
  by_cases g1 : siT b n 43 (.inr q) = true
  · exact nx_s ⟨by omega, by omega, by omega, by omega, by omega⟩ g1
  · rw [if_neg g1] at h
    by_cases g2 : siT b n 45 (.inr q) = true
    · exact nx_s ⟨by omega, by omega, by omega, by omega, by omega⟩ g2
    · rw [if_neg g2] at h
      exact absurd rfl h
theorem lp_fac {x : Nat × (Nat → Int32)} {d : Nat} {J : Nat → Nat → Int64} {R : Nat → Nat → Option Nat} {G : zG} {b : Nat → Nat} {n : Nat} {Q : Option Value → zM → Prop} {W Mo : Value} {iv : Int32} (hR : Rs R) (hS : Sh G) : ∀ (f m p s k : Nat) (I : Nat → Nat → Int32), 61 ≤ m + f → p ≤ n → s ≤ p → k ≤ m → TP I b n → RC I b n (.inr (bk b n p)) m s → (∀ I' g k', FC I I' → PO I I' b n s (lpQ (fsS b n) (vaQ b n) b n f m p) → zOk x (d + 6) 27 72 [.ref 12, W, Mo, .int iv, g, k'] [] (I', J, R, G) Q) → zOk x (d + 6) 27 30 [.ref 12, W, Mo, .int iv, .int (sgC (fsS b n (bk b n p))), .int (nI k)] [] (I, J, R, G) Q := by
  intro f
  induction f with
  | zero =>
    intro m p s k I hf hp hsp hkm hT hc hk
    have := hc.2.2.2.2
    omega
  | succ f ih =>
    intro m p s k I hf hp hsp hkm hT hc hk
    have hm6 := hc.2.2.2.2
    have h400 := hT.1
    have hq := bk_le (b := b) hp
    by_cases hz : fsS b n (bk b n p) = 0
    · refine k_iload f27_30 rfl ?_
      refine k_iconst (v := 400) f27_32 rfl ?_
      refine k_ic_ge f27_35 (fun h_ => absurd h_ (nI_ge (b := 400) (by omega) (by omega))) (fun _ => ?_)
      refine k_iload f27_38 rfl ?_
      refine k_if_eq f27_40 (fun _ => ?_) (fun h_ => absurd (by rw [hz]; rfl) h_)
      exact hk I _ _ FC.rfl (by rw [lpQ_s, if_pos hz]; exact ⟨hc, CA.nil fun _ => rfl⟩)
    · obtain ⟨o1, o2⟩ := fs_ok (b := b) (n := n) _ hz
      have nz := sgC_n _ (op_lt o1) hz
      cases hv : vaQ b n m (bk b n p + 1) with
      | inl e =>
        refine k_iload f27_30 rfl ?_
        refine k_iconst (v := 400) f27_32 rfl ?_
        refine k_ic_ge f27_35 (fun h_ => absurd h_ (nI_ge (b := 400) (by omega) (by omega))) (fun _ => ?_)
        refine k_iload f27_38 rfl ?_
        refine k_if_eq f27_40 (fun h_ => absurd h_ (nz)) (fun _ => ?_)
        refine k_aload f27_43 rfl ?_
        refine k_getr (q := 9) f27_44 hS.o12 rfl hR.r12_0 ?_
        refine k_callv (as := []) (rest := []) f27_47 hS.o9 rfl rfl rfl rfl (q_next hR hS hT hc.1) ?_
        rintro _ _ ⟨rfl, I1, rfl, ht1, hf1⟩
        have hT1 := hf1.tp hT
        have hc1 := hc.f9 hf1 ht1
        rw [nx_fs hz] at hc1
        refine k_aload f27_50 rfl ?_
        refine k_callv (as := []) (rest := []) f27_51 hS.o12 rfl rfl rfl rfl (q_value (p := bk b n p + 1) hR hS hT1 (by omega) (by omega) hc1) ?_
        rintro _ _ ⟨rfl, I2, rfl, hf2, hv2⟩
        rw [hv] at hv2
        obtain ⟨m2, s2, hc2⟩ := hv2
        refine k_aload f27_54 rfl ?_
        refine k_iload f27_55 rfl ?_
        refine k_callv (as := [.int (sgC (fsS b n (bk b n p)))]) (rest := []) f27_57 hS.o12 rfl rfl rfl rfl (q_emitB (w := sgC (fsS b n (bk b n p))) hR hS hc2) ?_
        rintro _ _ ⟨rfl, I3, rfl, hf3, s3, hc3⟩
        have hf13 := hf1.fc.trans (hf2.trans hf3)
        have hT3 := hf13.tp hT
        refine k_aload f27_60 rfl ?_
        refine e_v (as := []) (rest := []) f27_61 hS.o12 rfl rfl rfl (s_fs (d := d + 4) hR hS hT3 hc3) ?_
        refine k_istore (L' := [.ref 12, W, Mo, .int (iv), .int (sgC (fsU b n (.inl e))), .int (nI k)]) f27_64 rfl rfl ?_
        refine k_iinc (w := nI (k + 1)) (L' := [.ref 12, W, Mo, .int (iv), .int (sgC (fsU b n (.inl e))), .int (nI (k + 1))]) f27_66 rfl (nI_1 k) rfl rfl ?_
        refine k_goto f27_69 ?_
        refine k_iload f27_30 rfl ?_
        refine k_iconst (v := 400) f27_32 rfl ?_
        refine k_ic_ge f27_35 (fun h_ => absurd h_ (nI_ge (b := 400) (by omega) (by omega))) (fun _ => ?_)
        refine k_iload f27_38 rfl ?_
        refine k_if_eq f27_40 (fun _ => ?_) (fun h_ => absurd (rfl) h_)
        exact hk I3 _ _ hf13 (by rw [lpQ_s, if_neg hz, bdS_l hv]; exact ⟨m2, s3, hc3⟩)
      | inr z =>
        obtain ⟨z1, z2, z3, z4, z5, z6⟩ := (va_ok (b := b) (n := n) m (bk b n p + 1) hm6 (by omega)).1 z hv
        have hl : (z.1 ++ [((fsS b n (bk b n p), 0) : It)]).length = z.1.length + 1 := by rw [List.length_append]; rfl
        refine k_iload f27_30 rfl ?_
        refine k_iconst (v := 400) f27_32 rfl ?_
        refine k_ic_ge f27_35 (fun h_ => absurd h_ (nI_ge (b := 400) (by omega) (by omega))) (fun _ => ?_)
        refine k_iload f27_38 rfl ?_
        refine k_if_eq f27_40 (fun h_ => absurd h_ (nz)) (fun _ => ?_)
        refine k_aload f27_43 rfl ?_
        refine k_getr (q := 9) f27_44 hS.o12 rfl hR.r12_0 ?_
        refine k_callv (as := []) (rest := []) f27_47 hS.o9 rfl rfl rfl rfl (q_next hR hS hT hc.1) ?_
        rintro _ _ ⟨rfl, I1, rfl, ht1, hf1⟩
        have hT1 := hf1.tp hT
        have hc1 := hc.f9 hf1 ht1
        rw [nx_fs hz] at hc1
        refine k_aload f27_50 rfl ?_
        refine k_callv (as := []) (rest := []) f27_51 hS.o12 rfl rfl rfl rfl (q_value (p := bk b n p + 1) hR hS hT1 (by omega) (by omega) hc1) ?_
        rintro _ _ ⟨rfl, I2, rfl, hf2, hv2⟩
        rw [hv] at hv2
        obtain ⟨hc2, ha2⟩ := hv2
        refine k_aload f27_54 rfl ?_
        refine k_iload f27_55 rfl ?_
        refine k_callv (as := [.int (sgC (fsS b n (bk b n p)))]) (rest := []) f27_57 hS.o12 rfl rfl rfl rfl (q_emit (it := (fsS b n (bk b n p), 0)) (sgC_e hz) hR hS hc2 (by omega)) ?_
        rintro _ _ ⟨rfl, I3, rfl, hf3, hc3, ha3⟩
        have hf13 := hf1.fc.trans (hf2.trans hf3)
        have hT3 := hf13.tp hT
        have ca : CA I I3 s (z.1 ++ [(fsS b n (bk b n p), 0)]) := ((CA.nil (fun i => hf1 13 i (by omega))).app ha2).app ha3
        have hc4 : RC I3 b n (.inr (bk b n z.2.2)) z.2.1 (s + (z.1 ++ [(fsS b n (bk b n p), 0)]).length) := by rw [hl]; exact hc3
        refine k_aload f27_60 rfl ?_
        refine e_v (as := []) (rest := []) f27_61 hS.o12 rfl rfl rfl (s_fs (d := d + 4) hR hS hT3 hc3) ?_
        refine k_istore (L' := [.ref 12, W, Mo, .int (iv), .int (sgC (fsU b n (.inr (bk b n z.2.2)))), .int (nI k)]) f27_64 rfl rfl ?_
        refine k_iinc (w := nI (k + 1)) (L' := [.ref 12, W, Mo, .int (iv), .int (sgC (fsU b n (.inr (bk b n z.2.2)))), .int (nI (k + 1))]) f27_66 rfl (nI_1 k) rfl rfl ?_
        refine k_goto f27_69 ?_
        exact ih z.2.1 z.2.2 _ (k + 1) I3 (by omega) z3 (by rw [hl]; omega) (by omega) hT3 hc4 fun I' g k' hf h => hk I' g k' (hf13.trans hf) (by rw [lpQ_s, if_neg hz, bdS_r hv]; exact PO.app ca h)
theorem q_termC {x : Nat × (Nat → Int32)} {d : Nat} {J : Nat → Nat → Int64} {R : Nat → Nat → Option Nat} {G : zG} {b : Nat → Nat} {n : Nat} {Q : Option Value → zM → Prop} {m p s : Nat} {I : Nat → Nat → Int32} {W Mo g k : Value} {iv : Int32} (hR : Rs R) (hS : Sh G) (hp : p ≤ n) (hsp : s ≤ p) (hT : TP I b n) (hc : RC I b n (.inr (bk b n p)) m s) (hk : ∀ I' g k', FC I I' → PO I I' b n s (tmQ b n m p) → zOk x (d + 6) 27 72 [.ref 12, W, Mo, .int iv, g, k'] [] (I', J, R, G) Q) : zOk x (d + 6) 27 17 [.ref 12, W, Mo, .int iv, g, k] [] (I, J, R, G) Q := by
  have hm6 := hc.2.2.2.2
  cases hv : vaQ b n m p with
  | inl e =>
    refine k_aload f27_17 rfl ?_
    refine k_callv (as := []) (rest := []) f27_18 hS.o12 rfl rfl rfl rfl (q_value (p := p) hR hS hT hp hsp hc) ?_
    rintro _ _ ⟨rfl, I1, rfl, hf1, hv1⟩
    have hT1 := hf1.tp hT
    rw [hv] at hv1
    obtain ⟨m1, s1, hc1⟩ := hv1
    refine k_aload f27_21 rfl ?_
    refine e_v (as := []) (rest := []) f27_22 hS.o12 rfl rfl rfl (s_fs (d := d + 4) hR hS hT1 hc1) ?_
    refine k_istore (L' := [.ref 12, W, Mo, .int (iv), .int (sgC (fsU b n (.inl e))), k]) f27_25 rfl rfl ?_
    refine k_iconst (v := 0) f27_27 rfl ?_
    refine k_istore (L' := [.ref 12, W, Mo, .int (iv), .int (sgC (fsU b n (.inl e))), .int (0)]) f27_28 rfl rfl ?_
    refine k_iload f27_30 rfl ?_
    refine k_iconst (v := 400) f27_32 rfl ?_
    refine k_ic_ge f27_35 (fun h_ => absurd h_ (by decide)) (fun _ => ?_)
    refine k_iload f27_38 rfl ?_
    refine k_if_eq f27_40 (fun _ => ?_) (fun h_ => absurd (rfl) h_)
    exact hk I1 _ _ hf1 (by show PO I I1 b n s (fwQ (fsS b n) (vaQ b n) b n m p); rw [fwQ, bdS_l hv]; exact ⟨m1, s1, hc1⟩)
  | inr z =>
    obtain ⟨z1, z2, z3, z4, z5, z6⟩ := (va_ok (b := b) (n := n) m p hm6 hp).1 z hv
    refine k_aload f27_17 rfl ?_
    refine k_callv (as := []) (rest := []) f27_18 hS.o12 rfl rfl rfl rfl (q_value (p := p) hR hS hT hp hsp hc) ?_
    rintro _ _ ⟨rfl, I1, rfl, hf1, hv1⟩
    have hT1 := hf1.tp hT
    rw [hv] at hv1
    obtain ⟨hc1, ha1⟩ := hv1
    refine k_aload f27_21 rfl ?_
    refine e_v (as := []) (rest := []) f27_22 hS.o12 rfl rfl rfl (s_fs (d := d + 4) hR hS hT1 hc1) ?_
    refine k_istore (L' := [.ref 12, W, Mo, .int (iv), .int (sgC (fsU b n (.inr (bk b n z.2.2)))), k]) f27_25 rfl rfl ?_
    refine k_iconst (v := 0) f27_27 rfl ?_
    refine k_istore (L' := [.ref 12, W, Mo, .int (iv), .int (sgC (fsU b n (.inr (bk b n z.2.2)))), .int (0)]) f27_28 rfl rfl ?_
    exact lp_fac hR hS 61 z.2.1 z.2.2 (s + z.1.length) 0 I1 (by omega) z3 (by omega) (by omega) hT1 hc1 fun I' g k' hf h => hk I' g k' (hf1.trans hf) (by show PO I I' b n s (fwQ (fsS b n) (vaQ b n) b n m p); rw [fwQ, bdS_r hv]; exact PO.app ha1 h)
theorem sum_brk {x : Nat × (Nat → Int32)} {d : Nat} {J : Nat → Nat → Int64} {R : Nat → Nat → Option Nat} {G : zG} {b : Nat → Nat} {n : Nat} {m s e i : Nat} {I : Nat → Nat → Int32} {w : Int32} {Mo g k : Value} (hR : Rs R) (hS : Sh G) (hi : i ≤ 61) (hT : TP I b n) (hc : RC I b n (.inl e) m s) : zOk x (d + 6) 27 72 [.ref 12, .int w, Mo, .int (nI i), g, k] [] (I, J, R, G) (fun v mm => v = none ∧ ∃ I', mm = (I', J, R, G) ∧ FC I I' ∧ ∃ m' s', RC I' b n (.inl e) m' s') := by
  refine k_iload f27_72 rfl ?_
  refine k_if_eq f27_73 (fun g0 => ?_) (fun g0 => ?_)
  · refine k_aload f27_81 rfl ?_
    refine e_v (as := []) (rest := []) f27_82 hS.o12 rfl rfl rfl (s_ts (d := d + 4) hR hS hT hc) ?_
    refine k_istore (L' := [.ref 12, .int (sgC (tsU b n (.inl e))), Mo, .int (nI i), g, k]) f27_85 rfl rfl ?_
    refine k_iload f27_86 rfl ?_
    refine k_if_eq f27_87 (fun _ => ?_) (fun h_ => absurd (rfl) h_)
    refine k_iconst (v := 0) f27_94 rfl ?_
    refine k_istore (L' := [.ref 12, .int (sgC (tsU b n (.inl e))), .int (0), .int (nI i), g, k]) f27_95 rfl rfl ?_
    refine k_iload f27_96 rfl ?_
    refine k_if_eq f27_97 (fun _ => ?_) (fun h_ => absurd (by decide) h_)
    refine k_iinc (w := nI (i + 1)) (L' := [.ref 12, .int (sgC (tsU b n (.inl e))), .int (0), .int (nI (i + 1)), g, k]) f27_107 rfl (nI_1 i) rfl rfl ?_
    refine k_goto f27_110 ?_
    refine k_iload f27_6 rfl ?_
    refine k_iconst (v := 400) f27_7 rfl ?_
    refine k_ic_ge f27_10 (fun h_ => absurd h_ (nI_ge (b := 400) (by omega) (by omega))) (fun _ => ?_)
    refine k_iload f27_13 rfl ?_
    refine k_if_eq f27_14 (fun _ => ?_) (fun h_ => absurd (by decide) h_)
    exact k_vret f27_113 ⟨rfl, I, rfl, FC.rfl, m, s, hc⟩
  · refine k_aload f27_76 rfl ?_
    refine k_iload f27_77 rfl ?_
    refine k_callv (as := [.int (w)]) (rest := []) f27_78 hS.o12 rfl rfl rfl rfl (q_emitB (w := w) hR hS hc) ?_
    rintro _ _ ⟨rfl, I1, rfl, hf1, s1, hc1⟩
    have hT1 := hf1.tp hT
    refine k_aload f27_81 rfl ?_
    refine e_v (as := []) (rest := []) f27_82 hS.o12 rfl rfl rfl (s_ts (d := d + 4) hR hS hT1 hc1) ?_
    refine k_istore (L' := [.ref 12, .int (sgC (tsU b n (.inl e))), Mo, .int (nI i), g, k]) f27_85 rfl rfl ?_
    refine k_iload f27_86 rfl ?_
    refine k_if_eq f27_87 (fun _ => ?_) (fun h_ => absurd (rfl) h_)
    refine k_iconst (v := 0) f27_94 rfl ?_
    refine k_istore (L' := [.ref 12, .int (sgC (tsU b n (.inl e))), .int (0), .int (nI i), g, k]) f27_95 rfl rfl ?_
    refine k_iload f27_96 rfl ?_
    refine k_if_eq f27_97 (fun _ => ?_) (fun h_ => absurd (by decide) h_)
    refine k_iinc (w := nI (i + 1)) (L' := [.ref 12, .int (sgC (tsU b n (.inl e))), .int (0), .int (nI (i + 1)), g, k]) f27_107 rfl (nI_1 i) rfl rfl ?_
    refine k_goto f27_110 ?_
    refine k_iload f27_6 rfl ?_
    refine k_iconst (v := 400) f27_7 rfl ?_
    refine k_ic_ge f27_10 (fun h_ => absurd h_ (nI_ge (b := 400) (by omega) (by omega))) (fun _ => ?_)
    refine k_iload f27_13 rfl ?_
    refine k_if_eq f27_14 (fun _ => ?_) (fun h_ => absurd (by decide) h_)
    exact k_vret f27_113 ⟨rfl, I1, rfl, hf1, m, s1, hc1⟩
theorem lp_term {x : Nat × (Nat → Int32)} {d : Nat} {J : Nat → Nat → Int64} {R : Nat → Nat → Option Nat} {G : zG} {b : Nat → Nat} {n : Nat} (hR : Rs R) (hS : Sh G) : ∀ (f m p s i : Nat) (I : Nat → Nat → Int32) (W g k : Value), 61 ≤ m + f → p ≤ n → s ≤ p → i ≤ m → TP I b n → RC I b n (.inr (bk b n p)) m s → zOk x (d + 6) 27 81 [.ref 12, W, .int 1, .int (nI i), g, k] [] (I, J, R, G) (fun v mm => v = none ∧ ∃ I', mm = (I', J, R, G) ∧ FC I I' ∧ PO I I' b n s (lpQ (tsS b n) (tmQ b n) b n f m p)) := by
  intro f
  induction f with
  | zero =>
    intro m p s i I W g k hf hp hsp him hT hc
    have := hc.2.2.2.2
    omega
  | succ f ih =>
    intro m p s i I W g k hf hp hsp him hT hc
    have hm6 := hc.2.2.2.2
    have h400 := hT.1
    have hq := bk_le (b := b) hp
    by_cases hz : tsS b n (bk b n p) = 0
    · refine k_aload f27_81 rfl ?_
      refine e_v (as := []) (rest := []) f27_82 hS.o12 rfl rfl rfl (s_ts (d := d + 4) hR hS hT hc) ?_
      refine k_istore (L' := [.ref 12, .int (sgC (tsU b n (.inr (bk b n p)))), .int (1), .int (nI i), g, k]) f27_85 rfl rfl ?_
      refine k_iload f27_86 rfl ?_
      refine k_if_eq f27_87 (fun _ => ?_) (fun h_ => absurd ((show sgC (tsS b n (bk b n p)) = 0 from by rw [hz]; rfl)) h_)
      refine k_iconst (v := 0) f27_94 rfl ?_
      refine k_istore (L' := [.ref 12, .int (sgC (tsU b n (.inr (bk b n p)))), .int (0), .int (nI i), g, k]) f27_95 rfl rfl ?_
      refine k_iload f27_96 rfl ?_
      refine k_if_eq f27_97 (fun _ => ?_) (fun h_ => absurd (by decide) h_)
      refine k_iinc (w := nI (i + 1)) (L' := [.ref 12, .int (sgC (tsU b n (.inr (bk b n p)))), .int (0), .int (nI (i + 1)), g, k]) f27_107 rfl (nI_1 i) rfl rfl ?_
      refine k_goto f27_110 ?_
      refine k_iload f27_6 rfl ?_
      refine k_iconst (v := 400) f27_7 rfl ?_
      refine k_ic_ge f27_10 (fun h_ => absurd h_ (nI_ge (b := 400) (by omega) (by omega))) (fun _ => ?_)
      refine k_iload f27_13 rfl ?_
      refine k_if_eq f27_14 (fun _ => ?_) (fun h_ => absurd (by decide) h_)
      exact k_vret f27_113 ⟨rfl, I, rfl, FC.rfl, by rw [lpQ_s, if_pos hz]; exact ⟨hc, CA.nil fun _ => rfl⟩⟩
    · obtain ⟨o1, o2⟩ := ts_ok (b := b) (n := n) _ hz
      have nz : ¬ sgC (tsU b n (.inr (bk b n p))) = 0 := sgC_n _ (op_lt o1) hz
      refine k_aload f27_81 rfl ?_
      refine e_v (as := []) (rest := []) f27_82 hS.o12 rfl rfl rfl (s_ts (d := d + 4) hR hS hT hc) ?_
      refine k_istore (L' := [.ref 12, .int (sgC (tsU b n (.inr (bk b n p)))), .int (1), .int (nI i), g, k]) f27_85 rfl rfl ?_
      refine k_iload f27_86 rfl ?_
      refine k_if_eq f27_87 (fun h_ => absurd h_ (nz)) (fun _ => ?_)
      refine k_iconst (v := 1) f27_90 rfl ?_
      refine k_goto f27_91 ?_
      refine k_istore (L' := [.ref 12, .int (sgC (tsU b n (.inr (bk b n p)))), .int (1), .int (nI i), g, k]) f27_95 rfl rfl ?_
      refine k_iload f27_96 rfl ?_
      refine k_if_eq f27_97 (fun h_ => absurd h_ (by decide)) (fun _ => ?_)
      refine k_aload f27_100 rfl ?_
      refine k_getr (q := 9) f27_101 hS.o12 rfl hR.r12_0 ?_
      refine k_callv (as := []) (rest := []) f27_104 hS.o9 rfl rfl rfl rfl (q_next hR hS hT hc.1) ?_
      rintro _ _ ⟨rfl, I1, rfl, ht1, hf1⟩
      have hT1 := hf1.tp hT
      have hc1 := hc.f9 hf1 ht1
      rw [nx_ts hz] at hc1
      refine k_iinc (w := nI (i + 1)) (L' := [.ref 12, .int (sgC (tsU b n (.inr (bk b n p)))), .int (1), .int (nI (i + 1)), g, k]) f27_107 rfl (nI_1 i) rfl rfl ?_
      refine k_goto f27_110 ?_
      refine k_iload f27_6 rfl ?_
      refine k_iconst (v := 400) f27_7 rfl ?_
      refine k_ic_ge f27_10 (fun h_ => absurd h_ (nI_ge (b := 400) (by omega) (by omega))) (fun _ => ?_)
      refine k_iload f27_13 rfl ?_
      refine k_if_eq f27_14 (fun h_ => absurd h_ (by decide)) (fun _ => ?_)
      refine q_termC (m := m) (p := bk b n p + 1) hR hS (by omega) (by omega) hT1 hc1 fun I2 g k hf2 hv2 => ?_
      have hT2 := hf2.tp hT1
      rw [lpQ_s, if_neg hz]
      cases hv : tmQ b n m (bk b n p + 1) with
      | inl e =>
        rw [hv] at hv2
        obtain ⟨m2, s2, hc2⟩ := hv2
        refine zOk.imp (sum_brk hR hS (by omega) hT2 hc2) ?_
        rintro v _ ⟨rfl, I3, rfl, hf3, h3⟩
        exact ⟨rfl, I3, rfl, hf1.fc.trans (hf2.trans hf3), h3⟩
      | inr z =>
        rw [hv] at hv2
        obtain ⟨hc2, ha2⟩ := hv2
        obtain ⟨z1, z2, z3, z4, z5, z6⟩ := (tm_ok (b := b) (n := n) m (bk b n p + 1) hm6 (by omega)).1 z hv
        have hl : (z.1 ++ [((tsS b n (bk b n p), 0) : It)]).length = z.1.length + 1 := by rw [List.length_append]; rfl
        refine k_iload f27_72 rfl ?_
        refine k_if_eq f27_73 (fun h_ => absurd h_ (nz)) (fun _ => ?_)
        refine k_aload f27_76 rfl ?_
        refine k_iload f27_77 rfl ?_
        refine k_callv (as := [.int (sgC (tsU b n (.inr (bk b n p))))]) (rest := []) f27_78 hS.o12 rfl rfl rfl rfl (q_emit (it := (tsS b n (bk b n p), 0)) (sgC_e hz) hR hS hc2 (by omega)) ?_
        rintro _ _ ⟨rfl, I3, rfl, hf3, hc3, ha3⟩
        have hf13 := hf1.fc.trans (hf2.trans hf3)
        have hT3 := hf13.tp hT
        have ca : CA I I3 s (z.1 ++ [(tsS b n (bk b n p), 0)]) := ((CA.nil (fun i => hf1 13 i (by omega))).app ha2).app ha3
        have hc4 : RC I3 b n (.inr (bk b n z.2.2)) z.2.1 (s + (z.1 ++ [(tsS b n (bk b n p), 0)]).length) := by rw [hl]; exact hc3
        refine zOk.imp (ih z.2.1 z.2.2 _ (i + 1) I3 _ g k (by omega) z3 (by rw [hl]; omega) (by omega) hT3 hc4) ?_
        rintro v _ ⟨rfl, I', rfl, hf, h⟩
        exact ⟨rfl, I', rfl, hf13.trans hf, PO.app ca h⟩
theorem q_sum {x : Nat × (Nat → Int32)} {d : Nat} {J : Nat → Nat → Int64} {R : Nat → Nat → Option Nat} {G : zG} {b : Nat → Nat} {n : Nat} {m p s : Nat} {I : Nat → Nat → Int32} (hR : Rs R) (hS : Sh G) (hp : p ≤ n) (hsp : s ≤ p) (hT : TP I b n) (hc : RC I b n (.inr (bk b n p)) m s) : zOk x (d + 6) 27 0 [.ref 12, zU, zU, zU, zU, zU] [] (I, J, R, G) (fun v mm => v = none ∧ ∃ I', mm = (I', J, R, G) ∧ FC I I' ∧ PO I I' b n s (suQ b n m p)) := by
  have hm6 := hc.2.2.2.2
  refine k_iconst (v := 0) f27_0 rfl ?_
  refine k_istore (L' := [.ref 12, .int (0), zU, zU, zU, zU]) f27_1 rfl rfl ?_
  refine k_iconst (v := 1) f27_2 rfl ?_
  refine k_istore (L' := [.ref 12, .int (0), .int (1), zU, zU, zU]) f27_3 rfl rfl ?_
  refine k_iconst (v := 0) f27_4 rfl ?_
  refine k_istore (L' := [.ref 12, .int (0), .int (1), .int (0), zU, zU]) f27_5 rfl rfl ?_
  refine k_iload f27_6 rfl ?_
  refine k_iconst (v := 400) f27_7 rfl ?_
  refine k_ic_ge f27_10 (fun h_ => absurd h_ (by decide)) (fun _ => ?_)
  refine k_iload f27_13 rfl ?_
  refine k_if_eq f27_14 (fun h_ => absurd h_ (by decide)) (fun _ => ?_)
  refine q_termC (m := m) (p := p) hR hS hp hsp hT hc fun I1 g k hf1 hv1 => ?_
  have hT1 := hf1.tp hT
  show zOk x (d + 6) 27 72 _ [] _ (fun v mm => v = none ∧ ∃ I', mm = (I', J, R, G) ∧ FC I I' ∧ PO I I' b n s (fwQ (tsS b n) (tmQ b n) b n m p))
  rw [fwQ]
  cases hv : tmQ b n m p with
  | inl e =>
    rw [hv] at hv1
    obtain ⟨m1, s1, hc1⟩ := hv1
    refine zOk.imp (sum_brk (i := 0) hR hS (by omega) hT1 hc1) ?_
    rintro v _ ⟨rfl, I3, rfl, hf3, h3⟩
    exact ⟨rfl, I3, rfl, hf1.trans hf3, h3⟩
  | inr z =>
    rw [hv] at hv1
    obtain ⟨hc1, ha1⟩ := hv1
    obtain ⟨z1, z2, z3, z4, z5, z6⟩ := (tm_ok (b := b) (n := n) m p hm6 hp).1 z hv
    refine k_iload f27_72 rfl ?_
    refine k_if_eq f27_73 (fun _ => ?_) (fun h_ => absurd (by decide) h_)
    refine zOk.imp (lp_term hR hS 61 z.2.1 z.2.2 _ 0 I1 _ g k (by omega) z3 (by omega) (by omega) hT1 hc1) ?_
    rintro v _ ⟨rfl, I', rfl, hf, h⟩
    exact ⟨rfl, I', rfl, hf1.trans hf, PO.app ha1 h⟩
theorem q_sumB {x : Nat × (Nat → Int32)} {d : Nat} {J : Nat → Nat → Int64} {R : Nat → Nat → Option Nat} {G : zG} {b : Nat → Nat} {n : Nat} {m s e : Nat} {I : Nat → Nat → Int32} (hR : Rs R) (hS : Sh G) (hT : TP I b n) (hc : RC I b n (.inl e) m s) : zOk x (d + 6) 27 0 [.ref 12, zU, zU, zU, zU, zU] [] (I, J, R, G) (fun v mm => v = none ∧ ∃ I', mm = (I', J, R, G) ∧ FC I I' ∧ ∃ m' s', RC I' b n (.inl e) m' s') := by
  refine k_iconst (v := 0) f27_0 rfl ?_
  refine k_istore (L' := [.ref 12, .int (0), zU, zU, zU, zU]) f27_1 rfl rfl ?_
  refine k_iconst (v := 1) f27_2 rfl ?_
  refine k_istore (L' := [.ref 12, .int (0), .int (1), zU, zU, zU]) f27_3 rfl rfl ?_
  refine k_iconst (v := 0) f27_4 rfl ?_
  refine k_istore (L' := [.ref 12, .int (0), .int (1), .int (0), zU, zU]) f27_5 rfl rfl ?_
  refine k_iload f27_6 rfl ?_
  refine k_iconst (v := 400) f27_7 rfl ?_
  refine k_ic_ge f27_10 (fun h_ => absurd h_ (by decide)) (fun _ => ?_)
  refine k_iload f27_13 rfl ?_
  refine k_if_eq f27_14 (fun h_ => absurd h_ (by decide)) (fun _ => ?_)
  refine k_aload f27_17 rfl ?_
  refine k_callv (as := []) (rest := []) f27_18 hS.o12 rfl rfl rfl rfl (q_valueB hR hS hT hc) ?_
  rintro _ _ ⟨rfl, I1, rfl, hf1, m1, s1, hc1⟩
  have hT1 := hf1.tp hT
  refine k_aload f27_21 rfl ?_
  refine e_v (as := []) (rest := []) f27_22 hS.o12 rfl rfl rfl (s_fs (d := d + 4) hR hS hT1 hc1) ?_
  refine k_istore (L' := [.ref 12, .int (0), .int (1), .int (0), .int (sgC (fsU b n (.inl e))), zU]) f27_25 rfl rfl ?_
  refine k_iconst (v := 0) f27_27 rfl ?_
  refine k_istore (L' := [.ref 12, .int (0), .int (1), .int (0), .int (sgC (fsU b n (.inl e))), .int (0)]) f27_28 rfl rfl ?_
  refine k_iload f27_30 rfl ?_
  refine k_iconst (v := 400) f27_32 rfl ?_
  refine k_ic_ge f27_35 (fun h_ => absurd h_ (by decide)) (fun _ => ?_)
  refine k_iload f27_38 rfl ?_
  refine k_if_eq f27_40 (fun _ => ?_) (fun h_ => absurd (rfl) h_)
  refine zOk.imp (sum_brk (i := 0) hR hS (by omega) hT1 hc1) ?_
  rintro v _ ⟨rfl, I3, rfl, hf3, h3⟩
  exact ⟨rfl, I3, rfl, hf1.trans hf3, h3⟩
