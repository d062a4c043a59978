/-! RULES, read in the class: facts. -/
def cR : Sum Nat R4 → Sum Nat R3
  | .inl e => .inl e
  | .inr z => .inr (z.2.1, z.2.2.1, z.2.2.2)
theorem CA.l {I I1 I2 : Nat → Nat → Int32} {s : Nat} {o : List It} (h : ∀ i, I1 13 i = I 13 i) (h2 : CA I1 I2 s o) : CA I I2 s o := ⟨fun i hi => (h2.1 i hi).trans (h i), h2.2⟩
theorem CA.r {I I1 I2 : Nat → Nat → Int32} {s : Nat} {o : List It} (h2 : CA I I1 s o) (h : ∀ i, I2 13 i = I1 13 i) : CA I I2 s o := ⟨fun i hi => (h i).trans (h2.1 i hi), fun i hi => (h _).trans (h2.2 i hi)⟩
theorem ed_gt {b : Nat → Nat} {n q : Nat} (hq : q < n) : q < ed b n q ∧ ed b n q ≤ n := by
  refine ⟨?_, (ed_le (by omega)).2⟩
  unfold ed
  split
  · next g => exact wl_lt g
  · split
    · next g => exact dg_lt g
    · split <;> omega
theorem par_a : ∀ a, a < 11 → (nI a - nI a / 2 * 2 = 0 ↔ a % 2 = 0) := by decide +kernel
theorem PO.nil {I I' : Nat → Nat → Int32} {b : Nat → Nat} {n s : Nat} {r : Sum Nat R3} (h : PO I I' b n s r) : PO I I' b n s (bdS r fun z => .inr (z.1 ++ ntL 0, z.2.1, z.2.2)) := by
  cases r with
  | inl e => exact h
  | inr z =>
    show PO I I' b n s (.inr (z.1 ++ [], z.2.1, z.2.2))
    rw [List.append_nil]
    exact h
theorem lp_not {x : Nat × (Nat → Int32)} {d : Nat} {J : Nat → Nat → Int64} {R : Nat → Nat → Option Nat} {G : zG} {b : Nat → Nat} {n : Nat} {Q : Option Value → zM → Prop} {v : Int32} (hR : Rs R) (hS : Sh G) : ∀ (dd k p : Nat) (I : Nat → Nat → Int32), k + dd = 10 → p ≤ n → TP I b n → CX I b n (.inr (bk b n p)) → (∀ I', F9 I I' → CX I' b n (.inr (bk b n (ntQ b n dd p).2)) → zOk x (d + 7) 26 33 [.ref 12, .int v, .int (nI (k + (ntQ b n dd p).1)), zU, zU] [] (I', J, R, G) Q) → zOk x (d + 7) 26 2 [.ref 12, .int v, .int (nI k), zU, zU] [] (I, J, R, G) Q := by
  intro dd
  induction dd with
  | zero =>
    intro k p I hk10 hp hT hc hk
    refine k_iload f26_2 rfl ?_
    refine k_iconst (v := 10) f26_3 rfl ?_
    refine k_ic_ge f26_5 (fun _ => ?_) (fun h_ => absurd (nI_le (a := 10) (by omega) (by omega)) h_)
    exact hk I F9.rfl hc
  | succ dd ih =>
    intro k p I hk10 hp hT hc hk
    have hq := bk_le (b := b) hp
    have e := ntQ_s (b := b) (n := n) (d := dd) (p := p)
    by_cases hn : tkB b n (bk b n p) wNot = true
    · rw [if_pos hn] at e
      rw [e] at hk
      refine k_iload f26_2 rfl ?_
      refine k_iconst (v := 10) f26_3 rfl ?_
      refine k_ic_ge f26_5 (fun h_ => absurd h_ (nI_ge (b := 10) (by omega) (by omega))) (fun _ => ?_)
      refine k_aload f26_8 rfl ?_
      refine k_getr (q := 9) f26_9 hS.o12 rfl hR.r12_0 ?_
      refine k_ldc f26_12 ?_
      refine e_v (as := [.retAddr 3]) (rest := []) f26_14 hS.o9 rfl rfl rfl (s_isWd (d := d + 2) (k := 3) hR hS hT (by omega) hc) ?_
      refine k_beq f26_17 (fun h_ => absurd (hn) h_) (fun _ => ?_)
      refine k_iinc (w := nI (k + 1)) (L' := [.ref 12, .int (v), .int (nI (k + 1)), zU, zU]) f26_20 rfl (nI_1 k) rfl rfl ?_
      refine k_aload f26_23 rfl ?_
      refine k_getr (q := 9) f26_24 hS.o12 rfl hR.r12_0 ?_
      refine k_callv (as := []) (rest := []) f26_27 hS.o9 rfl rfl rfl rfl (q_next hR hS hT hc) ?_
      rintro _ _ ⟨rfl, I1, rfl, ht1, hf1⟩
      rw [nx_wd (tk_iff.mp hn).1] at ht1
      have hT1 := hf1.tp hT
      refine k_goto f26_30 ?_
      refine ih (k + 1) (wl b n (bk b n p)) I1 (by omega) (wl_le hq.2).2 hT1 ht1 fun I' hf h => ?_
      rw [show k + 1 + (ntQ b n dd (wl b n (bk b n p))).1 = k + ((ntQ b n dd (wl b n (bk b n p))).1 + 1) by omega]
      exact hk I' (hf1.trans hf) h
    · rw [if_neg hn] at e
      rw [e] at hk
      refine k_iload f26_2 rfl ?_
      refine k_iconst (v := 10) f26_3 rfl ?_
      refine k_ic_ge f26_5 (fun h_ => absurd h_ (nI_ge (b := 10) (by omega) (by omega))) (fun _ => ?_)
      refine k_aload f26_8 rfl ?_
      refine k_getr (q := 9) f26_9 hS.o12 rfl hR.r12_0 ?_
      refine k_ldc f26_12 ?_
      refine e_v (as := [.retAddr 3]) (rest := []) f26_14 hS.o9 rfl rfl rfl (s_isWd (d := d + 2) (k := 3) hR hS hT (by omega) hc) ?_
      refine k_beq f26_17 (fun _ => ?_) (fun h_ => (absurd h_ (hn)))
      exact hk I F9.rfl hc
theorem fact_end {x : Nat × (Nat → Int32)} {d : Nat} {J : Nat → Nat → Int64} {R : Nat → Nat → Option Nat} {G : zG} {b : Nat → Nat} {n : Nat} {k a s : Nat} {I0 I : Nat → Nat → Int32} {o g : Value} {r0 : Sum Nat R3} (hR : Rs R) (hS : Sh G) (ha : a ≤ 10) (hk : k ≤ 10) (hf : FC I0 I) (hv : PO I0 I b n s r0) (hr : ∀ z, r0 = .inr z → s + z.1.length + a ≤ 400) : zOk x (d + 7) 26 161 [.ref 12, .int (nI k), .int (nI (k + a)), o, g] [] (I, J, R, G) (fun v mm => v = none ∧ ∃ I', mm = (I', J, R, G) ∧ FC I0 I' ∧ PO I0 I' b n s (bdS r0 fun z => .inr (z.1 ++ ntL (a % 2), z.2.1, z.2.2))) := by
  by_cases h2 : a % 2 = 0
  · rw [h2]
    refine k_iload f26_161 rfl ?_
    refine k_iload f26_162 rfl ?_
    refine k_isub f26_163 ?_
    rw [show nI (k + a) - nI k = nI a from by rw [nI_sb (Nat.le_add_right _ _), Nat.add_sub_cancel_left]]
    refine k_iconst (v := 2) f26_164 rfl ?_
    refine k_irem f26_165 (by decide) ?_
    refine k_if_eq f26_166 (fun _ => ?_) (fun h_ => absurd ((par_a a (by omega)).mpr h2) h_)
    exact k_vret f26_175 ⟨rfl, I, rfl, hf, PO.nil hv⟩
  · have h1 : a % 2 = 1 := by omega
    rw [h1]
    cases r0 with
    | inl e =>
      obtain ⟨m1, s1, hc1⟩ := hv
      refine k_iload f26_161 rfl ?_
      refine k_iload f26_162 rfl ?_
      refine k_isub f26_163 ?_
      rw [show nI (k + a) - nI k = nI a from by rw [nI_sb (Nat.le_add_right _ _), Nat.add_sub_cancel_left]]
      refine k_iconst (v := 2) f26_164 rfl ?_
      refine k_irem f26_165 (by decide) ?_
      refine k_if_eq f26_166 (fun h_ => absurd h_ (fun z => h2 ((par_a a (by omega)).mp z))) (fun _ => ?_)
      refine k_aload f26_169 rfl ?_
      refine k_iconst (v := (-21)) f26_170 rfl ?_
      refine k_callv (as := [.int ((-21))]) (rest := []) f26_172 hS.o12 rfl rfl rfl rfl (q_emitB (w := (-21)) hR hS hc1) ?_
      rintro _ _ ⟨rfl, I2, rfl, hf2, s2, hc2⟩
      exact k_vret f26_175 ⟨rfl, I2, rfl, hf.trans hf2, m1, s2, hc2⟩
    | inr z =>
      obtain ⟨hc1, ha1⟩ := hv
      have hrm := hr z rfl
      refine k_iload f26_161 rfl ?_
      refine k_iload f26_162 rfl ?_
      refine k_isub f26_163 ?_
      rw [show nI (k + a) - nI k = nI a from by rw [nI_sb (Nat.le_add_right _ _), Nat.add_sub_cancel_left]]
      refine k_iconst (v := 2) f26_164 rfl ?_
      refine k_irem f26_165 (by decide) ?_
      refine k_if_eq f26_166 (fun h_ => absurd h_ (fun z => h2 ((par_a a (by omega)).mp z))) (fun _ => ?_)
      refine k_aload f26_169 rfl ?_
      refine k_iconst (v := (-21)) f26_170 rfl ?_
      refine k_callv (as := [.int ((-21))]) (rest := []) f26_172 hS.o12 rfl rfl rfl rfl (q_emit (it := (11, 0)) (by decide) hR hS hc1 (by omega)) ?_
      rintro _ _ ⟨rfl, I2, rfl, hf2, hc2, ha2⟩
      exact k_vret f26_175 ⟨rfl, I2, rfl, hf.trans hf2, by show RC I2 b n _ _ (s + (z.1 ++ [(11, 0)]).length); rw [List.length_append]; exact hc2, ha1.app ha2⟩
theorem q_cmpC {x : Nat × (Nat → Int32)} {d : Nat} {J : Nat → Nat → Int64} {R : Nat → Nat → Option Nat} {G : zG} {b : Nat → Nat} {n : Nat} {Q : Option Value → zM → Prop} {m p s : Nat} {I : Nat → Nat → Int32} {a1 a2 : Value} {a3 : Int32} (hR : Rs R) (hS : Sh G) (hp : p ≤ n) (hsp : s ≤ p) (hT : TP I b n) (hc : RC I b n (.inr (bk b n p)) m s) (hk : ∀ I' g, FC I I' → PO I I' b n s (coQ b n m p) → zOk x (d + 7) 26 161 [.ref 12, a1, a2, .int a3, g] [] (I', J, R, G) Q) : zOk x (d + 7) 26 127 [.ref 12, a1, a2, .int a3, zU] [] (I, J, R, G) Q := by
  have hm6 := hc.2.2.2.2
  have h400 := hT.1
  rw [coQ] at hk
  cases hv : suQ b n m p with
  | inl e =>
    rw [bdS_l hv] at hk
    refine k_aload f26_127 rfl ?_
    refine k_callv (as := []) (rest := []) f26_128 hS.o12 rfl rfl rfl rfl (q_sum (d := d) (p := p) hR hS hp hsp hT hc) ?_
    rintro _ _ ⟨rfl, I1, rfl, hf1, hv1⟩
    have hT1 := hf1.tp hT
    rw [hv] at hv1
    obtain ⟨m1, s1, hc1⟩ := hv1
    refine k_aload f26_131 rfl ?_
    refine e_v (as := []) (rest := []) f26_132 hS.o12 rfl rfl rfl (s_cs (d := d + 5) hR hS hT1 hc1) ?_
    refine k_istore (L' := [.ref 12, a1, a2, .int (a3), .int (sgC (csU b n (.inl e)))]) f26_135 rfl rfl ?_
    refine k_aload f26_137 rfl ?_
    refine k_iload f26_138 rfl ?_
    refine k_if_eq f26_140 (fun _ => ?_) (fun h_ => absurd (rfl) h_)
    refine k_iconst (v := 0) f26_147 rfl ?_
    refine k_callv (as := [.int (0)]) (rest := []) f26_148 hS.o12 rfl rfl rfl rfl (q_take0 (d := d + 5) hR hS hT1 hc1) ?_
    rintro _ _ ⟨rfl, I2, rfl, hf2, hs2, hc2⟩
    have hf12 := hf1.trans hf2
    have hT2 := hf12.tp hT
    have hc2 : RC I2 b n (.inl (e)) _ _ := hc2
    refine k_aload f26_151 rfl ?_
    refine k_callv (as := []) (rest := []) f26_152 hS.o12 rfl rfl rfl rfl (q_sumB (d := d) hR hS hT2 hc2) ?_
    rintro _ _ ⟨rfl, I3, rfl, hf3, m3, s3, hc3⟩
    refine k_aload f26_155 rfl ?_
    refine k_iload f26_156 rfl ?_
    refine k_callv (as := [.int (sgC (csU b n (.inl e)))]) (rest := []) f26_158 hS.o12 rfl rfl rfl rfl (q_emitB (w := sgC (csU b n (.inl e))) hR hS hc3) ?_
    rintro _ _ ⟨rfl, I4, rfl, hf4, s4, hc4⟩
    exact hk I4 _ (hf12.trans (hf3.trans hf4)) ⟨m3, s4, hc4⟩
  | inr z =>
    rw [bdS_r hv] at hk
    obtain ⟨z1, z2, z3, z4, z5, z6⟩ := (su_ok (b := b) (n := n) m p hm6 hp).1 z hv
    have hq := bk_le (b := b) z3
    by_cases hz : csS b n (bk b n z.2.2) = 0
    · rw [if_pos hz] at hk
      refine k_aload f26_127 rfl ?_
      refine k_callv (as := []) (rest := []) f26_128 hS.o12 rfl rfl rfl rfl (q_sum (d := d) (p := p) hR hS hp hsp hT hc) ?_
      rintro _ _ ⟨rfl, I1, rfl, hf1, hv1⟩
      have hT1 := hf1.tp hT
      rw [hv] at hv1
      obtain ⟨hc1, ha1⟩ := hv1
      refine k_aload f26_131 rfl ?_
      refine e_v (as := []) (rest := []) f26_132 hS.o12 rfl rfl rfl (s_cs (d := d + 5) hR hS hT1 hc1) ?_
      refine k_istore (L' := [.ref 12, a1, a2, .int (a3), .int (sgC (csU b n (.inr (bk b n z.2.2))))]) f26_135 rfl rfl ?_
      refine k_aload f26_137 rfl ?_
      refine k_iload f26_138 rfl ?_
      refine k_if_eq f26_140 (fun _ => ?_) (fun h_ => absurd ((show sgC (csS b n (bk b n z.2.2)) = 0 from by rw [hz]; rfl)) h_)
      refine k_iconst (v := 0) f26_147 rfl ?_
      refine k_callv (as := [.int (0)]) (rest := []) f26_148 hS.o12 rfl rfl rfl rfl (q_take0 (d := d + 5) hR hS hT1 hc1) ?_
      rintro _ _ ⟨rfl, I2, rfl, hf2, hs2, hc2⟩
      have hf12 := hf1.trans hf2
      have hT2 := hf12.tp hT
      have hc2 : RC I2 b n (.inl (1 + 8 * bk b n z.2.2)) _ _ := hc2
      refine k_aload f26_151 rfl ?_
      refine k_callv (as := []) (rest := []) f26_152 hS.o12 rfl rfl rfl rfl (q_sumB (d := d) hR hS hT2 hc2) ?_
      rintro _ _ ⟨rfl, I3, rfl, hf3, m3, s3, hc3⟩
      refine k_aload f26_155 rfl ?_
      refine k_iload f26_156 rfl ?_
      refine k_callv (as := [.int (sgC (csU b n (.inr (bk b n z.2.2))))]) (rest := []) f26_158 hS.o12 rfl rfl rfl rfl (q_emitB (w := sgC (csU b n (.inr (bk b n z.2.2)))) hR hS hc3) ?_
      rintro _ _ ⟨rfl, I4, rfl, hf4, s4, hc4⟩
      exact hk I4 _ (hf12.trans (hf3.trans hf4)) ⟨m3, s4, hc4⟩
    · rw [if_neg hz] at hk
      obtain ⟨c1, c2, c3, c4⟩ := cs_ok hz
      have nz : ¬ sgC (csU b n (.inr (bk b n z.2.2))) = 0 := sgC_n _ (op_lt c1) hz
      by_cases h6 : 60 ≤ z.2.1
      · rw [if_pos h6] at hk
        refine k_aload f26_127 rfl ?_
        refine k_callv (as := []) (rest := []) f26_128 hS.o12 rfl rfl rfl rfl (q_sum (d := d) (p := p) hR hS hp hsp hT hc) ?_
        rintro _ _ ⟨rfl, I1, rfl, hf1, hv1⟩
        have hT1 := hf1.tp hT
        rw [hv] at hv1
        obtain ⟨hc1, ha1⟩ := hv1
        refine k_aload f26_131 rfl ?_
        refine e_v (as := []) (rest := []) f26_132 hS.o12 rfl rfl rfl (s_cs (d := d + 5) hR hS hT1 hc1) ?_
        refine k_istore (L' := [.ref 12, a1, a2, .int (a3), .int (sgC (csU b n (.inr (bk b n z.2.2))))]) f26_135 rfl rfl ?_
        refine k_aload f26_137 rfl ?_
        refine k_iload f26_138 rfl ?_
        refine k_if_eq f26_140 (fun h_ => absurd h_ (nz)) (fun _ => ?_)
        refine k_iconst (v := 1) f26_143 rfl ?_
        refine k_goto f26_144 ?_
        refine k_callv (as := [.int (1)]) (rest := []) f26_148 hS.o12 rfl rfl rfl rfl (q_take3 (d := d + 5) hR hS hT1 hc1 h6) ?_
        rintro _ _ ⟨rfl, I2, rfl, hf2, hs2, hc2⟩
        have hf12 := hf1.trans hf2
        have hT2 := hf12.tp hT
        have hc2 : RC I2 b n (.inl (1 + 8 * bk b n z.2.2 + 3)) _ _ := hc2
        refine k_aload f26_151 rfl ?_
        refine k_callv (as := []) (rest := []) f26_152 hS.o12 rfl rfl rfl rfl (q_sumB (d := d) hR hS hT2 hc2) ?_
        rintro _ _ ⟨rfl, I3, rfl, hf3, m3, s3, hc3⟩
        refine k_aload f26_155 rfl ?_
        refine k_iload f26_156 rfl ?_
        refine k_callv (as := [.int (sgC (csU b n (.inr (bk b n z.2.2))))]) (rest := []) f26_158 hS.o12 rfl rfl rfl rfl (q_emitB (w := sgC (csU b n (.inr (bk b n z.2.2)))) hR hS hc3) ?_
        rintro _ _ ⟨rfl, I4, rfl, hf4, s4, hc4⟩
        exact hk I4 _ (hf12.trans (hf3.trans hf4)) ⟨m3, s4, hc4⟩
      · rw [if_neg h6] at hk
        have he := ed_gt (b := b) c2
        cases hw : suQ b n (z.2.1 + 1) (ed b n (bk b n z.2.2)) with
        | inl e =>
          rw [bdS_l hw] at hk
          refine k_aload f26_127 rfl ?_
          refine k_callv (as := []) (rest := []) f26_128 hS.o12 rfl rfl rfl rfl (q_sum (d := d) (p := p) hR hS hp hsp hT hc) ?_
          rintro _ _ ⟨rfl, I1, rfl, hf1, hv1⟩
          have hT1 := hf1.tp hT
          rw [hv] at hv1
          obtain ⟨hc1, ha1⟩ := hv1
          refine k_aload f26_131 rfl ?_
          refine e_v (as := []) (rest := []) f26_132 hS.o12 rfl rfl rfl (s_cs (d := d + 5) hR hS hT1 hc1) ?_
          refine k_istore (L' := [.ref 12, a1, a2, .int (a3), .int (sgC (csU b n (.inr (bk b n z.2.2))))]) f26_135 rfl rfl ?_
          refine k_aload f26_137 rfl ?_
          refine k_iload f26_138 rfl ?_
          refine k_if_eq f26_140 (fun h_ => absurd h_ (nz)) (fun _ => ?_)
          refine k_iconst (v := 1) f26_143 rfl ?_
          refine k_goto f26_144 ?_
          refine k_callv (as := [.int (1)]) (rest := []) f26_148 hS.o12 rfl rfl rfl rfl (q_take1 (d := d + 5) hR hS hT1 hc1 (by omega)) ?_
          rintro _ _ ⟨rfl, I2, rfl, hf2, hs2, hc2⟩
          have hf12 := hf1.trans hf2
          have hT2 := hf12.tp hT
          refine k_aload f26_151 rfl ?_
          refine k_callv (as := []) (rest := []) f26_152 hS.o12 rfl rfl rfl rfl (q_sum (d := d) (p := ed b n (bk b n z.2.2)) hR hS he.2 (by omega) hT2 hc2) ?_
          rintro _ _ ⟨rfl, I3, rfl, hf3, hv3⟩
          rw [hw] at hv3
          obtain ⟨m3, s3, hc3⟩ := hv3
          refine k_aload f26_155 rfl ?_
          refine k_iload f26_156 rfl ?_
          refine k_callv (as := [.int (sgC (csU b n (.inr (bk b n z.2.2))))]) (rest := []) f26_158 hS.o12 rfl rfl rfl rfl (q_emitB (w := sgC (csU b n (.inr (bk b n z.2.2)))) hR hS hc3) ?_
          rintro _ _ ⟨rfl, I4, rfl, hf4, s4, hc4⟩
          exact hk I4 _ (hf12.trans (hf3.trans hf4)) ⟨m3, s4, hc4⟩
        | inr w =>
          rw [bdS_r hw] at hk
          obtain ⟨w1, w2, w3, w4, w5, w6⟩ := (su_ok (b := b) (n := n) (z.2.1 + 1) (ed b n (bk b n z.2.2)) (by omega) he.2).1 w hw
          refine k_aload f26_127 rfl ?_
          refine k_callv (as := []) (rest := []) f26_128 hS.o12 rfl rfl rfl rfl (q_sum (d := d) (p := p) hR hS hp hsp hT hc) ?_
          rintro _ _ ⟨rfl, I1, rfl, hf1, hv1⟩
          have hT1 := hf1.tp hT
          rw [hv] at hv1
          obtain ⟨hc1, ha1⟩ := hv1
          refine k_aload f26_131 rfl ?_
          refine e_v (as := []) (rest := []) f26_132 hS.o12 rfl rfl rfl (s_cs (d := d + 5) hR hS hT1 hc1) ?_
          refine k_istore (L' := [.ref 12, a1, a2, .int (a3), .int (sgC (csU b n (.inr (bk b n z.2.2))))]) f26_135 rfl rfl ?_
          refine k_aload f26_137 rfl ?_
          refine k_iload f26_138 rfl ?_
          refine k_if_eq f26_140 (fun h_ => absurd h_ (nz)) (fun _ => ?_)
          refine k_iconst (v := 1) f26_143 rfl ?_
          refine k_goto f26_144 ?_
          refine k_callv (as := [.int (1)]) (rest := []) f26_148 hS.o12 rfl rfl rfl rfl (q_take1 (d := d + 5) hR hS hT1 hc1 (by omega)) ?_
          rintro _ _ ⟨rfl, I2, rfl, hf2, hs2, hc2⟩
          have hf12 := hf1.trans hf2
          have hT2 := hf12.tp hT
          refine k_aload f26_151 rfl ?_
          refine k_callv (as := []) (rest := []) f26_152 hS.o12 rfl rfl rfl rfl (q_sum (d := d) (p := ed b n (bk b n z.2.2)) hR hS he.2 (by omega) hT2 hc2) ?_
          rintro _ _ ⟨rfl, I3, rfl, hf3, hv3⟩
          rw [hw] at hv3
          obtain ⟨hc3, ha3⟩ := hv3
          refine k_aload f26_155 rfl ?_
          refine k_iload f26_156 rfl ?_
          refine k_callv (as := [.int (sgC (csU b n (.inr (bk b n z.2.2))))]) (rest := []) f26_158 hS.o12 rfl rfl rfl rfl (q_emit (it := (csS b n (bk b n z.2.2), 0)) (sgC_e hz) hR hS hc3 (by omega)) ?_
          rintro _ _ ⟨rfl, I4, rfl, hf4, hc4, ha4⟩
          exact hk I4 _ (hf12.trans (hf3.trans hf4)) ⟨by show RC I4 b n _ _ (s + (z.1 ++ (w.1 ++ [(csS b n (bk b n z.2.2), 0)])).length); rw [List.length_append, List.length_append, ← Nat.add_assoc, ← Nat.add_assoc]; exact hc4, (ha1.r hs2).app (by have h := ha3.app ha4; exact h)⟩
theorem q_factC {x : Nat × (Nat → Int32)} {d : Nat} {J : Nat → Nat → Int64} {R : Nat → Nat → Option Nat} {G : zG} {b : Nat → Nat} {n : Nat} {T : Nat → Nat → Nat → Sum Nat R4} {dd k m p s : Nat} {I : Nat → Nat → Int32} (hR : Rs R) (hS : Sh G) (h10 : k + dd = 10) (hTs : ∀ (dd' k' m' p' s' : Nat) (I' : Nat → Nat → Int32), dd' < dd → k' + dd' = 10 → p' ≤ n → s' ≤ p' → TP I' b n → RC I' b n (.inr (bk b n p')) m' s' → zOk x (d + 6) 25 0 [.ref 12, .int (nI k'), zU, zU, zU] [] (I', J, R, G) (fun v mm => v = none ∧ ∃ I2, mm = (I2, J, R, G) ∧ FC I' I2 ∧ PO I' I2 b n s' (cR (T dd' m' p')))) (hOk : ∀ dd', dd' < dd → OkQ n (T dd')) (hp : p ≤ n) (hsp : s ≤ p) (hT : TP I b n) (hc : RC I b n (.inr (bk b n p)) m s) : zOk x (d + 7) 26 0 [.ref 12, .int (nI k), zU, zU, zU] [] (I, J, R, G) (fun v mm => v = none ∧ ∃ I', mm = (I', J, R, G) ∧ FC I I' ∧ PO I I' b n s (cR (faG T b n dd m p))) := by
  have hm6 := hc.2.2.2.2
  have h400 := hT.1
  refine k_iload f26_0 rfl ?_
  refine k_istore (L' := [.ref 12, .int (nI k), .int (nI k), zU, zU]) f26_1 rfl rfl ?_
  refine lp_not hR hS dd k p I h10 hp hT hc.1 fun I1 hf1 ht1 => ?_
  have hc1 := hc.f9 hf1 ht1
  have hT1 := hf1.tp hT
  have hr1 : ∀ i, I1 13 i = I 13 i := fun i => hf1 13 i (by omega)
  unfold faG
  obtain ⟨a1, a2, a3⟩ := nt_ok (b := b) (n := n) dd p hp
  obtain ⟨a, ek⟩ : ∃ a, a = (ntQ b n dd p).1 := ⟨_, rfl⟩
  obtain ⟨p1, ep⟩ : ∃ p1, p1 = (ntQ b n dd p).2 := ⟨_, rfl⟩
  rw [← ek] at a1 a3 ⊢
  rw [← ep] at a2 a3 hc1 ⊢
  have hq := bk_le (b := b) a2
  have e91 : plS 91 := ⟨by omega, by omega, by omega, by omega, by omega⟩
  have e93 : plS 93 := ⟨by omega, by omega, by omega, by omega, by omega⟩
  by_cases c2 : siT b n 91 (.inr (bk b n p1)) = true
  · by_cases c1 : dd - a = 0
    · rw [if_pos ⟨c1, Or.inl c2⟩]
      refine k_aload f26_33 rfl ?_
      refine k_getr (q := 9) f26_34 hS.o12 rfl hR.r12_0 ?_
      refine k_iconst (v := 91) f26_37 rfl ?_
      refine e_v (as := [.int (91)]) (rest := []) f26_39 hS.o9 rfl rfl rfl (s_isSign (c := 91) hS hc1.1 (by omega) hT1) ?_
      refine k_istore (L' := [.ref 12, .int (nI k), .int (nI (k + a)), .int (bI (siT b n 91 (.inr (bk b n p1)) = true)), zU]) f26_42 rfl rfl ?_
      refine k_iload f26_43 rfl ?_
      refine k_iconst (v := 10) f26_44 rfl ?_
      refine k_ic_lt f26_46 (fun h_ => absurd h_ ((fun z => absurd ((nI_ltI (b := 10) (by omega) (by omega)).mp z) (by omega)))) (fun _ => ?_)
      refine k_iload f26_49 rfl ?_
      refine k_bne f26_50 (fun _ => ?_) (fun h_ => absurd (c2) h_)
      refine k_aload f26_65 rfl ?_
      refine k_getr (q := 9) f26_66 hS.o12 rfl hR.r12_0 ?_
      refine k_iconst (v := 2) f26_69 rfl ?_
      refine k_callv (as := [.int (2)]) (rest := []) f26_70 hS.o9 rfl rfl rfl rfl (q_fail (b := b) (n := n) (w := 2) hS hT1.1 (by omega) hc1.1) ?_
      rintro _ _ ⟨rfl, I2, rfl, ht2, hf2⟩
      refine k_goto f26_73 ?_
      exact fact_end (r0 := .inl (1 + 8 * bk b n p1 + 2)) hR hS (by omega) (by omega) (hf1.trans hf2).fc ⟨m, s, hc1.f9 hf2 ht2⟩ (fun z h => by cases h)
    · rw [if_neg (fun z => c1 z.1), if_pos c2]
      have qn := si_lt c2
      cases hv : T (dd - a - 1) m (bk b n p1 + 1) with
      | inl e =>
        refine k_aload f26_33 rfl ?_
        refine k_getr (q := 9) f26_34 hS.o12 rfl hR.r12_0 ?_
        refine k_iconst (v := 91) f26_37 rfl ?_
        refine e_v (as := [.int (91)]) (rest := []) f26_39 hS.o9 rfl rfl rfl (s_isSign (c := 91) hS hc1.1 (by omega) hT1) ?_
        refine k_istore (L' := [.ref 12, .int (nI k), .int (nI (k + a)), .int (bI (siT b n 91 (.inr (bk b n p1)) = true)), zU]) f26_42 rfl rfl ?_
        refine k_iload f26_43 rfl ?_
        refine k_iconst (v := 10) f26_44 rfl ?_
        refine k_ic_lt f26_46 (fun _ => ?_) (fun h_ => absurd (((nI_ltI (b := 10) (by omega) (by omega)).mpr (by omega))) h_)
        refine k_iload f26_76 rfl ?_
        refine k_beq f26_77 (fun h_ => absurd (c2) h_) (fun _ => ?_)
        refine k_aload f26_80 rfl ?_
        refine k_getr (q := 9) f26_81 hS.o12 rfl hR.r12_0 ?_
        refine k_callv (as := []) (rest := []) f26_84 hS.o9 rfl rfl rfl rfl (q_next hR hS hT1 hc1.1) ?_
        rintro _ _ ⟨rfl, I2, rfl, ht2, hf2⟩
        have hT2 := hf2.tp hT1
        have hc2 := hc1.f9 hf2 ht2
        rw [nx_s e91 c2] at hc2
        refine k_aload f26_87 rfl ?_
        refine k_iload f26_88 rfl ?_
        refine k_iconst (v := 1) f26_89 rfl ?_
        refine k_iadd f26_90 ?_
        rw [nI_1 (k + a)]
        refine k_callv (as := [.int (nI (k + a + 1))]) (rest := []) f26_91 hS.o12 rfl rfl rfl rfl (hTs (dd - a - 1) (k + a + 1) m (bk b n p1 + 1) s I2 (by omega) (by omega) (by omega) (by omega) hT2 hc2) ?_
        rintro _ _ ⟨rfl, I3, rfl, hf3, hv3⟩
        have hf13 := (hf1.trans hf2).fc.trans hf3
        have hT3 := hf13.tp hT
        rw [hv] at hv3
        obtain ⟨m3, s3, hc3⟩ := hv3
        refine k_aload f26_94 rfl ?_
        refine k_getr (q := 9) f26_95 hS.o12 rfl hR.r12_0 ?_
        refine k_iconst (v := 93) f26_98 rfl ?_
        refine e_v (as := [.int (93)]) (rest := []) f26_100 hS.o9 rfl rfl rfl (s_isSign (c := 93) hS hc3.1 (by omega) hT3) ?_
        refine k_beq f26_103 (fun _ => ?_) (fun h_ => (absurd h_ ((fun z => by cases z))))
        refine k_aload f26_116 rfl ?_
        refine k_getr (q := 9) f26_117 hS.o12 rfl hR.r12_0 ?_
        refine k_iconst (v := 0) f26_120 rfl ?_
        refine k_callv (as := [.int (0)]) (rest := []) f26_121 hS.o9 rfl rfl rfl rfl (q_fail (b := b) (n := n) (w := 0) hS hT3.1 (by omega) hc3.1) ?_
        rintro _ _ ⟨rfl, I4, rfl, ht4, hf4⟩
        refine k_goto f26_124 ?_
        exact fact_end (r0 := .inl e) hR hS (by omega) (by omega) (hf13.trans hf4.fc) ⟨m3, s3, hc3.f9 hf4 ht4⟩ (fun z h => by cases h)
      | inr z =>
        obtain ⟨z1, z2, z3, z4, z5, z6, z7⟩ := (hOk (dd - a - 1) (by omega) m (bk b n p1 + 1) hm6 (by omega)).1 z hv
        have hz := bk_le (b := b) z3
        rw [bdS_r rfl]
        by_cases c3 : siT b n 93 (.inr (bk b n z.2.2.2)) = true
        · rw [if_pos c3]
          have zn := si_lt c3
          refine k_aload f26_33 rfl ?_
          refine k_getr (q := 9) f26_34 hS.o12 rfl hR.r12_0 ?_
          refine k_iconst (v := 91) f26_37 rfl ?_
          refine e_v (as := [.int (91)]) (rest := []) f26_39 hS.o9 rfl rfl rfl (s_isSign (c := 91) hS hc1.1 (by omega) hT1) ?_
          refine k_istore (L' := [.ref 12, .int (nI k), .int (nI (k + a)), .int (bI (siT b n 91 (.inr (bk b n p1)) = true)), zU]) f26_42 rfl rfl ?_
          refine k_iload f26_43 rfl ?_
          refine k_iconst (v := 10) f26_44 rfl ?_
          refine k_ic_lt f26_46 (fun _ => ?_) (fun h_ => absurd (((nI_ltI (b := 10) (by omega) (by omega)).mpr (by omega))) h_)
          refine k_iload f26_76 rfl ?_
          refine k_beq f26_77 (fun h_ => absurd (c2) h_) (fun _ => ?_)
          refine k_aload f26_80 rfl ?_
          refine k_getr (q := 9) f26_81 hS.o12 rfl hR.r12_0 ?_
          refine k_callv (as := []) (rest := []) f26_84 hS.o9 rfl rfl rfl rfl (q_next hR hS hT1 hc1.1) ?_
          rintro _ _ ⟨rfl, I2, rfl, ht2, hf2⟩
          have hT2 := hf2.tp hT1
          have hc2 := hc1.f9 hf2 ht2
          rw [nx_s e91 c2] at hc2
          refine k_aload f26_87 rfl ?_
          refine k_iload f26_88 rfl ?_
          refine k_iconst (v := 1) f26_89 rfl ?_
          refine k_iadd f26_90 ?_
          rw [nI_1 (k + a)]
          refine k_callv (as := [.int (nI (k + a + 1))]) (rest := []) f26_91 hS.o12 rfl rfl rfl rfl (hTs (dd - a - 1) (k + a + 1) m (bk b n p1 + 1) s I2 (by omega) (by omega) (by omega) (by omega) hT2 hc2) ?_
          rintro _ _ ⟨rfl, I3, rfl, hf3, hv3⟩
          have hf13 := (hf1.trans hf2).fc.trans hf3
          have hT3 := hf13.tp hT
          rw [hv] at hv3
          obtain ⟨hc3, ha3⟩ := hv3
          refine k_aload f26_94 rfl ?_
          refine k_getr (q := 9) f26_95 hS.o12 rfl hR.r12_0 ?_
          refine k_iconst (v := 93) f26_98 rfl ?_
          refine e_v (as := [.int (93)]) (rest := []) f26_100 hS.o9 rfl rfl rfl (s_isSign (c := 93) hS hc3.1 (by omega) hT3) ?_
          refine k_beq f26_103 (fun h_ => absurd (c3) h_) (fun _ => ?_)
          refine k_aload f26_106 rfl ?_
          refine k_getr (q := 9) f26_107 hS.o12 rfl hR.r12_0 ?_
          refine k_callv (as := []) (rest := []) f26_110 hS.o9 rfl rfl rfl rfl (q_next hR hS hT3 hc3.1) ?_
          rintro _ _ ⟨rfl, I4, rfl, ht4, hf4⟩
          have hc4 := hc3.f9 hf4 ht4
          have hc4 : RC I4 b n (nxT b n (.inr (bk b n z.2.2.2))) z.2.2.1 (s + z.2.1.length) := hc4
          rw [nx_s e93 c3] at hc4
          refine k_goto f26_113 ?_
          exact fact_end (r0 := .inr (z.2.1, z.2.2.1, bk b n z.2.2.2 + 1)) hR hS (by omega) (by omega) (hf13.trans hf4.fc) ⟨hc4, ((ha3.l (fun i => hf2 13 i (by omega))).l hr1).r (fun i => hf4 13 i (by omega))⟩ (fun y h => by cases h; show s + z.2.1.length + a ≤ 400; omega)
        · rw [if_neg c3]
          refine k_aload f26_33 rfl ?_
          refine k_getr (q := 9) f26_34 hS.o12 rfl hR.r12_0 ?_
          refine k_iconst (v := 91) f26_37 rfl ?_
          refine e_v (as := [.int (91)]) (rest := []) f26_39 hS.o9 rfl rfl rfl (s_isSign (c := 91) hS hc1.1 (by omega) hT1) ?_
          refine k_istore (L' := [.ref 12, .int (nI k), .int (nI (k + a)), .int (bI (siT b n 91 (.inr (bk b n p1)) = true)), zU]) f26_42 rfl rfl ?_
          refine k_iload f26_43 rfl ?_
          refine k_iconst (v := 10) f26_44 rfl ?_
          refine k_ic_lt f26_46 (fun _ => ?_) (fun h_ => absurd (((nI_ltI (b := 10) (by omega) (by omega)).mpr (by omega))) h_)
          refine k_iload f26_76 rfl ?_
          refine k_beq f26_77 (fun h_ => absurd (c2) h_) (fun _ => ?_)
          refine k_aload f26_80 rfl ?_
          refine k_getr (q := 9) f26_81 hS.o12 rfl hR.r12_0 ?_
          refine k_callv (as := []) (rest := []) f26_84 hS.o9 rfl rfl rfl rfl (q_next hR hS hT1 hc1.1) ?_
          rintro _ _ ⟨rfl, I2, rfl, ht2, hf2⟩
          have hT2 := hf2.tp hT1
          have hc2 := hc1.f9 hf2 ht2
          rw [nx_s e91 c2] at hc2
          refine k_aload f26_87 rfl ?_
          refine k_iload f26_88 rfl ?_
          refine k_iconst (v := 1) f26_89 rfl ?_
          refine k_iadd f26_90 ?_
          rw [nI_1 (k + a)]
          refine k_callv (as := [.int (nI (k + a + 1))]) (rest := []) f26_91 hS.o12 rfl rfl rfl rfl (hTs (dd - a - 1) (k + a + 1) m (bk b n p1 + 1) s I2 (by omega) (by omega) (by omega) (by omega) hT2 hc2) ?_
          rintro _ _ ⟨rfl, I3, rfl, hf3, hv3⟩
          have hf13 := (hf1.trans hf2).fc.trans hf3
          have hT3 := hf13.tp hT
          rw [hv] at hv3
          obtain ⟨hc3, ha3⟩ := hv3
          refine k_aload f26_94 rfl ?_
          refine k_getr (q := 9) f26_95 hS.o12 rfl hR.r12_0 ?_
          refine k_iconst (v := 93) f26_98 rfl ?_
          refine e_v (as := [.int (93)]) (rest := []) f26_100 hS.o9 rfl rfl rfl (s_isSign (c := 93) hS hc3.1 (by omega) hT3) ?_
          refine k_beq f26_103 (fun _ => ?_) (fun h_ => (absurd h_ (c3)))
          refine k_aload f26_116 rfl ?_
          refine k_getr (q := 9) f26_117 hS.o12 rfl hR.r12_0 ?_
          refine k_iconst (v := 0) f26_120 rfl ?_
          refine k_callv (as := [.int (0)]) (rest := []) f26_121 hS.o9 rfl rfl rfl rfl (q_fail (b := b) (n := n) (w := 0) hS hT3.1 (by omega) hc3.1) ?_
          rintro _ _ ⟨rfl, I4, rfl, ht4, hf4⟩
          refine k_goto f26_124 ?_
          exact fact_end (r0 := .inl (1 + 8 * bk b n z.2.2.2)) hR hS (by omega) (by omega) (hf13.trans hf4.fc) ⟨_, _, hc3.f9 hf4 ht4⟩ (fun z h => by cases h)
  · by_cases c1 : dd - a = 0
    · by_cases c3 : tkB b n (bk b n p1) wNot = true
      · rw [if_pos ⟨c1, Or.inr c3⟩]
        refine k_aload f26_33 rfl ?_
        refine k_getr (q := 9) f26_34 hS.o12 rfl hR.r12_0 ?_
        refine k_iconst (v := 91) f26_37 rfl ?_
        refine e_v (as := [.int (91)]) (rest := []) f26_39 hS.o9 rfl rfl rfl (s_isSign (c := 91) hS hc1.1 (by omega) hT1) ?_
        refine k_istore (L' := [.ref 12, .int (nI k), .int (nI (k + a)), .int (bI (siT b n 91 (.inr (bk b n p1)) = true)), zU]) f26_42 rfl rfl ?_
        refine k_iload f26_43 rfl ?_
        refine k_iconst (v := 10) f26_44 rfl ?_
        refine k_ic_lt f26_46 (fun h_ => absurd h_ ((fun z => absurd ((nI_ltI (b := 10) (by omega) (by omega)).mp z) (by omega)))) (fun _ => ?_)
        refine k_iload f26_49 rfl ?_
        refine k_bne f26_50 (fun h_ => absurd h_ (c2)) (fun _ => ?_)
        refine k_aload f26_53 rfl ?_
        refine k_getr (q := 9) f26_54 hS.o12 rfl hR.r12_0 ?_
        refine k_ldc f26_57 ?_
        refine e_v (as := [.retAddr 3]) (rest := []) f26_59 hS.o9 rfl rfl rfl (s_isWd (d := d + 2) (k := 3) hR hS hT1 (by omega) hc1.1) ?_
        refine k_beq f26_62 (fun h_ => absurd (c3) h_) (fun _ => ?_)
        refine k_aload f26_65 rfl ?_
        refine k_getr (q := 9) f26_66 hS.o12 rfl hR.r12_0 ?_
        refine k_iconst (v := 2) f26_69 rfl ?_
        refine k_callv (as := [.int (2)]) (rest := []) f26_70 hS.o9 rfl rfl rfl rfl (q_fail (b := b) (n := n) (w := 2) hS hT1.1 (by omega) hc1.1) ?_
        rintro _ _ ⟨rfl, I2, rfl, ht2, hf2⟩
        refine k_goto f26_73 ?_
        exact fact_end (r0 := .inl (1 + 8 * bk b n p1 + 2)) hR hS (by omega) (by omega) (hf1.trans hf2).fc ⟨m, s, hc1.f9 hf2 ht2⟩ (fun z h => by cases h)
      · rw [if_neg (fun z => z.2.elim c2 c3), if_neg c2]
        refine k_aload f26_33 rfl ?_
        refine k_getr (q := 9) f26_34 hS.o12 rfl hR.r12_0 ?_
        refine k_iconst (v := 91) f26_37 rfl ?_
        refine e_v (as := [.int (91)]) (rest := []) f26_39 hS.o9 rfl rfl rfl (s_isSign (c := 91) hS hc1.1 (by omega) hT1) ?_
        refine k_istore (L' := [.ref 12, .int (nI k), .int (nI (k + a)), .int (bI (siT b n 91 (.inr (bk b n p1)) = true)), zU]) f26_42 rfl rfl ?_
        refine k_iload f26_43 rfl ?_
        refine k_iconst (v := 10) f26_44 rfl ?_
        refine k_ic_lt f26_46 (fun h_ => absurd h_ ((fun z => absurd ((nI_ltI (b := 10) (by omega) (by omega)).mp z) (by omega)))) (fun _ => ?_)
        refine k_iload f26_49 rfl ?_
        refine k_bne f26_50 (fun h_ => absurd h_ (c2)) (fun _ => ?_)
        refine k_aload f26_53 rfl ?_
        refine k_getr (q := 9) f26_54 hS.o12 rfl hR.r12_0 ?_
        refine k_ldc f26_57 ?_
        refine e_v (as := [.retAddr 3]) (rest := []) f26_59 hS.o9 rfl rfl rfl (s_isWd (d := d + 2) (k := 3) hR hS hT1 (by omega) hc1.1) ?_
        refine k_beq f26_62 (fun _ => ?_) (fun h_ => (absurd h_ (c3)))
        refine k_iload f26_76 rfl ?_
        refine k_beq f26_77 (fun _ => ?_) (fun h_ => (absurd h_ (c2)))
        refine q_cmpC (p := p1) hR hS a2 (by omega) hT1 hc1 fun I2 g hf2 hv2 => ?_
        cases hv : coQ b n m p1 with
        | inl e =>
          rw [hv] at hv2
          exact fact_end (r0 := .inl e) hR hS (by omega) (by omega) (hf1.fc.trans hf2) hv2 (fun z h => by cases h)
        | inr z =>
          rw [hv] at hv2
          obtain ⟨z1, z2, z3, z4, z5, z6, z7⟩ := (co_ok (b := b) (n := n) (p := p1) hm6 a2).1 z hv
          have z3 : z.2.2 ≤ n := z3
          have z4 : z.1.length + p1 ≤ z.2.2 := z4
          exact fact_end (r0 := .inr z) hR hS (by omega) (by omega) (hf1.fc.trans hf2) ⟨hv2.1, hv2.2.l hr1⟩ (fun y h => by cases h; omega)
    · rw [if_neg (fun z => c1 z.1), if_neg c2]
      refine k_aload f26_33 rfl ?_
      refine k_getr (q := 9) f26_34 hS.o12 rfl hR.r12_0 ?_
      refine k_iconst (v := 91) f26_37 rfl ?_
      refine e_v (as := [.int (91)]) (rest := []) f26_39 hS.o9 rfl rfl rfl (s_isSign (c := 91) hS hc1.1 (by omega) hT1) ?_
      refine k_istore (L' := [.ref 12, .int (nI k), .int (nI (k + a)), .int (bI (siT b n 91 (.inr (bk b n p1)) = true)), zU]) f26_42 rfl rfl ?_
      refine k_iload f26_43 rfl ?_
      refine k_iconst (v := 10) f26_44 rfl ?_
      refine k_ic_lt f26_46 (fun _ => ?_) (fun h_ => absurd (((nI_ltI (b := 10) (by omega) (by omega)).mpr (by omega))) h_)
      refine k_iload f26_76 rfl ?_
      refine k_beq f26_77 (fun _ => ?_) (fun h_ => (absurd h_ (c2)))
      refine q_cmpC (p := p1) hR hS a2 (by omega) hT1 hc1 fun I2 g hf2 hv2 => ?_
      cases hv : coQ b n m p1 with
      | inl e =>
        rw [hv] at hv2
        exact fact_end (r0 := .inl e) hR hS (by omega) (by omega) (hf1.fc.trans hf2) hv2 (fun z h => by cases h)
      | inr z =>
        rw [hv] at hv2
        obtain ⟨z1, z2, z3, z4, z5, z6, z7⟩ := (co_ok (b := b) (n := n) (p := p1) hm6 a2).1 z hv
        have z3 : z.2.2 ≤ n := z3
        have z4 : z.1.length + p1 ≤ z.2.2 := z4
        exact fact_end (r0 := .inr z) hR hS (by omega) (by omega) (hf1.fc.trans hf2) ⟨hv2.1, hv2.2.l hr1⟩ (fun y h => by cases h; omega)
