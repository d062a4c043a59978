/-! RULES, read in the reference: a line. -/
def RwD (I : Nat → Nat → Int32) (t : Nat) (l : List Cls) : Prop := I 56 t = nI l.length ∧ I 54 t = nI (catD l).length ∧ (∀ i, i < (catD l).length → I 53 (400 * t + i) = eD ((catD l).getD i (0, 0))) ∧ ∀ i, i < l.length → I 55 (36 * t + 3 * i) = nI ((l.getD i cN).1 - 1) ∧ I 55 (36 * t + 3 * i + 1) = nI (catD (l.take i)).length ∧ I 55 (36 * t + 3 * i + 2) = nI (catD (l.take (i + 1))).length
theorem RwD.keep {I I' : Nat → Nat → Int32} {t : Nat} {l : List Cls} (h : RwD I t l) (e : ∀ p k, 53 ≤ p → p ≤ 56 → I' p k = I p k) : RwD I' t l := ⟨(e _ _ (by omega) (by omega)).trans h.1, (e _ _ (by omega) (by omega)).trans h.2.1, fun i hi => (e _ _ (by omega) (by omega)).trans (h.2.2.1 i hi), fun i hi => ⟨(e _ _ (by omega) (by omega)).trans (h.2.2.2 i hi).1, (e _ _ (by omega) (by omega)).trans (h.2.2.2 i hi).2.1, (e _ _ (by omega) (by omega)).trans (h.2.2.2 i hi).2.2⟩⟩
theorem RwD.s {I I1 : Nat → Nat → Int32} {t k : Nat} {l : List Cls} {o1 o2 : List It} (h : RwD I t l) (h56 : I1 56 t = nI (l.length + 1)) (h54 : I1 54 t = nI ((catD l).length + o1.length)) (ha : DA I I1 t (catD l).length o1) (e0 : I1 55 (36 * t + 3 * l.length) = nI (k - 1)) (e1 : I1 55 (36 * t + 3 * l.length + 1) = nI (catD l).length) (e2 : I1 55 (36 * t + 3 * l.length + 2) = nI ((catD l).length + o1.length)) (hk : ∀ j, j < 36 * t + 3 * l.length → I1 55 j = I 55 j) : RwD I1 t (l ++ [(k, o1, o2)]) := by
  obtain ⟨a1, a2, a3, a4⟩ := h
  refine ⟨?_, ?_, fun i hi => ?_, fun i hi => ?_⟩
  · rw [List.length_append]; exact h56
  · rw [catD_a, List.length_append]; exact h54
  · rw [catD_a] at hi ⊢
    by_cases g : i < (catD l).length
    · rw [getD_l g]; exact (ha.1 i g).trans (a3 i g)
    · obtain ⟨j, rfl⟩ : ∃ j, i = (catD l).length + j := ⟨i - (catD l).length, by omega⟩
      rw [getD_r, ← Nat.add_assoc]
      rw [List.length_append] at hi
      exact ha.2 j (by show j < o1.length; have hi : _ < (catD l).length + o1.length := hi; omega)
  · by_cases g : i < l.length
    · rw [gE_l g, tk_l (by omega), tk_l (by omega), hk _ (by omega), hk _ (by omega), hk _ (by omega)]
      exact a4 i g
    · have e : i = l.length := by rw [List.length_append] at hi; have hi : i < l.length + 1 := hi; omega
      subst e
      have e3 := gE_r (a := l) (c := [(k, o1, o2)]) (i := 0)
      rw [Nat.add_zero] at e3
      rw [tk_a, tk_l (Nat.le_refl _), List.take_length, catD_a, List.length_append, e3]
      exact ⟨e0, e1, e2⟩
def RlD (t : Nat) (s : RTt) (I : Nat → Nat → Int32) : Prop := I 51 16 = nI t ∧ I 51 19 = nI s.1.length ∧ I 51 17 = nI s.2.1 ∧ RwD I t s.1
theorem RlD.lx {t : Nat} {s : RTt} {I I' : Nat → Nat → Int32} (h : RlD t s I) (hl : LX I I') : RlD t s I' := ⟨(hl 51 16 (by omega)).trans h.1, (hl 51 19 (by omega)).trans h.2.1, (hl 51 17 (by omega)).trans h.2.2.1, h.2.2.2.keep (fun p k h1 h2 => hl p k (by omega))⟩
theorem RlD.p1 {t : Nat} {s : RTt} {I : Nat → Nat → Int32} (h : RlD t s I) : RlD t s (z_u I 51 1 0) := ⟨(z_u_k _ _ _ (by decide)).trans h.1, (z_u_k _ _ _ (by decide)).trans h.2.1, (z_u_k _ _ _ (by decide)).trans h.2.2.1, h.2.2.2.keep (fun p k h1 h2 => z_u_no _ _ (by omega))⟩
theorem q_clsD {x : Nat × (Nat → Int32)} {d : Nat} {I : Nat → Nat → Int32} {J : Nat → Nat → Int64} {R : Nat → Nat → Option Nat} {G : zG} {b : Nat → Nat} {n t p : Nat} {s : RTt} (hR : Rs R) (hS : Sh G) (ht : t < 6) (hT : TP I b n) (hx : RX I n p) (hw : RlD t s I) (ho : rsO s) (hl : s.2.2 ≤ p) : zOk x (d + 10) 144 0 [.ref 51, zU, zU, zU] [] (I, J, R, G) (fun v mm => ∃ I' w, v = some (.int w) ∧ mm = (I', J, R, G) ∧ FU t I I' ∧ ClG (RlD t) I' n w (clR b n s (bk b n p))) := by
  have h400 := hT.1
  have hp := hx.2.1
  have hq := bk_le (b := b) hp
  have hqq := bk_bk (b := b) hp
  obtain ⟨o1, o2, o3, o4, o5⟩ := ho
  rw [clR]
  by_cases h0 : whT b n 0 (.inr (bk b n p)) = 0
  · rw [if_pos h0]
    refine k_aload f144_0 rfl ?_
    refine k_callv (as := []) (rest := []) f144_1 hS.o51 rfl rfl rfl rfl (q_see hR hS hT hx) ?_
    rintro _ _ ⟨rfl, I1, rfl, hx1, hl1⟩
    have hT1 := hl1.tp hT
    have hw1 := hw.lx hl1
    refine k_popi f144_4 ?_
    refine k_aload f144_5 rfl ?_
    refine k_gI (w := nI (bk b n p)) f144_6 hS.o51 rfl hx1.1 ?_
    refine k_istore (L' := [.ref 51, .int (nI (bk b n p)), zU, zU]) f144_9 rfl rfl ?_
    refine k_aload f144_10 rfl ?_
    refine k_gI (w := nI t) f144_11 hS.o51 rfl hw1.1 ?_
    refine k_iconst (v := 6) f144_14 rfl ?_
    refine k_ic_ne f144_16 (fun _ => ?_) (fun h_ => absurd ((fun z => absurd ((nI_eq (b := 6) (by omega) (by omega)).mp z) (by omega))) h_)
    refine k_iconst (v := 0) f144_23 rfl ?_
    refine k_istore (L' := [.ref 51, .int (nI (bk b n p)), .int (0), zU]) f144_24 rfl rfl ?_
    refine k_iload f144_25 rfl ?_
    refine k_if_eq f144_26 (fun _ => ?_) (fun h_ => absurd (by decide) h_)
    refine k_aload f144_77 rfl ?_
    refine k_callv (as := []) (rest := []) f144_78 hS.o51 rfl rfl rfl rfl (q_srt (d := d + 7) hR hS hT1 hx1 hqq) ?_
    rintro _ _ ⟨rfl, I2, rfl, hx2, hl2⟩
    rw [show wdV (whT b n 0 (.inr (bk b n p))) = -1 from by rw [h0]; rfl]
    have hT2 := hl2.tp hT1
    have hw2 := hw1.lx hl2
    have fu2 : FU t I I2 := (hl1.trans hl2).fu
    refine k_if_lt f144_81 (fun _ => ?_) (fun h_ => absurd (by decide) h_)
    refine k_iconst (v := 0) f144_88 rfl ?_
    refine k_istore (L' := [.ref 51, .int (nI (bk b n p)), .int (0), .int (0)]) f144_89 rfl rfl ?_
    refine k_iload f144_90 rfl ?_
    refine k_if_ne f144_91 (fun h_ => absurd (by decide) h_) (fun _ => ?_)
    refine k_aload f144_94 rfl ?_
    refine k_iconst (v := 0) f144_95 rfl ?_
    refine k_iload f144_96 rfl ?_
    refine e_v (as := [.int (nI (bk b n p)), .int (0)]) (rest := []) f144_97 hS.o51 rfl rfl rfl (s_fails (w := 0) (a := bk b n p) hS hx2.2.2.1) ?_
    exact k_iret f144_100 (by decide) ⟨_, _, rfl, rfl, fu2.put (by omega), rfl, z_u_same _ _ _ _, by omega, by omega⟩
  · rw [if_neg h0]
    have w3 := wh0_le (b := b) (n := n) (q := bk b n p)
    have hL := wh0_isL h0
    have w1 := wl_lt hL
    have w2 := (wl_le (b := b) hq.2).2
    have ew : wdV (whT b n 0 (.inr (bk b n p))) = nI (whT b n 0 (.inr (bk b n p)) - 1) := if_neg h0
    by_cases h1 : 12 ≤ s.1.length
    · rw [if_pos h1]
      refine k_aload f144_0 rfl ?_
      refine k_callv (as := []) (rest := []) f144_1 hS.o51 rfl rfl rfl rfl (q_see hR hS hT hx) ?_
      rintro _ _ ⟨rfl, I1, rfl, hx1, hl1⟩
      have hT1 := hl1.tp hT
      have hw1 := hw.lx hl1
      refine k_popi f144_4 ?_
      refine k_aload f144_5 rfl ?_
      refine k_gI (w := nI (bk b n p)) f144_6 hS.o51 rfl hx1.1 ?_
      refine k_istore (L' := [.ref 51, .int (nI (bk b n p)), zU, zU]) f144_9 rfl rfl ?_
      refine k_aload f144_10 rfl ?_
      refine k_gI (w := nI t) f144_11 hS.o51 rfl hw1.1 ?_
      refine k_iconst (v := 6) f144_14 rfl ?_
      refine k_ic_ne f144_16 (fun _ => ?_) (fun h_ => absurd ((fun z => absurd ((nI_eq (b := 6) (by omega) (by omega)).mp z) (by omega))) h_)
      refine k_iconst (v := 0) f144_23 rfl ?_
      refine k_istore (L' := [.ref 51, .int (nI (bk b n p)), .int (0), zU]) f144_24 rfl rfl ?_
      refine k_iload f144_25 rfl ?_
      refine k_if_eq f144_26 (fun _ => ?_) (fun h_ => absurd (by decide) h_)
      refine k_aload f144_77 rfl ?_
      refine k_callv (as := []) (rest := []) f144_78 hS.o51 rfl rfl rfl rfl (q_srt (d := d + 7) hR hS hT1 hx1 hqq) ?_
      rintro _ _ ⟨rfl, I2, rfl, hx2, hl2⟩
      rw [ew]
      have hT2 := hl2.tp hT1
      have hw2 := hw1.lx hl2
      have fu2 : FU t I I2 := (hl1.trans hl2).fu
      refine k_if_lt f144_81 (fun h_ => absurd h_ (nI_pos (by omega))) (fun _ => ?_)
      refine k_iconst (v := 1) f144_84 rfl ?_
      refine k_goto f144_85 ?_
      refine k_istore (L' := [.ref 51, .int (nI (bk b n p)), .int (0), .int (1)]) f144_89 rfl rfl ?_
      refine k_iload f144_90 rfl ?_
      refine k_if_ne f144_91 (fun _ => ?_) (fun h_ => absurd (by decide) h_)
      refine k_aload f144_101 rfl ?_
      refine k_gI (w := nI s.1.length) f144_102 hS.o51 rfl hw2.2.1 ?_
      refine k_iload f144_105 rfl ?_
      refine k_if_eq f144_106 (fun _ => ?_) (fun h_ => absurd (by decide) h_)
      refine k_iconst (v := 12) f144_114 rfl ?_
      refine k_ic_ne f144_116 (fun h_ => absurd ((by rw [show s.1.length = 12 by omega]; rfl)) h_) (fun _ => ?_)
      refine k_aload f144_119 rfl ?_
      refine k_iconst (v := 4) f144_120 rfl ?_
      refine k_iload f144_121 rfl ?_
      refine e_v (as := [.int (nI (bk b n p)), .int (4)]) (rest := []) f144_122 hS.o51 rfl rfl rfl (s_fails (w := 4) (a := bk b n p) hS hx2.2.2.1) ?_
      exact k_iret f144_125 (by decide) ⟨_, _, rfl, rfl, fu2.put (by omega), rfl, z_u_same _ _ _ _, by omega, by omega⟩
    · rw [if_neg h1]
      have okT := ts_okQ (b := b) (n := n) 11 10 (by omega) s.2.1 (wl b n (bk b n p)) o2 w2
      cases hts : tsF b n 11 10 s.2.1 (wl b n (bk b n p)) with
      | inl e =>
        rw [bdS_l rfl]
        have ee := okT.2 e hts
        refine k_aload f144_0 rfl ?_
        refine k_callv (as := []) (rest := []) f144_1 hS.o51 rfl rfl rfl rfl (q_see hR hS hT hx) ?_
        rintro _ _ ⟨rfl, I1, rfl, hx1, hl1⟩
        have hT1 := hl1.tp hT
        have hw1 := hw.lx hl1
        refine k_popi f144_4 ?_
        refine k_aload f144_5 rfl ?_
        refine k_gI (w := nI (bk b n p)) f144_6 hS.o51 rfl hx1.1 ?_
        refine k_istore (L' := [.ref 51, .int (nI (bk b n p)), zU, zU]) f144_9 rfl rfl ?_
        refine k_aload f144_10 rfl ?_
        refine k_gI (w := nI t) f144_11 hS.o51 rfl hw1.1 ?_
        refine k_iconst (v := 6) f144_14 rfl ?_
        refine k_ic_ne f144_16 (fun _ => ?_) (fun h_ => absurd ((fun z => absurd ((nI_eq (b := 6) (by omega) (by omega)).mp z) (by omega))) h_)
        refine k_iconst (v := 0) f144_23 rfl ?_
        refine k_istore (L' := [.ref 51, .int (nI (bk b n p)), .int (0), zU]) f144_24 rfl rfl ?_
        refine k_iload f144_25 rfl ?_
        refine k_if_eq f144_26 (fun _ => ?_) (fun h_ => absurd (by decide) h_)
        refine k_aload f144_77 rfl ?_
        refine k_callv (as := []) (rest := []) f144_78 hS.o51 rfl rfl rfl rfl (q_srt (d := d + 7) hR hS hT1 hx1 hqq) ?_
        rintro _ _ ⟨rfl, I2, rfl, hx2, hl2⟩
        rw [ew]
        have hT2 := hl2.tp hT1
        have hw2 := hw1.lx hl2
        have fu2 : FU t I I2 := (hl1.trans hl2).fu
        refine k_if_lt f144_81 (fun h_ => absurd h_ (nI_pos (by omega))) (fun _ => ?_)
        refine k_iconst (v := 1) f144_84 rfl ?_
        refine k_goto f144_85 ?_
        refine k_istore (L' := [.ref 51, .int (nI (bk b n p)), .int (0), .int (1)]) f144_89 rfl rfl ?_
        refine k_iload f144_90 rfl ?_
        refine k_if_ne f144_91 (fun _ => ?_) (fun h_ => absurd (by decide) h_)
        refine k_aload f144_101 rfl ?_
        refine k_gI (w := nI s.1.length) f144_102 hS.o51 rfl hw2.2.1 ?_
        refine k_iload f144_105 rfl ?_
        refine k_if_eq f144_106 (fun _ => ?_) (fun h_ => absurd (by decide) h_)
        refine k_iconst (v := 12) f144_114 rfl ?_
        refine k_ic_ne f144_116 (fun _ => ?_) (fun h_ => absurd ((fun z => h1 (by have := (nI_eq (b := 12) (by omega) (by omega)).mp z; omega))) h_)
        refine k_aload f144_126 rfl ?_
        refine k_dup f144_127 ?_
        refine k_gI (w := nI s.1.length) f144_128 hS.o51 rfl hw2.2.1 ?_
        refine k_iconst (v := 1) f144_131 rfl ?_
        refine k_iadd f144_132 ?_
        rw [nI_1 s.1.length]
        refine k_putI f144_133 hS.o51 rfl ?_
        refine k_iload f144_136 rfl ?_
        refine k_if_eq f144_137 (fun _ => ?_) (fun h_ => absurd (by decide) h_)
        refine k_aload f144_148 rfl ?_
        refine k_aload f144_149 rfl ?_
        refine k_callv (as := []) (rest := [.ref 51]) f144_150 hS.o51 rfl rfl rfl rfl (q_srt (d := d + 7) hR hS (hT2.put (by decide) (by decide)) (hx2.put (by omega)) hqq) ?_
        rintro _ _ ⟨rfl, I3, rfl, hx3, hl3⟩
        rw [ew]
        have fu3 : FU t I I3 := (fu2.put (by omega)).trans hl3.fu
        have hT3 := fu3.tp hT
        have hw3 : RwD I3 t s.1 := hw2.2.2.2.keep (fun p k h1 h2 => (hl3 p k (by omega)).trans (z_u_no _ _ (by omega)))
        have hr3 : RT I3 t s.2.1 (catD s.1).length := ⟨(hl3 51 16 (by omega)).trans ((z_u_k _ _ _ (by decide)).trans hw2.1), hw3.2.1, (hl3 51 17 (by omega)).trans ((z_u_k _ _ _ (by decide)).trans hw2.2.2.1), o2⟩
        have k19 : I3 51 19 = nI (s.1.length + 1) := (hl3 51 19 (by omega)).trans (z_u_same _ _ _ _)
        refine k_callv (as := [.int (nI (whT b n 0 (.inr (bk b n p)) - 1))]) (rest := []) f144_153 hS.o51 rfl rfl rfl rfl (q_tstH (d := d) (q := bk b n p) (s0 := whT b n 0 (.inr (bk b n p)) - 1) hR hS ht hL (by omega) (by omega) hT3 hx3 hr3 hw3.1) ?_
        rintro v4 _ ⟨I4, rfl, fu4, hv4⟩
        rw [hts] at hv4
        obtain ⟨rfl, hn4⟩ := hv4
        have fu : FU t I I4 := fu3.trans fu4
        exact k_iret f144_156 (by decide) ⟨_, _, rfl, rfl, fu, rfl, hn4, ee.1, by omega⟩
      | inr z =>
        rw [bdS_r rfl]
        refine k_aload f144_0 rfl ?_
        refine k_callv (as := []) (rest := []) f144_1 hS.o51 rfl rfl rfl rfl (q_see hR hS hT hx) ?_
        rintro _ _ ⟨rfl, I1, rfl, hx1, hl1⟩
        have hT1 := hl1.tp hT
        have hw1 := hw.lx hl1
        refine k_popi f144_4 ?_
        refine k_aload f144_5 rfl ?_
        refine k_gI (w := nI (bk b n p)) f144_6 hS.o51 rfl hx1.1 ?_
        refine k_istore (L' := [.ref 51, .int (nI (bk b n p)), zU, zU]) f144_9 rfl rfl ?_
        refine k_aload f144_10 rfl ?_
        refine k_gI (w := nI t) f144_11 hS.o51 rfl hw1.1 ?_
        refine k_iconst (v := 6) f144_14 rfl ?_
        refine k_ic_ne f144_16 (fun _ => ?_) (fun h_ => absurd ((fun z => absurd ((nI_eq (b := 6) (by omega) (by omega)).mp z) (by omega))) h_)
        refine k_iconst (v := 0) f144_23 rfl ?_
        refine k_istore (L' := [.ref 51, .int (nI (bk b n p)), .int (0), zU]) f144_24 rfl rfl ?_
        refine k_iload f144_25 rfl ?_
        refine k_if_eq f144_26 (fun _ => ?_) (fun h_ => absurd (by decide) h_)
        refine k_aload f144_77 rfl ?_
        refine k_callv (as := []) (rest := []) f144_78 hS.o51 rfl rfl rfl rfl (q_srt (d := d + 7) hR hS hT1 hx1 hqq) ?_
        rintro _ _ ⟨rfl, I2, rfl, hx2, hl2⟩
        rw [ew]
        have hT2 := hl2.tp hT1
        have hw2 := hw1.lx hl2
        have fu2 : FU t I I2 := (hl1.trans hl2).fu
        refine k_if_lt f144_81 (fun h_ => absurd h_ (nI_pos (by omega))) (fun _ => ?_)
        refine k_iconst (v := 1) f144_84 rfl ?_
        refine k_goto f144_85 ?_
        refine k_istore (L' := [.ref 51, .int (nI (bk b n p)), .int (0), .int (1)]) f144_89 rfl rfl ?_
        refine k_iload f144_90 rfl ?_
        refine k_if_ne f144_91 (fun _ => ?_) (fun h_ => absurd (by decide) h_)
        refine k_aload f144_101 rfl ?_
        refine k_gI (w := nI s.1.length) f144_102 hS.o51 rfl hw2.2.1 ?_
        refine k_iload f144_105 rfl ?_
        refine k_if_eq f144_106 (fun _ => ?_) (fun h_ => absurd (by decide) h_)
        refine k_iconst (v := 12) f144_114 rfl ?_
        refine k_ic_ne f144_116 (fun _ => ?_) (fun h_ => absurd ((fun z => h1 (by have := (nI_eq (b := 12) (by omega) (by omega)).mp z; omega))) h_)
        refine k_aload f144_126 rfl ?_
        refine k_dup f144_127 ?_
        refine k_gI (w := nI s.1.length) f144_128 hS.o51 rfl hw2.2.1 ?_
        refine k_iconst (v := 1) f144_131 rfl ?_
        refine k_iadd f144_132 ?_
        rw [nI_1 s.1.length]
        refine k_putI f144_133 hS.o51 rfl ?_
        refine k_iload f144_136 rfl ?_
        refine k_if_eq f144_137 (fun _ => ?_) (fun h_ => absurd (by decide) h_)
        refine k_aload f144_148 rfl ?_
        refine k_aload f144_149 rfl ?_
        refine k_callv (as := []) (rest := [.ref 51]) f144_150 hS.o51 rfl rfl rfl rfl (q_srt (d := d + 7) hR hS (hT2.put (by decide) (by decide)) (hx2.put (by omega)) hqq) ?_
        rintro _ _ ⟨rfl, I3, rfl, hx3, hl3⟩
        rw [ew]
        have fu3 : FU t I I3 := (fu2.put (by omega)).trans hl3.fu
        have hT3 := fu3.tp hT
        have hw3 : RwD I3 t s.1 := hw2.2.2.2.keep (fun p k h1 h2 => (hl3 p k (by omega)).trans (z_u_no _ _ (by omega)))
        have hr3 : RT I3 t s.2.1 (catD s.1).length := ⟨(hl3 51 16 (by omega)).trans ((z_u_k _ _ _ (by decide)).trans hw2.1), hw3.2.1, (hl3 51 17 (by omega)).trans ((z_u_k _ _ _ (by decide)).trans hw2.2.2.1), o2⟩
        have k19 : I3 51 19 = nI (s.1.length + 1) := (hl3 51 19 (by omega)).trans (z_u_same _ _ _ _)
        refine k_callv (as := [.int (nI (whT b n 0 (.inr (bk b n p)) - 1))]) (rest := []) f144_153 hS.o51 rfl rfl rfl rfl (q_tstH (d := d) (q := bk b n p) (s0 := whT b n 0 (.inr (bk b n p)) - 1) hR hS ht hL (by omega) (by omega) hT3 hx3 hr3 hw3.1) ?_
        rintro v4 _ ⟨I4, rfl, fu4, hv4⟩
        rw [hts] at hv4
        obtain ⟨rfl, hx4, hr4, ha4, h56, e0, e1, e2, e19, hk⟩ := hv4
        have fu : FU t I I4 := fu3.trans fu4
        exact k_iret f144_156 (by decide) ⟨_, _, rfl, rfl, fu, rfl, hx4, hr4.1, by rw [e19, k19]; show _ = nI (s.1 ++ [_]).length; rw [List.length_append]; rfl, hr4.2.2.1, RwD.s hw3 h56 hr4.2.1 ha4 e0 e1 e2 hk⟩
